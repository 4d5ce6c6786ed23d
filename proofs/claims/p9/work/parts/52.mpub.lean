/-! The reference's public methods. -/
def nno (n : Nat) (v : Int32) : Int32 := if v < 0 then 1 else if v < nI n then 0 else 1
theorem nno_bad {n : Nat} {v : Int32} (h : v < 0 ∨ ¬ v < nI n) : nno n v = 1 := by
  unfold nno
  by_cases h0 : v < 0
  · rw [if_pos h0]
  · rw [if_neg h0, if_neg (h.resolve_left h0)]
theorem nno_ok {n j : Nat} (hn : n ≤ 4) (hj : j < n) : nno n (nI j) = 0 := by
  unfold nno
  rw [if_neg (nI_pos (by omega)), if_pos (nI_lt hj (by omega))]
set_option maxHeartbeats 4000000 in
set_option maxRecDepth 100000 in
theorem c_thrown (l : Launch) (D : va_G) (cI cZ cN cJ : ClassId) (lo : Nat) (b n : Nat) (th : Int32) : hq_M l y_M_thrown b_M_thrown 1 (some .int) TB { frames := 0, cells := 0, slots := 0, locals := 0 } lo D vwCl (TY cI cZ cN cJ) [.ref (b)] (fun U => va_at D vwCl (b, .inr (6, [.int (th), .int (nI n), .ref (b + 1), .ref (b + 2), .ref (b + 3), .ref (b + 4), .ref (b + 5), .ref (b + 6), .ref (b + 7), .ref (b + 8), .ref (b + 9), .ref (b + 10), .ref (b + 11), .ref (b + 12), .ref (b + 13), .ref (b + 14), .ref (b + 15), .ref (b + 16), .ref (b + 17), .ref (b + 18), .ref (b + 19), .ref (b + 20), .ref (b + 21), .ref (b + 22), .ref (b + 23), .ref (b + 24), .ref (b + 25), .ref (b + 26), .ref (b + 27), .ref (b + 28), .ref (b + 29), .ref (b + 30)])) U.heap) (fun H v H' => v = some (.int th) ∧ H' = H) := by
  refine hq_ofW (by decide) (Nat.le_of_ble_eq_true rfl) ?_
  intro p e s m below meth c ls C hml hret hlk hnm hl hP
  have hL : hq_L lo [] := hq_L0
  have hl : lv_has ls 1 [(0, .ref (b))] := hl
  have e0 := hP
  refine lv_aload_n C.1 C.2.1 d_M_thrown_0 rfl (lv_at hl 0 rfl) ?_
  refine hq_get (v := .int (th)) C f_M_105 e0 rfl d_M_thrown_1 ?_
  exact hq_iret C hret hlk (Nat.le_of_ble_eq_true rfl) (Nat.le_of_ble_eq_true rfl) hL ⟨rfl, rfl⟩ d_M_thrown_4
set_option maxHeartbeats 4000000 in
set_option maxRecDepth 100000 in
theorem c_noNode (l : Launch) (D : va_G) (cI cZ cN cJ : ClassId) (lo : Nat) (b n : Nat) (th v : Int32) : hq_M l y_M_noNode b_M_noNode 2 (some .boolean) TB { frames := 0, cells := 0, slots := 0, locals := 0 } lo D vwCl (TY cI cZ cN cJ) [.ref (b), .int (v)] (fun U => va_at D vwCl (b, .inr (6, [.int (th), .int (nI n), .ref (b + 1), .ref (b + 2), .ref (b + 3), .ref (b + 4), .ref (b + 5), .ref (b + 6), .ref (b + 7), .ref (b + 8), .ref (b + 9), .ref (b + 10), .ref (b + 11), .ref (b + 12), .ref (b + 13), .ref (b + 14), .ref (b + 15), .ref (b + 16), .ref (b + 17), .ref (b + 18), .ref (b + 19), .ref (b + 20), .ref (b + 21), .ref (b + 22), .ref (b + 23), .ref (b + 24), .ref (b + 25), .ref (b + 26), .ref (b + 27), .ref (b + 28), .ref (b + 29), .ref (b + 30)])) U.heap) (fun H v9 H' => v9 = some (.int (nno n v)) ∧ H' = H) := by
  refine hq_ofW (by decide) (Nat.le_of_ble_eq_true rfl) ?_
  intro p e s m below meth c ls C hml hret hlk hnm hl hP
  have hL : hq_L lo [] := hq_L0
  have hl : lv_has ls 2 [(0, .ref (b)), (1, .int (v))] := hl
  have e0 := hP
  refine lv_iload_n C.1 C.2.1 d_M_noNode_0 rfl (lv_at hl 1 rfl) ?_
  refine lv_if_lt (tgt := 12) C.1 C.2.1 d_M_noNode_1 (by decide) ?_ ?_
  · intro c0
    refine lv_iconst (v := 1) C.1 C.2.1 d_M_noNode_12 (by decide) ?_
    refine lv_goto (tgt := 17) C.1 C.2.1 d_M_noNode_13 (by decide) ?_
    exact hq_zret C hret hlk (by decide) (Nat.le_of_ble_eq_true rfl) (Nat.le_of_ble_eq_true rfl) hL ⟨by unfold nno; rw [if_pos c0], rfl⟩ d_M_noNode_17
  · intro c0
    refine lv_iload_n C.1 C.2.1 d_M_noNode_4 rfl (lv_at hl 1 rfl) ?_
    refine lv_aload_n C.1 C.2.1 d_M_noNode_5 rfl (lv_at hl 0 rfl) ?_
    refine hq_get (v := .int (nI n)) C f_M_101 e0 rfl d_M_noNode_6 ?_
    refine lv_icmp_lt (tgt := 16) C.1 C.2.1 d_M_noNode_9 (by decide) ?_ ?_
    · intro c1
      refine lv_iconst (v := 0) C.1 C.2.1 d_M_noNode_16 (by decide) ?_
      exact hq_zret C hret hlk (by decide) (Nat.le_of_ble_eq_true rfl) (Nat.le_of_ble_eq_true rfl) hL ⟨by unfold nno; rw [if_neg c0, if_pos c1], rfl⟩ d_M_noNode_17
    · intro c1
      refine lv_iconst (v := 1) C.1 C.2.1 d_M_noNode_12 (by decide) ?_
      refine lv_goto (tgt := 17) C.1 C.2.1 d_M_noNode_13 (by decide) ?_
      exact hq_zret C hret hlk (by decide) (Nat.le_of_ble_eq_true rfl) (Nat.le_of_ble_eq_true rfl) hL ⟨by unfold nno; rw [if_neg c0, if_neg c1], rfl⟩ d_M_noNode_17
theorem in_tt {a : Int32} (h0 : ¬ a < 0) (h7 : a ≤ 7) : vp_in a 8 := by
  obtain ⟨q, hq, e⟩ := nI_of2 (M := 7) (n := 7) (by decide) h0 h7
  rw [e]
  exact vp_in_nI (by omega) (by decide)
theorem in_lv {x a : Int32} {k : Nat} (hk : x = nI k) (hk2 : k < 2 ^ 30) (h0 : ¬ a < 0) (h2 : a < x) : vp_in ((x - a) - (x - a) / 64 * 64) 64 := by
  obtain ⟨q, hq, e⟩ := nI_of h0
  rw [hk, e] at h2
  rw [nI_ltI hq (by omega)] at h2
  rw [hk, e, pk_sub (by omega), show nI (k - q) - nI (k - q) / 64 * 64 = nI ((k - q) % 64) from pk_rem (d := 64) (by omega) (by decide) (by decide)]
  exact vp_in_nI (Nat.mod_lt _ (by decide)) (by decide)
theorem in_ds {x a : Int32} {k j : Nat} (hj : j < 4) (hk : x = nI k) (hk2 : k < 2 ^ 30) (h0 : ¬ a < 1) (h2 : a ≤ 200) : vp_in ((256 * (nI j)) + ((x + a) - (x + a) / 256 * 256)) 1024 := by
  have h00 : ¬ a < 0 := fun h => h0 (Int32.lt_trans h (by decide))
  obtain ⟨q, hq, e⟩ := nI_of2 (M := 200) (n := 200) (by decide) h00 h2
  have hm : (k + q) % 256 < 256 := Nat.mod_lt _ (by decide)
  rw [hk, e, nI_add, show nI (k + q) - nI (k + q) / 256 * 256 = nI ((k + q) % 256) from pk_rem (d := 256) (by omega) (by decide) (by decide), show (256 : Int32) * nI j = nI (256 * j) from pk_mul 256 j, nI_add]
  exact vp_in_nI (by omega) (by decide)
theorem sh1_0 : ∀ (d i : Nat) (A : Nat → Nat → Int32), sh1 d i A 0 0 = A 0 0 := by
  intro d
  induction d with
  | zero => intro i A; rfl
  | succ d ih => intro i A; exact ih (i + 1) _
theorem el_iff {a : Int32} : ¬ el a = 0 ↔ ¬ a < 0 ∧ ¬ (2047 : Int32) < a := by
  unfold el
  by_cases h0 : a < 0
  · rw [if_pos h0]; exact ⟨fun h => absurd rfl h, fun h => absurd h0 h.1⟩
  · rw [if_neg h0]
    by_cases h1 : (2047 : Int32) < a
    · rw [if_pos h1]; exact ⟨fun h => absurd rfl h, fun h => absurd h1 h.2⟩
    · rw [if_neg h1]; exact ⟨fun _ => ⟨h0, h1⟩, fun _ => by decide⟩
theorem ix40 (j : Nat) : (4 : Int32) * nI j = nI (4 * j) := pk_mul 4 j
theorem bx_dn {A : Nat → Nat → Int32} {j : Nat} (ok : okA A) (hj : j < 4) (hw : ¬ A 14 j = 0) : 0 < bn A j ∧ A 14 j - 1 = nI (bn A j - 1) := by
  obtain ⟨hw4, hwe⟩ := bn_eq ok hj
  have hp : 0 < bn A j := Nat.pos_of_ne_zero (fun h => hw (hwe.trans ((congrArg nI h).trans nI_0)))
  refine ⟨hp, ?_⟩
  have h2 := fr_pred hp
  rw [← hwe] at h2
  exact h2
def f_M_request (A : Nat → Nat → Int32) (j : Nat) (a g d : Int32) : (Nat → Nat → Int32) × Int32 × Int32 := if a < 0 then ((A, 1, 0)) else (if 2047 < a then ((A, 1, 0)) else (if g < 0 then ((A, 1, 0)) else (if 2 < g then ((A, 1, 0)) else (if d < 0 then ((A, 1, 0)) else (if d < (1 <<< ((8 * g) &&& 31)) then (if (A 9 j) = 4 then ((A, 2, 0)) else (if (A 3 j) = 7 then ((A, 2, 0)) else (((setA (setA (setA (setA A 10 (upd (A 10) ((4 * (nI j)) + (A 9 j)).toNatClampNeg a)) 11 (upd (A 11) ((4 * (nI j)) + (A 9 j)).toNatClampNeg g)) 12 (upd (A 12) ((4 * (nI j)) + (A 9 j)).toNatClampNeg d)) 9 (upd (A 9) j ((A 9 j) + 1))), 0, (A 9 j) + 1)))) else ((A, 1, 0)))))))
set_option maxHeartbeats 4000000 in
set_option maxRecDepth 100000 in
theorem c_M_request (l : Launch) (D : va_G) (cI cZ cN cJ : ClassId) (lo : Nat) (b n : Nat) (hlo : lo ≤ b) (th : Int32) (A : Nat → Nat → Int32) (j : Nat) (hj : j < 4) (a g d : Int32) (hn : n ≤ 4) (hjn : j < n) (ok : okA A) : hq_M l y_M_request b_M_request 7 (some .int) TB { frames := 1, cells := 0, slots := 0, locals := 25 } lo D vwCl (TY cI cZ cN cJ) [.ref (b), .int (nI j), .int (a), .int (g), .int (d)] (fun U => hq_B D vwCl b 31 (mdC cI cZ b th (nI n) A) U.heap) (fun H v9 H' => v9 = some (.int (f_M_request A j a g d).2.2) ∧ hq_B D vwCl b 31 (mdC cI cZ b ((f_M_request A j a g d).2.1) (nI n) (f_M_request A j a g d).1) H' ∧ hq_S b 31 H H') := by
  refine hq_ofW (by decide) (Nat.le_of_ble_eq_true rfl) ?_
  intro p e s m below meth c ls C hml hret hlk hnm hl hP
  have hL : hq_L lo [] := hq_L0
  have hl : lv_has ls 7 [(0, .ref (b)), (1, .int (nI j)), (2, .int (a)), (3, .int (g)), (4, .int (d))] := hl
  have hM : hq_B D vwCl b 31 (mdC cI cZ b th (nI n) A) s.heap := hP
  have k0 : va_at D vwCl (b, .inr (6, [.int (th), .int (nI n), .ref (b + 1), .ref (b + 2), .ref (b + 3), .ref (b + 4), .ref (b + 5), .ref (b + 6), .ref (b + 7), .ref (b + 8), .ref (b + 9), .ref (b + 10), .ref (b + 11), .ref (b + 12), .ref (b + 13), .ref (b + 14), .ref (b + 15), .ref (b + 16), .ref (b + 17), .ref (b + 18), .ref (b + 19), .ref (b + 20), .ref (b + 21), .ref (b + 22), .ref (b + 23), .ref (b + 24), .ref (b + 25), .ref (b + 26), .ref (b + 27), .ref (b + 28), .ref (b + 29), .ref (b + 30)])) s.heap := hM 0 (by decide)
  refine lv_aload_n C.1 C.2.1 d_M_request_0 rfl (lv_at hl 0 rfl) ?_
  refine lv_iload_n C.1 C.2.1 d_M_request_1 rfl (lv_at hl 1 rfl) ?_
  refine hq_callV (lo := lo) (As := [.int (nI j)]) (rest := []) C tb_good hml Y_M_108 (c_noNode l D cI cZ cN cJ lo b n th (nI j)) k0 rfl (fun _ _ _ _ h => h) (fun U hU hW => by show va_at D vwCl (b, .inr (6, [.int (th), .int (nI n), .ref (b + 1), .ref (b + 2), .ref (b + 3), .ref (b + 4), .ref (b + 5), .ref (b + 6), .ref (b + 7), .ref (b + 8), .ref (b + 9), .ref (b + 10), .ref (b + 11), .ref (b + 12), .ref (b + 13), .ref (b + 14), .ref (b + 15), .ref (b + 16), .ref (b + 17), .ref (b + 18), .ref (b + 19), .ref (b + 20), .ref (b + 21), .ref (b + 22), .ref (b + 23), .ref (b + 24), .ref (b + 25), .ref (b + 26), .ref (b + 27), .ref (b + 28), .ref (b + 29), .ref (b + 30)])) U.heap; rw [hU]; exact k0) hL hl.1 rfl rfl ⟨⟨Nat.le_of_ble_eq_true rfl, Nat.le_of_ble_eq_true rfl⟩, Nat.le_of_ble_eq_true rfl, Nat.le_of_ble_eq_true rfl⟩ (Nat.le_of_ble_eq_true rfl) d_M_request_2 (fun v H41 locs hp hL => ?_)
  obtain ⟨rfl, rfl⟩ := hp
  refine W.eq (g2 := F0 m 5 ls [.int (nno n (nI j))]) rfl ?_
  rw [nno_ok hn hjn]
  refine lv_if_ne (tgt := 44) C.1 C.2.1 d_M_request_5 (by decide) (fun hn => absurd hn (by decide)) (fun _ => ?_)
  refine lv_iload_n C.1 C.2.1 d_M_request_8 rfl (lv_at hl 2 rfl) ?_
  refine lv_if_lt (tgt := 44) C.1 C.2.1 d_M_request_9 (by decide) ?_ ?_
  · intro c42
    refine lv_iconst (v := 1) C.1 C.2.1 d_M_request_44 (by decide) ?_
    refine lv_goto (tgt := 49) C.1 C.2.1 d_M_request_45 (by decide) ?_
    refine lv_istore C.1 C.2.1 d_M_request_49 hl (by decide) rfl (lv' := [(5, .int (1)), (0, .ref (b)), (1, .int (nI j)), (2, .int (a)), (3, .int (g)), (4, .int (d))]) (fun ls hl => ?_)
    refine lv_aload_n C.1 C.2.1 d_M_request_51 rfl (lv_at hl 1 rfl) ?_
    refine lv_iload C.1 C.2.1 d_M_request_52 (lv_at hl 0 rfl) ?_
    refine lv_if_eq (tgt := 61) C.1 C.2.1 d_M_request_54 (by decide) (fun hn => absurd hn (by decide)) (fun _ => ?_)
    refine lv_iconst (v := 1) C.1 C.2.1 d_M_request_57 (by decide) ?_
    refine lv_goto (tgt := 87) C.1 C.2.1 d_M_request_58 (by decide) ?_
    refine hq_put (lo := lo) C f_M_105 k0 rfl rfl (Nat.le_of_ble_eq_true rfl) hL (by omega) d_M_request_87 (fun H43 locs u44 hL => ?_)
    have m45 := md_thr (th2 := 1) hM u44
    have k0 : va_at D vwCl (b, .inr (6, [.int (1), .int (nI n), .ref (b + 1), .ref (b + 2), .ref (b + 3), .ref (b + 4), .ref (b + 5), .ref (b + 6), .ref (b + 7), .ref (b + 8), .ref (b + 9), .ref (b + 10), .ref (b + 11), .ref (b + 12), .ref (b + 13), .ref (b + 14), .ref (b + 15), .ref (b + 16), .ref (b + 17), .ref (b + 18), .ref (b + 19), .ref (b + 20), .ref (b + 21), .ref (b + 22), .ref (b + 23), .ref (b + 24), .ref (b + 25), .ref (b + 26), .ref (b + 27), .ref (b + 28), .ref (b + 29), .ref (b + 30)])) H43 := m45 0 (by decide)
    refine lv_aload_n C.1 C.2.1 d_M_request_90 rfl (lv_at hl 1 rfl) ?_
    refine hq_get (v := .int (1)) C f_M_105 k0 rfl d_M_request_91 ?_
    refine lv_if_eq (tgt := 99) C.1 C.2.1 d_M_request_94 (by decide) (fun hn => absurd hn (by decide)) (fun _ => ?_)
    refine lv_iconst (v := 0) C.1 C.2.1 d_M_request_97 (by decide) ?_
    have hf : f_M_request A j a g d = (A, 1, 0) := by unfold f_M_request; rw [if_pos c42]
    exact hq_iret C hret hlk (Nat.le_of_ble_eq_true rfl) (Nat.le_of_ble_eq_true rfl) hL ⟨by rw [hf], by rw [hf]; exact m45, hq_Sput (hq_S0) u44 (by omega) (by omega)⟩ d_M_request_98
  · intro c42
    refine lv_iload_n C.1 C.2.1 d_M_request_12 rfl (lv_at hl 2 rfl) ?_
    refine lv_sipush (v := 2047) C.1 C.2.1 d_M_request_13 (by decide) ?_
    refine lv_icmp_gt (tgt := 44) C.1 C.2.1 d_M_request_16 (by decide) ?_ ?_
    · intro c46
      refine lv_iconst (v := 1) C.1 C.2.1 d_M_request_44 (by decide) ?_
      refine lv_goto (tgt := 49) C.1 C.2.1 d_M_request_45 (by decide) ?_
      refine lv_istore C.1 C.2.1 d_M_request_49 hl (by decide) rfl (lv' := [(5, .int (1)), (0, .ref (b)), (1, .int (nI j)), (2, .int (a)), (3, .int (g)), (4, .int (d))]) (fun ls hl => ?_)
      refine lv_aload_n C.1 C.2.1 d_M_request_51 rfl (lv_at hl 1 rfl) ?_
      refine lv_iload C.1 C.2.1 d_M_request_52 (lv_at hl 0 rfl) ?_
      refine lv_if_eq (tgt := 61) C.1 C.2.1 d_M_request_54 (by decide) (fun hn => absurd hn (by decide)) (fun _ => ?_)
      refine lv_iconst (v := 1) C.1 C.2.1 d_M_request_57 (by decide) ?_
      refine lv_goto (tgt := 87) C.1 C.2.1 d_M_request_58 (by decide) ?_
      refine hq_put (lo := lo) C f_M_105 k0 rfl rfl (Nat.le_of_ble_eq_true rfl) hL (by omega) d_M_request_87 (fun H47 locs u48 hL => ?_)
      have m49 := md_thr (th2 := 1) hM u48
      have k0 : va_at D vwCl (b, .inr (6, [.int (1), .int (nI n), .ref (b + 1), .ref (b + 2), .ref (b + 3), .ref (b + 4), .ref (b + 5), .ref (b + 6), .ref (b + 7), .ref (b + 8), .ref (b + 9), .ref (b + 10), .ref (b + 11), .ref (b + 12), .ref (b + 13), .ref (b + 14), .ref (b + 15), .ref (b + 16), .ref (b + 17), .ref (b + 18), .ref (b + 19), .ref (b + 20), .ref (b + 21), .ref (b + 22), .ref (b + 23), .ref (b + 24), .ref (b + 25), .ref (b + 26), .ref (b + 27), .ref (b + 28), .ref (b + 29), .ref (b + 30)])) H47 := m49 0 (by decide)
      refine lv_aload_n C.1 C.2.1 d_M_request_90 rfl (lv_at hl 1 rfl) ?_
      refine hq_get (v := .int (1)) C f_M_105 k0 rfl d_M_request_91 ?_
      refine lv_if_eq (tgt := 99) C.1 C.2.1 d_M_request_94 (by decide) (fun hn => absurd hn (by decide)) (fun _ => ?_)
      refine lv_iconst (v := 0) C.1 C.2.1 d_M_request_97 (by decide) ?_
      have hf : f_M_request A j a g d = (A, 1, 0) := by unfold f_M_request; rw [if_neg c42, if_pos c46]
      exact hq_iret C hret hlk (Nat.le_of_ble_eq_true rfl) (Nat.le_of_ble_eq_true rfl) hL ⟨by rw [hf], by rw [hf]; exact m49, hq_Sput (hq_S0) u48 (by omega) (by omega)⟩ d_M_request_98
    · intro c46
      refine lv_iload_n C.1 C.2.1 d_M_request_19 rfl (lv_at hl 3 rfl) ?_
      refine lv_if_lt (tgt := 44) C.1 C.2.1 d_M_request_20 (by decide) ?_ ?_
      · intro c50
        refine lv_iconst (v := 1) C.1 C.2.1 d_M_request_44 (by decide) ?_
        refine lv_goto (tgt := 49) C.1 C.2.1 d_M_request_45 (by decide) ?_
        refine lv_istore C.1 C.2.1 d_M_request_49 hl (by decide) rfl (lv' := [(5, .int (1)), (0, .ref (b)), (1, .int (nI j)), (2, .int (a)), (3, .int (g)), (4, .int (d))]) (fun ls hl => ?_)
        refine lv_aload_n C.1 C.2.1 d_M_request_51 rfl (lv_at hl 1 rfl) ?_
        refine lv_iload C.1 C.2.1 d_M_request_52 (lv_at hl 0 rfl) ?_
        refine lv_if_eq (tgt := 61) C.1 C.2.1 d_M_request_54 (by decide) (fun hn => absurd hn (by decide)) (fun _ => ?_)
        refine lv_iconst (v := 1) C.1 C.2.1 d_M_request_57 (by decide) ?_
        refine lv_goto (tgt := 87) C.1 C.2.1 d_M_request_58 (by decide) ?_
        refine hq_put (lo := lo) C f_M_105 k0 rfl rfl (Nat.le_of_ble_eq_true rfl) hL (by omega) d_M_request_87 (fun H51 locs u52 hL => ?_)
        have m53 := md_thr (th2 := 1) hM u52
        have k0 : va_at D vwCl (b, .inr (6, [.int (1), .int (nI n), .ref (b + 1), .ref (b + 2), .ref (b + 3), .ref (b + 4), .ref (b + 5), .ref (b + 6), .ref (b + 7), .ref (b + 8), .ref (b + 9), .ref (b + 10), .ref (b + 11), .ref (b + 12), .ref (b + 13), .ref (b + 14), .ref (b + 15), .ref (b + 16), .ref (b + 17), .ref (b + 18), .ref (b + 19), .ref (b + 20), .ref (b + 21), .ref (b + 22), .ref (b + 23), .ref (b + 24), .ref (b + 25), .ref (b + 26), .ref (b + 27), .ref (b + 28), .ref (b + 29), .ref (b + 30)])) H51 := m53 0 (by decide)
        refine lv_aload_n C.1 C.2.1 d_M_request_90 rfl (lv_at hl 1 rfl) ?_
        refine hq_get (v := .int (1)) C f_M_105 k0 rfl d_M_request_91 ?_
        refine lv_if_eq (tgt := 99) C.1 C.2.1 d_M_request_94 (by decide) (fun hn => absurd hn (by decide)) (fun _ => ?_)
        refine lv_iconst (v := 0) C.1 C.2.1 d_M_request_97 (by decide) ?_
        have hf : f_M_request A j a g d = (A, 1, 0) := by unfold f_M_request; rw [if_neg c42, if_neg c46, if_pos c50]
        exact hq_iret C hret hlk (Nat.le_of_ble_eq_true rfl) (Nat.le_of_ble_eq_true rfl) hL ⟨by rw [hf], by rw [hf]; exact m53, hq_Sput (hq_S0) u52 (by omega) (by omega)⟩ d_M_request_98
      · intro c50
        refine lv_iload_n C.1 C.2.1 d_M_request_23 rfl (lv_at hl 3 rfl) ?_
        refine lv_iconst (v := 2) C.1 C.2.1 d_M_request_24 (by decide) ?_
        refine lv_icmp_gt (tgt := 44) C.1 C.2.1 d_M_request_25 (by decide) ?_ ?_
        · intro c54
          refine lv_iconst (v := 1) C.1 C.2.1 d_M_request_44 (by decide) ?_
          refine lv_goto (tgt := 49) C.1 C.2.1 d_M_request_45 (by decide) ?_
          refine lv_istore C.1 C.2.1 d_M_request_49 hl (by decide) rfl (lv' := [(5, .int (1)), (0, .ref (b)), (1, .int (nI j)), (2, .int (a)), (3, .int (g)), (4, .int (d))]) (fun ls hl => ?_)
          refine lv_aload_n C.1 C.2.1 d_M_request_51 rfl (lv_at hl 1 rfl) ?_
          refine lv_iload C.1 C.2.1 d_M_request_52 (lv_at hl 0 rfl) ?_
          refine lv_if_eq (tgt := 61) C.1 C.2.1 d_M_request_54 (by decide) (fun hn => absurd hn (by decide)) (fun _ => ?_)
          refine lv_iconst (v := 1) C.1 C.2.1 d_M_request_57 (by decide) ?_
          refine lv_goto (tgt := 87) C.1 C.2.1 d_M_request_58 (by decide) ?_
          refine hq_put (lo := lo) C f_M_105 k0 rfl rfl (Nat.le_of_ble_eq_true rfl) hL (by omega) d_M_request_87 (fun H55 locs u56 hL => ?_)
          have m57 := md_thr (th2 := 1) hM u56
          have k0 : va_at D vwCl (b, .inr (6, [.int (1), .int (nI n), .ref (b + 1), .ref (b + 2), .ref (b + 3), .ref (b + 4), .ref (b + 5), .ref (b + 6), .ref (b + 7), .ref (b + 8), .ref (b + 9), .ref (b + 10), .ref (b + 11), .ref (b + 12), .ref (b + 13), .ref (b + 14), .ref (b + 15), .ref (b + 16), .ref (b + 17), .ref (b + 18), .ref (b + 19), .ref (b + 20), .ref (b + 21), .ref (b + 22), .ref (b + 23), .ref (b + 24), .ref (b + 25), .ref (b + 26), .ref (b + 27), .ref (b + 28), .ref (b + 29), .ref (b + 30)])) H55 := m57 0 (by decide)
          refine lv_aload_n C.1 C.2.1 d_M_request_90 rfl (lv_at hl 1 rfl) ?_
          refine hq_get (v := .int (1)) C f_M_105 k0 rfl d_M_request_91 ?_
          refine lv_if_eq (tgt := 99) C.1 C.2.1 d_M_request_94 (by decide) (fun hn => absurd hn (by decide)) (fun _ => ?_)
          refine lv_iconst (v := 0) C.1 C.2.1 d_M_request_97 (by decide) ?_
          have hf : f_M_request A j a g d = (A, 1, 0) := by unfold f_M_request; rw [if_neg c42, if_neg c46, if_neg c50, if_pos c54]
          exact hq_iret C hret hlk (Nat.le_of_ble_eq_true rfl) (Nat.le_of_ble_eq_true rfl) hL ⟨by rw [hf], by rw [hf]; exact m57, hq_Sput (hq_S0) u56 (by omega) (by omega)⟩ d_M_request_98
        · intro c54
          refine lv_iload C.1 C.2.1 d_M_request_28 (lv_at hl 4 rfl) ?_
          refine lv_if_lt (tgt := 44) C.1 C.2.1 d_M_request_30 (by decide) ?_ ?_
          · intro c58
            refine lv_iconst (v := 1) C.1 C.2.1 d_M_request_44 (by decide) ?_
            refine lv_goto (tgt := 49) C.1 C.2.1 d_M_request_45 (by decide) ?_
            refine lv_istore C.1 C.2.1 d_M_request_49 hl (by decide) rfl (lv' := [(5, .int (1)), (0, .ref (b)), (1, .int (nI j)), (2, .int (a)), (3, .int (g)), (4, .int (d))]) (fun ls hl => ?_)
            refine lv_aload_n C.1 C.2.1 d_M_request_51 rfl (lv_at hl 1 rfl) ?_
            refine lv_iload C.1 C.2.1 d_M_request_52 (lv_at hl 0 rfl) ?_
            refine lv_if_eq (tgt := 61) C.1 C.2.1 d_M_request_54 (by decide) (fun hn => absurd hn (by decide)) (fun _ => ?_)
            refine lv_iconst (v := 1) C.1 C.2.1 d_M_request_57 (by decide) ?_
            refine lv_goto (tgt := 87) C.1 C.2.1 d_M_request_58 (by decide) ?_
            refine hq_put (lo := lo) C f_M_105 k0 rfl rfl (Nat.le_of_ble_eq_true rfl) hL (by omega) d_M_request_87 (fun H59 locs u60 hL => ?_)
            have m61 := md_thr (th2 := 1) hM u60
            have k0 : va_at D vwCl (b, .inr (6, [.int (1), .int (nI n), .ref (b + 1), .ref (b + 2), .ref (b + 3), .ref (b + 4), .ref (b + 5), .ref (b + 6), .ref (b + 7), .ref (b + 8), .ref (b + 9), .ref (b + 10), .ref (b + 11), .ref (b + 12), .ref (b + 13), .ref (b + 14), .ref (b + 15), .ref (b + 16), .ref (b + 17), .ref (b + 18), .ref (b + 19), .ref (b + 20), .ref (b + 21), .ref (b + 22), .ref (b + 23), .ref (b + 24), .ref (b + 25), .ref (b + 26), .ref (b + 27), .ref (b + 28), .ref (b + 29), .ref (b + 30)])) H59 := m61 0 (by decide)
            refine lv_aload_n C.1 C.2.1 d_M_request_90 rfl (lv_at hl 1 rfl) ?_
            refine hq_get (v := .int (1)) C f_M_105 k0 rfl d_M_request_91 ?_
            refine lv_if_eq (tgt := 99) C.1 C.2.1 d_M_request_94 (by decide) (fun hn => absurd hn (by decide)) (fun _ => ?_)
            refine lv_iconst (v := 0) C.1 C.2.1 d_M_request_97 (by decide) ?_
            have hf : f_M_request A j a g d = (A, 1, 0) := by unfold f_M_request; rw [if_neg c42, if_neg c46, if_neg c50, if_neg c54, if_pos c58]
            exact hq_iret C hret hlk (Nat.le_of_ble_eq_true rfl) (Nat.le_of_ble_eq_true rfl) hL ⟨by rw [hf], by rw [hf]; exact m61, hq_Sput (hq_S0) u60 (by omega) (by omega)⟩ d_M_request_98
          · intro c58
            refine lv_iload C.1 C.2.1 d_M_request_33 (lv_at hl 4 rfl) ?_
            refine lv_iconst (v := 1) C.1 C.2.1 d_M_request_35 (by decide) ?_
            refine lv_bipush (v := 8) C.1 C.2.1 d_M_request_36 (by decide) ?_
            refine lv_iload_n C.1 C.2.1 d_M_request_38 rfl (lv_at hl 3 rfl) ?_
            refine lv_imul C.1 C.2.1 d_M_request_39 ?_
            refine lv_ishl C.1 C.2.1 d_M_request_40 ?_
            refine lv_icmp_lt (tgt := 48) C.1 C.2.1 d_M_request_41 (by decide) ?_ ?_
            · intro c62
              refine lv_iconst (v := 0) C.1 C.2.1 d_M_request_48 (by decide) ?_
              refine lv_istore C.1 C.2.1 d_M_request_49 hl (by decide) rfl (lv' := [(5, .int (0)), (0, .ref (b)), (1, .int (nI j)), (2, .int (a)), (3, .int (g)), (4, .int (d))]) (fun ls hl => ?_)
              refine lv_aload_n C.1 C.2.1 d_M_request_51 rfl (lv_at hl 1 rfl) ?_
              refine lv_iload C.1 C.2.1 d_M_request_52 (lv_at hl 0 rfl) ?_
              refine lv_if_eq (tgt := 61) C.1 C.2.1 d_M_request_54 (by decide) (fun _ => ?_) (fun hn => absurd (by decide) hn)
              refine lv_aload_n C.1 C.2.1 d_M_request_61 rfl (lv_at hl 1 rfl) ?_
              refine hq_get (v := .ref (b + 10)) C f_M_38 k0 rfl d_M_request_62 ?_
              refine lv_iload_n C.1 C.2.1 d_M_request_65 rfl (lv_at hl 2 rfl) ?_
              have e63 : va_at D vwCl (b + 10, .inl (cI, 4, .inl (A 9))) _ := hM 10 (by decide)
              refine hq_iald C 0 rfl e63 (vp_in_nI hj (by decide)) d_M_request_66 ?_
              rw [nI_clamp (show j < 2 ^ 31 by omega)]
              refine W.eq (g2 := F0 m 67 ls [.int (A 9 j), .ref (b)]) rfl ?_
              refine lv_iconst (v := 4) C.1 C.2.1 d_M_request_67 (by decide) ?_
              refine lv_icmp_eq (tgt := 82) C.1 C.2.1 d_M_request_68 (by decide) ?_ ?_
              · intro c64
                refine lv_iconst (v := 2) C.1 C.2.1 d_M_request_82 (by decide) ?_
                refine lv_goto (tgt := 87) C.1 C.2.1 d_M_request_83 (by decide) ?_
                refine hq_put (lo := lo) C f_M_105 k0 rfl rfl (Nat.le_of_ble_eq_true rfl) hL (by omega) d_M_request_87 (fun H65 locs u66 hL => ?_)
                have m67 := md_thr (th2 := 2) hM u66
                have k0 : va_at D vwCl (b, .inr (6, [.int (2), .int (nI n), .ref (b + 1), .ref (b + 2), .ref (b + 3), .ref (b + 4), .ref (b + 5), .ref (b + 6), .ref (b + 7), .ref (b + 8), .ref (b + 9), .ref (b + 10), .ref (b + 11), .ref (b + 12), .ref (b + 13), .ref (b + 14), .ref (b + 15), .ref (b + 16), .ref (b + 17), .ref (b + 18), .ref (b + 19), .ref (b + 20), .ref (b + 21), .ref (b + 22), .ref (b + 23), .ref (b + 24), .ref (b + 25), .ref (b + 26), .ref (b + 27), .ref (b + 28), .ref (b + 29), .ref (b + 30)])) H65 := m67 0 (by decide)
                refine lv_aload_n C.1 C.2.1 d_M_request_90 rfl (lv_at hl 1 rfl) ?_
                refine hq_get (v := .int (2)) C f_M_105 k0 rfl d_M_request_91 ?_
                refine lv_if_eq (tgt := 99) C.1 C.2.1 d_M_request_94 (by decide) (fun hn => absurd hn (by decide)) (fun _ => ?_)
                refine lv_iconst (v := 0) C.1 C.2.1 d_M_request_97 (by decide) ?_
                have hf : f_M_request A j a g d = (A, 2, 0) := by unfold f_M_request; rw [if_neg c42, if_neg c46, if_neg c50, if_neg c54, if_neg c58, if_pos c62, if_pos c64]
                exact hq_iret C hret hlk (Nat.le_of_ble_eq_true rfl) (Nat.le_of_ble_eq_true rfl) hL ⟨by rw [hf], by rw [hf]; exact m67, hq_Sput (hq_S0) u66 (by omega) (by omega)⟩ d_M_request_98
              · intro c64
                refine lv_aload_n C.1 C.2.1 d_M_request_71 rfl (lv_at hl 1 rfl) ?_
                refine hq_get (v := .ref (b + 4)) C f_M_20 k0 rfl d_M_request_72 ?_
                refine lv_iload_n C.1 C.2.1 d_M_request_75 rfl (lv_at hl 2 rfl) ?_
                have e68 : va_at D vwCl (b + 4, .inl (cI, 4, .inl (A 3))) _ := hM 4 (by decide)
                refine hq_iald C 0 rfl e68 (vp_in_nI hj (by decide)) d_M_request_76 ?_
                rw [nI_clamp (show j < 2 ^ 31 by omega)]
                refine W.eq (g2 := F0 m 77 ls [.int (A 3 j), .ref (b)]) rfl ?_
                refine lv_bipush (v := 7) C.1 C.2.1 d_M_request_77 (by decide) ?_
                refine lv_icmp_ne (tgt := 86) C.1 C.2.1 d_M_request_79 (by decide) ?_ ?_
                · intro c69
                  refine lv_iconst (v := 0) C.1 C.2.1 d_M_request_86 (by decide) ?_
                  refine hq_put (lo := lo) C f_M_105 k0 rfl rfl (Nat.le_of_ble_eq_true rfl) hL (by omega) d_M_request_87 (fun H70 locs u71 hL => ?_)
                  have m72 := md_thr (th2 := 0) hM u71
                  have k0 : va_at D vwCl (b, .inr (6, [.int (0), .int (nI n), .ref (b + 1), .ref (b + 2), .ref (b + 3), .ref (b + 4), .ref (b + 5), .ref (b + 6), .ref (b + 7), .ref (b + 8), .ref (b + 9), .ref (b + 10), .ref (b + 11), .ref (b + 12), .ref (b + 13), .ref (b + 14), .ref (b + 15), .ref (b + 16), .ref (b + 17), .ref (b + 18), .ref (b + 19), .ref (b + 20), .ref (b + 21), .ref (b + 22), .ref (b + 23), .ref (b + 24), .ref (b + 25), .ref (b + 26), .ref (b + 27), .ref (b + 28), .ref (b + 29), .ref (b + 30)])) H70 := m72 0 (by decide)
                  refine lv_aload_n C.1 C.2.1 d_M_request_90 rfl (lv_at hl 1 rfl) ?_
                  refine hq_get (v := .int (0)) C f_M_105 k0 rfl d_M_request_91 ?_
                  refine lv_if_eq (tgt := 99) C.1 C.2.1 d_M_request_94 (by decide) (fun _ => ?_) (fun hn => absurd (by decide) hn)
                  refine lv_iconst (v := 4) C.1 C.2.1 d_M_request_99 (by decide) ?_
                  refine lv_iload_n C.1 C.2.1 d_M_request_100 rfl (lv_at hl 2 rfl) ?_
                  refine lv_imul C.1 C.2.1 d_M_request_101 ?_
                  refine lv_aload_n C.1 C.2.1 d_M_request_102 rfl (lv_at hl 1 rfl) ?_
                  refine hq_get (v := .ref (b + 10)) C f_M_38 k0 rfl d_M_request_103 ?_
                  refine lv_iload_n C.1 C.2.1 d_M_request_106 rfl (lv_at hl 2 rfl) ?_
                  have e73 : va_at D vwCl (b + 10, .inl (cI, 4, .inl (A 9))) _ := m72 10 (by decide)
                  refine hq_iald C 0 rfl e73 (vp_in_nI hj (by decide)) d_M_request_107 ?_
                  rw [nI_clamp (show j < 2 ^ 31 by omega)]
                  refine W.eq (g2 := F0 m 108 ls [.int (A 9 j), .int (4 * (nI j))]) rfl ?_
                  refine lv_iadd C.1 C.2.1 d_M_request_108 ?_
                  refine lv_istore C.1 C.2.1 d_M_request_109 hl (by decide) rfl (lv' := [(6, .int ((4 * (nI j)) + (A 9 j))), (5, .int (0)), (0, .ref (b)), (1, .int (nI j)), (2, .int (a)), (3, .int (g)), (4, .int (d))]) (fun ls hl => ?_)
                  refine lv_aload_n C.1 C.2.1 d_M_request_111 rfl (lv_at hl 2 rfl) ?_
                  refine hq_get (v := .ref (b + 11)) C f_M_41 k0 rfl d_M_request_112 ?_
                  refine lv_iload C.1 C.2.1 d_M_request_115 (lv_at hl 0 rfl) ?_
                  refine lv_iload_n C.1 C.2.1 d_M_request_117 rfl (lv_at hl 4 rfl) ?_
                  have e74 : va_at D vwCl (b + 11, .inl (cI, 16, .inl (A 10))) _ := m72 11 (by decide)
                  refine hq_iast (lo := lo) C 0 rfl e74 (in_wt ok hj c64) hL (by omega) d_M_request_118 (fun H75 locs u76 hL => ?_)
                  have m77 := md_set (k := 10) (f := upd (A 10) ((4 * (nI j)) + (A 9 j)).toNatClampNeg a) m72 u76
                  have k0 : va_at D vwCl (b, .inr (6, [.int (0), .int (nI n), .ref (b + 1), .ref (b + 2), .ref (b + 3), .ref (b + 4), .ref (b + 5), .ref (b + 6), .ref (b + 7), .ref (b + 8), .ref (b + 9), .ref (b + 10), .ref (b + 11), .ref (b + 12), .ref (b + 13), .ref (b + 14), .ref (b + 15), .ref (b + 16), .ref (b + 17), .ref (b + 18), .ref (b + 19), .ref (b + 20), .ref (b + 21), .ref (b + 22), .ref (b + 23), .ref (b + 24), .ref (b + 25), .ref (b + 26), .ref (b + 27), .ref (b + 28), .ref (b + 29), .ref (b + 30)])) H75 := m77 0 (by decide)
                  refine lv_aload_n C.1 C.2.1 d_M_request_119 rfl (lv_at hl 2 rfl) ?_
                  refine hq_get (v := .ref (b + 12)) C f_M_44 k0 rfl d_M_request_120 ?_
                  refine lv_iload C.1 C.2.1 d_M_request_123 (lv_at hl 0 rfl) ?_
                  refine lv_iload_n C.1 C.2.1 d_M_request_125 rfl (lv_at hl 5 rfl) ?_
                  have e78 : va_at D vwCl (b + 12, .inl (cI, 16, .inl (A 11))) _ := m77 12 (by decide)
                  refine hq_iast (lo := lo) C 0 rfl e78 (in_wt ok hj c64) hL (by omega) d_M_request_126 (fun H79 locs u80 hL => ?_)
                  have m81 := md_set (k := 11) (f := upd (A 11) ((4 * (nI j)) + (A 9 j)).toNatClampNeg g) m77 u80
                  have k0 : va_at D vwCl (b, .inr (6, [.int (0), .int (nI n), .ref (b + 1), .ref (b + 2), .ref (b + 3), .ref (b + 4), .ref (b + 5), .ref (b + 6), .ref (b + 7), .ref (b + 8), .ref (b + 9), .ref (b + 10), .ref (b + 11), .ref (b + 12), .ref (b + 13), .ref (b + 14), .ref (b + 15), .ref (b + 16), .ref (b + 17), .ref (b + 18), .ref (b + 19), .ref (b + 20), .ref (b + 21), .ref (b + 22), .ref (b + 23), .ref (b + 24), .ref (b + 25), .ref (b + 26), .ref (b + 27), .ref (b + 28), .ref (b + 29), .ref (b + 30)])) H79 := m81 0 (by decide)
                  refine lv_aload_n C.1 C.2.1 d_M_request_127 rfl (lv_at hl 2 rfl) ?_
                  refine hq_get (v := .ref (b + 13)) C f_M_47 k0 rfl d_M_request_128 ?_
                  refine lv_iload C.1 C.2.1 d_M_request_131 (lv_at hl 0 rfl) ?_
                  refine lv_iload C.1 C.2.1 d_M_request_133 (lv_at hl 6 rfl) ?_
                  have e82 : va_at D vwCl (b + 13, .inl (cI, 16, .inl (A 12))) _ := m81 13 (by decide)
                  refine hq_iast (lo := lo) C 0 rfl e82 (in_wt ok hj c64) hL (by omega) d_M_request_135 (fun H83 locs u84 hL => ?_)
                  have m85 := md_set (k := 12) (f := upd (A 12) ((4 * (nI j)) + (A 9 j)).toNatClampNeg d) m81 u84
                  have k0 : va_at D vwCl (b, .inr (6, [.int (0), .int (nI n), .ref (b + 1), .ref (b + 2), .ref (b + 3), .ref (b + 4), .ref (b + 5), .ref (b + 6), .ref (b + 7), .ref (b + 8), .ref (b + 9), .ref (b + 10), .ref (b + 11), .ref (b + 12), .ref (b + 13), .ref (b + 14), .ref (b + 15), .ref (b + 16), .ref (b + 17), .ref (b + 18), .ref (b + 19), .ref (b + 20), .ref (b + 21), .ref (b + 22), .ref (b + 23), .ref (b + 24), .ref (b + 25), .ref (b + 26), .ref (b + 27), .ref (b + 28), .ref (b + 29), .ref (b + 30)])) H83 := m85 0 (by decide)
                  refine lv_aload_n C.1 C.2.1 d_M_request_136 rfl (lv_at hl 2 rfl) ?_
                  refine hq_get (v := .ref (b + 10)) C f_M_38 k0 rfl d_M_request_137 ?_
                  refine lv_iload_n C.1 C.2.1 d_M_request_140 rfl (lv_at hl 3 rfl) ?_
                  refine lv_dup2_11 C.1 C.2.1 d_M_request_141 rfl rfl ?_
                  have e86 : va_at D vwCl (b + 10, .inl (cI, 4, .inl (A 9))) _ := m85 10 (by decide)
                  refine hq_iald C 0 rfl e86 (vp_in_nI hj (by decide)) d_M_request_142 ?_
                  rw [nI_clamp (show j < 2 ^ 31 by omega)]
                  refine W.eq (g2 := F0 m 143 ls [.int (A 9 j), .int (nI j), .ref (b + 10)]) rfl ?_
                  refine lv_iconst (v := 1) C.1 C.2.1 d_M_request_143 (by decide) ?_
                  refine lv_iadd C.1 C.2.1 d_M_request_144 ?_
                  have e87 : va_at D vwCl (b + 10, .inl (cI, 4, .inl (A 9))) _ := m85 10 (by decide)
                  refine hq_iast (lo := lo) C 0 rfl e87 (vp_in_nI hj (by decide)) hL (by omega) d_M_request_145 (fun H88 locs u89 hL => ?_)
                  rw [nI_clamp (show j < 2 ^ 31 by omega)] at u89
                  have m90 := md_set (k := 9) (f := upd (A 9) j ((A 9 j) + 1)) m85 u89
                  have k0 : va_at D vwCl (b, .inr (6, [.int (0), .int (nI n), .ref (b + 1), .ref (b + 2), .ref (b + 3), .ref (b + 4), .ref (b + 5), .ref (b + 6), .ref (b + 7), .ref (b + 8), .ref (b + 9), .ref (b + 10), .ref (b + 11), .ref (b + 12), .ref (b + 13), .ref (b + 14), .ref (b + 15), .ref (b + 16), .ref (b + 17), .ref (b + 18), .ref (b + 19), .ref (b + 20), .ref (b + 21), .ref (b + 22), .ref (b + 23), .ref (b + 24), .ref (b + 25), .ref (b + 26), .ref (b + 27), .ref (b + 28), .ref (b + 29), .ref (b + 30)])) H88 := m90 0 (by decide)
                  refine lv_aload_n C.1 C.2.1 d_M_request_146 rfl (lv_at hl 2 rfl) ?_
                  refine hq_get (v := .ref (b + 10)) C f_M_38 k0 rfl d_M_request_147 ?_
                  refine lv_iload_n C.1 C.2.1 d_M_request_150 rfl (lv_at hl 3 rfl) ?_
                  have e91 : va_at D vwCl (b + 10, .inl (cI, 4, .inl (upd (A 9) j ((A 9 j) + 1)))) _ := m90 10 (by decide)
                  refine hq_iald C 0 rfl e91 (vp_in_nI hj (by decide)) d_M_request_151 ?_
                  rw [nI_clamp (show j < 2 ^ 31 by omega)]
                  rw [show (upd (A 9) j ((A 9 j) + 1)) j = (A 9 j) + 1 from pk_us]
                  refine W.eq (g2 := F0 m 152 ls [.int ((A 9 j) + 1)]) rfl ?_
                  have hf : f_M_request A j a g d = ((setA (setA (setA (setA A 10 (upd (A 10) ((4 * (nI j)) + (A 9 j)).toNatClampNeg a)) 11 (upd (A 11) ((4 * (nI j)) + (A 9 j)).toNatClampNeg g)) 12 (upd (A 12) ((4 * (nI j)) + (A 9 j)).toNatClampNeg d)) 9 (upd (A 9) j ((A 9 j) + 1))), 0, (A 9 j) + 1) := by unfold f_M_request; rw [if_neg c42, if_neg c46, if_neg c50, if_neg c54, if_neg c58, if_pos c62, if_neg c64, if_neg c69]
                  exact hq_iret C hret hlk (Nat.le_of_ble_eq_true rfl) (Nat.le_of_ble_eq_true rfl) hL ⟨by rw [hf], by rw [hf]; exact m90, hq_Sput (hq_Sput (hq_Sput (hq_Sput (hq_Sput (hq_S0) u71 (by omega) (by omega)) u76 (by omega) (by omega)) u80 (by omega) (by omega)) u84 (by omega) (by omega)) u89 (by omega) (by omega)⟩ d_M_request_152
                · intro c69
                  refine lv_iconst (v := 2) C.1 C.2.1 d_M_request_82 (by decide) ?_
                  refine lv_goto (tgt := 87) C.1 C.2.1 d_M_request_83 (by decide) ?_
                  refine hq_put (lo := lo) C f_M_105 k0 rfl rfl (Nat.le_of_ble_eq_true rfl) hL (by omega) d_M_request_87 (fun H92 locs u93 hL => ?_)
                  have m94 := md_thr (th2 := 2) hM u93
                  have k0 : va_at D vwCl (b, .inr (6, [.int (2), .int (nI n), .ref (b + 1), .ref (b + 2), .ref (b + 3), .ref (b + 4), .ref (b + 5), .ref (b + 6), .ref (b + 7), .ref (b + 8), .ref (b + 9), .ref (b + 10), .ref (b + 11), .ref (b + 12), .ref (b + 13), .ref (b + 14), .ref (b + 15), .ref (b + 16), .ref (b + 17), .ref (b + 18), .ref (b + 19), .ref (b + 20), .ref (b + 21), .ref (b + 22), .ref (b + 23), .ref (b + 24), .ref (b + 25), .ref (b + 26), .ref (b + 27), .ref (b + 28), .ref (b + 29), .ref (b + 30)])) H92 := m94 0 (by decide)
                  refine lv_aload_n C.1 C.2.1 d_M_request_90 rfl (lv_at hl 1 rfl) ?_
                  refine hq_get (v := .int (2)) C f_M_105 k0 rfl d_M_request_91 ?_
                  refine lv_if_eq (tgt := 99) C.1 C.2.1 d_M_request_94 (by decide) (fun hn => absurd hn (by decide)) (fun _ => ?_)
                  refine lv_iconst (v := 0) C.1 C.2.1 d_M_request_97 (by decide) ?_
                  have hf : f_M_request A j a g d = (A, 2, 0) := by unfold f_M_request; rw [if_neg c42, if_neg c46, if_neg c50, if_neg c54, if_neg c58, if_pos c62, if_neg c64, if_pos c69]
                  exact hq_iret C hret hlk (Nat.le_of_ble_eq_true rfl) (Nat.le_of_ble_eq_true rfl) hL ⟨by rw [hf], by rw [hf]; exact m94, hq_Sput (hq_S0) u93 (by omega) (by omega)⟩ d_M_request_98
            · intro c62
              refine lv_iconst (v := 1) C.1 C.2.1 d_M_request_44 (by decide) ?_
              refine lv_goto (tgt := 49) C.1 C.2.1 d_M_request_45 (by decide) ?_
              refine lv_istore C.1 C.2.1 d_M_request_49 hl (by decide) rfl (lv' := [(5, .int (1)), (0, .ref (b)), (1, .int (nI j)), (2, .int (a)), (3, .int (g)), (4, .int (d))]) (fun ls hl => ?_)
              refine lv_aload_n C.1 C.2.1 d_M_request_51 rfl (lv_at hl 1 rfl) ?_
              refine lv_iload C.1 C.2.1 d_M_request_52 (lv_at hl 0 rfl) ?_
              refine lv_if_eq (tgt := 61) C.1 C.2.1 d_M_request_54 (by decide) (fun hn => absurd hn (by decide)) (fun _ => ?_)
              refine lv_iconst (v := 1) C.1 C.2.1 d_M_request_57 (by decide) ?_
              refine lv_goto (tgt := 87) C.1 C.2.1 d_M_request_58 (by decide) ?_
              refine hq_put (lo := lo) C f_M_105 k0 rfl rfl (Nat.le_of_ble_eq_true rfl) hL (by omega) d_M_request_87 (fun H95 locs u96 hL => ?_)
              have m97 := md_thr (th2 := 1) hM u96
              have k0 : va_at D vwCl (b, .inr (6, [.int (1), .int (nI n), .ref (b + 1), .ref (b + 2), .ref (b + 3), .ref (b + 4), .ref (b + 5), .ref (b + 6), .ref (b + 7), .ref (b + 8), .ref (b + 9), .ref (b + 10), .ref (b + 11), .ref (b + 12), .ref (b + 13), .ref (b + 14), .ref (b + 15), .ref (b + 16), .ref (b + 17), .ref (b + 18), .ref (b + 19), .ref (b + 20), .ref (b + 21), .ref (b + 22), .ref (b + 23), .ref (b + 24), .ref (b + 25), .ref (b + 26), .ref (b + 27), .ref (b + 28), .ref (b + 29), .ref (b + 30)])) H95 := m97 0 (by decide)
              refine lv_aload_n C.1 C.2.1 d_M_request_90 rfl (lv_at hl 1 rfl) ?_
              refine hq_get (v := .int (1)) C f_M_105 k0 rfl d_M_request_91 ?_
              refine lv_if_eq (tgt := 99) C.1 C.2.1 d_M_request_94 (by decide) (fun hn => absurd hn (by decide)) (fun _ => ?_)
              refine lv_iconst (v := 0) C.1 C.2.1 d_M_request_97 (by decide) ?_
              have hf : f_M_request A j a g d = (A, 1, 0) := by unfold f_M_request; rw [if_neg c42, if_neg c46, if_neg c50, if_neg c54, if_neg c58, if_neg c62]
              exact hq_iret C hret hlk (Nat.le_of_ble_eq_true rfl) (Nat.le_of_ble_eq_true rfl) hL ⟨by rw [hf], by rw [hf]; exact m97, hq_Sput (hq_S0) u96 (by omega) (by omega)⟩ d_M_request_98
set_option maxHeartbeats 4000000 in
set_option maxRecDepth 100000 in
theorem ok_M_request (A : Nat → Nat → Int32) (j : Nat) (hj : j < 4) (a g d : Int32) (ok : okA A) : okA (f_M_request A j a g d).1 := by
  unfold f_M_request
  by_cases c42 : a < 0
  · rw [if_pos c42]
    exact ok
  · rw [if_neg c42]
    by_cases c46 : 2047 < a
    · rw [if_pos c46]
      exact ok
    · rw [if_neg c46]
      by_cases c50 : g < 0
      · rw [if_pos c50]
        exact ok
      · rw [if_neg c50]
        by_cases c54 : 2 < g
        · rw [if_pos c54]
          exact ok
        · rw [if_neg c54]
          by_cases c58 : d < 0
          · rw [if_pos c58]
            exact ok
          · rw [if_neg c58]
            by_cases c62 : d < (1 <<< ((8 * g) &&& 31))
            · rw [if_pos c62]
              by_cases c64 : (A 9 j) = 4
              · rw [if_pos c64]
                exact ok
              · rw [if_neg c64]
                by_cases c69 : (A 3 j) = 7
                · rw [if_pos c69]
                  exact ok
                · rw [if_neg c69]
                  exact (okA_9 rfl (wt_up ok hj c64) (fun _ => wt_nz ok hj) (okA_o (by decide) (okA_o (by decide) (okA_o (by decide) ok))))
            · rw [if_neg c62]
              exact ok
set_option maxHeartbeats 4000000 in
set_option maxRecDepth 100000 in
theorem t0_M_request (A : Nat → Nat → Int32) (j : Nat) (hj : j < 4) (a g d : Int32) : (f_M_request A j a g d).1 0 0 = A 0 0 := by
  unfold f_M_request
  by_cases c42 : a < 0
  · rw [if_pos c42]
    all_goals rfl
  · rw [if_neg c42]
    by_cases c46 : 2047 < a
    · rw [if_pos c46]
      all_goals rfl
    · rw [if_neg c46]
      by_cases c50 : g < 0
      · rw [if_pos c50]
        all_goals rfl
      · rw [if_neg c50]
        by_cases c54 : 2 < g
        · rw [if_pos c54]
          all_goals rfl
        · rw [if_neg c54]
          by_cases c58 : d < 0
          · rw [if_pos c58]
            all_goals rfl
          · rw [if_neg c58]
            by_cases c62 : d < (1 <<< ((8 * g) &&& 31))
            · rw [if_pos c62]
              by_cases c64 : (A 9 j) = 4
              · rw [if_pos c64]
                all_goals rfl
              · rw [if_neg c64]
                by_cases c69 : (A 3 j) = 7
                · rw [if_pos c69]
                  all_goals rfl
                · rw [if_neg c69]
                  all_goals rfl
            · rw [if_neg c62]
              all_goals rfl
def f_M_request_n (A : Nat → Nat → Int32) (v a g d : Int32) : (Nat → Nat → Int32) × Int32 × Int32 := (A, 1, 0)
set_option maxHeartbeats 4000000 in
set_option maxRecDepth 100000 in
theorem c_M_request_n (l : Launch) (D : va_G) (cI cZ cN cJ : ClassId) (lo : Nat) (b n : Nat) (hlo : lo ≤ b) (th : Int32) (A : Nat → Nat → Int32) (v a g d : Int32) (hb : v < 0 ∨ ¬ v < nI n) : hq_M l y_M_request b_M_request 7 (some .int) TB { frames := 1, cells := 0, slots := 0, locals := 25 } lo D vwCl (TY cI cZ cN cJ) [.ref (b), .int (v), .int (a), .int (g), .int (d)] (fun U => hq_B D vwCl b 31 (mdC cI cZ b th (nI n) A) U.heap) (fun H v9 H' => v9 = some (.int (f_M_request_n A v a g d).2.2) ∧ hq_B D vwCl b 31 (mdC cI cZ b ((f_M_request_n A v a g d).2.1) (nI n) (f_M_request_n A v a g d).1) H' ∧ hq_S b 31 H H') := by
  refine hq_ofW (by decide) (Nat.le_of_ble_eq_true rfl) ?_
  intro p e s m below meth c ls C hml hret hlk hnm hl hP
  have hL : hq_L lo [] := hq_L0
  have hl : lv_has ls 7 [(0, .ref (b)), (1, .int (v)), (2, .int (a)), (3, .int (g)), (4, .int (d))] := hl
  have hM : hq_B D vwCl b 31 (mdC cI cZ b th (nI n) A) s.heap := hP
  have k0 : va_at D vwCl (b, .inr (6, [.int (th), .int (nI n), .ref (b + 1), .ref (b + 2), .ref (b + 3), .ref (b + 4), .ref (b + 5), .ref (b + 6), .ref (b + 7), .ref (b + 8), .ref (b + 9), .ref (b + 10), .ref (b + 11), .ref (b + 12), .ref (b + 13), .ref (b + 14), .ref (b + 15), .ref (b + 16), .ref (b + 17), .ref (b + 18), .ref (b + 19), .ref (b + 20), .ref (b + 21), .ref (b + 22), .ref (b + 23), .ref (b + 24), .ref (b + 25), .ref (b + 26), .ref (b + 27), .ref (b + 28), .ref (b + 29), .ref (b + 30)])) s.heap := hM 0 (by decide)
  refine lv_aload_n C.1 C.2.1 d_M_request_0 rfl (lv_at hl 0 rfl) ?_
  refine lv_iload_n C.1 C.2.1 d_M_request_1 rfl (lv_at hl 1 rfl) ?_
  refine hq_callV (lo := lo) (As := [.int (v)]) (rest := []) C tb_good hml Y_M_108 (c_noNode l D cI cZ cN cJ lo b n th v) k0 rfl (fun _ _ _ _ h => h) (fun U hU hW => by show va_at D vwCl (b, .inr (6, [.int (th), .int (nI n), .ref (b + 1), .ref (b + 2), .ref (b + 3), .ref (b + 4), .ref (b + 5), .ref (b + 6), .ref (b + 7), .ref (b + 8), .ref (b + 9), .ref (b + 10), .ref (b + 11), .ref (b + 12), .ref (b + 13), .ref (b + 14), .ref (b + 15), .ref (b + 16), .ref (b + 17), .ref (b + 18), .ref (b + 19), .ref (b + 20), .ref (b + 21), .ref (b + 22), .ref (b + 23), .ref (b + 24), .ref (b + 25), .ref (b + 26), .ref (b + 27), .ref (b + 28), .ref (b + 29), .ref (b + 30)])) U.heap; rw [hU]; exact k0) hL hl.1 rfl rfl ⟨⟨Nat.le_of_ble_eq_true rfl, Nat.le_of_ble_eq_true rfl⟩, Nat.le_of_ble_eq_true rfl, Nat.le_of_ble_eq_true rfl⟩ (Nat.le_of_ble_eq_true rfl) d_M_request_2 (fun v H41 locs hp hL => ?_)
  obtain ⟨rfl, rfl⟩ := hp
  refine W.eq (g2 := F0 m 5 ls [.int (nno n v)]) rfl ?_
  rw [nno_bad hb]
  refine lv_if_ne (tgt := 44) C.1 C.2.1 d_M_request_5 (by decide) (fun _ => ?_) (fun hn => absurd hn (by decide))
  refine lv_iconst (v := 1) C.1 C.2.1 d_M_request_44 (by decide) ?_
  refine lv_goto (tgt := 49) C.1 C.2.1 d_M_request_45 (by decide) ?_
  refine lv_istore C.1 C.2.1 d_M_request_49 hl (by decide) rfl (lv' := [(5, .int (1)), (0, .ref (b)), (1, .int (v)), (2, .int (a)), (3, .int (g)), (4, .int (d))]) (fun ls hl => ?_)
  refine lv_aload_n C.1 C.2.1 d_M_request_51 rfl (lv_at hl 1 rfl) ?_
  refine lv_iload C.1 C.2.1 d_M_request_52 (lv_at hl 0 rfl) ?_
  refine lv_if_eq (tgt := 61) C.1 C.2.1 d_M_request_54 (by decide) (fun hn => absurd hn (by decide)) (fun _ => ?_)
  refine lv_iconst (v := 1) C.1 C.2.1 d_M_request_57 (by decide) ?_
  refine lv_goto (tgt := 87) C.1 C.2.1 d_M_request_58 (by decide) ?_
  refine hq_put (lo := lo) C f_M_105 k0 rfl rfl (Nat.le_of_ble_eq_true rfl) hL (by omega) d_M_request_87 (fun H42 locs u43 hL => ?_)
  have m44 := md_thr (th2 := 1) hM u43
  have k0 : va_at D vwCl (b, .inr (6, [.int (1), .int (nI n), .ref (b + 1), .ref (b + 2), .ref (b + 3), .ref (b + 4), .ref (b + 5), .ref (b + 6), .ref (b + 7), .ref (b + 8), .ref (b + 9), .ref (b + 10), .ref (b + 11), .ref (b + 12), .ref (b + 13), .ref (b + 14), .ref (b + 15), .ref (b + 16), .ref (b + 17), .ref (b + 18), .ref (b + 19), .ref (b + 20), .ref (b + 21), .ref (b + 22), .ref (b + 23), .ref (b + 24), .ref (b + 25), .ref (b + 26), .ref (b + 27), .ref (b + 28), .ref (b + 29), .ref (b + 30)])) H42 := m44 0 (by decide)
  refine lv_aload_n C.1 C.2.1 d_M_request_90 rfl (lv_at hl 1 rfl) ?_
  refine hq_get (v := .int (1)) C f_M_105 k0 rfl d_M_request_91 ?_
  refine lv_if_eq (tgt := 99) C.1 C.2.1 d_M_request_94 (by decide) (fun hn => absurd hn (by decide)) (fun _ => ?_)
  refine lv_iconst (v := 0) C.1 C.2.1 d_M_request_97 (by decide) ?_
  have hf : f_M_request_n A v a g d = (A, 1, 0) := rfl
  exact hq_iret C hret hlk (Nat.le_of_ble_eq_true rfl) (Nat.le_of_ble_eq_true rfl) hL ⟨by rw [hf], by rw [hf]; exact m44, hq_Sput (hq_S0) u43 (by omega) (by omega)⟩ d_M_request_98
set_option maxHeartbeats 4000000 in
set_option maxRecDepth 100000 in
theorem ok_M_request_n (A : Nat → Nat → Int32) (v a g d : Int32) (ok : okA A) : okA (f_M_request_n A v a g d).1 := by
  exact ok
set_option maxHeartbeats 4000000 in
set_option maxRecDepth 100000 in
theorem t0_M_request_n (A : Nat → Nat → Int32) (v a g d : Int32) : (f_M_request_n A v a g d).1 0 0 = A 0 0 := by
  all_goals rfl
def f_M_filter (A : Nat → Nat → Int32) (j : Nat) (a g : Int32) : (Nat → Nat → Int32) × Int32 := if a < 0 then ((A, 1)) else (if 2047 < a then ((A, 1)) else (if g < 0 then ((A, 1)) else (if g ≤ 2047 then (((setA (setA A 6 (upd (A 6) j a)) 7 (upd (A 7) j g)), 0)) else ((A, 1)))))
set_option maxHeartbeats 4000000 in
set_option maxRecDepth 100000 in
theorem c_M_filter (l : Launch) (D : va_G) (cI cZ cN cJ : ClassId) (lo : Nat) (b n : Nat) (hlo : lo ≤ b) (th : Int32) (A : Nat → Nat → Int32) (j : Nat) (hj : j < 4) (a g : Int32) (hn : n ≤ 4) (hjn : j < n) : hq_M l y_M_filter b_M_filter 4 none TB { frames := 1, cells := 0, slots := 0, locals := 25 } lo D vwCl (TY cI cZ cN cJ) [.ref (b), .int (nI j), .int (a), .int (g)] (fun U => hq_B D vwCl b 31 (mdC cI cZ b th (nI n) A) U.heap) (fun H v9 H' => v9 = none ∧ hq_B D vwCl b 31 (mdC cI cZ b ((f_M_filter A j a g).2) (nI n) (f_M_filter A j a g).1) H' ∧ hq_S b 31 H H') := by
  refine hq_ofW (by decide) (Nat.le_of_ble_eq_true rfl) ?_
  intro p e s m below meth c ls C hml hret hlk hnm hl hP
  have hL : hq_L lo [] := hq_L0
  have hl : lv_has ls 4 [(0, .ref (b)), (1, .int (nI j)), (2, .int (a)), (3, .int (g))] := hl
  have hM : hq_B D vwCl b 31 (mdC cI cZ b th (nI n) A) s.heap := hP
  have k0 : va_at D vwCl (b, .inr (6, [.int (th), .int (nI n), .ref (b + 1), .ref (b + 2), .ref (b + 3), .ref (b + 4), .ref (b + 5), .ref (b + 6), .ref (b + 7), .ref (b + 8), .ref (b + 9), .ref (b + 10), .ref (b + 11), .ref (b + 12), .ref (b + 13), .ref (b + 14), .ref (b + 15), .ref (b + 16), .ref (b + 17), .ref (b + 18), .ref (b + 19), .ref (b + 20), .ref (b + 21), .ref (b + 22), .ref (b + 23), .ref (b + 24), .ref (b + 25), .ref (b + 26), .ref (b + 27), .ref (b + 28), .ref (b + 29), .ref (b + 30)])) s.heap := hM 0 (by decide)
  refine lv_aload_n C.1 C.2.1 d_M_filter_0 rfl (lv_at hl 0 rfl) ?_
  refine lv_aload_n C.1 C.2.1 d_M_filter_1 rfl (lv_at hl 0 rfl) ?_
  refine lv_iload_n C.1 C.2.1 d_M_filter_2 rfl (lv_at hl 1 rfl) ?_
  refine hq_callV (lo := lo) (As := [.int (nI j)]) (rest := [.ref (b)]) C tb_good hml Y_M_108 (c_noNode l D cI cZ cN cJ lo b n th (nI j)) k0 rfl (fun _ _ _ _ h => h) (fun U hU hW => by show va_at D vwCl (b, .inr (6, [.int (th), .int (nI n), .ref (b + 1), .ref (b + 2), .ref (b + 3), .ref (b + 4), .ref (b + 5), .ref (b + 6), .ref (b + 7), .ref (b + 8), .ref (b + 9), .ref (b + 10), .ref (b + 11), .ref (b + 12), .ref (b + 13), .ref (b + 14), .ref (b + 15), .ref (b + 16), .ref (b + 17), .ref (b + 18), .ref (b + 19), .ref (b + 20), .ref (b + 21), .ref (b + 22), .ref (b + 23), .ref (b + 24), .ref (b + 25), .ref (b + 26), .ref (b + 27), .ref (b + 28), .ref (b + 29), .ref (b + 30)])) U.heap; rw [hU]; exact k0) hL hl.1 rfl rfl ⟨⟨Nat.le_of_ble_eq_true rfl, Nat.le_of_ble_eq_true rfl⟩, Nat.le_of_ble_eq_true rfl, Nat.le_of_ble_eq_true rfl⟩ (Nat.le_of_ble_eq_true rfl) d_M_filter_3 (fun v H41 locs hp hL => ?_)
  obtain ⟨rfl, rfl⟩ := hp
  refine W.eq (g2 := F0 m 6 ls [.int (nno n (nI j)), .ref (b)]) rfl ?_
  rw [nno_ok hn hjn]
  refine lv_if_ne (tgt := 31) C.1 C.2.1 d_M_filter_6 (by decide) (fun hn => absurd hn (by decide)) (fun _ => ?_)
  refine lv_iload_n C.1 C.2.1 d_M_filter_9 rfl (lv_at hl 2 rfl) ?_
  refine lv_if_lt (tgt := 31) C.1 C.2.1 d_M_filter_10 (by decide) ?_ ?_
  · intro c42
    refine lv_iconst (v := 1) C.1 C.2.1 d_M_filter_31 (by decide) ?_
    refine lv_goto (tgt := 36) C.1 C.2.1 d_M_filter_32 (by decide) ?_
    refine hq_put (lo := lo) C f_M_105 k0 rfl rfl (Nat.le_of_ble_eq_true rfl) hL (by omega) d_M_filter_36 (fun H43 locs u44 hL => ?_)
    have m45 := md_thr (th2 := 1) hM u44
    have k0 : va_at D vwCl (b, .inr (6, [.int (1), .int (nI n), .ref (b + 1), .ref (b + 2), .ref (b + 3), .ref (b + 4), .ref (b + 5), .ref (b + 6), .ref (b + 7), .ref (b + 8), .ref (b + 9), .ref (b + 10), .ref (b + 11), .ref (b + 12), .ref (b + 13), .ref (b + 14), .ref (b + 15), .ref (b + 16), .ref (b + 17), .ref (b + 18), .ref (b + 19), .ref (b + 20), .ref (b + 21), .ref (b + 22), .ref (b + 23), .ref (b + 24), .ref (b + 25), .ref (b + 26), .ref (b + 27), .ref (b + 28), .ref (b + 29), .ref (b + 30)])) H43 := m45 0 (by decide)
    refine lv_aload_n C.1 C.2.1 d_M_filter_39 rfl (lv_at hl 0 rfl) ?_
    refine hq_get (v := .int (1)) C f_M_105 k0 rfl d_M_filter_40 ?_
    refine lv_if_ne (tgt := 60) C.1 C.2.1 d_M_filter_43 (by decide) (fun _ => ?_) (fun hn => absurd hn (by decide))
    have hf : f_M_filter A j a g = (A, 1) := by unfold f_M_filter; rw [if_pos c42]
    exact hq_vret C hret hlk (Nat.le_of_ble_eq_true rfl) (Nat.le_of_ble_eq_true rfl) hL ⟨rfl, by rw [hf]; exact m45, hq_Sput (hq_S0) u44 (by omega) (by omega)⟩ d_M_filter_60
  · intro c42
    refine lv_iload_n C.1 C.2.1 d_M_filter_13 rfl (lv_at hl 2 rfl) ?_
    refine lv_sipush (v := 2047) C.1 C.2.1 d_M_filter_14 (by decide) ?_
    refine lv_icmp_gt (tgt := 31) C.1 C.2.1 d_M_filter_17 (by decide) ?_ ?_
    · intro c46
      refine lv_iconst (v := 1) C.1 C.2.1 d_M_filter_31 (by decide) ?_
      refine lv_goto (tgt := 36) C.1 C.2.1 d_M_filter_32 (by decide) ?_
      refine hq_put (lo := lo) C f_M_105 k0 rfl rfl (Nat.le_of_ble_eq_true rfl) hL (by omega) d_M_filter_36 (fun H47 locs u48 hL => ?_)
      have m49 := md_thr (th2 := 1) hM u48
      have k0 : va_at D vwCl (b, .inr (6, [.int (1), .int (nI n), .ref (b + 1), .ref (b + 2), .ref (b + 3), .ref (b + 4), .ref (b + 5), .ref (b + 6), .ref (b + 7), .ref (b + 8), .ref (b + 9), .ref (b + 10), .ref (b + 11), .ref (b + 12), .ref (b + 13), .ref (b + 14), .ref (b + 15), .ref (b + 16), .ref (b + 17), .ref (b + 18), .ref (b + 19), .ref (b + 20), .ref (b + 21), .ref (b + 22), .ref (b + 23), .ref (b + 24), .ref (b + 25), .ref (b + 26), .ref (b + 27), .ref (b + 28), .ref (b + 29), .ref (b + 30)])) H47 := m49 0 (by decide)
      refine lv_aload_n C.1 C.2.1 d_M_filter_39 rfl (lv_at hl 0 rfl) ?_
      refine hq_get (v := .int (1)) C f_M_105 k0 rfl d_M_filter_40 ?_
      refine lv_if_ne (tgt := 60) C.1 C.2.1 d_M_filter_43 (by decide) (fun _ => ?_) (fun hn => absurd hn (by decide))
      have hf : f_M_filter A j a g = (A, 1) := by unfold f_M_filter; rw [if_neg c42, if_pos c46]
      exact hq_vret C hret hlk (Nat.le_of_ble_eq_true rfl) (Nat.le_of_ble_eq_true rfl) hL ⟨rfl, by rw [hf]; exact m49, hq_Sput (hq_S0) u48 (by omega) (by omega)⟩ d_M_filter_60
    · intro c46
      refine lv_iload_n C.1 C.2.1 d_M_filter_20 rfl (lv_at hl 3 rfl) ?_
      refine lv_if_lt (tgt := 31) C.1 C.2.1 d_M_filter_21 (by decide) ?_ ?_
      · intro c50
        refine lv_iconst (v := 1) C.1 C.2.1 d_M_filter_31 (by decide) ?_
        refine lv_goto (tgt := 36) C.1 C.2.1 d_M_filter_32 (by decide) ?_
        refine hq_put (lo := lo) C f_M_105 k0 rfl rfl (Nat.le_of_ble_eq_true rfl) hL (by omega) d_M_filter_36 (fun H51 locs u52 hL => ?_)
        have m53 := md_thr (th2 := 1) hM u52
        have k0 : va_at D vwCl (b, .inr (6, [.int (1), .int (nI n), .ref (b + 1), .ref (b + 2), .ref (b + 3), .ref (b + 4), .ref (b + 5), .ref (b + 6), .ref (b + 7), .ref (b + 8), .ref (b + 9), .ref (b + 10), .ref (b + 11), .ref (b + 12), .ref (b + 13), .ref (b + 14), .ref (b + 15), .ref (b + 16), .ref (b + 17), .ref (b + 18), .ref (b + 19), .ref (b + 20), .ref (b + 21), .ref (b + 22), .ref (b + 23), .ref (b + 24), .ref (b + 25), .ref (b + 26), .ref (b + 27), .ref (b + 28), .ref (b + 29), .ref (b + 30)])) H51 := m53 0 (by decide)
        refine lv_aload_n C.1 C.2.1 d_M_filter_39 rfl (lv_at hl 0 rfl) ?_
        refine hq_get (v := .int (1)) C f_M_105 k0 rfl d_M_filter_40 ?_
        refine lv_if_ne (tgt := 60) C.1 C.2.1 d_M_filter_43 (by decide) (fun _ => ?_) (fun hn => absurd hn (by decide))
        have hf : f_M_filter A j a g = (A, 1) := by unfold f_M_filter; rw [if_neg c42, if_neg c46, if_pos c50]
        exact hq_vret C hret hlk (Nat.le_of_ble_eq_true rfl) (Nat.le_of_ble_eq_true rfl) hL ⟨rfl, by rw [hf]; exact m53, hq_Sput (hq_S0) u52 (by omega) (by omega)⟩ d_M_filter_60
      · intro c50
        refine lv_iload_n C.1 C.2.1 d_M_filter_24 rfl (lv_at hl 3 rfl) ?_
        refine lv_sipush (v := 2047) C.1 C.2.1 d_M_filter_25 (by decide) ?_
        refine lv_icmp_le (tgt := 35) C.1 C.2.1 d_M_filter_28 (by decide) ?_ ?_
        · intro c54
          refine lv_iconst (v := 0) C.1 C.2.1 d_M_filter_35 (by decide) ?_
          refine hq_put (lo := lo) C f_M_105 k0 rfl rfl (Nat.le_of_ble_eq_true rfl) hL (by omega) d_M_filter_36 (fun H55 locs u56 hL => ?_)
          have m57 := md_thr (th2 := 0) hM u56
          have k0 : va_at D vwCl (b, .inr (6, [.int (0), .int (nI n), .ref (b + 1), .ref (b + 2), .ref (b + 3), .ref (b + 4), .ref (b + 5), .ref (b + 6), .ref (b + 7), .ref (b + 8), .ref (b + 9), .ref (b + 10), .ref (b + 11), .ref (b + 12), .ref (b + 13), .ref (b + 14), .ref (b + 15), .ref (b + 16), .ref (b + 17), .ref (b + 18), .ref (b + 19), .ref (b + 20), .ref (b + 21), .ref (b + 22), .ref (b + 23), .ref (b + 24), .ref (b + 25), .ref (b + 26), .ref (b + 27), .ref (b + 28), .ref (b + 29), .ref (b + 30)])) H55 := m57 0 (by decide)
          refine lv_aload_n C.1 C.2.1 d_M_filter_39 rfl (lv_at hl 0 rfl) ?_
          refine hq_get (v := .int (0)) C f_M_105 k0 rfl d_M_filter_40 ?_
          refine lv_if_ne (tgt := 60) C.1 C.2.1 d_M_filter_43 (by decide) (fun hn => absurd hn (by decide)) (fun _ => ?_)
          refine lv_aload_n C.1 C.2.1 d_M_filter_46 rfl (lv_at hl 0 rfl) ?_
          refine hq_get (v := .ref (b + 7)) C f_M_29 k0 rfl d_M_filter_47 ?_
          refine lv_iload_n C.1 C.2.1 d_M_filter_50 rfl (lv_at hl 1 rfl) ?_
          refine lv_iload_n C.1 C.2.1 d_M_filter_51 rfl (lv_at hl 2 rfl) ?_
          have e58 : va_at D vwCl (b + 7, .inl (cI, 4, .inl (A 6))) _ := m57 7 (by decide)
          refine hq_iast (lo := lo) C 0 rfl e58 (vp_in_nI hj (by decide)) hL (by omega) d_M_filter_52 (fun H59 locs u60 hL => ?_)
          rw [nI_clamp (show j < 2 ^ 31 by omega)] at u60
          have m61 := md_set (k := 6) (f := upd (A 6) j a) m57 u60
          have k0 : va_at D vwCl (b, .inr (6, [.int (0), .int (nI n), .ref (b + 1), .ref (b + 2), .ref (b + 3), .ref (b + 4), .ref (b + 5), .ref (b + 6), .ref (b + 7), .ref (b + 8), .ref (b + 9), .ref (b + 10), .ref (b + 11), .ref (b + 12), .ref (b + 13), .ref (b + 14), .ref (b + 15), .ref (b + 16), .ref (b + 17), .ref (b + 18), .ref (b + 19), .ref (b + 20), .ref (b + 21), .ref (b + 22), .ref (b + 23), .ref (b + 24), .ref (b + 25), .ref (b + 26), .ref (b + 27), .ref (b + 28), .ref (b + 29), .ref (b + 30)])) H59 := m61 0 (by decide)
          refine lv_aload_n C.1 C.2.1 d_M_filter_53 rfl (lv_at hl 0 rfl) ?_
          refine hq_get (v := .ref (b + 8)) C f_M_32 k0 rfl d_M_filter_54 ?_
          refine lv_iload_n C.1 C.2.1 d_M_filter_57 rfl (lv_at hl 1 rfl) ?_
          refine lv_iload_n C.1 C.2.1 d_M_filter_58 rfl (lv_at hl 3 rfl) ?_
          have e62 : va_at D vwCl (b + 8, .inl (cI, 4, .inl (A 7))) _ := m61 8 (by decide)
          refine hq_iast (lo := lo) C 0 rfl e62 (vp_in_nI hj (by decide)) hL (by omega) d_M_filter_59 (fun H63 locs u64 hL => ?_)
          rw [nI_clamp (show j < 2 ^ 31 by omega)] at u64
          have m65 := md_set (k := 7) (f := upd (A 7) j g) m61 u64
          have k0 : va_at D vwCl (b, .inr (6, [.int (0), .int (nI n), .ref (b + 1), .ref (b + 2), .ref (b + 3), .ref (b + 4), .ref (b + 5), .ref (b + 6), .ref (b + 7), .ref (b + 8), .ref (b + 9), .ref (b + 10), .ref (b + 11), .ref (b + 12), .ref (b + 13), .ref (b + 14), .ref (b + 15), .ref (b + 16), .ref (b + 17), .ref (b + 18), .ref (b + 19), .ref (b + 20), .ref (b + 21), .ref (b + 22), .ref (b + 23), .ref (b + 24), .ref (b + 25), .ref (b + 26), .ref (b + 27), .ref (b + 28), .ref (b + 29), .ref (b + 30)])) H63 := m65 0 (by decide)
          have hf : f_M_filter A j a g = ((setA (setA A 6 (upd (A 6) j a)) 7 (upd (A 7) j g)), 0) := by unfold f_M_filter; rw [if_neg c42, if_neg c46, if_neg c50, if_pos c54]
          exact hq_vret C hret hlk (Nat.le_of_ble_eq_true rfl) (Nat.le_of_ble_eq_true rfl) hL ⟨rfl, by rw [hf]; exact m65, hq_Sput (hq_Sput (hq_Sput (hq_S0) u56 (by omega) (by omega)) u60 (by omega) (by omega)) u64 (by omega) (by omega)⟩ d_M_filter_60
        · intro c54
          refine lv_iconst (v := 1) C.1 C.2.1 d_M_filter_31 (by decide) ?_
          refine lv_goto (tgt := 36) C.1 C.2.1 d_M_filter_32 (by decide) ?_
          refine hq_put (lo := lo) C f_M_105 k0 rfl rfl (Nat.le_of_ble_eq_true rfl) hL (by omega) d_M_filter_36 (fun H66 locs u67 hL => ?_)
          have m68 := md_thr (th2 := 1) hM u67
          have k0 : va_at D vwCl (b, .inr (6, [.int (1), .int (nI n), .ref (b + 1), .ref (b + 2), .ref (b + 3), .ref (b + 4), .ref (b + 5), .ref (b + 6), .ref (b + 7), .ref (b + 8), .ref (b + 9), .ref (b + 10), .ref (b + 11), .ref (b + 12), .ref (b + 13), .ref (b + 14), .ref (b + 15), .ref (b + 16), .ref (b + 17), .ref (b + 18), .ref (b + 19), .ref (b + 20), .ref (b + 21), .ref (b + 22), .ref (b + 23), .ref (b + 24), .ref (b + 25), .ref (b + 26), .ref (b + 27), .ref (b + 28), .ref (b + 29), .ref (b + 30)])) H66 := m68 0 (by decide)
          refine lv_aload_n C.1 C.2.1 d_M_filter_39 rfl (lv_at hl 0 rfl) ?_
          refine hq_get (v := .int (1)) C f_M_105 k0 rfl d_M_filter_40 ?_
          refine lv_if_ne (tgt := 60) C.1 C.2.1 d_M_filter_43 (by decide) (fun _ => ?_) (fun hn => absurd hn (by decide))
          have hf : f_M_filter A j a g = (A, 1) := by unfold f_M_filter; rw [if_neg c42, if_neg c46, if_neg c50, if_neg c54]
          exact hq_vret C hret hlk (Nat.le_of_ble_eq_true rfl) (Nat.le_of_ble_eq_true rfl) hL ⟨rfl, by rw [hf]; exact m68, hq_Sput (hq_S0) u67 (by omega) (by omega)⟩ d_M_filter_60
set_option maxHeartbeats 4000000 in
set_option maxRecDepth 100000 in
theorem ok_M_filter (A : Nat → Nat → Int32) (j : Nat) (hj : j < 4) (a g : Int32) (ok : okA A) : okA (f_M_filter A j a g).1 := by
  unfold f_M_filter
  by_cases c42 : a < 0
  · rw [if_pos c42]
    exact ok
  · rw [if_neg c42]
    by_cases c46 : 2047 < a
    · rw [if_pos c46]
      exact ok
    · rw [if_neg c46]
      by_cases c50 : g < 0
      · rw [if_pos c50]
        exact ok
      · rw [if_neg c50]
        by_cases c54 : g ≤ 2047
        · rw [if_pos c54]
          exact (okA_o (by decide) (okA_o (by decide) ok))
        · rw [if_neg c54]
          exact ok
set_option maxHeartbeats 4000000 in
set_option maxRecDepth 100000 in
theorem t0_M_filter (A : Nat → Nat → Int32) (j : Nat) (hj : j < 4) (a g : Int32) : (f_M_filter A j a g).1 0 0 = A 0 0 := by
  unfold f_M_filter
  by_cases c42 : a < 0
  · rw [if_pos c42]
    all_goals rfl
  · rw [if_neg c42]
    by_cases c46 : 2047 < a
    · rw [if_pos c46]
      all_goals rfl
    · rw [if_neg c46]
      by_cases c50 : g < 0
      · rw [if_pos c50]
        all_goals rfl
      · rw [if_neg c50]
        by_cases c54 : g ≤ 2047
        · rw [if_pos c54]
          all_goals rfl
        · rw [if_neg c54]
          all_goals rfl
def f_M_filter_n (A : Nat → Nat → Int32) (v a g : Int32) : (Nat → Nat → Int32) × Int32 := (A, 1)
set_option maxHeartbeats 4000000 in
set_option maxRecDepth 100000 in
theorem c_M_filter_n (l : Launch) (D : va_G) (cI cZ cN cJ : ClassId) (lo : Nat) (b n : Nat) (hlo : lo ≤ b) (th : Int32) (A : Nat → Nat → Int32) (v a g : Int32) (hb : v < 0 ∨ ¬ v < nI n) : hq_M l y_M_filter b_M_filter 4 none TB { frames := 1, cells := 0, slots := 0, locals := 25 } lo D vwCl (TY cI cZ cN cJ) [.ref (b), .int (v), .int (a), .int (g)] (fun U => hq_B D vwCl b 31 (mdC cI cZ b th (nI n) A) U.heap) (fun H v9 H' => v9 = none ∧ hq_B D vwCl b 31 (mdC cI cZ b ((f_M_filter_n A v a g).2) (nI n) (f_M_filter_n A v a g).1) H' ∧ hq_S b 31 H H') := by
  refine hq_ofW (by decide) (Nat.le_of_ble_eq_true rfl) ?_
  intro p e s m below meth c ls C hml hret hlk hnm hl hP
  have hL : hq_L lo [] := hq_L0
  have hl : lv_has ls 4 [(0, .ref (b)), (1, .int (v)), (2, .int (a)), (3, .int (g))] := hl
  have hM : hq_B D vwCl b 31 (mdC cI cZ b th (nI n) A) s.heap := hP
  have k0 : va_at D vwCl (b, .inr (6, [.int (th), .int (nI n), .ref (b + 1), .ref (b + 2), .ref (b + 3), .ref (b + 4), .ref (b + 5), .ref (b + 6), .ref (b + 7), .ref (b + 8), .ref (b + 9), .ref (b + 10), .ref (b + 11), .ref (b + 12), .ref (b + 13), .ref (b + 14), .ref (b + 15), .ref (b + 16), .ref (b + 17), .ref (b + 18), .ref (b + 19), .ref (b + 20), .ref (b + 21), .ref (b + 22), .ref (b + 23), .ref (b + 24), .ref (b + 25), .ref (b + 26), .ref (b + 27), .ref (b + 28), .ref (b + 29), .ref (b + 30)])) s.heap := hM 0 (by decide)
  refine lv_aload_n C.1 C.2.1 d_M_filter_0 rfl (lv_at hl 0 rfl) ?_
  refine lv_aload_n C.1 C.2.1 d_M_filter_1 rfl (lv_at hl 0 rfl) ?_
  refine lv_iload_n C.1 C.2.1 d_M_filter_2 rfl (lv_at hl 1 rfl) ?_
  refine hq_callV (lo := lo) (As := [.int (v)]) (rest := [.ref (b)]) C tb_good hml Y_M_108 (c_noNode l D cI cZ cN cJ lo b n th v) k0 rfl (fun _ _ _ _ h => h) (fun U hU hW => by show va_at D vwCl (b, .inr (6, [.int (th), .int (nI n), .ref (b + 1), .ref (b + 2), .ref (b + 3), .ref (b + 4), .ref (b + 5), .ref (b + 6), .ref (b + 7), .ref (b + 8), .ref (b + 9), .ref (b + 10), .ref (b + 11), .ref (b + 12), .ref (b + 13), .ref (b + 14), .ref (b + 15), .ref (b + 16), .ref (b + 17), .ref (b + 18), .ref (b + 19), .ref (b + 20), .ref (b + 21), .ref (b + 22), .ref (b + 23), .ref (b + 24), .ref (b + 25), .ref (b + 26), .ref (b + 27), .ref (b + 28), .ref (b + 29), .ref (b + 30)])) U.heap; rw [hU]; exact k0) hL hl.1 rfl rfl ⟨⟨Nat.le_of_ble_eq_true rfl, Nat.le_of_ble_eq_true rfl⟩, Nat.le_of_ble_eq_true rfl, Nat.le_of_ble_eq_true rfl⟩ (Nat.le_of_ble_eq_true rfl) d_M_filter_3 (fun v H41 locs hp hL => ?_)
  obtain ⟨rfl, rfl⟩ := hp
  refine W.eq (g2 := F0 m 6 ls [.int (nno n v), .ref (b)]) rfl ?_
  rw [nno_bad hb]
  refine lv_if_ne (tgt := 31) C.1 C.2.1 d_M_filter_6 (by decide) (fun _ => ?_) (fun hn => absurd hn (by decide))
  refine lv_iconst (v := 1) C.1 C.2.1 d_M_filter_31 (by decide) ?_
  refine lv_goto (tgt := 36) C.1 C.2.1 d_M_filter_32 (by decide) ?_
  refine hq_put (lo := lo) C f_M_105 k0 rfl rfl (Nat.le_of_ble_eq_true rfl) hL (by omega) d_M_filter_36 (fun H42 locs u43 hL => ?_)
  have m44 := md_thr (th2 := 1) hM u43
  have k0 : va_at D vwCl (b, .inr (6, [.int (1), .int (nI n), .ref (b + 1), .ref (b + 2), .ref (b + 3), .ref (b + 4), .ref (b + 5), .ref (b + 6), .ref (b + 7), .ref (b + 8), .ref (b + 9), .ref (b + 10), .ref (b + 11), .ref (b + 12), .ref (b + 13), .ref (b + 14), .ref (b + 15), .ref (b + 16), .ref (b + 17), .ref (b + 18), .ref (b + 19), .ref (b + 20), .ref (b + 21), .ref (b + 22), .ref (b + 23), .ref (b + 24), .ref (b + 25), .ref (b + 26), .ref (b + 27), .ref (b + 28), .ref (b + 29), .ref (b + 30)])) H42 := m44 0 (by decide)
  refine lv_aload_n C.1 C.2.1 d_M_filter_39 rfl (lv_at hl 0 rfl) ?_
  refine hq_get (v := .int (1)) C f_M_105 k0 rfl d_M_filter_40 ?_
  refine lv_if_ne (tgt := 60) C.1 C.2.1 d_M_filter_43 (by decide) (fun _ => ?_) (fun hn => absurd hn (by decide))
  have hf : f_M_filter_n A v a g = (A, 1) := rfl
  exact hq_vret C hret hlk (Nat.le_of_ble_eq_true rfl) (Nat.le_of_ble_eq_true rfl) hL ⟨rfl, by rw [hf]; exact m44, hq_Sput (hq_S0) u43 (by omega) (by omega)⟩ d_M_filter_60
set_option maxHeartbeats 4000000 in
set_option maxRecDepth 100000 in
theorem ok_M_filter_n (A : Nat → Nat → Int32) (v a g : Int32) (ok : okA A) : okA (f_M_filter_n A v a g).1 := by
  exact ok
set_option maxHeartbeats 4000000 in
set_option maxRecDepth 100000 in
theorem t0_M_filter_n (A : Nat → Nat → Int32) (v a g : Int32) : (f_M_filter_n A v a g).1 0 0 = A 0 0 := by
  all_goals rfl
def f_M_disturb (A : Nat → Nat → Int32) (j : Nat) (a : Int32) : (Nat → Nat → Int32) × Int32 := if a < 1 then ((A, 1)) else (if a ≤ 200 then (((setA A 2 (upd (A 2) ((256 * (nI j)) + (((A 0 0) + a) - ((A 0 0) + a) / 256 * 256)).toNatClampNeg (vp_nar .boolean 1))), 0)) else ((A, 1)))
set_option maxHeartbeats 4000000 in
set_option maxRecDepth 100000 in
theorem c_M_disturb (l : Launch) (D : va_G) (cI cZ cN cJ : ClassId) (lo : Nat) (b n : Nat) (hlo : lo ≤ b) (th : Int32) (A : Nat → Nat → Int32) (j : Nat) (hj : j < 4) (a : Int32) (hn : n ≤ 4) (hjn : j < n) (k : Nat) (hk : A 0 0 = nI k) (hk2 : k < 2 ^ 30) : hq_M l y_M_disturb b_M_disturb 3 none TB { frames := 1, cells := 0, slots := 0, locals := 25 } lo D vwCl (TY cI cZ cN cJ) [.ref (b), .int (nI j), .int (a)] (fun U => hq_B D vwCl b 31 (mdC cI cZ b th (nI n) A) U.heap) (fun H v9 H' => v9 = none ∧ hq_B D vwCl b 31 (mdC cI cZ b ((f_M_disturb A j a).2) (nI n) (f_M_disturb A j a).1) H' ∧ hq_S b 31 H H') := by
  refine hq_ofW (by decide) (Nat.le_of_ble_eq_true rfl) ?_
  intro p e s m below meth c ls C hml hret hlk hnm hl hP
  have hL : hq_L lo [] := hq_L0
  have hl : lv_has ls 3 [(0, .ref (b)), (1, .int (nI j)), (2, .int (a))] := hl
  have hM : hq_B D vwCl b 31 (mdC cI cZ b th (nI n) A) s.heap := hP
  have k0 : va_at D vwCl (b, .inr (6, [.int (th), .int (nI n), .ref (b + 1), .ref (b + 2), .ref (b + 3), .ref (b + 4), .ref (b + 5), .ref (b + 6), .ref (b + 7), .ref (b + 8), .ref (b + 9), .ref (b + 10), .ref (b + 11), .ref (b + 12), .ref (b + 13), .ref (b + 14), .ref (b + 15), .ref (b + 16), .ref (b + 17), .ref (b + 18), .ref (b + 19), .ref (b + 20), .ref (b + 21), .ref (b + 22), .ref (b + 23), .ref (b + 24), .ref (b + 25), .ref (b + 26), .ref (b + 27), .ref (b + 28), .ref (b + 29), .ref (b + 30)])) s.heap := hM 0 (by decide)
  refine lv_aload_n C.1 C.2.1 d_M_disturb_0 rfl (lv_at hl 0 rfl) ?_
  refine lv_aload_n C.1 C.2.1 d_M_disturb_1 rfl (lv_at hl 0 rfl) ?_
  refine lv_iload_n C.1 C.2.1 d_M_disturb_2 rfl (lv_at hl 1 rfl) ?_
  refine hq_callV (lo := lo) (As := [.int (nI j)]) (rest := [.ref (b)]) C tb_good hml Y_M_108 (c_noNode l D cI cZ cN cJ lo b n th (nI j)) k0 rfl (fun _ _ _ _ h => h) (fun U hU hW => by show va_at D vwCl (b, .inr (6, [.int (th), .int (nI n), .ref (b + 1), .ref (b + 2), .ref (b + 3), .ref (b + 4), .ref (b + 5), .ref (b + 6), .ref (b + 7), .ref (b + 8), .ref (b + 9), .ref (b + 10), .ref (b + 11), .ref (b + 12), .ref (b + 13), .ref (b + 14), .ref (b + 15), .ref (b + 16), .ref (b + 17), .ref (b + 18), .ref (b + 19), .ref (b + 20), .ref (b + 21), .ref (b + 22), .ref (b + 23), .ref (b + 24), .ref (b + 25), .ref (b + 26), .ref (b + 27), .ref (b + 28), .ref (b + 29), .ref (b + 30)])) U.heap; rw [hU]; exact k0) hL hl.1 rfl rfl ⟨⟨Nat.le_of_ble_eq_true rfl, Nat.le_of_ble_eq_true rfl⟩, Nat.le_of_ble_eq_true rfl, Nat.le_of_ble_eq_true rfl⟩ (Nat.le_of_ble_eq_true rfl) d_M_disturb_3 (fun v H41 locs hp hL => ?_)
  obtain ⟨rfl, rfl⟩ := hp
  refine W.eq (g2 := F0 m 6 ls [.int (nno n (nI j)), .ref (b)]) rfl ?_
  rw [nno_ok hn hjn]
  refine lv_if_ne (tgt := 21) C.1 C.2.1 d_M_disturb_6 (by decide) (fun hn => absurd hn (by decide)) (fun _ => ?_)
  refine lv_iload_n C.1 C.2.1 d_M_disturb_9 rfl (lv_at hl 2 rfl) ?_
  refine lv_iconst (v := 1) C.1 C.2.1 d_M_disturb_10 (by decide) ?_
  refine lv_icmp_lt (tgt := 21) C.1 C.2.1 d_M_disturb_11 (by decide) ?_ ?_
  · intro c42
    refine lv_iconst (v := 1) C.1 C.2.1 d_M_disturb_21 (by decide) ?_
    refine lv_goto (tgt := 26) C.1 C.2.1 d_M_disturb_22 (by decide) ?_
    refine hq_put (lo := lo) C f_M_105 k0 rfl rfl (Nat.le_of_ble_eq_true rfl) hL (by omega) d_M_disturb_26 (fun H43 locs u44 hL => ?_)
    have m45 := md_thr (th2 := 1) hM u44
    have k0 : va_at D vwCl (b, .inr (6, [.int (1), .int (nI n), .ref (b + 1), .ref (b + 2), .ref (b + 3), .ref (b + 4), .ref (b + 5), .ref (b + 6), .ref (b + 7), .ref (b + 8), .ref (b + 9), .ref (b + 10), .ref (b + 11), .ref (b + 12), .ref (b + 13), .ref (b + 14), .ref (b + 15), .ref (b + 16), .ref (b + 17), .ref (b + 18), .ref (b + 19), .ref (b + 20), .ref (b + 21), .ref (b + 22), .ref (b + 23), .ref (b + 24), .ref (b + 25), .ref (b + 26), .ref (b + 27), .ref (b + 28), .ref (b + 29), .ref (b + 30)])) H43 := m45 0 (by decide)
    refine lv_aload_n C.1 C.2.1 d_M_disturb_29 rfl (lv_at hl 0 rfl) ?_
    refine hq_get (v := .int (1)) C f_M_105 k0 rfl d_M_disturb_30 ?_
    refine lv_if_ne (tgt := 60) C.1 C.2.1 d_M_disturb_33 (by decide) (fun _ => ?_) (fun hn => absurd hn (by decide))
    have hf : f_M_disturb A j a = (A, 1) := by unfold f_M_disturb; rw [if_pos c42]
    exact hq_vret C hret hlk (Nat.le_of_ble_eq_true rfl) (Nat.le_of_ble_eq_true rfl) hL ⟨rfl, by rw [hf]; exact m45, hq_Sput (hq_S0) u44 (by omega) (by omega)⟩ d_M_disturb_60
  · intro c42
    refine lv_iload_n C.1 C.2.1 d_M_disturb_14 rfl (lv_at hl 2 rfl) ?_
    refine lv_sipush (v := 200) C.1 C.2.1 d_M_disturb_15 (by decide) ?_
    refine lv_icmp_le (tgt := 25) C.1 C.2.1 d_M_disturb_18 (by decide) ?_ ?_
    · intro c46
      refine lv_iconst (v := 0) C.1 C.2.1 d_M_disturb_25 (by decide) ?_
      refine hq_put (lo := lo) C f_M_105 k0 rfl rfl (Nat.le_of_ble_eq_true rfl) hL (by omega) d_M_disturb_26 (fun H47 locs u48 hL => ?_)
      have m49 := md_thr (th2 := 0) hM u48
      have k0 : va_at D vwCl (b, .inr (6, [.int (0), .int (nI n), .ref (b + 1), .ref (b + 2), .ref (b + 3), .ref (b + 4), .ref (b + 5), .ref (b + 6), .ref (b + 7), .ref (b + 8), .ref (b + 9), .ref (b + 10), .ref (b + 11), .ref (b + 12), .ref (b + 13), .ref (b + 14), .ref (b + 15), .ref (b + 16), .ref (b + 17), .ref (b + 18), .ref (b + 19), .ref (b + 20), .ref (b + 21), .ref (b + 22), .ref (b + 23), .ref (b + 24), .ref (b + 25), .ref (b + 26), .ref (b + 27), .ref (b + 28), .ref (b + 29), .ref (b + 30)])) H47 := m49 0 (by decide)
      refine lv_aload_n C.1 C.2.1 d_M_disturb_29 rfl (lv_at hl 0 rfl) ?_
      refine hq_get (v := .int (0)) C f_M_105 k0 rfl d_M_disturb_30 ?_
      refine lv_if_ne (tgt := 60) C.1 C.2.1 d_M_disturb_33 (by decide) (fun hn => absurd hn (by decide)) (fun _ => ?_)
      refine lv_aload_n C.1 C.2.1 d_M_disturb_36 rfl (lv_at hl 0 rfl) ?_
      refine hq_get (v := .ref (b + 3)) C f_M_16 k0 rfl d_M_disturb_37 ?_
      refine lv_sipush (v := 256) C.1 C.2.1 d_M_disturb_40 (by decide) ?_
      refine lv_iload_n C.1 C.2.1 d_M_disturb_43 rfl (lv_at hl 1 rfl) ?_
      refine lv_imul C.1 C.2.1 d_M_disturb_44 ?_
      refine lv_aload_n C.1 C.2.1 d_M_disturb_45 rfl (lv_at hl 0 rfl) ?_
      refine hq_get (v := .ref (b + 1)) C f_M_7 k0 rfl d_M_disturb_46 ?_
      refine lv_iconst (v := 0) C.1 C.2.1 d_M_disturb_49 (by decide) ?_
      have e50 : va_at D vwCl (b + 1, .inl (cI, 8, .inl (A 0))) _ := m49 1 (by decide)
      refine hq_iald C 0 rfl e50 (show vp_in (nI 0) 8 from vp_in_nI (by decide) (by decide)) d_M_disturb_50 ?_
      refine W.eq (g2 := F0 m 51 ls [.int (A 0 0), .int (256 * (nI j)), .ref (b + 3)]) rfl ?_
      refine lv_iload_n C.1 C.2.1 d_M_disturb_51 rfl (lv_at hl 2 rfl) ?_
      refine lv_iadd C.1 C.2.1 d_M_disturb_52 ?_
      refine lv_sipush (v := 256) C.1 C.2.1 d_M_disturb_53 (by decide) ?_
      refine lv_irem C.1 C.2.1 d_M_disturb_56 (by decide) ?_
      refine lv_iadd C.1 C.2.1 d_M_disturb_57 ?_
      refine lv_iconst (v := 1) C.1 C.2.1 d_M_disturb_58 (by decide) ?_
      have e51 : va_at D vwCl (b + 3, .inl (cZ, 1024, .inl (A 2))) _ := m49 3 (by decide)
      refine hq_zast (lo := lo) C 1 rfl e51 (in_ds hj hk hk2 c42 c46) hL (by omega) d_M_disturb_59 (fun H52 locs u53 hL => ?_)
      have m54 := md_set (k := 2) (f := upd (A 2) ((256 * (nI j)) + (((A 0 0) + a) - ((A 0 0) + a) / 256 * 256)).toNatClampNeg (vp_nar .boolean 1)) m49 u53
      have k0 : va_at D vwCl (b, .inr (6, [.int (0), .int (nI n), .ref (b + 1), .ref (b + 2), .ref (b + 3), .ref (b + 4), .ref (b + 5), .ref (b + 6), .ref (b + 7), .ref (b + 8), .ref (b + 9), .ref (b + 10), .ref (b + 11), .ref (b + 12), .ref (b + 13), .ref (b + 14), .ref (b + 15), .ref (b + 16), .ref (b + 17), .ref (b + 18), .ref (b + 19), .ref (b + 20), .ref (b + 21), .ref (b + 22), .ref (b + 23), .ref (b + 24), .ref (b + 25), .ref (b + 26), .ref (b + 27), .ref (b + 28), .ref (b + 29), .ref (b + 30)])) H52 := m54 0 (by decide)
      have hf : f_M_disturb A j a = ((setA A 2 (upd (A 2) ((256 * (nI j)) + (((A 0 0) + a) - ((A 0 0) + a) / 256 * 256)).toNatClampNeg (vp_nar .boolean 1))), 0) := by unfold f_M_disturb; rw [if_neg c42, if_pos c46]
      exact hq_vret C hret hlk (Nat.le_of_ble_eq_true rfl) (Nat.le_of_ble_eq_true rfl) hL ⟨rfl, by rw [hf]; exact m54, hq_Sput (hq_Sput (hq_S0) u48 (by omega) (by omega)) u53 (by omega) (by omega)⟩ d_M_disturb_60
    · intro c46
      refine lv_iconst (v := 1) C.1 C.2.1 d_M_disturb_21 (by decide) ?_
      refine lv_goto (tgt := 26) C.1 C.2.1 d_M_disturb_22 (by decide) ?_
      refine hq_put (lo := lo) C f_M_105 k0 rfl rfl (Nat.le_of_ble_eq_true rfl) hL (by omega) d_M_disturb_26 (fun H55 locs u56 hL => ?_)
      have m57 := md_thr (th2 := 1) hM u56
      have k0 : va_at D vwCl (b, .inr (6, [.int (1), .int (nI n), .ref (b + 1), .ref (b + 2), .ref (b + 3), .ref (b + 4), .ref (b + 5), .ref (b + 6), .ref (b + 7), .ref (b + 8), .ref (b + 9), .ref (b + 10), .ref (b + 11), .ref (b + 12), .ref (b + 13), .ref (b + 14), .ref (b + 15), .ref (b + 16), .ref (b + 17), .ref (b + 18), .ref (b + 19), .ref (b + 20), .ref (b + 21), .ref (b + 22), .ref (b + 23), .ref (b + 24), .ref (b + 25), .ref (b + 26), .ref (b + 27), .ref (b + 28), .ref (b + 29), .ref (b + 30)])) H55 := m57 0 (by decide)
      refine lv_aload_n C.1 C.2.1 d_M_disturb_29 rfl (lv_at hl 0 rfl) ?_
      refine hq_get (v := .int (1)) C f_M_105 k0 rfl d_M_disturb_30 ?_
      refine lv_if_ne (tgt := 60) C.1 C.2.1 d_M_disturb_33 (by decide) (fun _ => ?_) (fun hn => absurd hn (by decide))
      have hf : f_M_disturb A j a = (A, 1) := by unfold f_M_disturb; rw [if_neg c42, if_neg c46]
      exact hq_vret C hret hlk (Nat.le_of_ble_eq_true rfl) (Nat.le_of_ble_eq_true rfl) hL ⟨rfl, by rw [hf]; exact m57, hq_Sput (hq_S0) u56 (by omega) (by omega)⟩ d_M_disturb_60
set_option maxHeartbeats 4000000 in
set_option maxRecDepth 100000 in
theorem ok_M_disturb (A : Nat → Nat → Int32) (j : Nat) (hj : j < 4) (a : Int32) (k : Nat) (hk : A 0 0 = nI k) (hk2 : k < 2 ^ 30) (ok : okA A) : okA (f_M_disturb A j a).1 := by
  unfold f_M_disturb
  by_cases c42 : a < 1
  · rw [if_pos c42]
    exact ok
  · rw [if_neg c42]
    by_cases c46 : a ≤ 200
    · rw [if_pos c46]
      exact (okA_o (by decide) ok)
    · rw [if_neg c46]
      exact ok
set_option maxHeartbeats 4000000 in
set_option maxRecDepth 100000 in
theorem t0_M_disturb (A : Nat → Nat → Int32) (j : Nat) (hj : j < 4) (a : Int32) : (f_M_disturb A j a).1 0 0 = A 0 0 := by
  unfold f_M_disturb
  by_cases c42 : a < 1
  · rw [if_pos c42]
    all_goals rfl
  · rw [if_neg c42]
    by_cases c46 : a ≤ 200
    · rw [if_pos c46]
      all_goals rfl
    · rw [if_neg c46]
      all_goals rfl
def f_M_disturb_n (A : Nat → Nat → Int32) (v a : Int32) : (Nat → Nat → Int32) × Int32 := (A, 1)
set_option maxHeartbeats 4000000 in
set_option maxRecDepth 100000 in
theorem c_M_disturb_n (l : Launch) (D : va_G) (cI cZ cN cJ : ClassId) (lo : Nat) (b n : Nat) (hlo : lo ≤ b) (th : Int32) (A : Nat → Nat → Int32) (v a : Int32) (hb : v < 0 ∨ ¬ v < nI n) : hq_M l y_M_disturb b_M_disturb 3 none TB { frames := 1, cells := 0, slots := 0, locals := 25 } lo D vwCl (TY cI cZ cN cJ) [.ref (b), .int (v), .int (a)] (fun U => hq_B D vwCl b 31 (mdC cI cZ b th (nI n) A) U.heap) (fun H v9 H' => v9 = none ∧ hq_B D vwCl b 31 (mdC cI cZ b ((f_M_disturb_n A v a).2) (nI n) (f_M_disturb_n A v a).1) H' ∧ hq_S b 31 H H') := by
  refine hq_ofW (by decide) (Nat.le_of_ble_eq_true rfl) ?_
  intro p e s m below meth c ls C hml hret hlk hnm hl hP
  have hL : hq_L lo [] := hq_L0
  have hl : lv_has ls 3 [(0, .ref (b)), (1, .int (v)), (2, .int (a))] := hl
  have hM : hq_B D vwCl b 31 (mdC cI cZ b th (nI n) A) s.heap := hP
  have k0 : va_at D vwCl (b, .inr (6, [.int (th), .int (nI n), .ref (b + 1), .ref (b + 2), .ref (b + 3), .ref (b + 4), .ref (b + 5), .ref (b + 6), .ref (b + 7), .ref (b + 8), .ref (b + 9), .ref (b + 10), .ref (b + 11), .ref (b + 12), .ref (b + 13), .ref (b + 14), .ref (b + 15), .ref (b + 16), .ref (b + 17), .ref (b + 18), .ref (b + 19), .ref (b + 20), .ref (b + 21), .ref (b + 22), .ref (b + 23), .ref (b + 24), .ref (b + 25), .ref (b + 26), .ref (b + 27), .ref (b + 28), .ref (b + 29), .ref (b + 30)])) s.heap := hM 0 (by decide)
  refine lv_aload_n C.1 C.2.1 d_M_disturb_0 rfl (lv_at hl 0 rfl) ?_
  refine lv_aload_n C.1 C.2.1 d_M_disturb_1 rfl (lv_at hl 0 rfl) ?_
  refine lv_iload_n C.1 C.2.1 d_M_disturb_2 rfl (lv_at hl 1 rfl) ?_
  refine hq_callV (lo := lo) (As := [.int (v)]) (rest := [.ref (b)]) C tb_good hml Y_M_108 (c_noNode l D cI cZ cN cJ lo b n th v) k0 rfl (fun _ _ _ _ h => h) (fun U hU hW => by show va_at D vwCl (b, .inr (6, [.int (th), .int (nI n), .ref (b + 1), .ref (b + 2), .ref (b + 3), .ref (b + 4), .ref (b + 5), .ref (b + 6), .ref (b + 7), .ref (b + 8), .ref (b + 9), .ref (b + 10), .ref (b + 11), .ref (b + 12), .ref (b + 13), .ref (b + 14), .ref (b + 15), .ref (b + 16), .ref (b + 17), .ref (b + 18), .ref (b + 19), .ref (b + 20), .ref (b + 21), .ref (b + 22), .ref (b + 23), .ref (b + 24), .ref (b + 25), .ref (b + 26), .ref (b + 27), .ref (b + 28), .ref (b + 29), .ref (b + 30)])) U.heap; rw [hU]; exact k0) hL hl.1 rfl rfl ⟨⟨Nat.le_of_ble_eq_true rfl, Nat.le_of_ble_eq_true rfl⟩, Nat.le_of_ble_eq_true rfl, Nat.le_of_ble_eq_true rfl⟩ (Nat.le_of_ble_eq_true rfl) d_M_disturb_3 (fun v H41 locs hp hL => ?_)
  obtain ⟨rfl, rfl⟩ := hp
  refine W.eq (g2 := F0 m 6 ls [.int (nno n v), .ref (b)]) rfl ?_
  rw [nno_bad hb]
  refine lv_if_ne (tgt := 21) C.1 C.2.1 d_M_disturb_6 (by decide) (fun _ => ?_) (fun hn => absurd hn (by decide))
  refine lv_iconst (v := 1) C.1 C.2.1 d_M_disturb_21 (by decide) ?_
  refine lv_goto (tgt := 26) C.1 C.2.1 d_M_disturb_22 (by decide) ?_
  refine hq_put (lo := lo) C f_M_105 k0 rfl rfl (Nat.le_of_ble_eq_true rfl) hL (by omega) d_M_disturb_26 (fun H42 locs u43 hL => ?_)
  have m44 := md_thr (th2 := 1) hM u43
  have k0 : va_at D vwCl (b, .inr (6, [.int (1), .int (nI n), .ref (b + 1), .ref (b + 2), .ref (b + 3), .ref (b + 4), .ref (b + 5), .ref (b + 6), .ref (b + 7), .ref (b + 8), .ref (b + 9), .ref (b + 10), .ref (b + 11), .ref (b + 12), .ref (b + 13), .ref (b + 14), .ref (b + 15), .ref (b + 16), .ref (b + 17), .ref (b + 18), .ref (b + 19), .ref (b + 20), .ref (b + 21), .ref (b + 22), .ref (b + 23), .ref (b + 24), .ref (b + 25), .ref (b + 26), .ref (b + 27), .ref (b + 28), .ref (b + 29), .ref (b + 30)])) H42 := m44 0 (by decide)
  refine lv_aload_n C.1 C.2.1 d_M_disturb_29 rfl (lv_at hl 0 rfl) ?_
  refine hq_get (v := .int (1)) C f_M_105 k0 rfl d_M_disturb_30 ?_
  refine lv_if_ne (tgt := 60) C.1 C.2.1 d_M_disturb_33 (by decide) (fun _ => ?_) (fun hn => absurd hn (by decide))
  have hf : f_M_disturb_n A v a = (A, 1) := rfl
  exact hq_vret C hret hlk (Nat.le_of_ble_eq_true rfl) (Nat.le_of_ble_eq_true rfl) hL ⟨rfl, by rw [hf]; exact m44, hq_Sput (hq_S0) u43 (by omega) (by omega)⟩ d_M_disturb_60
set_option maxHeartbeats 4000000 in
set_option maxRecDepth 100000 in
theorem ok_M_disturb_n (A : Nat → Nat → Int32) (v a : Int32) (ok : okA A) : okA (f_M_disturb_n A v a).1 := by
  exact ok
set_option maxHeartbeats 4000000 in
set_option maxRecDepth 100000 in
theorem t0_M_disturb_n (A : Nat → Nat → Int32) (v a : Int32) : (f_M_disturb_n A v a).1 0 0 = A 0 0 := by
  all_goals rfl
def f_M_state (A : Nat → Nat → Int32) (j : Nat) : (Nat → Nat → Int32) × Int32 × Int32 := (A, 0, A 3 j)
set_option maxHeartbeats 4000000 in
set_option maxRecDepth 100000 in
theorem c_M_state (l : Launch) (D : va_G) (cI cZ cN cJ : ClassId) (lo : Nat) (b n : Nat) (hlo : lo ≤ b) (th : Int32) (A : Nat → Nat → Int32) (j : Nat) (hj : j < 4) (hn : n ≤ 4) (hjn : j < n) : hq_M l y_M_state b_M_state 2 (some .int) TB { frames := 1, cells := 0, slots := 0, locals := 25 } lo D vwCl (TY cI cZ cN cJ) [.ref (b), .int (nI j)] (fun U => hq_B D vwCl b 31 (mdC cI cZ b th (nI n) A) U.heap) (fun H v9 H' => v9 = some (.int (f_M_state A j).2.2) ∧ hq_B D vwCl b 31 (mdC cI cZ b ((f_M_state A j).2.1) (nI n) (f_M_state A j).1) H' ∧ hq_S b 31 H H') := by
  refine hq_ofW (by decide) (Nat.le_of_ble_eq_true rfl) ?_
  intro p e s m below meth c ls C hml hret hlk hnm hl hP
  have hL : hq_L lo [] := hq_L0
  have hl : lv_has ls 2 [(0, .ref (b)), (1, .int (nI j))] := hl
  have hM : hq_B D vwCl b 31 (mdC cI cZ b th (nI n) A) s.heap := hP
  have k0 : va_at D vwCl (b, .inr (6, [.int (th), .int (nI n), .ref (b + 1), .ref (b + 2), .ref (b + 3), .ref (b + 4), .ref (b + 5), .ref (b + 6), .ref (b + 7), .ref (b + 8), .ref (b + 9), .ref (b + 10), .ref (b + 11), .ref (b + 12), .ref (b + 13), .ref (b + 14), .ref (b + 15), .ref (b + 16), .ref (b + 17), .ref (b + 18), .ref (b + 19), .ref (b + 20), .ref (b + 21), .ref (b + 22), .ref (b + 23), .ref (b + 24), .ref (b + 25), .ref (b + 26), .ref (b + 27), .ref (b + 28), .ref (b + 29), .ref (b + 30)])) s.heap := hM 0 (by decide)
  refine lv_aload_n C.1 C.2.1 d_M_state_0 rfl (lv_at hl 0 rfl) ?_
  refine lv_aload_n C.1 C.2.1 d_M_state_1 rfl (lv_at hl 0 rfl) ?_
  refine lv_iload_n C.1 C.2.1 d_M_state_2 rfl (lv_at hl 1 rfl) ?_
  refine hq_callV (lo := lo) (As := [.int (nI j)]) (rest := [.ref (b)]) C tb_good hml Y_M_108 (c_noNode l D cI cZ cN cJ lo b n th (nI j)) k0 rfl (fun _ _ _ _ h => h) (fun U hU hW => by show va_at D vwCl (b, .inr (6, [.int (th), .int (nI n), .ref (b + 1), .ref (b + 2), .ref (b + 3), .ref (b + 4), .ref (b + 5), .ref (b + 6), .ref (b + 7), .ref (b + 8), .ref (b + 9), .ref (b + 10), .ref (b + 11), .ref (b + 12), .ref (b + 13), .ref (b + 14), .ref (b + 15), .ref (b + 16), .ref (b + 17), .ref (b + 18), .ref (b + 19), .ref (b + 20), .ref (b + 21), .ref (b + 22), .ref (b + 23), .ref (b + 24), .ref (b + 25), .ref (b + 26), .ref (b + 27), .ref (b + 28), .ref (b + 29), .ref (b + 30)])) U.heap; rw [hU]; exact k0) hL hl.1 rfl rfl ⟨⟨Nat.le_of_ble_eq_true rfl, Nat.le_of_ble_eq_true rfl⟩, Nat.le_of_ble_eq_true rfl, Nat.le_of_ble_eq_true rfl⟩ (Nat.le_of_ble_eq_true rfl) d_M_state_3 (fun v H41 locs hp hL => ?_)
  obtain ⟨rfl, rfl⟩ := hp
  refine W.eq (g2 := F0 m 6 ls [.int (nno n (nI j)), .ref (b)]) rfl ?_
  rw [nno_ok hn hjn]
  refine lv_if_eq (tgt := 13) C.1 C.2.1 d_M_state_6 (by decide) (fun _ => ?_) (fun hn => absurd (by decide) hn)
  refine lv_iconst (v := 0) C.1 C.2.1 d_M_state_13 (by decide) ?_
  refine hq_put (lo := lo) C f_M_105 k0 rfl rfl (Nat.le_of_ble_eq_true rfl) hL (by omega) d_M_state_14 (fun H42 locs u43 hL => ?_)
  have m44 := md_thr (th2 := 0) hM u43
  have k0 : va_at D vwCl (b, .inr (6, [.int (0), .int (nI n), .ref (b + 1), .ref (b + 2), .ref (b + 3), .ref (b + 4), .ref (b + 5), .ref (b + 6), .ref (b + 7), .ref (b + 8), .ref (b + 9), .ref (b + 10), .ref (b + 11), .ref (b + 12), .ref (b + 13), .ref (b + 14), .ref (b + 15), .ref (b + 16), .ref (b + 17), .ref (b + 18), .ref (b + 19), .ref (b + 20), .ref (b + 21), .ref (b + 22), .ref (b + 23), .ref (b + 24), .ref (b + 25), .ref (b + 26), .ref (b + 27), .ref (b + 28), .ref (b + 29), .ref (b + 30)])) H42 := m44 0 (by decide)
  refine lv_aload_n C.1 C.2.1 d_M_state_17 rfl (lv_at hl 0 rfl) ?_
  refine hq_get (v := .int (0)) C f_M_105 k0 rfl d_M_state_18 ?_
  refine lv_if_ne (tgt := 33) C.1 C.2.1 d_M_state_21 (by decide) (fun hn => absurd hn (by decide)) (fun _ => ?_)
  refine lv_aload_n C.1 C.2.1 d_M_state_24 rfl (lv_at hl 0 rfl) ?_
  refine hq_get (v := .ref (b + 4)) C f_M_20 k0 rfl d_M_state_25 ?_
  refine lv_iload_n C.1 C.2.1 d_M_state_28 rfl (lv_at hl 1 rfl) ?_
  have e45 : va_at D vwCl (b + 4, .inl (cI, 4, .inl (A 3))) _ := m44 4 (by decide)
  refine hq_iald C 0 rfl e45 (vp_in_nI hj (by decide)) d_M_state_29 ?_
  rw [nI_clamp (show j < 2 ^ 31 by omega)]
  refine W.eq (g2 := F0 m 30 ls [.int (A 3 j)]) rfl ?_
  refine lv_goto (tgt := 34) C.1 C.2.1 d_M_state_30 (by decide) ?_
  have hf : f_M_state A j = (A, 0, A 3 j) := rfl
  exact hq_iret C hret hlk (Nat.le_of_ble_eq_true rfl) (Nat.le_of_ble_eq_true rfl) hL ⟨by rw [hf], by rw [hf]; exact m44, hq_Sput (hq_S0) u43 (by omega) (by omega)⟩ d_M_state_34
set_option maxHeartbeats 4000000 in
set_option maxRecDepth 100000 in
theorem ok_M_state (A : Nat → Nat → Int32) (j : Nat) (hj : j < 4) (ok : okA A) : okA (f_M_state A j).1 := by
  exact ok
set_option maxHeartbeats 4000000 in
set_option maxRecDepth 100000 in
theorem t0_M_state (A : Nat → Nat → Int32) (j : Nat) (hj : j < 4) : (f_M_state A j).1 0 0 = A 0 0 := by
  all_goals rfl
def f_M_state_n (A : Nat → Nat → Int32) (v : Int32) : (Nat → Nat → Int32) × Int32 × Int32 := (A, 1, 0)
set_option maxHeartbeats 4000000 in
set_option maxRecDepth 100000 in
theorem c_M_state_n (l : Launch) (D : va_G) (cI cZ cN cJ : ClassId) (lo : Nat) (b n : Nat) (hlo : lo ≤ b) (th : Int32) (A : Nat → Nat → Int32) (v : Int32) (hb : v < 0 ∨ ¬ v < nI n) : hq_M l y_M_state b_M_state 2 (some .int) TB { frames := 1, cells := 0, slots := 0, locals := 25 } lo D vwCl (TY cI cZ cN cJ) [.ref (b), .int (v)] (fun U => hq_B D vwCl b 31 (mdC cI cZ b th (nI n) A) U.heap) (fun H v9 H' => v9 = some (.int (f_M_state_n A v).2.2) ∧ hq_B D vwCl b 31 (mdC cI cZ b ((f_M_state_n A v).2.1) (nI n) (f_M_state_n A v).1) H' ∧ hq_S b 31 H H') := by
  refine hq_ofW (by decide) (Nat.le_of_ble_eq_true rfl) ?_
  intro p e s m below meth c ls C hml hret hlk hnm hl hP
  have hL : hq_L lo [] := hq_L0
  have hl : lv_has ls 2 [(0, .ref (b)), (1, .int (v))] := hl
  have hM : hq_B D vwCl b 31 (mdC cI cZ b th (nI n) A) s.heap := hP
  have k0 : va_at D vwCl (b, .inr (6, [.int (th), .int (nI n), .ref (b + 1), .ref (b + 2), .ref (b + 3), .ref (b + 4), .ref (b + 5), .ref (b + 6), .ref (b + 7), .ref (b + 8), .ref (b + 9), .ref (b + 10), .ref (b + 11), .ref (b + 12), .ref (b + 13), .ref (b + 14), .ref (b + 15), .ref (b + 16), .ref (b + 17), .ref (b + 18), .ref (b + 19), .ref (b + 20), .ref (b + 21), .ref (b + 22), .ref (b + 23), .ref (b + 24), .ref (b + 25), .ref (b + 26), .ref (b + 27), .ref (b + 28), .ref (b + 29), .ref (b + 30)])) s.heap := hM 0 (by decide)
  refine lv_aload_n C.1 C.2.1 d_M_state_0 rfl (lv_at hl 0 rfl) ?_
  refine lv_aload_n C.1 C.2.1 d_M_state_1 rfl (lv_at hl 0 rfl) ?_
  refine lv_iload_n C.1 C.2.1 d_M_state_2 rfl (lv_at hl 1 rfl) ?_
  refine hq_callV (lo := lo) (As := [.int (v)]) (rest := [.ref (b)]) C tb_good hml Y_M_108 (c_noNode l D cI cZ cN cJ lo b n th v) k0 rfl (fun _ _ _ _ h => h) (fun U hU hW => by show va_at D vwCl (b, .inr (6, [.int (th), .int (nI n), .ref (b + 1), .ref (b + 2), .ref (b + 3), .ref (b + 4), .ref (b + 5), .ref (b + 6), .ref (b + 7), .ref (b + 8), .ref (b + 9), .ref (b + 10), .ref (b + 11), .ref (b + 12), .ref (b + 13), .ref (b + 14), .ref (b + 15), .ref (b + 16), .ref (b + 17), .ref (b + 18), .ref (b + 19), .ref (b + 20), .ref (b + 21), .ref (b + 22), .ref (b + 23), .ref (b + 24), .ref (b + 25), .ref (b + 26), .ref (b + 27), .ref (b + 28), .ref (b + 29), .ref (b + 30)])) U.heap; rw [hU]; exact k0) hL hl.1 rfl rfl ⟨⟨Nat.le_of_ble_eq_true rfl, Nat.le_of_ble_eq_true rfl⟩, Nat.le_of_ble_eq_true rfl, Nat.le_of_ble_eq_true rfl⟩ (Nat.le_of_ble_eq_true rfl) d_M_state_3 (fun v H41 locs hp hL => ?_)
  obtain ⟨rfl, rfl⟩ := hp
  refine W.eq (g2 := F0 m 6 ls [.int (nno n v), .ref (b)]) rfl ?_
  rw [nno_bad hb]
  refine lv_if_eq (tgt := 13) C.1 C.2.1 d_M_state_6 (by decide) (fun hn => absurd hn (by decide)) (fun _ => ?_)
  refine lv_iconst (v := 1) C.1 C.2.1 d_M_state_9 (by decide) ?_
  refine lv_goto (tgt := 14) C.1 C.2.1 d_M_state_10 (by decide) ?_
  refine hq_put (lo := lo) C f_M_105 k0 rfl rfl (Nat.le_of_ble_eq_true rfl) hL (by omega) d_M_state_14 (fun H42 locs u43 hL => ?_)
  have m44 := md_thr (th2 := 1) hM u43
  have k0 : va_at D vwCl (b, .inr (6, [.int (1), .int (nI n), .ref (b + 1), .ref (b + 2), .ref (b + 3), .ref (b + 4), .ref (b + 5), .ref (b + 6), .ref (b + 7), .ref (b + 8), .ref (b + 9), .ref (b + 10), .ref (b + 11), .ref (b + 12), .ref (b + 13), .ref (b + 14), .ref (b + 15), .ref (b + 16), .ref (b + 17), .ref (b + 18), .ref (b + 19), .ref (b + 20), .ref (b + 21), .ref (b + 22), .ref (b + 23), .ref (b + 24), .ref (b + 25), .ref (b + 26), .ref (b + 27), .ref (b + 28), .ref (b + 29), .ref (b + 30)])) H42 := m44 0 (by decide)
  refine lv_aload_n C.1 C.2.1 d_M_state_17 rfl (lv_at hl 0 rfl) ?_
  refine hq_get (v := .int (1)) C f_M_105 k0 rfl d_M_state_18 ?_
  refine lv_if_ne (tgt := 33) C.1 C.2.1 d_M_state_21 (by decide) (fun _ => ?_) (fun hn => absurd hn (by decide))
  refine lv_iconst (v := 0) C.1 C.2.1 d_M_state_33 (by decide) ?_
  have hf : f_M_state_n A v = (A, 1, 0) := rfl
  exact hq_iret C hret hlk (Nat.le_of_ble_eq_true rfl) (Nat.le_of_ble_eq_true rfl) hL ⟨by rw [hf], by rw [hf]; exact m44, hq_Sput (hq_S0) u43 (by omega) (by omega)⟩ d_M_state_34
set_option maxHeartbeats 4000000 in
set_option maxRecDepth 100000 in
theorem ok_M_state_n (A : Nat → Nat → Int32) (v : Int32) (ok : okA A) : okA (f_M_state_n A v).1 := by
  exact ok
set_option maxHeartbeats 4000000 in
set_option maxRecDepth 100000 in
theorem t0_M_state_n (A : Nat → Nat → Int32) (v : Int32) : (f_M_state_n A v).1 0 0 = A 0 0 := by
  all_goals rfl
def f_M_count (A : Nat → Nat → Int32) (j : Nat) (a : Int32) : (Nat → Nat → Int32) × Int32 × Int32 := if a < 0 then ((A, 1, 0)) else (if a ≤ 4 then (if a = 0 then ((A, 0, A 4 j)) else (if a = 1 then ((A, 0, A 5 j)) else (if a = 2 then ((A, 0, A 9 j)) else (if a = 3 then ((A, 0, A 14 j)) else ((A, 0, A 8 j)))))) else ((A, 1, 0)))
set_option maxHeartbeats 4000000 in
set_option maxRecDepth 100000 in
theorem c_M_count (l : Launch) (D : va_G) (cI cZ cN cJ : ClassId) (lo : Nat) (b n : Nat) (hlo : lo ≤ b) (th : Int32) (A : Nat → Nat → Int32) (j : Nat) (hj : j < 4) (a : Int32) (hn : n ≤ 4) (hjn : j < n) : hq_M l y_M_count b_M_count 3 (some .int) TB { frames := 1, cells := 0, slots := 0, locals := 25 } lo D vwCl (TY cI cZ cN cJ) [.ref (b), .int (nI j), .int (a)] (fun U => hq_B D vwCl b 31 (mdC cI cZ b th (nI n) A) U.heap) (fun H v9 H' => v9 = some (.int (f_M_count A j a).2.2) ∧ hq_B D vwCl b 31 (mdC cI cZ b ((f_M_count A j a).2.1) (nI n) (f_M_count A j a).1) H' ∧ hq_S b 31 H H') := by
  refine hq_ofW (by decide) (Nat.le_of_ble_eq_true rfl) ?_
  intro p e s m below meth c ls C hml hret hlk hnm hl hP
  have hL : hq_L lo [] := hq_L0
  have hl : lv_has ls 3 [(0, .ref (b)), (1, .int (nI j)), (2, .int (a))] := hl
  have hM : hq_B D vwCl b 31 (mdC cI cZ b th (nI n) A) s.heap := hP
  have k0 : va_at D vwCl (b, .inr (6, [.int (th), .int (nI n), .ref (b + 1), .ref (b + 2), .ref (b + 3), .ref (b + 4), .ref (b + 5), .ref (b + 6), .ref (b + 7), .ref (b + 8), .ref (b + 9), .ref (b + 10), .ref (b + 11), .ref (b + 12), .ref (b + 13), .ref (b + 14), .ref (b + 15), .ref (b + 16), .ref (b + 17), .ref (b + 18), .ref (b + 19), .ref (b + 20), .ref (b + 21), .ref (b + 22), .ref (b + 23), .ref (b + 24), .ref (b + 25), .ref (b + 26), .ref (b + 27), .ref (b + 28), .ref (b + 29), .ref (b + 30)])) s.heap := hM 0 (by decide)
  refine lv_aload_n C.1 C.2.1 d_M_count_0 rfl (lv_at hl 0 rfl) ?_
  refine lv_aload_n C.1 C.2.1 d_M_count_1 rfl (lv_at hl 0 rfl) ?_
  refine lv_iload_n C.1 C.2.1 d_M_count_2 rfl (lv_at hl 1 rfl) ?_
  refine hq_callV (lo := lo) (As := [.int (nI j)]) (rest := [.ref (b)]) C tb_good hml Y_M_108 (c_noNode l D cI cZ cN cJ lo b n th (nI j)) k0 rfl (fun _ _ _ _ h => h) (fun U hU hW => by show va_at D vwCl (b, .inr (6, [.int (th), .int (nI n), .ref (b + 1), .ref (b + 2), .ref (b + 3), .ref (b + 4), .ref (b + 5), .ref (b + 6), .ref (b + 7), .ref (b + 8), .ref (b + 9), .ref (b + 10), .ref (b + 11), .ref (b + 12), .ref (b + 13), .ref (b + 14), .ref (b + 15), .ref (b + 16), .ref (b + 17), .ref (b + 18), .ref (b + 19), .ref (b + 20), .ref (b + 21), .ref (b + 22), .ref (b + 23), .ref (b + 24), .ref (b + 25), .ref (b + 26), .ref (b + 27), .ref (b + 28), .ref (b + 29), .ref (b + 30)])) U.heap; rw [hU]; exact k0) hL hl.1 rfl rfl ⟨⟨Nat.le_of_ble_eq_true rfl, Nat.le_of_ble_eq_true rfl⟩, Nat.le_of_ble_eq_true rfl, Nat.le_of_ble_eq_true rfl⟩ (Nat.le_of_ble_eq_true rfl) d_M_count_3 (fun v H41 locs hp hL => ?_)
  obtain ⟨rfl, rfl⟩ := hp
  refine W.eq (g2 := F0 m 6 ls [.int (nno n (nI j)), .ref (b)]) rfl ?_
  rw [nno_ok hn hjn]
  refine lv_if_ne (tgt := 18) C.1 C.2.1 d_M_count_6 (by decide) (fun hn => absurd hn (by decide)) (fun _ => ?_)
  refine lv_iload_n C.1 C.2.1 d_M_count_9 rfl (lv_at hl 2 rfl) ?_
  refine lv_if_lt (tgt := 18) C.1 C.2.1 d_M_count_10 (by decide) ?_ ?_
  · intro c42
    refine lv_iconst (v := 1) C.1 C.2.1 d_M_count_18 (by decide) ?_
    refine lv_goto (tgt := 23) C.1 C.2.1 d_M_count_19 (by decide) ?_
    refine hq_put (lo := lo) C f_M_105 k0 rfl rfl (Nat.le_of_ble_eq_true rfl) hL (by omega) d_M_count_23 (fun H43 locs u44 hL => ?_)
    have m45 := md_thr (th2 := 1) hM u44
    have k0 : va_at D vwCl (b, .inr (6, [.int (1), .int (nI n), .ref (b + 1), .ref (b + 2), .ref (b + 3), .ref (b + 4), .ref (b + 5), .ref (b + 6), .ref (b + 7), .ref (b + 8), .ref (b + 9), .ref (b + 10), .ref (b + 11), .ref (b + 12), .ref (b + 13), .ref (b + 14), .ref (b + 15), .ref (b + 16), .ref (b + 17), .ref (b + 18), .ref (b + 19), .ref (b + 20), .ref (b + 21), .ref (b + 22), .ref (b + 23), .ref (b + 24), .ref (b + 25), .ref (b + 26), .ref (b + 27), .ref (b + 28), .ref (b + 29), .ref (b + 30)])) H43 := m45 0 (by decide)
    refine lv_aload_n C.1 C.2.1 d_M_count_26 rfl (lv_at hl 0 rfl) ?_
    refine hq_get (v := .int (1)) C f_M_105 k0 rfl d_M_count_27 ?_
    refine lv_if_eq (tgt := 35) C.1 C.2.1 d_M_count_30 (by decide) (fun hn => absurd hn (by decide)) (fun _ => ?_)
    refine lv_iconst (v := 0) C.1 C.2.1 d_M_count_33 (by decide) ?_
    have hf : f_M_count A j a = (A, 1, 0) := by unfold f_M_count; rw [if_pos c42]
    exact hq_iret C hret hlk (Nat.le_of_ble_eq_true rfl) (Nat.le_of_ble_eq_true rfl) hL ⟨by rw [hf], by rw [hf]; exact m45, hq_Sput (hq_S0) u44 (by omega) (by omega)⟩ d_M_count_34
  · intro c42
    refine lv_iload_n C.1 C.2.1 d_M_count_13 rfl (lv_at hl 2 rfl) ?_
    refine lv_iconst (v := 4) C.1 C.2.1 d_M_count_14 (by decide) ?_
    refine lv_icmp_le (tgt := 22) C.1 C.2.1 d_M_count_15 (by decide) ?_ ?_
    · intro c46
      refine lv_iconst (v := 0) C.1 C.2.1 d_M_count_22 (by decide) ?_
      refine hq_put (lo := lo) C f_M_105 k0 rfl rfl (Nat.le_of_ble_eq_true rfl) hL (by omega) d_M_count_23 (fun H47 locs u48 hL => ?_)
      have m49 := md_thr (th2 := 0) hM u48
      have k0 : va_at D vwCl (b, .inr (6, [.int (0), .int (nI n), .ref (b + 1), .ref (b + 2), .ref (b + 3), .ref (b + 4), .ref (b + 5), .ref (b + 6), .ref (b + 7), .ref (b + 8), .ref (b + 9), .ref (b + 10), .ref (b + 11), .ref (b + 12), .ref (b + 13), .ref (b + 14), .ref (b + 15), .ref (b + 16), .ref (b + 17), .ref (b + 18), .ref (b + 19), .ref (b + 20), .ref (b + 21), .ref (b + 22), .ref (b + 23), .ref (b + 24), .ref (b + 25), .ref (b + 26), .ref (b + 27), .ref (b + 28), .ref (b + 29), .ref (b + 30)])) H47 := m49 0 (by decide)
      refine lv_aload_n C.1 C.2.1 d_M_count_26 rfl (lv_at hl 0 rfl) ?_
      refine hq_get (v := .int (0)) C f_M_105 k0 rfl d_M_count_27 ?_
      refine lv_if_eq (tgt := 35) C.1 C.2.1 d_M_count_30 (by decide) (fun _ => ?_) (fun hn => absurd (by decide) hn)
      refine lv_iload_n C.1 C.2.1 d_M_count_35 rfl (lv_at hl 2 rfl) ?_
      refine lv_if_ne (tgt := 48) C.1 C.2.1 d_M_count_36 (by decide) ?_ ?_
      · intro c50
        refine lv_iload_n C.1 C.2.1 d_M_count_48 rfl (lv_at hl 2 rfl) ?_
        refine lv_iconst (v := 1) C.1 C.2.1 d_M_count_49 (by decide) ?_
        refine lv_icmp_ne (tgt := 62) C.1 C.2.1 d_M_count_50 (by decide) ?_ ?_
        · intro c51
          refine lv_iload_n C.1 C.2.1 d_M_count_62 rfl (lv_at hl 2 rfl) ?_
          refine lv_iconst (v := 2) C.1 C.2.1 d_M_count_63 (by decide) ?_
          refine lv_icmp_ne (tgt := 76) C.1 C.2.1 d_M_count_64 (by decide) ?_ ?_
          · intro c52
            refine lv_iload_n C.1 C.2.1 d_M_count_76 rfl (lv_at hl 2 rfl) ?_
            refine lv_iconst (v := 3) C.1 C.2.1 d_M_count_77 (by decide) ?_
            refine lv_icmp_ne (tgt := 90) C.1 C.2.1 d_M_count_78 (by decide) ?_ ?_
            · intro c53
              refine lv_aload_n C.1 C.2.1 d_M_count_90 rfl (lv_at hl 0 rfl) ?_
              refine hq_get (v := .ref (b + 9)) C f_M_35 k0 rfl d_M_count_91 ?_
              refine lv_iload_n C.1 C.2.1 d_M_count_94 rfl (lv_at hl 1 rfl) ?_
              have e54 : va_at D vwCl (b + 9, .inl (cI, 4, .inl (A 8))) _ := m49 9 (by decide)
              refine hq_iald C 0 rfl e54 (vp_in_nI hj (by decide)) d_M_count_95 ?_
              rw [nI_clamp (show j < 2 ^ 31 by omega)]
              refine W.eq (g2 := F0 m 96 ls [.int (A 8 j)]) rfl ?_
              have hf : f_M_count A j a = (A, 0, A 8 j) := by unfold f_M_count; rw [if_neg c42, if_pos c46, if_neg c50, if_neg c51, if_neg c52, if_neg c53]
              exact hq_iret C hret hlk (Nat.le_of_ble_eq_true rfl) (Nat.le_of_ble_eq_true rfl) hL ⟨by rw [hf], by rw [hf]; exact m49, hq_Sput (hq_S0) u48 (by omega) (by omega)⟩ d_M_count_96
            · intro c53
              refine lv_aload_n C.1 C.2.1 d_M_count_81 rfl (lv_at hl 0 rfl) ?_
              refine hq_get (v := .ref (b + 15)) C f_M_53 k0 rfl d_M_count_82 ?_
              refine lv_iload_n C.1 C.2.1 d_M_count_85 rfl (lv_at hl 1 rfl) ?_
              have e55 : va_at D vwCl (b + 15, .inl (cI, 4, .inl (A 14))) _ := m49 15 (by decide)
              refine hq_iald C 0 rfl e55 (vp_in_nI hj (by decide)) d_M_count_86 ?_
              rw [nI_clamp (show j < 2 ^ 31 by omega)]
              refine W.eq (g2 := F0 m 87 ls [.int (A 14 j)]) rfl ?_
              refine lv_goto (tgt := 96) C.1 C.2.1 d_M_count_87 (by decide) ?_
              have hf : f_M_count A j a = (A, 0, A 14 j) := by unfold f_M_count; rw [if_neg c42, if_pos c46, if_neg c50, if_neg c51, if_neg c52, if_pos c53]
              exact hq_iret C hret hlk (Nat.le_of_ble_eq_true rfl) (Nat.le_of_ble_eq_true rfl) hL ⟨by rw [hf], by rw [hf]; exact m49, hq_Sput (hq_S0) u48 (by omega) (by omega)⟩ d_M_count_96
          · intro c52
            refine lv_aload_n C.1 C.2.1 d_M_count_67 rfl (lv_at hl 0 rfl) ?_
            refine hq_get (v := .ref (b + 10)) C f_M_38 k0 rfl d_M_count_68 ?_
            refine lv_iload_n C.1 C.2.1 d_M_count_71 rfl (lv_at hl 1 rfl) ?_
            have e56 : va_at D vwCl (b + 10, .inl (cI, 4, .inl (A 9))) _ := m49 10 (by decide)
            refine hq_iald C 0 rfl e56 (vp_in_nI hj (by decide)) d_M_count_72 ?_
            rw [nI_clamp (show j < 2 ^ 31 by omega)]
            refine W.eq (g2 := F0 m 73 ls [.int (A 9 j)]) rfl ?_
            refine lv_goto (tgt := 96) C.1 C.2.1 d_M_count_73 (by decide) ?_
            have hf : f_M_count A j a = (A, 0, A 9 j) := by unfold f_M_count; rw [if_neg c42, if_pos c46, if_neg c50, if_neg c51, if_pos c52]
            exact hq_iret C hret hlk (Nat.le_of_ble_eq_true rfl) (Nat.le_of_ble_eq_true rfl) hL ⟨by rw [hf], by rw [hf]; exact m49, hq_Sput (hq_S0) u48 (by omega) (by omega)⟩ d_M_count_96
        · intro c51
          refine lv_aload_n C.1 C.2.1 d_M_count_53 rfl (lv_at hl 0 rfl) ?_
          refine hq_get (v := .ref (b + 6)) C f_M_26 k0 rfl d_M_count_54 ?_
          refine lv_iload_n C.1 C.2.1 d_M_count_57 rfl (lv_at hl 1 rfl) ?_
          have e57 : va_at D vwCl (b + 6, .inl (cI, 4, .inl (A 5))) _ := m49 6 (by decide)
          refine hq_iald C 0 rfl e57 (vp_in_nI hj (by decide)) d_M_count_58 ?_
          rw [nI_clamp (show j < 2 ^ 31 by omega)]
          refine W.eq (g2 := F0 m 59 ls [.int (A 5 j)]) rfl ?_
          refine lv_goto (tgt := 96) C.1 C.2.1 d_M_count_59 (by decide) ?_
          have hf : f_M_count A j a = (A, 0, A 5 j) := by unfold f_M_count; rw [if_neg c42, if_pos c46, if_neg c50, if_pos c51]
          exact hq_iret C hret hlk (Nat.le_of_ble_eq_true rfl) (Nat.le_of_ble_eq_true rfl) hL ⟨by rw [hf], by rw [hf]; exact m49, hq_Sput (hq_S0) u48 (by omega) (by omega)⟩ d_M_count_96
      · intro c50
        refine lv_aload_n C.1 C.2.1 d_M_count_39 rfl (lv_at hl 0 rfl) ?_
        refine hq_get (v := .ref (b + 5)) C f_M_23 k0 rfl d_M_count_40 ?_
        refine lv_iload_n C.1 C.2.1 d_M_count_43 rfl (lv_at hl 1 rfl) ?_
        have e58 : va_at D vwCl (b + 5, .inl (cI, 4, .inl (A 4))) _ := m49 5 (by decide)
        refine hq_iald C 0 rfl e58 (vp_in_nI hj (by decide)) d_M_count_44 ?_
        rw [nI_clamp (show j < 2 ^ 31 by omega)]
        refine W.eq (g2 := F0 m 45 ls [.int (A 4 j)]) rfl ?_
        refine lv_goto (tgt := 96) C.1 C.2.1 d_M_count_45 (by decide) ?_
        have hf : f_M_count A j a = (A, 0, A 4 j) := by unfold f_M_count; rw [if_neg c42, if_pos c46, if_pos c50]
        exact hq_iret C hret hlk (Nat.le_of_ble_eq_true rfl) (Nat.le_of_ble_eq_true rfl) hL ⟨by rw [hf], by rw [hf]; exact m49, hq_Sput (hq_S0) u48 (by omega) (by omega)⟩ d_M_count_96
    · intro c46
      refine lv_iconst (v := 1) C.1 C.2.1 d_M_count_18 (by decide) ?_
      refine lv_goto (tgt := 23) C.1 C.2.1 d_M_count_19 (by decide) ?_
      refine hq_put (lo := lo) C f_M_105 k0 rfl rfl (Nat.le_of_ble_eq_true rfl) hL (by omega) d_M_count_23 (fun H59 locs u60 hL => ?_)
      have m61 := md_thr (th2 := 1) hM u60
      have k0 : va_at D vwCl (b, .inr (6, [.int (1), .int (nI n), .ref (b + 1), .ref (b + 2), .ref (b + 3), .ref (b + 4), .ref (b + 5), .ref (b + 6), .ref (b + 7), .ref (b + 8), .ref (b + 9), .ref (b + 10), .ref (b + 11), .ref (b + 12), .ref (b + 13), .ref (b + 14), .ref (b + 15), .ref (b + 16), .ref (b + 17), .ref (b + 18), .ref (b + 19), .ref (b + 20), .ref (b + 21), .ref (b + 22), .ref (b + 23), .ref (b + 24), .ref (b + 25), .ref (b + 26), .ref (b + 27), .ref (b + 28), .ref (b + 29), .ref (b + 30)])) H59 := m61 0 (by decide)
      refine lv_aload_n C.1 C.2.1 d_M_count_26 rfl (lv_at hl 0 rfl) ?_
      refine hq_get (v := .int (1)) C f_M_105 k0 rfl d_M_count_27 ?_
      refine lv_if_eq (tgt := 35) C.1 C.2.1 d_M_count_30 (by decide) (fun hn => absurd hn (by decide)) (fun _ => ?_)
      refine lv_iconst (v := 0) C.1 C.2.1 d_M_count_33 (by decide) ?_
      have hf : f_M_count A j a = (A, 1, 0) := by unfold f_M_count; rw [if_neg c42, if_neg c46]
      exact hq_iret C hret hlk (Nat.le_of_ble_eq_true rfl) (Nat.le_of_ble_eq_true rfl) hL ⟨by rw [hf], by rw [hf]; exact m61, hq_Sput (hq_S0) u60 (by omega) (by omega)⟩ d_M_count_34
set_option maxHeartbeats 4000000 in
set_option maxRecDepth 100000 in
theorem ok_M_count (A : Nat → Nat → Int32) (j : Nat) (hj : j < 4) (a : Int32) (ok : okA A) : okA (f_M_count A j a).1 := by
  unfold f_M_count
  by_cases c42 : a < 0
  · rw [if_pos c42]
    exact ok
  · rw [if_neg c42]
    by_cases c46 : a ≤ 4
    · rw [if_pos c46]
      by_cases c50 : a = 0
      · rw [if_pos c50]
        exact ok
      · rw [if_neg c50]
        by_cases c51 : a = 1
        · rw [if_pos c51]
          exact ok
        · rw [if_neg c51]
          by_cases c52 : a = 2
          · rw [if_pos c52]
            exact ok
          · rw [if_neg c52]
            by_cases c53 : a = 3
            · rw [if_pos c53]
              exact ok
            · rw [if_neg c53]
              exact ok
    · rw [if_neg c46]
      exact ok
set_option maxHeartbeats 4000000 in
set_option maxRecDepth 100000 in
theorem t0_M_count (A : Nat → Nat → Int32) (j : Nat) (hj : j < 4) (a : Int32) : (f_M_count A j a).1 0 0 = A 0 0 := by
  unfold f_M_count
  by_cases c42 : a < 0
  · rw [if_pos c42]
    all_goals rfl
  · rw [if_neg c42]
    by_cases c46 : a ≤ 4
    · rw [if_pos c46]
      by_cases c50 : a = 0
      · rw [if_pos c50]
        all_goals rfl
      · rw [if_neg c50]
        by_cases c51 : a = 1
        · rw [if_pos c51]
          all_goals rfl
        · rw [if_neg c51]
          by_cases c52 : a = 2
          · rw [if_pos c52]
            all_goals rfl
          · rw [if_neg c52]
            by_cases c53 : a = 3
            · rw [if_pos c53]
              all_goals rfl
            · rw [if_neg c53]
              all_goals rfl
    · rw [if_neg c46]
      all_goals rfl
def f_M_count_n (A : Nat → Nat → Int32) (v a : Int32) : (Nat → Nat → Int32) × Int32 × Int32 := (A, 1, 0)
set_option maxHeartbeats 4000000 in
set_option maxRecDepth 100000 in
theorem c_M_count_n (l : Launch) (D : va_G) (cI cZ cN cJ : ClassId) (lo : Nat) (b n : Nat) (hlo : lo ≤ b) (th : Int32) (A : Nat → Nat → Int32) (v a : Int32) (hb : v < 0 ∨ ¬ v < nI n) : hq_M l y_M_count b_M_count 3 (some .int) TB { frames := 1, cells := 0, slots := 0, locals := 25 } lo D vwCl (TY cI cZ cN cJ) [.ref (b), .int (v), .int (a)] (fun U => hq_B D vwCl b 31 (mdC cI cZ b th (nI n) A) U.heap) (fun H v9 H' => v9 = some (.int (f_M_count_n A v a).2.2) ∧ hq_B D vwCl b 31 (mdC cI cZ b ((f_M_count_n A v a).2.1) (nI n) (f_M_count_n A v a).1) H' ∧ hq_S b 31 H H') := by
  refine hq_ofW (by decide) (Nat.le_of_ble_eq_true rfl) ?_
  intro p e s m below meth c ls C hml hret hlk hnm hl hP
  have hL : hq_L lo [] := hq_L0
  have hl : lv_has ls 3 [(0, .ref (b)), (1, .int (v)), (2, .int (a))] := hl
  have hM : hq_B D vwCl b 31 (mdC cI cZ b th (nI n) A) s.heap := hP
  have k0 : va_at D vwCl (b, .inr (6, [.int (th), .int (nI n), .ref (b + 1), .ref (b + 2), .ref (b + 3), .ref (b + 4), .ref (b + 5), .ref (b + 6), .ref (b + 7), .ref (b + 8), .ref (b + 9), .ref (b + 10), .ref (b + 11), .ref (b + 12), .ref (b + 13), .ref (b + 14), .ref (b + 15), .ref (b + 16), .ref (b + 17), .ref (b + 18), .ref (b + 19), .ref (b + 20), .ref (b + 21), .ref (b + 22), .ref (b + 23), .ref (b + 24), .ref (b + 25), .ref (b + 26), .ref (b + 27), .ref (b + 28), .ref (b + 29), .ref (b + 30)])) s.heap := hM 0 (by decide)
  refine lv_aload_n C.1 C.2.1 d_M_count_0 rfl (lv_at hl 0 rfl) ?_
  refine lv_aload_n C.1 C.2.1 d_M_count_1 rfl (lv_at hl 0 rfl) ?_
  refine lv_iload_n C.1 C.2.1 d_M_count_2 rfl (lv_at hl 1 rfl) ?_
  refine hq_callV (lo := lo) (As := [.int (v)]) (rest := [.ref (b)]) C tb_good hml Y_M_108 (c_noNode l D cI cZ cN cJ lo b n th v) k0 rfl (fun _ _ _ _ h => h) (fun U hU hW => by show va_at D vwCl (b, .inr (6, [.int (th), .int (nI n), .ref (b + 1), .ref (b + 2), .ref (b + 3), .ref (b + 4), .ref (b + 5), .ref (b + 6), .ref (b + 7), .ref (b + 8), .ref (b + 9), .ref (b + 10), .ref (b + 11), .ref (b + 12), .ref (b + 13), .ref (b + 14), .ref (b + 15), .ref (b + 16), .ref (b + 17), .ref (b + 18), .ref (b + 19), .ref (b + 20), .ref (b + 21), .ref (b + 22), .ref (b + 23), .ref (b + 24), .ref (b + 25), .ref (b + 26), .ref (b + 27), .ref (b + 28), .ref (b + 29), .ref (b + 30)])) U.heap; rw [hU]; exact k0) hL hl.1 rfl rfl ⟨⟨Nat.le_of_ble_eq_true rfl, Nat.le_of_ble_eq_true rfl⟩, Nat.le_of_ble_eq_true rfl, Nat.le_of_ble_eq_true rfl⟩ (Nat.le_of_ble_eq_true rfl) d_M_count_3 (fun v H41 locs hp hL => ?_)
  obtain ⟨rfl, rfl⟩ := hp
  refine W.eq (g2 := F0 m 6 ls [.int (nno n v), .ref (b)]) rfl ?_
  rw [nno_bad hb]
  refine lv_if_ne (tgt := 18) C.1 C.2.1 d_M_count_6 (by decide) (fun _ => ?_) (fun hn => absurd hn (by decide))
  refine lv_iconst (v := 1) C.1 C.2.1 d_M_count_18 (by decide) ?_
  refine lv_goto (tgt := 23) C.1 C.2.1 d_M_count_19 (by decide) ?_
  refine hq_put (lo := lo) C f_M_105 k0 rfl rfl (Nat.le_of_ble_eq_true rfl) hL (by omega) d_M_count_23 (fun H42 locs u43 hL => ?_)
  have m44 := md_thr (th2 := 1) hM u43
  have k0 : va_at D vwCl (b, .inr (6, [.int (1), .int (nI n), .ref (b + 1), .ref (b + 2), .ref (b + 3), .ref (b + 4), .ref (b + 5), .ref (b + 6), .ref (b + 7), .ref (b + 8), .ref (b + 9), .ref (b + 10), .ref (b + 11), .ref (b + 12), .ref (b + 13), .ref (b + 14), .ref (b + 15), .ref (b + 16), .ref (b + 17), .ref (b + 18), .ref (b + 19), .ref (b + 20), .ref (b + 21), .ref (b + 22), .ref (b + 23), .ref (b + 24), .ref (b + 25), .ref (b + 26), .ref (b + 27), .ref (b + 28), .ref (b + 29), .ref (b + 30)])) H42 := m44 0 (by decide)
  refine lv_aload_n C.1 C.2.1 d_M_count_26 rfl (lv_at hl 0 rfl) ?_
  refine hq_get (v := .int (1)) C f_M_105 k0 rfl d_M_count_27 ?_
  refine lv_if_eq (tgt := 35) C.1 C.2.1 d_M_count_30 (by decide) (fun hn => absurd hn (by decide)) (fun _ => ?_)
  refine lv_iconst (v := 0) C.1 C.2.1 d_M_count_33 (by decide) ?_
  have hf : f_M_count_n A v a = (A, 1, 0) := rfl
  exact hq_iret C hret hlk (Nat.le_of_ble_eq_true rfl) (Nat.le_of_ble_eq_true rfl) hL ⟨by rw [hf], by rw [hf]; exact m44, hq_Sput (hq_S0) u43 (by omega) (by omega)⟩ d_M_count_34
set_option maxHeartbeats 4000000 in
set_option maxRecDepth 100000 in
theorem ok_M_count_n (A : Nat → Nat → Int32) (v a : Int32) (ok : okA A) : okA (f_M_count_n A v a).1 := by
  exact ok
set_option maxHeartbeats 4000000 in
set_option maxRecDepth 100000 in
theorem t0_M_count_n (A : Nat → Nat → Int32) (v a : Int32) : (f_M_count_n A v a).1 0 0 = A 0 0 := by
  all_goals rfl
def f_M_total (A : Nat → Nat → Int32) (a : Int32) : (Nat → Nat → Int32) × Int32 × Int32 := if a < 0 then ((A, 1, 0)) else (if a ≤ 7 then ((A, 0, A 0 a.toNatClampNeg)) else ((A, 1, 0)))
set_option maxHeartbeats 4000000 in
set_option maxRecDepth 100000 in
theorem c_M_total (l : Launch) (D : va_G) (cI cZ cN cJ : ClassId) (lo : Nat) (b n : Nat) (hlo : lo ≤ b) (th : Int32) (A : Nat → Nat → Int32) (a : Int32) : hq_M l y_M_total b_M_total 2 (some .int) TB { frames := 0, cells := 0, slots := 0, locals := 0 } lo D vwCl (TY cI cZ cN cJ) [.ref (b), .int (a)] (fun U => hq_B D vwCl b 31 (mdC cI cZ b th (nI n) A) U.heap) (fun H v9 H' => v9 = some (.int (f_M_total A a).2.2) ∧ hq_B D vwCl b 31 (mdC cI cZ b ((f_M_total A a).2.1) (nI n) (f_M_total A a).1) H' ∧ hq_S b 31 H H') := by
  refine hq_ofW (by decide) (Nat.le_of_ble_eq_true rfl) ?_
  intro p e s m below meth c ls C hml hret hlk hnm hl hP
  have hL : hq_L lo [] := hq_L0
  have hl : lv_has ls 2 [(0, .ref (b)), (1, .int (a))] := hl
  have hM : hq_B D vwCl b 31 (mdC cI cZ b th (nI n) A) s.heap := hP
  have k0 : va_at D vwCl (b, .inr (6, [.int (th), .int (nI n), .ref (b + 1), .ref (b + 2), .ref (b + 3), .ref (b + 4), .ref (b + 5), .ref (b + 6), .ref (b + 7), .ref (b + 8), .ref (b + 9), .ref (b + 10), .ref (b + 11), .ref (b + 12), .ref (b + 13), .ref (b + 14), .ref (b + 15), .ref (b + 16), .ref (b + 17), .ref (b + 18), .ref (b + 19), .ref (b + 20), .ref (b + 21), .ref (b + 22), .ref (b + 23), .ref (b + 24), .ref (b + 25), .ref (b + 26), .ref (b + 27), .ref (b + 28), .ref (b + 29), .ref (b + 30)])) s.heap := hM 0 (by decide)
  refine lv_aload_n C.1 C.2.1 d_M_total_0 rfl (lv_at hl 0 rfl) ?_
  refine lv_iload_n C.1 C.2.1 d_M_total_1 rfl (lv_at hl 1 rfl) ?_
  refine lv_if_lt (tgt := 11) C.1 C.2.1 d_M_total_2 (by decide) ?_ ?_
  · intro c41
    refine lv_iconst (v := 1) C.1 C.2.1 d_M_total_11 (by decide) ?_
    refine lv_goto (tgt := 16) C.1 C.2.1 d_M_total_12 (by decide) ?_
    refine hq_put (lo := lo) C f_M_105 k0 rfl rfl (Nat.le_of_ble_eq_true rfl) hL (by omega) d_M_total_16 (fun H42 locs u43 hL => ?_)
    have m44 := md_thr (th2 := 1) hM u43
    have k0 : va_at D vwCl (b, .inr (6, [.int (1), .int (nI n), .ref (b + 1), .ref (b + 2), .ref (b + 3), .ref (b + 4), .ref (b + 5), .ref (b + 6), .ref (b + 7), .ref (b + 8), .ref (b + 9), .ref (b + 10), .ref (b + 11), .ref (b + 12), .ref (b + 13), .ref (b + 14), .ref (b + 15), .ref (b + 16), .ref (b + 17), .ref (b + 18), .ref (b + 19), .ref (b + 20), .ref (b + 21), .ref (b + 22), .ref (b + 23), .ref (b + 24), .ref (b + 25), .ref (b + 26), .ref (b + 27), .ref (b + 28), .ref (b + 29), .ref (b + 30)])) H42 := m44 0 (by decide)
    refine lv_aload_n C.1 C.2.1 d_M_total_19 rfl (lv_at hl 0 rfl) ?_
    refine hq_get (v := .int (1)) C f_M_105 k0 rfl d_M_total_20 ?_
    refine lv_if_ne (tgt := 35) C.1 C.2.1 d_M_total_23 (by decide) (fun _ => ?_) (fun hn => absurd hn (by decide))
    refine lv_iconst (v := 0) C.1 C.2.1 d_M_total_35 (by decide) ?_
    have hf : f_M_total A a = (A, 1, 0) := by unfold f_M_total; rw [if_pos c41]
    exact hq_iret C hret hlk (Nat.le_of_ble_eq_true rfl) (Nat.le_of_ble_eq_true rfl) hL ⟨by rw [hf], by rw [hf]; exact m44, hq_Sput (hq_S0) u43 (by omega) (by omega)⟩ d_M_total_36
  · intro c41
    refine lv_iload_n C.1 C.2.1 d_M_total_5 rfl (lv_at hl 1 rfl) ?_
    refine lv_bipush (v := 7) C.1 C.2.1 d_M_total_6 (by decide) ?_
    refine lv_icmp_le (tgt := 15) C.1 C.2.1 d_M_total_8 (by decide) ?_ ?_
    · intro c45
      refine lv_iconst (v := 0) C.1 C.2.1 d_M_total_15 (by decide) ?_
      refine hq_put (lo := lo) C f_M_105 k0 rfl rfl (Nat.le_of_ble_eq_true rfl) hL (by omega) d_M_total_16 (fun H46 locs u47 hL => ?_)
      have m48 := md_thr (th2 := 0) hM u47
      have k0 : va_at D vwCl (b, .inr (6, [.int (0), .int (nI n), .ref (b + 1), .ref (b + 2), .ref (b + 3), .ref (b + 4), .ref (b + 5), .ref (b + 6), .ref (b + 7), .ref (b + 8), .ref (b + 9), .ref (b + 10), .ref (b + 11), .ref (b + 12), .ref (b + 13), .ref (b + 14), .ref (b + 15), .ref (b + 16), .ref (b + 17), .ref (b + 18), .ref (b + 19), .ref (b + 20), .ref (b + 21), .ref (b + 22), .ref (b + 23), .ref (b + 24), .ref (b + 25), .ref (b + 26), .ref (b + 27), .ref (b + 28), .ref (b + 29), .ref (b + 30)])) H46 := m48 0 (by decide)
      refine lv_aload_n C.1 C.2.1 d_M_total_19 rfl (lv_at hl 0 rfl) ?_
      refine hq_get (v := .int (0)) C f_M_105 k0 rfl d_M_total_20 ?_
      refine lv_if_ne (tgt := 35) C.1 C.2.1 d_M_total_23 (by decide) (fun hn => absurd hn (by decide)) (fun _ => ?_)
      refine lv_aload_n C.1 C.2.1 d_M_total_26 rfl (lv_at hl 0 rfl) ?_
      refine hq_get (v := .ref (b + 1)) C f_M_7 k0 rfl d_M_total_27 ?_
      refine lv_iload_n C.1 C.2.1 d_M_total_30 rfl (lv_at hl 1 rfl) ?_
      have e49 : va_at D vwCl (b + 1, .inl (cI, 8, .inl (A 0))) _ := m48 1 (by decide)
      refine hq_iald C 0 rfl e49 (in_tt c41 c45) d_M_total_31 ?_
      refine W.eq (g2 := F0 m 32 ls [.int (A 0 a.toNatClampNeg)]) rfl ?_
      refine lv_goto (tgt := 36) C.1 C.2.1 d_M_total_32 (by decide) ?_
      have hf : f_M_total A a = (A, 0, A 0 a.toNatClampNeg) := by unfold f_M_total; rw [if_neg c41, if_pos c45]
      exact hq_iret C hret hlk (Nat.le_of_ble_eq_true rfl) (Nat.le_of_ble_eq_true rfl) hL ⟨by rw [hf], by rw [hf]; exact m48, hq_Sput (hq_S0) u47 (by omega) (by omega)⟩ d_M_total_36
    · intro c45
      refine lv_iconst (v := 1) C.1 C.2.1 d_M_total_11 (by decide) ?_
      refine lv_goto (tgt := 16) C.1 C.2.1 d_M_total_12 (by decide) ?_
      refine hq_put (lo := lo) C f_M_105 k0 rfl rfl (Nat.le_of_ble_eq_true rfl) hL (by omega) d_M_total_16 (fun H50 locs u51 hL => ?_)
      have m52 := md_thr (th2 := 1) hM u51
      have k0 : va_at D vwCl (b, .inr (6, [.int (1), .int (nI n), .ref (b + 1), .ref (b + 2), .ref (b + 3), .ref (b + 4), .ref (b + 5), .ref (b + 6), .ref (b + 7), .ref (b + 8), .ref (b + 9), .ref (b + 10), .ref (b + 11), .ref (b + 12), .ref (b + 13), .ref (b + 14), .ref (b + 15), .ref (b + 16), .ref (b + 17), .ref (b + 18), .ref (b + 19), .ref (b + 20), .ref (b + 21), .ref (b + 22), .ref (b + 23), .ref (b + 24), .ref (b + 25), .ref (b + 26), .ref (b + 27), .ref (b + 28), .ref (b + 29), .ref (b + 30)])) H50 := m52 0 (by decide)
      refine lv_aload_n C.1 C.2.1 d_M_total_19 rfl (lv_at hl 0 rfl) ?_
      refine hq_get (v := .int (1)) C f_M_105 k0 rfl d_M_total_20 ?_
      refine lv_if_ne (tgt := 35) C.1 C.2.1 d_M_total_23 (by decide) (fun _ => ?_) (fun hn => absurd hn (by decide))
      refine lv_iconst (v := 0) C.1 C.2.1 d_M_total_35 (by decide) ?_
      have hf : f_M_total A a = (A, 1, 0) := by unfold f_M_total; rw [if_neg c41, if_neg c45]
      exact hq_iret C hret hlk (Nat.le_of_ble_eq_true rfl) (Nat.le_of_ble_eq_true rfl) hL ⟨by rw [hf], by rw [hf]; exact m52, hq_Sput (hq_S0) u51 (by omega) (by omega)⟩ d_M_total_36
set_option maxHeartbeats 4000000 in
set_option maxRecDepth 100000 in
theorem ok_M_total (A : Nat → Nat → Int32) (a : Int32) (ok : okA A) : okA (f_M_total A a).1 := by
  unfold f_M_total
  by_cases c41 : a < 0
  · rw [if_pos c41]
    exact ok
  · rw [if_neg c41]
    by_cases c45 : a ≤ 7
    · rw [if_pos c45]
      exact ok
    · rw [if_neg c45]
      exact ok
set_option maxHeartbeats 4000000 in
set_option maxRecDepth 100000 in
theorem t0_M_total (A : Nat → Nat → Int32) (a : Int32) : (f_M_total A a).1 0 0 = A 0 0 := by
  unfold f_M_total
  by_cases c41 : a < 0
  · rw [if_pos c41]
    all_goals rfl
  · rw [if_neg c41]
    by_cases c45 : a ≤ 7
    · rw [if_pos c45]
      all_goals rfl
    · rw [if_neg c45]
      all_goals rfl
def f_M_level (A : Nat → Nat → Int32) (a : Int32) : (Nat → Nat → Int32) × Int32 × Int32 := if a < 0 then ((A, 0, -1)) else (if 63 < a then ((A, 0, -1)) else (if a < (A 0 0) then ((A, 0, A 1 (((A 0 0) - a) - ((A 0 0) - a) / 64 * 64).toNatClampNeg)) else ((A, 0, -1))))
set_option maxHeartbeats 4000000 in
set_option maxRecDepth 100000 in
theorem c_M_level (l : Launch) (D : va_G) (cI cZ cN cJ : ClassId) (lo : Nat) (b n : Nat) (hlo : lo ≤ b) (th : Int32) (A : Nat → Nat → Int32) (a : Int32) (k : Nat) (hk : A 0 0 = nI k) (hk2 : k < 2 ^ 30) : hq_M l y_M_level b_M_level 2 (some .int) TB { frames := 0, cells := 0, slots := 0, locals := 0 } lo D vwCl (TY cI cZ cN cJ) [.ref (b), .int (a)] (fun U => hq_B D vwCl b 31 (mdC cI cZ b th (nI n) A) U.heap) (fun H v9 H' => v9 = some (.int (f_M_level A a).2.2) ∧ hq_B D vwCl b 31 (mdC cI cZ b ((f_M_level A a).2.1) (nI n) (f_M_level A a).1) H' ∧ hq_S b 31 H H') := by
  refine hq_ofW (by decide) (Nat.le_of_ble_eq_true rfl) ?_
  intro p e s m below meth c ls C hml hret hlk hnm hl hP
  have hL : hq_L lo [] := hq_L0
  have hl : lv_has ls 2 [(0, .ref (b)), (1, .int (a))] := hl
  have hM : hq_B D vwCl b 31 (mdC cI cZ b th (nI n) A) s.heap := hP
  have k0 : va_at D vwCl (b, .inr (6, [.int (th), .int (nI n), .ref (b + 1), .ref (b + 2), .ref (b + 3), .ref (b + 4), .ref (b + 5), .ref (b + 6), .ref (b + 7), .ref (b + 8), .ref (b + 9), .ref (b + 10), .ref (b + 11), .ref (b + 12), .ref (b + 13), .ref (b + 14), .ref (b + 15), .ref (b + 16), .ref (b + 17), .ref (b + 18), .ref (b + 19), .ref (b + 20), .ref (b + 21), .ref (b + 22), .ref (b + 23), .ref (b + 24), .ref (b + 25), .ref (b + 26), .ref (b + 27), .ref (b + 28), .ref (b + 29), .ref (b + 30)])) s.heap := hM 0 (by decide)
  refine lv_aload_n C.1 C.2.1 d_M_level_0 rfl (lv_at hl 0 rfl) ?_
  refine lv_iconst (v := 0) C.1 C.2.1 d_M_level_1 (by decide) ?_
  refine hq_put (lo := lo) C f_M_105 k0 rfl rfl (Nat.le_of_ble_eq_true rfl) hL (by omega) d_M_level_2 (fun H41 locs u42 hL => ?_)
  have m43 := md_thr (th2 := 0) hM u42
  have k0 : va_at D vwCl (b, .inr (6, [.int (0), .int (nI n), .ref (b + 1), .ref (b + 2), .ref (b + 3), .ref (b + 4), .ref (b + 5), .ref (b + 6), .ref (b + 7), .ref (b + 8), .ref (b + 9), .ref (b + 10), .ref (b + 11), .ref (b + 12), .ref (b + 13), .ref (b + 14), .ref (b + 15), .ref (b + 16), .ref (b + 17), .ref (b + 18), .ref (b + 19), .ref (b + 20), .ref (b + 21), .ref (b + 22), .ref (b + 23), .ref (b + 24), .ref (b + 25), .ref (b + 26), .ref (b + 27), .ref (b + 28), .ref (b + 29), .ref (b + 30)])) H41 := m43 0 (by decide)
  refine lv_iload_n C.1 C.2.1 d_M_level_5 rfl (lv_at hl 1 rfl) ?_
  refine lv_if_lt (tgt := 25) C.1 C.2.1 d_M_level_6 (by decide) ?_ ?_
  · intro c44
    refine lv_iconst (v := -1) C.1 C.2.1 d_M_level_25 (by decide) ?_
    refine lv_goto (tgt := 45) C.1 C.2.1 d_M_level_26 (by decide) ?_
    have hf : f_M_level A a = (A, 0, -1) := by unfold f_M_level; rw [if_pos c44]
    exact hq_iret C hret hlk (Nat.le_of_ble_eq_true rfl) (Nat.le_of_ble_eq_true rfl) hL ⟨by rw [hf], by rw [hf]; exact m43, hq_Sput (hq_S0) u42 (by omega) (by omega)⟩ d_M_level_45
  · intro c44
    refine lv_iload_n C.1 C.2.1 d_M_level_9 rfl (lv_at hl 1 rfl) ?_
    refine lv_bipush (v := 63) C.1 C.2.1 d_M_level_10 (by decide) ?_
    refine lv_icmp_gt (tgt := 25) C.1 C.2.1 d_M_level_12 (by decide) ?_ ?_
    · intro c45
      refine lv_iconst (v := -1) C.1 C.2.1 d_M_level_25 (by decide) ?_
      refine lv_goto (tgt := 45) C.1 C.2.1 d_M_level_26 (by decide) ?_
      have hf : f_M_level A a = (A, 0, -1) := by unfold f_M_level; rw [if_neg c44, if_pos c45]
      exact hq_iret C hret hlk (Nat.le_of_ble_eq_true rfl) (Nat.le_of_ble_eq_true rfl) hL ⟨by rw [hf], by rw [hf]; exact m43, hq_Sput (hq_S0) u42 (by omega) (by omega)⟩ d_M_level_45
    · intro c45
      refine lv_iload_n C.1 C.2.1 d_M_level_15 rfl (lv_at hl 1 rfl) ?_
      refine lv_aload_n C.1 C.2.1 d_M_level_16 rfl (lv_at hl 0 rfl) ?_
      refine hq_get (v := .ref (b + 1)) C f_M_7 k0 rfl d_M_level_17 ?_
      refine lv_iconst (v := 0) C.1 C.2.1 d_M_level_20 (by decide) ?_
      have e46 : va_at D vwCl (b + 1, .inl (cI, 8, .inl (A 0))) _ := m43 1 (by decide)
      refine hq_iald C 0 rfl e46 (show vp_in (nI 0) 8 from vp_in_nI (by decide) (by decide)) d_M_level_21 ?_
      refine W.eq (g2 := F0 m 22 ls [.int (A 0 0), .int (a)]) rfl ?_
      refine lv_icmp_lt (tgt := 29) C.1 C.2.1 d_M_level_22 (by decide) ?_ ?_
      · intro c47
        refine lv_aload_n C.1 C.2.1 d_M_level_29 rfl (lv_at hl 0 rfl) ?_
        refine hq_get (v := .ref (b + 2)) C f_M_13 k0 rfl d_M_level_30 ?_
        refine lv_aload_n C.1 C.2.1 d_M_level_33 rfl (lv_at hl 0 rfl) ?_
        refine hq_get (v := .ref (b + 1)) C f_M_7 k0 rfl d_M_level_34 ?_
        refine lv_iconst (v := 0) C.1 C.2.1 d_M_level_37 (by decide) ?_
        have e48 : va_at D vwCl (b + 1, .inl (cI, 8, .inl (A 0))) _ := m43 1 (by decide)
        refine hq_iald C 0 rfl e48 (show vp_in (nI 0) 8 from vp_in_nI (by decide) (by decide)) d_M_level_38 ?_
        refine W.eq (g2 := F0 m 39 ls [.int (A 0 0), .ref (b + 2)]) rfl ?_
        refine lv_iload_n C.1 C.2.1 d_M_level_39 rfl (lv_at hl 1 rfl) ?_
        refine lv_isub C.1 C.2.1 d_M_level_40 ?_
        refine lv_bipush (v := 64) C.1 C.2.1 d_M_level_41 (by decide) ?_
        refine lv_irem C.1 C.2.1 d_M_level_43 (by decide) ?_
        have e49 : va_at D vwCl (b + 2, .inl (cI, 64, .inl (A 1))) _ := m43 2 (by decide)
        refine hq_iald C 0 rfl e49 (in_lv hk hk2 c44 c47) d_M_level_44 ?_
        refine W.eq (g2 := F0 m 45 ls [.int (A 1 (((A 0 0) - a) - ((A 0 0) - a) / 64 * 64).toNatClampNeg)]) rfl ?_
        have hf : f_M_level A a = (A, 0, A 1 (((A 0 0) - a) - ((A 0 0) - a) / 64 * 64).toNatClampNeg) := by unfold f_M_level; rw [if_neg c44, if_neg c45, if_pos c47]
        exact hq_iret C hret hlk (Nat.le_of_ble_eq_true rfl) (Nat.le_of_ble_eq_true rfl) hL ⟨by rw [hf], by rw [hf]; exact m43, hq_Sput (hq_S0) u42 (by omega) (by omega)⟩ d_M_level_45
      · intro c47
        refine lv_iconst (v := -1) C.1 C.2.1 d_M_level_25 (by decide) ?_
        refine lv_goto (tgt := 45) C.1 C.2.1 d_M_level_26 (by decide) ?_
        have hf : f_M_level A a = (A, 0, -1) := by unfold f_M_level; rw [if_neg c44, if_neg c45, if_neg c47]
        exact hq_iret C hret hlk (Nat.le_of_ble_eq_true rfl) (Nat.le_of_ble_eq_true rfl) hL ⟨by rw [hf], by rw [hf]; exact m43, hq_Sput (hq_S0) u42 (by omega) (by omega)⟩ d_M_level_45
set_option maxHeartbeats 4000000 in
set_option maxRecDepth 100000 in
theorem ok_M_level (A : Nat → Nat → Int32) (a : Int32) (k : Nat) (hk : A 0 0 = nI k) (hk2 : k < 2 ^ 30) (ok : okA A) : okA (f_M_level A a).1 := by
  unfold f_M_level
  by_cases c44 : a < 0
  · rw [if_pos c44]
    exact ok
  · rw [if_neg c44]
    by_cases c45 : 63 < a
    · rw [if_pos c45]
      exact ok
    · rw [if_neg c45]
      by_cases c47 : a < (A 0 0)
      · rw [if_pos c47]
        exact ok
      · rw [if_neg c47]
        exact ok
set_option maxHeartbeats 4000000 in
set_option maxRecDepth 100000 in
theorem t0_M_level (A : Nat → Nat → Int32) (a : Int32) : (f_M_level A a).1 0 0 = A 0 0 := by
  unfold f_M_level
  by_cases c44 : a < 0
  · rw [if_pos c44]
    all_goals rfl
  · rw [if_neg c44]
    by_cases c45 : 63 < a
    · rw [if_pos c45]
      all_goals rfl
    · rw [if_neg c45]
      by_cases c47 : a < (A 0 0)
      · rw [if_pos c47]
        all_goals rfl
      · rw [if_neg c47]
        all_goals rfl
def f_M_take (A : Nat → Nat → Int32) (j : Nat) : (Nat → Nat → Int32) × Int32 × Int32 := if (A 14 j) = 0 then ((A, 2, 0)) else ((sh1 (bn A j - 1) (4 * j) (setA A 14 (upd (A 14) j ((A 14 j) - 1))), 0, A 15 (4 * j)))
set_option maxHeartbeats 4000000 in
set_option maxRecDepth 100000 in
theorem mk_loop {p : Program} {l : Launch} {e : Env} {s : State} {m : MethodId} {args : Array Value} {below : List Frame} {meth : Method} {c : Code} (D : va_G) (cI cZ cN cJ : ClassId) (lo b n : Nat) (hlo : lo ≤ b) (j : Nat) (hj : j < 4) (w : Nat) (hw3 : w ≤ 3) (g : Int32) {R9 : Nat → Nat → Int32} (C : hq_C p c s m args R_M b_M_take TB D vwCl (TY cI cZ cN cJ)) (hml : c.maxLocals = 4) (hret : meth.sig.returnType = some .int) (hlk : meth.locks = false) :
    ∀ (d i : Nat) (A : Nat → Nat → Int32) (H : Heap) (locs : List Loc) (ls : Array Slot), i + d = 4 * j + w → A 14 j = nI w → sh1 d i A = R9 → hq_B D vwCl b 31 (mdC cI cZ b 0 (nI n) A) H → hq_S b 31 s.heap H → hq_L lo locs → lv_has ls 4 [(3, .int (nI i)), (2, .int (g)), (0, .ref b), (1, .int (nI j))] →
      W p l e { frames := 1, cells := 0, slots := 0, locals := 25 } s m args below meth c H locs 0 0 (MQ below (hq_Q (fun H v H' => v = some (.int g) ∧ hq_B D vwCl b 31 (mdC cI cZ b 0 (nI n) R9) H' ∧ hq_S b 31 H H')) args s 0 0 (fun q => lo ≤ q)) (F0 m 62 ls []) := by
  intro d
  induction d with
  | zero =>
    intro i A H locs ls hd hw9 hR hM hS hL hl
    have k0 : va_at D vwCl (b, .inr (6, [.int (0), .int (nI n), .ref (b + 1), .ref (b + 2), .ref (b + 3), .ref (b + 4), .ref (b + 5), .ref (b + 6), .ref (b + 7), .ref (b + 8), .ref (b + 9), .ref (b + 10), .ref (b + 11), .ref (b + 12), .ref (b + 13), .ref (b + 14), .ref (b + 15), .ref (b + 16), .ref (b + 17), .ref (b + 18), .ref (b + 19), .ref (b + 20), .ref (b + 21), .ref (b + 22), .ref (b + 23), .ref (b + 24), .ref (b + 25), .ref (b + 26), .ref (b + 27), .ref (b + 28), .ref (b + 29), .ref (b + 30)])) H := hM 0 (by decide)
    refine lv_iload_n C.1 C.2.1 d_M_take_62 rfl (lv_at hl 0 rfl) ?_
    refine lv_iconst (v := 4) C.1 C.2.1 d_M_take_63 (by decide) ?_
    refine lv_iload_n C.1 C.2.1 d_M_take_64 rfl (lv_at hl 3 rfl) ?_
    refine lv_imul C.1 C.2.1 d_M_take_65 ?_
    refine lv_aload_n C.1 C.2.1 d_M_take_66 rfl (lv_at hl 2 rfl) ?_
    refine hq_get (v := .ref (b + 15)) C f_M_53 k0 rfl d_M_take_67 ?_
    refine lv_iload_n C.1 C.2.1 d_M_take_70 rfl (lv_at hl 3 rfl) ?_
    have e41 : va_at D vwCl (b + 15, .inl (cI, 4, .inl (A 14))) _ := hM 15 (by decide)
    refine hq_iald C 0 rfl e41 (vp_in_nI hj (by decide)) d_M_take_71 ?_
    rw [nI_clamp (show j < 2 ^ 31 by omega)]
    refine W.eq (g2 := F0 m 72 ls [.int (A 14 j), .int (4 * (nI j)), .int (nI i)]) rfl ?_
    rw [hw9]
    refine lv_iadd C.1 C.2.1 d_M_take_72 ?_
    rw [ix4 j w]
    refine lv_icmp_ge (tgt := 96) C.1 C.2.1 d_M_take_73 (by decide) (fun _ => ?_) (fun hn => absurd (nI_le (show 4 * j + w ≤ i by omega) (by omega)) hn)
    refine lv_iload_n C.1 C.2.1 d_M_take_96 rfl (lv_at hl 1 rfl) ?_
    subst hR
    exact hq_iret C hret hlk (Nat.le_of_ble_eq_true rfl) (Nat.le_of_ble_eq_true rfl) hL ⟨rfl, hM, hS⟩ d_M_take_97
  | succ d ih =>
    intro i A H locs ls hd hw9 hR hM hS hL hl
    have k0 : va_at D vwCl (b, .inr (6, [.int (0), .int (nI n), .ref (b + 1), .ref (b + 2), .ref (b + 3), .ref (b + 4), .ref (b + 5), .ref (b + 6), .ref (b + 7), .ref (b + 8), .ref (b + 9), .ref (b + 10), .ref (b + 11), .ref (b + 12), .ref (b + 13), .ref (b + 14), .ref (b + 15), .ref (b + 16), .ref (b + 17), .ref (b + 18), .ref (b + 19), .ref (b + 20), .ref (b + 21), .ref (b + 22), .ref (b + 23), .ref (b + 24), .ref (b + 25), .ref (b + 26), .ref (b + 27), .ref (b + 28), .ref (b + 29), .ref (b + 30)])) H := hM 0 (by decide)
    refine lv_iload_n C.1 C.2.1 d_M_take_62 rfl (lv_at hl 0 rfl) ?_
    refine lv_iconst (v := 4) C.1 C.2.1 d_M_take_63 (by decide) ?_
    refine lv_iload_n C.1 C.2.1 d_M_take_64 rfl (lv_at hl 3 rfl) ?_
    refine lv_imul C.1 C.2.1 d_M_take_65 ?_
    refine lv_aload_n C.1 C.2.1 d_M_take_66 rfl (lv_at hl 2 rfl) ?_
    refine hq_get (v := .ref (b + 15)) C f_M_53 k0 rfl d_M_take_67 ?_
    refine lv_iload_n C.1 C.2.1 d_M_take_70 rfl (lv_at hl 3 rfl) ?_
    have e41 : va_at D vwCl (b + 15, .inl (cI, 4, .inl (A 14))) _ := hM 15 (by decide)
    refine hq_iald C 0 rfl e41 (vp_in_nI hj (by decide)) d_M_take_71 ?_
    rw [nI_clamp (show j < 2 ^ 31 by omega)]
    refine W.eq (g2 := F0 m 72 ls [.int (A 14 j), .int (4 * (nI j)), .int (nI i)]) rfl ?_
    rw [hw9]
    refine lv_iadd C.1 C.2.1 d_M_take_72 ?_
    rw [ix4 j w]
    have hik : i < 4 * j + w := by omega
    refine lv_icmp_ge (tgt := 96) C.1 C.2.1 d_M_take_73 (by decide) (fun hn => absurd hn (nI_ge hik (by omega))) (fun _ => ?_)
    refine lv_aload_n C.1 C.2.1 d_M_take_76 rfl (lv_at hl 2 rfl) ?_
    refine hq_get (v := .ref (b + 16)) C f_M_56 k0 rfl d_M_take_77 ?_
    refine lv_iload_n C.1 C.2.1 d_M_take_80 rfl (lv_at hl 0 rfl) ?_
    refine lv_aload_n C.1 C.2.1 d_M_take_81 rfl (lv_at hl 2 rfl) ?_
    refine hq_get (v := .ref (b + 16)) C f_M_56 k0 rfl d_M_take_82 ?_
    refine lv_iload_n C.1 C.2.1 d_M_take_85 rfl (lv_at hl 0 rfl) ?_
    refine lv_iconst (v := 1) C.1 C.2.1 d_M_take_86 (by decide) ?_
    refine lv_iadd C.1 C.2.1 d_M_take_87 ?_
    rw [nI_1 i]
    have e42 : va_at D vwCl (b + 16, .inl (cI, 16, .inl (A 15))) _ := hM 16 (by decide)
    refine hq_iald C 0 rfl e42 (vp_in_nI (show (i + 1) < 16 by omega) (by decide)) d_M_take_88 ?_
    rw [nI_clamp (show (i + 1) < 2 ^ 31 by omega)]
    refine W.eq (g2 := F0 m 89 ls [.int (A 15 (i + 1)), .int (nI i), .ref (b + 16)]) rfl ?_
    have e43 : va_at D vwCl (b + 16, .inl (cI, 16, .inl (A 15))) _ := hM 16 (by decide)
    refine hq_iast (lo := lo) C 0 rfl e43 (vp_in_nI (show i < 16 by omega) (by decide)) hL (by omega) d_M_take_89 (fun H44 locs u45 hL => ?_)
    rw [nI_clamp (show i < 2 ^ 31 by omega)] at u45
    have m46 := md_set (k := 15) (f := upd (A 15) i (A 15 (i + 1))) hM u45
    have k0 : va_at D vwCl (b, .inr (6, [.int (0), .int (nI n), .ref (b + 1), .ref (b + 2), .ref (b + 3), .ref (b + 4), .ref (b + 5), .ref (b + 6), .ref (b + 7), .ref (b + 8), .ref (b + 9), .ref (b + 10), .ref (b + 11), .ref (b + 12), .ref (b + 13), .ref (b + 14), .ref (b + 15), .ref (b + 16), .ref (b + 17), .ref (b + 18), .ref (b + 19), .ref (b + 20), .ref (b + 21), .ref (b + 22), .ref (b + 23), .ref (b + 24), .ref (b + 25), .ref (b + 26), .ref (b + 27), .ref (b + 28), .ref (b + 29), .ref (b + 30)])) H44 := m46 0 (by decide)
    refine lv_iinc (k := 0) (v := nI (i + 1)) C.1 C.2.1 d_M_take_90 hl rfl (nI_1 i) (by decide) (lv' := [(3, .int (nI (i + 1))), (2, .int (g)), (0, .ref (b)), (1, .int (nI j))]) rfl (fun ls hl => ?_)
    refine lv_goto (tgt := 62) C.1 C.2.1 d_M_take_93 (by decide) ?_
    exact ih (i + 1) (setA A 15 (upd (A 15) i (A 15 (i + 1)))) _ locs ls (by omega) hw9 hR m46 (hq_Sput (hS) u45 (by omega) (by omega)) hL (lv_push (lv_push (lv_push (lv_push (lv_nil hl) (lv_at hl 3 rfl)) (lv_at hl 2 rfl)) (lv_at hl 1 rfl)) (lv_at hl 0 rfl))
set_option maxHeartbeats 4000000 in
set_option maxRecDepth 100000 in
theorem c_M_take (l : Launch) (D : va_G) (cI cZ cN cJ : ClassId) (lo : Nat) (b n : Nat) (hlo : lo ≤ b) (th : Int32) (A : Nat → Nat → Int32) (j : Nat) (hj : j < 4) (hn : n ≤ 4) (hjn : j < n) (ok : okA A) : hq_M l y_M_take b_M_take 4 (some .int) TB { frames := 1, cells := 0, slots := 0, locals := 25 } lo D vwCl (TY cI cZ cN cJ) [.ref (b), .int (nI j)] (fun U => hq_B D vwCl b 31 (mdC cI cZ b th (nI n) A) U.heap) (fun H v9 H' => v9 = some (.int (f_M_take A j).2.2) ∧ hq_B D vwCl b 31 (mdC cI cZ b ((f_M_take A j).2.1) (nI n) (f_M_take A j).1) H' ∧ hq_S b 31 H H') := by
  refine hq_ofW (by decide) (Nat.le_of_ble_eq_true rfl) ?_
  intro p e s m below meth c ls C hml hret hlk hnm hl hP
  have hL : hq_L lo [] := hq_L0
  have hl : lv_has ls 4 [(0, .ref (b)), (1, .int (nI j))] := hl
  have hM : hq_B D vwCl b 31 (mdC cI cZ b th (nI n) A) s.heap := hP
  have k0 : va_at D vwCl (b, .inr (6, [.int (th), .int (nI n), .ref (b + 1), .ref (b + 2), .ref (b + 3), .ref (b + 4), .ref (b + 5), .ref (b + 6), .ref (b + 7), .ref (b + 8), .ref (b + 9), .ref (b + 10), .ref (b + 11), .ref (b + 12), .ref (b + 13), .ref (b + 14), .ref (b + 15), .ref (b + 16), .ref (b + 17), .ref (b + 18), .ref (b + 19), .ref (b + 20), .ref (b + 21), .ref (b + 22), .ref (b + 23), .ref (b + 24), .ref (b + 25), .ref (b + 26), .ref (b + 27), .ref (b + 28), .ref (b + 29), .ref (b + 30)])) s.heap := hM 0 (by decide)
  refine lv_aload_n C.1 C.2.1 d_M_take_0 rfl (lv_at hl 0 rfl) ?_
  refine lv_aload_n C.1 C.2.1 d_M_take_1 rfl (lv_at hl 0 rfl) ?_
  refine lv_iload_n C.1 C.2.1 d_M_take_2 rfl (lv_at hl 1 rfl) ?_
  refine hq_callV (lo := lo) (As := [.int (nI j)]) (rest := [.ref (b)]) C tb_good hml Y_M_108 (c_noNode l D cI cZ cN cJ lo b n th (nI j)) k0 rfl (fun _ _ _ _ h => h) (fun U hU hW => by show va_at D vwCl (b, .inr (6, [.int (th), .int (nI n), .ref (b + 1), .ref (b + 2), .ref (b + 3), .ref (b + 4), .ref (b + 5), .ref (b + 6), .ref (b + 7), .ref (b + 8), .ref (b + 9), .ref (b + 10), .ref (b + 11), .ref (b + 12), .ref (b + 13), .ref (b + 14), .ref (b + 15), .ref (b + 16), .ref (b + 17), .ref (b + 18), .ref (b + 19), .ref (b + 20), .ref (b + 21), .ref (b + 22), .ref (b + 23), .ref (b + 24), .ref (b + 25), .ref (b + 26), .ref (b + 27), .ref (b + 28), .ref (b + 29), .ref (b + 30)])) U.heap; rw [hU]; exact k0) hL hl.1 rfl rfl ⟨⟨Nat.le_of_ble_eq_true rfl, Nat.le_of_ble_eq_true rfl⟩, Nat.le_of_ble_eq_true rfl, Nat.le_of_ble_eq_true rfl⟩ (Nat.le_of_ble_eq_true rfl) d_M_take_3 (fun v H41 locs hp hL => ?_)
  obtain ⟨rfl, rfl⟩ := hp
  refine W.eq (g2 := F0 m 6 ls [.int (nno n (nI j)), .ref (b)]) rfl ?_
  rw [nno_ok hn hjn]
  refine lv_if_eq (tgt := 13) C.1 C.2.1 d_M_take_6 (by decide) (fun _ => ?_) (fun hn => absurd (by decide) hn)
  refine lv_aload_n C.1 C.2.1 d_M_take_13 rfl (lv_at hl 0 rfl) ?_
  refine hq_get (v := .ref (b + 15)) C f_M_53 k0 rfl d_M_take_14 ?_
  refine lv_iload_n C.1 C.2.1 d_M_take_17 rfl (lv_at hl 1 rfl) ?_
  have e42 : va_at D vwCl (b + 15, .inl (cI, 4, .inl (A 14))) _ := hM 15 (by decide)
  refine hq_iald C 0 rfl e42 (vp_in_nI hj (by decide)) d_M_take_18 ?_
  rw [nI_clamp (show j < 2 ^ 31 by omega)]
  refine W.eq (g2 := F0 m 19 ls [.int (A 14 j), .ref (b)]) rfl ?_
  refine lv_if_ne (tgt := 26) C.1 C.2.1 d_M_take_19 (by decide) ?_ ?_
  · intro c43
    refine lv_iconst (v := 0) C.1 C.2.1 d_M_take_26 (by decide) ?_
    refine hq_put (lo := lo) C f_M_105 k0 rfl rfl (Nat.le_of_ble_eq_true rfl) hL (by omega) d_M_take_27 (fun H44 locs u45 hL => ?_)
    have m46 := md_thr (th2 := 0) hM u45
    have k0 : va_at D vwCl (b, .inr (6, [.int (0), .int (nI n), .ref (b + 1), .ref (b + 2), .ref (b + 3), .ref (b + 4), .ref (b + 5), .ref (b + 6), .ref (b + 7), .ref (b + 8), .ref (b + 9), .ref (b + 10), .ref (b + 11), .ref (b + 12), .ref (b + 13), .ref (b + 14), .ref (b + 15), .ref (b + 16), .ref (b + 17), .ref (b + 18), .ref (b + 19), .ref (b + 20), .ref (b + 21), .ref (b + 22), .ref (b + 23), .ref (b + 24), .ref (b + 25), .ref (b + 26), .ref (b + 27), .ref (b + 28), .ref (b + 29), .ref (b + 30)])) H44 := m46 0 (by decide)
    refine lv_aload_n C.1 C.2.1 d_M_take_30 rfl (lv_at hl 0 rfl) ?_
    refine hq_get (v := .int (0)) C f_M_105 k0 rfl d_M_take_31 ?_
    refine lv_if_eq (tgt := 39) C.1 C.2.1 d_M_take_34 (by decide) (fun _ => ?_) (fun hn => absurd (by decide) hn)
    refine lv_aload_n C.1 C.2.1 d_M_take_39 rfl (lv_at hl 0 rfl) ?_
    refine hq_get (v := .ref (b + 16)) C f_M_56 k0 rfl d_M_take_40 ?_
    refine lv_iconst (v := 4) C.1 C.2.1 d_M_take_43 (by decide) ?_
    refine lv_iload_n C.1 C.2.1 d_M_take_44 rfl (lv_at hl 1 rfl) ?_
    refine lv_imul C.1 C.2.1 d_M_take_45 ?_
    rw [ix40 j]
    have e47 : va_at D vwCl (b + 16, .inl (cI, 16, .inl (A 15))) _ := m46 16 (by decide)
    refine hq_iald C 0 rfl e47 (vp_in_nI (show (4 * j) < 16 by omega) (by decide)) d_M_take_46 ?_
    rw [nI_clamp (show (4 * j) < 2 ^ 31 by omega)]
    refine W.eq (g2 := F0 m 47 ls [.int (A 15 (4 * j))]) rfl ?_
    refine lv_istore_n C.1 C.2.1 d_M_take_47 rfl hl (by decide) rfl (lv' := [(2, .int (A 15 (4 * j))), (0, .ref (b)), (1, .int (nI j))]) (fun ls hl => ?_)
    refine lv_aload_n C.1 C.2.1 d_M_take_48 rfl (lv_at hl 1 rfl) ?_
    refine hq_get (v := .ref (b + 15)) C f_M_53 k0 rfl d_M_take_49 ?_
    refine lv_iload_n C.1 C.2.1 d_M_take_52 rfl (lv_at hl 2 rfl) ?_
    refine lv_dup2_11 C.1 C.2.1 d_M_take_53 rfl rfl ?_
    have e48 : va_at D vwCl (b + 15, .inl (cI, 4, .inl (A 14))) _ := m46 15 (by decide)
    refine hq_iald C 0 rfl e48 (vp_in_nI hj (by decide)) d_M_take_54 ?_
    rw [nI_clamp (show j < 2 ^ 31 by omega)]
    refine W.eq (g2 := F0 m 55 ls [.int (A 14 j), .int (nI j), .ref (b + 15)]) rfl ?_
    refine lv_iconst (v := 1) C.1 C.2.1 d_M_take_55 (by decide) ?_
    refine lv_isub C.1 C.2.1 d_M_take_56 ?_
    have e49 : va_at D vwCl (b + 15, .inl (cI, 4, .inl (A 14))) _ := m46 15 (by decide)
    refine hq_iast (lo := lo) C 0 rfl e49 (vp_in_nI hj (by decide)) hL (by omega) d_M_take_57 (fun H50 locs u51 hL => ?_)
    rw [nI_clamp (show j < 2 ^ 31 by omega)] at u51
    have m52 := md_set (k := 14) (f := upd (A 14) j ((A 14 j) - 1)) m46 u51
    have k0 : va_at D vwCl (b, .inr (6, [.int (0), .int (nI n), .ref (b + 1), .ref (b + 2), .ref (b + 3), .ref (b + 4), .ref (b + 5), .ref (b + 6), .ref (b + 7), .ref (b + 8), .ref (b + 9), .ref (b + 10), .ref (b + 11), .ref (b + 12), .ref (b + 13), .ref (b + 14), .ref (b + 15), .ref (b + 16), .ref (b + 17), .ref (b + 18), .ref (b + 19), .ref (b + 20), .ref (b + 21), .ref (b + 22), .ref (b + 23), .ref (b + 24), .ref (b + 25), .ref (b + 26), .ref (b + 27), .ref (b + 28), .ref (b + 29), .ref (b + 30)])) H50 := m52 0 (by decide)
    refine lv_iconst (v := 4) C.1 C.2.1 d_M_take_58 (by decide) ?_
    refine lv_iload_n C.1 C.2.1 d_M_take_59 rfl (lv_at hl 2 rfl) ?_
    refine lv_imul C.1 C.2.1 d_M_take_60 ?_
    refine lv_istore_n C.1 C.2.1 d_M_take_61 rfl hl (by decide) rfl (lv' := [(3, .int (4 * (nI j))), (2, .int (A 15 (4 * j))), (0, .ref (b)), (1, .int (nI j))]) (fun ls hl => ?_)
    obtain ⟨hw4, hwe⟩ := bn_eq ok hj
    obtain ⟨hwp, hwd⟩ := bx_dn ok hj c43
    have hf : f_M_take A j = (sh1 (bn A j - 1) (4 * j) (setA A 14 (upd (A 14) j ((A 14 j) - 1))), 0, A 15 (4 * j)) := by unfold f_M_take; rw [if_neg c43]
    have h9 : (setA A 14 (upd (A 14) j ((A 14 j) - 1))) 14 j = nI (bn A j - 1) := (show upd (A 14) j (A 14 j - 1) j = A 14 j - 1 from pk_us).trans hwd
    have hl9 : lv_has ls 4 [(3, .int (nI (4 * j))), (2, .int (A 15 (4 * j))), (0, .ref b), (1, .int (nI j))] := by have h40 := ix40 j; rw [h40] at hl; exact lv_push (lv_push (lv_push (lv_push (lv_nil hl) (lv_at hl 3 rfl)) (lv_at hl 2 rfl)) (lv_at hl 1 rfl)) (lv_at hl 0 rfl)
    have hW := mk_loop (p := p) (l := l) (e := e) (below := below) D cI cZ cN cJ lo b n hlo j hj (bn A j - 1) (by omega) (A 15 (4 * j)) C hml hret hlk (bn A j - 1) (4 * j) (setA A 14 (upd (A 14) j ((A 14 j) - 1))) _ _ ls (by omega) h9 rfl m52 (hq_Sput (hq_Sput (hq_S0) u45 (by omega) (by omega)) u51 (by omega) (by omega)) hL hl9
    rw [hf]
    exact hW
  · intro c43
    refine lv_iconst (v := 2) C.1 C.2.1 d_M_take_22 (by decide) ?_
    refine lv_goto (tgt := 27) C.1 C.2.1 d_M_take_23 (by decide) ?_
    refine hq_put (lo := lo) C f_M_105 k0 rfl rfl (Nat.le_of_ble_eq_true rfl) hL (by omega) d_M_take_27 (fun H53 locs u54 hL => ?_)
    have m55 := md_thr (th2 := 2) hM u54
    have k0 : va_at D vwCl (b, .inr (6, [.int (2), .int (nI n), .ref (b + 1), .ref (b + 2), .ref (b + 3), .ref (b + 4), .ref (b + 5), .ref (b + 6), .ref (b + 7), .ref (b + 8), .ref (b + 9), .ref (b + 10), .ref (b + 11), .ref (b + 12), .ref (b + 13), .ref (b + 14), .ref (b + 15), .ref (b + 16), .ref (b + 17), .ref (b + 18), .ref (b + 19), .ref (b + 20), .ref (b + 21), .ref (b + 22), .ref (b + 23), .ref (b + 24), .ref (b + 25), .ref (b + 26), .ref (b + 27), .ref (b + 28), .ref (b + 29), .ref (b + 30)])) H53 := m55 0 (by decide)
    refine lv_aload_n C.1 C.2.1 d_M_take_30 rfl (lv_at hl 0 rfl) ?_
    refine hq_get (v := .int (2)) C f_M_105 k0 rfl d_M_take_31 ?_
    refine lv_if_eq (tgt := 39) C.1 C.2.1 d_M_take_34 (by decide) (fun hn => absurd hn (by decide)) (fun _ => ?_)
    refine lv_iconst (v := 0) C.1 C.2.1 d_M_take_37 (by decide) ?_
    have hf : f_M_take A j = (A, 2, 0) := by unfold f_M_take; rw [if_pos c43]
    exact hq_iret C hret hlk (Nat.le_of_ble_eq_true rfl) (Nat.le_of_ble_eq_true rfl) hL ⟨by rw [hf], by rw [hf]; exact m55, hq_Sput (hq_S0) u54 (by omega) (by omega)⟩ d_M_take_38
set_option maxHeartbeats 4000000 in
set_option maxRecDepth 100000 in
theorem ok_M_take (A : Nat → Nat → Int32) (j : Nat) (hj : j < 4) (ok : okA A) : okA (f_M_take A j).1 := by
  unfold f_M_take
  by_cases c43 : (A 14 j) = 0
  · rw [if_pos c43]
    exact ok
  · rw [if_neg c43]
    exact ok_sh1 _ _ _ (okA_14 rfl ⟨bn A j - 1, by have := (bn_eq ok hj).1; omega, (bx_dn ok hj c43).2⟩ ok)
set_option maxHeartbeats 4000000 in
set_option maxRecDepth 100000 in
theorem t0_M_take (A : Nat → Nat → Int32) (j : Nat) (hj : j < 4) : (f_M_take A j).1 0 0 = A 0 0 := by
  unfold f_M_take
  by_cases c43 : (A 14 j) = 0
  · rw [if_pos c43]
    all_goals rfl
  · rw [if_neg c43]
    exact sh1_0 _ _ _
def f_M_take_n (A : Nat → Nat → Int32) (v : Int32) : (Nat → Nat → Int32) × Int32 × Int32 := (A, 1, 0)
set_option maxHeartbeats 4000000 in
set_option maxRecDepth 100000 in
theorem c_M_take_n (l : Launch) (D : va_G) (cI cZ cN cJ : ClassId) (lo : Nat) (b n : Nat) (hlo : lo ≤ b) (th : Int32) (A : Nat → Nat → Int32) (v : Int32) (hb : v < 0 ∨ ¬ v < nI n) : hq_M l y_M_take b_M_take 4 (some .int) TB { frames := 1, cells := 0, slots := 0, locals := 25 } lo D vwCl (TY cI cZ cN cJ) [.ref (b), .int (v)] (fun U => hq_B D vwCl b 31 (mdC cI cZ b th (nI n) A) U.heap) (fun H v9 H' => v9 = some (.int (f_M_take_n A v).2.2) ∧ hq_B D vwCl b 31 (mdC cI cZ b ((f_M_take_n A v).2.1) (nI n) (f_M_take_n A v).1) H' ∧ hq_S b 31 H H') := by
  refine hq_ofW (by decide) (Nat.le_of_ble_eq_true rfl) ?_
  intro p e s m below meth c ls C hml hret hlk hnm hl hP
  have hL : hq_L lo [] := hq_L0
  have hl : lv_has ls 4 [(0, .ref (b)), (1, .int (v))] := hl
  have hM : hq_B D vwCl b 31 (mdC cI cZ b th (nI n) A) s.heap := hP
  have k0 : va_at D vwCl (b, .inr (6, [.int (th), .int (nI n), .ref (b + 1), .ref (b + 2), .ref (b + 3), .ref (b + 4), .ref (b + 5), .ref (b + 6), .ref (b + 7), .ref (b + 8), .ref (b + 9), .ref (b + 10), .ref (b + 11), .ref (b + 12), .ref (b + 13), .ref (b + 14), .ref (b + 15), .ref (b + 16), .ref (b + 17), .ref (b + 18), .ref (b + 19), .ref (b + 20), .ref (b + 21), .ref (b + 22), .ref (b + 23), .ref (b + 24), .ref (b + 25), .ref (b + 26), .ref (b + 27), .ref (b + 28), .ref (b + 29), .ref (b + 30)])) s.heap := hM 0 (by decide)
  refine lv_aload_n C.1 C.2.1 d_M_take_0 rfl (lv_at hl 0 rfl) ?_
  refine lv_aload_n C.1 C.2.1 d_M_take_1 rfl (lv_at hl 0 rfl) ?_
  refine lv_iload_n C.1 C.2.1 d_M_take_2 rfl (lv_at hl 1 rfl) ?_
  refine hq_callV (lo := lo) (As := [.int (v)]) (rest := [.ref (b)]) C tb_good hml Y_M_108 (c_noNode l D cI cZ cN cJ lo b n th v) k0 rfl (fun _ _ _ _ h => h) (fun U hU hW => by show va_at D vwCl (b, .inr (6, [.int (th), .int (nI n), .ref (b + 1), .ref (b + 2), .ref (b + 3), .ref (b + 4), .ref (b + 5), .ref (b + 6), .ref (b + 7), .ref (b + 8), .ref (b + 9), .ref (b + 10), .ref (b + 11), .ref (b + 12), .ref (b + 13), .ref (b + 14), .ref (b + 15), .ref (b + 16), .ref (b + 17), .ref (b + 18), .ref (b + 19), .ref (b + 20), .ref (b + 21), .ref (b + 22), .ref (b + 23), .ref (b + 24), .ref (b + 25), .ref (b + 26), .ref (b + 27), .ref (b + 28), .ref (b + 29), .ref (b + 30)])) U.heap; rw [hU]; exact k0) hL hl.1 rfl rfl ⟨⟨Nat.le_of_ble_eq_true rfl, Nat.le_of_ble_eq_true rfl⟩, Nat.le_of_ble_eq_true rfl, Nat.le_of_ble_eq_true rfl⟩ (Nat.le_of_ble_eq_true rfl) d_M_take_3 (fun v H41 locs hp hL => ?_)
  obtain ⟨rfl, rfl⟩ := hp
  refine W.eq (g2 := F0 m 6 ls [.int (nno n v), .ref (b)]) rfl ?_
  rw [nno_bad hb]
  refine lv_if_eq (tgt := 13) C.1 C.2.1 d_M_take_6 (by decide) (fun hn => absurd hn (by decide)) (fun _ => ?_)
  refine lv_iconst (v := 1) C.1 C.2.1 d_M_take_9 (by decide) ?_
  refine lv_goto (tgt := 27) C.1 C.2.1 d_M_take_10 (by decide) ?_
  refine hq_put (lo := lo) C f_M_105 k0 rfl rfl (Nat.le_of_ble_eq_true rfl) hL (by omega) d_M_take_27 (fun H42 locs u43 hL => ?_)
  have m44 := md_thr (th2 := 1) hM u43
  have k0 : va_at D vwCl (b, .inr (6, [.int (1), .int (nI n), .ref (b + 1), .ref (b + 2), .ref (b + 3), .ref (b + 4), .ref (b + 5), .ref (b + 6), .ref (b + 7), .ref (b + 8), .ref (b + 9), .ref (b + 10), .ref (b + 11), .ref (b + 12), .ref (b + 13), .ref (b + 14), .ref (b + 15), .ref (b + 16), .ref (b + 17), .ref (b + 18), .ref (b + 19), .ref (b + 20), .ref (b + 21), .ref (b + 22), .ref (b + 23), .ref (b + 24), .ref (b + 25), .ref (b + 26), .ref (b + 27), .ref (b + 28), .ref (b + 29), .ref (b + 30)])) H42 := m44 0 (by decide)
  refine lv_aload_n C.1 C.2.1 d_M_take_30 rfl (lv_at hl 0 rfl) ?_
  refine hq_get (v := .int (1)) C f_M_105 k0 rfl d_M_take_31 ?_
  refine lv_if_eq (tgt := 39) C.1 C.2.1 d_M_take_34 (by decide) (fun hn => absurd hn (by decide)) (fun _ => ?_)
  refine lv_iconst (v := 0) C.1 C.2.1 d_M_take_37 (by decide) ?_
  have hf : f_M_take_n A v = (A, 1, 0) := rfl
  exact hq_iret C hret hlk (Nat.le_of_ble_eq_true rfl) (Nat.le_of_ble_eq_true rfl) hL ⟨by rw [hf], by rw [hf]; exact m44, hq_Sput (hq_S0) u43 (by omega) (by omega)⟩ d_M_take_38
set_option maxHeartbeats 4000000 in
set_option maxRecDepth 100000 in
theorem ok_M_take_n (A : Nat → Nat → Int32) (v : Int32) (ok : okA A) : okA (f_M_take_n A v).1 := by
  exact ok
set_option maxHeartbeats 4000000 in
set_option maxRecDepth 100000 in
theorem t0_M_take_n (A : Nat → Nat → Int32) (v : Int32) : (f_M_take_n A v).1 0 0 = A 0 0 := by
  all_goals rfl
