/-! request, where it answers; level. -/
def f_X_request (z : sNd) (a g d : Int32) : sNd := (sNd.mk z.st z.was z.se z.he z.lo z.ma z.va z.sp z.dr z.pf z.ss z.on z.ro (f_Fr_add z.w (f_Fr_packed a g d)) z.i z.d z.k z.r)
set_option maxHeartbeats 4000000 in
set_option maxRecDepth 100000 in
theorem c_X_request (l : Launch) (D : va_G) (cI cZ cN cJ : ClassId) (lo : Nat) (x n k : Nat) (u : sBu) (hlo : lo ≤ x) (hn : n ≤ 4) (ok : okB n k u) (j : Nat) (hj : j < n) (a g d : Int32) (hq : rq a g d) (hst : ¬ (u.1 j).st = 7) (hk4 : (u.1 j).w.k < 4) : hq_M l y_X_request b_X_request 6 (some .int) TB { frames := 3, cells := 0, slots := 0, locals := 80 } lo D vwCl (TY cI cZ cN cJ) [.ref (x), .int (nI j), .int (a), .int (g), .int (d)] (fun U => BuP D cI cZ cN x n u U.heap) (fun H v H' => v = some (.int (nI ((u.1 j).w.k + 1))) ∧ BuP D cI cZ cN x n (setB u j (f_X_request (u.1 j) a g d)) H' ∧ hq_S x (4 + 10 * n) H H') := by
  refine hq_ofW (by decide) (Nat.le_of_ble_eq_true rfl) ?_
  intro p e s m below meth c ls C hml hret hlk hnm hl hP
  have hL : hq_L lo [] := hq_L0
  have hl : lv_has ls 6 [(0, .ref (x)), (1, .int (nI j)), (2, .int (a)), (3, .int (g)), (4, .int (d))] := hl
  have hB : BuP D cI cZ cN x n u s.heap := hP
  obtain ⟨b, hb⟩ : ∃ b, b = x + 4 + 10 * j := ⟨_, rfl⟩
  have k0 : va_at D vwCl (x, .inr (5, [.ref (x + 3), .ref (x + 1), .ref (x + 2)])) s.heap := hB.1 0 (by decide)
  have kz : NdP D cI cZ b (u.1 j) s.heap := by rw [hb]; exact hB.2 j hj
  refine lv_aload_n C.1 C.2.1 d_X_request_0 rfl (lv_at hl 0 rfl) ?_
  refine lv_iload_n C.1 C.2.1 d_X_request_1 rfl (lv_at hl 1 rfl) ?_
  refine hq_callV (lo := lo) (As := [.int (nI j)]) (rest := []) C tb_good hml Y_X_32 (c_nodeOf l D cI cZ cN cJ lo x n j (fun i => nOf (u.1 i)) (fun i => rOf (u.1 i)) u.2.1 u.2.2 hn hj) k0 rfl (fun _ _ _ _ h => h) (fun U hU hW => by show busP D cI cZ cN x n (fun i => nOf (u.1 i)) (fun i => rOf (u.1 i)) u.2.1 u.2.2 U.heap; rw [hU]; exact bus_to hB) hL hl.1 rfl rfl ⟨⟨Nat.le_of_ble_eq_true rfl, Nat.le_of_ble_eq_true rfl⟩, Nat.le_of_ble_eq_true rfl, Nat.le_of_ble_eq_true rfl⟩ (Nat.le_of_ble_eq_true rfl) d_X_request_2 (fun v H41 locs hp hL => ?_)
  obtain ⟨rfl, rfl⟩ := hp
  rw [← hb]
  refine W.eq (g2 := F0 m 5 ls [.ref (b)]) rfl ?_
  obtain ⟨q1, q2, q3, q4, q5⟩ := hq
  refine lv_astore C.1 C.2.1 d_X_request_5 hl (by decide) rfl (lv' := [(5, .ref (b)), (0, .ref (x)), (1, .int (nI j)), (2, .int (a)), (3, .int (g)), (4, .int (d))]) (fun ls hl => ?_)
  refine lv_iload_n C.1 C.2.1 d_X_request_7 rfl (lv_at hl 3 rfl) ?_
  refine hq_callS (lo := lo) (As := [.int (a)]) (rest := []) C tb_good hml Y_X_36 (c_isEleven l D cI cZ cN cJ lo a) (fun _ _ _ _ h => h) (fun U hU hW => trivial) hL hl.1 rfl rfl ⟨⟨Nat.le_of_ble_eq_true rfl, Nat.le_of_ble_eq_true rfl⟩, Nat.le_of_ble_eq_true rfl, Nat.le_of_ble_eq_true rfl⟩ (Nat.le_of_ble_eq_true rfl) d_X_request_8 (fun v H42 locs hp hL => ?_)
  obtain ⟨rfl, rfl⟩ := hp
  refine W.eq (g2 := F0 m 11 ls [.int (el a)]) rfl ?_
  refine lv_if_eq (tgt := 39) C.1 C.2.1 d_X_request_11 (by decide) (fun hn => absurd hn (q1)) (fun _ => ?_)
  refine lv_iload_n C.1 C.2.1 d_X_request_14 rfl (lv_at hl 4 rfl) ?_
  refine lv_if_lt (tgt := 39) C.1 C.2.1 d_X_request_15 (by decide) (fun hn => absurd hn (q2)) (fun _ => ?_)
  refine lv_iload_n C.1 C.2.1 d_X_request_18 rfl (lv_at hl 4 rfl) ?_
  refine lv_iconst (v := 2) C.1 C.2.1 d_X_request_19 (by decide) ?_
  refine lv_icmp_gt (tgt := 39) C.1 C.2.1 d_X_request_20 (by decide) (fun hn => absurd hn (q3)) (fun _ => ?_)
  refine lv_iload C.1 C.2.1 d_X_request_23 (lv_at hl 5 rfl) ?_
  refine lv_if_lt (tgt := 39) C.1 C.2.1 d_X_request_25 (by decide) (fun hn => absurd hn (q4)) (fun _ => ?_)
  refine lv_iload C.1 C.2.1 d_X_request_28 (lv_at hl 5 rfl) ?_
  refine lv_iconst (v := 1) C.1 C.2.1 d_X_request_30 (by decide) ?_
  refine lv_bipush (v := 8) C.1 C.2.1 d_X_request_31 (by decide) ?_
  refine lv_iload_n C.1 C.2.1 d_X_request_33 rfl (lv_at hl 4 rfl) ?_
  refine lv_imul C.1 C.2.1 d_X_request_34 ?_
  refine lv_ishl C.1 C.2.1 d_X_request_35 ?_
  refine lv_icmp_lt (tgt := 49) C.1 C.2.1 d_X_request_36 (by decide) (fun _ => ?_) (fun hn => absurd (q5) hn)
  refine lv_aload C.1 C.2.1 d_X_request_49 (lv_at hl 0 rfl) ?_
  refine hq_get (v := .int ((u.1 j).st)) C f_X_47 kz.1 rfl d_X_request_51 ?_
  refine lv_bipush (v := 7) C.1 C.2.1 d_X_request_54 (by decide) ?_
  refine lv_icmp_eq (tgt := 70) C.1 C.2.1 d_X_request_56 (by decide) (fun hn => absurd hn (hst)) (fun _ => ?_)
  refine lv_aload C.1 C.2.1 d_X_request_59 (lv_at hl 0 rfl) ?_
  refine hq_get (v := .ref (b + 1)) C f_X_51 kz.1 rfl d_X_request_61 ?_
  refine hq_callV (lo := lo) (As := []) (rest := []) C tb_good hml Y_X_55 (c_isFull l D cI cZ cN cJ lo (b + 1) (b + 1 + 1) (nI (u.1 j).w.k)) kz.2.1.1 rfl (fun _ _ _ _ h => h) (fun U hU hW => by show va_at D vwCl (b + 1, .inr (2, [.ref (b + 1 + 1), .int (nI (u.1 j).w.k)])) U.heap; rw [hU]; exact kz.2.1.1) hL hl.1 rfl rfl ⟨⟨Nat.le_of_ble_eq_true rfl, Nat.le_of_ble_eq_true rfl⟩, Nat.le_of_ble_eq_true rfl, Nat.le_of_ble_eq_true rfl⟩ (Nat.le_of_ble_eq_true rfl) d_X_request_64 (fun v H43 locs hp hL => ?_)
  obtain ⟨rfl, rfl⟩ := hp
  refine W.eq (g2 := F0 m 67 ls [.int (fl (nI (u.1 j).w.k))]) rfl ?_
  have hfl : fl (nI (u.1 j).w.k) = 0 := by unfold fl; rw [if_pos (show nI (u.1 j).w.k < 4 from nI_lt hk4 (by decide))]
  refine lv_if_eq (tgt := 80) C.1 C.2.1 d_X_request_67 (by decide) (fun _ => ?_) (fun hn => absurd (hfl) hn)
  refine lv_aload C.1 C.2.1 d_X_request_80 (lv_at hl 0 rfl) ?_
  refine hq_get (v := .ref (b + 1)) C f_X_51 kz.1 rfl d_X_request_82 ?_
  refine lv_iload_n C.1 C.2.1 d_X_request_85 rfl (lv_at hl 3 rfl) ?_
  refine lv_iload_n C.1 C.2.1 d_X_request_86 rfl (lv_at hl 4 rfl) ?_
  refine lv_iload C.1 C.2.1 d_X_request_87 (lv_at hl 5 rfl) ?_
  refine hq_callS (lo := lo) (As := [.int (a), .int (g), .int (d)]) (rest := [.ref (b + 1)]) C tb_good hml Y_X_66 (c_Fr_packed l D cI cZ cN cJ lo a g d) (fun _ _ _ _ h => h) (fun U hU hW => trivial) hL hl.1 rfl rfl ⟨⟨Nat.le_of_ble_eq_true rfl, Nat.le_of_ble_eq_true rfl⟩, Nat.le_of_ble_eq_true rfl, Nat.le_of_ble_eq_true rfl⟩ (Nat.le_of_ble_eq_true rfl) d_X_request_89 (fun v H44 locs hp hL => ?_)
  obtain ⟨rfl, rfl⟩ := hp
  refine W.eq (g2 := F0 m 92 ls [.int (f_Fr_packed a g d), .ref (b + 1)]) rfl ?_
  refine hq_callV (lo := lo) (As := [.int (f_Fr_packed a g d)]) (rest := []) C tb_good hml Y_X_70 (c_Fr_add l D cI cZ cN cJ lo (b + 1) (by omega) (u.1 j).w (ok.1 j hj).1 (f_Fr_packed a g d)) kz.2.1.1 rfl (fun _ _ _ _ h => h) (fun U hU hW => by show FrP D cI (b + 1) (u.1 j).w U.heap; rw [hU]; exact kz.2.1) hL hl.1 rfl rfl ⟨⟨Nat.le_of_ble_eq_true rfl, Nat.le_of_ble_eq_true rfl⟩, Nat.le_of_ble_eq_true rfl, Nat.le_of_ble_eq_true rfl⟩ (Nat.le_of_ble_eq_true rfl) d_X_request_92 (fun v H45 locs hp hL => ?_)
  obtain ⟨rfl, kd, Sd⟩ := hp
  refine W.eq (g2 := F0 m 95 ls []) rfl ?_
  refine lv_aload C.1 C.2.1 d_X_request_95 (lv_at hl 0 rfl) ?_
  have k46 := hq_as kz.1 Sd (by omega)
  refine hq_get (v := .ref (b + 1)) C f_X_51 k46 rfl d_X_request_97 ?_
  refine hq_get (v := .int (nI (f_Fr_add (u.1 j).w (f_Fr_packed a g d)).k)) C f_X_74 kd.1 rfl d_X_request_100 ?_
  have hk9 : (f_Fr_add (u.1 j).w (f_Fr_packed a g d)).k = (u.1 j).w.k + 1 := by unfold f_Fr_add; rw [if_pos hk4]
  rw [hk9]
  have k47 := hq_as kz.2.2.1.1 Sd (by omega)
  have k48 := hq_as kz.2.2.1.2 Sd (by omega)
  have k49 := hq_as kz.2.2.2.1.1 Sd (by omega)
  have k50 := hq_as kz.2.2.2.1.2 Sd (by omega)
  have k51 := hq_as kz.2.2.2.2.1.1 Sd (by omega)
  have k52 := hq_as kz.2.2.2.2.1.2 Sd (by omega)
  have k53 := hq_as kz.2.2.2.2.2 Sd (by omega)
  have hS9 : hq_S b 10 s.heap _ := hq_Scall (hq_S0) Sd (by omega) (by omega)
  rw [hb] at hS9
  have hB9 := BuP_set (z := f_X_request (u.1 j) a g d) hB (show NdP D cI cZ (x + 4 + 10 * j) (f_X_request (u.1 j) a g d) _ from by rw [← hb]; exact ⟨k46, ⟨kd.1, kd.2⟩, ⟨k47, k48⟩, ⟨k49, k50⟩, ⟨k51, k52⟩, k53⟩) hS9
  exact hq_iret C hret hlk (Nat.le_of_ble_eq_true rfl) (Nat.le_of_ble_eq_true rfl) hL ⟨rfl, hB9, hq_Scall hq_S0 hS9 (by omega) (by omega)⟩ d_X_request_103
theorem lev_ix {k j : Nat} (h : j < k) (hk : k < 2 ^ 31) : nI k - 1 - nI j = nI (k - 1 - j) := by
  rw [fr_pred (by omega)]
  have h1 : nI (k - 1 - j) + nI j = nI (k - 1 - j + j) := nI_add _ _
  rw [show k - 1 - j + j = k - 1 by omega] at h1
  rw [← h1, Int32.add_sub_cancel]
def f_X_level (u : sBu) (k : Nat) (a : Int32) : Int32 := if a < 0 then -1 else if 64 ≤ a then -1 else if a < nI k then u.2.1 ((k - 1 - a.toNatClampNeg) % 64) else -1
set_option maxHeartbeats 4000000 in
set_option maxRecDepth 100000 in
theorem c_X_level (l : Launch) (D : va_G) (cI cZ cN cJ : ClassId) (lo : Nat) (x n k : Nat) (u : sBu) (hk2 : k < 2 ^ 30) (ok : okB n k u) (a : Int32) : hq_M l y_X_level b_X_level 2 (some .int) TB { frames := 2, cells := 0, slots := 0, locals := 60 } lo D vwCl (TY cI cZ cN cJ) [.ref (x), .int (a)] (fun U => BuP D cI cZ cN x n u U.heap) (fun H v H' => v = some (.int (f_X_level u k a)) ∧ H' = H) := by
  refine hq_ofW (by decide) (Nat.le_of_ble_eq_true rfl) ?_
  intro p e s m below meth c ls C hml hret hlk hnm hl hP
  have hL : hq_L lo [] := hq_L0
  have hl : lv_has ls 2 [(0, .ref (x)), (1, .int (a))] := hl
  have hB : BuP D cI cZ cN x n u s.heap := hP
  have k0 : va_at D vwCl (x, .inr (5, [.ref (x + 3), .ref (x + 1), .ref (x + 2)])) s.heap := hB.1 0 (by decide)
  have k1 : va_at D vwCl (x + 1, .inl (cI, 64, .inl u.2.1)) s.heap := hB.1 1 (by decide)
  have k2 : va_at D vwCl (x + 2, .inl (cI, 8, .inl u.2.2)) s.heap := hB.1 2 (by decide)
  refine lv_iload_n C.1 C.2.1 d_X_level_0 rfl (lv_at hl 1 rfl) ?_
  refine lv_if_lt (tgt := 20) C.1 C.2.1 d_X_level_1 (by decide) ?_ ?_
  · intro c0
    refine lv_iconst (v := -1) C.1 C.2.1 d_X_level_20 (by decide) ?_
    exact hq_iret C hret hlk (Nat.le_of_ble_eq_true rfl) (Nat.le_of_ble_eq_true rfl) hL ⟨by unfold f_X_level; rw [if_pos c0], rfl⟩ d_X_level_21
  · intro c0
    refine lv_iload_n C.1 C.2.1 d_X_level_4 rfl (lv_at hl 1 rfl) ?_
    refine lv_bipush (v := 64) C.1 C.2.1 d_X_level_5 (by decide) ?_
    refine lv_icmp_ge (tgt := 20) C.1 C.2.1 d_X_level_7 (by decide) ?_ ?_
    · intro c1
      refine lv_iconst (v := -1) C.1 C.2.1 d_X_level_20 (by decide) ?_
      exact hq_iret C hret hlk (Nat.le_of_ble_eq_true rfl) (Nat.le_of_ble_eq_true rfl) hL ⟨by unfold f_X_level; rw [if_neg c0, if_pos c1], rfl⟩ d_X_level_21
    · intro c1
      refine lv_iload_n C.1 C.2.1 d_X_level_10 rfl (lv_at hl 1 rfl) ?_
      refine lv_aload_n C.1 C.2.1 d_X_level_11 rfl (lv_at hl 0 rfl) ?_
      refine hq_get (v := .ref (x + 2)) C f_X_13 k0 rfl d_X_level_12 ?_
      refine lv_iconst (v := 0) C.1 C.2.1 d_X_level_15 (by decide) ?_
      refine hq_iald C 0 rfl k2 (show vp_in (nI 0) 8 from vp_in_nI (by decide) (by decide)) d_X_level_16 ?_
      rw [show u.2.2 (Int32.toNatClampNeg 0) = nI k from ok.2]
      refine lv_icmp_lt (tgt := 22) C.1 C.2.1 d_X_level_17 (by decide) ?_ ?_
      · intro c2
        refine lv_aload_n C.1 C.2.1 d_X_level_22 rfl (lv_at hl 0 rfl) ?_
        refine hq_get (v := .ref (x + 1)) C f_X_9 k0 rfl d_X_level_23 ?_
        refine lv_aload_n C.1 C.2.1 d_X_level_26 rfl (lv_at hl 0 rfl) ?_
        refine hq_get (v := .ref (x + 2)) C f_X_13 k0 rfl d_X_level_27 ?_
        refine lv_iconst (v := 0) C.1 C.2.1 d_X_level_30 (by decide) ?_
        refine hq_iald C 0 rfl k2 (show vp_in (nI 0) 8 from vp_in_nI (by decide) (by decide)) d_X_level_31 ?_
        rw [show u.2.2 (Int32.toNatClampNeg 0) = nI k from ok.2]
        obtain ⟨j, hj, rfl⟩ := fr_ix (k := 64) (by decide) c0 c1
        have hjk : j < k := (nI_ltI (by omega) (by omega)).mp c2
        refine lv_iconst (v := 1) C.1 C.2.1 d_X_level_32 (by decide) ?_
        refine lv_isub C.1 C.2.1 d_X_level_33 ?_
        refine lv_iload_n C.1 C.2.1 d_X_level_34 rfl (lv_at hl 1 rfl) ?_
        refine lv_isub C.1 C.2.1 d_X_level_35 ?_
        refine lv_bipush (v := 64) C.1 C.2.1 d_X_level_36 (by decide) ?_
        rw [show nI k - 1 - nI j = nI (k - 1 - j) from lev_ix hjk (by omega)]
        refine lv_irem C.1 C.2.1 d_X_level_38 (by decide) ?_
        rw [show nI (k - 1 - j) - nI (k - 1 - j) / 64 * 64 = nI ((k - 1 - j) % 64) from pk_rem (d := 64) (by omega) (by decide) (by decide)]
        refine hq_iald C 0 rfl k1 (vp_in_nI (Nat.mod_lt _ (by decide)) (by decide)) d_X_level_39 ?_
        rw [nI_clamp (show (k - 1 - j) % 64 < 2 ^ 31 by omega)]
        exact hq_iret C hret hlk (Nat.le_of_ble_eq_true rfl) (Nat.le_of_ble_eq_true rfl) hL ⟨by unfold f_X_level; rw [if_neg c0, if_neg c1, if_pos c2, nI_clamp (by omega)], rfl⟩ d_X_level_40
      · intro c2
        refine lv_iconst (v := -1) C.1 C.2.1 d_X_level_20 (by decide) ?_
        exact hq_iret C hret hlk (Nat.le_of_ble_eq_true rfl) (Nat.le_of_ble_eq_true rfl) hL ⟨by unfold f_X_level; rw [if_neg c0, if_neg c1, if_neg c2], rfl⟩ d_X_level_21
