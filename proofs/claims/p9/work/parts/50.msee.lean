/-! Sending, hearing, and what a node does by what it sees: the reference. -/
def okE (j0 : Nat) (A : Nat → Nat → Int32) : Prop := ∀ j : Nat, j < 4 → (∃ w : Nat, w ≤ 4 ∧ A 9 j = nI w) ∧ (∃ w : Nat, w ≤ 4 ∧ A 14 j = nI w) ∧ (∃ w : Nat, w ≤ 3 ∧ A 13 j = nI w) ∧ (j ≠ j0 → A 3 j = 1 → ¬ A 9 j = 0)
theorem okE_o {A : Nat → Nat → Int32} {k j0 : Nat} {f : Nat → Int32} (h : k ≠ 3 ∧ k ≠ 9 ∧ k ≠ 13 ∧ k ≠ 14) (ok : okE j0 A) : okE j0 (setA A k f) := by
  intro j hj
  have h3 : setA A k f 3 = A 3 := setA_ne h.1.symm
  have h9 : setA A k f 9 = A 9 := setA_ne h.2.1.symm
  have h13 : setA A k f 13 = A 13 := setA_ne h.2.2.1.symm
  have h14 : setA A k f 14 = A 14 := setA_ne h.2.2.2.symm
  rw [h3, h9, h13, h14]
  exact ok j hj
theorem okE_sh3 {j0 : Nat} : ∀ (d i : Nat) (A : Nat → Nat → Int32), okE j0 A → okE j0 (sh3 d i A) := by
  intro d
  induction d with
  | zero => intro i A h; exact h
  | succ d ih => intro i A h; exact ih (i + 1) _ (okE_o (by decide) (okE_o (by decide) (okE_o (by decide) h)))
theorem okE_9 {A : Nat → Nat → Int32} {j : Nat} {v : Int32} (hv : ∃ w : Nat, w ≤ 4 ∧ v = nI w) (ok : okA A) : okE j (setA A 9 (upd (A 9) j v)) := by
  intro q hq
  have h0 := ok q hq
  have h3 : setA A 9 (upd (A 9) j v) 3 = A 3 := setA_ne (by decide)
  have h9 : setA A 9 (upd (A 9) j v) 9 = upd (A 9) j v := setA_eq A 9 _
  have h13 : setA A 9 (upd (A 9) j v) 13 = A 13 := setA_ne (by decide)
  have h14 : setA A 9 (upd (A 9) j v) 14 = A 14 := setA_ne (by decide)
  rw [h3, h9, h13, h14]
  by_cases e : q = j
  · subst e; rw [pk_us]; exact ⟨hv, h0.2.1, h0.2.2.1, fun h => absurd rfl h⟩
  · rw [pk_un e]; exact ⟨h0.1, h0.2.1, h0.2.2.1, fun _ => h0.2.2.2⟩
theorem okE_3 {A : Nat → Nat → Int32} {j : Nat} {v : Int32} (hv : ¬ v = 1) (ok : okE j A) : okA (setA A 3 (upd (A 3) j v)) := by
  intro q hq
  have h0 := ok q hq
  have h3 : setA A 3 (upd (A 3) j v) 3 = upd (A 3) j v := setA_eq A 3 _
  have h9 : setA A 3 (upd (A 3) j v) 9 = A 9 := setA_ne (by decide)
  have h13 : setA A 3 (upd (A 3) j v) 13 = A 13 := setA_ne (by decide)
  have h14 : setA A 3 (upd (A 3) j v) 14 = A 14 := setA_ne (by decide)
  rw [h3, h9, h13, h14]
  refine ⟨h0.1, h0.2.1, h0.2.2.1, fun h => ?_⟩
  by_cases e : q = j
  · subst e; rw [pk_us] at h; exact absurd h hv
  · rw [pk_un e] at h; exact h0.2.2.2 e h
theorem okE_rest {A : Nat → Nat → Int32} {j : Nat} (ok : okE j A) : okA (f_M_rest A j) := okA_o (by decide) (okE_3 (by decide) ok)
theorem wt_dn {A : Nat → Nat → Int32} {j : Nat} (ok : okA A) (hj : j < 4) (hw : ¬ A 9 j = 0) : 0 < wn A j ∧ A 9 j - 1 = nI (wn A j - 1) := by
  obtain ⟨hw4, hwe⟩ := wn_eq ok hj
  have hp : 0 < wn A j := Nat.pos_of_ne_zero (fun h => hw (hwe.trans ((congrArg nI h).trans nI_0)))
  refine ⟨hp, ?_⟩
  have h2 := fr_pred hp
  rw [← hwe] at h2
  exact h2
def f_M_begin_49 (A : Nat → Nat → Int32) (j : Nat) (v2 : Int32) : Nat → Nat → Int32 := (f_M_open (setA A 13 (upd (A 13) j v2)) j 1)
def f_M_begin (A : Nat → Nat → Int32) (j : Nat) : Nat → Nat → Int32 := f_M_begin_49 A j (nI (bst A j (wn A j - 1) 1 0))
set_option maxHeartbeats 4000000 in
set_option maxRecDepth 100000 in
theorem s_M_begin_49 {p : Program} {l : Launch} {e : Env} {s : State} {m : MethodId} {args : Array Value} {below : List Frame} {meth : Method} {c : Code} {H : Heap} {locs : List Loc} {ls : Array Slot} (D : va_G) (cI cZ cN cJ : ClassId) (lo b : Nat) (hlo : lo ≤ b) (th nn : Int32) (A : Nat → Nat → Int32) (j : Nat) (hj : j < 4) (v2 : Int32) {R9 : Nat → Nat → Int32} (hR : f_M_begin_49 A j v2 = R9) (C : hq_C p c s m args R_M b_M_begin TB D vwCl (TY cI cZ cN cJ)) (hml : c.maxLocals = 4) (hret : meth.sig.returnType = none) (hlk : meth.locks = false) (hL : hq_L lo locs) (hM : hq_B D vwCl b 31 (mdC cI cZ b th nn A) H) (hS : hq_S b 31 s.heap H) (hl : lv_has ls 4 [(0, .ref (b)), (1, .int (nI j)), (2, .int (v2))]) : W p l e { frames := 1, cells := 0, slots := 0, locals := 22 } s m args below meth c H locs 0 0 (MQ below (hq_Q (fun H v H' => v = none ∧ hq_B D vwCl b 31 (mdC cI cZ b th nn (R9)) H' ∧ hq_S b 31 H H')) args s 0 0 (fun q => lo ≤ q)) (F0 m 49 ls []) := by
  have k0 : va_at D vwCl (b, .inr (6, [.int (th), .int (nn), .ref (b + 1), .ref (b + 2), .ref (b + 3), .ref (b + 4), .ref (b + 5), .ref (b + 6), .ref (b + 7), .ref (b + 8), .ref (b + 9), .ref (b + 10), .ref (b + 11), .ref (b + 12), .ref (b + 13), .ref (b + 14), .ref (b + 15), .ref (b + 16), .ref (b + 17), .ref (b + 18), .ref (b + 19), .ref (b + 20), .ref (b + 21), .ref (b + 22), .ref (b + 23), .ref (b + 24), .ref (b + 25), .ref (b + 26), .ref (b + 27), .ref (b + 28), .ref (b + 29), .ref (b + 30)])) H := hM 0 (by decide)
  refine lv_aload_n C.1 C.2.1 d_M_begin_49 rfl (lv_at hl 0 rfl) ?_
  refine hq_get (v := .ref (b + 14)) C f_M_50 k0 rfl d_M_begin_50 ?_
  refine lv_iload_n C.1 C.2.1 d_M_begin_53 rfl (lv_at hl 1 rfl) ?_
  refine lv_iload_n C.1 C.2.1 d_M_begin_54 rfl (lv_at hl 2 rfl) ?_
  have e61 : va_at D vwCl (b + 14, .inl (cI, 4, .inl (A 13))) _ := hM 14 (by decide)
  refine hq_iast (lo := lo) C 0 rfl e61 (vp_in_nI hj (by decide)) hL (by omega) d_M_begin_55 (fun H62 locs u63 hL => ?_)
  rw [nI_clamp (show j < 2 ^ 31 by omega)] at u63
  have m64 := md_set (k := 13) (f := upd (A 13) j v2) hM u63
  have k0 : va_at D vwCl (b, .inr (6, [.int (th), .int (nn), .ref (b + 1), .ref (b + 2), .ref (b + 3), .ref (b + 4), .ref (b + 5), .ref (b + 6), .ref (b + 7), .ref (b + 8), .ref (b + 9), .ref (b + 10), .ref (b + 11), .ref (b + 12), .ref (b + 13), .ref (b + 14), .ref (b + 15), .ref (b + 16), .ref (b + 17), .ref (b + 18), .ref (b + 19), .ref (b + 20), .ref (b + 21), .ref (b + 22), .ref (b + 23), .ref (b + 24), .ref (b + 25), .ref (b + 26), .ref (b + 27), .ref (b + 28), .ref (b + 29), .ref (b + 30)])) H62 := m64 0 (by decide)
  refine lv_aload_n C.1 C.2.1 d_M_begin_56 rfl (lv_at hl 0 rfl) ?_
  refine lv_iload_n C.1 C.2.1 d_M_begin_57 rfl (lv_at hl 1 rfl) ?_
  refine lv_iconst (v := 1) C.1 C.2.1 d_M_begin_58 (by decide) ?_
  refine hq_callV (lo := lo) (As := [.int (nI j), .int (1)]) (rest := []) C tb_good hml Y_M_112 (c_M_open l D cI cZ cN cJ lo b hlo th nn (setA A 13 (upd (A 13) j v2)) j hj 1) k0 rfl (fun _ _ _ _ h => h) (fun U hU hW => by show hq_B D vwCl b 31 (mdC cI cZ b th nn (setA A 13 (upd (A 13) j v2))) U.heap; rw [hU]; exact m64) hL hl.1 rfl rfl ⟨⟨Nat.le_of_ble_eq_true rfl, Nat.le_of_ble_eq_true rfl⟩, Nat.le_of_ble_eq_true rfl, Nat.le_of_ble_eq_true rfl⟩ (Nat.le_of_ble_eq_true rfl) d_M_begin_59 (fun v H67 locs hp hL => ?_)
  obtain ⟨rfl, m65, S66⟩ := hp
  refine W.eq (g2 := F0 m 62 ls []) rfl ?_
  have k0 : va_at D vwCl (b, .inr (6, [.int (th), .int (nn), .ref (b + 1), .ref (b + 2), .ref (b + 3), .ref (b + 4), .ref (b + 5), .ref (b + 6), .ref (b + 7), .ref (b + 8), .ref (b + 9), .ref (b + 10), .ref (b + 11), .ref (b + 12), .ref (b + 13), .ref (b + 14), .ref (b + 15), .ref (b + 16), .ref (b + 17), .ref (b + 18), .ref (b + 19), .ref (b + 20), .ref (b + 21), .ref (b + 22), .ref (b + 23), .ref (b + 24), .ref (b + 25), .ref (b + 26), .ref (b + 27), .ref (b + 28), .ref (b + 29), .ref (b + 30)])) H67 := m65 0 (by decide)
  have hf : R9 = (f_M_open (setA A 13 (upd (A 13) j v2)) j 1) := by rw [← hR]; rfl
  exact hq_vret C hret hlk (Nat.le_of_ble_eq_true rfl) (Nat.le_of_ble_eq_true rfl) hL ⟨rfl, by rw [hf]; exact m65, hq_Scall (hq_Sput (hS) u63 (by omega) (by omega)) S66 (by omega) (by omega)⟩ d_M_begin_62
set_option maxHeartbeats 4000000 in
set_option maxRecDepth 100000 in
theorem mb_loop {p : Program} {l : Launch} {e : Env} {s : State} {m : MethodId} {args : Array Value} {below : List Frame} {meth : Method} {c : Code} (D : va_G) (cI cZ cN cJ : ClassId) (lo b : Nat) (hlo : lo ≤ b) (th nn : Int32) (A : Nat → Nat → Int32) (j : Nat) (hj : j < 4) (w : Nat) (hw4 : w ≤ 4) (hw : A 9 j = nI w) {R9 : Nat → Nat → Int32} (C : hq_C p c s m args R_M b_M_begin TB D vwCl (TY cI cZ cN cJ)) (hml : c.maxLocals = 4) (hret : meth.sig.returnType = none) (hlk : meth.locks = false) {H : Heap} (hM : hq_B D vwCl b 31 (mdC cI cZ b th nn A) H) (hS : hq_S b 31 s.heap H) :
    ∀ (d i q : Nat) (ls : Array Slot) (locs : List Loc), d = w - i → q < 4 → i ≤ 4 → f_M_begin_49 A j (nI (bst A j d i q)) = R9 → hq_L lo locs → lv_has ls 4 [(3, .int (nI i)), (2, .int (nI q)), (0, .ref b), (1, .int (nI j))] →
      W p l e { frames := 1, cells := 0, slots := 0, locals := 22 } s m args below meth c H locs 0 0 (MQ below (hq_Q (fun H v H' => v = none ∧ hq_B D vwCl b 31 (mdC cI cZ b th nn R9) H' ∧ hq_S b 31 H H')) args s 0 0 (fun q => lo ≤ q)) (F0 m 4 ls []) := by
  intro d
  induction d with
  | zero =>
    intro i q ls locs hd hq4 hi4 hR hL hl
    have k0 : va_at D vwCl (b, .inr (6, [.int (th), .int (nn), .ref (b + 1), .ref (b + 2), .ref (b + 3), .ref (b + 4), .ref (b + 5), .ref (b + 6), .ref (b + 7), .ref (b + 8), .ref (b + 9), .ref (b + 10), .ref (b + 11), .ref (b + 12), .ref (b + 13), .ref (b + 14), .ref (b + 15), .ref (b + 16), .ref (b + 17), .ref (b + 18), .ref (b + 19), .ref (b + 20), .ref (b + 21), .ref (b + 22), .ref (b + 23), .ref (b + 24), .ref (b + 25), .ref (b + 26), .ref (b + 27), .ref (b + 28), .ref (b + 29), .ref (b + 30)])) H := hM 0 (by decide)
    refine lv_iload_n C.1 C.2.1 d_M_begin_4 rfl (lv_at hl 0 rfl) ?_
    refine lv_aload_n C.1 C.2.1 d_M_begin_5 rfl (lv_at hl 2 rfl) ?_
    refine hq_get (v := .ref (b + 10)) C f_M_38 k0 rfl d_M_begin_6 ?_
    refine lv_iload_n C.1 C.2.1 d_M_begin_9 rfl (lv_at hl 3 rfl) ?_
    have e41 : va_at D vwCl (b + 10, .inl (cI, 4, .inl (A 9))) _ := hM 10 (by decide)
    refine hq_iald C 0 rfl e41 (vp_in_nI hj (by decide)) d_M_begin_10 ?_
    rw [nI_clamp (show j < 2 ^ 31 by omega)]
    refine W.eq (g2 := F0 m 11 ls [.int (A 9 j), .int (nI i)]) rfl ?_
    rw [hw]
    refine lv_icmp_ge (tgt := 49) C.1 C.2.1 d_M_begin_11 (by decide) (fun _ => ?_) (fun hn => absurd (nI_le (show w ≤ i by omega) (by omega)) hn)
    exact s_M_begin_49 D cI cZ cN cJ lo b hlo th nn A j hj (nI q) hR C hml hret hlk hL hM hS (lv_push (lv_push (lv_push (lv_nil hl) (lv_at hl 1 rfl)) (lv_at hl 3 rfl)) (lv_at hl 2 rfl))
  | succ d ih =>
    intro i q ls locs hd hq4 hi4 hR hL hl
    have k0 : va_at D vwCl (b, .inr (6, [.int (th), .int (nn), .ref (b + 1), .ref (b + 2), .ref (b + 3), .ref (b + 4), .ref (b + 5), .ref (b + 6), .ref (b + 7), .ref (b + 8), .ref (b + 9), .ref (b + 10), .ref (b + 11), .ref (b + 12), .ref (b + 13), .ref (b + 14), .ref (b + 15), .ref (b + 16), .ref (b + 17), .ref (b + 18), .ref (b + 19), .ref (b + 20), .ref (b + 21), .ref (b + 22), .ref (b + 23), .ref (b + 24), .ref (b + 25), .ref (b + 26), .ref (b + 27), .ref (b + 28), .ref (b + 29), .ref (b + 30)])) H := hM 0 (by decide)
    refine lv_iload_n C.1 C.2.1 d_M_begin_4 rfl (lv_at hl 0 rfl) ?_
    refine lv_aload_n C.1 C.2.1 d_M_begin_5 rfl (lv_at hl 2 rfl) ?_
    refine hq_get (v := .ref (b + 10)) C f_M_38 k0 rfl d_M_begin_6 ?_
    refine lv_iload_n C.1 C.2.1 d_M_begin_9 rfl (lv_at hl 3 rfl) ?_
    have e41 : va_at D vwCl (b + 10, .inl (cI, 4, .inl (A 9))) _ := hM 10 (by decide)
    refine hq_iald C 0 rfl e41 (vp_in_nI hj (by decide)) d_M_begin_10 ?_
    rw [nI_clamp (show j < 2 ^ 31 by omega)]
    refine W.eq (g2 := F0 m 11 ls [.int (A 9 j), .int (nI i)]) rfl ?_
    rw [hw]
    have hik : i < w := by omega
    refine lv_icmp_ge (tgt := 49) C.1 C.2.1 d_M_begin_11 (by decide) (fun hn => absurd hn (nI_ge hik (by omega))) (fun _ => ?_)
    refine lv_aload_n C.1 C.2.1 d_M_begin_14 rfl (lv_at hl 2 rfl) ?_
    refine hq_get (v := .ref (b + 11)) C f_M_41 k0 rfl d_M_begin_15 ?_
    refine lv_iconst (v := 4) C.1 C.2.1 d_M_begin_18 (by decide) ?_
    refine lv_iload_n C.1 C.2.1 d_M_begin_19 rfl (lv_at hl 3 rfl) ?_
    refine lv_imul C.1 C.2.1 d_M_begin_20 ?_
    refine lv_iload_n C.1 C.2.1 d_M_begin_21 rfl (lv_at hl 0 rfl) ?_
    refine lv_iadd C.1 C.2.1 d_M_begin_22 ?_
    rw [ix4 j i]
    have e42 : va_at D vwCl (b + 11, .inl (cI, 16, .inl (A 10))) _ := hM 11 (by decide)
    refine hq_iald C 0 rfl e42 (vp_in_nI (show (4 * j + i) < 16 by omega) (by decide)) d_M_begin_23 ?_
    rw [nI_clamp (show (4 * j + i) < 2 ^ 31 by omega)]
    refine W.eq (g2 := F0 m 24 ls [.int (A 10 (4 * j + i))]) rfl ?_
    refine lv_aload_n C.1 C.2.1 d_M_begin_24 rfl (lv_at hl 2 rfl) ?_
    refine hq_get (v := .ref (b + 11)) C f_M_41 k0 rfl d_M_begin_25 ?_
    refine lv_iconst (v := 4) C.1 C.2.1 d_M_begin_28 (by decide) ?_
    refine lv_iload_n C.1 C.2.1 d_M_begin_29 rfl (lv_at hl 3 rfl) ?_
    refine lv_imul C.1 C.2.1 d_M_begin_30 ?_
    refine lv_iload_n C.1 C.2.1 d_M_begin_31 rfl (lv_at hl 1 rfl) ?_
    refine lv_iadd C.1 C.2.1 d_M_begin_32 ?_
    rw [ix4 j q]
    have e43 : va_at D vwCl (b + 11, .inl (cI, 16, .inl (A 10))) _ := hM 11 (by decide)
    refine hq_iald C 0 rfl e43 (vp_in_nI (show (4 * j + q) < 16 by omega) (by decide)) d_M_begin_33 ?_
    rw [nI_clamp (show (4 * j + q) < 2 ^ 31 by omega)]
    refine W.eq (g2 := F0 m 34 ls [.int (A 10 (4 * j + q)), .int (A 10 (4 * j + i))]) rfl ?_
    refine lv_icmp_ge (tgt := 41) C.1 C.2.1 d_M_begin_34 (by decide) ?_ ?_
    · intro c0
      refine lv_iload_n C.1 C.2.1 d_M_begin_41 rfl (lv_at hl 1 rfl) ?_
      refine lv_istore_n C.1 C.2.1 d_M_begin_42 rfl hl (by decide) rfl (lv' := [(2, .int (nI q)), (3, .int (nI i)), (0, .ref (b)), (1, .int (nI j))]) (fun ls hl => ?_)
      refine lv_iinc (k := 1) (v := nI (i + 1)) C.1 C.2.1 d_M_begin_43 hl rfl (nI_1 i) (by decide) (lv' := [(3, .int (nI (i + 1))), (2, .int (nI q)), (0, .ref (b)), (1, .int (nI j))]) rfl (fun ls hl => ?_)
      refine lv_goto (tgt := 4) C.1 C.2.1 d_M_begin_46 (by decide) ?_
      exact ih (i + 1) q ls locs (by omega) (by omega) (by omega) (by rw [← hR, show bst A j (d + 1) i q = bst A j d (i + 1) (if A 10 (4 * j + q) ≤ A 10 (4 * j + i) then q else i) from rfl, if_pos c0]) hL (lv_push (lv_push (lv_push (lv_push (lv_nil hl) (lv_at hl 3 rfl)) (lv_at hl 2 rfl)) (lv_at hl 1 rfl)) (lv_at hl 0 rfl))
    · intro c0
      refine lv_iload_n C.1 C.2.1 d_M_begin_37 rfl (lv_at hl 0 rfl) ?_
      refine lv_goto (tgt := 42) C.1 C.2.1 d_M_begin_38 (by decide) ?_
      refine lv_istore_n C.1 C.2.1 d_M_begin_42 rfl hl (by decide) rfl (lv' := [(2, .int (nI i)), (3, .int (nI i)), (0, .ref (b)), (1, .int (nI j))]) (fun ls hl => ?_)
      refine lv_iinc (k := 1) (v := nI (i + 1)) C.1 C.2.1 d_M_begin_43 hl rfl (nI_1 i) (by decide) (lv' := [(3, .int (nI (i + 1))), (2, .int (nI i)), (0, .ref (b)), (1, .int (nI j))]) rfl (fun ls hl => ?_)
      refine lv_goto (tgt := 4) C.1 C.2.1 d_M_begin_46 (by decide) ?_
      exact ih (i + 1) i ls locs (by omega) (by omega) (by omega) (by rw [← hR, show bst A j (d + 1) i q = bst A j d (i + 1) (if A 10 (4 * j + q) ≤ A 10 (4 * j + i) then q else i) from rfl, if_neg c0]) hL (lv_push (lv_push (lv_push (lv_push (lv_nil hl) (lv_at hl 3 rfl)) (lv_at hl 2 rfl)) (lv_at hl 1 rfl)) (lv_at hl 0 rfl))
set_option maxHeartbeats 4000000 in
set_option maxRecDepth 100000 in
theorem c_M_begin (l : Launch) (D : va_G) (cI cZ cN cJ : ClassId) (lo : Nat) (b : Nat) (hlo : lo ≤ b) (th nn : Int32) (A : Nat → Nat → Int32) (j : Nat) (hj : j < 4) (ok : okA A) : hq_M l y_M_begin b_M_begin 4 none TB { frames := 1, cells := 0, slots := 0, locals := 22 } lo D vwCl (TY cI cZ cN cJ) [.ref (b), .int (nI j)] (fun U => hq_B D vwCl b 31 (mdC cI cZ b th nn A) U.heap) (fun H v H' => v = none ∧ hq_B D vwCl b 31 (mdC cI cZ b th nn (f_M_begin A j)) H' ∧ hq_S b 31 H H') := by
  refine hq_ofW (by decide) (Nat.le_of_ble_eq_true rfl) ?_
  intro p e s m below meth c ls C hml hret hlk hnm hl hP
  have hL : hq_L lo [] := hq_L0
  have hl : lv_has ls 4 [(0, .ref (b)), (1, .int (nI j))] := hl
  have hM : hq_B D vwCl b 31 (mdC cI cZ b th nn A) s.heap := hP
  have k0 : va_at D vwCl (b, .inr (6, [.int (th), .int (nn), .ref (b + 1), .ref (b + 2), .ref (b + 3), .ref (b + 4), .ref (b + 5), .ref (b + 6), .ref (b + 7), .ref (b + 8), .ref (b + 9), .ref (b + 10), .ref (b + 11), .ref (b + 12), .ref (b + 13), .ref (b + 14), .ref (b + 15), .ref (b + 16), .ref (b + 17), .ref (b + 18), .ref (b + 19), .ref (b + 20), .ref (b + 21), .ref (b + 22), .ref (b + 23), .ref (b + 24), .ref (b + 25), .ref (b + 26), .ref (b + 27), .ref (b + 28), .ref (b + 29), .ref (b + 30)])) s.heap := hM 0 (by decide)
  refine lv_iconst (v := 0) C.1 C.2.1 d_M_begin_0 (by decide) ?_
  refine lv_istore_n C.1 C.2.1 d_M_begin_1 rfl hl (by decide) rfl (lv' := [(2, .int (0)), (0, .ref (b)), (1, .int (nI j))]) (fun ls hl => ?_)
  refine lv_iconst (v := 1) C.1 C.2.1 d_M_begin_2 (by decide) ?_
  refine lv_istore_n C.1 C.2.1 d_M_begin_3 rfl hl (by decide) rfl (lv' := [(3, .int (1)), (2, .int (0)), (0, .ref (b)), (1, .int (nI j))]) (fun ls hl => ?_)
  obtain ⟨hw4, hwe⟩ := wn_eq ok hj
  exact mb_loop D cI cZ cN cJ lo b hlo th nn A j hj (wn A j) hw4 hwe C hml hret hlk hM hq_S0 (wn A j - 1) 1 0 ls [] rfl (by decide) (by decide) rfl hL (lv_push (lv_push (lv_push (lv_push (lv_nil hl) (lv_at hl 3 rfl)) (lv_at hl 2 rfl)) (lv_at hl 1 rfl)) (lv_at hl 0 rfl))
theorem ok_M_begin (A : Nat → Nat → Int32) (j : Nat) (hj : j < 4) (hw : ¬ A 9 j = 0) (ok : okA A) : okA (f_M_begin A j) := by
  have h1 : bst A j (wn A j - 1) 1 0 < 4 := bst_lt A j _ 1 0 4 (by decide) (by have := (wn_eq ok hj).1; omega)
  exact ok_M_open _ j hj 1 (fun _ => hw) (okA_13 rfl ⟨_, Nat.le_of_lt_succ h1, rfl⟩ ok)
def f_M_coreBit (A : Nat → Nat → Int32) (j : Nat) : Int32 := if (A 17 j) ≤ 0 then (if 15 ≤ (A 17 j) then (if 19 ≤ (A 17 j) then (if (8 * (A 11 ((4 * (nI j)) + (A 13 j)).toNatClampNeg)) ≤ ((A 17 j) - 19) then (((A 20 j) >>> (14 &&& 31)) &&& 1) else (((A 12 ((4 * (nI j)) + (A 13 j)).toNatClampNeg) >>> ((((8 * (((A 17 j) - 19) / 8)) + 7) - (((A 17 j) - 19) - ((A 17 j) - 19) / 8 * 8)) &&& 31)) &&& 1)) else (((A 11 ((4 * (nI j)) + (A 13 j)).toNatClampNeg) >>> ((18 - (A 17 j)) &&& 31)) &&& 1)) else ((0 : Int32))) else (if 12 ≤ (A 17 j) then (if 15 ≤ (A 17 j) then (if 19 ≤ (A 17 j) then (if (8 * (A 11 ((4 * (nI j)) + (A 13 j)).toNatClampNeg)) ≤ ((A 17 j) - 19) then (((A 20 j) >>> (14 &&& 31)) &&& 1) else (((A 12 ((4 * (nI j)) + (A 13 j)).toNatClampNeg) >>> ((((8 * (((A 17 j) - 19) / 8)) + 7) - (((A 17 j) - 19) - ((A 17 j) - 19) / 8 * 8)) &&& 31)) &&& 1)) else (((A 11 ((4 * (nI j)) + (A 13 j)).toNatClampNeg) >>> ((18 - (A 17 j)) &&& 31)) &&& 1)) else ((0 : Int32))) else (((A 10 ((4 * (nI j)) + (A 13 j)).toNatClampNeg) >>> ((11 - (A 17 j)) &&& 31)) &&& 1))
set_option maxHeartbeats 4000000 in
set_option maxRecDepth 100000 in
theorem c_M_coreBit (l : Launch) (D : va_G) (cI cZ cN cJ : ClassId) (lo : Nat) (b : Nat) (th nn : Int32) (A : Nat → Nat → Int32) (j : Nat) (hj : j < 4) (ok : okA A) : hq_M l y_M_coreBit b_M_coreBit 5 (some .int) TB { frames := 0, cells := 0, slots := 0, locals := 0 } lo D vwCl (TY cI cZ cN cJ) [.ref (b), .int (nI j)] (fun U => hq_B D vwCl b 31 (mdC cI cZ b th nn A) U.heap) (fun H v H' => v = some (.int (f_M_coreBit A j)) ∧ H' = H) := by
  refine hq_ofW (by decide) (Nat.le_of_ble_eq_true rfl) ?_
  intro p e s m below meth c ls C hml hret hlk hnm hl hP
  have hL : hq_L lo [] := hq_L0
  have hl : lv_has ls 5 [(0, .ref (b)), (1, .int (nI j))] := hl
  have hM : hq_B D vwCl b 31 (mdC cI cZ b th nn A) s.heap := hP
  have k0 : va_at D vwCl (b, .inr (6, [.int (th), .int (nn), .ref (b + 1), .ref (b + 2), .ref (b + 3), .ref (b + 4), .ref (b + 5), .ref (b + 6), .ref (b + 7), .ref (b + 8), .ref (b + 9), .ref (b + 10), .ref (b + 11), .ref (b + 12), .ref (b + 13), .ref (b + 14), .ref (b + 15), .ref (b + 16), .ref (b + 17), .ref (b + 18), .ref (b + 19), .ref (b + 20), .ref (b + 21), .ref (b + 22), .ref (b + 23), .ref (b + 24), .ref (b + 25), .ref (b + 26), .ref (b + 27), .ref (b + 28), .ref (b + 29), .ref (b + 30)])) s.heap := hM 0 (by decide)
  refine lv_aload_n C.1 C.2.1 d_M_coreBit_0 rfl (lv_at hl 0 rfl) ?_
  refine hq_get (v := .ref (b + 18)) C f_M_62 k0 rfl d_M_coreBit_1 ?_
  refine lv_iload_n C.1 C.2.1 d_M_coreBit_4 rfl (lv_at hl 1 rfl) ?_
  have e41 : va_at D vwCl (b + 18, .inl (cI, 4, .inl (A 17))) _ := hM 18 (by decide)
  refine hq_iald C 0 rfl e41 (vp_in_nI hj (by decide)) d_M_coreBit_5 ?_
  rw [nI_clamp (show j < 2 ^ 31 by omega)]
  refine W.eq (g2 := F0 m 6 ls [.int (A 17 j)]) rfl ?_
  refine lv_istore_n C.1 C.2.1 d_M_coreBit_6 rfl hl (by decide) rfl (lv' := [(2, .int (A 17 j)), (0, .ref (b)), (1, .int (nI j))]) (fun ls hl => ?_)
  refine lv_iconst (v := 4) C.1 C.2.1 d_M_coreBit_7 (by decide) ?_
  refine lv_iload_n C.1 C.2.1 d_M_coreBit_8 rfl (lv_at hl 2 rfl) ?_
  refine lv_imul C.1 C.2.1 d_M_coreBit_9 ?_
  refine lv_aload_n C.1 C.2.1 d_M_coreBit_10 rfl (lv_at hl 1 rfl) ?_
  refine hq_get (v := .ref (b + 14)) C f_M_50 k0 rfl d_M_coreBit_11 ?_
  refine lv_iload_n C.1 C.2.1 d_M_coreBit_14 rfl (lv_at hl 2 rfl) ?_
  have e42 : va_at D vwCl (b + 14, .inl (cI, 4, .inl (A 13))) _ := hM 14 (by decide)
  refine hq_iald C 0 rfl e42 (vp_in_nI hj (by decide)) d_M_coreBit_15 ?_
  rw [nI_clamp (show j < 2 ^ 31 by omega)]
  refine W.eq (g2 := F0 m 16 ls [.int (A 13 j), .int (4 * (nI j))]) rfl ?_
  refine lv_iadd C.1 C.2.1 d_M_coreBit_16 ?_
  refine lv_istore_n C.1 C.2.1 d_M_coreBit_17 rfl hl (by decide) rfl (lv' := [(3, .int ((4 * (nI j)) + (A 13 j))), (2, .int (A 17 j)), (0, .ref (b)), (1, .int (nI j))]) (fun ls hl => ?_)
  refine lv_iload_n C.1 C.2.1 d_M_coreBit_18 rfl (lv_at hl 1 rfl) ?_
  refine lv_if_le (tgt := 42) C.1 C.2.1 d_M_coreBit_19 (by decide) ?_ ?_
  · intro c43
    refine lv_iload_n C.1 C.2.1 d_M_coreBit_42 rfl (lv_at hl 1 rfl) ?_
    refine lv_bipush (v := 15) C.1 C.2.1 d_M_coreBit_43 (by decide) ?_
    refine lv_icmp_ge (tgt := 50) C.1 C.2.1 d_M_coreBit_45 (by decide) ?_ ?_
    · intro c44
      refine lv_iload_n C.1 C.2.1 d_M_coreBit_50 rfl (lv_at hl 1 rfl) ?_
      refine lv_bipush (v := 19) C.1 C.2.1 d_M_coreBit_51 (by decide) ?_
      refine lv_icmp_ge (tgt := 70) C.1 C.2.1 d_M_coreBit_53 (by decide) ?_ ?_
      · intro c45
        refine lv_iload_n C.1 C.2.1 d_M_coreBit_70 rfl (lv_at hl 1 rfl) ?_
        refine lv_bipush (v := 19) C.1 C.2.1 d_M_coreBit_71 (by decide) ?_
        refine lv_isub C.1 C.2.1 d_M_coreBit_73 ?_
        refine lv_istore C.1 C.2.1 d_M_coreBit_74 hl (by decide) rfl (lv' := [(4, .int ((A 17 j) - 19)), (3, .int ((4 * (nI j)) + (A 13 j))), (2, .int (A 17 j)), (0, .ref (b)), (1, .int (nI j))]) (fun ls hl => ?_)
        refine lv_iload C.1 C.2.1 d_M_coreBit_76 (lv_at hl 0 rfl) ?_
        refine lv_bipush (v := 8) C.1 C.2.1 d_M_coreBit_78 (by decide) ?_
        refine lv_aload_n C.1 C.2.1 d_M_coreBit_80 rfl (lv_at hl 3 rfl) ?_
        refine hq_get (v := .ref (b + 12)) C f_M_44 k0 rfl d_M_coreBit_81 ?_
        refine lv_iload_n C.1 C.2.1 d_M_coreBit_84 rfl (lv_at hl 1 rfl) ?_
        have e46 : va_at D vwCl (b + 12, .inl (cI, 16, .inl (A 11))) _ := hM 12 (by decide)
        refine hq_iald C 0 rfl e46 (in_ch ok hj) d_M_coreBit_85 ?_
        refine W.eq (g2 := F0 m 86 ls [.int (A 11 ((4 * (nI j)) + (A 13 j)).toNatClampNeg), .int (8), .int ((A 17 j) - 19)]) rfl ?_
        refine lv_imul C.1 C.2.1 d_M_coreBit_86 ?_
        refine lv_icmp_ge (tgt := 117) C.1 C.2.1 d_M_coreBit_87 (by decide) ?_ ?_
        · intro c47
          refine lv_aload_n C.1 C.2.1 d_M_coreBit_117 rfl (lv_at hl 3 rfl) ?_
          refine hq_get (v := .ref (b + 21)) C f_M_71 k0 rfl d_M_coreBit_118 ?_
          refine lv_iload_n C.1 C.2.1 d_M_coreBit_121 rfl (lv_at hl 4 rfl) ?_
          have e48 : va_at D vwCl (b + 21, .inl (cI, 4, .inl (A 20))) _ := hM 21 (by decide)
          refine hq_iald C 0 rfl e48 (vp_in_nI hj (by decide)) d_M_coreBit_122 ?_
          rw [nI_clamp (show j < 2 ^ 31 by omega)]
          refine W.eq (g2 := F0 m 123 ls [.int (A 20 j)]) rfl ?_
          refine lv_bipush (v := 14) C.1 C.2.1 d_M_coreBit_123 (by decide) ?_
          refine lv_ishr C.1 C.2.1 d_M_coreBit_125 ?_
          refine lv_iconst (v := 1) C.1 C.2.1 d_M_coreBit_126 (by decide) ?_
          refine lv_iand C.1 C.2.1 d_M_coreBit_127 ?_
          have hf : f_M_coreBit A j = ((A 20 j) >>> (14 &&& 31)) &&& 1 := by unfold f_M_coreBit; rw [if_pos c43, if_pos c44, if_pos c45, if_pos c47]
          exact hq_iret C hret hlk (Nat.le_of_ble_eq_true rfl) (Nat.le_of_ble_eq_true rfl) hL ⟨by rw [hf], rfl⟩ d_M_coreBit_128
        · intro c47
          refine lv_aload_n C.1 C.2.1 d_M_coreBit_90 rfl (lv_at hl 3 rfl) ?_
          refine hq_get (v := .ref (b + 13)) C f_M_47 k0 rfl d_M_coreBit_91 ?_
          refine lv_iload_n C.1 C.2.1 d_M_coreBit_94 rfl (lv_at hl 1 rfl) ?_
          have e49 : va_at D vwCl (b + 13, .inl (cI, 16, .inl (A 12))) _ := hM 13 (by decide)
          refine hq_iald C 0 rfl e49 (in_ch ok hj) d_M_coreBit_95 ?_
          refine W.eq (g2 := F0 m 96 ls [.int (A 12 ((4 * (nI j)) + (A 13 j)).toNatClampNeg)]) rfl ?_
          refine lv_bipush (v := 8) C.1 C.2.1 d_M_coreBit_96 (by decide) ?_
          refine lv_iload C.1 C.2.1 d_M_coreBit_98 (lv_at hl 0 rfl) ?_
          refine lv_bipush (v := 8) C.1 C.2.1 d_M_coreBit_100 (by decide) ?_
          refine lv_idiv C.1 C.2.1 d_M_coreBit_102 (by decide) ?_
          refine lv_imul C.1 C.2.1 d_M_coreBit_103 ?_
          refine lv_bipush (v := 7) C.1 C.2.1 d_M_coreBit_104 (by decide) ?_
          refine lv_iadd C.1 C.2.1 d_M_coreBit_106 ?_
          refine lv_iload C.1 C.2.1 d_M_coreBit_107 (lv_at hl 0 rfl) ?_
          refine lv_bipush (v := 8) C.1 C.2.1 d_M_coreBit_109 (by decide) ?_
          refine lv_irem C.1 C.2.1 d_M_coreBit_111 (by decide) ?_
          refine lv_isub C.1 C.2.1 d_M_coreBit_112 ?_
          refine lv_ishr C.1 C.2.1 d_M_coreBit_113 ?_
          refine lv_iconst (v := 1) C.1 C.2.1 d_M_coreBit_114 (by decide) ?_
          refine lv_iand C.1 C.2.1 d_M_coreBit_115 ?_
          have hf : f_M_coreBit A j = ((A 12 ((4 * (nI j)) + (A 13 j)).toNatClampNeg) >>> ((((8 * (((A 17 j) - 19) / 8)) + 7) - (((A 17 j) - 19) - ((A 17 j) - 19) / 8 * 8)) &&& 31)) &&& 1 := by unfold f_M_coreBit; rw [if_pos c43, if_pos c44, if_pos c45, if_neg c47]
          exact hq_iret C hret hlk (Nat.le_of_ble_eq_true rfl) (Nat.le_of_ble_eq_true rfl) hL ⟨by rw [hf], rfl⟩ d_M_coreBit_116
      · intro c45
        refine lv_aload_n C.1 C.2.1 d_M_coreBit_56 rfl (lv_at hl 2 rfl) ?_
        refine hq_get (v := .ref (b + 12)) C f_M_44 k0 rfl d_M_coreBit_57 ?_
        refine lv_iload_n C.1 C.2.1 d_M_coreBit_60 rfl (lv_at hl 0 rfl) ?_
        have e50 : va_at D vwCl (b + 12, .inl (cI, 16, .inl (A 11))) _ := hM 12 (by decide)
        refine hq_iald C 0 rfl e50 (in_ch ok hj) d_M_coreBit_61 ?_
        refine W.eq (g2 := F0 m 62 ls [.int (A 11 ((4 * (nI j)) + (A 13 j)).toNatClampNeg)]) rfl ?_
        refine lv_bipush (v := 18) C.1 C.2.1 d_M_coreBit_62 (by decide) ?_
        refine lv_iload_n C.1 C.2.1 d_M_coreBit_64 rfl (lv_at hl 1 rfl) ?_
        refine lv_isub C.1 C.2.1 d_M_coreBit_65 ?_
        refine lv_ishr C.1 C.2.1 d_M_coreBit_66 ?_
        refine lv_iconst (v := 1) C.1 C.2.1 d_M_coreBit_67 (by decide) ?_
        refine lv_iand C.1 C.2.1 d_M_coreBit_68 ?_
        have hf : f_M_coreBit A j = ((A 11 ((4 * (nI j)) + (A 13 j)).toNatClampNeg) >>> ((18 - (A 17 j)) &&& 31)) &&& 1 := by unfold f_M_coreBit; rw [if_pos c43, if_pos c44, if_neg c45]
        exact hq_iret C hret hlk (Nat.le_of_ble_eq_true rfl) (Nat.le_of_ble_eq_true rfl) hL ⟨by rw [hf], rfl⟩ d_M_coreBit_69
    · intro c44
      refine lv_iconst (v := 0) C.1 C.2.1 d_M_coreBit_48 (by decide) ?_
      have hf : f_M_coreBit A j = (0 : Int32) := by unfold f_M_coreBit; rw [if_pos c43, if_neg c44]
      exact hq_iret C hret hlk (Nat.le_of_ble_eq_true rfl) (Nat.le_of_ble_eq_true rfl) hL ⟨by rw [hf], rfl⟩ d_M_coreBit_49
  · intro c43
    refine lv_iload_n C.1 C.2.1 d_M_coreBit_22 rfl (lv_at hl 1 rfl) ?_
    refine lv_bipush (v := 12) C.1 C.2.1 d_M_coreBit_23 (by decide) ?_
    refine lv_icmp_ge (tgt := 42) C.1 C.2.1 d_M_coreBit_25 (by decide) ?_ ?_
    · intro c51
      refine lv_iload_n C.1 C.2.1 d_M_coreBit_42 rfl (lv_at hl 1 rfl) ?_
      refine lv_bipush (v := 15) C.1 C.2.1 d_M_coreBit_43 (by decide) ?_
      refine lv_icmp_ge (tgt := 50) C.1 C.2.1 d_M_coreBit_45 (by decide) ?_ ?_
      · intro c52
        refine lv_iload_n C.1 C.2.1 d_M_coreBit_50 rfl (lv_at hl 1 rfl) ?_
        refine lv_bipush (v := 19) C.1 C.2.1 d_M_coreBit_51 (by decide) ?_
        refine lv_icmp_ge (tgt := 70) C.1 C.2.1 d_M_coreBit_53 (by decide) ?_ ?_
        · intro c53
          refine lv_iload_n C.1 C.2.1 d_M_coreBit_70 rfl (lv_at hl 1 rfl) ?_
          refine lv_bipush (v := 19) C.1 C.2.1 d_M_coreBit_71 (by decide) ?_
          refine lv_isub C.1 C.2.1 d_M_coreBit_73 ?_
          refine lv_istore C.1 C.2.1 d_M_coreBit_74 hl (by decide) rfl (lv' := [(4, .int ((A 17 j) - 19)), (3, .int ((4 * (nI j)) + (A 13 j))), (2, .int (A 17 j)), (0, .ref (b)), (1, .int (nI j))]) (fun ls hl => ?_)
          refine lv_iload C.1 C.2.1 d_M_coreBit_76 (lv_at hl 0 rfl) ?_
          refine lv_bipush (v := 8) C.1 C.2.1 d_M_coreBit_78 (by decide) ?_
          refine lv_aload_n C.1 C.2.1 d_M_coreBit_80 rfl (lv_at hl 3 rfl) ?_
          refine hq_get (v := .ref (b + 12)) C f_M_44 k0 rfl d_M_coreBit_81 ?_
          refine lv_iload_n C.1 C.2.1 d_M_coreBit_84 rfl (lv_at hl 1 rfl) ?_
          have e54 : va_at D vwCl (b + 12, .inl (cI, 16, .inl (A 11))) _ := hM 12 (by decide)
          refine hq_iald C 0 rfl e54 (in_ch ok hj) d_M_coreBit_85 ?_
          refine W.eq (g2 := F0 m 86 ls [.int (A 11 ((4 * (nI j)) + (A 13 j)).toNatClampNeg), .int (8), .int ((A 17 j) - 19)]) rfl ?_
          refine lv_imul C.1 C.2.1 d_M_coreBit_86 ?_
          refine lv_icmp_ge (tgt := 117) C.1 C.2.1 d_M_coreBit_87 (by decide) ?_ ?_
          · intro c55
            refine lv_aload_n C.1 C.2.1 d_M_coreBit_117 rfl (lv_at hl 3 rfl) ?_
            refine hq_get (v := .ref (b + 21)) C f_M_71 k0 rfl d_M_coreBit_118 ?_
            refine lv_iload_n C.1 C.2.1 d_M_coreBit_121 rfl (lv_at hl 4 rfl) ?_
            have e56 : va_at D vwCl (b + 21, .inl (cI, 4, .inl (A 20))) _ := hM 21 (by decide)
            refine hq_iald C 0 rfl e56 (vp_in_nI hj (by decide)) d_M_coreBit_122 ?_
            rw [nI_clamp (show j < 2 ^ 31 by omega)]
            refine W.eq (g2 := F0 m 123 ls [.int (A 20 j)]) rfl ?_
            refine lv_bipush (v := 14) C.1 C.2.1 d_M_coreBit_123 (by decide) ?_
            refine lv_ishr C.1 C.2.1 d_M_coreBit_125 ?_
            refine lv_iconst (v := 1) C.1 C.2.1 d_M_coreBit_126 (by decide) ?_
            refine lv_iand C.1 C.2.1 d_M_coreBit_127 ?_
            have hf : f_M_coreBit A j = ((A 20 j) >>> (14 &&& 31)) &&& 1 := by unfold f_M_coreBit; rw [if_neg c43, if_pos c51, if_pos c52, if_pos c53, if_pos c55]
            exact hq_iret C hret hlk (Nat.le_of_ble_eq_true rfl) (Nat.le_of_ble_eq_true rfl) hL ⟨by rw [hf], rfl⟩ d_M_coreBit_128
          · intro c55
            refine lv_aload_n C.1 C.2.1 d_M_coreBit_90 rfl (lv_at hl 3 rfl) ?_
            refine hq_get (v := .ref (b + 13)) C f_M_47 k0 rfl d_M_coreBit_91 ?_
            refine lv_iload_n C.1 C.2.1 d_M_coreBit_94 rfl (lv_at hl 1 rfl) ?_
            have e57 : va_at D vwCl (b + 13, .inl (cI, 16, .inl (A 12))) _ := hM 13 (by decide)
            refine hq_iald C 0 rfl e57 (in_ch ok hj) d_M_coreBit_95 ?_
            refine W.eq (g2 := F0 m 96 ls [.int (A 12 ((4 * (nI j)) + (A 13 j)).toNatClampNeg)]) rfl ?_
            refine lv_bipush (v := 8) C.1 C.2.1 d_M_coreBit_96 (by decide) ?_
            refine lv_iload C.1 C.2.1 d_M_coreBit_98 (lv_at hl 0 rfl) ?_
            refine lv_bipush (v := 8) C.1 C.2.1 d_M_coreBit_100 (by decide) ?_
            refine lv_idiv C.1 C.2.1 d_M_coreBit_102 (by decide) ?_
            refine lv_imul C.1 C.2.1 d_M_coreBit_103 ?_
            refine lv_bipush (v := 7) C.1 C.2.1 d_M_coreBit_104 (by decide) ?_
            refine lv_iadd C.1 C.2.1 d_M_coreBit_106 ?_
            refine lv_iload C.1 C.2.1 d_M_coreBit_107 (lv_at hl 0 rfl) ?_
            refine lv_bipush (v := 8) C.1 C.2.1 d_M_coreBit_109 (by decide) ?_
            refine lv_irem C.1 C.2.1 d_M_coreBit_111 (by decide) ?_
            refine lv_isub C.1 C.2.1 d_M_coreBit_112 ?_
            refine lv_ishr C.1 C.2.1 d_M_coreBit_113 ?_
            refine lv_iconst (v := 1) C.1 C.2.1 d_M_coreBit_114 (by decide) ?_
            refine lv_iand C.1 C.2.1 d_M_coreBit_115 ?_
            have hf : f_M_coreBit A j = ((A 12 ((4 * (nI j)) + (A 13 j)).toNatClampNeg) >>> ((((8 * (((A 17 j) - 19) / 8)) + 7) - (((A 17 j) - 19) - ((A 17 j) - 19) / 8 * 8)) &&& 31)) &&& 1 := by unfold f_M_coreBit; rw [if_neg c43, if_pos c51, if_pos c52, if_pos c53, if_neg c55]
            exact hq_iret C hret hlk (Nat.le_of_ble_eq_true rfl) (Nat.le_of_ble_eq_true rfl) hL ⟨by rw [hf], rfl⟩ d_M_coreBit_116
        · intro c53
          refine lv_aload_n C.1 C.2.1 d_M_coreBit_56 rfl (lv_at hl 2 rfl) ?_
          refine hq_get (v := .ref (b + 12)) C f_M_44 k0 rfl d_M_coreBit_57 ?_
          refine lv_iload_n C.1 C.2.1 d_M_coreBit_60 rfl (lv_at hl 0 rfl) ?_
          have e58 : va_at D vwCl (b + 12, .inl (cI, 16, .inl (A 11))) _ := hM 12 (by decide)
          refine hq_iald C 0 rfl e58 (in_ch ok hj) d_M_coreBit_61 ?_
          refine W.eq (g2 := F0 m 62 ls [.int (A 11 ((4 * (nI j)) + (A 13 j)).toNatClampNeg)]) rfl ?_
          refine lv_bipush (v := 18) C.1 C.2.1 d_M_coreBit_62 (by decide) ?_
          refine lv_iload_n C.1 C.2.1 d_M_coreBit_64 rfl (lv_at hl 1 rfl) ?_
          refine lv_isub C.1 C.2.1 d_M_coreBit_65 ?_
          refine lv_ishr C.1 C.2.1 d_M_coreBit_66 ?_
          refine lv_iconst (v := 1) C.1 C.2.1 d_M_coreBit_67 (by decide) ?_
          refine lv_iand C.1 C.2.1 d_M_coreBit_68 ?_
          have hf : f_M_coreBit A j = ((A 11 ((4 * (nI j)) + (A 13 j)).toNatClampNeg) >>> ((18 - (A 17 j)) &&& 31)) &&& 1 := by unfold f_M_coreBit; rw [if_neg c43, if_pos c51, if_pos c52, if_neg c53]
          exact hq_iret C hret hlk (Nat.le_of_ble_eq_true rfl) (Nat.le_of_ble_eq_true rfl) hL ⟨by rw [hf], rfl⟩ d_M_coreBit_69
      · intro c52
        refine lv_iconst (v := 0) C.1 C.2.1 d_M_coreBit_48 (by decide) ?_
        have hf : f_M_coreBit A j = (0 : Int32) := by unfold f_M_coreBit; rw [if_neg c43, if_pos c51, if_neg c52]
        exact hq_iret C hret hlk (Nat.le_of_ble_eq_true rfl) (Nat.le_of_ble_eq_true rfl) hL ⟨by rw [hf], rfl⟩ d_M_coreBit_49
    · intro c51
      refine lv_aload_n C.1 C.2.1 d_M_coreBit_28 rfl (lv_at hl 2 rfl) ?_
      refine hq_get (v := .ref (b + 11)) C f_M_41 k0 rfl d_M_coreBit_29 ?_
      refine lv_iload_n C.1 C.2.1 d_M_coreBit_32 rfl (lv_at hl 0 rfl) ?_
      have e59 : va_at D vwCl (b + 11, .inl (cI, 16, .inl (A 10))) _ := hM 11 (by decide)
      refine hq_iald C 0 rfl e59 (in_ch ok hj) d_M_coreBit_33 ?_
      refine W.eq (g2 := F0 m 34 ls [.int (A 10 ((4 * (nI j)) + (A 13 j)).toNatClampNeg)]) rfl ?_
      refine lv_bipush (v := 11) C.1 C.2.1 d_M_coreBit_34 (by decide) ?_
      refine lv_iload_n C.1 C.2.1 d_M_coreBit_36 rfl (lv_at hl 1 rfl) ?_
      refine lv_isub C.1 C.2.1 d_M_coreBit_37 ?_
      refine lv_ishr C.1 C.2.1 d_M_coreBit_38 ?_
      refine lv_iconst (v := 1) C.1 C.2.1 d_M_coreBit_39 (by decide) ?_
      refine lv_iand C.1 C.2.1 d_M_coreBit_40 ?_
      have hf : f_M_coreBit A j = ((A 10 ((4 * (nI j)) + (A 13 j)).toNatClampNeg) >>> ((11 - (A 17 j)) &&& 31)) &&& 1 := by unfold f_M_coreBit; rw [if_neg c43, if_neg c51]
      exact hq_iret C hret hlk (Nat.le_of_ble_eq_true rfl) (Nat.le_of_ble_eq_true rfl) hL ⟨by rw [hf], rfl⟩ d_M_coreBit_41
def f_M_driven (A : Nat → Nat → Int32) (j : Nat) : Int32 := if (A 3 j) = 1 then (if (A 16 j) ≤ 0 then (if (A 18 j) = 5 then (1 - (A 19 j)) else ((f_M_coreBit A j))) else ((1 : Int32))) else (if (A 3 j) = 2 then (if (A 16 j) = 2 then (if (A 20 j) = 0 then ((0 : Int32)) else ((1 : Int32))) else ((1 : Int32))) else (if (A 3 j) = 3 then (if (A 25 j) = 0 then ((0 : Int32)) else ((1 : Int32))) else ((1 : Int32))))
set_option maxHeartbeats 4000000 in
set_option maxRecDepth 100000 in
theorem c_M_driven (l : Launch) (D : va_G) (cI cZ cN cJ : ClassId) (lo : Nat) (b : Nat) (th nn : Int32) (A : Nat → Nat → Int32) (j : Nat) (hj : j < 4) (ok : okA A) : hq_M l y_M_driven b_M_driven 2 (some .int) TB { frames := 1, cells := 0, slots := 0, locals := 24 } lo D vwCl (TY cI cZ cN cJ) [.ref (b), .int (nI j)] (fun U => hq_B D vwCl b 31 (mdC cI cZ b th nn A) U.heap) (fun H v H' => v = some (.int (f_M_driven A j)) ∧ H' = H) := by
  refine hq_ofW (by decide) (Nat.le_of_ble_eq_true rfl) ?_
  intro p e s m below meth c ls C hml hret hlk hnm hl hP
  have hL : hq_L lo [] := hq_L0
  have hl : lv_has ls 2 [(0, .ref (b)), (1, .int (nI j))] := hl
  have hM : hq_B D vwCl b 31 (mdC cI cZ b th nn A) s.heap := hP
  have k0 : va_at D vwCl (b, .inr (6, [.int (th), .int (nn), .ref (b + 1), .ref (b + 2), .ref (b + 3), .ref (b + 4), .ref (b + 5), .ref (b + 6), .ref (b + 7), .ref (b + 8), .ref (b + 9), .ref (b + 10), .ref (b + 11), .ref (b + 12), .ref (b + 13), .ref (b + 14), .ref (b + 15), .ref (b + 16), .ref (b + 17), .ref (b + 18), .ref (b + 19), .ref (b + 20), .ref (b + 21), .ref (b + 22), .ref (b + 23), .ref (b + 24), .ref (b + 25), .ref (b + 26), .ref (b + 27), .ref (b + 28), .ref (b + 29), .ref (b + 30)])) s.heap := hM 0 (by decide)
  refine lv_aload_n C.1 C.2.1 d_M_driven_0 rfl (lv_at hl 0 rfl) ?_
  refine hq_get (v := .ref (b + 4)) C f_M_20 k0 rfl d_M_driven_1 ?_
  refine lv_iload_n C.1 C.2.1 d_M_driven_4 rfl (lv_at hl 1 rfl) ?_
  have e41 : va_at D vwCl (b + 4, .inl (cI, 4, .inl (A 3))) _ := hM 4 (by decide)
  refine hq_iald C 0 rfl e41 (vp_in_nI hj (by decide)) d_M_driven_5 ?_
  rw [nI_clamp (show j < 2 ^ 31 by omega)]
  refine W.eq (g2 := F0 m 6 ls [.int (A 3 j)]) rfl ?_
  by_cases g42 : (A 3 j) = 1
  · refine lv_tableIn (tgt := 32) C.1 C.2.1 d_M_driven_6 (by rw [g42]; decide) (by rw [g42]; decide) (off := 26) (by rw [g42]; decide) (by decide) ?_
    refine lv_aload_n C.1 C.2.1 d_M_driven_32 rfl (lv_at hl 0 rfl) ?_
    refine hq_get (v := .ref (b + 17)) C f_M_59 k0 rfl d_M_driven_33 ?_
    refine lv_iload_n C.1 C.2.1 d_M_driven_36 rfl (lv_at hl 1 rfl) ?_
    have e43 : va_at D vwCl (b + 17, .inl (cI, 4, .inl (A 16))) _ := hM 17 (by decide)
    refine hq_iald C 0 rfl e43 (vp_in_nI hj (by decide)) d_M_driven_37 ?_
    rw [nI_clamp (show j < 2 ^ 31 by omega)]
    refine W.eq (g2 := F0 m 38 ls [.int (A 16 j)]) rfl ?_
    refine lv_if_le (tgt := 45) C.1 C.2.1 d_M_driven_38 (by decide) ?_ ?_
    · intro c44
      refine lv_aload_n C.1 C.2.1 d_M_driven_45 rfl (lv_at hl 0 rfl) ?_
      refine hq_get (v := .ref (b + 19)) C f_M_65 k0 rfl d_M_driven_46 ?_
      refine lv_iload_n C.1 C.2.1 d_M_driven_49 rfl (lv_at hl 1 rfl) ?_
      have e45 : va_at D vwCl (b + 19, .inl (cI, 4, .inl (A 18))) _ := hM 19 (by decide)
      refine hq_iald C 0 rfl e45 (vp_in_nI hj (by decide)) d_M_driven_50 ?_
      rw [nI_clamp (show j < 2 ^ 31 by omega)]
      refine W.eq (g2 := F0 m 51 ls [.int (A 18 j)]) rfl ?_
      refine lv_iconst (v := 5) C.1 C.2.1 d_M_driven_51 (by decide) ?_
      refine lv_icmp_ne (tgt := 66) C.1 C.2.1 d_M_driven_52 (by decide) ?_ ?_
      · intro c46
        refine lv_aload_n C.1 C.2.1 d_M_driven_66 rfl (lv_at hl 0 rfl) ?_
        refine lv_iload_n C.1 C.2.1 d_M_driven_67 rfl (lv_at hl 1 rfl) ?_
        refine hq_callV (lo := lo) (As := [.int (nI j)]) (rest := []) C tb_good hml Y_M_116 (c_M_coreBit l D cI cZ cN cJ lo b th nn A j hj ok) k0 rfl (fun _ _ _ _ h => h) (fun U hU hW => by show hq_B D vwCl b 31 (mdC cI cZ b th nn A) U.heap; rw [hU]; exact hM) hL hl.1 rfl rfl ⟨⟨Nat.le_of_ble_eq_true rfl, Nat.le_of_ble_eq_true rfl⟩, Nat.le_of_ble_eq_true rfl, Nat.le_of_ble_eq_true rfl⟩ (Nat.le_of_ble_eq_true rfl) d_M_driven_68 (fun v H47 locs hp hL => ?_)
        obtain ⟨rfl, rfl⟩ := hp
        refine W.eq (g2 := F0 m 71 ls [.int ((f_M_coreBit A j))]) rfl ?_
        have hf : f_M_driven A j = (f_M_coreBit A j) := by unfold f_M_driven; rw [if_pos g42, if_pos c44, if_neg c46]
        exact hq_iret C hret hlk (Nat.le_of_ble_eq_true rfl) (Nat.le_of_ble_eq_true rfl) hL ⟨by rw [hf], rfl⟩ d_M_driven_71
      · intro c46
        refine lv_iconst (v := 1) C.1 C.2.1 d_M_driven_55 (by decide) ?_
        refine lv_aload_n C.1 C.2.1 d_M_driven_56 rfl (lv_at hl 0 rfl) ?_
        refine hq_get (v := .ref (b + 20)) C f_M_68 k0 rfl d_M_driven_57 ?_
        refine lv_iload_n C.1 C.2.1 d_M_driven_60 rfl (lv_at hl 1 rfl) ?_
        have e48 : va_at D vwCl (b + 20, .inl (cI, 4, .inl (A 19))) _ := hM 20 (by decide)
        refine hq_iald C 0 rfl e48 (vp_in_nI hj (by decide)) d_M_driven_61 ?_
        rw [nI_clamp (show j < 2 ^ 31 by omega)]
        refine W.eq (g2 := F0 m 62 ls [.int (A 19 j), .int (1)]) rfl ?_
        refine lv_isub C.1 C.2.1 d_M_driven_62 ?_
        refine lv_goto (tgt := 71) C.1 C.2.1 d_M_driven_63 (by decide) ?_
        have hf : f_M_driven A j = 1 - (A 19 j) := by unfold f_M_driven; rw [if_pos g42, if_pos c44, if_pos c46]
        exact hq_iret C hret hlk (Nat.le_of_ble_eq_true rfl) (Nat.le_of_ble_eq_true rfl) hL ⟨by rw [hf], rfl⟩ d_M_driven_71
    · intro c44
      refine lv_iconst (v := 1) C.1 C.2.1 d_M_driven_41 (by decide) ?_
      refine lv_goto (tgt := 71) C.1 C.2.1 d_M_driven_42 (by decide) ?_
      have hf : f_M_driven A j = (1 : Int32) := by unfold f_M_driven; rw [if_pos g42, if_neg c44]
      exact hq_iret C hret hlk (Nat.le_of_ble_eq_true rfl) (Nat.le_of_ble_eq_true rfl) hL ⟨by rw [hf], rfl⟩ d_M_driven_71
  · skip
    by_cases g49 : (A 3 j) = 2
    · refine lv_tableIn (tgt := 72) C.1 C.2.1 d_M_driven_6 (by rw [g49]; decide) (by rw [g49]; decide) (off := 66) (by rw [g49]; decide) (by decide) ?_
      refine lv_aload_n C.1 C.2.1 d_M_driven_72 rfl (lv_at hl 0 rfl) ?_
      refine hq_get (v := .ref (b + 17)) C f_M_59 k0 rfl d_M_driven_73 ?_
      refine lv_iload_n C.1 C.2.1 d_M_driven_76 rfl (lv_at hl 1 rfl) ?_
      have e50 : va_at D vwCl (b + 17, .inl (cI, 4, .inl (A 16))) _ := hM 17 (by decide)
      refine hq_iald C 0 rfl e50 (vp_in_nI hj (by decide)) d_M_driven_77 ?_
      rw [nI_clamp (show j < 2 ^ 31 by omega)]
      refine W.eq (g2 := F0 m 78 ls [.int (A 16 j)]) rfl ?_
      refine lv_iconst (v := 2) C.1 C.2.1 d_M_driven_78 (by decide) ?_
      refine lv_icmp_ne (tgt := 95) C.1 C.2.1 d_M_driven_79 (by decide) ?_ ?_
      · intro c51
        refine lv_iconst (v := 1) C.1 C.2.1 d_M_driven_95 (by decide) ?_
        have hf : f_M_driven A j = (1 : Int32) := by unfold f_M_driven; rw [if_neg g42, if_pos g49, if_neg c51]
        exact hq_iret C hret hlk (Nat.le_of_ble_eq_true rfl) (Nat.le_of_ble_eq_true rfl) hL ⟨by rw [hf], rfl⟩ d_M_driven_96
      · intro c51
        refine lv_aload_n C.1 C.2.1 d_M_driven_82 rfl (lv_at hl 0 rfl) ?_
        refine hq_get (v := .ref (b + 21)) C f_M_71 k0 rfl d_M_driven_83 ?_
        refine lv_iload_n C.1 C.2.1 d_M_driven_86 rfl (lv_at hl 1 rfl) ?_
        have e52 : va_at D vwCl (b + 21, .inl (cI, 4, .inl (A 20))) _ := hM 21 (by decide)
        refine hq_iald C 0 rfl e52 (vp_in_nI hj (by decide)) d_M_driven_87 ?_
        rw [nI_clamp (show j < 2 ^ 31 by omega)]
        refine W.eq (g2 := F0 m 88 ls [.int (A 20 j)]) rfl ?_
        refine lv_if_ne (tgt := 95) C.1 C.2.1 d_M_driven_88 (by decide) ?_ ?_
        · intro c53
          refine lv_iconst (v := 1) C.1 C.2.1 d_M_driven_95 (by decide) ?_
          have hf : f_M_driven A j = (1 : Int32) := by unfold f_M_driven; rw [if_neg g42, if_pos g49, if_pos c51, if_neg c53]
          exact hq_iret C hret hlk (Nat.le_of_ble_eq_true rfl) (Nat.le_of_ble_eq_true rfl) hL ⟨by rw [hf], rfl⟩ d_M_driven_96
        · intro c53
          refine lv_iconst (v := 0) C.1 C.2.1 d_M_driven_91 (by decide) ?_
          refine lv_goto (tgt := 96) C.1 C.2.1 d_M_driven_92 (by decide) ?_
          have hf : f_M_driven A j = (0 : Int32) := by unfold f_M_driven; rw [if_neg g42, if_pos g49, if_pos c51, if_pos c53]
          exact hq_iret C hret hlk (Nat.le_of_ble_eq_true rfl) (Nat.le_of_ble_eq_true rfl) hL ⟨by rw [hf], rfl⟩ d_M_driven_96
    · skip
      by_cases g54 : (A 3 j) = 3
      · refine lv_tableIn (tgt := 97) C.1 C.2.1 d_M_driven_6 (by rw [g54]; decide) (by rw [g54]; decide) (off := 91) (by rw [g54]; decide) (by decide) ?_
        refine lv_aload_n C.1 C.2.1 d_M_driven_97 rfl (lv_at hl 0 rfl) ?_
        refine hq_get (v := .ref (b + 26)) C f_M_86 k0 rfl d_M_driven_98 ?_
        refine lv_iload_n C.1 C.2.1 d_M_driven_101 rfl (lv_at hl 1 rfl) ?_
        have e55 : va_at D vwCl (b + 26, .inl (cZ, 4, .inl (A 25))) _ := hM 26 (by decide)
        refine hq_zald C 1 rfl e55 (vp_in_nI hj (by decide)) d_M_driven_102 ?_
        rw [nI_clamp (show j < 2 ^ 31 by omega)]
        refine W.eq (g2 := F0 m 103 ls [.int (A 25 j)]) rfl ?_
        refine lv_if_eq (tgt := 110) C.1 C.2.1 d_M_driven_103 (by decide) ?_ ?_
        · intro c56
          refine lv_iconst (v := 0) C.1 C.2.1 d_M_driven_110 (by decide) ?_
          have hf : f_M_driven A j = (0 : Int32) := by unfold f_M_driven; rw [if_neg g42, if_neg g49, if_pos g54, if_pos c56]
          exact hq_iret C hret hlk (Nat.le_of_ble_eq_true rfl) (Nat.le_of_ble_eq_true rfl) hL ⟨by rw [hf], rfl⟩ d_M_driven_111
        · intro c56
          refine lv_iconst (v := 1) C.1 C.2.1 d_M_driven_106 (by decide) ?_
          refine lv_goto (tgt := 111) C.1 C.2.1 d_M_driven_107 (by decide) ?_
          have hf : f_M_driven A j = (1 : Int32) := by unfold f_M_driven; rw [if_neg g42, if_neg g49, if_pos g54, if_neg c56]
          exact hq_iret C hret hlk (Nat.le_of_ble_eq_true rfl) (Nat.le_of_ble_eq_true rfl) hL ⟨by rw [hf], rfl⟩ d_M_driven_111
      · skip
        have hout : (A 3 j).toInt < 1 ∨ 3 < (A 3 j).toInt := by
          have y0 := lv_neT g42 (a := 1) rfl
          have y1 := lv_neT g49 (a := 2) rfl
          have y2 := lv_neT g54 (a := 3) rfl
          omega
        refine lv_tableOut (tgt := 112) C.1 C.2.1 d_M_driven_6 hout (by decide) ?_
        refine lv_iconst (v := 1) C.1 C.2.1 d_M_driven_112 (by decide) ?_
        have hf : f_M_driven A j = (1 : Int32) := by unfold f_M_driven; rw [if_neg g42, if_neg g49, if_neg g54]
        exact hq_iret C hret hlk (Nat.le_of_ble_eq_true rfl) (Nat.le_of_ble_eq_true rfl) hL ⟨by rw [hf], rfl⟩ d_M_driven_113
def f_M_sentFrame (A : Nat → Nat → Int32) (j : Nat) : Nat → Nat → Int32 := if (A 4 j) ≤ 0 then (f_M_rest (sh3 (wn A j - 1 - cn A j) (4 * j + cn A j) (setA (setA (setA A 0 (upd (A 0) 1 ((A 0 1) + 1))) 4 (upd (A 4) j ((A 4 j) - 0))) 9 (upd (A 9) j ((A 9 j) - 1)))) j) else (f_M_rest (sh3 (wn A j - 1 - cn A j) (4 * j + cn A j) (setA (setA (setA A 0 (upd (A 0) 1 ((A 0 1) + 1))) 4 (upd (A 4) j ((A 4 j) - 1))) 9 (upd (A 9) j ((A 9 j) - 1)))) j)
set_option maxHeartbeats 4000000 in
set_option maxRecDepth 100000 in
theorem ms_loop {p : Program} {l : Launch} {e : Env} {s : State} {m : MethodId} {args : Array Value} {below : List Frame} {meth : Method} {c : Code} (D : va_G) (cI cZ cN cJ : ClassId) (lo b : Nat) (hlo : lo ≤ b) (th nn : Int32) (j : Nat) (hj : j < 4) (w : Nat) (hw3 : w ≤ 3) {R9 : Nat → Nat → Int32} (C : hq_C p c s m args R_M b_M_sentFrame TB D vwCl (TY cI cZ cN cJ)) (hml : c.maxLocals = 3) (hret : meth.sig.returnType = none) (hlk : meth.locks = false) :
    ∀ (d i : Nat) (A : Nat → Nat → Int32) (H : Heap) (locs : List Loc) (ls : Array Slot), d = 4 * j + w - i → A 9 j = nI w → f_M_rest (sh3 d i A) j = R9 → hq_B D vwCl b 31 (mdC cI cZ b th nn A) H → hq_S b 31 s.heap H → hq_L lo locs → lv_has ls 3 [(2, .int (nI i)), (0, .ref b), (1, .int (nI j))] → i < 2 ^ 20 →
      W p l e { frames := 1, cells := 0, slots := 0, locals := 21 } s m args below meth c H locs 0 0 (MQ below (hq_Q (fun H v H' => v = none ∧ hq_B D vwCl b 31 (mdC cI cZ b th nn R9) H' ∧ hq_S b 31 H H')) args s 0 0 (fun q => lo ≤ q)) (F0 m 54 ls []) := by
  intro d
  induction d with
  | zero =>
    intro i A H locs ls hd hw9 hR hM hS hL hl hi9
    have k0 : va_at D vwCl (b, .inr (6, [.int (th), .int (nn), .ref (b + 1), .ref (b + 2), .ref (b + 3), .ref (b + 4), .ref (b + 5), .ref (b + 6), .ref (b + 7), .ref (b + 8), .ref (b + 9), .ref (b + 10), .ref (b + 11), .ref (b + 12), .ref (b + 13), .ref (b + 14), .ref (b + 15), .ref (b + 16), .ref (b + 17), .ref (b + 18), .ref (b + 19), .ref (b + 20), .ref (b + 21), .ref (b + 22), .ref (b + 23), .ref (b + 24), .ref (b + 25), .ref (b + 26), .ref (b + 27), .ref (b + 28), .ref (b + 29), .ref (b + 30)])) H := hM 0 (by decide)
    refine lv_iload_n C.1 C.2.1 d_M_sentFrame_54 rfl (lv_at hl 0 rfl) ?_
    refine lv_iconst (v := 4) C.1 C.2.1 d_M_sentFrame_55 (by decide) ?_
    refine lv_iload_n C.1 C.2.1 d_M_sentFrame_56 rfl (lv_at hl 2 rfl) ?_
    refine lv_imul C.1 C.2.1 d_M_sentFrame_57 ?_
    refine lv_aload_n C.1 C.2.1 d_M_sentFrame_58 rfl (lv_at hl 1 rfl) ?_
    refine hq_get (v := .ref (b + 10)) C f_M_38 k0 rfl d_M_sentFrame_59 ?_
    refine lv_iload_n C.1 C.2.1 d_M_sentFrame_62 rfl (lv_at hl 2 rfl) ?_
    have e41 : va_at D vwCl (b + 10, .inl (cI, 4, .inl (A 9))) _ := hM 10 (by decide)
    refine hq_iald C 0 rfl e41 (vp_in_nI hj (by decide)) d_M_sentFrame_63 ?_
    rw [nI_clamp (show j < 2 ^ 31 by omega)]
    refine W.eq (g2 := F0 m 64 ls [.int (A 9 j), .int (4 * (nI j)), .int (nI i)]) rfl ?_
    rw [hw9]
    refine lv_iadd C.1 C.2.1 d_M_sentFrame_64 ?_
    rw [ix4 j w]
    refine lv_icmp_ge (tgt := 116) C.1 C.2.1 d_M_sentFrame_65 (by decide) (fun _ => ?_) (fun hn => absurd (nI_le (show 4 * j + w ≤ i by omega) (by omega)) hn)
    refine lv_aload_n C.1 C.2.1 d_M_sentFrame_116 rfl (lv_at hl 1 rfl) ?_
    refine lv_iload_n C.1 C.2.1 d_M_sentFrame_117 rfl (lv_at hl 2 rfl) ?_
    refine hq_callV (lo := lo) (As := [.int (nI j)]) (rest := []) C tb_good hml Y_M_133 (c_M_rest l D cI cZ cN cJ lo b hlo th nn A j hj) k0 rfl (fun _ _ _ _ h => h) (fun U hU hW => by show hq_B D vwCl b 31 (mdC cI cZ b th nn A) U.heap; rw [hU]; exact hM) hL hl.1 rfl rfl ⟨⟨Nat.le_of_ble_eq_true rfl, Nat.le_of_ble_eq_true rfl⟩, Nat.le_of_ble_eq_true rfl, Nat.le_of_ble_eq_true rfl⟩ (Nat.le_of_ble_eq_true rfl) d_M_sentFrame_118 (fun v H44 locs hp hL => ?_)
    obtain ⟨rfl, m42, S43⟩ := hp
    refine W.eq (g2 := F0 m 121 ls []) rfl ?_
    have k0 : va_at D vwCl (b, .inr (6, [.int (th), .int (nn), .ref (b + 1), .ref (b + 2), .ref (b + 3), .ref (b + 4), .ref (b + 5), .ref (b + 6), .ref (b + 7), .ref (b + 8), .ref (b + 9), .ref (b + 10), .ref (b + 11), .ref (b + 12), .ref (b + 13), .ref (b + 14), .ref (b + 15), .ref (b + 16), .ref (b + 17), .ref (b + 18), .ref (b + 19), .ref (b + 20), .ref (b + 21), .ref (b + 22), .ref (b + 23), .ref (b + 24), .ref (b + 25), .ref (b + 26), .ref (b + 27), .ref (b + 28), .ref (b + 29), .ref (b + 30)])) H44 := m42 0 (by decide)
    have hR : f_M_rest A j = R9 := hR
    exact hq_vret C hret hlk (Nat.le_of_ble_eq_true rfl) (Nat.le_of_ble_eq_true rfl) hL ⟨rfl, by rw [← hR]; exact m42, hq_Scall (hS) S43 (by omega) (by omega)⟩ d_M_sentFrame_121
  | succ d ih =>
    intro i A H locs ls hd hw9 hR hM hS hL hl hi9
    have k0 : va_at D vwCl (b, .inr (6, [.int (th), .int (nn), .ref (b + 1), .ref (b + 2), .ref (b + 3), .ref (b + 4), .ref (b + 5), .ref (b + 6), .ref (b + 7), .ref (b + 8), .ref (b + 9), .ref (b + 10), .ref (b + 11), .ref (b + 12), .ref (b + 13), .ref (b + 14), .ref (b + 15), .ref (b + 16), .ref (b + 17), .ref (b + 18), .ref (b + 19), .ref (b + 20), .ref (b + 21), .ref (b + 22), .ref (b + 23), .ref (b + 24), .ref (b + 25), .ref (b + 26), .ref (b + 27), .ref (b + 28), .ref (b + 29), .ref (b + 30)])) H := hM 0 (by decide)
    refine lv_iload_n C.1 C.2.1 d_M_sentFrame_54 rfl (lv_at hl 0 rfl) ?_
    refine lv_iconst (v := 4) C.1 C.2.1 d_M_sentFrame_55 (by decide) ?_
    refine lv_iload_n C.1 C.2.1 d_M_sentFrame_56 rfl (lv_at hl 2 rfl) ?_
    refine lv_imul C.1 C.2.1 d_M_sentFrame_57 ?_
    refine lv_aload_n C.1 C.2.1 d_M_sentFrame_58 rfl (lv_at hl 1 rfl) ?_
    refine hq_get (v := .ref (b + 10)) C f_M_38 k0 rfl d_M_sentFrame_59 ?_
    refine lv_iload_n C.1 C.2.1 d_M_sentFrame_62 rfl (lv_at hl 2 rfl) ?_
    have e41 : va_at D vwCl (b + 10, .inl (cI, 4, .inl (A 9))) _ := hM 10 (by decide)
    refine hq_iald C 0 rfl e41 (vp_in_nI hj (by decide)) d_M_sentFrame_63 ?_
    rw [nI_clamp (show j < 2 ^ 31 by omega)]
    refine W.eq (g2 := F0 m 64 ls [.int (A 9 j), .int (4 * (nI j)), .int (nI i)]) rfl ?_
    rw [hw9]
    refine lv_iadd C.1 C.2.1 d_M_sentFrame_64 ?_
    rw [ix4 j w]
    have hik : i < 4 * j + w := by omega
    refine lv_icmp_ge (tgt := 116) C.1 C.2.1 d_M_sentFrame_65 (by decide) (fun hn => absurd hn (nI_ge hik (by omega))) (fun _ => ?_)
    refine lv_aload_n C.1 C.2.1 d_M_sentFrame_68 rfl (lv_at hl 1 rfl) ?_
    refine hq_get (v := .ref (b + 11)) C f_M_41 k0 rfl d_M_sentFrame_69 ?_
    refine lv_iload_n C.1 C.2.1 d_M_sentFrame_72 rfl (lv_at hl 0 rfl) ?_
    refine lv_aload_n C.1 C.2.1 d_M_sentFrame_73 rfl (lv_at hl 1 rfl) ?_
    refine hq_get (v := .ref (b + 11)) C f_M_41 k0 rfl d_M_sentFrame_74 ?_
    refine lv_iload_n C.1 C.2.1 d_M_sentFrame_77 rfl (lv_at hl 0 rfl) ?_
    refine lv_iconst (v := 1) C.1 C.2.1 d_M_sentFrame_78 (by decide) ?_
    refine lv_iadd C.1 C.2.1 d_M_sentFrame_79 ?_
    rw [nI_1 i]
    have e42 : va_at D vwCl (b + 11, .inl (cI, 16, .inl (A 10))) _ := hM 11 (by decide)
    refine hq_iald C 0 rfl e42 (vp_in_nI (show (i + 1) < 16 by omega) (by decide)) d_M_sentFrame_80 ?_
    rw [nI_clamp (show (i + 1) < 2 ^ 31 by omega)]
    refine W.eq (g2 := F0 m 81 ls [.int (A 10 (i + 1)), .int (nI i), .ref (b + 11)]) rfl ?_
    have e43 : va_at D vwCl (b + 11, .inl (cI, 16, .inl (A 10))) _ := hM 11 (by decide)
    refine hq_iast (lo := lo) C 0 rfl e43 (vp_in_nI (show i < 16 by omega) (by decide)) hL (by omega) d_M_sentFrame_81 (fun H44 locs u45 hL => ?_)
    rw [nI_clamp (show i < 2 ^ 31 by omega)] at u45
    have m46 := md_set (k := 10) (f := upd (A 10) i (A 10 (i + 1))) hM u45
    have k0 : va_at D vwCl (b, .inr (6, [.int (th), .int (nn), .ref (b + 1), .ref (b + 2), .ref (b + 3), .ref (b + 4), .ref (b + 5), .ref (b + 6), .ref (b + 7), .ref (b + 8), .ref (b + 9), .ref (b + 10), .ref (b + 11), .ref (b + 12), .ref (b + 13), .ref (b + 14), .ref (b + 15), .ref (b + 16), .ref (b + 17), .ref (b + 18), .ref (b + 19), .ref (b + 20), .ref (b + 21), .ref (b + 22), .ref (b + 23), .ref (b + 24), .ref (b + 25), .ref (b + 26), .ref (b + 27), .ref (b + 28), .ref (b + 29), .ref (b + 30)])) H44 := m46 0 (by decide)
    refine lv_aload_n C.1 C.2.1 d_M_sentFrame_82 rfl (lv_at hl 1 rfl) ?_
    refine hq_get (v := .ref (b + 12)) C f_M_44 k0 rfl d_M_sentFrame_83 ?_
    refine lv_iload_n C.1 C.2.1 d_M_sentFrame_86 rfl (lv_at hl 0 rfl) ?_
    refine lv_aload_n C.1 C.2.1 d_M_sentFrame_87 rfl (lv_at hl 1 rfl) ?_
    refine hq_get (v := .ref (b + 12)) C f_M_44 k0 rfl d_M_sentFrame_88 ?_
    refine lv_iload_n C.1 C.2.1 d_M_sentFrame_91 rfl (lv_at hl 0 rfl) ?_
    refine lv_iconst (v := 1) C.1 C.2.1 d_M_sentFrame_92 (by decide) ?_
    refine lv_iadd C.1 C.2.1 d_M_sentFrame_93 ?_
    rw [nI_1 i]
    have e47 : va_at D vwCl (b + 12, .inl (cI, 16, .inl (A 11))) _ := m46 12 (by decide)
    refine hq_iald C 0 rfl e47 (vp_in_nI (show (i + 1) < 16 by omega) (by decide)) d_M_sentFrame_94 ?_
    rw [nI_clamp (show (i + 1) < 2 ^ 31 by omega)]
    refine W.eq (g2 := F0 m 95 ls [.int (A 11 (i + 1)), .int (nI i), .ref (b + 12)]) rfl ?_
    have e48 : va_at D vwCl (b + 12, .inl (cI, 16, .inl (A 11))) _ := m46 12 (by decide)
    refine hq_iast (lo := lo) C 0 rfl e48 (vp_in_nI (show i < 16 by omega) (by decide)) hL (by omega) d_M_sentFrame_95 (fun H49 locs u50 hL => ?_)
    rw [nI_clamp (show i < 2 ^ 31 by omega)] at u50
    have m51 := md_set (k := 11) (f := upd (A 11) i (A 11 (i + 1))) m46 u50
    have k0 : va_at D vwCl (b, .inr (6, [.int (th), .int (nn), .ref (b + 1), .ref (b + 2), .ref (b + 3), .ref (b + 4), .ref (b + 5), .ref (b + 6), .ref (b + 7), .ref (b + 8), .ref (b + 9), .ref (b + 10), .ref (b + 11), .ref (b + 12), .ref (b + 13), .ref (b + 14), .ref (b + 15), .ref (b + 16), .ref (b + 17), .ref (b + 18), .ref (b + 19), .ref (b + 20), .ref (b + 21), .ref (b + 22), .ref (b + 23), .ref (b + 24), .ref (b + 25), .ref (b + 26), .ref (b + 27), .ref (b + 28), .ref (b + 29), .ref (b + 30)])) H49 := m51 0 (by decide)
    refine lv_aload_n C.1 C.2.1 d_M_sentFrame_96 rfl (lv_at hl 1 rfl) ?_
    refine hq_get (v := .ref (b + 13)) C f_M_47 k0 rfl d_M_sentFrame_97 ?_
    refine lv_iload_n C.1 C.2.1 d_M_sentFrame_100 rfl (lv_at hl 0 rfl) ?_
    refine lv_aload_n C.1 C.2.1 d_M_sentFrame_101 rfl (lv_at hl 1 rfl) ?_
    refine hq_get (v := .ref (b + 13)) C f_M_47 k0 rfl d_M_sentFrame_102 ?_
    refine lv_iload_n C.1 C.2.1 d_M_sentFrame_105 rfl (lv_at hl 0 rfl) ?_
    refine lv_iconst (v := 1) C.1 C.2.1 d_M_sentFrame_106 (by decide) ?_
    refine lv_iadd C.1 C.2.1 d_M_sentFrame_107 ?_
    rw [nI_1 i]
    have e52 : va_at D vwCl (b + 13, .inl (cI, 16, .inl (A 12))) _ := m51 13 (by decide)
    refine hq_iald C 0 rfl e52 (vp_in_nI (show (i + 1) < 16 by omega) (by decide)) d_M_sentFrame_108 ?_
    rw [nI_clamp (show (i + 1) < 2 ^ 31 by omega)]
    refine W.eq (g2 := F0 m 109 ls [.int (A 12 (i + 1)), .int (nI i), .ref (b + 13)]) rfl ?_
    have e53 : va_at D vwCl (b + 13, .inl (cI, 16, .inl (A 12))) _ := m51 13 (by decide)
    refine hq_iast (lo := lo) C 0 rfl e53 (vp_in_nI (show i < 16 by omega) (by decide)) hL (by omega) d_M_sentFrame_109 (fun H54 locs u55 hL => ?_)
    rw [nI_clamp (show i < 2 ^ 31 by omega)] at u55
    have m56 := md_set (k := 12) (f := upd (A 12) i (A 12 (i + 1))) m51 u55
    have k0 : va_at D vwCl (b, .inr (6, [.int (th), .int (nn), .ref (b + 1), .ref (b + 2), .ref (b + 3), .ref (b + 4), .ref (b + 5), .ref (b + 6), .ref (b + 7), .ref (b + 8), .ref (b + 9), .ref (b + 10), .ref (b + 11), .ref (b + 12), .ref (b + 13), .ref (b + 14), .ref (b + 15), .ref (b + 16), .ref (b + 17), .ref (b + 18), .ref (b + 19), .ref (b + 20), .ref (b + 21), .ref (b + 22), .ref (b + 23), .ref (b + 24), .ref (b + 25), .ref (b + 26), .ref (b + 27), .ref (b + 28), .ref (b + 29), .ref (b + 30)])) H54 := m56 0 (by decide)
    refine lv_iinc (k := 0) (v := nI (i + 1)) C.1 C.2.1 d_M_sentFrame_110 hl rfl (nI_1 i) (by decide) (lv' := [(2, .int (nI (i + 1))), (0, .ref (b)), (1, .int (nI j))]) rfl (fun ls hl => ?_)
    refine lv_goto (tgt := 54) C.1 C.2.1 d_M_sentFrame_113 (by decide) ?_
    exact ih (i + 1) (setA (setA (setA A 10 (upd (A 10) i (A 10 (i + 1)))) 11 (upd (A 11) i (A 11 (i + 1)))) 12 (upd (A 12) i (A 12 (i + 1)))) _ locs ls (by omega) hw9 hR m56 (hq_Sput (hq_Sput (hq_Sput (hS) u45 (by omega) (by omega)) u50 (by omega) (by omega)) u55 (by omega) (by omega)) hL (lv_push (lv_push (lv_push (lv_nil hl) (lv_at hl 2 rfl)) (lv_at hl 1 rfl)) (lv_at hl 0 rfl)) (by omega)
set_option maxHeartbeats 4000000 in
set_option maxRecDepth 100000 in
theorem c_M_sentFrame (l : Launch) (D : va_G) (cI cZ cN cJ : ClassId) (lo : Nat) (b : Nat) (hlo : lo ≤ b) (th nn : Int32) (A : Nat → Nat → Int32) (j : Nat) (hj : j < 4) (hw : ¬ A 9 j = 0) (ok : okA A) : hq_M l y_M_sentFrame b_M_sentFrame 3 none TB { frames := 1, cells := 0, slots := 0, locals := 21 } lo D vwCl (TY cI cZ cN cJ) [.ref (b), .int (nI j)] (fun U => hq_B D vwCl b 31 (mdC cI cZ b th nn A) U.heap) (fun H v H' => v = none ∧ hq_B D vwCl b 31 (mdC cI cZ b th nn (f_M_sentFrame A j)) H' ∧ hq_S b 31 H H') := by
  refine hq_ofW (by decide) (Nat.le_of_ble_eq_true rfl) ?_
  intro p e s m below meth c ls C hml hret hlk hnm hl hP
  have hL : hq_L lo [] := hq_L0
  have hl : lv_has ls 3 [(0, .ref (b)), (1, .int (nI j))] := hl
  have hM : hq_B D vwCl b 31 (mdC cI cZ b th nn A) s.heap := hP
  have k0 : va_at D vwCl (b, .inr (6, [.int (th), .int (nn), .ref (b + 1), .ref (b + 2), .ref (b + 3), .ref (b + 4), .ref (b + 5), .ref (b + 6), .ref (b + 7), .ref (b + 8), .ref (b + 9), .ref (b + 10), .ref (b + 11), .ref (b + 12), .ref (b + 13), .ref (b + 14), .ref (b + 15), .ref (b + 16), .ref (b + 17), .ref (b + 18), .ref (b + 19), .ref (b + 20), .ref (b + 21), .ref (b + 22), .ref (b + 23), .ref (b + 24), .ref (b + 25), .ref (b + 26), .ref (b + 27), .ref (b + 28), .ref (b + 29), .ref (b + 30)])) s.heap := hM 0 (by decide)
  refine lv_aload_n C.1 C.2.1 d_M_sentFrame_0 rfl (lv_at hl 0 rfl) ?_
  refine hq_get (v := .ref (b + 1)) C f_M_7 k0 rfl d_M_sentFrame_1 ?_
  refine lv_iconst (v := 1) C.1 C.2.1 d_M_sentFrame_4 (by decide) ?_
  refine lv_dup2_11 C.1 C.2.1 d_M_sentFrame_5 rfl rfl ?_
  have e41 : va_at D vwCl (b + 1, .inl (cI, 8, .inl (A 0))) _ := hM 1 (by decide)
  refine hq_iald C 0 rfl e41 (show vp_in (nI 1) 8 from vp_in_nI (by decide) (by decide)) d_M_sentFrame_6 ?_
  refine W.eq (g2 := F0 m 7 ls [.int (A 0 1), .int (1), .ref (b + 1)]) rfl ?_
  refine lv_iconst (v := 1) C.1 C.2.1 d_M_sentFrame_7 (by decide) ?_
  refine lv_iadd C.1 C.2.1 d_M_sentFrame_8 ?_
  have e42 : va_at D vwCl (b + 1, .inl (cI, 8, .inl (A 0))) _ := hM 1 (by decide)
  refine hq_iast (lo := lo) C 0 rfl e42 (show vp_in (nI 1) 8 from vp_in_nI (by decide) (by decide)) hL (by omega) d_M_sentFrame_9 (fun H43 locs u44 hL => ?_)
  have m45 := md_set (k := 0) (f := upd (A 0) 1 ((A 0 1) + 1)) hM u44
  have k0 : va_at D vwCl (b, .inr (6, [.int (th), .int (nn), .ref (b + 1), .ref (b + 2), .ref (b + 3), .ref (b + 4), .ref (b + 5), .ref (b + 6), .ref (b + 7), .ref (b + 8), .ref (b + 9), .ref (b + 10), .ref (b + 11), .ref (b + 12), .ref (b + 13), .ref (b + 14), .ref (b + 15), .ref (b + 16), .ref (b + 17), .ref (b + 18), .ref (b + 19), .ref (b + 20), .ref (b + 21), .ref (b + 22), .ref (b + 23), .ref (b + 24), .ref (b + 25), .ref (b + 26), .ref (b + 27), .ref (b + 28), .ref (b + 29), .ref (b + 30)])) H43 := m45 0 (by decide)
  refine lv_aload_n C.1 C.2.1 d_M_sentFrame_10 rfl (lv_at hl 0 rfl) ?_
  refine hq_get (v := .ref (b + 5)) C f_M_23 k0 rfl d_M_sentFrame_11 ?_
  refine lv_iload_n C.1 C.2.1 d_M_sentFrame_14 rfl (lv_at hl 1 rfl) ?_
  refine lv_dup2_11 C.1 C.2.1 d_M_sentFrame_15 rfl rfl ?_
  have e46 : va_at D vwCl (b + 5, .inl (cI, 4, .inl (A 4))) _ := m45 5 (by decide)
  refine hq_iald C 0 rfl e46 (vp_in_nI hj (by decide)) d_M_sentFrame_16 ?_
  rw [nI_clamp (show j < 2 ^ 31 by omega)]
  refine W.eq (g2 := F0 m 17 ls [.int (A 4 j), .int (nI j), .ref (b + 5)]) rfl ?_
  refine lv_aload_n C.1 C.2.1 d_M_sentFrame_17 rfl (lv_at hl 0 rfl) ?_
  refine hq_get (v := .ref (b + 5)) C f_M_23 k0 rfl d_M_sentFrame_18 ?_
  refine lv_iload_n C.1 C.2.1 d_M_sentFrame_21 rfl (lv_at hl 1 rfl) ?_
  have e47 : va_at D vwCl (b + 5, .inl (cI, 4, .inl (A 4))) _ := m45 5 (by decide)
  refine hq_iald C 0 rfl e47 (vp_in_nI hj (by decide)) d_M_sentFrame_22 ?_
  rw [nI_clamp (show j < 2 ^ 31 by omega)]
  refine W.eq (g2 := F0 m 23 ls [.int (A 4 j), .int (A 4 j), .int (nI j), .ref (b + 5)]) rfl ?_
  refine lv_if_le (tgt := 30) C.1 C.2.1 d_M_sentFrame_23 (by decide) ?_ ?_
  · intro c48
    refine lv_iconst (v := 0) C.1 C.2.1 d_M_sentFrame_30 (by decide) ?_
    refine lv_isub C.1 C.2.1 d_M_sentFrame_31 ?_
    have e49 : va_at D vwCl (b + 5, .inl (cI, 4, .inl (A 4))) _ := m45 5 (by decide)
    refine hq_iast (lo := lo) C 0 rfl e49 (vp_in_nI hj (by decide)) hL (by omega) d_M_sentFrame_32 (fun H50 locs u51 hL => ?_)
    rw [nI_clamp (show j < 2 ^ 31 by omega)] at u51
    have m52 := md_set (k := 4) (f := upd (A 4) j ((A 4 j) - 0)) m45 u51
    have k0 : va_at D vwCl (b, .inr (6, [.int (th), .int (nn), .ref (b + 1), .ref (b + 2), .ref (b + 3), .ref (b + 4), .ref (b + 5), .ref (b + 6), .ref (b + 7), .ref (b + 8), .ref (b + 9), .ref (b + 10), .ref (b + 11), .ref (b + 12), .ref (b + 13), .ref (b + 14), .ref (b + 15), .ref (b + 16), .ref (b + 17), .ref (b + 18), .ref (b + 19), .ref (b + 20), .ref (b + 21), .ref (b + 22), .ref (b + 23), .ref (b + 24), .ref (b + 25), .ref (b + 26), .ref (b + 27), .ref (b + 28), .ref (b + 29), .ref (b + 30)])) H50 := m52 0 (by decide)
    refine lv_aload_n C.1 C.2.1 d_M_sentFrame_33 rfl (lv_at hl 0 rfl) ?_
    refine hq_get (v := .ref (b + 10)) C f_M_38 k0 rfl d_M_sentFrame_34 ?_
    refine lv_iload_n C.1 C.2.1 d_M_sentFrame_37 rfl (lv_at hl 1 rfl) ?_
    refine lv_dup2_11 C.1 C.2.1 d_M_sentFrame_38 rfl rfl ?_
    have e53 : va_at D vwCl (b + 10, .inl (cI, 4, .inl (A 9))) _ := m52 10 (by decide)
    refine hq_iald C 0 rfl e53 (vp_in_nI hj (by decide)) d_M_sentFrame_39 ?_
    rw [nI_clamp (show j < 2 ^ 31 by omega)]
    refine W.eq (g2 := F0 m 40 ls [.int (A 9 j), .int (nI j), .ref (b + 10)]) rfl ?_
    refine lv_iconst (v := 1) C.1 C.2.1 d_M_sentFrame_40 (by decide) ?_
    refine lv_isub C.1 C.2.1 d_M_sentFrame_41 ?_
    have e54 : va_at D vwCl (b + 10, .inl (cI, 4, .inl (A 9))) _ := m52 10 (by decide)
    refine hq_iast (lo := lo) C 0 rfl e54 (vp_in_nI hj (by decide)) hL (by omega) d_M_sentFrame_42 (fun H55 locs u56 hL => ?_)
    rw [nI_clamp (show j < 2 ^ 31 by omega)] at u56
    have m57 := md_set (k := 9) (f := upd (A 9) j ((A 9 j) - 1)) m52 u56
    have k0 : va_at D vwCl (b, .inr (6, [.int (th), .int (nn), .ref (b + 1), .ref (b + 2), .ref (b + 3), .ref (b + 4), .ref (b + 5), .ref (b + 6), .ref (b + 7), .ref (b + 8), .ref (b + 9), .ref (b + 10), .ref (b + 11), .ref (b + 12), .ref (b + 13), .ref (b + 14), .ref (b + 15), .ref (b + 16), .ref (b + 17), .ref (b + 18), .ref (b + 19), .ref (b + 20), .ref (b + 21), .ref (b + 22), .ref (b + 23), .ref (b + 24), .ref (b + 25), .ref (b + 26), .ref (b + 27), .ref (b + 28), .ref (b + 29), .ref (b + 30)])) H55 := m57 0 (by decide)
    refine lv_iconst (v := 4) C.1 C.2.1 d_M_sentFrame_43 (by decide) ?_
    refine lv_iload_n C.1 C.2.1 d_M_sentFrame_44 rfl (lv_at hl 1 rfl) ?_
    refine lv_imul C.1 C.2.1 d_M_sentFrame_45 ?_
    refine lv_aload_n C.1 C.2.1 d_M_sentFrame_46 rfl (lv_at hl 0 rfl) ?_
    refine hq_get (v := .ref (b + 14)) C f_M_50 k0 rfl d_M_sentFrame_47 ?_
    refine lv_iload_n C.1 C.2.1 d_M_sentFrame_50 rfl (lv_at hl 1 rfl) ?_
    have e58 : va_at D vwCl (b + 14, .inl (cI, 4, .inl (A 13))) _ := m57 14 (by decide)
    refine hq_iald C 0 rfl e58 (vp_in_nI hj (by decide)) d_M_sentFrame_51 ?_
    rw [nI_clamp (show j < 2 ^ 31 by omega)]
    refine W.eq (g2 := F0 m 52 ls [.int (A 13 j), .int (4 * (nI j))]) rfl ?_
    refine lv_iadd C.1 C.2.1 d_M_sentFrame_52 ?_
    refine lv_istore_n C.1 C.2.1 d_M_sentFrame_53 rfl hl (by decide) rfl (lv' := [(2, .int ((4 * (nI j)) + (A 13 j))), (0, .ref (b)), (1, .int (nI j))]) (fun ls hl => ?_)
    obtain ⟨hw4, hwe⟩ := wn_eq ok hj
    obtain ⟨hc3, hce⟩ := cn_eq ok hj
    obtain ⟨hwp, hwd⟩ := wt_dn ok hj hw
    have hf : f_M_sentFrame A j = f_M_rest (sh3 (wn A j - 1 - cn A j) (4 * j + cn A j) (setA (setA (setA A 0 (upd (A 0) 1 ((A 0 1) + 1))) 4 (upd (A 4) j ((A 4 j) - 0))) 9 (upd (A 9) j ((A 9 j) - 1)))) j := by unfold f_M_sentFrame; rw [if_pos c48]
    have h9 : (setA (setA (setA A 0 (upd (A 0) 1 ((A 0 1) + 1))) 4 (upd (A 4) j ((A 4 j) - 0))) 9 (upd (A 9) j ((A 9 j) - 1))) 9 j = nI (wn A j - 1) := (show upd (A 9) j (A 9 j - 1) j = A 9 j - 1 from pk_us).trans hwd
    have hl9 : lv_has ls 3 [(2, .int (nI (4 * j + cn A j))), (0, .ref b), (1, .int (nI j))] := by rw [← ix4 j (cn A j), ← hce]; exact lv_push (lv_push (lv_push (lv_nil hl) (lv_at hl 2 rfl)) (lv_at hl 1 rfl)) (lv_at hl 0 rfl)
    have hW := ms_loop (p := p) (l := l) (e := e) (below := below) D cI cZ cN cJ lo b hlo th nn j hj (wn A j - 1) (by omega) C hml hret hlk (wn A j - 1 - cn A j) (4 * j + cn A j) (setA (setA (setA A 0 (upd (A 0) 1 ((A 0 1) + 1))) 4 (upd (A 4) j ((A 4 j) - 0))) 9 (upd (A 9) j ((A 9 j) - 1))) _ _ ls (by omega) h9 rfl m57 (hq_Sput (hq_Sput (hq_Sput (hq_S0) u44 (by omega) (by omega)) u51 (by omega) (by omega)) u56 (by omega) (by omega)) hL hl9 (by omega)
    rw [hf]
    exact hW
  · intro c48
    refine lv_iconst (v := 1) C.1 C.2.1 d_M_sentFrame_26 (by decide) ?_
    refine lv_goto (tgt := 31) C.1 C.2.1 d_M_sentFrame_27 (by decide) ?_
    refine lv_isub C.1 C.2.1 d_M_sentFrame_31 ?_
    have e59 : va_at D vwCl (b + 5, .inl (cI, 4, .inl (A 4))) _ := m45 5 (by decide)
    refine hq_iast (lo := lo) C 0 rfl e59 (vp_in_nI hj (by decide)) hL (by omega) d_M_sentFrame_32 (fun H60 locs u61 hL => ?_)
    rw [nI_clamp (show j < 2 ^ 31 by omega)] at u61
    have m62 := md_set (k := 4) (f := upd (A 4) j ((A 4 j) - 1)) m45 u61
    have k0 : va_at D vwCl (b, .inr (6, [.int (th), .int (nn), .ref (b + 1), .ref (b + 2), .ref (b + 3), .ref (b + 4), .ref (b + 5), .ref (b + 6), .ref (b + 7), .ref (b + 8), .ref (b + 9), .ref (b + 10), .ref (b + 11), .ref (b + 12), .ref (b + 13), .ref (b + 14), .ref (b + 15), .ref (b + 16), .ref (b + 17), .ref (b + 18), .ref (b + 19), .ref (b + 20), .ref (b + 21), .ref (b + 22), .ref (b + 23), .ref (b + 24), .ref (b + 25), .ref (b + 26), .ref (b + 27), .ref (b + 28), .ref (b + 29), .ref (b + 30)])) H60 := m62 0 (by decide)
    refine lv_aload_n C.1 C.2.1 d_M_sentFrame_33 rfl (lv_at hl 0 rfl) ?_
    refine hq_get (v := .ref (b + 10)) C f_M_38 k0 rfl d_M_sentFrame_34 ?_
    refine lv_iload_n C.1 C.2.1 d_M_sentFrame_37 rfl (lv_at hl 1 rfl) ?_
    refine lv_dup2_11 C.1 C.2.1 d_M_sentFrame_38 rfl rfl ?_
    have e63 : va_at D vwCl (b + 10, .inl (cI, 4, .inl (A 9))) _ := m62 10 (by decide)
    refine hq_iald C 0 rfl e63 (vp_in_nI hj (by decide)) d_M_sentFrame_39 ?_
    rw [nI_clamp (show j < 2 ^ 31 by omega)]
    refine W.eq (g2 := F0 m 40 ls [.int (A 9 j), .int (nI j), .ref (b + 10)]) rfl ?_
    refine lv_iconst (v := 1) C.1 C.2.1 d_M_sentFrame_40 (by decide) ?_
    refine lv_isub C.1 C.2.1 d_M_sentFrame_41 ?_
    have e64 : va_at D vwCl (b + 10, .inl (cI, 4, .inl (A 9))) _ := m62 10 (by decide)
    refine hq_iast (lo := lo) C 0 rfl e64 (vp_in_nI hj (by decide)) hL (by omega) d_M_sentFrame_42 (fun H65 locs u66 hL => ?_)
    rw [nI_clamp (show j < 2 ^ 31 by omega)] at u66
    have m67 := md_set (k := 9) (f := upd (A 9) j ((A 9 j) - 1)) m62 u66
    have k0 : va_at D vwCl (b, .inr (6, [.int (th), .int (nn), .ref (b + 1), .ref (b + 2), .ref (b + 3), .ref (b + 4), .ref (b + 5), .ref (b + 6), .ref (b + 7), .ref (b + 8), .ref (b + 9), .ref (b + 10), .ref (b + 11), .ref (b + 12), .ref (b + 13), .ref (b + 14), .ref (b + 15), .ref (b + 16), .ref (b + 17), .ref (b + 18), .ref (b + 19), .ref (b + 20), .ref (b + 21), .ref (b + 22), .ref (b + 23), .ref (b + 24), .ref (b + 25), .ref (b + 26), .ref (b + 27), .ref (b + 28), .ref (b + 29), .ref (b + 30)])) H65 := m67 0 (by decide)
    refine lv_iconst (v := 4) C.1 C.2.1 d_M_sentFrame_43 (by decide) ?_
    refine lv_iload_n C.1 C.2.1 d_M_sentFrame_44 rfl (lv_at hl 1 rfl) ?_
    refine lv_imul C.1 C.2.1 d_M_sentFrame_45 ?_
    refine lv_aload_n C.1 C.2.1 d_M_sentFrame_46 rfl (lv_at hl 0 rfl) ?_
    refine hq_get (v := .ref (b + 14)) C f_M_50 k0 rfl d_M_sentFrame_47 ?_
    refine lv_iload_n C.1 C.2.1 d_M_sentFrame_50 rfl (lv_at hl 1 rfl) ?_
    have e68 : va_at D vwCl (b + 14, .inl (cI, 4, .inl (A 13))) _ := m67 14 (by decide)
    refine hq_iald C 0 rfl e68 (vp_in_nI hj (by decide)) d_M_sentFrame_51 ?_
    rw [nI_clamp (show j < 2 ^ 31 by omega)]
    refine W.eq (g2 := F0 m 52 ls [.int (A 13 j), .int (4 * (nI j))]) rfl ?_
    refine lv_iadd C.1 C.2.1 d_M_sentFrame_52 ?_
    refine lv_istore_n C.1 C.2.1 d_M_sentFrame_53 rfl hl (by decide) rfl (lv' := [(2, .int ((4 * (nI j)) + (A 13 j))), (0, .ref (b)), (1, .int (nI j))]) (fun ls hl => ?_)
    obtain ⟨hw4, hwe⟩ := wn_eq ok hj
    obtain ⟨hc3, hce⟩ := cn_eq ok hj
    obtain ⟨hwp, hwd⟩ := wt_dn ok hj hw
    have hf : f_M_sentFrame A j = f_M_rest (sh3 (wn A j - 1 - cn A j) (4 * j + cn A j) (setA (setA (setA A 0 (upd (A 0) 1 ((A 0 1) + 1))) 4 (upd (A 4) j ((A 4 j) - 1))) 9 (upd (A 9) j ((A 9 j) - 1)))) j := by unfold f_M_sentFrame; rw [if_neg c48]
    have h9 : (setA (setA (setA A 0 (upd (A 0) 1 ((A 0 1) + 1))) 4 (upd (A 4) j ((A 4 j) - 1))) 9 (upd (A 9) j ((A 9 j) - 1))) 9 j = nI (wn A j - 1) := (show upd (A 9) j (A 9 j - 1) j = A 9 j - 1 from pk_us).trans hwd
    have hl9 : lv_has ls 3 [(2, .int (nI (4 * j + cn A j))), (0, .ref b), (1, .int (nI j))] := by rw [← ix4 j (cn A j), ← hce]; exact lv_push (lv_push (lv_push (lv_nil hl) (lv_at hl 2 rfl)) (lv_at hl 1 rfl)) (lv_at hl 0 rfl)
    have hW := ms_loop (p := p) (l := l) (e := e) (below := below) D cI cZ cN cJ lo b hlo th nn j hj (wn A j - 1) (by omega) C hml hret hlk (wn A j - 1 - cn A j) (4 * j + cn A j) (setA (setA (setA A 0 (upd (A 0) 1 ((A 0 1) + 1))) 4 (upd (A 4) j ((A 4 j) - 1))) 9 (upd (A 9) j ((A 9 j) - 1))) _ _ ls (by omega) h9 rfl m67 (hq_Sput (hq_Sput (hq_Sput (hq_S0) u44 (by omega) (by omega)) u61 (by omega) (by omega)) u66 (by omega) (by omega)) hL hl9 (by omega)
    rw [hf]
    exact hW
set_option maxHeartbeats 4000000 in
set_option maxRecDepth 100000 in
theorem ok_M_sentFrame (A : Nat → Nat → Int32) (j : Nat) (hj : j < 4) (hw : ¬ A 9 j = 0) (ok : okA A) : okA (f_M_sentFrame A j) := by
  unfold f_M_sentFrame
  by_cases c48 : (A 4 j) ≤ 0
  · rw [if_pos c48]
    exact okE_rest (okE_sh3 _ _ _ (okE_9 ⟨wn A j - 1, by have := (wn_eq ok hj).1; omega, (wt_dn ok hj hw).2⟩ (okA_o (by decide) (okA_o (by decide) ok))))
  · rw [if_neg c48]
    exact okE_rest (okE_sh3 _ _ _ (okE_9 ⟨wn A j - 1, by have := (wn_eq ok hj).1; omega, (wt_dn ok hj hw).2⟩ (okA_o (by decide) (okA_o (by decide) ok))))
def f_M_heardFrame (A : Nat → Nat → Int32) (j : Nat) (x : Int32) : Nat → Nat → Int32 := if (A 5 j) ≤ 127 then (if (A 5 j) ≤ 0 then (if ((A 21 j) &&& (A 6 j)) = (A 7 j) then (if (A 14 j) = 4 then (if x = 0 then ((f_M_overload (setA (setA A 5 (upd (A 5) j 0)) 8 (upd (A 8) j ((A 8 j) + 1))) j)) else ((f_M_rest (setA (setA A 5 (upd (A 5) j 0)) 8 (upd (A 8) j ((A 8 j) + 1))) j))) else (if x = 0 then ((f_M_overload (setA (setA (setA A 5 (upd (A 5) j 0)) 15 (upd (A 15) ((4 * (nI j)) + (A 14 j)).toNatClampNeg (((A 21 j) + (2048 * (A 22 j))) + (8192 * (A 23 j))))) 14 (upd (A 14) j ((A 14 j) + 1))) j)) else ((f_M_rest (setA (setA (setA A 5 (upd (A 5) j 0)) 15 (upd (A 15) ((4 * (nI j)) + (A 14 j)).toNatClampNeg (((A 21 j) + (2048 * (A 22 j))) + (8192 * (A 23 j))))) 14 (upd (A 14) j ((A 14 j) + 1))) j)))) else (if x = 0 then ((f_M_overload (setA A 5 (upd (A 5) j 0)) j)) else ((f_M_rest (setA A 5 (upd (A 5) j 0)) j)))) else (if ((A 21 j) &&& (A 6 j)) = (A 7 j) then (if (A 14 j) = 4 then (if x = 0 then ((f_M_overload (setA (setA A 5 (upd (A 5) j ((A 5 j) - 1))) 8 (upd (A 8) j ((A 8 j) + 1))) j)) else ((f_M_rest (setA (setA A 5 (upd (A 5) j ((A 5 j) - 1))) 8 (upd (A 8) j ((A 8 j) + 1))) j))) else (if x = 0 then ((f_M_overload (setA (setA (setA A 5 (upd (A 5) j ((A 5 j) - 1))) 15 (upd (A 15) ((4 * (nI j)) + (A 14 j)).toNatClampNeg (((A 21 j) + (2048 * (A 22 j))) + (8192 * (A 23 j))))) 14 (upd (A 14) j ((A 14 j) + 1))) j)) else ((f_M_rest (setA (setA (setA A 5 (upd (A 5) j ((A 5 j) - 1))) 15 (upd (A 15) ((4 * (nI j)) + (A 14 j)).toNatClampNeg (((A 21 j) + (2048 * (A 22 j))) + (8192 * (A 23 j))))) 14 (upd (A 14) j ((A 14 j) + 1))) j)))) else (if x = 0 then ((f_M_overload (setA A 5 (upd (A 5) j ((A 5 j) - 1))) j)) else ((f_M_rest (setA A 5 (upd (A 5) j ((A 5 j) - 1))) j))))) else (if ((A 21 j) &&& (A 6 j)) = (A 7 j) then (if (A 14 j) = 4 then (if x = 0 then ((f_M_overload (setA (setA A 5 (upd (A 5) j 127)) 8 (upd (A 8) j ((A 8 j) + 1))) j)) else ((f_M_rest (setA (setA A 5 (upd (A 5) j 127)) 8 (upd (A 8) j ((A 8 j) + 1))) j))) else (if x = 0 then ((f_M_overload (setA (setA (setA A 5 (upd (A 5) j 127)) 15 (upd (A 15) ((4 * (nI j)) + (A 14 j)).toNatClampNeg (((A 21 j) + (2048 * (A 22 j))) + (8192 * (A 23 j))))) 14 (upd (A 14) j ((A 14 j) + 1))) j)) else ((f_M_rest (setA (setA (setA A 5 (upd (A 5) j 127)) 15 (upd (A 15) ((4 * (nI j)) + (A 14 j)).toNatClampNeg (((A 21 j) + (2048 * (A 22 j))) + (8192 * (A 23 j))))) 14 (upd (A 14) j ((A 14 j) + 1))) j)))) else (if x = 0 then ((f_M_overload (setA A 5 (upd (A 5) j 127)) j)) else ((f_M_rest (setA A 5 (upd (A 5) j 127)) j))))
set_option maxHeartbeats 4000000 in
set_option maxRecDepth 100000 in
theorem c_M_heardFrame (l : Launch) (D : va_G) (cI cZ cN cJ : ClassId) (lo : Nat) (b : Nat) (hlo : lo ≤ b) (th nn : Int32) (A : Nat → Nat → Int32) (j : Nat) (hj : j < 4) (x : Int32) (ok : okA A) : hq_M l y_M_heardFrame b_M_heardFrame 3 none TB { frames := 2, cells := 0, slots := 0, locals := 44 } lo D vwCl (TY cI cZ cN cJ) [.ref (b), .int (nI j), .int (x)] (fun U => hq_B D vwCl b 31 (mdC cI cZ b th nn A) U.heap) (fun H v H' => v = none ∧ hq_B D vwCl b 31 (mdC cI cZ b th nn (f_M_heardFrame A j x)) H' ∧ hq_S b 31 H H') := by
  refine hq_ofW (by decide) (Nat.le_of_ble_eq_true rfl) ?_
  intro p e s m below meth c ls C hml hret hlk hnm hl hP
  have hL : hq_L lo [] := hq_L0
  have hl : lv_has ls 3 [(0, .ref (b)), (1, .int (nI j)), (2, .int (x))] := hl
  have hM : hq_B D vwCl b 31 (mdC cI cZ b th nn A) s.heap := hP
  have k0 : va_at D vwCl (b, .inr (6, [.int (th), .int (nn), .ref (b + 1), .ref (b + 2), .ref (b + 3), .ref (b + 4), .ref (b + 5), .ref (b + 6), .ref (b + 7), .ref (b + 8), .ref (b + 9), .ref (b + 10), .ref (b + 11), .ref (b + 12), .ref (b + 13), .ref (b + 14), .ref (b + 15), .ref (b + 16), .ref (b + 17), .ref (b + 18), .ref (b + 19), .ref (b + 20), .ref (b + 21), .ref (b + 22), .ref (b + 23), .ref (b + 24), .ref (b + 25), .ref (b + 26), .ref (b + 27), .ref (b + 28), .ref (b + 29), .ref (b + 30)])) s.heap := hM 0 (by decide)
  refine lv_aload_n C.1 C.2.1 d_M_heardFrame_0 rfl (lv_at hl 0 rfl) ?_
  refine hq_get (v := .ref (b + 6)) C f_M_26 k0 rfl d_M_heardFrame_1 ?_
  refine lv_iload_n C.1 C.2.1 d_M_heardFrame_4 rfl (lv_at hl 1 rfl) ?_
  refine lv_aload_n C.1 C.2.1 d_M_heardFrame_5 rfl (lv_at hl 0 rfl) ?_
  refine hq_get (v := .ref (b + 6)) C f_M_26 k0 rfl d_M_heardFrame_6 ?_
  refine lv_iload_n C.1 C.2.1 d_M_heardFrame_9 rfl (lv_at hl 1 rfl) ?_
  have e41 : va_at D vwCl (b + 6, .inl (cI, 4, .inl (A 5))) _ := hM 6 (by decide)
  refine hq_iald C 0 rfl e41 (vp_in_nI hj (by decide)) d_M_heardFrame_10 ?_
  rw [nI_clamp (show j < 2 ^ 31 by omega)]
  refine W.eq (g2 := F0 m 11 ls [.int (A 5 j), .int (nI j), .ref (b + 6)]) rfl ?_
  refine lv_bipush (v := 127) C.1 C.2.1 d_M_heardFrame_11 (by decide) ?_
  refine lv_icmp_le (tgt := 21) C.1 C.2.1 d_M_heardFrame_13 (by decide) ?_ ?_
  · intro c42
    refine lv_aload_n C.1 C.2.1 d_M_heardFrame_21 rfl (lv_at hl 0 rfl) ?_
    refine hq_get (v := .ref (b + 6)) C f_M_26 k0 rfl d_M_heardFrame_22 ?_
    refine lv_iload_n C.1 C.2.1 d_M_heardFrame_25 rfl (lv_at hl 1 rfl) ?_
    have e43 : va_at D vwCl (b + 6, .inl (cI, 4, .inl (A 5))) _ := hM 6 (by decide)
    refine hq_iald C 0 rfl e43 (vp_in_nI hj (by decide)) d_M_heardFrame_26 ?_
    rw [nI_clamp (show j < 2 ^ 31 by omega)]
    refine W.eq (g2 := F0 m 27 ls [.int (A 5 j), .int (nI j), .ref (b + 6)]) rfl ?_
    refine lv_if_le (tgt := 41) C.1 C.2.1 d_M_heardFrame_27 (by decide) ?_ ?_
    · intro c44
      refine lv_iconst (v := 0) C.1 C.2.1 d_M_heardFrame_41 (by decide) ?_
      have e45 : va_at D vwCl (b + 6, .inl (cI, 4, .inl (A 5))) _ := hM 6 (by decide)
      refine hq_iast (lo := lo) C 0 rfl e45 (vp_in_nI hj (by decide)) hL (by omega) d_M_heardFrame_42 (fun H46 locs u47 hL => ?_)
      rw [nI_clamp (show j < 2 ^ 31 by omega)] at u47
      have m48 := md_set (k := 5) (f := upd (A 5) j 0) hM u47
      have k0 : va_at D vwCl (b, .inr (6, [.int (th), .int (nn), .ref (b + 1), .ref (b + 2), .ref (b + 3), .ref (b + 4), .ref (b + 5), .ref (b + 6), .ref (b + 7), .ref (b + 8), .ref (b + 9), .ref (b + 10), .ref (b + 11), .ref (b + 12), .ref (b + 13), .ref (b + 14), .ref (b + 15), .ref (b + 16), .ref (b + 17), .ref (b + 18), .ref (b + 19), .ref (b + 20), .ref (b + 21), .ref (b + 22), .ref (b + 23), .ref (b + 24), .ref (b + 25), .ref (b + 26), .ref (b + 27), .ref (b + 28), .ref (b + 29), .ref (b + 30)])) H46 := m48 0 (by decide)
      refine lv_aload_n C.1 C.2.1 d_M_heardFrame_43 rfl (lv_at hl 0 rfl) ?_
      refine hq_get (v := .ref (b + 22)) C f_M_74 k0 rfl d_M_heardFrame_44 ?_
      refine lv_iload_n C.1 C.2.1 d_M_heardFrame_47 rfl (lv_at hl 1 rfl) ?_
      have e49 : va_at D vwCl (b + 22, .inl (cI, 4, .inl (A 21))) _ := m48 22 (by decide)
      refine hq_iald C 0 rfl e49 (vp_in_nI hj (by decide)) d_M_heardFrame_48 ?_
      rw [nI_clamp (show j < 2 ^ 31 by omega)]
      refine W.eq (g2 := F0 m 49 ls [.int (A 21 j)]) rfl ?_
      refine lv_aload_n C.1 C.2.1 d_M_heardFrame_49 rfl (lv_at hl 0 rfl) ?_
      refine hq_get (v := .ref (b + 7)) C f_M_29 k0 rfl d_M_heardFrame_50 ?_
      refine lv_iload_n C.1 C.2.1 d_M_heardFrame_53 rfl (lv_at hl 1 rfl) ?_
      have e50 : va_at D vwCl (b + 7, .inl (cI, 4, .inl (A 6))) _ := m48 7 (by decide)
      refine hq_iald C 0 rfl e50 (vp_in_nI hj (by decide)) d_M_heardFrame_54 ?_
      rw [nI_clamp (show j < 2 ^ 31 by omega)]
      refine W.eq (g2 := F0 m 55 ls [.int (A 6 j), .int (A 21 j)]) rfl ?_
      refine lv_iand C.1 C.2.1 d_M_heardFrame_55 ?_
      refine lv_aload_n C.1 C.2.1 d_M_heardFrame_56 rfl (lv_at hl 0 rfl) ?_
      refine hq_get (v := .ref (b + 8)) C f_M_32 k0 rfl d_M_heardFrame_57 ?_
      refine lv_iload_n C.1 C.2.1 d_M_heardFrame_60 rfl (lv_at hl 1 rfl) ?_
      have e51 : va_at D vwCl (b + 8, .inl (cI, 4, .inl (A 7))) _ := m48 8 (by decide)
      refine hq_iald C 0 rfl e51 (vp_in_nI hj (by decide)) d_M_heardFrame_61 ?_
      rw [nI_clamp (show j < 2 ^ 31 by omega)]
      refine W.eq (g2 := F0 m 62 ls [.int (A 7 j), .int ((A 21 j) &&& (A 6 j))]) rfl ?_
      refine lv_icmp_ne (tgt := 141) C.1 C.2.1 d_M_heardFrame_62 (by decide) ?_ ?_
      · intro c52
        refine lv_iload_n C.1 C.2.1 d_M_heardFrame_141 rfl (lv_at hl 2 rfl) ?_
        refine lv_if_ne (tgt := 153) C.1 C.2.1 d_M_heardFrame_142 (by decide) ?_ ?_
        · intro c53
          refine lv_aload_n C.1 C.2.1 d_M_heardFrame_153 rfl (lv_at hl 0 rfl) ?_
          refine lv_iload_n C.1 C.2.1 d_M_heardFrame_154 rfl (lv_at hl 1 rfl) ?_
          refine hq_callV (lo := lo) (As := [.int (nI j)]) (rest := []) C tb_good hml Y_M_133 (c_M_rest l D cI cZ cN cJ lo b hlo th nn (setA A 5 (upd (A 5) j 0)) j hj) k0 rfl (fun _ _ _ _ h => h) (fun U hU hW => by show hq_B D vwCl b 31 (mdC cI cZ b th nn (setA A 5 (upd (A 5) j 0))) U.heap; rw [hU]; exact m48) hL hl.1 rfl rfl ⟨⟨Nat.le_of_ble_eq_true rfl, Nat.le_of_ble_eq_true rfl⟩, Nat.le_of_ble_eq_true rfl, Nat.le_of_ble_eq_true rfl⟩ (Nat.le_of_ble_eq_true rfl) d_M_heardFrame_155 (fun v H56 locs hp hL => ?_)
          obtain ⟨rfl, m54, S55⟩ := hp
          refine W.eq (g2 := F0 m 158 ls []) rfl ?_
          have k0 : va_at D vwCl (b, .inr (6, [.int (th), .int (nn), .ref (b + 1), .ref (b + 2), .ref (b + 3), .ref (b + 4), .ref (b + 5), .ref (b + 6), .ref (b + 7), .ref (b + 8), .ref (b + 9), .ref (b + 10), .ref (b + 11), .ref (b + 12), .ref (b + 13), .ref (b + 14), .ref (b + 15), .ref (b + 16), .ref (b + 17), .ref (b + 18), .ref (b + 19), .ref (b + 20), .ref (b + 21), .ref (b + 22), .ref (b + 23), .ref (b + 24), .ref (b + 25), .ref (b + 26), .ref (b + 27), .ref (b + 28), .ref (b + 29), .ref (b + 30)])) H56 := m54 0 (by decide)
          have hf : f_M_heardFrame A j x = (f_M_rest (setA A 5 (upd (A 5) j 0)) j) := by unfold f_M_heardFrame; rw [if_pos c42, if_pos c44, if_neg c52, if_neg c53]
          exact hq_vret C hret hlk (Nat.le_of_ble_eq_true rfl) (Nat.le_of_ble_eq_true rfl) hL ⟨rfl, by rw [hf]; exact m54, hq_Scall (hq_Sput (hq_S0) u47 (by omega) (by omega)) S55 (by omega) (by omega)⟩ d_M_heardFrame_158
        · intro c53
          refine lv_aload_n C.1 C.2.1 d_M_heardFrame_145 rfl (lv_at hl 0 rfl) ?_
          refine lv_iload_n C.1 C.2.1 d_M_heardFrame_146 rfl (lv_at hl 1 rfl) ?_
          refine hq_callV (lo := lo) (As := [.int (nI j)]) (rest := []) C tb_good hml Y_M_137 (c_M_overload l D cI cZ cN cJ lo b hlo th nn (setA A 5 (upd (A 5) j 0)) j hj) k0 rfl (fun _ _ _ _ h => h) (fun U hU hW => by show hq_B D vwCl b 31 (mdC cI cZ b th nn (setA A 5 (upd (A 5) j 0))) U.heap; rw [hU]; exact m48) hL hl.1 rfl rfl ⟨⟨Nat.le_of_ble_eq_true rfl, Nat.le_of_ble_eq_true rfl⟩, Nat.le_of_ble_eq_true rfl, Nat.le_of_ble_eq_true rfl⟩ (Nat.le_of_ble_eq_true rfl) d_M_heardFrame_147 (fun v H59 locs hp hL => ?_)
          obtain ⟨rfl, m57, S58⟩ := hp
          refine W.eq (g2 := F0 m 150 ls []) rfl ?_
          have k0 : va_at D vwCl (b, .inr (6, [.int (th), .int (nn), .ref (b + 1), .ref (b + 2), .ref (b + 3), .ref (b + 4), .ref (b + 5), .ref (b + 6), .ref (b + 7), .ref (b + 8), .ref (b + 9), .ref (b + 10), .ref (b + 11), .ref (b + 12), .ref (b + 13), .ref (b + 14), .ref (b + 15), .ref (b + 16), .ref (b + 17), .ref (b + 18), .ref (b + 19), .ref (b + 20), .ref (b + 21), .ref (b + 22), .ref (b + 23), .ref (b + 24), .ref (b + 25), .ref (b + 26), .ref (b + 27), .ref (b + 28), .ref (b + 29), .ref (b + 30)])) H59 := m57 0 (by decide)
          refine lv_goto (tgt := 158) C.1 C.2.1 d_M_heardFrame_150 (by decide) ?_
          have hf : f_M_heardFrame A j x = (f_M_overload (setA A 5 (upd (A 5) j 0)) j) := by unfold f_M_heardFrame; rw [if_pos c42, if_pos c44, if_neg c52, if_pos c53]
          exact hq_vret C hret hlk (Nat.le_of_ble_eq_true rfl) (Nat.le_of_ble_eq_true rfl) hL ⟨rfl, by rw [hf]; exact m57, hq_Scall (hq_Sput (hq_S0) u47 (by omega) (by omega)) S58 (by omega) (by omega)⟩ d_M_heardFrame_158
      · intro c52
        refine lv_aload_n C.1 C.2.1 d_M_heardFrame_65 rfl (lv_at hl 0 rfl) ?_
        refine hq_get (v := .ref (b + 15)) C f_M_53 k0 rfl d_M_heardFrame_66 ?_
        refine lv_iload_n C.1 C.2.1 d_M_heardFrame_69 rfl (lv_at hl 1 rfl) ?_
        have e60 : va_at D vwCl (b + 15, .inl (cI, 4, .inl (A 14))) _ := m48 15 (by decide)
        refine hq_iald C 0 rfl e60 (vp_in_nI hj (by decide)) d_M_heardFrame_70 ?_
        rw [nI_clamp (show j < 2 ^ 31 by omega)]
        refine W.eq (g2 := F0 m 71 ls [.int (A 14 j)]) rfl ?_
        refine lv_iconst (v := 4) C.1 C.2.1 d_M_heardFrame_71 (by decide) ?_
        refine lv_icmp_ne (tgt := 88) C.1 C.2.1 d_M_heardFrame_72 (by decide) ?_ ?_
        · intro c61
          refine lv_aload_n C.1 C.2.1 d_M_heardFrame_88 rfl (lv_at hl 0 rfl) ?_
          refine hq_get (v := .ref (b + 16)) C f_M_56 k0 rfl d_M_heardFrame_89 ?_
          refine lv_iconst (v := 4) C.1 C.2.1 d_M_heardFrame_92 (by decide) ?_
          refine lv_iload_n C.1 C.2.1 d_M_heardFrame_93 rfl (lv_at hl 1 rfl) ?_
          refine lv_imul C.1 C.2.1 d_M_heardFrame_94 ?_
          refine lv_aload_n C.1 C.2.1 d_M_heardFrame_95 rfl (lv_at hl 0 rfl) ?_
          refine hq_get (v := .ref (b + 15)) C f_M_53 k0 rfl d_M_heardFrame_96 ?_
          refine lv_iload_n C.1 C.2.1 d_M_heardFrame_99 rfl (lv_at hl 1 rfl) ?_
          have e62 : va_at D vwCl (b + 15, .inl (cI, 4, .inl (A 14))) _ := m48 15 (by decide)
          refine hq_iald C 0 rfl e62 (vp_in_nI hj (by decide)) d_M_heardFrame_100 ?_
          rw [nI_clamp (show j < 2 ^ 31 by omega)]
          refine W.eq (g2 := F0 m 101 ls [.int (A 14 j), .int (4 * (nI j)), .ref (b + 16)]) rfl ?_
          refine lv_iadd C.1 C.2.1 d_M_heardFrame_101 ?_
          refine lv_aload_n C.1 C.2.1 d_M_heardFrame_102 rfl (lv_at hl 0 rfl) ?_
          refine hq_get (v := .ref (b + 22)) C f_M_74 k0 rfl d_M_heardFrame_103 ?_
          refine lv_iload_n C.1 C.2.1 d_M_heardFrame_106 rfl (lv_at hl 1 rfl) ?_
          have e63 : va_at D vwCl (b + 22, .inl (cI, 4, .inl (A 21))) _ := m48 22 (by decide)
          refine hq_iald C 0 rfl e63 (vp_in_nI hj (by decide)) d_M_heardFrame_107 ?_
          rw [nI_clamp (show j < 2 ^ 31 by omega)]
          refine W.eq (g2 := F0 m 108 ls [.int (A 21 j), .int ((4 * (nI j)) + (A 14 j)), .ref (b + 16)]) rfl ?_
          refine lv_sipush (v := 2048) C.1 C.2.1 d_M_heardFrame_108 (by decide) ?_
          refine lv_aload_n C.1 C.2.1 d_M_heardFrame_111 rfl (lv_at hl 0 rfl) ?_
          refine hq_get (v := .ref (b + 23)) C f_M_77 k0 rfl d_M_heardFrame_112 ?_
          refine lv_iload_n C.1 C.2.1 d_M_heardFrame_115 rfl (lv_at hl 1 rfl) ?_
          have e64 : va_at D vwCl (b + 23, .inl (cI, 4, .inl (A 22))) _ := m48 23 (by decide)
          refine hq_iald C 0 rfl e64 (vp_in_nI hj (by decide)) d_M_heardFrame_116 ?_
          rw [nI_clamp (show j < 2 ^ 31 by omega)]
          refine W.eq (g2 := F0 m 117 ls [.int (A 22 j), .int (2048), .int (A 21 j), .int ((4 * (nI j)) + (A 14 j)), .ref (b + 16)]) rfl ?_
          refine lv_imul C.1 C.2.1 d_M_heardFrame_117 ?_
          refine lv_iadd C.1 C.2.1 d_M_heardFrame_118 ?_
          refine lv_sipush (v := 8192) C.1 C.2.1 d_M_heardFrame_119 (by decide) ?_
          refine lv_aload_n C.1 C.2.1 d_M_heardFrame_122 rfl (lv_at hl 0 rfl) ?_
          refine hq_get (v := .ref (b + 24)) C f_M_80 k0 rfl d_M_heardFrame_123 ?_
          refine lv_iload_n C.1 C.2.1 d_M_heardFrame_126 rfl (lv_at hl 1 rfl) ?_
          have e65 : va_at D vwCl (b + 24, .inl (cI, 4, .inl (A 23))) _ := m48 24 (by decide)
          refine hq_iald C 0 rfl e65 (vp_in_nI hj (by decide)) d_M_heardFrame_127 ?_
          rw [nI_clamp (show j < 2 ^ 31 by omega)]
          refine W.eq (g2 := F0 m 128 ls [.int (A 23 j), .int (8192), .int ((A 21 j) + (2048 * (A 22 j))), .int ((4 * (nI j)) + (A 14 j)), .ref (b + 16)]) rfl ?_
          refine lv_imul C.1 C.2.1 d_M_heardFrame_128 ?_
          refine lv_iadd C.1 C.2.1 d_M_heardFrame_129 ?_
          have e66 : va_at D vwCl (b + 16, .inl (cI, 16, .inl (A 15))) _ := m48 16 (by decide)
          refine hq_iast (lo := lo) C 0 rfl e66 (in_bx ok hj c61) hL (by omega) d_M_heardFrame_130 (fun H67 locs u68 hL => ?_)
          have m69 := md_set (k := 15) (f := upd (A 15) ((4 * (nI j)) + (A 14 j)).toNatClampNeg (((A 21 j) + (2048 * (A 22 j))) + (8192 * (A 23 j)))) m48 u68
          have k0 : va_at D vwCl (b, .inr (6, [.int (th), .int (nn), .ref (b + 1), .ref (b + 2), .ref (b + 3), .ref (b + 4), .ref (b + 5), .ref (b + 6), .ref (b + 7), .ref (b + 8), .ref (b + 9), .ref (b + 10), .ref (b + 11), .ref (b + 12), .ref (b + 13), .ref (b + 14), .ref (b + 15), .ref (b + 16), .ref (b + 17), .ref (b + 18), .ref (b + 19), .ref (b + 20), .ref (b + 21), .ref (b + 22), .ref (b + 23), .ref (b + 24), .ref (b + 25), .ref (b + 26), .ref (b + 27), .ref (b + 28), .ref (b + 29), .ref (b + 30)])) H67 := m69 0 (by decide)
          refine lv_aload_n C.1 C.2.1 d_M_heardFrame_131 rfl (lv_at hl 0 rfl) ?_
          refine hq_get (v := .ref (b + 15)) C f_M_53 k0 rfl d_M_heardFrame_132 ?_
          refine lv_iload_n C.1 C.2.1 d_M_heardFrame_135 rfl (lv_at hl 1 rfl) ?_
          refine lv_dup2_11 C.1 C.2.1 d_M_heardFrame_136 rfl rfl ?_
          have e70 : va_at D vwCl (b + 15, .inl (cI, 4, .inl (A 14))) _ := m69 15 (by decide)
          refine hq_iald C 0 rfl e70 (vp_in_nI hj (by decide)) d_M_heardFrame_137 ?_
          rw [nI_clamp (show j < 2 ^ 31 by omega)]
          refine W.eq (g2 := F0 m 138 ls [.int (A 14 j), .int (nI j), .ref (b + 15)]) rfl ?_
          refine lv_iconst (v := 1) C.1 C.2.1 d_M_heardFrame_138 (by decide) ?_
          refine lv_iadd C.1 C.2.1 d_M_heardFrame_139 ?_
          have e71 : va_at D vwCl (b + 15, .inl (cI, 4, .inl (A 14))) _ := m69 15 (by decide)
          refine hq_iast (lo := lo) C 0 rfl e71 (vp_in_nI hj (by decide)) hL (by omega) d_M_heardFrame_140 (fun H72 locs u73 hL => ?_)
          rw [nI_clamp (show j < 2 ^ 31 by omega)] at u73
          have m74 := md_set (k := 14) (f := upd (A 14) j ((A 14 j) + 1)) m69 u73
          have k0 : va_at D vwCl (b, .inr (6, [.int (th), .int (nn), .ref (b + 1), .ref (b + 2), .ref (b + 3), .ref (b + 4), .ref (b + 5), .ref (b + 6), .ref (b + 7), .ref (b + 8), .ref (b + 9), .ref (b + 10), .ref (b + 11), .ref (b + 12), .ref (b + 13), .ref (b + 14), .ref (b + 15), .ref (b + 16), .ref (b + 17), .ref (b + 18), .ref (b + 19), .ref (b + 20), .ref (b + 21), .ref (b + 22), .ref (b + 23), .ref (b + 24), .ref (b + 25), .ref (b + 26), .ref (b + 27), .ref (b + 28), .ref (b + 29), .ref (b + 30)])) H72 := m74 0 (by decide)
          refine lv_iload_n C.1 C.2.1 d_M_heardFrame_141 rfl (lv_at hl 2 rfl) ?_
          refine lv_if_ne (tgt := 153) C.1 C.2.1 d_M_heardFrame_142 (by decide) ?_ ?_
          · intro c75
            refine lv_aload_n C.1 C.2.1 d_M_heardFrame_153 rfl (lv_at hl 0 rfl) ?_
            refine lv_iload_n C.1 C.2.1 d_M_heardFrame_154 rfl (lv_at hl 1 rfl) ?_
            refine hq_callV (lo := lo) (As := [.int (nI j)]) (rest := []) C tb_good hml Y_M_133 (c_M_rest l D cI cZ cN cJ lo b hlo th nn (setA (setA (setA A 5 (upd (A 5) j 0)) 15 (upd (A 15) ((4 * (nI j)) + (A 14 j)).toNatClampNeg (((A 21 j) + (2048 * (A 22 j))) + (8192 * (A 23 j))))) 14 (upd (A 14) j ((A 14 j) + 1))) j hj) k0 rfl (fun _ _ _ _ h => h) (fun U hU hW => by show hq_B D vwCl b 31 (mdC cI cZ b th nn (setA (setA (setA A 5 (upd (A 5) j 0)) 15 (upd (A 15) ((4 * (nI j)) + (A 14 j)).toNatClampNeg (((A 21 j) + (2048 * (A 22 j))) + (8192 * (A 23 j))))) 14 (upd (A 14) j ((A 14 j) + 1)))) U.heap; rw [hU]; exact m74) hL hl.1 rfl rfl ⟨⟨Nat.le_of_ble_eq_true rfl, Nat.le_of_ble_eq_true rfl⟩, Nat.le_of_ble_eq_true rfl, Nat.le_of_ble_eq_true rfl⟩ (Nat.le_of_ble_eq_true rfl) d_M_heardFrame_155 (fun v H78 locs hp hL => ?_)
            obtain ⟨rfl, m76, S77⟩ := hp
            refine W.eq (g2 := F0 m 158 ls []) rfl ?_
            have k0 : va_at D vwCl (b, .inr (6, [.int (th), .int (nn), .ref (b + 1), .ref (b + 2), .ref (b + 3), .ref (b + 4), .ref (b + 5), .ref (b + 6), .ref (b + 7), .ref (b + 8), .ref (b + 9), .ref (b + 10), .ref (b + 11), .ref (b + 12), .ref (b + 13), .ref (b + 14), .ref (b + 15), .ref (b + 16), .ref (b + 17), .ref (b + 18), .ref (b + 19), .ref (b + 20), .ref (b + 21), .ref (b + 22), .ref (b + 23), .ref (b + 24), .ref (b + 25), .ref (b + 26), .ref (b + 27), .ref (b + 28), .ref (b + 29), .ref (b + 30)])) H78 := m76 0 (by decide)
            have hf : f_M_heardFrame A j x = (f_M_rest (setA (setA (setA A 5 (upd (A 5) j 0)) 15 (upd (A 15) ((4 * (nI j)) + (A 14 j)).toNatClampNeg (((A 21 j) + (2048 * (A 22 j))) + (8192 * (A 23 j))))) 14 (upd (A 14) j ((A 14 j) + 1))) j) := by unfold f_M_heardFrame; rw [if_pos c42, if_pos c44, if_pos c52, if_neg c61, if_neg c75]
            exact hq_vret C hret hlk (Nat.le_of_ble_eq_true rfl) (Nat.le_of_ble_eq_true rfl) hL ⟨rfl, by rw [hf]; exact m76, hq_Scall (hq_Sput (hq_Sput (hq_Sput (hq_S0) u47 (by omega) (by omega)) u68 (by omega) (by omega)) u73 (by omega) (by omega)) S77 (by omega) (by omega)⟩ d_M_heardFrame_158
          · intro c75
            refine lv_aload_n C.1 C.2.1 d_M_heardFrame_145 rfl (lv_at hl 0 rfl) ?_
            refine lv_iload_n C.1 C.2.1 d_M_heardFrame_146 rfl (lv_at hl 1 rfl) ?_
            refine hq_callV (lo := lo) (As := [.int (nI j)]) (rest := []) C tb_good hml Y_M_137 (c_M_overload l D cI cZ cN cJ lo b hlo th nn (setA (setA (setA A 5 (upd (A 5) j 0)) 15 (upd (A 15) ((4 * (nI j)) + (A 14 j)).toNatClampNeg (((A 21 j) + (2048 * (A 22 j))) + (8192 * (A 23 j))))) 14 (upd (A 14) j ((A 14 j) + 1))) j hj) k0 rfl (fun _ _ _ _ h => h) (fun U hU hW => by show hq_B D vwCl b 31 (mdC cI cZ b th nn (setA (setA (setA A 5 (upd (A 5) j 0)) 15 (upd (A 15) ((4 * (nI j)) + (A 14 j)).toNatClampNeg (((A 21 j) + (2048 * (A 22 j))) + (8192 * (A 23 j))))) 14 (upd (A 14) j ((A 14 j) + 1)))) U.heap; rw [hU]; exact m74) hL hl.1 rfl rfl ⟨⟨Nat.le_of_ble_eq_true rfl, Nat.le_of_ble_eq_true rfl⟩, Nat.le_of_ble_eq_true rfl, Nat.le_of_ble_eq_true rfl⟩ (Nat.le_of_ble_eq_true rfl) d_M_heardFrame_147 (fun v H81 locs hp hL => ?_)
            obtain ⟨rfl, m79, S80⟩ := hp
            refine W.eq (g2 := F0 m 150 ls []) rfl ?_
            have k0 : va_at D vwCl (b, .inr (6, [.int (th), .int (nn), .ref (b + 1), .ref (b + 2), .ref (b + 3), .ref (b + 4), .ref (b + 5), .ref (b + 6), .ref (b + 7), .ref (b + 8), .ref (b + 9), .ref (b + 10), .ref (b + 11), .ref (b + 12), .ref (b + 13), .ref (b + 14), .ref (b + 15), .ref (b + 16), .ref (b + 17), .ref (b + 18), .ref (b + 19), .ref (b + 20), .ref (b + 21), .ref (b + 22), .ref (b + 23), .ref (b + 24), .ref (b + 25), .ref (b + 26), .ref (b + 27), .ref (b + 28), .ref (b + 29), .ref (b + 30)])) H81 := m79 0 (by decide)
            refine lv_goto (tgt := 158) C.1 C.2.1 d_M_heardFrame_150 (by decide) ?_
            have hf : f_M_heardFrame A j x = (f_M_overload (setA (setA (setA A 5 (upd (A 5) j 0)) 15 (upd (A 15) ((4 * (nI j)) + (A 14 j)).toNatClampNeg (((A 21 j) + (2048 * (A 22 j))) + (8192 * (A 23 j))))) 14 (upd (A 14) j ((A 14 j) + 1))) j) := by unfold f_M_heardFrame; rw [if_pos c42, if_pos c44, if_pos c52, if_neg c61, if_pos c75]
            exact hq_vret C hret hlk (Nat.le_of_ble_eq_true rfl) (Nat.le_of_ble_eq_true rfl) hL ⟨rfl, by rw [hf]; exact m79, hq_Scall (hq_Sput (hq_Sput (hq_Sput (hq_S0) u47 (by omega) (by omega)) u68 (by omega) (by omega)) u73 (by omega) (by omega)) S80 (by omega) (by omega)⟩ d_M_heardFrame_158
        · intro c61
          refine lv_aload_n C.1 C.2.1 d_M_heardFrame_75 rfl (lv_at hl 0 rfl) ?_
          refine hq_get (v := .ref (b + 9)) C f_M_35 k0 rfl d_M_heardFrame_76 ?_
          refine lv_iload_n C.1 C.2.1 d_M_heardFrame_79 rfl (lv_at hl 1 rfl) ?_
          refine lv_dup2_11 C.1 C.2.1 d_M_heardFrame_80 rfl rfl ?_
          have e82 : va_at D vwCl (b + 9, .inl (cI, 4, .inl (A 8))) _ := m48 9 (by decide)
          refine hq_iald C 0 rfl e82 (vp_in_nI hj (by decide)) d_M_heardFrame_81 ?_
          rw [nI_clamp (show j < 2 ^ 31 by omega)]
          refine W.eq (g2 := F0 m 82 ls [.int (A 8 j), .int (nI j), .ref (b + 9)]) rfl ?_
          refine lv_iconst (v := 1) C.1 C.2.1 d_M_heardFrame_82 (by decide) ?_
          refine lv_iadd C.1 C.2.1 d_M_heardFrame_83 ?_
          have e83 : va_at D vwCl (b + 9, .inl (cI, 4, .inl (A 8))) _ := m48 9 (by decide)
          refine hq_iast (lo := lo) C 0 rfl e83 (vp_in_nI hj (by decide)) hL (by omega) d_M_heardFrame_84 (fun H84 locs u85 hL => ?_)
          rw [nI_clamp (show j < 2 ^ 31 by omega)] at u85
          have m86 := md_set (k := 8) (f := upd (A 8) j ((A 8 j) + 1)) m48 u85
          have k0 : va_at D vwCl (b, .inr (6, [.int (th), .int (nn), .ref (b + 1), .ref (b + 2), .ref (b + 3), .ref (b + 4), .ref (b + 5), .ref (b + 6), .ref (b + 7), .ref (b + 8), .ref (b + 9), .ref (b + 10), .ref (b + 11), .ref (b + 12), .ref (b + 13), .ref (b + 14), .ref (b + 15), .ref (b + 16), .ref (b + 17), .ref (b + 18), .ref (b + 19), .ref (b + 20), .ref (b + 21), .ref (b + 22), .ref (b + 23), .ref (b + 24), .ref (b + 25), .ref (b + 26), .ref (b + 27), .ref (b + 28), .ref (b + 29), .ref (b + 30)])) H84 := m86 0 (by decide)
          refine lv_goto (tgt := 141) C.1 C.2.1 d_M_heardFrame_85 (by decide) ?_
          refine lv_iload_n C.1 C.2.1 d_M_heardFrame_141 rfl (lv_at hl 2 rfl) ?_
          refine lv_if_ne (tgt := 153) C.1 C.2.1 d_M_heardFrame_142 (by decide) ?_ ?_
          · intro c87
            refine lv_aload_n C.1 C.2.1 d_M_heardFrame_153 rfl (lv_at hl 0 rfl) ?_
            refine lv_iload_n C.1 C.2.1 d_M_heardFrame_154 rfl (lv_at hl 1 rfl) ?_
            refine hq_callV (lo := lo) (As := [.int (nI j)]) (rest := []) C tb_good hml Y_M_133 (c_M_rest l D cI cZ cN cJ lo b hlo th nn (setA (setA A 5 (upd (A 5) j 0)) 8 (upd (A 8) j ((A 8 j) + 1))) j hj) k0 rfl (fun _ _ _ _ h => h) (fun U hU hW => by show hq_B D vwCl b 31 (mdC cI cZ b th nn (setA (setA A 5 (upd (A 5) j 0)) 8 (upd (A 8) j ((A 8 j) + 1)))) U.heap; rw [hU]; exact m86) hL hl.1 rfl rfl ⟨⟨Nat.le_of_ble_eq_true rfl, Nat.le_of_ble_eq_true rfl⟩, Nat.le_of_ble_eq_true rfl, Nat.le_of_ble_eq_true rfl⟩ (Nat.le_of_ble_eq_true rfl) d_M_heardFrame_155 (fun v H90 locs hp hL => ?_)
            obtain ⟨rfl, m88, S89⟩ := hp
            refine W.eq (g2 := F0 m 158 ls []) rfl ?_
            have k0 : va_at D vwCl (b, .inr (6, [.int (th), .int (nn), .ref (b + 1), .ref (b + 2), .ref (b + 3), .ref (b + 4), .ref (b + 5), .ref (b + 6), .ref (b + 7), .ref (b + 8), .ref (b + 9), .ref (b + 10), .ref (b + 11), .ref (b + 12), .ref (b + 13), .ref (b + 14), .ref (b + 15), .ref (b + 16), .ref (b + 17), .ref (b + 18), .ref (b + 19), .ref (b + 20), .ref (b + 21), .ref (b + 22), .ref (b + 23), .ref (b + 24), .ref (b + 25), .ref (b + 26), .ref (b + 27), .ref (b + 28), .ref (b + 29), .ref (b + 30)])) H90 := m88 0 (by decide)
            have hf : f_M_heardFrame A j x = (f_M_rest (setA (setA A 5 (upd (A 5) j 0)) 8 (upd (A 8) j ((A 8 j) + 1))) j) := by unfold f_M_heardFrame; rw [if_pos c42, if_pos c44, if_pos c52, if_pos c61, if_neg c87]
            exact hq_vret C hret hlk (Nat.le_of_ble_eq_true rfl) (Nat.le_of_ble_eq_true rfl) hL ⟨rfl, by rw [hf]; exact m88, hq_Scall (hq_Sput (hq_Sput (hq_S0) u47 (by omega) (by omega)) u85 (by omega) (by omega)) S89 (by omega) (by omega)⟩ d_M_heardFrame_158
          · intro c87
            refine lv_aload_n C.1 C.2.1 d_M_heardFrame_145 rfl (lv_at hl 0 rfl) ?_
            refine lv_iload_n C.1 C.2.1 d_M_heardFrame_146 rfl (lv_at hl 1 rfl) ?_
            refine hq_callV (lo := lo) (As := [.int (nI j)]) (rest := []) C tb_good hml Y_M_137 (c_M_overload l D cI cZ cN cJ lo b hlo th nn (setA (setA A 5 (upd (A 5) j 0)) 8 (upd (A 8) j ((A 8 j) + 1))) j hj) k0 rfl (fun _ _ _ _ h => h) (fun U hU hW => by show hq_B D vwCl b 31 (mdC cI cZ b th nn (setA (setA A 5 (upd (A 5) j 0)) 8 (upd (A 8) j ((A 8 j) + 1)))) U.heap; rw [hU]; exact m86) hL hl.1 rfl rfl ⟨⟨Nat.le_of_ble_eq_true rfl, Nat.le_of_ble_eq_true rfl⟩, Nat.le_of_ble_eq_true rfl, Nat.le_of_ble_eq_true rfl⟩ (Nat.le_of_ble_eq_true rfl) d_M_heardFrame_147 (fun v H93 locs hp hL => ?_)
            obtain ⟨rfl, m91, S92⟩ := hp
            refine W.eq (g2 := F0 m 150 ls []) rfl ?_
            have k0 : va_at D vwCl (b, .inr (6, [.int (th), .int (nn), .ref (b + 1), .ref (b + 2), .ref (b + 3), .ref (b + 4), .ref (b + 5), .ref (b + 6), .ref (b + 7), .ref (b + 8), .ref (b + 9), .ref (b + 10), .ref (b + 11), .ref (b + 12), .ref (b + 13), .ref (b + 14), .ref (b + 15), .ref (b + 16), .ref (b + 17), .ref (b + 18), .ref (b + 19), .ref (b + 20), .ref (b + 21), .ref (b + 22), .ref (b + 23), .ref (b + 24), .ref (b + 25), .ref (b + 26), .ref (b + 27), .ref (b + 28), .ref (b + 29), .ref (b + 30)])) H93 := m91 0 (by decide)
            refine lv_goto (tgt := 158) C.1 C.2.1 d_M_heardFrame_150 (by decide) ?_
            have hf : f_M_heardFrame A j x = (f_M_overload (setA (setA A 5 (upd (A 5) j 0)) 8 (upd (A 8) j ((A 8 j) + 1))) j) := by unfold f_M_heardFrame; rw [if_pos c42, if_pos c44, if_pos c52, if_pos c61, if_pos c87]
            exact hq_vret C hret hlk (Nat.le_of_ble_eq_true rfl) (Nat.le_of_ble_eq_true rfl) hL ⟨rfl, by rw [hf]; exact m91, hq_Scall (hq_Sput (hq_Sput (hq_S0) u47 (by omega) (by omega)) u85 (by omega) (by omega)) S92 (by omega) (by omega)⟩ d_M_heardFrame_158
    · intro c44
      refine lv_aload_n C.1 C.2.1 d_M_heardFrame_30 rfl (lv_at hl 0 rfl) ?_
      refine hq_get (v := .ref (b + 6)) C f_M_26 k0 rfl d_M_heardFrame_31 ?_
      refine lv_iload_n C.1 C.2.1 d_M_heardFrame_34 rfl (lv_at hl 1 rfl) ?_
      have e94 : va_at D vwCl (b + 6, .inl (cI, 4, .inl (A 5))) _ := hM 6 (by decide)
      refine hq_iald C 0 rfl e94 (vp_in_nI hj (by decide)) d_M_heardFrame_35 ?_
      rw [nI_clamp (show j < 2 ^ 31 by omega)]
      refine W.eq (g2 := F0 m 36 ls [.int (A 5 j), .int (nI j), .ref (b + 6)]) rfl ?_
      refine lv_iconst (v := 1) C.1 C.2.1 d_M_heardFrame_36 (by decide) ?_
      refine lv_isub C.1 C.2.1 d_M_heardFrame_37 ?_
      refine lv_goto (tgt := 42) C.1 C.2.1 d_M_heardFrame_38 (by decide) ?_
      have e95 : va_at D vwCl (b + 6, .inl (cI, 4, .inl (A 5))) _ := hM 6 (by decide)
      refine hq_iast (lo := lo) C 0 rfl e95 (vp_in_nI hj (by decide)) hL (by omega) d_M_heardFrame_42 (fun H96 locs u97 hL => ?_)
      rw [nI_clamp (show j < 2 ^ 31 by omega)] at u97
      have m98 := md_set (k := 5) (f := upd (A 5) j ((A 5 j) - 1)) hM u97
      have k0 : va_at D vwCl (b, .inr (6, [.int (th), .int (nn), .ref (b + 1), .ref (b + 2), .ref (b + 3), .ref (b + 4), .ref (b + 5), .ref (b + 6), .ref (b + 7), .ref (b + 8), .ref (b + 9), .ref (b + 10), .ref (b + 11), .ref (b + 12), .ref (b + 13), .ref (b + 14), .ref (b + 15), .ref (b + 16), .ref (b + 17), .ref (b + 18), .ref (b + 19), .ref (b + 20), .ref (b + 21), .ref (b + 22), .ref (b + 23), .ref (b + 24), .ref (b + 25), .ref (b + 26), .ref (b + 27), .ref (b + 28), .ref (b + 29), .ref (b + 30)])) H96 := m98 0 (by decide)
      refine lv_aload_n C.1 C.2.1 d_M_heardFrame_43 rfl (lv_at hl 0 rfl) ?_
      refine hq_get (v := .ref (b + 22)) C f_M_74 k0 rfl d_M_heardFrame_44 ?_
      refine lv_iload_n C.1 C.2.1 d_M_heardFrame_47 rfl (lv_at hl 1 rfl) ?_
      have e99 : va_at D vwCl (b + 22, .inl (cI, 4, .inl (A 21))) _ := m98 22 (by decide)
      refine hq_iald C 0 rfl e99 (vp_in_nI hj (by decide)) d_M_heardFrame_48 ?_
      rw [nI_clamp (show j < 2 ^ 31 by omega)]
      refine W.eq (g2 := F0 m 49 ls [.int (A 21 j)]) rfl ?_
      refine lv_aload_n C.1 C.2.1 d_M_heardFrame_49 rfl (lv_at hl 0 rfl) ?_
      refine hq_get (v := .ref (b + 7)) C f_M_29 k0 rfl d_M_heardFrame_50 ?_
      refine lv_iload_n C.1 C.2.1 d_M_heardFrame_53 rfl (lv_at hl 1 rfl) ?_
      have e100 : va_at D vwCl (b + 7, .inl (cI, 4, .inl (A 6))) _ := m98 7 (by decide)
      refine hq_iald C 0 rfl e100 (vp_in_nI hj (by decide)) d_M_heardFrame_54 ?_
      rw [nI_clamp (show j < 2 ^ 31 by omega)]
      refine W.eq (g2 := F0 m 55 ls [.int (A 6 j), .int (A 21 j)]) rfl ?_
      refine lv_iand C.1 C.2.1 d_M_heardFrame_55 ?_
      refine lv_aload_n C.1 C.2.1 d_M_heardFrame_56 rfl (lv_at hl 0 rfl) ?_
      refine hq_get (v := .ref (b + 8)) C f_M_32 k0 rfl d_M_heardFrame_57 ?_
      refine lv_iload_n C.1 C.2.1 d_M_heardFrame_60 rfl (lv_at hl 1 rfl) ?_
      have e101 : va_at D vwCl (b + 8, .inl (cI, 4, .inl (A 7))) _ := m98 8 (by decide)
      refine hq_iald C 0 rfl e101 (vp_in_nI hj (by decide)) d_M_heardFrame_61 ?_
      rw [nI_clamp (show j < 2 ^ 31 by omega)]
      refine W.eq (g2 := F0 m 62 ls [.int (A 7 j), .int ((A 21 j) &&& (A 6 j))]) rfl ?_
      refine lv_icmp_ne (tgt := 141) C.1 C.2.1 d_M_heardFrame_62 (by decide) ?_ ?_
      · intro c102
        refine lv_iload_n C.1 C.2.1 d_M_heardFrame_141 rfl (lv_at hl 2 rfl) ?_
        refine lv_if_ne (tgt := 153) C.1 C.2.1 d_M_heardFrame_142 (by decide) ?_ ?_
        · intro c103
          refine lv_aload_n C.1 C.2.1 d_M_heardFrame_153 rfl (lv_at hl 0 rfl) ?_
          refine lv_iload_n C.1 C.2.1 d_M_heardFrame_154 rfl (lv_at hl 1 rfl) ?_
          refine hq_callV (lo := lo) (As := [.int (nI j)]) (rest := []) C tb_good hml Y_M_133 (c_M_rest l D cI cZ cN cJ lo b hlo th nn (setA A 5 (upd (A 5) j ((A 5 j) - 1))) j hj) k0 rfl (fun _ _ _ _ h => h) (fun U hU hW => by show hq_B D vwCl b 31 (mdC cI cZ b th nn (setA A 5 (upd (A 5) j ((A 5 j) - 1)))) U.heap; rw [hU]; exact m98) hL hl.1 rfl rfl ⟨⟨Nat.le_of_ble_eq_true rfl, Nat.le_of_ble_eq_true rfl⟩, Nat.le_of_ble_eq_true rfl, Nat.le_of_ble_eq_true rfl⟩ (Nat.le_of_ble_eq_true rfl) d_M_heardFrame_155 (fun v H106 locs hp hL => ?_)
          obtain ⟨rfl, m104, S105⟩ := hp
          refine W.eq (g2 := F0 m 158 ls []) rfl ?_
          have k0 : va_at D vwCl (b, .inr (6, [.int (th), .int (nn), .ref (b + 1), .ref (b + 2), .ref (b + 3), .ref (b + 4), .ref (b + 5), .ref (b + 6), .ref (b + 7), .ref (b + 8), .ref (b + 9), .ref (b + 10), .ref (b + 11), .ref (b + 12), .ref (b + 13), .ref (b + 14), .ref (b + 15), .ref (b + 16), .ref (b + 17), .ref (b + 18), .ref (b + 19), .ref (b + 20), .ref (b + 21), .ref (b + 22), .ref (b + 23), .ref (b + 24), .ref (b + 25), .ref (b + 26), .ref (b + 27), .ref (b + 28), .ref (b + 29), .ref (b + 30)])) H106 := m104 0 (by decide)
          have hf : f_M_heardFrame A j x = (f_M_rest (setA A 5 (upd (A 5) j ((A 5 j) - 1))) j) := by unfold f_M_heardFrame; rw [if_pos c42, if_neg c44, if_neg c102, if_neg c103]
          exact hq_vret C hret hlk (Nat.le_of_ble_eq_true rfl) (Nat.le_of_ble_eq_true rfl) hL ⟨rfl, by rw [hf]; exact m104, hq_Scall (hq_Sput (hq_S0) u97 (by omega) (by omega)) S105 (by omega) (by omega)⟩ d_M_heardFrame_158
        · intro c103
          refine lv_aload_n C.1 C.2.1 d_M_heardFrame_145 rfl (lv_at hl 0 rfl) ?_
          refine lv_iload_n C.1 C.2.1 d_M_heardFrame_146 rfl (lv_at hl 1 rfl) ?_
          refine hq_callV (lo := lo) (As := [.int (nI j)]) (rest := []) C tb_good hml Y_M_137 (c_M_overload l D cI cZ cN cJ lo b hlo th nn (setA A 5 (upd (A 5) j ((A 5 j) - 1))) j hj) k0 rfl (fun _ _ _ _ h => h) (fun U hU hW => by show hq_B D vwCl b 31 (mdC cI cZ b th nn (setA A 5 (upd (A 5) j ((A 5 j) - 1)))) U.heap; rw [hU]; exact m98) hL hl.1 rfl rfl ⟨⟨Nat.le_of_ble_eq_true rfl, Nat.le_of_ble_eq_true rfl⟩, Nat.le_of_ble_eq_true rfl, Nat.le_of_ble_eq_true rfl⟩ (Nat.le_of_ble_eq_true rfl) d_M_heardFrame_147 (fun v H109 locs hp hL => ?_)
          obtain ⟨rfl, m107, S108⟩ := hp
          refine W.eq (g2 := F0 m 150 ls []) rfl ?_
          have k0 : va_at D vwCl (b, .inr (6, [.int (th), .int (nn), .ref (b + 1), .ref (b + 2), .ref (b + 3), .ref (b + 4), .ref (b + 5), .ref (b + 6), .ref (b + 7), .ref (b + 8), .ref (b + 9), .ref (b + 10), .ref (b + 11), .ref (b + 12), .ref (b + 13), .ref (b + 14), .ref (b + 15), .ref (b + 16), .ref (b + 17), .ref (b + 18), .ref (b + 19), .ref (b + 20), .ref (b + 21), .ref (b + 22), .ref (b + 23), .ref (b + 24), .ref (b + 25), .ref (b + 26), .ref (b + 27), .ref (b + 28), .ref (b + 29), .ref (b + 30)])) H109 := m107 0 (by decide)
          refine lv_goto (tgt := 158) C.1 C.2.1 d_M_heardFrame_150 (by decide) ?_
          have hf : f_M_heardFrame A j x = (f_M_overload (setA A 5 (upd (A 5) j ((A 5 j) - 1))) j) := by unfold f_M_heardFrame; rw [if_pos c42, if_neg c44, if_neg c102, if_pos c103]
          exact hq_vret C hret hlk (Nat.le_of_ble_eq_true rfl) (Nat.le_of_ble_eq_true rfl) hL ⟨rfl, by rw [hf]; exact m107, hq_Scall (hq_Sput (hq_S0) u97 (by omega) (by omega)) S108 (by omega) (by omega)⟩ d_M_heardFrame_158
      · intro c102
        refine lv_aload_n C.1 C.2.1 d_M_heardFrame_65 rfl (lv_at hl 0 rfl) ?_
        refine hq_get (v := .ref (b + 15)) C f_M_53 k0 rfl d_M_heardFrame_66 ?_
        refine lv_iload_n C.1 C.2.1 d_M_heardFrame_69 rfl (lv_at hl 1 rfl) ?_
        have e110 : va_at D vwCl (b + 15, .inl (cI, 4, .inl (A 14))) _ := m98 15 (by decide)
        refine hq_iald C 0 rfl e110 (vp_in_nI hj (by decide)) d_M_heardFrame_70 ?_
        rw [nI_clamp (show j < 2 ^ 31 by omega)]
        refine W.eq (g2 := F0 m 71 ls [.int (A 14 j)]) rfl ?_
        refine lv_iconst (v := 4) C.1 C.2.1 d_M_heardFrame_71 (by decide) ?_
        refine lv_icmp_ne (tgt := 88) C.1 C.2.1 d_M_heardFrame_72 (by decide) ?_ ?_
        · intro c111
          refine lv_aload_n C.1 C.2.1 d_M_heardFrame_88 rfl (lv_at hl 0 rfl) ?_
          refine hq_get (v := .ref (b + 16)) C f_M_56 k0 rfl d_M_heardFrame_89 ?_
          refine lv_iconst (v := 4) C.1 C.2.1 d_M_heardFrame_92 (by decide) ?_
          refine lv_iload_n C.1 C.2.1 d_M_heardFrame_93 rfl (lv_at hl 1 rfl) ?_
          refine lv_imul C.1 C.2.1 d_M_heardFrame_94 ?_
          refine lv_aload_n C.1 C.2.1 d_M_heardFrame_95 rfl (lv_at hl 0 rfl) ?_
          refine hq_get (v := .ref (b + 15)) C f_M_53 k0 rfl d_M_heardFrame_96 ?_
          refine lv_iload_n C.1 C.2.1 d_M_heardFrame_99 rfl (lv_at hl 1 rfl) ?_
          have e112 : va_at D vwCl (b + 15, .inl (cI, 4, .inl (A 14))) _ := m98 15 (by decide)
          refine hq_iald C 0 rfl e112 (vp_in_nI hj (by decide)) d_M_heardFrame_100 ?_
          rw [nI_clamp (show j < 2 ^ 31 by omega)]
          refine W.eq (g2 := F0 m 101 ls [.int (A 14 j), .int (4 * (nI j)), .ref (b + 16)]) rfl ?_
          refine lv_iadd C.1 C.2.1 d_M_heardFrame_101 ?_
          refine lv_aload_n C.1 C.2.1 d_M_heardFrame_102 rfl (lv_at hl 0 rfl) ?_
          refine hq_get (v := .ref (b + 22)) C f_M_74 k0 rfl d_M_heardFrame_103 ?_
          refine lv_iload_n C.1 C.2.1 d_M_heardFrame_106 rfl (lv_at hl 1 rfl) ?_
          have e113 : va_at D vwCl (b + 22, .inl (cI, 4, .inl (A 21))) _ := m98 22 (by decide)
          refine hq_iald C 0 rfl e113 (vp_in_nI hj (by decide)) d_M_heardFrame_107 ?_
          rw [nI_clamp (show j < 2 ^ 31 by omega)]
          refine W.eq (g2 := F0 m 108 ls [.int (A 21 j), .int ((4 * (nI j)) + (A 14 j)), .ref (b + 16)]) rfl ?_
          refine lv_sipush (v := 2048) C.1 C.2.1 d_M_heardFrame_108 (by decide) ?_
          refine lv_aload_n C.1 C.2.1 d_M_heardFrame_111 rfl (lv_at hl 0 rfl) ?_
          refine hq_get (v := .ref (b + 23)) C f_M_77 k0 rfl d_M_heardFrame_112 ?_
          refine lv_iload_n C.1 C.2.1 d_M_heardFrame_115 rfl (lv_at hl 1 rfl) ?_
          have e114 : va_at D vwCl (b + 23, .inl (cI, 4, .inl (A 22))) _ := m98 23 (by decide)
          refine hq_iald C 0 rfl e114 (vp_in_nI hj (by decide)) d_M_heardFrame_116 ?_
          rw [nI_clamp (show j < 2 ^ 31 by omega)]
          refine W.eq (g2 := F0 m 117 ls [.int (A 22 j), .int (2048), .int (A 21 j), .int ((4 * (nI j)) + (A 14 j)), .ref (b + 16)]) rfl ?_
          refine lv_imul C.1 C.2.1 d_M_heardFrame_117 ?_
          refine lv_iadd C.1 C.2.1 d_M_heardFrame_118 ?_
          refine lv_sipush (v := 8192) C.1 C.2.1 d_M_heardFrame_119 (by decide) ?_
          refine lv_aload_n C.1 C.2.1 d_M_heardFrame_122 rfl (lv_at hl 0 rfl) ?_
          refine hq_get (v := .ref (b + 24)) C f_M_80 k0 rfl d_M_heardFrame_123 ?_
          refine lv_iload_n C.1 C.2.1 d_M_heardFrame_126 rfl (lv_at hl 1 rfl) ?_
          have e115 : va_at D vwCl (b + 24, .inl (cI, 4, .inl (A 23))) _ := m98 24 (by decide)
          refine hq_iald C 0 rfl e115 (vp_in_nI hj (by decide)) d_M_heardFrame_127 ?_
          rw [nI_clamp (show j < 2 ^ 31 by omega)]
          refine W.eq (g2 := F0 m 128 ls [.int (A 23 j), .int (8192), .int ((A 21 j) + (2048 * (A 22 j))), .int ((4 * (nI j)) + (A 14 j)), .ref (b + 16)]) rfl ?_
          refine lv_imul C.1 C.2.1 d_M_heardFrame_128 ?_
          refine lv_iadd C.1 C.2.1 d_M_heardFrame_129 ?_
          have e116 : va_at D vwCl (b + 16, .inl (cI, 16, .inl (A 15))) _ := m98 16 (by decide)
          refine hq_iast (lo := lo) C 0 rfl e116 (in_bx ok hj c111) hL (by omega) d_M_heardFrame_130 (fun H117 locs u118 hL => ?_)
          have m119 := md_set (k := 15) (f := upd (A 15) ((4 * (nI j)) + (A 14 j)).toNatClampNeg (((A 21 j) + (2048 * (A 22 j))) + (8192 * (A 23 j)))) m98 u118
          have k0 : va_at D vwCl (b, .inr (6, [.int (th), .int (nn), .ref (b + 1), .ref (b + 2), .ref (b + 3), .ref (b + 4), .ref (b + 5), .ref (b + 6), .ref (b + 7), .ref (b + 8), .ref (b + 9), .ref (b + 10), .ref (b + 11), .ref (b + 12), .ref (b + 13), .ref (b + 14), .ref (b + 15), .ref (b + 16), .ref (b + 17), .ref (b + 18), .ref (b + 19), .ref (b + 20), .ref (b + 21), .ref (b + 22), .ref (b + 23), .ref (b + 24), .ref (b + 25), .ref (b + 26), .ref (b + 27), .ref (b + 28), .ref (b + 29), .ref (b + 30)])) H117 := m119 0 (by decide)
          refine lv_aload_n C.1 C.2.1 d_M_heardFrame_131 rfl (lv_at hl 0 rfl) ?_
          refine hq_get (v := .ref (b + 15)) C f_M_53 k0 rfl d_M_heardFrame_132 ?_
          refine lv_iload_n C.1 C.2.1 d_M_heardFrame_135 rfl (lv_at hl 1 rfl) ?_
          refine lv_dup2_11 C.1 C.2.1 d_M_heardFrame_136 rfl rfl ?_
          have e120 : va_at D vwCl (b + 15, .inl (cI, 4, .inl (A 14))) _ := m119 15 (by decide)
          refine hq_iald C 0 rfl e120 (vp_in_nI hj (by decide)) d_M_heardFrame_137 ?_
          rw [nI_clamp (show j < 2 ^ 31 by omega)]
          refine W.eq (g2 := F0 m 138 ls [.int (A 14 j), .int (nI j), .ref (b + 15)]) rfl ?_
          refine lv_iconst (v := 1) C.1 C.2.1 d_M_heardFrame_138 (by decide) ?_
          refine lv_iadd C.1 C.2.1 d_M_heardFrame_139 ?_
          have e121 : va_at D vwCl (b + 15, .inl (cI, 4, .inl (A 14))) _ := m119 15 (by decide)
          refine hq_iast (lo := lo) C 0 rfl e121 (vp_in_nI hj (by decide)) hL (by omega) d_M_heardFrame_140 (fun H122 locs u123 hL => ?_)
          rw [nI_clamp (show j < 2 ^ 31 by omega)] at u123
          have m124 := md_set (k := 14) (f := upd (A 14) j ((A 14 j) + 1)) m119 u123
          have k0 : va_at D vwCl (b, .inr (6, [.int (th), .int (nn), .ref (b + 1), .ref (b + 2), .ref (b + 3), .ref (b + 4), .ref (b + 5), .ref (b + 6), .ref (b + 7), .ref (b + 8), .ref (b + 9), .ref (b + 10), .ref (b + 11), .ref (b + 12), .ref (b + 13), .ref (b + 14), .ref (b + 15), .ref (b + 16), .ref (b + 17), .ref (b + 18), .ref (b + 19), .ref (b + 20), .ref (b + 21), .ref (b + 22), .ref (b + 23), .ref (b + 24), .ref (b + 25), .ref (b + 26), .ref (b + 27), .ref (b + 28), .ref (b + 29), .ref (b + 30)])) H122 := m124 0 (by decide)
          refine lv_iload_n C.1 C.2.1 d_M_heardFrame_141 rfl (lv_at hl 2 rfl) ?_
          refine lv_if_ne (tgt := 153) C.1 C.2.1 d_M_heardFrame_142 (by decide) ?_ ?_
          · intro c125
            refine lv_aload_n C.1 C.2.1 d_M_heardFrame_153 rfl (lv_at hl 0 rfl) ?_
            refine lv_iload_n C.1 C.2.1 d_M_heardFrame_154 rfl (lv_at hl 1 rfl) ?_
            refine hq_callV (lo := lo) (As := [.int (nI j)]) (rest := []) C tb_good hml Y_M_133 (c_M_rest l D cI cZ cN cJ lo b hlo th nn (setA (setA (setA A 5 (upd (A 5) j ((A 5 j) - 1))) 15 (upd (A 15) ((4 * (nI j)) + (A 14 j)).toNatClampNeg (((A 21 j) + (2048 * (A 22 j))) + (8192 * (A 23 j))))) 14 (upd (A 14) j ((A 14 j) + 1))) j hj) k0 rfl (fun _ _ _ _ h => h) (fun U hU hW => by show hq_B D vwCl b 31 (mdC cI cZ b th nn (setA (setA (setA A 5 (upd (A 5) j ((A 5 j) - 1))) 15 (upd (A 15) ((4 * (nI j)) + (A 14 j)).toNatClampNeg (((A 21 j) + (2048 * (A 22 j))) + (8192 * (A 23 j))))) 14 (upd (A 14) j ((A 14 j) + 1)))) U.heap; rw [hU]; exact m124) hL hl.1 rfl rfl ⟨⟨Nat.le_of_ble_eq_true rfl, Nat.le_of_ble_eq_true rfl⟩, Nat.le_of_ble_eq_true rfl, Nat.le_of_ble_eq_true rfl⟩ (Nat.le_of_ble_eq_true rfl) d_M_heardFrame_155 (fun v H128 locs hp hL => ?_)
            obtain ⟨rfl, m126, S127⟩ := hp
            refine W.eq (g2 := F0 m 158 ls []) rfl ?_
            have k0 : va_at D vwCl (b, .inr (6, [.int (th), .int (nn), .ref (b + 1), .ref (b + 2), .ref (b + 3), .ref (b + 4), .ref (b + 5), .ref (b + 6), .ref (b + 7), .ref (b + 8), .ref (b + 9), .ref (b + 10), .ref (b + 11), .ref (b + 12), .ref (b + 13), .ref (b + 14), .ref (b + 15), .ref (b + 16), .ref (b + 17), .ref (b + 18), .ref (b + 19), .ref (b + 20), .ref (b + 21), .ref (b + 22), .ref (b + 23), .ref (b + 24), .ref (b + 25), .ref (b + 26), .ref (b + 27), .ref (b + 28), .ref (b + 29), .ref (b + 30)])) H128 := m126 0 (by decide)
            have hf : f_M_heardFrame A j x = (f_M_rest (setA (setA (setA A 5 (upd (A 5) j ((A 5 j) - 1))) 15 (upd (A 15) ((4 * (nI j)) + (A 14 j)).toNatClampNeg (((A 21 j) + (2048 * (A 22 j))) + (8192 * (A 23 j))))) 14 (upd (A 14) j ((A 14 j) + 1))) j) := by unfold f_M_heardFrame; rw [if_pos c42, if_neg c44, if_pos c102, if_neg c111, if_neg c125]
            exact hq_vret C hret hlk (Nat.le_of_ble_eq_true rfl) (Nat.le_of_ble_eq_true rfl) hL ⟨rfl, by rw [hf]; exact m126, hq_Scall (hq_Sput (hq_Sput (hq_Sput (hq_S0) u97 (by omega) (by omega)) u118 (by omega) (by omega)) u123 (by omega) (by omega)) S127 (by omega) (by omega)⟩ d_M_heardFrame_158
          · intro c125
            refine lv_aload_n C.1 C.2.1 d_M_heardFrame_145 rfl (lv_at hl 0 rfl) ?_
            refine lv_iload_n C.1 C.2.1 d_M_heardFrame_146 rfl (lv_at hl 1 rfl) ?_
            refine hq_callV (lo := lo) (As := [.int (nI j)]) (rest := []) C tb_good hml Y_M_137 (c_M_overload l D cI cZ cN cJ lo b hlo th nn (setA (setA (setA A 5 (upd (A 5) j ((A 5 j) - 1))) 15 (upd (A 15) ((4 * (nI j)) + (A 14 j)).toNatClampNeg (((A 21 j) + (2048 * (A 22 j))) + (8192 * (A 23 j))))) 14 (upd (A 14) j ((A 14 j) + 1))) j hj) k0 rfl (fun _ _ _ _ h => h) (fun U hU hW => by show hq_B D vwCl b 31 (mdC cI cZ b th nn (setA (setA (setA A 5 (upd (A 5) j ((A 5 j) - 1))) 15 (upd (A 15) ((4 * (nI j)) + (A 14 j)).toNatClampNeg (((A 21 j) + (2048 * (A 22 j))) + (8192 * (A 23 j))))) 14 (upd (A 14) j ((A 14 j) + 1)))) U.heap; rw [hU]; exact m124) hL hl.1 rfl rfl ⟨⟨Nat.le_of_ble_eq_true rfl, Nat.le_of_ble_eq_true rfl⟩, Nat.le_of_ble_eq_true rfl, Nat.le_of_ble_eq_true rfl⟩ (Nat.le_of_ble_eq_true rfl) d_M_heardFrame_147 (fun v H131 locs hp hL => ?_)
            obtain ⟨rfl, m129, S130⟩ := hp
            refine W.eq (g2 := F0 m 150 ls []) rfl ?_
            have k0 : va_at D vwCl (b, .inr (6, [.int (th), .int (nn), .ref (b + 1), .ref (b + 2), .ref (b + 3), .ref (b + 4), .ref (b + 5), .ref (b + 6), .ref (b + 7), .ref (b + 8), .ref (b + 9), .ref (b + 10), .ref (b + 11), .ref (b + 12), .ref (b + 13), .ref (b + 14), .ref (b + 15), .ref (b + 16), .ref (b + 17), .ref (b + 18), .ref (b + 19), .ref (b + 20), .ref (b + 21), .ref (b + 22), .ref (b + 23), .ref (b + 24), .ref (b + 25), .ref (b + 26), .ref (b + 27), .ref (b + 28), .ref (b + 29), .ref (b + 30)])) H131 := m129 0 (by decide)
            refine lv_goto (tgt := 158) C.1 C.2.1 d_M_heardFrame_150 (by decide) ?_
            have hf : f_M_heardFrame A j x = (f_M_overload (setA (setA (setA A 5 (upd (A 5) j ((A 5 j) - 1))) 15 (upd (A 15) ((4 * (nI j)) + (A 14 j)).toNatClampNeg (((A 21 j) + (2048 * (A 22 j))) + (8192 * (A 23 j))))) 14 (upd (A 14) j ((A 14 j) + 1))) j) := by unfold f_M_heardFrame; rw [if_pos c42, if_neg c44, if_pos c102, if_neg c111, if_pos c125]
            exact hq_vret C hret hlk (Nat.le_of_ble_eq_true rfl) (Nat.le_of_ble_eq_true rfl) hL ⟨rfl, by rw [hf]; exact m129, hq_Scall (hq_Sput (hq_Sput (hq_Sput (hq_S0) u97 (by omega) (by omega)) u118 (by omega) (by omega)) u123 (by omega) (by omega)) S130 (by omega) (by omega)⟩ d_M_heardFrame_158
        · intro c111
          refine lv_aload_n C.1 C.2.1 d_M_heardFrame_75 rfl (lv_at hl 0 rfl) ?_
          refine hq_get (v := .ref (b + 9)) C f_M_35 k0 rfl d_M_heardFrame_76 ?_
          refine lv_iload_n C.1 C.2.1 d_M_heardFrame_79 rfl (lv_at hl 1 rfl) ?_
          refine lv_dup2_11 C.1 C.2.1 d_M_heardFrame_80 rfl rfl ?_
          have e132 : va_at D vwCl (b + 9, .inl (cI, 4, .inl (A 8))) _ := m98 9 (by decide)
          refine hq_iald C 0 rfl e132 (vp_in_nI hj (by decide)) d_M_heardFrame_81 ?_
          rw [nI_clamp (show j < 2 ^ 31 by omega)]
          refine W.eq (g2 := F0 m 82 ls [.int (A 8 j), .int (nI j), .ref (b + 9)]) rfl ?_
          refine lv_iconst (v := 1) C.1 C.2.1 d_M_heardFrame_82 (by decide) ?_
          refine lv_iadd C.1 C.2.1 d_M_heardFrame_83 ?_
          have e133 : va_at D vwCl (b + 9, .inl (cI, 4, .inl (A 8))) _ := m98 9 (by decide)
          refine hq_iast (lo := lo) C 0 rfl e133 (vp_in_nI hj (by decide)) hL (by omega) d_M_heardFrame_84 (fun H134 locs u135 hL => ?_)
          rw [nI_clamp (show j < 2 ^ 31 by omega)] at u135
          have m136 := md_set (k := 8) (f := upd (A 8) j ((A 8 j) + 1)) m98 u135
          have k0 : va_at D vwCl (b, .inr (6, [.int (th), .int (nn), .ref (b + 1), .ref (b + 2), .ref (b + 3), .ref (b + 4), .ref (b + 5), .ref (b + 6), .ref (b + 7), .ref (b + 8), .ref (b + 9), .ref (b + 10), .ref (b + 11), .ref (b + 12), .ref (b + 13), .ref (b + 14), .ref (b + 15), .ref (b + 16), .ref (b + 17), .ref (b + 18), .ref (b + 19), .ref (b + 20), .ref (b + 21), .ref (b + 22), .ref (b + 23), .ref (b + 24), .ref (b + 25), .ref (b + 26), .ref (b + 27), .ref (b + 28), .ref (b + 29), .ref (b + 30)])) H134 := m136 0 (by decide)
          refine lv_goto (tgt := 141) C.1 C.2.1 d_M_heardFrame_85 (by decide) ?_
          refine lv_iload_n C.1 C.2.1 d_M_heardFrame_141 rfl (lv_at hl 2 rfl) ?_
          refine lv_if_ne (tgt := 153) C.1 C.2.1 d_M_heardFrame_142 (by decide) ?_ ?_
          · intro c137
            refine lv_aload_n C.1 C.2.1 d_M_heardFrame_153 rfl (lv_at hl 0 rfl) ?_
            refine lv_iload_n C.1 C.2.1 d_M_heardFrame_154 rfl (lv_at hl 1 rfl) ?_
            refine hq_callV (lo := lo) (As := [.int (nI j)]) (rest := []) C tb_good hml Y_M_133 (c_M_rest l D cI cZ cN cJ lo b hlo th nn (setA (setA A 5 (upd (A 5) j ((A 5 j) - 1))) 8 (upd (A 8) j ((A 8 j) + 1))) j hj) k0 rfl (fun _ _ _ _ h => h) (fun U hU hW => by show hq_B D vwCl b 31 (mdC cI cZ b th nn (setA (setA A 5 (upd (A 5) j ((A 5 j) - 1))) 8 (upd (A 8) j ((A 8 j) + 1)))) U.heap; rw [hU]; exact m136) hL hl.1 rfl rfl ⟨⟨Nat.le_of_ble_eq_true rfl, Nat.le_of_ble_eq_true rfl⟩, Nat.le_of_ble_eq_true rfl, Nat.le_of_ble_eq_true rfl⟩ (Nat.le_of_ble_eq_true rfl) d_M_heardFrame_155 (fun v H140 locs hp hL => ?_)
            obtain ⟨rfl, m138, S139⟩ := hp
            refine W.eq (g2 := F0 m 158 ls []) rfl ?_
            have k0 : va_at D vwCl (b, .inr (6, [.int (th), .int (nn), .ref (b + 1), .ref (b + 2), .ref (b + 3), .ref (b + 4), .ref (b + 5), .ref (b + 6), .ref (b + 7), .ref (b + 8), .ref (b + 9), .ref (b + 10), .ref (b + 11), .ref (b + 12), .ref (b + 13), .ref (b + 14), .ref (b + 15), .ref (b + 16), .ref (b + 17), .ref (b + 18), .ref (b + 19), .ref (b + 20), .ref (b + 21), .ref (b + 22), .ref (b + 23), .ref (b + 24), .ref (b + 25), .ref (b + 26), .ref (b + 27), .ref (b + 28), .ref (b + 29), .ref (b + 30)])) H140 := m138 0 (by decide)
            have hf : f_M_heardFrame A j x = (f_M_rest (setA (setA A 5 (upd (A 5) j ((A 5 j) - 1))) 8 (upd (A 8) j ((A 8 j) + 1))) j) := by unfold f_M_heardFrame; rw [if_pos c42, if_neg c44, if_pos c102, if_pos c111, if_neg c137]
            exact hq_vret C hret hlk (Nat.le_of_ble_eq_true rfl) (Nat.le_of_ble_eq_true rfl) hL ⟨rfl, by rw [hf]; exact m138, hq_Scall (hq_Sput (hq_Sput (hq_S0) u97 (by omega) (by omega)) u135 (by omega) (by omega)) S139 (by omega) (by omega)⟩ d_M_heardFrame_158
          · intro c137
            refine lv_aload_n C.1 C.2.1 d_M_heardFrame_145 rfl (lv_at hl 0 rfl) ?_
            refine lv_iload_n C.1 C.2.1 d_M_heardFrame_146 rfl (lv_at hl 1 rfl) ?_
            refine hq_callV (lo := lo) (As := [.int (nI j)]) (rest := []) C tb_good hml Y_M_137 (c_M_overload l D cI cZ cN cJ lo b hlo th nn (setA (setA A 5 (upd (A 5) j ((A 5 j) - 1))) 8 (upd (A 8) j ((A 8 j) + 1))) j hj) k0 rfl (fun _ _ _ _ h => h) (fun U hU hW => by show hq_B D vwCl b 31 (mdC cI cZ b th nn (setA (setA A 5 (upd (A 5) j ((A 5 j) - 1))) 8 (upd (A 8) j ((A 8 j) + 1)))) U.heap; rw [hU]; exact m136) hL hl.1 rfl rfl ⟨⟨Nat.le_of_ble_eq_true rfl, Nat.le_of_ble_eq_true rfl⟩, Nat.le_of_ble_eq_true rfl, Nat.le_of_ble_eq_true rfl⟩ (Nat.le_of_ble_eq_true rfl) d_M_heardFrame_147 (fun v H143 locs hp hL => ?_)
            obtain ⟨rfl, m141, S142⟩ := hp
            refine W.eq (g2 := F0 m 150 ls []) rfl ?_
            have k0 : va_at D vwCl (b, .inr (6, [.int (th), .int (nn), .ref (b + 1), .ref (b + 2), .ref (b + 3), .ref (b + 4), .ref (b + 5), .ref (b + 6), .ref (b + 7), .ref (b + 8), .ref (b + 9), .ref (b + 10), .ref (b + 11), .ref (b + 12), .ref (b + 13), .ref (b + 14), .ref (b + 15), .ref (b + 16), .ref (b + 17), .ref (b + 18), .ref (b + 19), .ref (b + 20), .ref (b + 21), .ref (b + 22), .ref (b + 23), .ref (b + 24), .ref (b + 25), .ref (b + 26), .ref (b + 27), .ref (b + 28), .ref (b + 29), .ref (b + 30)])) H143 := m141 0 (by decide)
            refine lv_goto (tgt := 158) C.1 C.2.1 d_M_heardFrame_150 (by decide) ?_
            have hf : f_M_heardFrame A j x = (f_M_overload (setA (setA A 5 (upd (A 5) j ((A 5 j) - 1))) 8 (upd (A 8) j ((A 8 j) + 1))) j) := by unfold f_M_heardFrame; rw [if_pos c42, if_neg c44, if_pos c102, if_pos c111, if_pos c137]
            exact hq_vret C hret hlk (Nat.le_of_ble_eq_true rfl) (Nat.le_of_ble_eq_true rfl) hL ⟨rfl, by rw [hf]; exact m141, hq_Scall (hq_Sput (hq_Sput (hq_S0) u97 (by omega) (by omega)) u135 (by omega) (by omega)) S142 (by omega) (by omega)⟩ d_M_heardFrame_158
  · intro c42
    refine lv_bipush (v := 127) C.1 C.2.1 d_M_heardFrame_16 (by decide) ?_
    refine lv_goto (tgt := 42) C.1 C.2.1 d_M_heardFrame_18 (by decide) ?_
    have e144 : va_at D vwCl (b + 6, .inl (cI, 4, .inl (A 5))) _ := hM 6 (by decide)
    refine hq_iast (lo := lo) C 0 rfl e144 (vp_in_nI hj (by decide)) hL (by omega) d_M_heardFrame_42 (fun H145 locs u146 hL => ?_)
    rw [nI_clamp (show j < 2 ^ 31 by omega)] at u146
    have m147 := md_set (k := 5) (f := upd (A 5) j 127) hM u146
    have k0 : va_at D vwCl (b, .inr (6, [.int (th), .int (nn), .ref (b + 1), .ref (b + 2), .ref (b + 3), .ref (b + 4), .ref (b + 5), .ref (b + 6), .ref (b + 7), .ref (b + 8), .ref (b + 9), .ref (b + 10), .ref (b + 11), .ref (b + 12), .ref (b + 13), .ref (b + 14), .ref (b + 15), .ref (b + 16), .ref (b + 17), .ref (b + 18), .ref (b + 19), .ref (b + 20), .ref (b + 21), .ref (b + 22), .ref (b + 23), .ref (b + 24), .ref (b + 25), .ref (b + 26), .ref (b + 27), .ref (b + 28), .ref (b + 29), .ref (b + 30)])) H145 := m147 0 (by decide)
    refine lv_aload_n C.1 C.2.1 d_M_heardFrame_43 rfl (lv_at hl 0 rfl) ?_
    refine hq_get (v := .ref (b + 22)) C f_M_74 k0 rfl d_M_heardFrame_44 ?_
    refine lv_iload_n C.1 C.2.1 d_M_heardFrame_47 rfl (lv_at hl 1 rfl) ?_
    have e148 : va_at D vwCl (b + 22, .inl (cI, 4, .inl (A 21))) _ := m147 22 (by decide)
    refine hq_iald C 0 rfl e148 (vp_in_nI hj (by decide)) d_M_heardFrame_48 ?_
    rw [nI_clamp (show j < 2 ^ 31 by omega)]
    refine W.eq (g2 := F0 m 49 ls [.int (A 21 j)]) rfl ?_
    refine lv_aload_n C.1 C.2.1 d_M_heardFrame_49 rfl (lv_at hl 0 rfl) ?_
    refine hq_get (v := .ref (b + 7)) C f_M_29 k0 rfl d_M_heardFrame_50 ?_
    refine lv_iload_n C.1 C.2.1 d_M_heardFrame_53 rfl (lv_at hl 1 rfl) ?_
    have e149 : va_at D vwCl (b + 7, .inl (cI, 4, .inl (A 6))) _ := m147 7 (by decide)
    refine hq_iald C 0 rfl e149 (vp_in_nI hj (by decide)) d_M_heardFrame_54 ?_
    rw [nI_clamp (show j < 2 ^ 31 by omega)]
    refine W.eq (g2 := F0 m 55 ls [.int (A 6 j), .int (A 21 j)]) rfl ?_
    refine lv_iand C.1 C.2.1 d_M_heardFrame_55 ?_
    refine lv_aload_n C.1 C.2.1 d_M_heardFrame_56 rfl (lv_at hl 0 rfl) ?_
    refine hq_get (v := .ref (b + 8)) C f_M_32 k0 rfl d_M_heardFrame_57 ?_
    refine lv_iload_n C.1 C.2.1 d_M_heardFrame_60 rfl (lv_at hl 1 rfl) ?_
    have e150 : va_at D vwCl (b + 8, .inl (cI, 4, .inl (A 7))) _ := m147 8 (by decide)
    refine hq_iald C 0 rfl e150 (vp_in_nI hj (by decide)) d_M_heardFrame_61 ?_
    rw [nI_clamp (show j < 2 ^ 31 by omega)]
    refine W.eq (g2 := F0 m 62 ls [.int (A 7 j), .int ((A 21 j) &&& (A 6 j))]) rfl ?_
    refine lv_icmp_ne (tgt := 141) C.1 C.2.1 d_M_heardFrame_62 (by decide) ?_ ?_
    · intro c151
      refine lv_iload_n C.1 C.2.1 d_M_heardFrame_141 rfl (lv_at hl 2 rfl) ?_
      refine lv_if_ne (tgt := 153) C.1 C.2.1 d_M_heardFrame_142 (by decide) ?_ ?_
      · intro c152
        refine lv_aload_n C.1 C.2.1 d_M_heardFrame_153 rfl (lv_at hl 0 rfl) ?_
        refine lv_iload_n C.1 C.2.1 d_M_heardFrame_154 rfl (lv_at hl 1 rfl) ?_
        refine hq_callV (lo := lo) (As := [.int (nI j)]) (rest := []) C tb_good hml Y_M_133 (c_M_rest l D cI cZ cN cJ lo b hlo th nn (setA A 5 (upd (A 5) j 127)) j hj) k0 rfl (fun _ _ _ _ h => h) (fun U hU hW => by show hq_B D vwCl b 31 (mdC cI cZ b th nn (setA A 5 (upd (A 5) j 127))) U.heap; rw [hU]; exact m147) hL hl.1 rfl rfl ⟨⟨Nat.le_of_ble_eq_true rfl, Nat.le_of_ble_eq_true rfl⟩, Nat.le_of_ble_eq_true rfl, Nat.le_of_ble_eq_true rfl⟩ (Nat.le_of_ble_eq_true rfl) d_M_heardFrame_155 (fun v H155 locs hp hL => ?_)
        obtain ⟨rfl, m153, S154⟩ := hp
        refine W.eq (g2 := F0 m 158 ls []) rfl ?_
        have k0 : va_at D vwCl (b, .inr (6, [.int (th), .int (nn), .ref (b + 1), .ref (b + 2), .ref (b + 3), .ref (b + 4), .ref (b + 5), .ref (b + 6), .ref (b + 7), .ref (b + 8), .ref (b + 9), .ref (b + 10), .ref (b + 11), .ref (b + 12), .ref (b + 13), .ref (b + 14), .ref (b + 15), .ref (b + 16), .ref (b + 17), .ref (b + 18), .ref (b + 19), .ref (b + 20), .ref (b + 21), .ref (b + 22), .ref (b + 23), .ref (b + 24), .ref (b + 25), .ref (b + 26), .ref (b + 27), .ref (b + 28), .ref (b + 29), .ref (b + 30)])) H155 := m153 0 (by decide)
        have hf : f_M_heardFrame A j x = (f_M_rest (setA A 5 (upd (A 5) j 127)) j) := by unfold f_M_heardFrame; rw [if_neg c42, if_neg c151, if_neg c152]
        exact hq_vret C hret hlk (Nat.le_of_ble_eq_true rfl) (Nat.le_of_ble_eq_true rfl) hL ⟨rfl, by rw [hf]; exact m153, hq_Scall (hq_Sput (hq_S0) u146 (by omega) (by omega)) S154 (by omega) (by omega)⟩ d_M_heardFrame_158
      · intro c152
        refine lv_aload_n C.1 C.2.1 d_M_heardFrame_145 rfl (lv_at hl 0 rfl) ?_
        refine lv_iload_n C.1 C.2.1 d_M_heardFrame_146 rfl (lv_at hl 1 rfl) ?_
        refine hq_callV (lo := lo) (As := [.int (nI j)]) (rest := []) C tb_good hml Y_M_137 (c_M_overload l D cI cZ cN cJ lo b hlo th nn (setA A 5 (upd (A 5) j 127)) j hj) k0 rfl (fun _ _ _ _ h => h) (fun U hU hW => by show hq_B D vwCl b 31 (mdC cI cZ b th nn (setA A 5 (upd (A 5) j 127))) U.heap; rw [hU]; exact m147) hL hl.1 rfl rfl ⟨⟨Nat.le_of_ble_eq_true rfl, Nat.le_of_ble_eq_true rfl⟩, Nat.le_of_ble_eq_true rfl, Nat.le_of_ble_eq_true rfl⟩ (Nat.le_of_ble_eq_true rfl) d_M_heardFrame_147 (fun v H158 locs hp hL => ?_)
        obtain ⟨rfl, m156, S157⟩ := hp
        refine W.eq (g2 := F0 m 150 ls []) rfl ?_
        have k0 : va_at D vwCl (b, .inr (6, [.int (th), .int (nn), .ref (b + 1), .ref (b + 2), .ref (b + 3), .ref (b + 4), .ref (b + 5), .ref (b + 6), .ref (b + 7), .ref (b + 8), .ref (b + 9), .ref (b + 10), .ref (b + 11), .ref (b + 12), .ref (b + 13), .ref (b + 14), .ref (b + 15), .ref (b + 16), .ref (b + 17), .ref (b + 18), .ref (b + 19), .ref (b + 20), .ref (b + 21), .ref (b + 22), .ref (b + 23), .ref (b + 24), .ref (b + 25), .ref (b + 26), .ref (b + 27), .ref (b + 28), .ref (b + 29), .ref (b + 30)])) H158 := m156 0 (by decide)
        refine lv_goto (tgt := 158) C.1 C.2.1 d_M_heardFrame_150 (by decide) ?_
        have hf : f_M_heardFrame A j x = (f_M_overload (setA A 5 (upd (A 5) j 127)) j) := by unfold f_M_heardFrame; rw [if_neg c42, if_neg c151, if_pos c152]
        exact hq_vret C hret hlk (Nat.le_of_ble_eq_true rfl) (Nat.le_of_ble_eq_true rfl) hL ⟨rfl, by rw [hf]; exact m156, hq_Scall (hq_Sput (hq_S0) u146 (by omega) (by omega)) S157 (by omega) (by omega)⟩ d_M_heardFrame_158
    · intro c151
      refine lv_aload_n C.1 C.2.1 d_M_heardFrame_65 rfl (lv_at hl 0 rfl) ?_
      refine hq_get (v := .ref (b + 15)) C f_M_53 k0 rfl d_M_heardFrame_66 ?_
      refine lv_iload_n C.1 C.2.1 d_M_heardFrame_69 rfl (lv_at hl 1 rfl) ?_
      have e159 : va_at D vwCl (b + 15, .inl (cI, 4, .inl (A 14))) _ := m147 15 (by decide)
      refine hq_iald C 0 rfl e159 (vp_in_nI hj (by decide)) d_M_heardFrame_70 ?_
      rw [nI_clamp (show j < 2 ^ 31 by omega)]
      refine W.eq (g2 := F0 m 71 ls [.int (A 14 j)]) rfl ?_
      refine lv_iconst (v := 4) C.1 C.2.1 d_M_heardFrame_71 (by decide) ?_
      refine lv_icmp_ne (tgt := 88) C.1 C.2.1 d_M_heardFrame_72 (by decide) ?_ ?_
      · intro c160
        refine lv_aload_n C.1 C.2.1 d_M_heardFrame_88 rfl (lv_at hl 0 rfl) ?_
        refine hq_get (v := .ref (b + 16)) C f_M_56 k0 rfl d_M_heardFrame_89 ?_
        refine lv_iconst (v := 4) C.1 C.2.1 d_M_heardFrame_92 (by decide) ?_
        refine lv_iload_n C.1 C.2.1 d_M_heardFrame_93 rfl (lv_at hl 1 rfl) ?_
        refine lv_imul C.1 C.2.1 d_M_heardFrame_94 ?_
        refine lv_aload_n C.1 C.2.1 d_M_heardFrame_95 rfl (lv_at hl 0 rfl) ?_
        refine hq_get (v := .ref (b + 15)) C f_M_53 k0 rfl d_M_heardFrame_96 ?_
        refine lv_iload_n C.1 C.2.1 d_M_heardFrame_99 rfl (lv_at hl 1 rfl) ?_
        have e161 : va_at D vwCl (b + 15, .inl (cI, 4, .inl (A 14))) _ := m147 15 (by decide)
        refine hq_iald C 0 rfl e161 (vp_in_nI hj (by decide)) d_M_heardFrame_100 ?_
        rw [nI_clamp (show j < 2 ^ 31 by omega)]
        refine W.eq (g2 := F0 m 101 ls [.int (A 14 j), .int (4 * (nI j)), .ref (b + 16)]) rfl ?_
        refine lv_iadd C.1 C.2.1 d_M_heardFrame_101 ?_
        refine lv_aload_n C.1 C.2.1 d_M_heardFrame_102 rfl (lv_at hl 0 rfl) ?_
        refine hq_get (v := .ref (b + 22)) C f_M_74 k0 rfl d_M_heardFrame_103 ?_
        refine lv_iload_n C.1 C.2.1 d_M_heardFrame_106 rfl (lv_at hl 1 rfl) ?_
        have e162 : va_at D vwCl (b + 22, .inl (cI, 4, .inl (A 21))) _ := m147 22 (by decide)
        refine hq_iald C 0 rfl e162 (vp_in_nI hj (by decide)) d_M_heardFrame_107 ?_
        rw [nI_clamp (show j < 2 ^ 31 by omega)]
        refine W.eq (g2 := F0 m 108 ls [.int (A 21 j), .int ((4 * (nI j)) + (A 14 j)), .ref (b + 16)]) rfl ?_
        refine lv_sipush (v := 2048) C.1 C.2.1 d_M_heardFrame_108 (by decide) ?_
        refine lv_aload_n C.1 C.2.1 d_M_heardFrame_111 rfl (lv_at hl 0 rfl) ?_
        refine hq_get (v := .ref (b + 23)) C f_M_77 k0 rfl d_M_heardFrame_112 ?_
        refine lv_iload_n C.1 C.2.1 d_M_heardFrame_115 rfl (lv_at hl 1 rfl) ?_
        have e163 : va_at D vwCl (b + 23, .inl (cI, 4, .inl (A 22))) _ := m147 23 (by decide)
        refine hq_iald C 0 rfl e163 (vp_in_nI hj (by decide)) d_M_heardFrame_116 ?_
        rw [nI_clamp (show j < 2 ^ 31 by omega)]
        refine W.eq (g2 := F0 m 117 ls [.int (A 22 j), .int (2048), .int (A 21 j), .int ((4 * (nI j)) + (A 14 j)), .ref (b + 16)]) rfl ?_
        refine lv_imul C.1 C.2.1 d_M_heardFrame_117 ?_
        refine lv_iadd C.1 C.2.1 d_M_heardFrame_118 ?_
        refine lv_sipush (v := 8192) C.1 C.2.1 d_M_heardFrame_119 (by decide) ?_
        refine lv_aload_n C.1 C.2.1 d_M_heardFrame_122 rfl (lv_at hl 0 rfl) ?_
        refine hq_get (v := .ref (b + 24)) C f_M_80 k0 rfl d_M_heardFrame_123 ?_
        refine lv_iload_n C.1 C.2.1 d_M_heardFrame_126 rfl (lv_at hl 1 rfl) ?_
        have e164 : va_at D vwCl (b + 24, .inl (cI, 4, .inl (A 23))) _ := m147 24 (by decide)
        refine hq_iald C 0 rfl e164 (vp_in_nI hj (by decide)) d_M_heardFrame_127 ?_
        rw [nI_clamp (show j < 2 ^ 31 by omega)]
        refine W.eq (g2 := F0 m 128 ls [.int (A 23 j), .int (8192), .int ((A 21 j) + (2048 * (A 22 j))), .int ((4 * (nI j)) + (A 14 j)), .ref (b + 16)]) rfl ?_
        refine lv_imul C.1 C.2.1 d_M_heardFrame_128 ?_
        refine lv_iadd C.1 C.2.1 d_M_heardFrame_129 ?_
        have e165 : va_at D vwCl (b + 16, .inl (cI, 16, .inl (A 15))) _ := m147 16 (by decide)
        refine hq_iast (lo := lo) C 0 rfl e165 (in_bx ok hj c160) hL (by omega) d_M_heardFrame_130 (fun H166 locs u167 hL => ?_)
        have m168 := md_set (k := 15) (f := upd (A 15) ((4 * (nI j)) + (A 14 j)).toNatClampNeg (((A 21 j) + (2048 * (A 22 j))) + (8192 * (A 23 j)))) m147 u167
        have k0 : va_at D vwCl (b, .inr (6, [.int (th), .int (nn), .ref (b + 1), .ref (b + 2), .ref (b + 3), .ref (b + 4), .ref (b + 5), .ref (b + 6), .ref (b + 7), .ref (b + 8), .ref (b + 9), .ref (b + 10), .ref (b + 11), .ref (b + 12), .ref (b + 13), .ref (b + 14), .ref (b + 15), .ref (b + 16), .ref (b + 17), .ref (b + 18), .ref (b + 19), .ref (b + 20), .ref (b + 21), .ref (b + 22), .ref (b + 23), .ref (b + 24), .ref (b + 25), .ref (b + 26), .ref (b + 27), .ref (b + 28), .ref (b + 29), .ref (b + 30)])) H166 := m168 0 (by decide)
        refine lv_aload_n C.1 C.2.1 d_M_heardFrame_131 rfl (lv_at hl 0 rfl) ?_
        refine hq_get (v := .ref (b + 15)) C f_M_53 k0 rfl d_M_heardFrame_132 ?_
        refine lv_iload_n C.1 C.2.1 d_M_heardFrame_135 rfl (lv_at hl 1 rfl) ?_
        refine lv_dup2_11 C.1 C.2.1 d_M_heardFrame_136 rfl rfl ?_
        have e169 : va_at D vwCl (b + 15, .inl (cI, 4, .inl (A 14))) _ := m168 15 (by decide)
        refine hq_iald C 0 rfl e169 (vp_in_nI hj (by decide)) d_M_heardFrame_137 ?_
        rw [nI_clamp (show j < 2 ^ 31 by omega)]
        refine W.eq (g2 := F0 m 138 ls [.int (A 14 j), .int (nI j), .ref (b + 15)]) rfl ?_
        refine lv_iconst (v := 1) C.1 C.2.1 d_M_heardFrame_138 (by decide) ?_
        refine lv_iadd C.1 C.2.1 d_M_heardFrame_139 ?_
        have e170 : va_at D vwCl (b + 15, .inl (cI, 4, .inl (A 14))) _ := m168 15 (by decide)
        refine hq_iast (lo := lo) C 0 rfl e170 (vp_in_nI hj (by decide)) hL (by omega) d_M_heardFrame_140 (fun H171 locs u172 hL => ?_)
        rw [nI_clamp (show j < 2 ^ 31 by omega)] at u172
        have m173 := md_set (k := 14) (f := upd (A 14) j ((A 14 j) + 1)) m168 u172
        have k0 : va_at D vwCl (b, .inr (6, [.int (th), .int (nn), .ref (b + 1), .ref (b + 2), .ref (b + 3), .ref (b + 4), .ref (b + 5), .ref (b + 6), .ref (b + 7), .ref (b + 8), .ref (b + 9), .ref (b + 10), .ref (b + 11), .ref (b + 12), .ref (b + 13), .ref (b + 14), .ref (b + 15), .ref (b + 16), .ref (b + 17), .ref (b + 18), .ref (b + 19), .ref (b + 20), .ref (b + 21), .ref (b + 22), .ref (b + 23), .ref (b + 24), .ref (b + 25), .ref (b + 26), .ref (b + 27), .ref (b + 28), .ref (b + 29), .ref (b + 30)])) H171 := m173 0 (by decide)
        refine lv_iload_n C.1 C.2.1 d_M_heardFrame_141 rfl (lv_at hl 2 rfl) ?_
        refine lv_if_ne (tgt := 153) C.1 C.2.1 d_M_heardFrame_142 (by decide) ?_ ?_
        · intro c174
          refine lv_aload_n C.1 C.2.1 d_M_heardFrame_153 rfl (lv_at hl 0 rfl) ?_
          refine lv_iload_n C.1 C.2.1 d_M_heardFrame_154 rfl (lv_at hl 1 rfl) ?_
          refine hq_callV (lo := lo) (As := [.int (nI j)]) (rest := []) C tb_good hml Y_M_133 (c_M_rest l D cI cZ cN cJ lo b hlo th nn (setA (setA (setA A 5 (upd (A 5) j 127)) 15 (upd (A 15) ((4 * (nI j)) + (A 14 j)).toNatClampNeg (((A 21 j) + (2048 * (A 22 j))) + (8192 * (A 23 j))))) 14 (upd (A 14) j ((A 14 j) + 1))) j hj) k0 rfl (fun _ _ _ _ h => h) (fun U hU hW => by show hq_B D vwCl b 31 (mdC cI cZ b th nn (setA (setA (setA A 5 (upd (A 5) j 127)) 15 (upd (A 15) ((4 * (nI j)) + (A 14 j)).toNatClampNeg (((A 21 j) + (2048 * (A 22 j))) + (8192 * (A 23 j))))) 14 (upd (A 14) j ((A 14 j) + 1)))) U.heap; rw [hU]; exact m173) hL hl.1 rfl rfl ⟨⟨Nat.le_of_ble_eq_true rfl, Nat.le_of_ble_eq_true rfl⟩, Nat.le_of_ble_eq_true rfl, Nat.le_of_ble_eq_true rfl⟩ (Nat.le_of_ble_eq_true rfl) d_M_heardFrame_155 (fun v H177 locs hp hL => ?_)
          obtain ⟨rfl, m175, S176⟩ := hp
          refine W.eq (g2 := F0 m 158 ls []) rfl ?_
          have k0 : va_at D vwCl (b, .inr (6, [.int (th), .int (nn), .ref (b + 1), .ref (b + 2), .ref (b + 3), .ref (b + 4), .ref (b + 5), .ref (b + 6), .ref (b + 7), .ref (b + 8), .ref (b + 9), .ref (b + 10), .ref (b + 11), .ref (b + 12), .ref (b + 13), .ref (b + 14), .ref (b + 15), .ref (b + 16), .ref (b + 17), .ref (b + 18), .ref (b + 19), .ref (b + 20), .ref (b + 21), .ref (b + 22), .ref (b + 23), .ref (b + 24), .ref (b + 25), .ref (b + 26), .ref (b + 27), .ref (b + 28), .ref (b + 29), .ref (b + 30)])) H177 := m175 0 (by decide)
          have hf : f_M_heardFrame A j x = (f_M_rest (setA (setA (setA A 5 (upd (A 5) j 127)) 15 (upd (A 15) ((4 * (nI j)) + (A 14 j)).toNatClampNeg (((A 21 j) + (2048 * (A 22 j))) + (8192 * (A 23 j))))) 14 (upd (A 14) j ((A 14 j) + 1))) j) := by unfold f_M_heardFrame; rw [if_neg c42, if_pos c151, if_neg c160, if_neg c174]
          exact hq_vret C hret hlk (Nat.le_of_ble_eq_true rfl) (Nat.le_of_ble_eq_true rfl) hL ⟨rfl, by rw [hf]; exact m175, hq_Scall (hq_Sput (hq_Sput (hq_Sput (hq_S0) u146 (by omega) (by omega)) u167 (by omega) (by omega)) u172 (by omega) (by omega)) S176 (by omega) (by omega)⟩ d_M_heardFrame_158
        · intro c174
          refine lv_aload_n C.1 C.2.1 d_M_heardFrame_145 rfl (lv_at hl 0 rfl) ?_
          refine lv_iload_n C.1 C.2.1 d_M_heardFrame_146 rfl (lv_at hl 1 rfl) ?_
          refine hq_callV (lo := lo) (As := [.int (nI j)]) (rest := []) C tb_good hml Y_M_137 (c_M_overload l D cI cZ cN cJ lo b hlo th nn (setA (setA (setA A 5 (upd (A 5) j 127)) 15 (upd (A 15) ((4 * (nI j)) + (A 14 j)).toNatClampNeg (((A 21 j) + (2048 * (A 22 j))) + (8192 * (A 23 j))))) 14 (upd (A 14) j ((A 14 j) + 1))) j hj) k0 rfl (fun _ _ _ _ h => h) (fun U hU hW => by show hq_B D vwCl b 31 (mdC cI cZ b th nn (setA (setA (setA A 5 (upd (A 5) j 127)) 15 (upd (A 15) ((4 * (nI j)) + (A 14 j)).toNatClampNeg (((A 21 j) + (2048 * (A 22 j))) + (8192 * (A 23 j))))) 14 (upd (A 14) j ((A 14 j) + 1)))) U.heap; rw [hU]; exact m173) hL hl.1 rfl rfl ⟨⟨Nat.le_of_ble_eq_true rfl, Nat.le_of_ble_eq_true rfl⟩, Nat.le_of_ble_eq_true rfl, Nat.le_of_ble_eq_true rfl⟩ (Nat.le_of_ble_eq_true rfl) d_M_heardFrame_147 (fun v H180 locs hp hL => ?_)
          obtain ⟨rfl, m178, S179⟩ := hp
          refine W.eq (g2 := F0 m 150 ls []) rfl ?_
          have k0 : va_at D vwCl (b, .inr (6, [.int (th), .int (nn), .ref (b + 1), .ref (b + 2), .ref (b + 3), .ref (b + 4), .ref (b + 5), .ref (b + 6), .ref (b + 7), .ref (b + 8), .ref (b + 9), .ref (b + 10), .ref (b + 11), .ref (b + 12), .ref (b + 13), .ref (b + 14), .ref (b + 15), .ref (b + 16), .ref (b + 17), .ref (b + 18), .ref (b + 19), .ref (b + 20), .ref (b + 21), .ref (b + 22), .ref (b + 23), .ref (b + 24), .ref (b + 25), .ref (b + 26), .ref (b + 27), .ref (b + 28), .ref (b + 29), .ref (b + 30)])) H180 := m178 0 (by decide)
          refine lv_goto (tgt := 158) C.1 C.2.1 d_M_heardFrame_150 (by decide) ?_
          have hf : f_M_heardFrame A j x = (f_M_overload (setA (setA (setA A 5 (upd (A 5) j 127)) 15 (upd (A 15) ((4 * (nI j)) + (A 14 j)).toNatClampNeg (((A 21 j) + (2048 * (A 22 j))) + (8192 * (A 23 j))))) 14 (upd (A 14) j ((A 14 j) + 1))) j) := by unfold f_M_heardFrame; rw [if_neg c42, if_pos c151, if_neg c160, if_pos c174]
          exact hq_vret C hret hlk (Nat.le_of_ble_eq_true rfl) (Nat.le_of_ble_eq_true rfl) hL ⟨rfl, by rw [hf]; exact m178, hq_Scall (hq_Sput (hq_Sput (hq_Sput (hq_S0) u146 (by omega) (by omega)) u167 (by omega) (by omega)) u172 (by omega) (by omega)) S179 (by omega) (by omega)⟩ d_M_heardFrame_158
      · intro c160
        refine lv_aload_n C.1 C.2.1 d_M_heardFrame_75 rfl (lv_at hl 0 rfl) ?_
        refine hq_get (v := .ref (b + 9)) C f_M_35 k0 rfl d_M_heardFrame_76 ?_
        refine lv_iload_n C.1 C.2.1 d_M_heardFrame_79 rfl (lv_at hl 1 rfl) ?_
        refine lv_dup2_11 C.1 C.2.1 d_M_heardFrame_80 rfl rfl ?_
        have e181 : va_at D vwCl (b + 9, .inl (cI, 4, .inl (A 8))) _ := m147 9 (by decide)
        refine hq_iald C 0 rfl e181 (vp_in_nI hj (by decide)) d_M_heardFrame_81 ?_
        rw [nI_clamp (show j < 2 ^ 31 by omega)]
        refine W.eq (g2 := F0 m 82 ls [.int (A 8 j), .int (nI j), .ref (b + 9)]) rfl ?_
        refine lv_iconst (v := 1) C.1 C.2.1 d_M_heardFrame_82 (by decide) ?_
        refine lv_iadd C.1 C.2.1 d_M_heardFrame_83 ?_
        have e182 : va_at D vwCl (b + 9, .inl (cI, 4, .inl (A 8))) _ := m147 9 (by decide)
        refine hq_iast (lo := lo) C 0 rfl e182 (vp_in_nI hj (by decide)) hL (by omega) d_M_heardFrame_84 (fun H183 locs u184 hL => ?_)
        rw [nI_clamp (show j < 2 ^ 31 by omega)] at u184
        have m185 := md_set (k := 8) (f := upd (A 8) j ((A 8 j) + 1)) m147 u184
        have k0 : va_at D vwCl (b, .inr (6, [.int (th), .int (nn), .ref (b + 1), .ref (b + 2), .ref (b + 3), .ref (b + 4), .ref (b + 5), .ref (b + 6), .ref (b + 7), .ref (b + 8), .ref (b + 9), .ref (b + 10), .ref (b + 11), .ref (b + 12), .ref (b + 13), .ref (b + 14), .ref (b + 15), .ref (b + 16), .ref (b + 17), .ref (b + 18), .ref (b + 19), .ref (b + 20), .ref (b + 21), .ref (b + 22), .ref (b + 23), .ref (b + 24), .ref (b + 25), .ref (b + 26), .ref (b + 27), .ref (b + 28), .ref (b + 29), .ref (b + 30)])) H183 := m185 0 (by decide)
        refine lv_goto (tgt := 141) C.1 C.2.1 d_M_heardFrame_85 (by decide) ?_
        refine lv_iload_n C.1 C.2.1 d_M_heardFrame_141 rfl (lv_at hl 2 rfl) ?_
        refine lv_if_ne (tgt := 153) C.1 C.2.1 d_M_heardFrame_142 (by decide) ?_ ?_
        · intro c186
          refine lv_aload_n C.1 C.2.1 d_M_heardFrame_153 rfl (lv_at hl 0 rfl) ?_
          refine lv_iload_n C.1 C.2.1 d_M_heardFrame_154 rfl (lv_at hl 1 rfl) ?_
          refine hq_callV (lo := lo) (As := [.int (nI j)]) (rest := []) C tb_good hml Y_M_133 (c_M_rest l D cI cZ cN cJ lo b hlo th nn (setA (setA A 5 (upd (A 5) j 127)) 8 (upd (A 8) j ((A 8 j) + 1))) j hj) k0 rfl (fun _ _ _ _ h => h) (fun U hU hW => by show hq_B D vwCl b 31 (mdC cI cZ b th nn (setA (setA A 5 (upd (A 5) j 127)) 8 (upd (A 8) j ((A 8 j) + 1)))) U.heap; rw [hU]; exact m185) hL hl.1 rfl rfl ⟨⟨Nat.le_of_ble_eq_true rfl, Nat.le_of_ble_eq_true rfl⟩, Nat.le_of_ble_eq_true rfl, Nat.le_of_ble_eq_true rfl⟩ (Nat.le_of_ble_eq_true rfl) d_M_heardFrame_155 (fun v H189 locs hp hL => ?_)
          obtain ⟨rfl, m187, S188⟩ := hp
          refine W.eq (g2 := F0 m 158 ls []) rfl ?_
          have k0 : va_at D vwCl (b, .inr (6, [.int (th), .int (nn), .ref (b + 1), .ref (b + 2), .ref (b + 3), .ref (b + 4), .ref (b + 5), .ref (b + 6), .ref (b + 7), .ref (b + 8), .ref (b + 9), .ref (b + 10), .ref (b + 11), .ref (b + 12), .ref (b + 13), .ref (b + 14), .ref (b + 15), .ref (b + 16), .ref (b + 17), .ref (b + 18), .ref (b + 19), .ref (b + 20), .ref (b + 21), .ref (b + 22), .ref (b + 23), .ref (b + 24), .ref (b + 25), .ref (b + 26), .ref (b + 27), .ref (b + 28), .ref (b + 29), .ref (b + 30)])) H189 := m187 0 (by decide)
          have hf : f_M_heardFrame A j x = (f_M_rest (setA (setA A 5 (upd (A 5) j 127)) 8 (upd (A 8) j ((A 8 j) + 1))) j) := by unfold f_M_heardFrame; rw [if_neg c42, if_pos c151, if_pos c160, if_neg c186]
          exact hq_vret C hret hlk (Nat.le_of_ble_eq_true rfl) (Nat.le_of_ble_eq_true rfl) hL ⟨rfl, by rw [hf]; exact m187, hq_Scall (hq_Sput (hq_Sput (hq_S0) u146 (by omega) (by omega)) u184 (by omega) (by omega)) S188 (by omega) (by omega)⟩ d_M_heardFrame_158
        · intro c186
          refine lv_aload_n C.1 C.2.1 d_M_heardFrame_145 rfl (lv_at hl 0 rfl) ?_
          refine lv_iload_n C.1 C.2.1 d_M_heardFrame_146 rfl (lv_at hl 1 rfl) ?_
          refine hq_callV (lo := lo) (As := [.int (nI j)]) (rest := []) C tb_good hml Y_M_137 (c_M_overload l D cI cZ cN cJ lo b hlo th nn (setA (setA A 5 (upd (A 5) j 127)) 8 (upd (A 8) j ((A 8 j) + 1))) j hj) k0 rfl (fun _ _ _ _ h => h) (fun U hU hW => by show hq_B D vwCl b 31 (mdC cI cZ b th nn (setA (setA A 5 (upd (A 5) j 127)) 8 (upd (A 8) j ((A 8 j) + 1)))) U.heap; rw [hU]; exact m185) hL hl.1 rfl rfl ⟨⟨Nat.le_of_ble_eq_true rfl, Nat.le_of_ble_eq_true rfl⟩, Nat.le_of_ble_eq_true rfl, Nat.le_of_ble_eq_true rfl⟩ (Nat.le_of_ble_eq_true rfl) d_M_heardFrame_147 (fun v H192 locs hp hL => ?_)
          obtain ⟨rfl, m190, S191⟩ := hp
          refine W.eq (g2 := F0 m 150 ls []) rfl ?_
          have k0 : va_at D vwCl (b, .inr (6, [.int (th), .int (nn), .ref (b + 1), .ref (b + 2), .ref (b + 3), .ref (b + 4), .ref (b + 5), .ref (b + 6), .ref (b + 7), .ref (b + 8), .ref (b + 9), .ref (b + 10), .ref (b + 11), .ref (b + 12), .ref (b + 13), .ref (b + 14), .ref (b + 15), .ref (b + 16), .ref (b + 17), .ref (b + 18), .ref (b + 19), .ref (b + 20), .ref (b + 21), .ref (b + 22), .ref (b + 23), .ref (b + 24), .ref (b + 25), .ref (b + 26), .ref (b + 27), .ref (b + 28), .ref (b + 29), .ref (b + 30)])) H192 := m190 0 (by decide)
          refine lv_goto (tgt := 158) C.1 C.2.1 d_M_heardFrame_150 (by decide) ?_
          have hf : f_M_heardFrame A j x = (f_M_overload (setA (setA A 5 (upd (A 5) j 127)) 8 (upd (A 8) j ((A 8 j) + 1))) j) := by unfold f_M_heardFrame; rw [if_neg c42, if_pos c151, if_pos c160, if_pos c186]
          exact hq_vret C hret hlk (Nat.le_of_ble_eq_true rfl) (Nat.le_of_ble_eq_true rfl) hL ⟨rfl, by rw [hf]; exact m190, hq_Scall (hq_Sput (hq_Sput (hq_S0) u146 (by omega) (by omega)) u184 (by omega) (by omega)) S191 (by omega) (by omega)⟩ d_M_heardFrame_158
set_option maxHeartbeats 4000000 in
set_option maxRecDepth 100000 in
theorem ok_M_heardFrame (A : Nat → Nat → Int32) (j : Nat) (hj : j < 4) (x : Int32) (ok : okA A) : okA (f_M_heardFrame A j x) := by
  unfold f_M_heardFrame
  by_cases c42 : (A 5 j) ≤ 127
  · rw [if_pos c42]
    by_cases c44 : (A 5 j) ≤ 0
    · rw [if_pos c44]
      by_cases c52 : ((A 21 j) &&& (A 6 j)) = (A 7 j)
      · rw [if_pos c52]
        by_cases c61 : (A 14 j) = 4
        · rw [if_pos c61]
          by_cases c87 : x = 0
          · rw [if_pos c87]
            exact (ok_M_overload (setA (setA A 5 (upd (A 5) j 0)) 8 (upd (A 8) j ((A 8 j) + 1))) j hj (okA_o (by decide) (okA_o (by decide) ok)))
          · rw [if_neg c87]
            exact (ok_M_rest (setA (setA A 5 (upd (A 5) j 0)) 8 (upd (A 8) j ((A 8 j) + 1))) j hj (okA_o (by decide) (okA_o (by decide) ok)))
        · rw [if_neg c61]
          by_cases c75 : x = 0
          · rw [if_pos c75]
            exact (ok_M_overload (setA (setA (setA A 5 (upd (A 5) j 0)) 15 (upd (A 15) ((4 * (nI j)) + (A 14 j)).toNatClampNeg (((A 21 j) + (2048 * (A 22 j))) + (8192 * (A 23 j))))) 14 (upd (A 14) j ((A 14 j) + 1))) j hj (okA_14 rfl (bx_up ok hj c61) (okA_o (by decide) (okA_o (by decide) ok))))
          · rw [if_neg c75]
            exact (ok_M_rest (setA (setA (setA A 5 (upd (A 5) j 0)) 15 (upd (A 15) ((4 * (nI j)) + (A 14 j)).toNatClampNeg (((A 21 j) + (2048 * (A 22 j))) + (8192 * (A 23 j))))) 14 (upd (A 14) j ((A 14 j) + 1))) j hj (okA_14 rfl (bx_up ok hj c61) (okA_o (by decide) (okA_o (by decide) ok))))
      · rw [if_neg c52]
        by_cases c53 : x = 0
        · rw [if_pos c53]
          exact (ok_M_overload (setA A 5 (upd (A 5) j 0)) j hj (okA_o (by decide) ok))
        · rw [if_neg c53]
          exact (ok_M_rest (setA A 5 (upd (A 5) j 0)) j hj (okA_o (by decide) ok))
    · rw [if_neg c44]
      by_cases c102 : ((A 21 j) &&& (A 6 j)) = (A 7 j)
      · rw [if_pos c102]
        by_cases c111 : (A 14 j) = 4
        · rw [if_pos c111]
          by_cases c137 : x = 0
          · rw [if_pos c137]
            exact (ok_M_overload (setA (setA A 5 (upd (A 5) j ((A 5 j) - 1))) 8 (upd (A 8) j ((A 8 j) + 1))) j hj (okA_o (by decide) (okA_o (by decide) ok)))
          · rw [if_neg c137]
            exact (ok_M_rest (setA (setA A 5 (upd (A 5) j ((A 5 j) - 1))) 8 (upd (A 8) j ((A 8 j) + 1))) j hj (okA_o (by decide) (okA_o (by decide) ok)))
        · rw [if_neg c111]
          by_cases c125 : x = 0
          · rw [if_pos c125]
            exact (ok_M_overload (setA (setA (setA A 5 (upd (A 5) j ((A 5 j) - 1))) 15 (upd (A 15) ((4 * (nI j)) + (A 14 j)).toNatClampNeg (((A 21 j) + (2048 * (A 22 j))) + (8192 * (A 23 j))))) 14 (upd (A 14) j ((A 14 j) + 1))) j hj (okA_14 rfl (bx_up ok hj c111) (okA_o (by decide) (okA_o (by decide) ok))))
          · rw [if_neg c125]
            exact (ok_M_rest (setA (setA (setA A 5 (upd (A 5) j ((A 5 j) - 1))) 15 (upd (A 15) ((4 * (nI j)) + (A 14 j)).toNatClampNeg (((A 21 j) + (2048 * (A 22 j))) + (8192 * (A 23 j))))) 14 (upd (A 14) j ((A 14 j) + 1))) j hj (okA_14 rfl (bx_up ok hj c111) (okA_o (by decide) (okA_o (by decide) ok))))
      · rw [if_neg c102]
        by_cases c103 : x = 0
        · rw [if_pos c103]
          exact (ok_M_overload (setA A 5 (upd (A 5) j ((A 5 j) - 1))) j hj (okA_o (by decide) ok))
        · rw [if_neg c103]
          exact (ok_M_rest (setA A 5 (upd (A 5) j ((A 5 j) - 1))) j hj (okA_o (by decide) ok))
  · rw [if_neg c42]
    by_cases c151 : ((A 21 j) &&& (A 6 j)) = (A 7 j)
    · rw [if_pos c151]
      by_cases c160 : (A 14 j) = 4
      · rw [if_pos c160]
        by_cases c186 : x = 0
        · rw [if_pos c186]
          exact (ok_M_overload (setA (setA A 5 (upd (A 5) j 127)) 8 (upd (A 8) j ((A 8 j) + 1))) j hj (okA_o (by decide) (okA_o (by decide) ok)))
        · rw [if_neg c186]
          exact (ok_M_rest (setA (setA A 5 (upd (A 5) j 127)) 8 (upd (A 8) j ((A 8 j) + 1))) j hj (okA_o (by decide) (okA_o (by decide) ok)))
      · rw [if_neg c160]
        by_cases c174 : x = 0
        · rw [if_pos c174]
          exact (ok_M_overload (setA (setA (setA A 5 (upd (A 5) j 127)) 15 (upd (A 15) ((4 * (nI j)) + (A 14 j)).toNatClampNeg (((A 21 j) + (2048 * (A 22 j))) + (8192 * (A 23 j))))) 14 (upd (A 14) j ((A 14 j) + 1))) j hj (okA_14 rfl (bx_up ok hj c160) (okA_o (by decide) (okA_o (by decide) ok))))
        · rw [if_neg c174]
          exact (ok_M_rest (setA (setA (setA A 5 (upd (A 5) j 127)) 15 (upd (A 15) ((4 * (nI j)) + (A 14 j)).toNatClampNeg (((A 21 j) + (2048 * (A 22 j))) + (8192 * (A 23 j))))) 14 (upd (A 14) j ((A 14 j) + 1))) j hj (okA_14 rfl (bx_up ok hj c160) (okA_o (by decide) (okA_o (by decide) ok))))
    · rw [if_neg c151]
      by_cases c152 : x = 0
      · rw [if_pos c152]
        exact (ok_M_overload (setA A 5 (upd (A 5) j 127)) j hj (okA_o (by decide) ok))
      · rw [if_neg c152]
        exact (ok_M_rest (setA A 5 (upd (A 5) j 127)) j hj (okA_o (by decide) ok))
def f_M_hear (A : Nat → Nat → Int32) (j : Nat) (x : Int32) : Nat → Nat → Int32 := if (A 16 j) = 0 then (if ((f_M_readCore A j x).2) ≤ 0 then (if (A 16 j) = 10 then ((f_M_heardFrame (f_M_readCore A j x).1 j x)) else ((f_M_readCore A j x).1)) else ((f_M_err (f_M_readCore A j x).1 j ((f_M_readCore A j x).2) 2))) else (if (A 16 j) = 3 then (if (A 20 j) = 0 then (if x = 0 then (if (A 16 j) = 2 then (if (A 16 j) = 10 then ((f_M_heardFrame (setA A 16 (upd (A 16) j ((A 16 j) + 1))) j x)) else ((setA A 16 (upd (A 16) j ((A 16 j) + 1))))) else (if 10 ≤ (A 16 j) then (if (A 16 j) = 10 then ((f_M_heardFrame (setA A 16 (upd (A 16) j ((A 16 j) + 1))) j x)) else ((setA A 16 (upd (A 16) j ((A 16 j) + 1))))) else ((f_M_err (setA A 16 (upd (A 16) j ((A 16 j) + 1))) j 4 2)))) else (if (A 16 j) = 10 then ((f_M_heardFrame (setA A 16 (upd (A 16) j ((A 16 j) + 1))) j x)) else ((setA A 16 (upd (A 16) j ((A 16 j) + 1)))))) else (if x = 0 then (if (A 16 j) = 2 then ((f_M_err (setA A 16 (upd (A 16) j ((A 16 j) + 1))) j 5 2)) else (if 10 ≤ (A 16 j) then ((f_M_err (setA A 16 (upd (A 16) j ((A 16 j) + 1))) j 5 2)) else ((f_M_err (setA A 16 (upd (A 16) j ((A 16 j) + 1))) j 5 2)))) else ((f_M_err (setA A 16 (upd (A 16) j ((A 16 j) + 1))) j 5 2)))) else (if x = 0 then (if (A 16 j) = 2 then (if (A 16 j) = 10 then ((f_M_heardFrame (setA A 16 (upd (A 16) j ((A 16 j) + 1))) j x)) else ((setA A 16 (upd (A 16) j ((A 16 j) + 1))))) else (if 10 ≤ (A 16 j) then (if (A 16 j) = 10 then ((f_M_heardFrame (setA A 16 (upd (A 16) j ((A 16 j) + 1))) j x)) else ((setA A 16 (upd (A 16) j ((A 16 j) + 1))))) else ((f_M_err (setA A 16 (upd (A 16) j ((A 16 j) + 1))) j 4 2)))) else (if (A 16 j) = 10 then ((f_M_heardFrame (setA A 16 (upd (A 16) j ((A 16 j) + 1))) j x)) else ((setA A 16 (upd (A 16) j ((A 16 j) + 1)))))))
set_option maxHeartbeats 4000000 in
set_option maxRecDepth 100000 in
theorem c_M_hear (l : Launch) (D : va_G) (cI cZ cN cJ : ClassId) (lo : Nat) (b : Nat) (hlo : lo ≤ b) (th nn : Int32) (A : Nat → Nat → Int32) (j : Nat) (hj : j < 4) (x : Int32) (ok : okA A) : hq_M l y_M_hear b_M_hear 7 none TB { frames := 3, cells := 0, slots := 0, locals := 66 } lo D vwCl (TY cI cZ cN cJ) [.ref (b), .int (nI j), .int (x)] (fun U => hq_B D vwCl b 31 (mdC cI cZ b th nn A) U.heap) (fun H v H' => v = none ∧ hq_B D vwCl b 31 (mdC cI cZ b th nn (f_M_hear A j x)) H' ∧ hq_S b 31 H H') := by
  refine hq_ofW (by decide) (Nat.le_of_ble_eq_true rfl) ?_
  intro p e s m below meth c ls C hml hret hlk hnm hl hP
  have hL : hq_L lo [] := hq_L0
  have hl : lv_has ls 7 [(0, .ref (b)), (1, .int (nI j)), (2, .int (x))] := hl
  have hM : hq_B D vwCl b 31 (mdC cI cZ b th nn A) s.heap := hP
  have k0 : va_at D vwCl (b, .inr (6, [.int (th), .int (nn), .ref (b + 1), .ref (b + 2), .ref (b + 3), .ref (b + 4), .ref (b + 5), .ref (b + 6), .ref (b + 7), .ref (b + 8), .ref (b + 9), .ref (b + 10), .ref (b + 11), .ref (b + 12), .ref (b + 13), .ref (b + 14), .ref (b + 15), .ref (b + 16), .ref (b + 17), .ref (b + 18), .ref (b + 19), .ref (b + 20), .ref (b + 21), .ref (b + 22), .ref (b + 23), .ref (b + 24), .ref (b + 25), .ref (b + 26), .ref (b + 27), .ref (b + 28), .ref (b + 29), .ref (b + 30)])) s.heap := hM 0 (by decide)
  refine lv_aload_n C.1 C.2.1 d_M_hear_0 rfl (lv_at hl 0 rfl) ?_
  refine hq_get (v := .ref (b + 17)) C f_M_59 k0 rfl d_M_hear_1 ?_
  refine lv_iload_n C.1 C.2.1 d_M_hear_4 rfl (lv_at hl 1 rfl) ?_
  have e41 : va_at D vwCl (b + 17, .inl (cI, 4, .inl (A 16))) _ := hM 17 (by decide)
  refine hq_iald C 0 rfl e41 (vp_in_nI hj (by decide)) d_M_hear_5 ?_
  rw [nI_clamp (show j < 2 ^ 31 by omega)]
  refine W.eq (g2 := F0 m 6 ls [.int (A 16 j)]) rfl ?_
  refine lv_istore_n C.1 C.2.1 d_M_hear_6 rfl hl (by decide) rfl (lv' := [(3, .int (A 16 j)), (0, .ref (b)), (1, .int (nI j)), (2, .int (x))]) (fun ls hl => ?_)
  refine lv_iconst (v := 0) C.1 C.2.1 d_M_hear_7 (by decide) ?_
  refine lv_istore C.1 C.2.1 d_M_hear_8 hl (by decide) rfl (lv' := [(4, .int (0)), (3, .int (A 16 j)), (0, .ref (b)), (1, .int (nI j)), (2, .int (x))]) (fun ls hl => ?_)
  refine lv_iload_n C.1 C.2.1 d_M_hear_10 rfl (lv_at hl 1 rfl) ?_
  refine lv_if_ne (tgt := 25) C.1 C.2.1 d_M_hear_11 (by decide) ?_ ?_
  · intro c42
    refine lv_iload_n C.1 C.2.1 d_M_hear_25 rfl (lv_at hl 1 rfl) ?_
    refine lv_iconst (v := 3) C.1 C.2.1 d_M_hear_26 (by decide) ?_
    refine lv_icmp_ne (tgt := 43) C.1 C.2.1 d_M_hear_27 (by decide) ?_ ?_
    · intro c43
      refine lv_iconst (v := 0) C.1 C.2.1 d_M_hear_43 (by decide) ?_
      refine lv_istore C.1 C.2.1 d_M_hear_44 hl (by decide) rfl (lv' := [(5, .int (0)), (4, .int (0)), (3, .int (A 16 j)), (0, .ref (b)), (1, .int (nI j)), (2, .int (x))]) (fun ls hl => ?_)
      refine lv_iload_n C.1 C.2.1 d_M_hear_46 rfl (lv_at hl 5 rfl) ?_
      refine lv_if_ne (tgt := 65) C.1 C.2.1 d_M_hear_47 (by decide) ?_ ?_
      · intro c44
        refine lv_iconst (v := 0) C.1 C.2.1 d_M_hear_65 (by decide) ?_
        refine lv_istore C.1 C.2.1 d_M_hear_66 hl (by decide) rfl (lv' := [(6, .int (0)), (5, .int (0)), (4, .int (0)), (3, .int (A 16 j)), (0, .ref (b)), (1, .int (nI j)), (2, .int (x))]) (fun ls hl => ?_)
        refine lv_iload C.1 C.2.1 d_M_hear_68 (lv_at hl 1 rfl) ?_
        refine lv_if_eq (tgt := 77) C.1 C.2.1 d_M_hear_70 (by decide) (fun _ => ?_) (fun hn => absurd (by decide) hn)
        refine lv_iload C.1 C.2.1 d_M_hear_77 (lv_at hl 0 rfl) ?_
        refine lv_if_eq (tgt := 86) C.1 C.2.1 d_M_hear_79 (by decide) (fun _ => ?_) (fun hn => absurd (by decide) hn)
        refine lv_iconst (v := 0) C.1 C.2.1 d_M_hear_86 (by decide) ?_
        refine lv_istore C.1 C.2.1 d_M_hear_87 hl (by decide) rfl (lv' := [(4, .int (0)), (6, .int (0)), (5, .int (0)), (3, .int (A 16 j)), (0, .ref (b)), (1, .int (nI j)), (2, .int (x))]) (fun ls hl => ?_)
        refine lv_aload_n C.1 C.2.1 d_M_hear_89 rfl (lv_at hl 4 rfl) ?_
        refine hq_get (v := .ref (b + 17)) C f_M_59 k0 rfl d_M_hear_90 ?_
        refine lv_iload_n C.1 C.2.1 d_M_hear_93 rfl (lv_at hl 5 rfl) ?_
        refine lv_dup2_11 C.1 C.2.1 d_M_hear_94 rfl rfl ?_
        have e45 : va_at D vwCl (b + 17, .inl (cI, 4, .inl (A 16))) _ := hM 17 (by decide)
        refine hq_iald C 0 rfl e45 (vp_in_nI hj (by decide)) d_M_hear_95 ?_
        rw [nI_clamp (show j < 2 ^ 31 by omega)]
        refine W.eq (g2 := F0 m 96 ls [.int (A 16 j), .int (nI j), .ref (b + 17)]) rfl ?_
        refine lv_iconst (v := 1) C.1 C.2.1 d_M_hear_96 (by decide) ?_
        refine lv_iadd C.1 C.2.1 d_M_hear_97 ?_
        have e46 : va_at D vwCl (b + 17, .inl (cI, 4, .inl (A 16))) _ := hM 17 (by decide)
        refine hq_iast (lo := lo) C 0 rfl e46 (vp_in_nI hj (by decide)) hL (by omega) d_M_hear_98 (fun H47 locs u48 hL => ?_)
        rw [nI_clamp (show j < 2 ^ 31 by omega)] at u48
        have m49 := md_set (k := 16) (f := upd (A 16) j ((A 16 j) + 1)) hM u48
        have k0 : va_at D vwCl (b, .inr (6, [.int (th), .int (nn), .ref (b + 1), .ref (b + 2), .ref (b + 3), .ref (b + 4), .ref (b + 5), .ref (b + 6), .ref (b + 7), .ref (b + 8), .ref (b + 9), .ref (b + 10), .ref (b + 11), .ref (b + 12), .ref (b + 13), .ref (b + 14), .ref (b + 15), .ref (b + 16), .ref (b + 17), .ref (b + 18), .ref (b + 19), .ref (b + 20), .ref (b + 21), .ref (b + 22), .ref (b + 23), .ref (b + 24), .ref (b + 25), .ref (b + 26), .ref (b + 27), .ref (b + 28), .ref (b + 29), .ref (b + 30)])) H47 := m49 0 (by decide)
        refine lv_iload C.1 C.2.1 d_M_hear_99 (lv_at hl 0 rfl) ?_
        refine lv_if_le (tgt := 115) C.1 C.2.1 d_M_hear_101 (by decide) (fun _ => ?_) (fun hn => absurd (by decide) hn)
        refine lv_iload_n C.1 C.2.1 d_M_hear_115 rfl (lv_at hl 3 rfl) ?_
        refine lv_bipush (v := 10) C.1 C.2.1 d_M_hear_116 (by decide) ?_
        refine lv_icmp_ne (tgt := 127) C.1 C.2.1 d_M_hear_118 (by decide) ?_ ?_
        · intro c50
          have hf : f_M_hear A j x = (setA A 16 (upd (A 16) j ((A 16 j) + 1))) := by unfold f_M_hear; rw [if_neg c42, if_neg c43, if_neg c44, if_neg c50]
          exact hq_vret C hret hlk (Nat.le_of_ble_eq_true rfl) (Nat.le_of_ble_eq_true rfl) hL ⟨rfl, by rw [hf]; exact m49, hq_Sput (hq_S0) u48 (by omega) (by omega)⟩ d_M_hear_127
        · intro c50
          refine lv_aload_n C.1 C.2.1 d_M_hear_121 rfl (lv_at hl 4 rfl) ?_
          refine lv_iload_n C.1 C.2.1 d_M_hear_122 rfl (lv_at hl 5 rfl) ?_
          refine lv_iload_n C.1 C.2.1 d_M_hear_123 rfl (lv_at hl 6 rfl) ?_
          refine hq_callV (lo := lo) (As := [.int (nI j), .int (x)]) (rest := []) C tb_good hml Y_M_154 (c_M_heardFrame l D cI cZ cN cJ lo b hlo th nn (setA A 16 (upd (A 16) j ((A 16 j) + 1))) j hj x (okA_o (by decide) ok)) k0 rfl (fun _ _ _ _ h => h) (fun U hU hW => by show hq_B D vwCl b 31 (mdC cI cZ b th nn (setA A 16 (upd (A 16) j ((A 16 j) + 1)))) U.heap; rw [hU]; exact m49) hL hl.1 rfl rfl ⟨⟨Nat.le_of_ble_eq_true rfl, Nat.le_of_ble_eq_true rfl⟩, Nat.le_of_ble_eq_true rfl, Nat.le_of_ble_eq_true rfl⟩ (Nat.le_of_ble_eq_true rfl) d_M_hear_124 (fun v H53 locs hp hL => ?_)
          obtain ⟨rfl, m51, S52⟩ := hp
          refine W.eq (g2 := F0 m 127 ls []) rfl ?_
          have k0 : va_at D vwCl (b, .inr (6, [.int (th), .int (nn), .ref (b + 1), .ref (b + 2), .ref (b + 3), .ref (b + 4), .ref (b + 5), .ref (b + 6), .ref (b + 7), .ref (b + 8), .ref (b + 9), .ref (b + 10), .ref (b + 11), .ref (b + 12), .ref (b + 13), .ref (b + 14), .ref (b + 15), .ref (b + 16), .ref (b + 17), .ref (b + 18), .ref (b + 19), .ref (b + 20), .ref (b + 21), .ref (b + 22), .ref (b + 23), .ref (b + 24), .ref (b + 25), .ref (b + 26), .ref (b + 27), .ref (b + 28), .ref (b + 29), .ref (b + 30)])) H53 := m51 0 (by decide)
          have hf : f_M_hear A j x = (f_M_heardFrame (setA A 16 (upd (A 16) j ((A 16 j) + 1))) j x) := by unfold f_M_hear; rw [if_neg c42, if_neg c43, if_neg c44, if_pos c50]
          exact hq_vret C hret hlk (Nat.le_of_ble_eq_true rfl) (Nat.le_of_ble_eq_true rfl) hL ⟨rfl, by rw [hf]; exact m51, hq_Scall (hq_Sput (hq_S0) u48 (by omega) (by omega)) S52 (by omega) (by omega)⟩ d_M_hear_127
      · intro c44
        refine lv_iload_n C.1 C.2.1 d_M_hear_50 rfl (lv_at hl 2 rfl) ?_
        refine lv_iconst (v := 2) C.1 C.2.1 d_M_hear_51 (by decide) ?_
        refine lv_icmp_eq (tgt := 65) C.1 C.2.1 d_M_hear_52 (by decide) ?_ ?_
        · intro c54
          refine lv_iconst (v := 0) C.1 C.2.1 d_M_hear_65 (by decide) ?_
          refine lv_istore C.1 C.2.1 d_M_hear_66 hl (by decide) rfl (lv' := [(6, .int (0)), (5, .int (0)), (4, .int (0)), (3, .int (A 16 j)), (0, .ref (b)), (1, .int (nI j)), (2, .int (x))]) (fun ls hl => ?_)
          refine lv_iload C.1 C.2.1 d_M_hear_68 (lv_at hl 1 rfl) ?_
          refine lv_if_eq (tgt := 77) C.1 C.2.1 d_M_hear_70 (by decide) (fun _ => ?_) (fun hn => absurd (by decide) hn)
          refine lv_iload C.1 C.2.1 d_M_hear_77 (lv_at hl 0 rfl) ?_
          refine lv_if_eq (tgt := 86) C.1 C.2.1 d_M_hear_79 (by decide) (fun _ => ?_) (fun hn => absurd (by decide) hn)
          refine lv_iconst (v := 0) C.1 C.2.1 d_M_hear_86 (by decide) ?_
          refine lv_istore C.1 C.2.1 d_M_hear_87 hl (by decide) rfl (lv' := [(4, .int (0)), (6, .int (0)), (5, .int (0)), (3, .int (A 16 j)), (0, .ref (b)), (1, .int (nI j)), (2, .int (x))]) (fun ls hl => ?_)
          refine lv_aload_n C.1 C.2.1 d_M_hear_89 rfl (lv_at hl 4 rfl) ?_
          refine hq_get (v := .ref (b + 17)) C f_M_59 k0 rfl d_M_hear_90 ?_
          refine lv_iload_n C.1 C.2.1 d_M_hear_93 rfl (lv_at hl 5 rfl) ?_
          refine lv_dup2_11 C.1 C.2.1 d_M_hear_94 rfl rfl ?_
          have e55 : va_at D vwCl (b + 17, .inl (cI, 4, .inl (A 16))) _ := hM 17 (by decide)
          refine hq_iald C 0 rfl e55 (vp_in_nI hj (by decide)) d_M_hear_95 ?_
          rw [nI_clamp (show j < 2 ^ 31 by omega)]
          refine W.eq (g2 := F0 m 96 ls [.int (A 16 j), .int (nI j), .ref (b + 17)]) rfl ?_
          refine lv_iconst (v := 1) C.1 C.2.1 d_M_hear_96 (by decide) ?_
          refine lv_iadd C.1 C.2.1 d_M_hear_97 ?_
          have e56 : va_at D vwCl (b + 17, .inl (cI, 4, .inl (A 16))) _ := hM 17 (by decide)
          refine hq_iast (lo := lo) C 0 rfl e56 (vp_in_nI hj (by decide)) hL (by omega) d_M_hear_98 (fun H57 locs u58 hL => ?_)
          rw [nI_clamp (show j < 2 ^ 31 by omega)] at u58
          have m59 := md_set (k := 16) (f := upd (A 16) j ((A 16 j) + 1)) hM u58
          have k0 : va_at D vwCl (b, .inr (6, [.int (th), .int (nn), .ref (b + 1), .ref (b + 2), .ref (b + 3), .ref (b + 4), .ref (b + 5), .ref (b + 6), .ref (b + 7), .ref (b + 8), .ref (b + 9), .ref (b + 10), .ref (b + 11), .ref (b + 12), .ref (b + 13), .ref (b + 14), .ref (b + 15), .ref (b + 16), .ref (b + 17), .ref (b + 18), .ref (b + 19), .ref (b + 20), .ref (b + 21), .ref (b + 22), .ref (b + 23), .ref (b + 24), .ref (b + 25), .ref (b + 26), .ref (b + 27), .ref (b + 28), .ref (b + 29), .ref (b + 30)])) H57 := m59 0 (by decide)
          refine lv_iload C.1 C.2.1 d_M_hear_99 (lv_at hl 0 rfl) ?_
          refine lv_if_le (tgt := 115) C.1 C.2.1 d_M_hear_101 (by decide) (fun _ => ?_) (fun hn => absurd (by decide) hn)
          refine lv_iload_n C.1 C.2.1 d_M_hear_115 rfl (lv_at hl 3 rfl) ?_
          refine lv_bipush (v := 10) C.1 C.2.1 d_M_hear_116 (by decide) ?_
          refine lv_icmp_ne (tgt := 127) C.1 C.2.1 d_M_hear_118 (by decide) ?_ ?_
          · intro c60
            have hf : f_M_hear A j x = (setA A 16 (upd (A 16) j ((A 16 j) + 1))) := by unfold f_M_hear; rw [if_neg c42, if_neg c43, if_pos c44, if_pos c54, if_neg c60]
            exact hq_vret C hret hlk (Nat.le_of_ble_eq_true rfl) (Nat.le_of_ble_eq_true rfl) hL ⟨rfl, by rw [hf]; exact m59, hq_Sput (hq_S0) u58 (by omega) (by omega)⟩ d_M_hear_127
          · intro c60
            refine lv_aload_n C.1 C.2.1 d_M_hear_121 rfl (lv_at hl 4 rfl) ?_
            refine lv_iload_n C.1 C.2.1 d_M_hear_122 rfl (lv_at hl 5 rfl) ?_
            refine lv_iload_n C.1 C.2.1 d_M_hear_123 rfl (lv_at hl 6 rfl) ?_
            refine hq_callV (lo := lo) (As := [.int (nI j), .int (x)]) (rest := []) C tb_good hml Y_M_154 (c_M_heardFrame l D cI cZ cN cJ lo b hlo th nn (setA A 16 (upd (A 16) j ((A 16 j) + 1))) j hj x (okA_o (by decide) ok)) k0 rfl (fun _ _ _ _ h => h) (fun U hU hW => by show hq_B D vwCl b 31 (mdC cI cZ b th nn (setA A 16 (upd (A 16) j ((A 16 j) + 1)))) U.heap; rw [hU]; exact m59) hL hl.1 rfl rfl ⟨⟨Nat.le_of_ble_eq_true rfl, Nat.le_of_ble_eq_true rfl⟩, Nat.le_of_ble_eq_true rfl, Nat.le_of_ble_eq_true rfl⟩ (Nat.le_of_ble_eq_true rfl) d_M_hear_124 (fun v H63 locs hp hL => ?_)
            obtain ⟨rfl, m61, S62⟩ := hp
            refine W.eq (g2 := F0 m 127 ls []) rfl ?_
            have k0 : va_at D vwCl (b, .inr (6, [.int (th), .int (nn), .ref (b + 1), .ref (b + 2), .ref (b + 3), .ref (b + 4), .ref (b + 5), .ref (b + 6), .ref (b + 7), .ref (b + 8), .ref (b + 9), .ref (b + 10), .ref (b + 11), .ref (b + 12), .ref (b + 13), .ref (b + 14), .ref (b + 15), .ref (b + 16), .ref (b + 17), .ref (b + 18), .ref (b + 19), .ref (b + 20), .ref (b + 21), .ref (b + 22), .ref (b + 23), .ref (b + 24), .ref (b + 25), .ref (b + 26), .ref (b + 27), .ref (b + 28), .ref (b + 29), .ref (b + 30)])) H63 := m61 0 (by decide)
            have hf : f_M_hear A j x = (f_M_heardFrame (setA A 16 (upd (A 16) j ((A 16 j) + 1))) j x) := by unfold f_M_hear; rw [if_neg c42, if_neg c43, if_pos c44, if_pos c54, if_pos c60]
            exact hq_vret C hret hlk (Nat.le_of_ble_eq_true rfl) (Nat.le_of_ble_eq_true rfl) hL ⟨rfl, by rw [hf]; exact m61, hq_Scall (hq_Sput (hq_S0) u58 (by omega) (by omega)) S62 (by omega) (by omega)⟩ d_M_hear_127
        · intro c54
          refine lv_iload_n C.1 C.2.1 d_M_hear_55 rfl (lv_at hl 2 rfl) ?_
          refine lv_bipush (v := 10) C.1 C.2.1 d_M_hear_56 (by decide) ?_
          refine lv_icmp_ge (tgt := 65) C.1 C.2.1 d_M_hear_58 (by decide) ?_ ?_
          · intro c64
            refine lv_iconst (v := 0) C.1 C.2.1 d_M_hear_65 (by decide) ?_
            refine lv_istore C.1 C.2.1 d_M_hear_66 hl (by decide) rfl (lv' := [(6, .int (0)), (5, .int (0)), (4, .int (0)), (3, .int (A 16 j)), (0, .ref (b)), (1, .int (nI j)), (2, .int (x))]) (fun ls hl => ?_)
            refine lv_iload C.1 C.2.1 d_M_hear_68 (lv_at hl 1 rfl) ?_
            refine lv_if_eq (tgt := 77) C.1 C.2.1 d_M_hear_70 (by decide) (fun _ => ?_) (fun hn => absurd (by decide) hn)
            refine lv_iload C.1 C.2.1 d_M_hear_77 (lv_at hl 0 rfl) ?_
            refine lv_if_eq (tgt := 86) C.1 C.2.1 d_M_hear_79 (by decide) (fun _ => ?_) (fun hn => absurd (by decide) hn)
            refine lv_iconst (v := 0) C.1 C.2.1 d_M_hear_86 (by decide) ?_
            refine lv_istore C.1 C.2.1 d_M_hear_87 hl (by decide) rfl (lv' := [(4, .int (0)), (6, .int (0)), (5, .int (0)), (3, .int (A 16 j)), (0, .ref (b)), (1, .int (nI j)), (2, .int (x))]) (fun ls hl => ?_)
            refine lv_aload_n C.1 C.2.1 d_M_hear_89 rfl (lv_at hl 4 rfl) ?_
            refine hq_get (v := .ref (b + 17)) C f_M_59 k0 rfl d_M_hear_90 ?_
            refine lv_iload_n C.1 C.2.1 d_M_hear_93 rfl (lv_at hl 5 rfl) ?_
            refine lv_dup2_11 C.1 C.2.1 d_M_hear_94 rfl rfl ?_
            have e65 : va_at D vwCl (b + 17, .inl (cI, 4, .inl (A 16))) _ := hM 17 (by decide)
            refine hq_iald C 0 rfl e65 (vp_in_nI hj (by decide)) d_M_hear_95 ?_
            rw [nI_clamp (show j < 2 ^ 31 by omega)]
            refine W.eq (g2 := F0 m 96 ls [.int (A 16 j), .int (nI j), .ref (b + 17)]) rfl ?_
            refine lv_iconst (v := 1) C.1 C.2.1 d_M_hear_96 (by decide) ?_
            refine lv_iadd C.1 C.2.1 d_M_hear_97 ?_
            have e66 : va_at D vwCl (b + 17, .inl (cI, 4, .inl (A 16))) _ := hM 17 (by decide)
            refine hq_iast (lo := lo) C 0 rfl e66 (vp_in_nI hj (by decide)) hL (by omega) d_M_hear_98 (fun H67 locs u68 hL => ?_)
            rw [nI_clamp (show j < 2 ^ 31 by omega)] at u68
            have m69 := md_set (k := 16) (f := upd (A 16) j ((A 16 j) + 1)) hM u68
            have k0 : va_at D vwCl (b, .inr (6, [.int (th), .int (nn), .ref (b + 1), .ref (b + 2), .ref (b + 3), .ref (b + 4), .ref (b + 5), .ref (b + 6), .ref (b + 7), .ref (b + 8), .ref (b + 9), .ref (b + 10), .ref (b + 11), .ref (b + 12), .ref (b + 13), .ref (b + 14), .ref (b + 15), .ref (b + 16), .ref (b + 17), .ref (b + 18), .ref (b + 19), .ref (b + 20), .ref (b + 21), .ref (b + 22), .ref (b + 23), .ref (b + 24), .ref (b + 25), .ref (b + 26), .ref (b + 27), .ref (b + 28), .ref (b + 29), .ref (b + 30)])) H67 := m69 0 (by decide)
            refine lv_iload C.1 C.2.1 d_M_hear_99 (lv_at hl 0 rfl) ?_
            refine lv_if_le (tgt := 115) C.1 C.2.1 d_M_hear_101 (by decide) (fun _ => ?_) (fun hn => absurd (by decide) hn)
            refine lv_iload_n C.1 C.2.1 d_M_hear_115 rfl (lv_at hl 3 rfl) ?_
            refine lv_bipush (v := 10) C.1 C.2.1 d_M_hear_116 (by decide) ?_
            refine lv_icmp_ne (tgt := 127) C.1 C.2.1 d_M_hear_118 (by decide) ?_ ?_
            · intro c70
              have hf : f_M_hear A j x = (setA A 16 (upd (A 16) j ((A 16 j) + 1))) := by unfold f_M_hear; rw [if_neg c42, if_neg c43, if_pos c44, if_neg c54, if_pos c64, if_neg c70]
              exact hq_vret C hret hlk (Nat.le_of_ble_eq_true rfl) (Nat.le_of_ble_eq_true rfl) hL ⟨rfl, by rw [hf]; exact m69, hq_Sput (hq_S0) u68 (by omega) (by omega)⟩ d_M_hear_127
            · intro c70
              refine lv_aload_n C.1 C.2.1 d_M_hear_121 rfl (lv_at hl 4 rfl) ?_
              refine lv_iload_n C.1 C.2.1 d_M_hear_122 rfl (lv_at hl 5 rfl) ?_
              refine lv_iload_n C.1 C.2.1 d_M_hear_123 rfl (lv_at hl 6 rfl) ?_
              refine hq_callV (lo := lo) (As := [.int (nI j), .int (x)]) (rest := []) C tb_good hml Y_M_154 (c_M_heardFrame l D cI cZ cN cJ lo b hlo th nn (setA A 16 (upd (A 16) j ((A 16 j) + 1))) j hj x (okA_o (by decide) ok)) k0 rfl (fun _ _ _ _ h => h) (fun U hU hW => by show hq_B D vwCl b 31 (mdC cI cZ b th nn (setA A 16 (upd (A 16) j ((A 16 j) + 1)))) U.heap; rw [hU]; exact m69) hL hl.1 rfl rfl ⟨⟨Nat.le_of_ble_eq_true rfl, Nat.le_of_ble_eq_true rfl⟩, Nat.le_of_ble_eq_true rfl, Nat.le_of_ble_eq_true rfl⟩ (Nat.le_of_ble_eq_true rfl) d_M_hear_124 (fun v H73 locs hp hL => ?_)
              obtain ⟨rfl, m71, S72⟩ := hp
              refine W.eq (g2 := F0 m 127 ls []) rfl ?_
              have k0 : va_at D vwCl (b, .inr (6, [.int (th), .int (nn), .ref (b + 1), .ref (b + 2), .ref (b + 3), .ref (b + 4), .ref (b + 5), .ref (b + 6), .ref (b + 7), .ref (b + 8), .ref (b + 9), .ref (b + 10), .ref (b + 11), .ref (b + 12), .ref (b + 13), .ref (b + 14), .ref (b + 15), .ref (b + 16), .ref (b + 17), .ref (b + 18), .ref (b + 19), .ref (b + 20), .ref (b + 21), .ref (b + 22), .ref (b + 23), .ref (b + 24), .ref (b + 25), .ref (b + 26), .ref (b + 27), .ref (b + 28), .ref (b + 29), .ref (b + 30)])) H73 := m71 0 (by decide)
              have hf : f_M_hear A j x = (f_M_heardFrame (setA A 16 (upd (A 16) j ((A 16 j) + 1))) j x) := by unfold f_M_hear; rw [if_neg c42, if_neg c43, if_pos c44, if_neg c54, if_pos c64, if_pos c70]
              exact hq_vret C hret hlk (Nat.le_of_ble_eq_true rfl) (Nat.le_of_ble_eq_true rfl) hL ⟨rfl, by rw [hf]; exact m71, hq_Scall (hq_Sput (hq_S0) u68 (by omega) (by omega)) S72 (by omega) (by omega)⟩ d_M_hear_127
          · intro c64
            refine lv_iconst (v := 1) C.1 C.2.1 d_M_hear_61 (by decide) ?_
            refine lv_goto (tgt := 66) C.1 C.2.1 d_M_hear_62 (by decide) ?_
            refine lv_istore C.1 C.2.1 d_M_hear_66 hl (by decide) rfl (lv' := [(6, .int (1)), (5, .int (0)), (4, .int (0)), (3, .int (A 16 j)), (0, .ref (b)), (1, .int (nI j)), (2, .int (x))]) (fun ls hl => ?_)
            refine lv_iload C.1 C.2.1 d_M_hear_68 (lv_at hl 1 rfl) ?_
            refine lv_if_eq (tgt := 77) C.1 C.2.1 d_M_hear_70 (by decide) (fun _ => ?_) (fun hn => absurd (by decide) hn)
            refine lv_iload C.1 C.2.1 d_M_hear_77 (lv_at hl 0 rfl) ?_
            refine lv_if_eq (tgt := 86) C.1 C.2.1 d_M_hear_79 (by decide) (fun hn => absurd hn (by decide)) (fun _ => ?_)
            refine lv_iconst (v := 4) C.1 C.2.1 d_M_hear_82 (by decide) ?_
            refine lv_goto (tgt := 87) C.1 C.2.1 d_M_hear_83 (by decide) ?_
            refine lv_istore C.1 C.2.1 d_M_hear_87 hl (by decide) rfl (lv' := [(4, .int (4)), (6, .int (1)), (5, .int (0)), (3, .int (A 16 j)), (0, .ref (b)), (1, .int (nI j)), (2, .int (x))]) (fun ls hl => ?_)
            refine lv_aload_n C.1 C.2.1 d_M_hear_89 rfl (lv_at hl 4 rfl) ?_
            refine hq_get (v := .ref (b + 17)) C f_M_59 k0 rfl d_M_hear_90 ?_
            refine lv_iload_n C.1 C.2.1 d_M_hear_93 rfl (lv_at hl 5 rfl) ?_
            refine lv_dup2_11 C.1 C.2.1 d_M_hear_94 rfl rfl ?_
            have e74 : va_at D vwCl (b + 17, .inl (cI, 4, .inl (A 16))) _ := hM 17 (by decide)
            refine hq_iald C 0 rfl e74 (vp_in_nI hj (by decide)) d_M_hear_95 ?_
            rw [nI_clamp (show j < 2 ^ 31 by omega)]
            refine W.eq (g2 := F0 m 96 ls [.int (A 16 j), .int (nI j), .ref (b + 17)]) rfl ?_
            refine lv_iconst (v := 1) C.1 C.2.1 d_M_hear_96 (by decide) ?_
            refine lv_iadd C.1 C.2.1 d_M_hear_97 ?_
            have e75 : va_at D vwCl (b + 17, .inl (cI, 4, .inl (A 16))) _ := hM 17 (by decide)
            refine hq_iast (lo := lo) C 0 rfl e75 (vp_in_nI hj (by decide)) hL (by omega) d_M_hear_98 (fun H76 locs u77 hL => ?_)
            rw [nI_clamp (show j < 2 ^ 31 by omega)] at u77
            have m78 := md_set (k := 16) (f := upd (A 16) j ((A 16 j) + 1)) hM u77
            have k0 : va_at D vwCl (b, .inr (6, [.int (th), .int (nn), .ref (b + 1), .ref (b + 2), .ref (b + 3), .ref (b + 4), .ref (b + 5), .ref (b + 6), .ref (b + 7), .ref (b + 8), .ref (b + 9), .ref (b + 10), .ref (b + 11), .ref (b + 12), .ref (b + 13), .ref (b + 14), .ref (b + 15), .ref (b + 16), .ref (b + 17), .ref (b + 18), .ref (b + 19), .ref (b + 20), .ref (b + 21), .ref (b + 22), .ref (b + 23), .ref (b + 24), .ref (b + 25), .ref (b + 26), .ref (b + 27), .ref (b + 28), .ref (b + 29), .ref (b + 30)])) H76 := m78 0 (by decide)
            refine lv_iload C.1 C.2.1 d_M_hear_99 (lv_at hl 0 rfl) ?_
            refine lv_if_le (tgt := 115) C.1 C.2.1 d_M_hear_101 (by decide) (fun hn => absurd hn (by decide)) (fun _ => ?_)
            refine lv_aload_n C.1 C.2.1 d_M_hear_104 rfl (lv_at hl 4 rfl) ?_
            refine lv_iload_n C.1 C.2.1 d_M_hear_105 rfl (lv_at hl 5 rfl) ?_
            refine lv_iload C.1 C.2.1 d_M_hear_106 (lv_at hl 0 rfl) ?_
            refine lv_iconst (v := 2) C.1 C.2.1 d_M_hear_108 (by decide) ?_
            refine hq_callV (lo := lo) (As := [.int (nI j), .int (4), .int (2)]) (rest := []) C tb_good hml Y_M_143 (c_M_err l D cI cZ cN cJ lo b hlo th nn (setA A 16 (upd (A 16) j ((A 16 j) + 1))) j hj 4 2 (show vp_in (nI 4) 8 from vp_in_nI (by decide) (by decide))) k0 rfl (fun _ _ _ _ h => h) (fun U hU hW => by show hq_B D vwCl b 31 (mdC cI cZ b th nn (setA A 16 (upd (A 16) j ((A 16 j) + 1)))) U.heap; rw [hU]; exact m78) hL hl.1 rfl rfl ⟨⟨Nat.le_of_ble_eq_true rfl, Nat.le_of_ble_eq_true rfl⟩, Nat.le_of_ble_eq_true rfl, Nat.le_of_ble_eq_true rfl⟩ (Nat.le_of_ble_eq_true rfl) d_M_hear_109 (fun v H81 locs hp hL => ?_)
            obtain ⟨rfl, m79, S80⟩ := hp
            refine W.eq (g2 := F0 m 112 ls []) rfl ?_
            have k0 : va_at D vwCl (b, .inr (6, [.int (th), .int (nn), .ref (b + 1), .ref (b + 2), .ref (b + 3), .ref (b + 4), .ref (b + 5), .ref (b + 6), .ref (b + 7), .ref (b + 8), .ref (b + 9), .ref (b + 10), .ref (b + 11), .ref (b + 12), .ref (b + 13), .ref (b + 14), .ref (b + 15), .ref (b + 16), .ref (b + 17), .ref (b + 18), .ref (b + 19), .ref (b + 20), .ref (b + 21), .ref (b + 22), .ref (b + 23), .ref (b + 24), .ref (b + 25), .ref (b + 26), .ref (b + 27), .ref (b + 28), .ref (b + 29), .ref (b + 30)])) H81 := m79 0 (by decide)
            refine lv_goto (tgt := 127) C.1 C.2.1 d_M_hear_112 (by decide) ?_
            have hf : f_M_hear A j x = (f_M_err (setA A 16 (upd (A 16) j ((A 16 j) + 1))) j 4 2) := by unfold f_M_hear; rw [if_neg c42, if_neg c43, if_pos c44, if_neg c54, if_neg c64]
            exact hq_vret C hret hlk (Nat.le_of_ble_eq_true rfl) (Nat.le_of_ble_eq_true rfl) hL ⟨rfl, by rw [hf]; exact m79, hq_Scall (hq_Sput (hq_S0) u77 (by omega) (by omega)) S80 (by omega) (by omega)⟩ d_M_hear_127
    · intro c43
      refine lv_aload_n C.1 C.2.1 d_M_hear_30 rfl (lv_at hl 2 rfl) ?_
      refine hq_get (v := .ref (b + 21)) C f_M_71 k0 rfl d_M_hear_31 ?_
      refine lv_iload_n C.1 C.2.1 d_M_hear_34 rfl (lv_at hl 3 rfl) ?_
      have e82 : va_at D vwCl (b + 21, .inl (cI, 4, .inl (A 20))) _ := hM 21 (by decide)
      refine hq_iald C 0 rfl e82 (vp_in_nI hj (by decide)) d_M_hear_35 ?_
      rw [nI_clamp (show j < 2 ^ 31 by omega)]
      refine W.eq (g2 := F0 m 36 ls [.int (A 20 j)]) rfl ?_
      refine lv_if_eq (tgt := 43) C.1 C.2.1 d_M_hear_36 (by decide) ?_ ?_
      · intro c83
        refine lv_iconst (v := 0) C.1 C.2.1 d_M_hear_43 (by decide) ?_
        refine lv_istore C.1 C.2.1 d_M_hear_44 hl (by decide) rfl (lv' := [(5, .int (0)), (4, .int (0)), (3, .int (A 16 j)), (0, .ref (b)), (1, .int (nI j)), (2, .int (x))]) (fun ls hl => ?_)
        refine lv_iload_n C.1 C.2.1 d_M_hear_46 rfl (lv_at hl 5 rfl) ?_
        refine lv_if_ne (tgt := 65) C.1 C.2.1 d_M_hear_47 (by decide) ?_ ?_
        · intro c84
          refine lv_iconst (v := 0) C.1 C.2.1 d_M_hear_65 (by decide) ?_
          refine lv_istore C.1 C.2.1 d_M_hear_66 hl (by decide) rfl (lv' := [(6, .int (0)), (5, .int (0)), (4, .int (0)), (3, .int (A 16 j)), (0, .ref (b)), (1, .int (nI j)), (2, .int (x))]) (fun ls hl => ?_)
          refine lv_iload C.1 C.2.1 d_M_hear_68 (lv_at hl 1 rfl) ?_
          refine lv_if_eq (tgt := 77) C.1 C.2.1 d_M_hear_70 (by decide) (fun _ => ?_) (fun hn => absurd (by decide) hn)
          refine lv_iload C.1 C.2.1 d_M_hear_77 (lv_at hl 0 rfl) ?_
          refine lv_if_eq (tgt := 86) C.1 C.2.1 d_M_hear_79 (by decide) (fun _ => ?_) (fun hn => absurd (by decide) hn)
          refine lv_iconst (v := 0) C.1 C.2.1 d_M_hear_86 (by decide) ?_
          refine lv_istore C.1 C.2.1 d_M_hear_87 hl (by decide) rfl (lv' := [(4, .int (0)), (6, .int (0)), (5, .int (0)), (3, .int (A 16 j)), (0, .ref (b)), (1, .int (nI j)), (2, .int (x))]) (fun ls hl => ?_)
          refine lv_aload_n C.1 C.2.1 d_M_hear_89 rfl (lv_at hl 4 rfl) ?_
          refine hq_get (v := .ref (b + 17)) C f_M_59 k0 rfl d_M_hear_90 ?_
          refine lv_iload_n C.1 C.2.1 d_M_hear_93 rfl (lv_at hl 5 rfl) ?_
          refine lv_dup2_11 C.1 C.2.1 d_M_hear_94 rfl rfl ?_
          have e85 : va_at D vwCl (b + 17, .inl (cI, 4, .inl (A 16))) _ := hM 17 (by decide)
          refine hq_iald C 0 rfl e85 (vp_in_nI hj (by decide)) d_M_hear_95 ?_
          rw [nI_clamp (show j < 2 ^ 31 by omega)]
          refine W.eq (g2 := F0 m 96 ls [.int (A 16 j), .int (nI j), .ref (b + 17)]) rfl ?_
          refine lv_iconst (v := 1) C.1 C.2.1 d_M_hear_96 (by decide) ?_
          refine lv_iadd C.1 C.2.1 d_M_hear_97 ?_
          have e86 : va_at D vwCl (b + 17, .inl (cI, 4, .inl (A 16))) _ := hM 17 (by decide)
          refine hq_iast (lo := lo) C 0 rfl e86 (vp_in_nI hj (by decide)) hL (by omega) d_M_hear_98 (fun H87 locs u88 hL => ?_)
          rw [nI_clamp (show j < 2 ^ 31 by omega)] at u88
          have m89 := md_set (k := 16) (f := upd (A 16) j ((A 16 j) + 1)) hM u88
          have k0 : va_at D vwCl (b, .inr (6, [.int (th), .int (nn), .ref (b + 1), .ref (b + 2), .ref (b + 3), .ref (b + 4), .ref (b + 5), .ref (b + 6), .ref (b + 7), .ref (b + 8), .ref (b + 9), .ref (b + 10), .ref (b + 11), .ref (b + 12), .ref (b + 13), .ref (b + 14), .ref (b + 15), .ref (b + 16), .ref (b + 17), .ref (b + 18), .ref (b + 19), .ref (b + 20), .ref (b + 21), .ref (b + 22), .ref (b + 23), .ref (b + 24), .ref (b + 25), .ref (b + 26), .ref (b + 27), .ref (b + 28), .ref (b + 29), .ref (b + 30)])) H87 := m89 0 (by decide)
          refine lv_iload C.1 C.2.1 d_M_hear_99 (lv_at hl 0 rfl) ?_
          refine lv_if_le (tgt := 115) C.1 C.2.1 d_M_hear_101 (by decide) (fun _ => ?_) (fun hn => absurd (by decide) hn)
          refine lv_iload_n C.1 C.2.1 d_M_hear_115 rfl (lv_at hl 3 rfl) ?_
          refine lv_bipush (v := 10) C.1 C.2.1 d_M_hear_116 (by decide) ?_
          refine lv_icmp_ne (tgt := 127) C.1 C.2.1 d_M_hear_118 (by decide) ?_ ?_
          · intro c90
            have hf : f_M_hear A j x = (setA A 16 (upd (A 16) j ((A 16 j) + 1))) := by unfold f_M_hear; rw [if_neg c42, if_pos c43, if_pos c83, if_neg c84, if_neg c90]
            exact hq_vret C hret hlk (Nat.le_of_ble_eq_true rfl) (Nat.le_of_ble_eq_true rfl) hL ⟨rfl, by rw [hf]; exact m89, hq_Sput (hq_S0) u88 (by omega) (by omega)⟩ d_M_hear_127
          · intro c90
            refine lv_aload_n C.1 C.2.1 d_M_hear_121 rfl (lv_at hl 4 rfl) ?_
            refine lv_iload_n C.1 C.2.1 d_M_hear_122 rfl (lv_at hl 5 rfl) ?_
            refine lv_iload_n C.1 C.2.1 d_M_hear_123 rfl (lv_at hl 6 rfl) ?_
            refine hq_callV (lo := lo) (As := [.int (nI j), .int (x)]) (rest := []) C tb_good hml Y_M_154 (c_M_heardFrame l D cI cZ cN cJ lo b hlo th nn (setA A 16 (upd (A 16) j ((A 16 j) + 1))) j hj x (okA_o (by decide) ok)) k0 rfl (fun _ _ _ _ h => h) (fun U hU hW => by show hq_B D vwCl b 31 (mdC cI cZ b th nn (setA A 16 (upd (A 16) j ((A 16 j) + 1)))) U.heap; rw [hU]; exact m89) hL hl.1 rfl rfl ⟨⟨Nat.le_of_ble_eq_true rfl, Nat.le_of_ble_eq_true rfl⟩, Nat.le_of_ble_eq_true rfl, Nat.le_of_ble_eq_true rfl⟩ (Nat.le_of_ble_eq_true rfl) d_M_hear_124 (fun v H93 locs hp hL => ?_)
            obtain ⟨rfl, m91, S92⟩ := hp
            refine W.eq (g2 := F0 m 127 ls []) rfl ?_
            have k0 : va_at D vwCl (b, .inr (6, [.int (th), .int (nn), .ref (b + 1), .ref (b + 2), .ref (b + 3), .ref (b + 4), .ref (b + 5), .ref (b + 6), .ref (b + 7), .ref (b + 8), .ref (b + 9), .ref (b + 10), .ref (b + 11), .ref (b + 12), .ref (b + 13), .ref (b + 14), .ref (b + 15), .ref (b + 16), .ref (b + 17), .ref (b + 18), .ref (b + 19), .ref (b + 20), .ref (b + 21), .ref (b + 22), .ref (b + 23), .ref (b + 24), .ref (b + 25), .ref (b + 26), .ref (b + 27), .ref (b + 28), .ref (b + 29), .ref (b + 30)])) H93 := m91 0 (by decide)
            have hf : f_M_hear A j x = (f_M_heardFrame (setA A 16 (upd (A 16) j ((A 16 j) + 1))) j x) := by unfold f_M_hear; rw [if_neg c42, if_pos c43, if_pos c83, if_neg c84, if_pos c90]
            exact hq_vret C hret hlk (Nat.le_of_ble_eq_true rfl) (Nat.le_of_ble_eq_true rfl) hL ⟨rfl, by rw [hf]; exact m91, hq_Scall (hq_Sput (hq_S0) u88 (by omega) (by omega)) S92 (by omega) (by omega)⟩ d_M_hear_127
        · intro c84
          refine lv_iload_n C.1 C.2.1 d_M_hear_50 rfl (lv_at hl 2 rfl) ?_
          refine lv_iconst (v := 2) C.1 C.2.1 d_M_hear_51 (by decide) ?_
          refine lv_icmp_eq (tgt := 65) C.1 C.2.1 d_M_hear_52 (by decide) ?_ ?_
          · intro c94
            refine lv_iconst (v := 0) C.1 C.2.1 d_M_hear_65 (by decide) ?_
            refine lv_istore C.1 C.2.1 d_M_hear_66 hl (by decide) rfl (lv' := [(6, .int (0)), (5, .int (0)), (4, .int (0)), (3, .int (A 16 j)), (0, .ref (b)), (1, .int (nI j)), (2, .int (x))]) (fun ls hl => ?_)
            refine lv_iload C.1 C.2.1 d_M_hear_68 (lv_at hl 1 rfl) ?_
            refine lv_if_eq (tgt := 77) C.1 C.2.1 d_M_hear_70 (by decide) (fun _ => ?_) (fun hn => absurd (by decide) hn)
            refine lv_iload C.1 C.2.1 d_M_hear_77 (lv_at hl 0 rfl) ?_
            refine lv_if_eq (tgt := 86) C.1 C.2.1 d_M_hear_79 (by decide) (fun _ => ?_) (fun hn => absurd (by decide) hn)
            refine lv_iconst (v := 0) C.1 C.2.1 d_M_hear_86 (by decide) ?_
            refine lv_istore C.1 C.2.1 d_M_hear_87 hl (by decide) rfl (lv' := [(4, .int (0)), (6, .int (0)), (5, .int (0)), (3, .int (A 16 j)), (0, .ref (b)), (1, .int (nI j)), (2, .int (x))]) (fun ls hl => ?_)
            refine lv_aload_n C.1 C.2.1 d_M_hear_89 rfl (lv_at hl 4 rfl) ?_
            refine hq_get (v := .ref (b + 17)) C f_M_59 k0 rfl d_M_hear_90 ?_
            refine lv_iload_n C.1 C.2.1 d_M_hear_93 rfl (lv_at hl 5 rfl) ?_
            refine lv_dup2_11 C.1 C.2.1 d_M_hear_94 rfl rfl ?_
            have e95 : va_at D vwCl (b + 17, .inl (cI, 4, .inl (A 16))) _ := hM 17 (by decide)
            refine hq_iald C 0 rfl e95 (vp_in_nI hj (by decide)) d_M_hear_95 ?_
            rw [nI_clamp (show j < 2 ^ 31 by omega)]
            refine W.eq (g2 := F0 m 96 ls [.int (A 16 j), .int (nI j), .ref (b + 17)]) rfl ?_
            refine lv_iconst (v := 1) C.1 C.2.1 d_M_hear_96 (by decide) ?_
            refine lv_iadd C.1 C.2.1 d_M_hear_97 ?_
            have e96 : va_at D vwCl (b + 17, .inl (cI, 4, .inl (A 16))) _ := hM 17 (by decide)
            refine hq_iast (lo := lo) C 0 rfl e96 (vp_in_nI hj (by decide)) hL (by omega) d_M_hear_98 (fun H97 locs u98 hL => ?_)
            rw [nI_clamp (show j < 2 ^ 31 by omega)] at u98
            have m99 := md_set (k := 16) (f := upd (A 16) j ((A 16 j) + 1)) hM u98
            have k0 : va_at D vwCl (b, .inr (6, [.int (th), .int (nn), .ref (b + 1), .ref (b + 2), .ref (b + 3), .ref (b + 4), .ref (b + 5), .ref (b + 6), .ref (b + 7), .ref (b + 8), .ref (b + 9), .ref (b + 10), .ref (b + 11), .ref (b + 12), .ref (b + 13), .ref (b + 14), .ref (b + 15), .ref (b + 16), .ref (b + 17), .ref (b + 18), .ref (b + 19), .ref (b + 20), .ref (b + 21), .ref (b + 22), .ref (b + 23), .ref (b + 24), .ref (b + 25), .ref (b + 26), .ref (b + 27), .ref (b + 28), .ref (b + 29), .ref (b + 30)])) H97 := m99 0 (by decide)
            refine lv_iload C.1 C.2.1 d_M_hear_99 (lv_at hl 0 rfl) ?_
            refine lv_if_le (tgt := 115) C.1 C.2.1 d_M_hear_101 (by decide) (fun _ => ?_) (fun hn => absurd (by decide) hn)
            refine lv_iload_n C.1 C.2.1 d_M_hear_115 rfl (lv_at hl 3 rfl) ?_
            refine lv_bipush (v := 10) C.1 C.2.1 d_M_hear_116 (by decide) ?_
            refine lv_icmp_ne (tgt := 127) C.1 C.2.1 d_M_hear_118 (by decide) ?_ ?_
            · intro c100
              have hf : f_M_hear A j x = (setA A 16 (upd (A 16) j ((A 16 j) + 1))) := by unfold f_M_hear; rw [if_neg c42, if_pos c43, if_pos c83, if_pos c84, if_pos c94, if_neg c100]
              exact hq_vret C hret hlk (Nat.le_of_ble_eq_true rfl) (Nat.le_of_ble_eq_true rfl) hL ⟨rfl, by rw [hf]; exact m99, hq_Sput (hq_S0) u98 (by omega) (by omega)⟩ d_M_hear_127
            · intro c100
              refine lv_aload_n C.1 C.2.1 d_M_hear_121 rfl (lv_at hl 4 rfl) ?_
              refine lv_iload_n C.1 C.2.1 d_M_hear_122 rfl (lv_at hl 5 rfl) ?_
              refine lv_iload_n C.1 C.2.1 d_M_hear_123 rfl (lv_at hl 6 rfl) ?_
              refine hq_callV (lo := lo) (As := [.int (nI j), .int (x)]) (rest := []) C tb_good hml Y_M_154 (c_M_heardFrame l D cI cZ cN cJ lo b hlo th nn (setA A 16 (upd (A 16) j ((A 16 j) + 1))) j hj x (okA_o (by decide) ok)) k0 rfl (fun _ _ _ _ h => h) (fun U hU hW => by show hq_B D vwCl b 31 (mdC cI cZ b th nn (setA A 16 (upd (A 16) j ((A 16 j) + 1)))) U.heap; rw [hU]; exact m99) hL hl.1 rfl rfl ⟨⟨Nat.le_of_ble_eq_true rfl, Nat.le_of_ble_eq_true rfl⟩, Nat.le_of_ble_eq_true rfl, Nat.le_of_ble_eq_true rfl⟩ (Nat.le_of_ble_eq_true rfl) d_M_hear_124 (fun v H103 locs hp hL => ?_)
              obtain ⟨rfl, m101, S102⟩ := hp
              refine W.eq (g2 := F0 m 127 ls []) rfl ?_
              have k0 : va_at D vwCl (b, .inr (6, [.int (th), .int (nn), .ref (b + 1), .ref (b + 2), .ref (b + 3), .ref (b + 4), .ref (b + 5), .ref (b + 6), .ref (b + 7), .ref (b + 8), .ref (b + 9), .ref (b + 10), .ref (b + 11), .ref (b + 12), .ref (b + 13), .ref (b + 14), .ref (b + 15), .ref (b + 16), .ref (b + 17), .ref (b + 18), .ref (b + 19), .ref (b + 20), .ref (b + 21), .ref (b + 22), .ref (b + 23), .ref (b + 24), .ref (b + 25), .ref (b + 26), .ref (b + 27), .ref (b + 28), .ref (b + 29), .ref (b + 30)])) H103 := m101 0 (by decide)
              have hf : f_M_hear A j x = (f_M_heardFrame (setA A 16 (upd (A 16) j ((A 16 j) + 1))) j x) := by unfold f_M_hear; rw [if_neg c42, if_pos c43, if_pos c83, if_pos c84, if_pos c94, if_pos c100]
              exact hq_vret C hret hlk (Nat.le_of_ble_eq_true rfl) (Nat.le_of_ble_eq_true rfl) hL ⟨rfl, by rw [hf]; exact m101, hq_Scall (hq_Sput (hq_S0) u98 (by omega) (by omega)) S102 (by omega) (by omega)⟩ d_M_hear_127
          · intro c94
            refine lv_iload_n C.1 C.2.1 d_M_hear_55 rfl (lv_at hl 2 rfl) ?_
            refine lv_bipush (v := 10) C.1 C.2.1 d_M_hear_56 (by decide) ?_
            refine lv_icmp_ge (tgt := 65) C.1 C.2.1 d_M_hear_58 (by decide) ?_ ?_
            · intro c104
              refine lv_iconst (v := 0) C.1 C.2.1 d_M_hear_65 (by decide) ?_
              refine lv_istore C.1 C.2.1 d_M_hear_66 hl (by decide) rfl (lv' := [(6, .int (0)), (5, .int (0)), (4, .int (0)), (3, .int (A 16 j)), (0, .ref (b)), (1, .int (nI j)), (2, .int (x))]) (fun ls hl => ?_)
              refine lv_iload C.1 C.2.1 d_M_hear_68 (lv_at hl 1 rfl) ?_
              refine lv_if_eq (tgt := 77) C.1 C.2.1 d_M_hear_70 (by decide) (fun _ => ?_) (fun hn => absurd (by decide) hn)
              refine lv_iload C.1 C.2.1 d_M_hear_77 (lv_at hl 0 rfl) ?_
              refine lv_if_eq (tgt := 86) C.1 C.2.1 d_M_hear_79 (by decide) (fun _ => ?_) (fun hn => absurd (by decide) hn)
              refine lv_iconst (v := 0) C.1 C.2.1 d_M_hear_86 (by decide) ?_
              refine lv_istore C.1 C.2.1 d_M_hear_87 hl (by decide) rfl (lv' := [(4, .int (0)), (6, .int (0)), (5, .int (0)), (3, .int (A 16 j)), (0, .ref (b)), (1, .int (nI j)), (2, .int (x))]) (fun ls hl => ?_)
              refine lv_aload_n C.1 C.2.1 d_M_hear_89 rfl (lv_at hl 4 rfl) ?_
              refine hq_get (v := .ref (b + 17)) C f_M_59 k0 rfl d_M_hear_90 ?_
              refine lv_iload_n C.1 C.2.1 d_M_hear_93 rfl (lv_at hl 5 rfl) ?_
              refine lv_dup2_11 C.1 C.2.1 d_M_hear_94 rfl rfl ?_
              have e105 : va_at D vwCl (b + 17, .inl (cI, 4, .inl (A 16))) _ := hM 17 (by decide)
              refine hq_iald C 0 rfl e105 (vp_in_nI hj (by decide)) d_M_hear_95 ?_
              rw [nI_clamp (show j < 2 ^ 31 by omega)]
              refine W.eq (g2 := F0 m 96 ls [.int (A 16 j), .int (nI j), .ref (b + 17)]) rfl ?_
              refine lv_iconst (v := 1) C.1 C.2.1 d_M_hear_96 (by decide) ?_
              refine lv_iadd C.1 C.2.1 d_M_hear_97 ?_
              have e106 : va_at D vwCl (b + 17, .inl (cI, 4, .inl (A 16))) _ := hM 17 (by decide)
              refine hq_iast (lo := lo) C 0 rfl e106 (vp_in_nI hj (by decide)) hL (by omega) d_M_hear_98 (fun H107 locs u108 hL => ?_)
              rw [nI_clamp (show j < 2 ^ 31 by omega)] at u108
              have m109 := md_set (k := 16) (f := upd (A 16) j ((A 16 j) + 1)) hM u108
              have k0 : va_at D vwCl (b, .inr (6, [.int (th), .int (nn), .ref (b + 1), .ref (b + 2), .ref (b + 3), .ref (b + 4), .ref (b + 5), .ref (b + 6), .ref (b + 7), .ref (b + 8), .ref (b + 9), .ref (b + 10), .ref (b + 11), .ref (b + 12), .ref (b + 13), .ref (b + 14), .ref (b + 15), .ref (b + 16), .ref (b + 17), .ref (b + 18), .ref (b + 19), .ref (b + 20), .ref (b + 21), .ref (b + 22), .ref (b + 23), .ref (b + 24), .ref (b + 25), .ref (b + 26), .ref (b + 27), .ref (b + 28), .ref (b + 29), .ref (b + 30)])) H107 := m109 0 (by decide)
              refine lv_iload C.1 C.2.1 d_M_hear_99 (lv_at hl 0 rfl) ?_
              refine lv_if_le (tgt := 115) C.1 C.2.1 d_M_hear_101 (by decide) (fun _ => ?_) (fun hn => absurd (by decide) hn)
              refine lv_iload_n C.1 C.2.1 d_M_hear_115 rfl (lv_at hl 3 rfl) ?_
              refine lv_bipush (v := 10) C.1 C.2.1 d_M_hear_116 (by decide) ?_
              refine lv_icmp_ne (tgt := 127) C.1 C.2.1 d_M_hear_118 (by decide) ?_ ?_
              · intro c110
                have hf : f_M_hear A j x = (setA A 16 (upd (A 16) j ((A 16 j) + 1))) := by unfold f_M_hear; rw [if_neg c42, if_pos c43, if_pos c83, if_pos c84, if_neg c94, if_pos c104, if_neg c110]
                exact hq_vret C hret hlk (Nat.le_of_ble_eq_true rfl) (Nat.le_of_ble_eq_true rfl) hL ⟨rfl, by rw [hf]; exact m109, hq_Sput (hq_S0) u108 (by omega) (by omega)⟩ d_M_hear_127
              · intro c110
                refine lv_aload_n C.1 C.2.1 d_M_hear_121 rfl (lv_at hl 4 rfl) ?_
                refine lv_iload_n C.1 C.2.1 d_M_hear_122 rfl (lv_at hl 5 rfl) ?_
                refine lv_iload_n C.1 C.2.1 d_M_hear_123 rfl (lv_at hl 6 rfl) ?_
                refine hq_callV (lo := lo) (As := [.int (nI j), .int (x)]) (rest := []) C tb_good hml Y_M_154 (c_M_heardFrame l D cI cZ cN cJ lo b hlo th nn (setA A 16 (upd (A 16) j ((A 16 j) + 1))) j hj x (okA_o (by decide) ok)) k0 rfl (fun _ _ _ _ h => h) (fun U hU hW => by show hq_B D vwCl b 31 (mdC cI cZ b th nn (setA A 16 (upd (A 16) j ((A 16 j) + 1)))) U.heap; rw [hU]; exact m109) hL hl.1 rfl rfl ⟨⟨Nat.le_of_ble_eq_true rfl, Nat.le_of_ble_eq_true rfl⟩, Nat.le_of_ble_eq_true rfl, Nat.le_of_ble_eq_true rfl⟩ (Nat.le_of_ble_eq_true rfl) d_M_hear_124 (fun v H113 locs hp hL => ?_)
                obtain ⟨rfl, m111, S112⟩ := hp
                refine W.eq (g2 := F0 m 127 ls []) rfl ?_
                have k0 : va_at D vwCl (b, .inr (6, [.int (th), .int (nn), .ref (b + 1), .ref (b + 2), .ref (b + 3), .ref (b + 4), .ref (b + 5), .ref (b + 6), .ref (b + 7), .ref (b + 8), .ref (b + 9), .ref (b + 10), .ref (b + 11), .ref (b + 12), .ref (b + 13), .ref (b + 14), .ref (b + 15), .ref (b + 16), .ref (b + 17), .ref (b + 18), .ref (b + 19), .ref (b + 20), .ref (b + 21), .ref (b + 22), .ref (b + 23), .ref (b + 24), .ref (b + 25), .ref (b + 26), .ref (b + 27), .ref (b + 28), .ref (b + 29), .ref (b + 30)])) H113 := m111 0 (by decide)
                have hf : f_M_hear A j x = (f_M_heardFrame (setA A 16 (upd (A 16) j ((A 16 j) + 1))) j x) := by unfold f_M_hear; rw [if_neg c42, if_pos c43, if_pos c83, if_pos c84, if_neg c94, if_pos c104, if_pos c110]
                exact hq_vret C hret hlk (Nat.le_of_ble_eq_true rfl) (Nat.le_of_ble_eq_true rfl) hL ⟨rfl, by rw [hf]; exact m111, hq_Scall (hq_Sput (hq_S0) u108 (by omega) (by omega)) S112 (by omega) (by omega)⟩ d_M_hear_127
            · intro c104
              refine lv_iconst (v := 1) C.1 C.2.1 d_M_hear_61 (by decide) ?_
              refine lv_goto (tgt := 66) C.1 C.2.1 d_M_hear_62 (by decide) ?_
              refine lv_istore C.1 C.2.1 d_M_hear_66 hl (by decide) rfl (lv' := [(6, .int (1)), (5, .int (0)), (4, .int (0)), (3, .int (A 16 j)), (0, .ref (b)), (1, .int (nI j)), (2, .int (x))]) (fun ls hl => ?_)
              refine lv_iload C.1 C.2.1 d_M_hear_68 (lv_at hl 1 rfl) ?_
              refine lv_if_eq (tgt := 77) C.1 C.2.1 d_M_hear_70 (by decide) (fun _ => ?_) (fun hn => absurd (by decide) hn)
              refine lv_iload C.1 C.2.1 d_M_hear_77 (lv_at hl 0 rfl) ?_
              refine lv_if_eq (tgt := 86) C.1 C.2.1 d_M_hear_79 (by decide) (fun hn => absurd hn (by decide)) (fun _ => ?_)
              refine lv_iconst (v := 4) C.1 C.2.1 d_M_hear_82 (by decide) ?_
              refine lv_goto (tgt := 87) C.1 C.2.1 d_M_hear_83 (by decide) ?_
              refine lv_istore C.1 C.2.1 d_M_hear_87 hl (by decide) rfl (lv' := [(4, .int (4)), (6, .int (1)), (5, .int (0)), (3, .int (A 16 j)), (0, .ref (b)), (1, .int (nI j)), (2, .int (x))]) (fun ls hl => ?_)
              refine lv_aload_n C.1 C.2.1 d_M_hear_89 rfl (lv_at hl 4 rfl) ?_
              refine hq_get (v := .ref (b + 17)) C f_M_59 k0 rfl d_M_hear_90 ?_
              refine lv_iload_n C.1 C.2.1 d_M_hear_93 rfl (lv_at hl 5 rfl) ?_
              refine lv_dup2_11 C.1 C.2.1 d_M_hear_94 rfl rfl ?_
              have e114 : va_at D vwCl (b + 17, .inl (cI, 4, .inl (A 16))) _ := hM 17 (by decide)
              refine hq_iald C 0 rfl e114 (vp_in_nI hj (by decide)) d_M_hear_95 ?_
              rw [nI_clamp (show j < 2 ^ 31 by omega)]
              refine W.eq (g2 := F0 m 96 ls [.int (A 16 j), .int (nI j), .ref (b + 17)]) rfl ?_
              refine lv_iconst (v := 1) C.1 C.2.1 d_M_hear_96 (by decide) ?_
              refine lv_iadd C.1 C.2.1 d_M_hear_97 ?_
              have e115 : va_at D vwCl (b + 17, .inl (cI, 4, .inl (A 16))) _ := hM 17 (by decide)
              refine hq_iast (lo := lo) C 0 rfl e115 (vp_in_nI hj (by decide)) hL (by omega) d_M_hear_98 (fun H116 locs u117 hL => ?_)
              rw [nI_clamp (show j < 2 ^ 31 by omega)] at u117
              have m118 := md_set (k := 16) (f := upd (A 16) j ((A 16 j) + 1)) hM u117
              have k0 : va_at D vwCl (b, .inr (6, [.int (th), .int (nn), .ref (b + 1), .ref (b + 2), .ref (b + 3), .ref (b + 4), .ref (b + 5), .ref (b + 6), .ref (b + 7), .ref (b + 8), .ref (b + 9), .ref (b + 10), .ref (b + 11), .ref (b + 12), .ref (b + 13), .ref (b + 14), .ref (b + 15), .ref (b + 16), .ref (b + 17), .ref (b + 18), .ref (b + 19), .ref (b + 20), .ref (b + 21), .ref (b + 22), .ref (b + 23), .ref (b + 24), .ref (b + 25), .ref (b + 26), .ref (b + 27), .ref (b + 28), .ref (b + 29), .ref (b + 30)])) H116 := m118 0 (by decide)
              refine lv_iload C.1 C.2.1 d_M_hear_99 (lv_at hl 0 rfl) ?_
              refine lv_if_le (tgt := 115) C.1 C.2.1 d_M_hear_101 (by decide) (fun hn => absurd hn (by decide)) (fun _ => ?_)
              refine lv_aload_n C.1 C.2.1 d_M_hear_104 rfl (lv_at hl 4 rfl) ?_
              refine lv_iload_n C.1 C.2.1 d_M_hear_105 rfl (lv_at hl 5 rfl) ?_
              refine lv_iload C.1 C.2.1 d_M_hear_106 (lv_at hl 0 rfl) ?_
              refine lv_iconst (v := 2) C.1 C.2.1 d_M_hear_108 (by decide) ?_
              refine hq_callV (lo := lo) (As := [.int (nI j), .int (4), .int (2)]) (rest := []) C tb_good hml Y_M_143 (c_M_err l D cI cZ cN cJ lo b hlo th nn (setA A 16 (upd (A 16) j ((A 16 j) + 1))) j hj 4 2 (show vp_in (nI 4) 8 from vp_in_nI (by decide) (by decide))) k0 rfl (fun _ _ _ _ h => h) (fun U hU hW => by show hq_B D vwCl b 31 (mdC cI cZ b th nn (setA A 16 (upd (A 16) j ((A 16 j) + 1)))) U.heap; rw [hU]; exact m118) hL hl.1 rfl rfl ⟨⟨Nat.le_of_ble_eq_true rfl, Nat.le_of_ble_eq_true rfl⟩, Nat.le_of_ble_eq_true rfl, Nat.le_of_ble_eq_true rfl⟩ (Nat.le_of_ble_eq_true rfl) d_M_hear_109 (fun v H121 locs hp hL => ?_)
              obtain ⟨rfl, m119, S120⟩ := hp
              refine W.eq (g2 := F0 m 112 ls []) rfl ?_
              have k0 : va_at D vwCl (b, .inr (6, [.int (th), .int (nn), .ref (b + 1), .ref (b + 2), .ref (b + 3), .ref (b + 4), .ref (b + 5), .ref (b + 6), .ref (b + 7), .ref (b + 8), .ref (b + 9), .ref (b + 10), .ref (b + 11), .ref (b + 12), .ref (b + 13), .ref (b + 14), .ref (b + 15), .ref (b + 16), .ref (b + 17), .ref (b + 18), .ref (b + 19), .ref (b + 20), .ref (b + 21), .ref (b + 22), .ref (b + 23), .ref (b + 24), .ref (b + 25), .ref (b + 26), .ref (b + 27), .ref (b + 28), .ref (b + 29), .ref (b + 30)])) H121 := m119 0 (by decide)
              refine lv_goto (tgt := 127) C.1 C.2.1 d_M_hear_112 (by decide) ?_
              have hf : f_M_hear A j x = (f_M_err (setA A 16 (upd (A 16) j ((A 16 j) + 1))) j 4 2) := by unfold f_M_hear; rw [if_neg c42, if_pos c43, if_pos c83, if_pos c84, if_neg c94, if_neg c104]
              exact hq_vret C hret hlk (Nat.le_of_ble_eq_true rfl) (Nat.le_of_ble_eq_true rfl) hL ⟨rfl, by rw [hf]; exact m119, hq_Scall (hq_Sput (hq_S0) u117 (by omega) (by omega)) S120 (by omega) (by omega)⟩ d_M_hear_127
      · intro c83
        refine lv_iconst (v := 1) C.1 C.2.1 d_M_hear_39 (by decide) ?_
        refine lv_goto (tgt := 44) C.1 C.2.1 d_M_hear_40 (by decide) ?_
        refine lv_istore C.1 C.2.1 d_M_hear_44 hl (by decide) rfl (lv' := [(5, .int (1)), (4, .int (0)), (3, .int (A 16 j)), (0, .ref (b)), (1, .int (nI j)), (2, .int (x))]) (fun ls hl => ?_)
        refine lv_iload_n C.1 C.2.1 d_M_hear_46 rfl (lv_at hl 5 rfl) ?_
        refine lv_if_ne (tgt := 65) C.1 C.2.1 d_M_hear_47 (by decide) ?_ ?_
        · intro c122
          refine lv_iconst (v := 0) C.1 C.2.1 d_M_hear_65 (by decide) ?_
          refine lv_istore C.1 C.2.1 d_M_hear_66 hl (by decide) rfl (lv' := [(6, .int (0)), (5, .int (1)), (4, .int (0)), (3, .int (A 16 j)), (0, .ref (b)), (1, .int (nI j)), (2, .int (x))]) (fun ls hl => ?_)
          refine lv_iload C.1 C.2.1 d_M_hear_68 (lv_at hl 1 rfl) ?_
          refine lv_if_eq (tgt := 77) C.1 C.2.1 d_M_hear_70 (by decide) (fun hn => absurd hn (by decide)) (fun _ => ?_)
          refine lv_iconst (v := 5) C.1 C.2.1 d_M_hear_73 (by decide) ?_
          refine lv_goto (tgt := 87) C.1 C.2.1 d_M_hear_74 (by decide) ?_
          refine lv_istore C.1 C.2.1 d_M_hear_87 hl (by decide) rfl (lv' := [(4, .int (5)), (6, .int (0)), (5, .int (1)), (3, .int (A 16 j)), (0, .ref (b)), (1, .int (nI j)), (2, .int (x))]) (fun ls hl => ?_)
          refine lv_aload_n C.1 C.2.1 d_M_hear_89 rfl (lv_at hl 4 rfl) ?_
          refine hq_get (v := .ref (b + 17)) C f_M_59 k0 rfl d_M_hear_90 ?_
          refine lv_iload_n C.1 C.2.1 d_M_hear_93 rfl (lv_at hl 5 rfl) ?_
          refine lv_dup2_11 C.1 C.2.1 d_M_hear_94 rfl rfl ?_
          have e123 : va_at D vwCl (b + 17, .inl (cI, 4, .inl (A 16))) _ := hM 17 (by decide)
          refine hq_iald C 0 rfl e123 (vp_in_nI hj (by decide)) d_M_hear_95 ?_
          rw [nI_clamp (show j < 2 ^ 31 by omega)]
          refine W.eq (g2 := F0 m 96 ls [.int (A 16 j), .int (nI j), .ref (b + 17)]) rfl ?_
          refine lv_iconst (v := 1) C.1 C.2.1 d_M_hear_96 (by decide) ?_
          refine lv_iadd C.1 C.2.1 d_M_hear_97 ?_
          have e124 : va_at D vwCl (b + 17, .inl (cI, 4, .inl (A 16))) _ := hM 17 (by decide)
          refine hq_iast (lo := lo) C 0 rfl e124 (vp_in_nI hj (by decide)) hL (by omega) d_M_hear_98 (fun H125 locs u126 hL => ?_)
          rw [nI_clamp (show j < 2 ^ 31 by omega)] at u126
          have m127 := md_set (k := 16) (f := upd (A 16) j ((A 16 j) + 1)) hM u126
          have k0 : va_at D vwCl (b, .inr (6, [.int (th), .int (nn), .ref (b + 1), .ref (b + 2), .ref (b + 3), .ref (b + 4), .ref (b + 5), .ref (b + 6), .ref (b + 7), .ref (b + 8), .ref (b + 9), .ref (b + 10), .ref (b + 11), .ref (b + 12), .ref (b + 13), .ref (b + 14), .ref (b + 15), .ref (b + 16), .ref (b + 17), .ref (b + 18), .ref (b + 19), .ref (b + 20), .ref (b + 21), .ref (b + 22), .ref (b + 23), .ref (b + 24), .ref (b + 25), .ref (b + 26), .ref (b + 27), .ref (b + 28), .ref (b + 29), .ref (b + 30)])) H125 := m127 0 (by decide)
          refine lv_iload C.1 C.2.1 d_M_hear_99 (lv_at hl 0 rfl) ?_
          refine lv_if_le (tgt := 115) C.1 C.2.1 d_M_hear_101 (by decide) (fun hn => absurd hn (by decide)) (fun _ => ?_)
          refine lv_aload_n C.1 C.2.1 d_M_hear_104 rfl (lv_at hl 4 rfl) ?_
          refine lv_iload_n C.1 C.2.1 d_M_hear_105 rfl (lv_at hl 5 rfl) ?_
          refine lv_iload C.1 C.2.1 d_M_hear_106 (lv_at hl 0 rfl) ?_
          refine lv_iconst (v := 2) C.1 C.2.1 d_M_hear_108 (by decide) ?_
          refine hq_callV (lo := lo) (As := [.int (nI j), .int (5), .int (2)]) (rest := []) C tb_good hml Y_M_143 (c_M_err l D cI cZ cN cJ lo b hlo th nn (setA A 16 (upd (A 16) j ((A 16 j) + 1))) j hj 5 2 (show vp_in (nI 5) 8 from vp_in_nI (by decide) (by decide))) k0 rfl (fun _ _ _ _ h => h) (fun U hU hW => by show hq_B D vwCl b 31 (mdC cI cZ b th nn (setA A 16 (upd (A 16) j ((A 16 j) + 1)))) U.heap; rw [hU]; exact m127) hL hl.1 rfl rfl ⟨⟨Nat.le_of_ble_eq_true rfl, Nat.le_of_ble_eq_true rfl⟩, Nat.le_of_ble_eq_true rfl, Nat.le_of_ble_eq_true rfl⟩ (Nat.le_of_ble_eq_true rfl) d_M_hear_109 (fun v H130 locs hp hL => ?_)
          obtain ⟨rfl, m128, S129⟩ := hp
          refine W.eq (g2 := F0 m 112 ls []) rfl ?_
          have k0 : va_at D vwCl (b, .inr (6, [.int (th), .int (nn), .ref (b + 1), .ref (b + 2), .ref (b + 3), .ref (b + 4), .ref (b + 5), .ref (b + 6), .ref (b + 7), .ref (b + 8), .ref (b + 9), .ref (b + 10), .ref (b + 11), .ref (b + 12), .ref (b + 13), .ref (b + 14), .ref (b + 15), .ref (b + 16), .ref (b + 17), .ref (b + 18), .ref (b + 19), .ref (b + 20), .ref (b + 21), .ref (b + 22), .ref (b + 23), .ref (b + 24), .ref (b + 25), .ref (b + 26), .ref (b + 27), .ref (b + 28), .ref (b + 29), .ref (b + 30)])) H130 := m128 0 (by decide)
          refine lv_goto (tgt := 127) C.1 C.2.1 d_M_hear_112 (by decide) ?_
          have hf : f_M_hear A j x = (f_M_err (setA A 16 (upd (A 16) j ((A 16 j) + 1))) j 5 2) := by unfold f_M_hear; rw [if_neg c42, if_pos c43, if_neg c83, if_neg c122]
          exact hq_vret C hret hlk (Nat.le_of_ble_eq_true rfl) (Nat.le_of_ble_eq_true rfl) hL ⟨rfl, by rw [hf]; exact m128, hq_Scall (hq_Sput (hq_S0) u126 (by omega) (by omega)) S129 (by omega) (by omega)⟩ d_M_hear_127
        · intro c122
          refine lv_iload_n C.1 C.2.1 d_M_hear_50 rfl (lv_at hl 2 rfl) ?_
          refine lv_iconst (v := 2) C.1 C.2.1 d_M_hear_51 (by decide) ?_
          refine lv_icmp_eq (tgt := 65) C.1 C.2.1 d_M_hear_52 (by decide) ?_ ?_
          · intro c131
            refine lv_iconst (v := 0) C.1 C.2.1 d_M_hear_65 (by decide) ?_
            refine lv_istore C.1 C.2.1 d_M_hear_66 hl (by decide) rfl (lv' := [(6, .int (0)), (5, .int (1)), (4, .int (0)), (3, .int (A 16 j)), (0, .ref (b)), (1, .int (nI j)), (2, .int (x))]) (fun ls hl => ?_)
            refine lv_iload C.1 C.2.1 d_M_hear_68 (lv_at hl 1 rfl) ?_
            refine lv_if_eq (tgt := 77) C.1 C.2.1 d_M_hear_70 (by decide) (fun hn => absurd hn (by decide)) (fun _ => ?_)
            refine lv_iconst (v := 5) C.1 C.2.1 d_M_hear_73 (by decide) ?_
            refine lv_goto (tgt := 87) C.1 C.2.1 d_M_hear_74 (by decide) ?_
            refine lv_istore C.1 C.2.1 d_M_hear_87 hl (by decide) rfl (lv' := [(4, .int (5)), (6, .int (0)), (5, .int (1)), (3, .int (A 16 j)), (0, .ref (b)), (1, .int (nI j)), (2, .int (x))]) (fun ls hl => ?_)
            refine lv_aload_n C.1 C.2.1 d_M_hear_89 rfl (lv_at hl 4 rfl) ?_
            refine hq_get (v := .ref (b + 17)) C f_M_59 k0 rfl d_M_hear_90 ?_
            refine lv_iload_n C.1 C.2.1 d_M_hear_93 rfl (lv_at hl 5 rfl) ?_
            refine lv_dup2_11 C.1 C.2.1 d_M_hear_94 rfl rfl ?_
            have e132 : va_at D vwCl (b + 17, .inl (cI, 4, .inl (A 16))) _ := hM 17 (by decide)
            refine hq_iald C 0 rfl e132 (vp_in_nI hj (by decide)) d_M_hear_95 ?_
            rw [nI_clamp (show j < 2 ^ 31 by omega)]
            refine W.eq (g2 := F0 m 96 ls [.int (A 16 j), .int (nI j), .ref (b + 17)]) rfl ?_
            refine lv_iconst (v := 1) C.1 C.2.1 d_M_hear_96 (by decide) ?_
            refine lv_iadd C.1 C.2.1 d_M_hear_97 ?_
            have e133 : va_at D vwCl (b + 17, .inl (cI, 4, .inl (A 16))) _ := hM 17 (by decide)
            refine hq_iast (lo := lo) C 0 rfl e133 (vp_in_nI hj (by decide)) hL (by omega) d_M_hear_98 (fun H134 locs u135 hL => ?_)
            rw [nI_clamp (show j < 2 ^ 31 by omega)] at u135
            have m136 := md_set (k := 16) (f := upd (A 16) j ((A 16 j) + 1)) hM u135
            have k0 : va_at D vwCl (b, .inr (6, [.int (th), .int (nn), .ref (b + 1), .ref (b + 2), .ref (b + 3), .ref (b + 4), .ref (b + 5), .ref (b + 6), .ref (b + 7), .ref (b + 8), .ref (b + 9), .ref (b + 10), .ref (b + 11), .ref (b + 12), .ref (b + 13), .ref (b + 14), .ref (b + 15), .ref (b + 16), .ref (b + 17), .ref (b + 18), .ref (b + 19), .ref (b + 20), .ref (b + 21), .ref (b + 22), .ref (b + 23), .ref (b + 24), .ref (b + 25), .ref (b + 26), .ref (b + 27), .ref (b + 28), .ref (b + 29), .ref (b + 30)])) H134 := m136 0 (by decide)
            refine lv_iload C.1 C.2.1 d_M_hear_99 (lv_at hl 0 rfl) ?_
            refine lv_if_le (tgt := 115) C.1 C.2.1 d_M_hear_101 (by decide) (fun hn => absurd hn (by decide)) (fun _ => ?_)
            refine lv_aload_n C.1 C.2.1 d_M_hear_104 rfl (lv_at hl 4 rfl) ?_
            refine lv_iload_n C.1 C.2.1 d_M_hear_105 rfl (lv_at hl 5 rfl) ?_
            refine lv_iload C.1 C.2.1 d_M_hear_106 (lv_at hl 0 rfl) ?_
            refine lv_iconst (v := 2) C.1 C.2.1 d_M_hear_108 (by decide) ?_
            refine hq_callV (lo := lo) (As := [.int (nI j), .int (5), .int (2)]) (rest := []) C tb_good hml Y_M_143 (c_M_err l D cI cZ cN cJ lo b hlo th nn (setA A 16 (upd (A 16) j ((A 16 j) + 1))) j hj 5 2 (show vp_in (nI 5) 8 from vp_in_nI (by decide) (by decide))) k0 rfl (fun _ _ _ _ h => h) (fun U hU hW => by show hq_B D vwCl b 31 (mdC cI cZ b th nn (setA A 16 (upd (A 16) j ((A 16 j) + 1)))) U.heap; rw [hU]; exact m136) hL hl.1 rfl rfl ⟨⟨Nat.le_of_ble_eq_true rfl, Nat.le_of_ble_eq_true rfl⟩, Nat.le_of_ble_eq_true rfl, Nat.le_of_ble_eq_true rfl⟩ (Nat.le_of_ble_eq_true rfl) d_M_hear_109 (fun v H139 locs hp hL => ?_)
            obtain ⟨rfl, m137, S138⟩ := hp
            refine W.eq (g2 := F0 m 112 ls []) rfl ?_
            have k0 : va_at D vwCl (b, .inr (6, [.int (th), .int (nn), .ref (b + 1), .ref (b + 2), .ref (b + 3), .ref (b + 4), .ref (b + 5), .ref (b + 6), .ref (b + 7), .ref (b + 8), .ref (b + 9), .ref (b + 10), .ref (b + 11), .ref (b + 12), .ref (b + 13), .ref (b + 14), .ref (b + 15), .ref (b + 16), .ref (b + 17), .ref (b + 18), .ref (b + 19), .ref (b + 20), .ref (b + 21), .ref (b + 22), .ref (b + 23), .ref (b + 24), .ref (b + 25), .ref (b + 26), .ref (b + 27), .ref (b + 28), .ref (b + 29), .ref (b + 30)])) H139 := m137 0 (by decide)
            refine lv_goto (tgt := 127) C.1 C.2.1 d_M_hear_112 (by decide) ?_
            have hf : f_M_hear A j x = (f_M_err (setA A 16 (upd (A 16) j ((A 16 j) + 1))) j 5 2) := by unfold f_M_hear; rw [if_neg c42, if_pos c43, if_neg c83, if_pos c122, if_pos c131]
            exact hq_vret C hret hlk (Nat.le_of_ble_eq_true rfl) (Nat.le_of_ble_eq_true rfl) hL ⟨rfl, by rw [hf]; exact m137, hq_Scall (hq_Sput (hq_S0) u135 (by omega) (by omega)) S138 (by omega) (by omega)⟩ d_M_hear_127
          · intro c131
            refine lv_iload_n C.1 C.2.1 d_M_hear_55 rfl (lv_at hl 2 rfl) ?_
            refine lv_bipush (v := 10) C.1 C.2.1 d_M_hear_56 (by decide) ?_
            refine lv_icmp_ge (tgt := 65) C.1 C.2.1 d_M_hear_58 (by decide) ?_ ?_
            · intro c140
              refine lv_iconst (v := 0) C.1 C.2.1 d_M_hear_65 (by decide) ?_
              refine lv_istore C.1 C.2.1 d_M_hear_66 hl (by decide) rfl (lv' := [(6, .int (0)), (5, .int (1)), (4, .int (0)), (3, .int (A 16 j)), (0, .ref (b)), (1, .int (nI j)), (2, .int (x))]) (fun ls hl => ?_)
              refine lv_iload C.1 C.2.1 d_M_hear_68 (lv_at hl 1 rfl) ?_
              refine lv_if_eq (tgt := 77) C.1 C.2.1 d_M_hear_70 (by decide) (fun hn => absurd hn (by decide)) (fun _ => ?_)
              refine lv_iconst (v := 5) C.1 C.2.1 d_M_hear_73 (by decide) ?_
              refine lv_goto (tgt := 87) C.1 C.2.1 d_M_hear_74 (by decide) ?_
              refine lv_istore C.1 C.2.1 d_M_hear_87 hl (by decide) rfl (lv' := [(4, .int (5)), (6, .int (0)), (5, .int (1)), (3, .int (A 16 j)), (0, .ref (b)), (1, .int (nI j)), (2, .int (x))]) (fun ls hl => ?_)
              refine lv_aload_n C.1 C.2.1 d_M_hear_89 rfl (lv_at hl 4 rfl) ?_
              refine hq_get (v := .ref (b + 17)) C f_M_59 k0 rfl d_M_hear_90 ?_
              refine lv_iload_n C.1 C.2.1 d_M_hear_93 rfl (lv_at hl 5 rfl) ?_
              refine lv_dup2_11 C.1 C.2.1 d_M_hear_94 rfl rfl ?_
              have e141 : va_at D vwCl (b + 17, .inl (cI, 4, .inl (A 16))) _ := hM 17 (by decide)
              refine hq_iald C 0 rfl e141 (vp_in_nI hj (by decide)) d_M_hear_95 ?_
              rw [nI_clamp (show j < 2 ^ 31 by omega)]
              refine W.eq (g2 := F0 m 96 ls [.int (A 16 j), .int (nI j), .ref (b + 17)]) rfl ?_
              refine lv_iconst (v := 1) C.1 C.2.1 d_M_hear_96 (by decide) ?_
              refine lv_iadd C.1 C.2.1 d_M_hear_97 ?_
              have e142 : va_at D vwCl (b + 17, .inl (cI, 4, .inl (A 16))) _ := hM 17 (by decide)
              refine hq_iast (lo := lo) C 0 rfl e142 (vp_in_nI hj (by decide)) hL (by omega) d_M_hear_98 (fun H143 locs u144 hL => ?_)
              rw [nI_clamp (show j < 2 ^ 31 by omega)] at u144
              have m145 := md_set (k := 16) (f := upd (A 16) j ((A 16 j) + 1)) hM u144
              have k0 : va_at D vwCl (b, .inr (6, [.int (th), .int (nn), .ref (b + 1), .ref (b + 2), .ref (b + 3), .ref (b + 4), .ref (b + 5), .ref (b + 6), .ref (b + 7), .ref (b + 8), .ref (b + 9), .ref (b + 10), .ref (b + 11), .ref (b + 12), .ref (b + 13), .ref (b + 14), .ref (b + 15), .ref (b + 16), .ref (b + 17), .ref (b + 18), .ref (b + 19), .ref (b + 20), .ref (b + 21), .ref (b + 22), .ref (b + 23), .ref (b + 24), .ref (b + 25), .ref (b + 26), .ref (b + 27), .ref (b + 28), .ref (b + 29), .ref (b + 30)])) H143 := m145 0 (by decide)
              refine lv_iload C.1 C.2.1 d_M_hear_99 (lv_at hl 0 rfl) ?_
              refine lv_if_le (tgt := 115) C.1 C.2.1 d_M_hear_101 (by decide) (fun hn => absurd hn (by decide)) (fun _ => ?_)
              refine lv_aload_n C.1 C.2.1 d_M_hear_104 rfl (lv_at hl 4 rfl) ?_
              refine lv_iload_n C.1 C.2.1 d_M_hear_105 rfl (lv_at hl 5 rfl) ?_
              refine lv_iload C.1 C.2.1 d_M_hear_106 (lv_at hl 0 rfl) ?_
              refine lv_iconst (v := 2) C.1 C.2.1 d_M_hear_108 (by decide) ?_
              refine hq_callV (lo := lo) (As := [.int (nI j), .int (5), .int (2)]) (rest := []) C tb_good hml Y_M_143 (c_M_err l D cI cZ cN cJ lo b hlo th nn (setA A 16 (upd (A 16) j ((A 16 j) + 1))) j hj 5 2 (show vp_in (nI 5) 8 from vp_in_nI (by decide) (by decide))) k0 rfl (fun _ _ _ _ h => h) (fun U hU hW => by show hq_B D vwCl b 31 (mdC cI cZ b th nn (setA A 16 (upd (A 16) j ((A 16 j) + 1)))) U.heap; rw [hU]; exact m145) hL hl.1 rfl rfl ⟨⟨Nat.le_of_ble_eq_true rfl, Nat.le_of_ble_eq_true rfl⟩, Nat.le_of_ble_eq_true rfl, Nat.le_of_ble_eq_true rfl⟩ (Nat.le_of_ble_eq_true rfl) d_M_hear_109 (fun v H148 locs hp hL => ?_)
              obtain ⟨rfl, m146, S147⟩ := hp
              refine W.eq (g2 := F0 m 112 ls []) rfl ?_
              have k0 : va_at D vwCl (b, .inr (6, [.int (th), .int (nn), .ref (b + 1), .ref (b + 2), .ref (b + 3), .ref (b + 4), .ref (b + 5), .ref (b + 6), .ref (b + 7), .ref (b + 8), .ref (b + 9), .ref (b + 10), .ref (b + 11), .ref (b + 12), .ref (b + 13), .ref (b + 14), .ref (b + 15), .ref (b + 16), .ref (b + 17), .ref (b + 18), .ref (b + 19), .ref (b + 20), .ref (b + 21), .ref (b + 22), .ref (b + 23), .ref (b + 24), .ref (b + 25), .ref (b + 26), .ref (b + 27), .ref (b + 28), .ref (b + 29), .ref (b + 30)])) H148 := m146 0 (by decide)
              refine lv_goto (tgt := 127) C.1 C.2.1 d_M_hear_112 (by decide) ?_
              have hf : f_M_hear A j x = (f_M_err (setA A 16 (upd (A 16) j ((A 16 j) + 1))) j 5 2) := by unfold f_M_hear; rw [if_neg c42, if_pos c43, if_neg c83, if_pos c122, if_neg c131, if_pos c140]
              exact hq_vret C hret hlk (Nat.le_of_ble_eq_true rfl) (Nat.le_of_ble_eq_true rfl) hL ⟨rfl, by rw [hf]; exact m146, hq_Scall (hq_Sput (hq_S0) u144 (by omega) (by omega)) S147 (by omega) (by omega)⟩ d_M_hear_127
            · intro c140
              refine lv_iconst (v := 1) C.1 C.2.1 d_M_hear_61 (by decide) ?_
              refine lv_goto (tgt := 66) C.1 C.2.1 d_M_hear_62 (by decide) ?_
              refine lv_istore C.1 C.2.1 d_M_hear_66 hl (by decide) rfl (lv' := [(6, .int (1)), (5, .int (1)), (4, .int (0)), (3, .int (A 16 j)), (0, .ref (b)), (1, .int (nI j)), (2, .int (x))]) (fun ls hl => ?_)
              refine lv_iload C.1 C.2.1 d_M_hear_68 (lv_at hl 1 rfl) ?_
              refine lv_if_eq (tgt := 77) C.1 C.2.1 d_M_hear_70 (by decide) (fun hn => absurd hn (by decide)) (fun _ => ?_)
              refine lv_iconst (v := 5) C.1 C.2.1 d_M_hear_73 (by decide) ?_
              refine lv_goto (tgt := 87) C.1 C.2.1 d_M_hear_74 (by decide) ?_
              refine lv_istore C.1 C.2.1 d_M_hear_87 hl (by decide) rfl (lv' := [(4, .int (5)), (6, .int (1)), (5, .int (1)), (3, .int (A 16 j)), (0, .ref (b)), (1, .int (nI j)), (2, .int (x))]) (fun ls hl => ?_)
              refine lv_aload_n C.1 C.2.1 d_M_hear_89 rfl (lv_at hl 4 rfl) ?_
              refine hq_get (v := .ref (b + 17)) C f_M_59 k0 rfl d_M_hear_90 ?_
              refine lv_iload_n C.1 C.2.1 d_M_hear_93 rfl (lv_at hl 5 rfl) ?_
              refine lv_dup2_11 C.1 C.2.1 d_M_hear_94 rfl rfl ?_
              have e149 : va_at D vwCl (b + 17, .inl (cI, 4, .inl (A 16))) _ := hM 17 (by decide)
              refine hq_iald C 0 rfl e149 (vp_in_nI hj (by decide)) d_M_hear_95 ?_
              rw [nI_clamp (show j < 2 ^ 31 by omega)]
              refine W.eq (g2 := F0 m 96 ls [.int (A 16 j), .int (nI j), .ref (b + 17)]) rfl ?_
              refine lv_iconst (v := 1) C.1 C.2.1 d_M_hear_96 (by decide) ?_
              refine lv_iadd C.1 C.2.1 d_M_hear_97 ?_
              have e150 : va_at D vwCl (b + 17, .inl (cI, 4, .inl (A 16))) _ := hM 17 (by decide)
              refine hq_iast (lo := lo) C 0 rfl e150 (vp_in_nI hj (by decide)) hL (by omega) d_M_hear_98 (fun H151 locs u152 hL => ?_)
              rw [nI_clamp (show j < 2 ^ 31 by omega)] at u152
              have m153 := md_set (k := 16) (f := upd (A 16) j ((A 16 j) + 1)) hM u152
              have k0 : va_at D vwCl (b, .inr (6, [.int (th), .int (nn), .ref (b + 1), .ref (b + 2), .ref (b + 3), .ref (b + 4), .ref (b + 5), .ref (b + 6), .ref (b + 7), .ref (b + 8), .ref (b + 9), .ref (b + 10), .ref (b + 11), .ref (b + 12), .ref (b + 13), .ref (b + 14), .ref (b + 15), .ref (b + 16), .ref (b + 17), .ref (b + 18), .ref (b + 19), .ref (b + 20), .ref (b + 21), .ref (b + 22), .ref (b + 23), .ref (b + 24), .ref (b + 25), .ref (b + 26), .ref (b + 27), .ref (b + 28), .ref (b + 29), .ref (b + 30)])) H151 := m153 0 (by decide)
              refine lv_iload C.1 C.2.1 d_M_hear_99 (lv_at hl 0 rfl) ?_
              refine lv_if_le (tgt := 115) C.1 C.2.1 d_M_hear_101 (by decide) (fun hn => absurd hn (by decide)) (fun _ => ?_)
              refine lv_aload_n C.1 C.2.1 d_M_hear_104 rfl (lv_at hl 4 rfl) ?_
              refine lv_iload_n C.1 C.2.1 d_M_hear_105 rfl (lv_at hl 5 rfl) ?_
              refine lv_iload C.1 C.2.1 d_M_hear_106 (lv_at hl 0 rfl) ?_
              refine lv_iconst (v := 2) C.1 C.2.1 d_M_hear_108 (by decide) ?_
              refine hq_callV (lo := lo) (As := [.int (nI j), .int (5), .int (2)]) (rest := []) C tb_good hml Y_M_143 (c_M_err l D cI cZ cN cJ lo b hlo th nn (setA A 16 (upd (A 16) j ((A 16 j) + 1))) j hj 5 2 (show vp_in (nI 5) 8 from vp_in_nI (by decide) (by decide))) k0 rfl (fun _ _ _ _ h => h) (fun U hU hW => by show hq_B D vwCl b 31 (mdC cI cZ b th nn (setA A 16 (upd (A 16) j ((A 16 j) + 1)))) U.heap; rw [hU]; exact m153) hL hl.1 rfl rfl ⟨⟨Nat.le_of_ble_eq_true rfl, Nat.le_of_ble_eq_true rfl⟩, Nat.le_of_ble_eq_true rfl, Nat.le_of_ble_eq_true rfl⟩ (Nat.le_of_ble_eq_true rfl) d_M_hear_109 (fun v H156 locs hp hL => ?_)
              obtain ⟨rfl, m154, S155⟩ := hp
              refine W.eq (g2 := F0 m 112 ls []) rfl ?_
              have k0 : va_at D vwCl (b, .inr (6, [.int (th), .int (nn), .ref (b + 1), .ref (b + 2), .ref (b + 3), .ref (b + 4), .ref (b + 5), .ref (b + 6), .ref (b + 7), .ref (b + 8), .ref (b + 9), .ref (b + 10), .ref (b + 11), .ref (b + 12), .ref (b + 13), .ref (b + 14), .ref (b + 15), .ref (b + 16), .ref (b + 17), .ref (b + 18), .ref (b + 19), .ref (b + 20), .ref (b + 21), .ref (b + 22), .ref (b + 23), .ref (b + 24), .ref (b + 25), .ref (b + 26), .ref (b + 27), .ref (b + 28), .ref (b + 29), .ref (b + 30)])) H156 := m154 0 (by decide)
              refine lv_goto (tgt := 127) C.1 C.2.1 d_M_hear_112 (by decide) ?_
              have hf : f_M_hear A j x = (f_M_err (setA A 16 (upd (A 16) j ((A 16 j) + 1))) j 5 2) := by unfold f_M_hear; rw [if_neg c42, if_pos c43, if_neg c83, if_pos c122, if_neg c131, if_neg c140]
              exact hq_vret C hret hlk (Nat.le_of_ble_eq_true rfl) (Nat.le_of_ble_eq_true rfl) hL ⟨rfl, by rw [hf]; exact m154, hq_Scall (hq_Sput (hq_S0) u152 (by omega) (by omega)) S155 (by omega) (by omega)⟩ d_M_hear_127
  · intro c42
    refine lv_aload_n C.1 C.2.1 d_M_hear_14 rfl (lv_at hl 2 rfl) ?_
    refine lv_iload_n C.1 C.2.1 d_M_hear_15 rfl (lv_at hl 3 rfl) ?_
    refine lv_iload_n C.1 C.2.1 d_M_hear_16 rfl (lv_at hl 4 rfl) ?_
    refine hq_callV (lo := lo) (As := [.int (nI j), .int (x)]) (rest := []) C tb_good hml Y_M_147 (c_M_readCore l D cI cZ cN cJ lo b hlo th nn A j hj x) k0 rfl (fun _ _ _ _ h => h) (fun U hU hW => by show hq_B D vwCl b 31 (mdC cI cZ b th nn A) U.heap; rw [hU]; exact hM) hL hl.1 rfl rfl ⟨⟨Nat.le_of_ble_eq_true rfl, Nat.le_of_ble_eq_true rfl⟩, Nat.le_of_ble_eq_true rfl, Nat.le_of_ble_eq_true rfl⟩ (Nat.le_of_ble_eq_true rfl) d_M_hear_17 (fun v H159 locs hp hL => ?_)
    obtain ⟨rfl, m157, S158⟩ := hp
    refine W.eq (g2 := F0 m 20 ls [.int ((f_M_readCore A j x).2)]) rfl ?_
    have k0 : va_at D vwCl (b, .inr (6, [.int (th), .int (nn), .ref (b + 1), .ref (b + 2), .ref (b + 3), .ref (b + 4), .ref (b + 5), .ref (b + 6), .ref (b + 7), .ref (b + 8), .ref (b + 9), .ref (b + 10), .ref (b + 11), .ref (b + 12), .ref (b + 13), .ref (b + 14), .ref (b + 15), .ref (b + 16), .ref (b + 17), .ref (b + 18), .ref (b + 19), .ref (b + 20), .ref (b + 21), .ref (b + 22), .ref (b + 23), .ref (b + 24), .ref (b + 25), .ref (b + 26), .ref (b + 27), .ref (b + 28), .ref (b + 29), .ref (b + 30)])) H159 := m157 0 (by decide)
    refine lv_istore C.1 C.2.1 d_M_hear_20 hl (by decide) rfl (lv' := [(4, .int ((f_M_readCore A j x).2)), (3, .int (A 16 j)), (0, .ref (b)), (1, .int (nI j)), (2, .int (x))]) (fun ls hl => ?_)
    refine lv_goto (tgt := 99) C.1 C.2.1 d_M_hear_22 (by decide) ?_
    refine lv_iload C.1 C.2.1 d_M_hear_99 (lv_at hl 0 rfl) ?_
    refine lv_if_le (tgt := 115) C.1 C.2.1 d_M_hear_101 (by decide) ?_ ?_
    · intro c160
      refine lv_iload_n C.1 C.2.1 d_M_hear_115 rfl (lv_at hl 1 rfl) ?_
      refine lv_bipush (v := 10) C.1 C.2.1 d_M_hear_116 (by decide) ?_
      refine lv_icmp_ne (tgt := 127) C.1 C.2.1 d_M_hear_118 (by decide) ?_ ?_
      · intro c161
        have hf : f_M_hear A j x = (f_M_readCore A j x).1 := by unfold f_M_hear; rw [if_pos c42, if_pos c160, if_neg c161]
        exact hq_vret C hret hlk (Nat.le_of_ble_eq_true rfl) (Nat.le_of_ble_eq_true rfl) hL ⟨rfl, by rw [hf]; exact m157, hq_Scall (hq_S0) S158 (by omega) (by omega)⟩ d_M_hear_127
      · intro c161
        refine lv_aload_n C.1 C.2.1 d_M_hear_121 rfl (lv_at hl 2 rfl) ?_
        refine lv_iload_n C.1 C.2.1 d_M_hear_122 rfl (lv_at hl 3 rfl) ?_
        refine lv_iload_n C.1 C.2.1 d_M_hear_123 rfl (lv_at hl 4 rfl) ?_
        refine hq_callV (lo := lo) (As := [.int (nI j), .int (x)]) (rest := []) C tb_good hml Y_M_154 (c_M_heardFrame l D cI cZ cN cJ lo b hlo th nn (f_M_readCore A j x).1 j hj x (ok_M_readCore A j hj x ok)) k0 rfl (fun _ _ _ _ h => h) (fun U hU hW => by show hq_B D vwCl b 31 (mdC cI cZ b th nn (f_M_readCore A j x).1) U.heap; rw [hU]; exact m157) hL hl.1 rfl rfl ⟨⟨Nat.le_of_ble_eq_true rfl, Nat.le_of_ble_eq_true rfl⟩, Nat.le_of_ble_eq_true rfl, Nat.le_of_ble_eq_true rfl⟩ (Nat.le_of_ble_eq_true rfl) d_M_hear_124 (fun v H164 locs hp hL => ?_)
        obtain ⟨rfl, m162, S163⟩ := hp
        refine W.eq (g2 := F0 m 127 ls []) rfl ?_
        have k0 : va_at D vwCl (b, .inr (6, [.int (th), .int (nn), .ref (b + 1), .ref (b + 2), .ref (b + 3), .ref (b + 4), .ref (b + 5), .ref (b + 6), .ref (b + 7), .ref (b + 8), .ref (b + 9), .ref (b + 10), .ref (b + 11), .ref (b + 12), .ref (b + 13), .ref (b + 14), .ref (b + 15), .ref (b + 16), .ref (b + 17), .ref (b + 18), .ref (b + 19), .ref (b + 20), .ref (b + 21), .ref (b + 22), .ref (b + 23), .ref (b + 24), .ref (b + 25), .ref (b + 26), .ref (b + 27), .ref (b + 28), .ref (b + 29), .ref (b + 30)])) H164 := m162 0 (by decide)
        have hf : f_M_hear A j x = (f_M_heardFrame (f_M_readCore A j x).1 j x) := by unfold f_M_hear; rw [if_pos c42, if_pos c160, if_pos c161]
        exact hq_vret C hret hlk (Nat.le_of_ble_eq_true rfl) (Nat.le_of_ble_eq_true rfl) hL ⟨rfl, by rw [hf]; exact m162, hq_Scall (hq_Scall (hq_S0) S158 (by omega) (by omega)) S163 (by omega) (by omega)⟩ d_M_hear_127
    · intro c160
      refine lv_aload_n C.1 C.2.1 d_M_hear_104 rfl (lv_at hl 2 rfl) ?_
      refine lv_iload_n C.1 C.2.1 d_M_hear_105 rfl (lv_at hl 3 rfl) ?_
      refine lv_iload C.1 C.2.1 d_M_hear_106 (lv_at hl 0 rfl) ?_
      refine lv_iconst (v := 2) C.1 C.2.1 d_M_hear_108 (by decide) ?_
      refine hq_callV (lo := lo) (As := [.int (nI j), .int ((f_M_readCore A j x).2), .int (2)]) (rest := []) C tb_good hml Y_M_143 (c_M_err l D cI cZ cN cJ lo b hlo th nn (f_M_readCore A j x).1 j hj ((f_M_readCore A j x).2) 2 (in_M_readCore A j hj x)) k0 rfl (fun _ _ _ _ h => h) (fun U hU hW => by show hq_B D vwCl b 31 (mdC cI cZ b th nn (f_M_readCore A j x).1) U.heap; rw [hU]; exact m157) hL hl.1 rfl rfl ⟨⟨Nat.le_of_ble_eq_true rfl, Nat.le_of_ble_eq_true rfl⟩, Nat.le_of_ble_eq_true rfl, Nat.le_of_ble_eq_true rfl⟩ (Nat.le_of_ble_eq_true rfl) d_M_hear_109 (fun v H167 locs hp hL => ?_)
      obtain ⟨rfl, m165, S166⟩ := hp
      refine W.eq (g2 := F0 m 112 ls []) rfl ?_
      have k0 : va_at D vwCl (b, .inr (6, [.int (th), .int (nn), .ref (b + 1), .ref (b + 2), .ref (b + 3), .ref (b + 4), .ref (b + 5), .ref (b + 6), .ref (b + 7), .ref (b + 8), .ref (b + 9), .ref (b + 10), .ref (b + 11), .ref (b + 12), .ref (b + 13), .ref (b + 14), .ref (b + 15), .ref (b + 16), .ref (b + 17), .ref (b + 18), .ref (b + 19), .ref (b + 20), .ref (b + 21), .ref (b + 22), .ref (b + 23), .ref (b + 24), .ref (b + 25), .ref (b + 26), .ref (b + 27), .ref (b + 28), .ref (b + 29), .ref (b + 30)])) H167 := m165 0 (by decide)
      refine lv_goto (tgt := 127) C.1 C.2.1 d_M_hear_112 (by decide) ?_
      have hf : f_M_hear A j x = (f_M_err (f_M_readCore A j x).1 j ((f_M_readCore A j x).2) 2) := by unfold f_M_hear; rw [if_pos c42, if_neg c160]
      exact hq_vret C hret hlk (Nat.le_of_ble_eq_true rfl) (Nat.le_of_ble_eq_true rfl) hL ⟨rfl, by rw [hf]; exact m165, hq_Scall (hq_Scall (hq_S0) S158 (by omega) (by omega)) S166 (by omega) (by omega)⟩ d_M_hear_127
set_option maxHeartbeats 4000000 in
set_option maxRecDepth 100000 in
theorem ok_M_hear (A : Nat → Nat → Int32) (j : Nat) (hj : j < 4) (x : Int32) (ok : okA A) : okA (f_M_hear A j x) := by
  unfold f_M_hear
  by_cases c42 : (A 16 j) = 0
  · rw [if_pos c42]
    by_cases c160 : ((f_M_readCore A j x).2) ≤ 0
    · rw [if_pos c160]
      by_cases c161 : (A 16 j) = 10
      · rw [if_pos c161]
        exact (ok_M_heardFrame (f_M_readCore A j x).1 j hj x (ok_M_readCore A j hj x ok))
      · rw [if_neg c161]
        exact (ok_M_readCore A j hj x ok)
    · rw [if_neg c160]
      exact (ok_M_err (f_M_readCore A j x).1 j hj ((f_M_readCore A j x).2) 2 (in_M_readCore A j hj x) (ok_M_readCore A j hj x ok))
  · rw [if_neg c42]
    by_cases c43 : (A 16 j) = 3
    · rw [if_pos c43]
      by_cases c83 : (A 20 j) = 0
      · rw [if_pos c83]
        by_cases c84 : x = 0
        · rw [if_pos c84]
          by_cases c94 : (A 16 j) = 2
          · rw [if_pos c94]
            by_cases c100 : (A 16 j) = 10
            · rw [if_pos c100]
              exact (ok_M_heardFrame (setA A 16 (upd (A 16) j ((A 16 j) + 1))) j hj x (okA_o (by decide) ok))
            · rw [if_neg c100]
              exact (okA_o (by decide) ok)
          · rw [if_neg c94]
            by_cases c104 : 10 ≤ (A 16 j)
            · rw [if_pos c104]
              by_cases c110 : (A 16 j) = 10
              · rw [if_pos c110]
                exact (ok_M_heardFrame (setA A 16 (upd (A 16) j ((A 16 j) + 1))) j hj x (okA_o (by decide) ok))
              · rw [if_neg c110]
                exact (okA_o (by decide) ok)
            · rw [if_neg c104]
              exact (ok_M_err (setA A 16 (upd (A 16) j ((A 16 j) + 1))) j hj 4 2 (show vp_in (nI 4) 8 from vp_in_nI (by decide) (by decide)) (okA_o (by decide) ok))
        · rw [if_neg c84]
          by_cases c90 : (A 16 j) = 10
          · rw [if_pos c90]
            exact (ok_M_heardFrame (setA A 16 (upd (A 16) j ((A 16 j) + 1))) j hj x (okA_o (by decide) ok))
          · rw [if_neg c90]
            exact (okA_o (by decide) ok)
      · rw [if_neg c83]
        by_cases c122 : x = 0
        · rw [if_pos c122]
          by_cases c131 : (A 16 j) = 2
          · rw [if_pos c131]
            exact (ok_M_err (setA A 16 (upd (A 16) j ((A 16 j) + 1))) j hj 5 2 (show vp_in (nI 5) 8 from vp_in_nI (by decide) (by decide)) (okA_o (by decide) ok))
          · rw [if_neg c131]
            by_cases c140 : 10 ≤ (A 16 j)
            · rw [if_pos c140]
              exact (ok_M_err (setA A 16 (upd (A 16) j ((A 16 j) + 1))) j hj 5 2 (show vp_in (nI 5) 8 from vp_in_nI (by decide) (by decide)) (okA_o (by decide) ok))
            · rw [if_neg c140]
              exact (ok_M_err (setA A 16 (upd (A 16) j ((A 16 j) + 1))) j hj 5 2 (show vp_in (nI 5) 8 from vp_in_nI (by decide) (by decide)) (okA_o (by decide) ok))
        · rw [if_neg c122]
          exact (ok_M_err (setA A 16 (upd (A 16) j ((A 16 j) + 1))) j hj 5 2 (show vp_in (nI 5) 8 from vp_in_nI (by decide) (by decide)) (okA_o (by decide) ok))
    · rw [if_neg c43]
      by_cases c44 : x = 0
      · rw [if_pos c44]
        by_cases c54 : (A 16 j) = 2
        · rw [if_pos c54]
          by_cases c60 : (A 16 j) = 10
          · rw [if_pos c60]
            exact (ok_M_heardFrame (setA A 16 (upd (A 16) j ((A 16 j) + 1))) j hj x (okA_o (by decide) ok))
          · rw [if_neg c60]
            exact (okA_o (by decide) ok)
        · rw [if_neg c54]
          by_cases c64 : 10 ≤ (A 16 j)
          · rw [if_pos c64]
            by_cases c70 : (A 16 j) = 10
            · rw [if_pos c70]
              exact (ok_M_heardFrame (setA A 16 (upd (A 16) j ((A 16 j) + 1))) j hj x (okA_o (by decide) ok))
            · rw [if_neg c70]
              exact (okA_o (by decide) ok)
          · rw [if_neg c64]
            exact (ok_M_err (setA A 16 (upd (A 16) j ((A 16 j) + 1))) j hj 4 2 (show vp_in (nI 4) 8 from vp_in_nI (by decide) (by decide)) (okA_o (by decide) ok))
      · rw [if_neg c44]
        by_cases c50 : (A 16 j) = 10
        · rw [if_pos c50]
          exact (ok_M_heardFrame (setA A 16 (upd (A 16) j ((A 16 j) + 1))) j hj x (okA_o (by decide) ok))
        · rw [if_neg c50]
          exact (okA_o (by decide) ok)
def f_M_send_86 (A : Nat → Nat → Int32) (j : Nat) (v2 : Int32) : Nat → Nat → Int32 := if (A 16 j) = 2 then (if v2 = 1 then ((f_M_err A j 6 1)) else (if (A 16 j) = 0 then ((f_M_readCore A j v2).1) else (if (A 16 j) = 10 then ((f_M_sentFrame A j)) else ((setA A 16 (upd (A 16) j ((A 16 j) + 1))))))) else (if v2 = (A 29 j) then (if (A 16 j) = 0 then ((f_M_readCore A j v2).1) else (if (A 16 j) = 10 then ((f_M_sentFrame A j)) else ((setA A 16 (upd (A 16) j ((A 16 j) + 1)))))) else ((f_M_err A j 2 1)))
def f_M_send (A : Nat → Nat → Int32) (j : Nat) (x : Int32) : Nat → Nat → Int32 := if (A 16 j) = 0 then (if 5 ≤ (A 18 j) then (f_M_send_86 A j x) else (if (A 17 j) ≤ 0 then (f_M_send_86 A j x) else (if 12 ≤ (A 17 j) then (f_M_send_86 A j x) else (if (A 29 j) = 1 then (if x = 0 then ((f_M_hear (setA (setA A 3 (upd (A 3) j 2)) 28 (upd (A 28) j 2)) j x)) else (f_M_send_86 A j x)) else (f_M_send_86 A j x))))) else (f_M_send_86 A j x)
set_option maxHeartbeats 4000000 in
set_option maxRecDepth 100000 in
theorem s_M_send_86 {p : Program} {l : Launch} {e : Env} {s : State} {m : MethodId} {args : Array Value} {below : List Frame} {meth : Method} {c : Code} {H : Heap} {locs : List Loc} {ls : Array Slot} (D : va_G) (cI cZ cN cJ : ClassId) (lo b : Nat) (hlo : lo ≤ b) (th nn : Int32) (A : Nat → Nat → Int32) (j : Nat) (hj : j < 4) (v2 : Int32) (hw : ¬ A 9 j = 0) (ok : okA A) {R9 : Nat → Nat → Int32} (hR : f_M_send_86 A j v2 = R9) (C : hq_C p c s m args R_M b_M_send TB D vwCl (TY cI cZ cN cJ)) (hml : c.maxLocals = 5) (hret : meth.sig.returnType = none) (hlk : meth.locks = false) (hL : hq_L lo locs) (hM : hq_B D vwCl b 31 (mdC cI cZ b th nn A) H) (hS : hq_S b 31 s.heap H) (hl : lv_has ls 5 [(0, .ref (b)), (1, .int (nI j)), (2, .int (v2))]) : W p l e { frames := 4, cells := 0, slots := 0, locals := 92 } s m args below meth c H locs 0 0 (MQ below (hq_Q (fun H v H' => v = none ∧ hq_B D vwCl b 31 (mdC cI cZ b th nn (R9)) H' ∧ hq_S b 31 H H')) args s 0 0 (fun q => lo ≤ q)) (F0 m 86 ls []) := by
  have k0 : va_at D vwCl (b, .inr (6, [.int (th), .int (nn), .ref (b + 1), .ref (b + 2), .ref (b + 3), .ref (b + 4), .ref (b + 5), .ref (b + 6), .ref (b + 7), .ref (b + 8), .ref (b + 9), .ref (b + 10), .ref (b + 11), .ref (b + 12), .ref (b + 13), .ref (b + 14), .ref (b + 15), .ref (b + 16), .ref (b + 17), .ref (b + 18), .ref (b + 19), .ref (b + 20), .ref (b + 21), .ref (b + 22), .ref (b + 23), .ref (b + 24), .ref (b + 25), .ref (b + 26), .ref (b + 27), .ref (b + 28), .ref (b + 29), .ref (b + 30)])) H := hM 0 (by decide)
  refine lv_aload_n C.1 C.2.1 d_M_send_86 rfl (lv_at hl 0 rfl) ?_
  refine hq_get (v := .ref (b + 17)) C f_M_59 k0 rfl d_M_send_87 ?_
  refine lv_iload_n C.1 C.2.1 d_M_send_90 rfl (lv_at hl 1 rfl) ?_
  have e61 : va_at D vwCl (b + 17, .inl (cI, 4, .inl (A 16))) _ := hM 17 (by decide)
  refine hq_iald C 0 rfl e61 (vp_in_nI hj (by decide)) d_M_send_91 ?_
  rw [nI_clamp (show j < 2 ^ 31 by omega)]
  refine W.eq (g2 := F0 m 92 ls [.int (A 16 j)]) rfl ?_
  refine lv_iconst (v := 2) C.1 C.2.1 d_M_send_92 (by decide) ?_
  refine lv_icmp_ne (tgt := 112) C.1 C.2.1 d_M_send_93 (by decide) ?_ ?_
  · intro c62
    refine lv_aload_n C.1 C.2.1 d_M_send_112 rfl (lv_at hl 0 rfl) ?_
    refine hq_get (v := .ref (b + 17)) C f_M_59 k0 rfl d_M_send_113 ?_
    refine lv_iload_n C.1 C.2.1 d_M_send_116 rfl (lv_at hl 1 rfl) ?_
    have e63 : va_at D vwCl (b + 17, .inl (cI, 4, .inl (A 16))) _ := hM 17 (by decide)
    refine hq_iald C 0 rfl e63 (vp_in_nI hj (by decide)) d_M_send_117 ?_
    rw [nI_clamp (show j < 2 ^ 31 by omega)]
    refine W.eq (g2 := F0 m 118 ls [.int (A 16 j)]) rfl ?_
    refine lv_iconst (v := 2) C.1 C.2.1 d_M_send_118 (by decide) ?_
    refine lv_icmp_eq (tgt := 142) C.1 C.2.1 d_M_send_119 (by decide) (fun hn => absurd hn c62) (fun _ => ?_)
    refine lv_iload_n C.1 C.2.1 d_M_send_122 rfl (lv_at hl 2 rfl) ?_
    refine lv_aload_n C.1 C.2.1 d_M_send_123 rfl (lv_at hl 0 rfl) ?_
    refine hq_get (v := .ref (b + 30)) C f_M_98 k0 rfl d_M_send_124 ?_
    refine lv_iload_n C.1 C.2.1 d_M_send_127 rfl (lv_at hl 1 rfl) ?_
    have e64 : va_at D vwCl (b + 30, .inl (cI, 4, .inl (A 29))) _ := hM 30 (by decide)
    refine hq_iald C 0 rfl e64 (vp_in_nI hj (by decide)) d_M_send_128 ?_
    rw [nI_clamp (show j < 2 ^ 31 by omega)]
    refine W.eq (g2 := F0 m 129 ls [.int (A 29 j), .int (v2)]) rfl ?_
    refine lv_icmp_eq (tgt := 142) C.1 C.2.1 d_M_send_129 (by decide) ?_ ?_
    · intro c65
      refine lv_aload_n C.1 C.2.1 d_M_send_142 rfl (lv_at hl 0 rfl) ?_
      refine hq_get (v := .ref (b + 17)) C f_M_59 k0 rfl d_M_send_143 ?_
      refine lv_iload_n C.1 C.2.1 d_M_send_146 rfl (lv_at hl 1 rfl) ?_
      have e66 : va_at D vwCl (b + 17, .inl (cI, 4, .inl (A 16))) _ := hM 17 (by decide)
      refine hq_iald C 0 rfl e66 (vp_in_nI hj (by decide)) d_M_send_147 ?_
      rw [nI_clamp (show j < 2 ^ 31 by omega)]
      refine W.eq (g2 := F0 m 148 ls [.int (A 16 j)]) rfl ?_
      refine lv_if_ne (tgt := 162) C.1 C.2.1 d_M_send_148 (by decide) ?_ ?_
      · intro c67
        refine lv_aload_n C.1 C.2.1 d_M_send_162 rfl (lv_at hl 0 rfl) ?_
        refine hq_get (v := .ref (b + 17)) C f_M_59 k0 rfl d_M_send_163 ?_
        refine lv_iload_n C.1 C.2.1 d_M_send_166 rfl (lv_at hl 1 rfl) ?_
        have e68 : va_at D vwCl (b + 17, .inl (cI, 4, .inl (A 16))) _ := hM 17 (by decide)
        refine hq_iald C 0 rfl e68 (vp_in_nI hj (by decide)) d_M_send_167 ?_
        rw [nI_clamp (show j < 2 ^ 31 by omega)]
        refine W.eq (g2 := F0 m 168 ls [.int (A 16 j)]) rfl ?_
        refine lv_bipush (v := 10) C.1 C.2.1 d_M_send_168 (by decide) ?_
        refine lv_icmp_ne (tgt := 181) C.1 C.2.1 d_M_send_170 (by decide) ?_ ?_
        · intro c69
          refine lv_aload_n C.1 C.2.1 d_M_send_181 rfl (lv_at hl 0 rfl) ?_
          refine hq_get (v := .ref (b + 17)) C f_M_59 k0 rfl d_M_send_182 ?_
          refine lv_iload_n C.1 C.2.1 d_M_send_185 rfl (lv_at hl 1 rfl) ?_
          refine lv_dup2_11 C.1 C.2.1 d_M_send_186 rfl rfl ?_
          have e70 : va_at D vwCl (b + 17, .inl (cI, 4, .inl (A 16))) _ := hM 17 (by decide)
          refine hq_iald C 0 rfl e70 (vp_in_nI hj (by decide)) d_M_send_187 ?_
          rw [nI_clamp (show j < 2 ^ 31 by omega)]
          refine W.eq (g2 := F0 m 188 ls [.int (A 16 j), .int (nI j), .ref (b + 17)]) rfl ?_
          refine lv_iconst (v := 1) C.1 C.2.1 d_M_send_188 (by decide) ?_
          refine lv_iadd C.1 C.2.1 d_M_send_189 ?_
          have e71 : va_at D vwCl (b + 17, .inl (cI, 4, .inl (A 16))) _ := hM 17 (by decide)
          refine hq_iast (lo := lo) C 0 rfl e71 (vp_in_nI hj (by decide)) hL (by omega) d_M_send_190 (fun H72 locs u73 hL => ?_)
          rw [nI_clamp (show j < 2 ^ 31 by omega)] at u73
          have m74 := md_set (k := 16) (f := upd (A 16) j ((A 16 j) + 1)) hM u73
          have k0 : va_at D vwCl (b, .inr (6, [.int (th), .int (nn), .ref (b + 1), .ref (b + 2), .ref (b + 3), .ref (b + 4), .ref (b + 5), .ref (b + 6), .ref (b + 7), .ref (b + 8), .ref (b + 9), .ref (b + 10), .ref (b + 11), .ref (b + 12), .ref (b + 13), .ref (b + 14), .ref (b + 15), .ref (b + 16), .ref (b + 17), .ref (b + 18), .ref (b + 19), .ref (b + 20), .ref (b + 21), .ref (b + 22), .ref (b + 23), .ref (b + 24), .ref (b + 25), .ref (b + 26), .ref (b + 27), .ref (b + 28), .ref (b + 29), .ref (b + 30)])) H72 := m74 0 (by decide)
          have hf : R9 = (setA A 16 (upd (A 16) j ((A 16 j) + 1))) := by rw [← hR]; unfold f_M_send_86; rw [if_neg c62, if_pos c65, if_neg c67, if_neg c69]
          exact hq_vret C hret hlk (Nat.le_of_ble_eq_true rfl) (Nat.le_of_ble_eq_true rfl) hL ⟨rfl, by rw [hf]; exact m74, hq_Sput (hS) u73 (by omega) (by omega)⟩ d_M_send_191
        · intro c69
          refine lv_aload_n C.1 C.2.1 d_M_send_173 rfl (lv_at hl 0 rfl) ?_
          refine lv_iload_n C.1 C.2.1 d_M_send_174 rfl (lv_at hl 1 rfl) ?_
          refine hq_callV (lo := lo) (As := [.int (nI j)]) (rest := []) C tb_good hml Y_M_151 (c_M_sentFrame l D cI cZ cN cJ lo b hlo th nn A j hj hw ok) k0 rfl (fun _ _ _ _ h => h) (fun U hU hW => by show hq_B D vwCl b 31 (mdC cI cZ b th nn A) U.heap; rw [hU]; exact hM) hL hl.1 rfl rfl ⟨⟨Nat.le_of_ble_eq_true rfl, Nat.le_of_ble_eq_true rfl⟩, Nat.le_of_ble_eq_true rfl, Nat.le_of_ble_eq_true rfl⟩ (Nat.le_of_ble_eq_true rfl) d_M_send_175 (fun v H77 locs hp hL => ?_)
          obtain ⟨rfl, m75, S76⟩ := hp
          refine W.eq (g2 := F0 m 178 ls []) rfl ?_
          have k0 : va_at D vwCl (b, .inr (6, [.int (th), .int (nn), .ref (b + 1), .ref (b + 2), .ref (b + 3), .ref (b + 4), .ref (b + 5), .ref (b + 6), .ref (b + 7), .ref (b + 8), .ref (b + 9), .ref (b + 10), .ref (b + 11), .ref (b + 12), .ref (b + 13), .ref (b + 14), .ref (b + 15), .ref (b + 16), .ref (b + 17), .ref (b + 18), .ref (b + 19), .ref (b + 20), .ref (b + 21), .ref (b + 22), .ref (b + 23), .ref (b + 24), .ref (b + 25), .ref (b + 26), .ref (b + 27), .ref (b + 28), .ref (b + 29), .ref (b + 30)])) H77 := m75 0 (by decide)
          refine lv_goto (tgt := 191) C.1 C.2.1 d_M_send_178 (by decide) ?_
          have hf : R9 = (f_M_sentFrame A j) := by rw [← hR]; unfold f_M_send_86; rw [if_neg c62, if_pos c65, if_neg c67, if_pos c69]
          exact hq_vret C hret hlk (Nat.le_of_ble_eq_true rfl) (Nat.le_of_ble_eq_true rfl) hL ⟨rfl, by rw [hf]; exact m75, hq_Scall (hS) S76 (by omega) (by omega)⟩ d_M_send_191
      · intro c67
        refine lv_aload_n C.1 C.2.1 d_M_send_151 rfl (lv_at hl 0 rfl) ?_
        refine lv_iload_n C.1 C.2.1 d_M_send_152 rfl (lv_at hl 1 rfl) ?_
        refine lv_iload_n C.1 C.2.1 d_M_send_153 rfl (lv_at hl 2 rfl) ?_
        refine hq_callV (lo := lo) (As := [.int (nI j), .int (v2)]) (rest := []) C tb_good hml Y_M_147 (c_M_readCore l D cI cZ cN cJ lo b hlo th nn A j hj v2) k0 rfl (fun _ _ _ _ h => h) (fun U hU hW => by show hq_B D vwCl b 31 (mdC cI cZ b th nn A) U.heap; rw [hU]; exact hM) hL hl.1 rfl rfl ⟨⟨Nat.le_of_ble_eq_true rfl, Nat.le_of_ble_eq_true rfl⟩, Nat.le_of_ble_eq_true rfl, Nat.le_of_ble_eq_true rfl⟩ (Nat.le_of_ble_eq_true rfl) d_M_send_154 (fun v H80 locs hp hL => ?_)
        obtain ⟨rfl, m78, S79⟩ := hp
        refine W.eq (g2 := F0 m 157 ls [.int ((f_M_readCore A j v2).2)]) rfl ?_
        have k0 : va_at D vwCl (b, .inr (6, [.int (th), .int (nn), .ref (b + 1), .ref (b + 2), .ref (b + 3), .ref (b + 4), .ref (b + 5), .ref (b + 6), .ref (b + 7), .ref (b + 8), .ref (b + 9), .ref (b + 10), .ref (b + 11), .ref (b + 12), .ref (b + 13), .ref (b + 14), .ref (b + 15), .ref (b + 16), .ref (b + 17), .ref (b + 18), .ref (b + 19), .ref (b + 20), .ref (b + 21), .ref (b + 22), .ref (b + 23), .ref (b + 24), .ref (b + 25), .ref (b + 26), .ref (b + 27), .ref (b + 28), .ref (b + 29), .ref (b + 30)])) H80 := m78 0 (by decide)
        refine lv_istore C.1 C.2.1 d_M_send_157 hl (by decide) rfl (lv' := [(4, .int ((f_M_readCore A j v2).2)), (0, .ref (b)), (1, .int (nI j)), (2, .int (v2))]) (fun ls hl => ?_)
        refine lv_goto (tgt := 191) C.1 C.2.1 d_M_send_159 (by decide) ?_
        have hf : R9 = (f_M_readCore A j v2).1 := by rw [← hR]; unfold f_M_send_86; rw [if_neg c62, if_pos c65, if_pos c67]
        exact hq_vret C hret hlk (Nat.le_of_ble_eq_true rfl) (Nat.le_of_ble_eq_true rfl) hL ⟨rfl, by rw [hf]; exact m78, hq_Scall (hS) S79 (by omega) (by omega)⟩ d_M_send_191
    · intro c65
      refine lv_aload_n C.1 C.2.1 d_M_send_132 rfl (lv_at hl 0 rfl) ?_
      refine lv_iload_n C.1 C.2.1 d_M_send_133 rfl (lv_at hl 1 rfl) ?_
      refine lv_iconst (v := 2) C.1 C.2.1 d_M_send_134 (by decide) ?_
      refine lv_iconst (v := 1) C.1 C.2.1 d_M_send_135 (by decide) ?_
      refine hq_callV (lo := lo) (As := [.int (nI j), .int (2), .int (1)]) (rest := []) C tb_good hml Y_M_143 (c_M_err l D cI cZ cN cJ lo b hlo th nn A j hj 2 1 (show vp_in (nI 2) 8 from vp_in_nI (by decide) (by decide))) k0 rfl (fun _ _ _ _ h => h) (fun U hU hW => by show hq_B D vwCl b 31 (mdC cI cZ b th nn A) U.heap; rw [hU]; exact hM) hL hl.1 rfl rfl ⟨⟨Nat.le_of_ble_eq_true rfl, Nat.le_of_ble_eq_true rfl⟩, Nat.le_of_ble_eq_true rfl, Nat.le_of_ble_eq_true rfl⟩ (Nat.le_of_ble_eq_true rfl) d_M_send_136 (fun v H83 locs hp hL => ?_)
      obtain ⟨rfl, m81, S82⟩ := hp
      refine W.eq (g2 := F0 m 139 ls []) rfl ?_
      have k0 : va_at D vwCl (b, .inr (6, [.int (th), .int (nn), .ref (b + 1), .ref (b + 2), .ref (b + 3), .ref (b + 4), .ref (b + 5), .ref (b + 6), .ref (b + 7), .ref (b + 8), .ref (b + 9), .ref (b + 10), .ref (b + 11), .ref (b + 12), .ref (b + 13), .ref (b + 14), .ref (b + 15), .ref (b + 16), .ref (b + 17), .ref (b + 18), .ref (b + 19), .ref (b + 20), .ref (b + 21), .ref (b + 22), .ref (b + 23), .ref (b + 24), .ref (b + 25), .ref (b + 26), .ref (b + 27), .ref (b + 28), .ref (b + 29), .ref (b + 30)])) H83 := m81 0 (by decide)
      refine lv_goto (tgt := 191) C.1 C.2.1 d_M_send_139 (by decide) ?_
      have hf : R9 = (f_M_err A j 2 1) := by rw [← hR]; unfold f_M_send_86; rw [if_neg c62, if_neg c65]
      exact hq_vret C hret hlk (Nat.le_of_ble_eq_true rfl) (Nat.le_of_ble_eq_true rfl) hL ⟨rfl, by rw [hf]; exact m81, hq_Scall (hS) S82 (by omega) (by omega)⟩ d_M_send_191
  · intro c62
    refine lv_iload_n C.1 C.2.1 d_M_send_96 rfl (lv_at hl 2 rfl) ?_
    refine lv_iconst (v := 1) C.1 C.2.1 d_M_send_97 (by decide) ?_
    refine lv_icmp_ne (tgt := 112) C.1 C.2.1 d_M_send_98 (by decide) ?_ ?_
    · intro c84
      refine lv_aload_n C.1 C.2.1 d_M_send_112 rfl (lv_at hl 0 rfl) ?_
      refine hq_get (v := .ref (b + 17)) C f_M_59 k0 rfl d_M_send_113 ?_
      refine lv_iload_n C.1 C.2.1 d_M_send_116 rfl (lv_at hl 1 rfl) ?_
      have e85 : va_at D vwCl (b + 17, .inl (cI, 4, .inl (A 16))) _ := hM 17 (by decide)
      refine hq_iald C 0 rfl e85 (vp_in_nI hj (by decide)) d_M_send_117 ?_
      rw [nI_clamp (show j < 2 ^ 31 by omega)]
      refine W.eq (g2 := F0 m 118 ls [.int (A 16 j)]) rfl ?_
      refine lv_iconst (v := 2) C.1 C.2.1 d_M_send_118 (by decide) ?_
      refine lv_icmp_eq (tgt := 142) C.1 C.2.1 d_M_send_119 (by decide) (fun _ => ?_) (fun hn => absurd c62 hn)
      refine lv_aload_n C.1 C.2.1 d_M_send_142 rfl (lv_at hl 0 rfl) ?_
      refine hq_get (v := .ref (b + 17)) C f_M_59 k0 rfl d_M_send_143 ?_
      refine lv_iload_n C.1 C.2.1 d_M_send_146 rfl (lv_at hl 1 rfl) ?_
      have e86 : va_at D vwCl (b + 17, .inl (cI, 4, .inl (A 16))) _ := hM 17 (by decide)
      refine hq_iald C 0 rfl e86 (vp_in_nI hj (by decide)) d_M_send_147 ?_
      rw [nI_clamp (show j < 2 ^ 31 by omega)]
      refine W.eq (g2 := F0 m 148 ls [.int (A 16 j)]) rfl ?_
      refine lv_if_ne (tgt := 162) C.1 C.2.1 d_M_send_148 (by decide) ?_ ?_
      · intro c87
        refine lv_aload_n C.1 C.2.1 d_M_send_162 rfl (lv_at hl 0 rfl) ?_
        refine hq_get (v := .ref (b + 17)) C f_M_59 k0 rfl d_M_send_163 ?_
        refine lv_iload_n C.1 C.2.1 d_M_send_166 rfl (lv_at hl 1 rfl) ?_
        have e88 : va_at D vwCl (b + 17, .inl (cI, 4, .inl (A 16))) _ := hM 17 (by decide)
        refine hq_iald C 0 rfl e88 (vp_in_nI hj (by decide)) d_M_send_167 ?_
        rw [nI_clamp (show j < 2 ^ 31 by omega)]
        refine W.eq (g2 := F0 m 168 ls [.int (A 16 j)]) rfl ?_
        refine lv_bipush (v := 10) C.1 C.2.1 d_M_send_168 (by decide) ?_
        refine lv_icmp_ne (tgt := 181) C.1 C.2.1 d_M_send_170 (by decide) ?_ ?_
        · intro c89
          refine lv_aload_n C.1 C.2.1 d_M_send_181 rfl (lv_at hl 0 rfl) ?_
          refine hq_get (v := .ref (b + 17)) C f_M_59 k0 rfl d_M_send_182 ?_
          refine lv_iload_n C.1 C.2.1 d_M_send_185 rfl (lv_at hl 1 rfl) ?_
          refine lv_dup2_11 C.1 C.2.1 d_M_send_186 rfl rfl ?_
          have e90 : va_at D vwCl (b + 17, .inl (cI, 4, .inl (A 16))) _ := hM 17 (by decide)
          refine hq_iald C 0 rfl e90 (vp_in_nI hj (by decide)) d_M_send_187 ?_
          rw [nI_clamp (show j < 2 ^ 31 by omega)]
          refine W.eq (g2 := F0 m 188 ls [.int (A 16 j), .int (nI j), .ref (b + 17)]) rfl ?_
          refine lv_iconst (v := 1) C.1 C.2.1 d_M_send_188 (by decide) ?_
          refine lv_iadd C.1 C.2.1 d_M_send_189 ?_
          have e91 : va_at D vwCl (b + 17, .inl (cI, 4, .inl (A 16))) _ := hM 17 (by decide)
          refine hq_iast (lo := lo) C 0 rfl e91 (vp_in_nI hj (by decide)) hL (by omega) d_M_send_190 (fun H92 locs u93 hL => ?_)
          rw [nI_clamp (show j < 2 ^ 31 by omega)] at u93
          have m94 := md_set (k := 16) (f := upd (A 16) j ((A 16 j) + 1)) hM u93
          have k0 : va_at D vwCl (b, .inr (6, [.int (th), .int (nn), .ref (b + 1), .ref (b + 2), .ref (b + 3), .ref (b + 4), .ref (b + 5), .ref (b + 6), .ref (b + 7), .ref (b + 8), .ref (b + 9), .ref (b + 10), .ref (b + 11), .ref (b + 12), .ref (b + 13), .ref (b + 14), .ref (b + 15), .ref (b + 16), .ref (b + 17), .ref (b + 18), .ref (b + 19), .ref (b + 20), .ref (b + 21), .ref (b + 22), .ref (b + 23), .ref (b + 24), .ref (b + 25), .ref (b + 26), .ref (b + 27), .ref (b + 28), .ref (b + 29), .ref (b + 30)])) H92 := m94 0 (by decide)
          have hf : R9 = (setA A 16 (upd (A 16) j ((A 16 j) + 1))) := by rw [← hR]; unfold f_M_send_86; rw [if_pos c62, if_neg c84, if_neg c87, if_neg c89]
          exact hq_vret C hret hlk (Nat.le_of_ble_eq_true rfl) (Nat.le_of_ble_eq_true rfl) hL ⟨rfl, by rw [hf]; exact m94, hq_Sput (hS) u93 (by omega) (by omega)⟩ d_M_send_191
        · intro c89
          refine lv_aload_n C.1 C.2.1 d_M_send_173 rfl (lv_at hl 0 rfl) ?_
          refine lv_iload_n C.1 C.2.1 d_M_send_174 rfl (lv_at hl 1 rfl) ?_
          refine hq_callV (lo := lo) (As := [.int (nI j)]) (rest := []) C tb_good hml Y_M_151 (c_M_sentFrame l D cI cZ cN cJ lo b hlo th nn A j hj hw ok) k0 rfl (fun _ _ _ _ h => h) (fun U hU hW => by show hq_B D vwCl b 31 (mdC cI cZ b th nn A) U.heap; rw [hU]; exact hM) hL hl.1 rfl rfl ⟨⟨Nat.le_of_ble_eq_true rfl, Nat.le_of_ble_eq_true rfl⟩, Nat.le_of_ble_eq_true rfl, Nat.le_of_ble_eq_true rfl⟩ (Nat.le_of_ble_eq_true rfl) d_M_send_175 (fun v H97 locs hp hL => ?_)
          obtain ⟨rfl, m95, S96⟩ := hp
          refine W.eq (g2 := F0 m 178 ls []) rfl ?_
          have k0 : va_at D vwCl (b, .inr (6, [.int (th), .int (nn), .ref (b + 1), .ref (b + 2), .ref (b + 3), .ref (b + 4), .ref (b + 5), .ref (b + 6), .ref (b + 7), .ref (b + 8), .ref (b + 9), .ref (b + 10), .ref (b + 11), .ref (b + 12), .ref (b + 13), .ref (b + 14), .ref (b + 15), .ref (b + 16), .ref (b + 17), .ref (b + 18), .ref (b + 19), .ref (b + 20), .ref (b + 21), .ref (b + 22), .ref (b + 23), .ref (b + 24), .ref (b + 25), .ref (b + 26), .ref (b + 27), .ref (b + 28), .ref (b + 29), .ref (b + 30)])) H97 := m95 0 (by decide)
          refine lv_goto (tgt := 191) C.1 C.2.1 d_M_send_178 (by decide) ?_
          have hf : R9 = (f_M_sentFrame A j) := by rw [← hR]; unfold f_M_send_86; rw [if_pos c62, if_neg c84, if_neg c87, if_pos c89]
          exact hq_vret C hret hlk (Nat.le_of_ble_eq_true rfl) (Nat.le_of_ble_eq_true rfl) hL ⟨rfl, by rw [hf]; exact m95, hq_Scall (hS) S96 (by omega) (by omega)⟩ d_M_send_191
      · intro c87
        refine lv_aload_n C.1 C.2.1 d_M_send_151 rfl (lv_at hl 0 rfl) ?_
        refine lv_iload_n C.1 C.2.1 d_M_send_152 rfl (lv_at hl 1 rfl) ?_
        refine lv_iload_n C.1 C.2.1 d_M_send_153 rfl (lv_at hl 2 rfl) ?_
        refine hq_callV (lo := lo) (As := [.int (nI j), .int (v2)]) (rest := []) C tb_good hml Y_M_147 (c_M_readCore l D cI cZ cN cJ lo b hlo th nn A j hj v2) k0 rfl (fun _ _ _ _ h => h) (fun U hU hW => by show hq_B D vwCl b 31 (mdC cI cZ b th nn A) U.heap; rw [hU]; exact hM) hL hl.1 rfl rfl ⟨⟨Nat.le_of_ble_eq_true rfl, Nat.le_of_ble_eq_true rfl⟩, Nat.le_of_ble_eq_true rfl, Nat.le_of_ble_eq_true rfl⟩ (Nat.le_of_ble_eq_true rfl) d_M_send_154 (fun v H100 locs hp hL => ?_)
        obtain ⟨rfl, m98, S99⟩ := hp
        refine W.eq (g2 := F0 m 157 ls [.int ((f_M_readCore A j v2).2)]) rfl ?_
        have k0 : va_at D vwCl (b, .inr (6, [.int (th), .int (nn), .ref (b + 1), .ref (b + 2), .ref (b + 3), .ref (b + 4), .ref (b + 5), .ref (b + 6), .ref (b + 7), .ref (b + 8), .ref (b + 9), .ref (b + 10), .ref (b + 11), .ref (b + 12), .ref (b + 13), .ref (b + 14), .ref (b + 15), .ref (b + 16), .ref (b + 17), .ref (b + 18), .ref (b + 19), .ref (b + 20), .ref (b + 21), .ref (b + 22), .ref (b + 23), .ref (b + 24), .ref (b + 25), .ref (b + 26), .ref (b + 27), .ref (b + 28), .ref (b + 29), .ref (b + 30)])) H100 := m98 0 (by decide)
        refine lv_istore C.1 C.2.1 d_M_send_157 hl (by decide) rfl (lv' := [(4, .int ((f_M_readCore A j v2).2)), (0, .ref (b)), (1, .int (nI j)), (2, .int (v2))]) (fun ls hl => ?_)
        refine lv_goto (tgt := 191) C.1 C.2.1 d_M_send_159 (by decide) ?_
        have hf : R9 = (f_M_readCore A j v2).1 := by rw [← hR]; unfold f_M_send_86; rw [if_pos c62, if_neg c84, if_pos c87]
        exact hq_vret C hret hlk (Nat.le_of_ble_eq_true rfl) (Nat.le_of_ble_eq_true rfl) hL ⟨rfl, by rw [hf]; exact m98, hq_Scall (hS) S99 (by omega) (by omega)⟩ d_M_send_191
    · intro c84
      refine lv_aload_n C.1 C.2.1 d_M_send_101 rfl (lv_at hl 0 rfl) ?_
      refine lv_iload_n C.1 C.2.1 d_M_send_102 rfl (lv_at hl 1 rfl) ?_
      refine lv_bipush (v := 6) C.1 C.2.1 d_M_send_103 (by decide) ?_
      refine lv_iconst (v := 1) C.1 C.2.1 d_M_send_105 (by decide) ?_
      refine hq_callV (lo := lo) (As := [.int (nI j), .int (6), .int (1)]) (rest := []) C tb_good hml Y_M_143 (c_M_err l D cI cZ cN cJ lo b hlo th nn A j hj 6 1 (show vp_in (nI 6) 8 from vp_in_nI (by decide) (by decide))) k0 rfl (fun _ _ _ _ h => h) (fun U hU hW => by show hq_B D vwCl b 31 (mdC cI cZ b th nn A) U.heap; rw [hU]; exact hM) hL hl.1 rfl rfl ⟨⟨Nat.le_of_ble_eq_true rfl, Nat.le_of_ble_eq_true rfl⟩, Nat.le_of_ble_eq_true rfl, Nat.le_of_ble_eq_true rfl⟩ (Nat.le_of_ble_eq_true rfl) d_M_send_106 (fun v H103 locs hp hL => ?_)
      obtain ⟨rfl, m101, S102⟩ := hp
      refine W.eq (g2 := F0 m 109 ls []) rfl ?_
      have k0 : va_at D vwCl (b, .inr (6, [.int (th), .int (nn), .ref (b + 1), .ref (b + 2), .ref (b + 3), .ref (b + 4), .ref (b + 5), .ref (b + 6), .ref (b + 7), .ref (b + 8), .ref (b + 9), .ref (b + 10), .ref (b + 11), .ref (b + 12), .ref (b + 13), .ref (b + 14), .ref (b + 15), .ref (b + 16), .ref (b + 17), .ref (b + 18), .ref (b + 19), .ref (b + 20), .ref (b + 21), .ref (b + 22), .ref (b + 23), .ref (b + 24), .ref (b + 25), .ref (b + 26), .ref (b + 27), .ref (b + 28), .ref (b + 29), .ref (b + 30)])) H103 := m101 0 (by decide)
      refine lv_goto (tgt := 191) C.1 C.2.1 d_M_send_109 (by decide) ?_
      have hf : R9 = (f_M_err A j 6 1) := by rw [← hR]; unfold f_M_send_86; rw [if_pos c62, if_pos c84]
      exact hq_vret C hret hlk (Nat.le_of_ble_eq_true rfl) (Nat.le_of_ble_eq_true rfl) hL ⟨rfl, by rw [hf]; exact m101, hq_Scall (hS) S102 (by omega) (by omega)⟩ d_M_send_191
set_option maxHeartbeats 4000000 in
set_option maxRecDepth 100000 in
theorem c_M_send (l : Launch) (D : va_G) (cI cZ cN cJ : ClassId) (lo : Nat) (b : Nat) (hlo : lo ≤ b) (th nn : Int32) (A : Nat → Nat → Int32) (j : Nat) (hj : j < 4) (x : Int32) (hw : ¬ A 9 j = 0) (ok : okA A) : hq_M l y_M_send b_M_send 5 none TB { frames := 4, cells := 0, slots := 0, locals := 92 } lo D vwCl (TY cI cZ cN cJ) [.ref (b), .int (nI j), .int (x)] (fun U => hq_B D vwCl b 31 (mdC cI cZ b th nn A) U.heap) (fun H v H' => v = none ∧ hq_B D vwCl b 31 (mdC cI cZ b th nn (f_M_send A j x)) H' ∧ hq_S b 31 H H') := by
  refine hq_ofW (by decide) (Nat.le_of_ble_eq_true rfl) ?_
  intro p e s m below meth c ls C hml hret hlk hnm hl hP
  have hL : hq_L lo [] := hq_L0
  have hl : lv_has ls 5 [(0, .ref (b)), (1, .int (nI j)), (2, .int (x))] := hl
  have hM : hq_B D vwCl b 31 (mdC cI cZ b th nn A) s.heap := hP
  have k0 : va_at D vwCl (b, .inr (6, [.int (th), .int (nn), .ref (b + 1), .ref (b + 2), .ref (b + 3), .ref (b + 4), .ref (b + 5), .ref (b + 6), .ref (b + 7), .ref (b + 8), .ref (b + 9), .ref (b + 10), .ref (b + 11), .ref (b + 12), .ref (b + 13), .ref (b + 14), .ref (b + 15), .ref (b + 16), .ref (b + 17), .ref (b + 18), .ref (b + 19), .ref (b + 20), .ref (b + 21), .ref (b + 22), .ref (b + 23), .ref (b + 24), .ref (b + 25), .ref (b + 26), .ref (b + 27), .ref (b + 28), .ref (b + 29), .ref (b + 30)])) s.heap := hM 0 (by decide)
  refine lv_aload_n C.1 C.2.1 d_M_send_0 rfl (lv_at hl 0 rfl) ?_
  refine hq_get (v := .ref (b + 17)) C f_M_59 k0 rfl d_M_send_1 ?_
  refine lv_iload_n C.1 C.2.1 d_M_send_4 rfl (lv_at hl 1 rfl) ?_
  have e41 : va_at D vwCl (b + 17, .inl (cI, 4, .inl (A 16))) _ := hM 17 (by decide)
  refine hq_iald C 0 rfl e41 (vp_in_nI hj (by decide)) d_M_send_5 ?_
  rw [nI_clamp (show j < 2 ^ 31 by omega)]
  refine W.eq (g2 := F0 m 6 ls [.int (A 16 j)]) rfl ?_
  refine lv_if_ne (tgt := 43) C.1 C.2.1 d_M_send_6 (by decide) ?_ ?_
  · intro c42
    refine lv_iconst (v := 0) C.1 C.2.1 d_M_send_43 (by decide) ?_
    refine lv_istore_n C.1 C.2.1 d_M_send_44 rfl hl (by decide) rfl (lv' := [(3, .int (0)), (0, .ref (b)), (1, .int (nI j)), (2, .int (x))]) (fun ls hl => ?_)
    refine lv_iload_n C.1 C.2.1 d_M_send_45 rfl (lv_at hl 0 rfl) ?_
    refine lv_if_eq (tgt := 86) C.1 C.2.1 d_M_send_46 (by decide) (fun _ => ?_) (fun hn => absurd (by decide) hn)
    exact s_M_send_86 D cI cZ cN cJ lo b hlo th nn A j hj x hw ok ((show f_M_send A j x = f_M_send_86 A j x from by unfold f_M_send; rw [if_neg c42]).symm) C hml hret hlk hL hM (hq_S0) (lv_push (lv_push (lv_push (lv_nil hl) (lv_at hl 3 rfl)) (lv_at hl 2 rfl)) (lv_at hl 1 rfl))
  · intro c42
    refine lv_aload_n C.1 C.2.1 d_M_send_9 rfl (lv_at hl 0 rfl) ?_
    refine hq_get (v := .ref (b + 19)) C f_M_65 k0 rfl d_M_send_10 ?_
    refine lv_iload_n C.1 C.2.1 d_M_send_13 rfl (lv_at hl 1 rfl) ?_
    have e43 : va_at D vwCl (b + 19, .inl (cI, 4, .inl (A 18))) _ := hM 19 (by decide)
    refine hq_iald C 0 rfl e43 (vp_in_nI hj (by decide)) d_M_send_14 ?_
    rw [nI_clamp (show j < 2 ^ 31 by omega)]
    refine W.eq (g2 := F0 m 15 ls [.int (A 18 j)]) rfl ?_
    refine lv_iconst (v := 5) C.1 C.2.1 d_M_send_15 (by decide) ?_
    refine lv_icmp_ge (tgt := 43) C.1 C.2.1 d_M_send_16 (by decide) ?_ ?_
    · intro c44
      refine lv_iconst (v := 0) C.1 C.2.1 d_M_send_43 (by decide) ?_
      refine lv_istore_n C.1 C.2.1 d_M_send_44 rfl hl (by decide) rfl (lv' := [(3, .int (0)), (0, .ref (b)), (1, .int (nI j)), (2, .int (x))]) (fun ls hl => ?_)
      refine lv_iload_n C.1 C.2.1 d_M_send_45 rfl (lv_at hl 0 rfl) ?_
      refine lv_if_eq (tgt := 86) C.1 C.2.1 d_M_send_46 (by decide) (fun _ => ?_) (fun hn => absurd (by decide) hn)
      exact s_M_send_86 D cI cZ cN cJ lo b hlo th nn A j hj x hw ok ((show f_M_send A j x = f_M_send_86 A j x from by unfold f_M_send; rw [if_pos c42, if_pos c44]).symm) C hml hret hlk hL hM (hq_S0) (lv_push (lv_push (lv_push (lv_nil hl) (lv_at hl 3 rfl)) (lv_at hl 2 rfl)) (lv_at hl 1 rfl))
    · intro c44
      refine lv_aload_n C.1 C.2.1 d_M_send_19 rfl (lv_at hl 0 rfl) ?_
      refine hq_get (v := .ref (b + 18)) C f_M_62 k0 rfl d_M_send_20 ?_
      refine lv_iload_n C.1 C.2.1 d_M_send_23 rfl (lv_at hl 1 rfl) ?_
      have e45 : va_at D vwCl (b + 18, .inl (cI, 4, .inl (A 17))) _ := hM 18 (by decide)
      refine hq_iald C 0 rfl e45 (vp_in_nI hj (by decide)) d_M_send_24 ?_
      rw [nI_clamp (show j < 2 ^ 31 by omega)]
      refine W.eq (g2 := F0 m 25 ls [.int (A 17 j)]) rfl ?_
      refine lv_if_le (tgt := 43) C.1 C.2.1 d_M_send_25 (by decide) ?_ ?_
      · intro c46
        refine lv_iconst (v := 0) C.1 C.2.1 d_M_send_43 (by decide) ?_
        refine lv_istore_n C.1 C.2.1 d_M_send_44 rfl hl (by decide) rfl (lv' := [(3, .int (0)), (0, .ref (b)), (1, .int (nI j)), (2, .int (x))]) (fun ls hl => ?_)
        refine lv_iload_n C.1 C.2.1 d_M_send_45 rfl (lv_at hl 0 rfl) ?_
        refine lv_if_eq (tgt := 86) C.1 C.2.1 d_M_send_46 (by decide) (fun _ => ?_) (fun hn => absurd (by decide) hn)
        exact s_M_send_86 D cI cZ cN cJ lo b hlo th nn A j hj x hw ok ((show f_M_send A j x = f_M_send_86 A j x from by unfold f_M_send; rw [if_pos c42, if_neg c44, if_pos c46]).symm) C hml hret hlk hL hM (hq_S0) (lv_push (lv_push (lv_push (lv_nil hl) (lv_at hl 3 rfl)) (lv_at hl 2 rfl)) (lv_at hl 1 rfl))
      · intro c46
        refine lv_aload_n C.1 C.2.1 d_M_send_28 rfl (lv_at hl 0 rfl) ?_
        refine hq_get (v := .ref (b + 18)) C f_M_62 k0 rfl d_M_send_29 ?_
        refine lv_iload_n C.1 C.2.1 d_M_send_32 rfl (lv_at hl 1 rfl) ?_
        have e47 : va_at D vwCl (b + 18, .inl (cI, 4, .inl (A 17))) _ := hM 18 (by decide)
        refine hq_iald C 0 rfl e47 (vp_in_nI hj (by decide)) d_M_send_33 ?_
        rw [nI_clamp (show j < 2 ^ 31 by omega)]
        refine W.eq (g2 := F0 m 34 ls [.int (A 17 j)]) rfl ?_
        refine lv_bipush (v := 12) C.1 C.2.1 d_M_send_34 (by decide) ?_
        refine lv_icmp_ge (tgt := 43) C.1 C.2.1 d_M_send_36 (by decide) ?_ ?_
        · intro c48
          refine lv_iconst (v := 0) C.1 C.2.1 d_M_send_43 (by decide) ?_
          refine lv_istore_n C.1 C.2.1 d_M_send_44 rfl hl (by decide) rfl (lv' := [(3, .int (0)), (0, .ref (b)), (1, .int (nI j)), (2, .int (x))]) (fun ls hl => ?_)
          refine lv_iload_n C.1 C.2.1 d_M_send_45 rfl (lv_at hl 0 rfl) ?_
          refine lv_if_eq (tgt := 86) C.1 C.2.1 d_M_send_46 (by decide) (fun _ => ?_) (fun hn => absurd (by decide) hn)
          exact s_M_send_86 D cI cZ cN cJ lo b hlo th nn A j hj x hw ok ((show f_M_send A j x = f_M_send_86 A j x from by unfold f_M_send; rw [if_pos c42, if_neg c44, if_neg c46, if_pos c48]).symm) C hml hret hlk hL hM (hq_S0) (lv_push (lv_push (lv_push (lv_nil hl) (lv_at hl 3 rfl)) (lv_at hl 2 rfl)) (lv_at hl 1 rfl))
        · intro c48
          refine lv_iconst (v := 1) C.1 C.2.1 d_M_send_39 (by decide) ?_
          refine lv_goto (tgt := 44) C.1 C.2.1 d_M_send_40 (by decide) ?_
          refine lv_istore_n C.1 C.2.1 d_M_send_44 rfl hl (by decide) rfl (lv' := [(3, .int (1)), (0, .ref (b)), (1, .int (nI j)), (2, .int (x))]) (fun ls hl => ?_)
          refine lv_iload_n C.1 C.2.1 d_M_send_45 rfl (lv_at hl 0 rfl) ?_
          refine lv_if_eq (tgt := 86) C.1 C.2.1 d_M_send_46 (by decide) (fun hn => absurd hn (by decide)) (fun _ => ?_)
          refine lv_aload_n C.1 C.2.1 d_M_send_49 rfl (lv_at hl 1 rfl) ?_
          refine hq_get (v := .ref (b + 30)) C f_M_98 k0 rfl d_M_send_50 ?_
          refine lv_iload_n C.1 C.2.1 d_M_send_53 rfl (lv_at hl 2 rfl) ?_
          have e49 : va_at D vwCl (b + 30, .inl (cI, 4, .inl (A 29))) _ := hM 30 (by decide)
          refine hq_iald C 0 rfl e49 (vp_in_nI hj (by decide)) d_M_send_54 ?_
          rw [nI_clamp (show j < 2 ^ 31 by omega)]
          refine W.eq (g2 := F0 m 55 ls [.int (A 29 j)]) rfl ?_
          refine lv_iconst (v := 1) C.1 C.2.1 d_M_send_55 (by decide) ?_
          refine lv_icmp_ne (tgt := 86) C.1 C.2.1 d_M_send_56 (by decide) ?_ ?_
          · intro c50
            exact s_M_send_86 D cI cZ cN cJ lo b hlo th nn A j hj x hw ok ((show f_M_send A j x = f_M_send_86 A j x from by unfold f_M_send; rw [if_pos c42, if_neg c44, if_neg c46, if_neg c48, if_neg c50]).symm) C hml hret hlk hL hM (hq_S0) (lv_push (lv_push (lv_push (lv_nil hl) (lv_at hl 3 rfl)) (lv_at hl 2 rfl)) (lv_at hl 1 rfl))
          · intro c50
            refine lv_iload_n C.1 C.2.1 d_M_send_59 rfl (lv_at hl 3 rfl) ?_
            refine lv_if_ne (tgt := 86) C.1 C.2.1 d_M_send_60 (by decide) ?_ ?_
            · intro c51
              exact s_M_send_86 D cI cZ cN cJ lo b hlo th nn A j hj x hw ok ((show f_M_send A j x = f_M_send_86 A j x from by unfold f_M_send; rw [if_pos c42, if_neg c44, if_neg c46, if_neg c48, if_pos c50, if_neg c51]).symm) C hml hret hlk hL hM (hq_S0) (lv_push (lv_push (lv_push (lv_nil hl) (lv_at hl 3 rfl)) (lv_at hl 2 rfl)) (lv_at hl 1 rfl))
            · intro c51
              refine lv_aload_n C.1 C.2.1 d_M_send_63 rfl (lv_at hl 1 rfl) ?_
              refine hq_get (v := .ref (b + 4)) C f_M_20 k0 rfl d_M_send_64 ?_
              refine lv_iload_n C.1 C.2.1 d_M_send_67 rfl (lv_at hl 2 rfl) ?_
              refine lv_iconst (v := 2) C.1 C.2.1 d_M_send_68 (by decide) ?_
              have e52 : va_at D vwCl (b + 4, .inl (cI, 4, .inl (A 3))) _ := hM 4 (by decide)
              refine hq_iast (lo := lo) C 0 rfl e52 (vp_in_nI hj (by decide)) hL (by omega) d_M_send_69 (fun H53 locs u54 hL => ?_)
              rw [nI_clamp (show j < 2 ^ 31 by omega)] at u54
              have m55 := md_set (k := 3) (f := upd (A 3) j 2) hM u54
              have k0 : va_at D vwCl (b, .inr (6, [.int (th), .int (nn), .ref (b + 1), .ref (b + 2), .ref (b + 3), .ref (b + 4), .ref (b + 5), .ref (b + 6), .ref (b + 7), .ref (b + 8), .ref (b + 9), .ref (b + 10), .ref (b + 11), .ref (b + 12), .ref (b + 13), .ref (b + 14), .ref (b + 15), .ref (b + 16), .ref (b + 17), .ref (b + 18), .ref (b + 19), .ref (b + 20), .ref (b + 21), .ref (b + 22), .ref (b + 23), .ref (b + 24), .ref (b + 25), .ref (b + 26), .ref (b + 27), .ref (b + 28), .ref (b + 29), .ref (b + 30)])) H53 := m55 0 (by decide)
              refine lv_aload_n C.1 C.2.1 d_M_send_70 rfl (lv_at hl 1 rfl) ?_
              refine hq_get (v := .ref (b + 29)) C f_M_95 k0 rfl d_M_send_71 ?_
              refine lv_iload_n C.1 C.2.1 d_M_send_74 rfl (lv_at hl 2 rfl) ?_
              refine lv_iconst (v := 2) C.1 C.2.1 d_M_send_75 (by decide) ?_
              have e56 : va_at D vwCl (b + 29, .inl (cI, 4, .inl (A 28))) _ := m55 29 (by decide)
              refine hq_iast (lo := lo) C 0 rfl e56 (vp_in_nI hj (by decide)) hL (by omega) d_M_send_76 (fun H57 locs u58 hL => ?_)
              rw [nI_clamp (show j < 2 ^ 31 by omega)] at u58
              have m59 := md_set (k := 28) (f := upd (A 28) j 2) m55 u58
              have k0 : va_at D vwCl (b, .inr (6, [.int (th), .int (nn), .ref (b + 1), .ref (b + 2), .ref (b + 3), .ref (b + 4), .ref (b + 5), .ref (b + 6), .ref (b + 7), .ref (b + 8), .ref (b + 9), .ref (b + 10), .ref (b + 11), .ref (b + 12), .ref (b + 13), .ref (b + 14), .ref (b + 15), .ref (b + 16), .ref (b + 17), .ref (b + 18), .ref (b + 19), .ref (b + 20), .ref (b + 21), .ref (b + 22), .ref (b + 23), .ref (b + 24), .ref (b + 25), .ref (b + 26), .ref (b + 27), .ref (b + 28), .ref (b + 29), .ref (b + 30)])) H57 := m59 0 (by decide)
              refine lv_aload_n C.1 C.2.1 d_M_send_77 rfl (lv_at hl 1 rfl) ?_
              refine lv_iload_n C.1 C.2.1 d_M_send_78 rfl (lv_at hl 2 rfl) ?_
              refine lv_iload_n C.1 C.2.1 d_M_send_79 rfl (lv_at hl 3 rfl) ?_
              refine hq_callV (lo := lo) (As := [.int (nI j), .int (x)]) (rest := []) C tb_good hml Y_M_140 (c_M_hear l D cI cZ cN cJ lo b hlo th nn (setA (setA A 3 (upd (A 3) j 2)) 28 (upd (A 28) j 2)) j hj x (okA_o (by decide) (okA_3 (v := 2) rfl (fun h9 => absurd h9 (by decide)) ok))) k0 rfl (fun _ _ _ _ h => h) (fun U hU hW => by show hq_B D vwCl b 31 (mdC cI cZ b th nn (setA (setA A 3 (upd (A 3) j 2)) 28 (upd (A 28) j 2))) U.heap; rw [hU]; exact m59) hL hl.1 rfl rfl ⟨⟨Nat.le_of_ble_eq_true rfl, Nat.le_of_ble_eq_true rfl⟩, Nat.le_of_ble_eq_true rfl, Nat.le_of_ble_eq_true rfl⟩ (Nat.le_of_ble_eq_true rfl) d_M_send_80 (fun v H62 locs hp hL => ?_)
              obtain ⟨rfl, m60, S61⟩ := hp
              refine W.eq (g2 := F0 m 83 ls []) rfl ?_
              have k0 : va_at D vwCl (b, .inr (6, [.int (th), .int (nn), .ref (b + 1), .ref (b + 2), .ref (b + 3), .ref (b + 4), .ref (b + 5), .ref (b + 6), .ref (b + 7), .ref (b + 8), .ref (b + 9), .ref (b + 10), .ref (b + 11), .ref (b + 12), .ref (b + 13), .ref (b + 14), .ref (b + 15), .ref (b + 16), .ref (b + 17), .ref (b + 18), .ref (b + 19), .ref (b + 20), .ref (b + 21), .ref (b + 22), .ref (b + 23), .ref (b + 24), .ref (b + 25), .ref (b + 26), .ref (b + 27), .ref (b + 28), .ref (b + 29), .ref (b + 30)])) H62 := m60 0 (by decide)
              refine lv_goto (tgt := 191) C.1 C.2.1 d_M_send_83 (by decide) ?_
              have hf : f_M_send A j x = (f_M_hear (setA (setA A 3 (upd (A 3) j 2)) 28 (upd (A 28) j 2)) j x) := by unfold f_M_send; rw [if_pos c42, if_neg c44, if_neg c46, if_neg c48, if_pos c50, if_pos c51]
              exact hq_vret C hret hlk (Nat.le_of_ble_eq_true rfl) (Nat.le_of_ble_eq_true rfl) hL ⟨rfl, by rw [hf]; exact m60, hq_Scall (hq_Sput (hq_Sput (hq_S0) u54 (by omega) (by omega)) u58 (by omega) (by omega)) S61 (by omega) (by omega)⟩ d_M_send_191
set_option maxHeartbeats 4000000 in
set_option maxRecDepth 100000 in
theorem ok_M_send_86 (A : Nat → Nat → Int32) (j : Nat) (hj : j < 4) (v2 : Int32) (hw : ¬ A 9 j = 0) (ok : okA A) : okA (f_M_send_86 A j v2) := by
  unfold f_M_send_86
  by_cases c62 : (A 16 j) = 2
  · rw [if_pos c62]
    by_cases c84 : v2 = 1
    · rw [if_pos c84]
      exact (ok_M_err A j hj 6 1 (show vp_in (nI 6) 8 from vp_in_nI (by decide) (by decide)) ok)
    · rw [if_neg c84]
      by_cases c87 : (A 16 j) = 0
      · rw [if_pos c87]
        exact (ok_M_readCore A j hj v2 ok)
      · rw [if_neg c87]
        by_cases c89 : (A 16 j) = 10
        · rw [if_pos c89]
          exact (ok_M_sentFrame A j hj hw ok)
        · rw [if_neg c89]
          exact (okA_o (by decide) ok)
  · rw [if_neg c62]
    by_cases c65 : v2 = (A 29 j)
    · rw [if_pos c65]
      by_cases c67 : (A 16 j) = 0
      · rw [if_pos c67]
        exact (ok_M_readCore A j hj v2 ok)
      · rw [if_neg c67]
        by_cases c69 : (A 16 j) = 10
        · rw [if_pos c69]
          exact (ok_M_sentFrame A j hj hw ok)
        · rw [if_neg c69]
          exact (okA_o (by decide) ok)
    · rw [if_neg c65]
      exact (ok_M_err A j hj 2 1 (show vp_in (nI 2) 8 from vp_in_nI (by decide) (by decide)) ok)
set_option maxHeartbeats 4000000 in
set_option maxRecDepth 100000 in
theorem ok_M_send (A : Nat → Nat → Int32) (j : Nat) (hj : j < 4) (x : Int32) (hw : ¬ A 9 j = 0) (ok : okA A) : okA (f_M_send A j x) := by
  unfold f_M_send
  by_cases c42 : (A 16 j) = 0
  · rw [if_pos c42]
    by_cases c44 : 5 ≤ (A 18 j)
    · rw [if_pos c44]
      exact ok_M_send_86 A j hj x hw ok
    · rw [if_neg c44]
      by_cases c46 : (A 17 j) ≤ 0
      · rw [if_pos c46]
        exact ok_M_send_86 A j hj x hw ok
      · rw [if_neg c46]
        by_cases c48 : 12 ≤ (A 17 j)
        · rw [if_pos c48]
          exact ok_M_send_86 A j hj x hw ok
        · rw [if_neg c48]
          by_cases c50 : (A 29 j) = 1
          · rw [if_pos c50]
            by_cases c51 : x = 0
            · rw [if_pos c51]
              exact (ok_M_hear (setA (setA A 3 (upd (A 3) j 2)) 28 (upd (A 28) j 2)) j hj x (okA_o (by decide) (okA_3 (v := 2) rfl (fun h9 => absurd h9 (by decide)) ok)))
            · rw [if_neg c51]
              exact ok_M_send_86 A j hj x hw ok
          · rw [if_neg c50]
            exact ok_M_send_86 A j hj x hw ok
  · rw [if_neg c42]
    exact ok_M_send_86 A j hj x hw ok
def f_M_start (A : Nat → Nat → Int32) (j : Nat) : Nat → Nat → Int32 := (f_M_hear (f_M_open A j 2) j 0)
set_option maxHeartbeats 4000000 in
set_option maxRecDepth 100000 in
theorem c_M_start (l : Launch) (D : va_G) (cI cZ cN cJ : ClassId) (lo : Nat) (b : Nat) (hlo : lo ≤ b) (th nn : Int32) (A : Nat → Nat → Int32) (j : Nat) (hj : j < 4) (ok : okA A) : hq_M l y_M_start b_M_start 2 none TB { frames := 4, cells := 0, slots := 0, locals := 92 } lo D vwCl (TY cI cZ cN cJ) [.ref (b), .int (nI j)] (fun U => hq_B D vwCl b 31 (mdC cI cZ b th nn A) U.heap) (fun H v H' => v = none ∧ hq_B D vwCl b 31 (mdC cI cZ b th nn (f_M_start A j)) H' ∧ hq_S b 31 H H') := by
  refine hq_ofW (by decide) (Nat.le_of_ble_eq_true rfl) ?_
  intro p e s m below meth c ls C hml hret hlk hnm hl hP
  have hL : hq_L lo [] := hq_L0
  have hl : lv_has ls 2 [(0, .ref (b)), (1, .int (nI j))] := hl
  have hM : hq_B D vwCl b 31 (mdC cI cZ b th nn A) s.heap := hP
  have k0 : va_at D vwCl (b, .inr (6, [.int (th), .int (nn), .ref (b + 1), .ref (b + 2), .ref (b + 3), .ref (b + 4), .ref (b + 5), .ref (b + 6), .ref (b + 7), .ref (b + 8), .ref (b + 9), .ref (b + 10), .ref (b + 11), .ref (b + 12), .ref (b + 13), .ref (b + 14), .ref (b + 15), .ref (b + 16), .ref (b + 17), .ref (b + 18), .ref (b + 19), .ref (b + 20), .ref (b + 21), .ref (b + 22), .ref (b + 23), .ref (b + 24), .ref (b + 25), .ref (b + 26), .ref (b + 27), .ref (b + 28), .ref (b + 29), .ref (b + 30)])) s.heap := hM 0 (by decide)
  refine lv_aload_n C.1 C.2.1 d_M_start_0 rfl (lv_at hl 0 rfl) ?_
  refine lv_iload_n C.1 C.2.1 d_M_start_1 rfl (lv_at hl 1 rfl) ?_
  refine lv_iconst (v := 2) C.1 C.2.1 d_M_start_2 (by decide) ?_
  refine hq_callV (lo := lo) (As := [.int (nI j), .int (2)]) (rest := []) C tb_good hml Y_M_112 (c_M_open l D cI cZ cN cJ lo b hlo th nn A j hj 2) k0 rfl (fun _ _ _ _ h => h) (fun U hU hW => by show hq_B D vwCl b 31 (mdC cI cZ b th nn A) U.heap; rw [hU]; exact hM) hL hl.1 rfl rfl ⟨⟨Nat.le_of_ble_eq_true rfl, Nat.le_of_ble_eq_true rfl⟩, Nat.le_of_ble_eq_true rfl, Nat.le_of_ble_eq_true rfl⟩ (Nat.le_of_ble_eq_true rfl) d_M_start_3 (fun v H43 locs hp hL => ?_)
  obtain ⟨rfl, m41, S42⟩ := hp
  refine W.eq (g2 := F0 m 6 ls []) rfl ?_
  have k0 : va_at D vwCl (b, .inr (6, [.int (th), .int (nn), .ref (b + 1), .ref (b + 2), .ref (b + 3), .ref (b + 4), .ref (b + 5), .ref (b + 6), .ref (b + 7), .ref (b + 8), .ref (b + 9), .ref (b + 10), .ref (b + 11), .ref (b + 12), .ref (b + 13), .ref (b + 14), .ref (b + 15), .ref (b + 16), .ref (b + 17), .ref (b + 18), .ref (b + 19), .ref (b + 20), .ref (b + 21), .ref (b + 22), .ref (b + 23), .ref (b + 24), .ref (b + 25), .ref (b + 26), .ref (b + 27), .ref (b + 28), .ref (b + 29), .ref (b + 30)])) H43 := m41 0 (by decide)
  refine lv_aload_n C.1 C.2.1 d_M_start_6 rfl (lv_at hl 0 rfl) ?_
  refine lv_iload_n C.1 C.2.1 d_M_start_7 rfl (lv_at hl 1 rfl) ?_
  refine lv_iconst (v := 0) C.1 C.2.1 d_M_start_8 (by decide) ?_
  refine hq_callV (lo := lo) (As := [.int (nI j), .int (0)]) (rest := []) C tb_good hml Y_M_140 (c_M_hear l D cI cZ cN cJ lo b hlo th nn (f_M_open A j 2) j hj 0 (ok_M_open A j hj 2 (fun h9 => absurd h9 (by decide)) ok)) k0 rfl (fun _ _ _ _ h => h) (fun U hU hW => by show hq_B D vwCl b 31 (mdC cI cZ b th nn (f_M_open A j 2)) U.heap; rw [hU]; exact m41) hL hl.1 rfl rfl ⟨⟨Nat.le_of_ble_eq_true rfl, Nat.le_of_ble_eq_true rfl⟩, Nat.le_of_ble_eq_true rfl, Nat.le_of_ble_eq_true rfl⟩ (Nat.le_of_ble_eq_true rfl) d_M_start_9 (fun v H46 locs hp hL => ?_)
  obtain ⟨rfl, m44, S45⟩ := hp
  refine W.eq (g2 := F0 m 12 ls []) rfl ?_
  have k0 : va_at D vwCl (b, .inr (6, [.int (th), .int (nn), .ref (b + 1), .ref (b + 2), .ref (b + 3), .ref (b + 4), .ref (b + 5), .ref (b + 6), .ref (b + 7), .ref (b + 8), .ref (b + 9), .ref (b + 10), .ref (b + 11), .ref (b + 12), .ref (b + 13), .ref (b + 14), .ref (b + 15), .ref (b + 16), .ref (b + 17), .ref (b + 18), .ref (b + 19), .ref (b + 20), .ref (b + 21), .ref (b + 22), .ref (b + 23), .ref (b + 24), .ref (b + 25), .ref (b + 26), .ref (b + 27), .ref (b + 28), .ref (b + 29), .ref (b + 30)])) H46 := m44 0 (by decide)
  have hf : f_M_start A j = (f_M_hear (f_M_open A j 2) j 0) := rfl
  exact hq_vret C hret hlk (Nat.le_of_ble_eq_true rfl) (Nat.le_of_ble_eq_true rfl) hL ⟨rfl, by rw [hf]; exact m44, hq_Scall (hq_Scall (hq_S0) S42 (by omega) (by omega)) S45 (by omega) (by omega)⟩ d_M_start_12
set_option maxHeartbeats 4000000 in
set_option maxRecDepth 100000 in
theorem ok_M_start (A : Nat → Nat → Int32) (j : Nat) (hj : j < 4) (ok : okA A) : okA (f_M_start A j) := by
  exact (ok_M_hear (f_M_open A j 2) j hj 0 (ok_M_open A j hj 2 (fun h9 => absurd h9 (by decide)) ok))
def f_M_pausing (A : Nat → Nat → Int32) (j : Nat) (x : Int32) : Nat → Nat → Int32 := if x = 0 then (if 3 ≤ ((A 26 j) + 1) then ((f_M_start (setA A 26 (upd (A 26) j ((A 26 j) + 1))) j)) else ((f_M_overload (setA A 26 (upd (A 26) j ((A 26 j) + 1))) j))) else (if ((A 26 j) + 1) = 3 then (if ((f_M_isPassive (setA A 26 (upd (A 26) j ((A 26 j) + 1))) j)) = 0 then ((setA (setA (setA A 26 (upd (A 26) j ((A 26 j) + 1))) 3 (upd (A 3) j 0)) 26 (upd (upd (A 26) j ((A 26 j) + 1)) j 0))) else (if (A 28 j) = 1 then ((setA (setA (setA A 26 (upd (A 26) j ((A 26 j) + 1))) 3 (upd (A 3) j 6)) 26 (upd (upd (A 26) j ((A 26 j) + 1)) j 0))) else ((setA (setA (setA A 26 (upd (A 26) j ((A 26 j) + 1))) 3 (upd (A 3) j 0)) 26 (upd (upd (A 26) j ((A 26 j) + 1)) j 0))))) else ((setA A 26 (upd (A 26) j ((A 26 j) + 1)))))
set_option maxHeartbeats 4000000 in
set_option maxRecDepth 100000 in
theorem c_M_pausing (l : Launch) (D : va_G) (cI cZ cN cJ : ClassId) (lo : Nat) (b : Nat) (hlo : lo ≤ b) (th nn : Int32) (A : Nat → Nat → Int32) (j : Nat) (hj : j < 4) (x : Int32) (ok : okA A) : hq_M l y_M_pausing b_M_pausing 3 none TB { frames := 5, cells := 0, slots := 0, locals := 113 } lo D vwCl (TY cI cZ cN cJ) [.ref (b), .int (nI j), .int (x)] (fun U => hq_B D vwCl b 31 (mdC cI cZ b th nn A) U.heap) (fun H v H' => v = none ∧ hq_B D vwCl b 31 (mdC cI cZ b th nn (f_M_pausing A j x)) H' ∧ hq_S b 31 H H') := by
  refine hq_ofW (by decide) (Nat.le_of_ble_eq_true rfl) ?_
  intro p e s m below meth c ls C hml hret hlk hnm hl hP
  have hL : hq_L lo [] := hq_L0
  have hl : lv_has ls 3 [(0, .ref (b)), (1, .int (nI j)), (2, .int (x))] := hl
  have hM : hq_B D vwCl b 31 (mdC cI cZ b th nn A) s.heap := hP
  have k0 : va_at D vwCl (b, .inr (6, [.int (th), .int (nn), .ref (b + 1), .ref (b + 2), .ref (b + 3), .ref (b + 4), .ref (b + 5), .ref (b + 6), .ref (b + 7), .ref (b + 8), .ref (b + 9), .ref (b + 10), .ref (b + 11), .ref (b + 12), .ref (b + 13), .ref (b + 14), .ref (b + 15), .ref (b + 16), .ref (b + 17), .ref (b + 18), .ref (b + 19), .ref (b + 20), .ref (b + 21), .ref (b + 22), .ref (b + 23), .ref (b + 24), .ref (b + 25), .ref (b + 26), .ref (b + 27), .ref (b + 28), .ref (b + 29), .ref (b + 30)])) s.heap := hM 0 (by decide)
  refine lv_aload_n C.1 C.2.1 d_M_pausing_0 rfl (lv_at hl 0 rfl) ?_
  refine hq_get (v := .ref (b + 27)) C f_M_89 k0 rfl d_M_pausing_1 ?_
  refine lv_iload_n C.1 C.2.1 d_M_pausing_4 rfl (lv_at hl 1 rfl) ?_
  refine lv_dup2_11 C.1 C.2.1 d_M_pausing_5 rfl rfl ?_
  have e41 : va_at D vwCl (b + 27, .inl (cI, 4, .inl (A 26))) _ := hM 27 (by decide)
  refine hq_iald C 0 rfl e41 (vp_in_nI hj (by decide)) d_M_pausing_6 ?_
  rw [nI_clamp (show j < 2 ^ 31 by omega)]
  refine W.eq (g2 := F0 m 7 ls [.int (A 26 j), .int (nI j), .ref (b + 27)]) rfl ?_
  refine lv_iconst (v := 1) C.1 C.2.1 d_M_pausing_7 (by decide) ?_
  refine lv_iadd C.1 C.2.1 d_M_pausing_8 ?_
  have e42 : va_at D vwCl (b + 27, .inl (cI, 4, .inl (A 26))) _ := hM 27 (by decide)
  refine hq_iast (lo := lo) C 0 rfl e42 (vp_in_nI hj (by decide)) hL (by omega) d_M_pausing_9 (fun H43 locs u44 hL => ?_)
  rw [nI_clamp (show j < 2 ^ 31 by omega)] at u44
  have m45 := md_set (k := 26) (f := upd (A 26) j ((A 26 j) + 1)) hM u44
  have k0 : va_at D vwCl (b, .inr (6, [.int (th), .int (nn), .ref (b + 1), .ref (b + 2), .ref (b + 3), .ref (b + 4), .ref (b + 5), .ref (b + 6), .ref (b + 7), .ref (b + 8), .ref (b + 9), .ref (b + 10), .ref (b + 11), .ref (b + 12), .ref (b + 13), .ref (b + 14), .ref (b + 15), .ref (b + 16), .ref (b + 17), .ref (b + 18), .ref (b + 19), .ref (b + 20), .ref (b + 21), .ref (b + 22), .ref (b + 23), .ref (b + 24), .ref (b + 25), .ref (b + 26), .ref (b + 27), .ref (b + 28), .ref (b + 29), .ref (b + 30)])) H43 := m45 0 (by decide)
  refine lv_iload_n C.1 C.2.1 d_M_pausing_10 rfl (lv_at hl 2 rfl) ?_
  refine lv_if_ne (tgt := 40) C.1 C.2.1 d_M_pausing_11 (by decide) ?_ ?_
  · intro c46
    refine lv_aload_n C.1 C.2.1 d_M_pausing_40 rfl (lv_at hl 0 rfl) ?_
    refine hq_get (v := .ref (b + 27)) C f_M_89 k0 rfl d_M_pausing_41 ?_
    refine lv_iload_n C.1 C.2.1 d_M_pausing_44 rfl (lv_at hl 1 rfl) ?_
    have e47 : va_at D vwCl (b + 27, .inl (cI, 4, .inl (upd (A 26) j ((A 26 j) + 1)))) _ := m45 27 (by decide)
    refine hq_iald C 0 rfl e47 (vp_in_nI hj (by decide)) d_M_pausing_45 ?_
    rw [nI_clamp (show j < 2 ^ 31 by omega)]
    rw [show (upd (A 26) j ((A 26 j) + 1)) j = (A 26 j) + 1 from pk_us]
    refine W.eq (g2 := F0 m 46 ls [.int ((A 26 j) + 1)]) rfl ?_
    refine lv_iconst (v := 3) C.1 C.2.1 d_M_pausing_46 (by decide) ?_
    refine lv_icmp_ne (tgt := 87) C.1 C.2.1 d_M_pausing_47 (by decide) ?_ ?_
    · intro c48
      have hf : f_M_pausing A j x = (setA A 26 (upd (A 26) j ((A 26 j) + 1))) := by unfold f_M_pausing; rw [if_neg c46, if_neg c48]
      exact hq_vret C hret hlk (Nat.le_of_ble_eq_true rfl) (Nat.le_of_ble_eq_true rfl) hL ⟨rfl, by rw [hf]; exact m45, hq_Sput (hq_S0) u44 (by omega) (by omega)⟩ d_M_pausing_87
    · intro c48
      refine lv_aload_n C.1 C.2.1 d_M_pausing_50 rfl (lv_at hl 0 rfl) ?_
      refine hq_get (v := .ref (b + 4)) C f_M_20 k0 rfl d_M_pausing_51 ?_
      refine lv_iload_n C.1 C.2.1 d_M_pausing_54 rfl (lv_at hl 1 rfl) ?_
      refine lv_aload_n C.1 C.2.1 d_M_pausing_55 rfl (lv_at hl 0 rfl) ?_
      refine lv_iload_n C.1 C.2.1 d_M_pausing_56 rfl (lv_at hl 1 rfl) ?_
      refine hq_callV (lo := lo) (As := [.int (nI j)]) (rest := [.int (nI j), .ref (b + 4)]) C tb_good hml Y_M_123 (c_M_isPassive l D cI cZ cN cJ lo b th nn (setA A 26 (upd (A 26) j ((A 26 j) + 1))) j hj) k0 rfl (fun _ _ _ _ h => h) (fun U hU hW => by show hq_B D vwCl b 31 (mdC cI cZ b th nn (setA A 26 (upd (A 26) j ((A 26 j) + 1)))) U.heap; rw [hU]; exact m45) hL hl.1 rfl rfl ⟨⟨Nat.le_of_ble_eq_true rfl, Nat.le_of_ble_eq_true rfl⟩, Nat.le_of_ble_eq_true rfl, Nat.le_of_ble_eq_true rfl⟩ (Nat.le_of_ble_eq_true rfl) d_M_pausing_57 (fun v H49 locs hp hL => ?_)
      obtain ⟨rfl, rfl⟩ := hp
      refine W.eq (g2 := F0 m 60 ls [.int ((f_M_isPassive (setA A 26 (upd (A 26) j ((A 26 j) + 1))) j)), .int (nI j), .ref (b + 4)]) rfl ?_
      refine lv_if_eq (tgt := 78) C.1 C.2.1 d_M_pausing_60 (by decide) ?_ ?_
      · intro c50
        refine lv_iconst (v := 0) C.1 C.2.1 d_M_pausing_78 (by decide) ?_
        have e51 : va_at D vwCl (b + 4, .inl (cI, 4, .inl (A 3))) _ := m45 4 (by decide)
        refine hq_iast (lo := lo) C 0 rfl e51 (vp_in_nI hj (by decide)) hL (by omega) d_M_pausing_79 (fun H52 locs u53 hL => ?_)
        rw [nI_clamp (show j < 2 ^ 31 by omega)] at u53
        have m54 := md_set (k := 3) (f := upd (A 3) j 0) m45 u53
        have k0 : va_at D vwCl (b, .inr (6, [.int (th), .int (nn), .ref (b + 1), .ref (b + 2), .ref (b + 3), .ref (b + 4), .ref (b + 5), .ref (b + 6), .ref (b + 7), .ref (b + 8), .ref (b + 9), .ref (b + 10), .ref (b + 11), .ref (b + 12), .ref (b + 13), .ref (b + 14), .ref (b + 15), .ref (b + 16), .ref (b + 17), .ref (b + 18), .ref (b + 19), .ref (b + 20), .ref (b + 21), .ref (b + 22), .ref (b + 23), .ref (b + 24), .ref (b + 25), .ref (b + 26), .ref (b + 27), .ref (b + 28), .ref (b + 29), .ref (b + 30)])) H52 := m54 0 (by decide)
        refine lv_aload_n C.1 C.2.1 d_M_pausing_80 rfl (lv_at hl 0 rfl) ?_
        refine hq_get (v := .ref (b + 27)) C f_M_89 k0 rfl d_M_pausing_81 ?_
        refine lv_iload_n C.1 C.2.1 d_M_pausing_84 rfl (lv_at hl 1 rfl) ?_
        refine lv_iconst (v := 0) C.1 C.2.1 d_M_pausing_85 (by decide) ?_
        have e55 : va_at D vwCl (b + 27, .inl (cI, 4, .inl (upd (A 26) j ((A 26 j) + 1)))) _ := m54 27 (by decide)
        refine hq_iast (lo := lo) C 0 rfl e55 (vp_in_nI hj (by decide)) hL (by omega) d_M_pausing_86 (fun H56 locs u57 hL => ?_)
        rw [nI_clamp (show j < 2 ^ 31 by omega)] at u57
        have m58 := md_set (k := 26) (f := upd (upd (A 26) j ((A 26 j) + 1)) j 0) m54 u57
        have k0 : va_at D vwCl (b, .inr (6, [.int (th), .int (nn), .ref (b + 1), .ref (b + 2), .ref (b + 3), .ref (b + 4), .ref (b + 5), .ref (b + 6), .ref (b + 7), .ref (b + 8), .ref (b + 9), .ref (b + 10), .ref (b + 11), .ref (b + 12), .ref (b + 13), .ref (b + 14), .ref (b + 15), .ref (b + 16), .ref (b + 17), .ref (b + 18), .ref (b + 19), .ref (b + 20), .ref (b + 21), .ref (b + 22), .ref (b + 23), .ref (b + 24), .ref (b + 25), .ref (b + 26), .ref (b + 27), .ref (b + 28), .ref (b + 29), .ref (b + 30)])) H56 := m58 0 (by decide)
        have hf : f_M_pausing A j x = (setA (setA (setA A 26 (upd (A 26) j ((A 26 j) + 1))) 3 (upd (A 3) j 0)) 26 (upd (upd (A 26) j ((A 26 j) + 1)) j 0)) := by unfold f_M_pausing; rw [if_neg c46, if_pos c48, if_pos c50]
        exact hq_vret C hret hlk (Nat.le_of_ble_eq_true rfl) (Nat.le_of_ble_eq_true rfl) hL ⟨rfl, by rw [hf]; exact m58, hq_Sput (hq_Sput (hq_Sput (hq_S0) u44 (by omega) (by omega)) u53 (by omega) (by omega)) u57 (by omega) (by omega)⟩ d_M_pausing_87
      · intro c50
        refine lv_aload_n C.1 C.2.1 d_M_pausing_63 rfl (lv_at hl 0 rfl) ?_
        refine hq_get (v := .ref (b + 29)) C f_M_95 k0 rfl d_M_pausing_64 ?_
        refine lv_iload_n C.1 C.2.1 d_M_pausing_67 rfl (lv_at hl 1 rfl) ?_
        have e59 : va_at D vwCl (b + 29, .inl (cI, 4, .inl (A 28))) _ := m45 29 (by decide)
        refine hq_iald C 0 rfl e59 (vp_in_nI hj (by decide)) d_M_pausing_68 ?_
        rw [nI_clamp (show j < 2 ^ 31 by omega)]
        refine W.eq (g2 := F0 m 69 ls [.int (A 28 j), .int (nI j), .ref (b + 4)]) rfl ?_
        refine lv_iconst (v := 1) C.1 C.2.1 d_M_pausing_69 (by decide) ?_
        refine lv_icmp_ne (tgt := 78) C.1 C.2.1 d_M_pausing_70 (by decide) ?_ ?_
        · intro c60
          refine lv_iconst (v := 0) C.1 C.2.1 d_M_pausing_78 (by decide) ?_
          have e61 : va_at D vwCl (b + 4, .inl (cI, 4, .inl (A 3))) _ := m45 4 (by decide)
          refine hq_iast (lo := lo) C 0 rfl e61 (vp_in_nI hj (by decide)) hL (by omega) d_M_pausing_79 (fun H62 locs u63 hL => ?_)
          rw [nI_clamp (show j < 2 ^ 31 by omega)] at u63
          have m64 := md_set (k := 3) (f := upd (A 3) j 0) m45 u63
          have k0 : va_at D vwCl (b, .inr (6, [.int (th), .int (nn), .ref (b + 1), .ref (b + 2), .ref (b + 3), .ref (b + 4), .ref (b + 5), .ref (b + 6), .ref (b + 7), .ref (b + 8), .ref (b + 9), .ref (b + 10), .ref (b + 11), .ref (b + 12), .ref (b + 13), .ref (b + 14), .ref (b + 15), .ref (b + 16), .ref (b + 17), .ref (b + 18), .ref (b + 19), .ref (b + 20), .ref (b + 21), .ref (b + 22), .ref (b + 23), .ref (b + 24), .ref (b + 25), .ref (b + 26), .ref (b + 27), .ref (b + 28), .ref (b + 29), .ref (b + 30)])) H62 := m64 0 (by decide)
          refine lv_aload_n C.1 C.2.1 d_M_pausing_80 rfl (lv_at hl 0 rfl) ?_
          refine hq_get (v := .ref (b + 27)) C f_M_89 k0 rfl d_M_pausing_81 ?_
          refine lv_iload_n C.1 C.2.1 d_M_pausing_84 rfl (lv_at hl 1 rfl) ?_
          refine lv_iconst (v := 0) C.1 C.2.1 d_M_pausing_85 (by decide) ?_
          have e65 : va_at D vwCl (b + 27, .inl (cI, 4, .inl (upd (A 26) j ((A 26 j) + 1)))) _ := m64 27 (by decide)
          refine hq_iast (lo := lo) C 0 rfl e65 (vp_in_nI hj (by decide)) hL (by omega) d_M_pausing_86 (fun H66 locs u67 hL => ?_)
          rw [nI_clamp (show j < 2 ^ 31 by omega)] at u67
          have m68 := md_set (k := 26) (f := upd (upd (A 26) j ((A 26 j) + 1)) j 0) m64 u67
          have k0 : va_at D vwCl (b, .inr (6, [.int (th), .int (nn), .ref (b + 1), .ref (b + 2), .ref (b + 3), .ref (b + 4), .ref (b + 5), .ref (b + 6), .ref (b + 7), .ref (b + 8), .ref (b + 9), .ref (b + 10), .ref (b + 11), .ref (b + 12), .ref (b + 13), .ref (b + 14), .ref (b + 15), .ref (b + 16), .ref (b + 17), .ref (b + 18), .ref (b + 19), .ref (b + 20), .ref (b + 21), .ref (b + 22), .ref (b + 23), .ref (b + 24), .ref (b + 25), .ref (b + 26), .ref (b + 27), .ref (b + 28), .ref (b + 29), .ref (b + 30)])) H66 := m68 0 (by decide)
          have hf : f_M_pausing A j x = (setA (setA (setA A 26 (upd (A 26) j ((A 26 j) + 1))) 3 (upd (A 3) j 0)) 26 (upd (upd (A 26) j ((A 26 j) + 1)) j 0)) := by unfold f_M_pausing; rw [if_neg c46, if_pos c48, if_neg c50, if_neg c60]
          exact hq_vret C hret hlk (Nat.le_of_ble_eq_true rfl) (Nat.le_of_ble_eq_true rfl) hL ⟨rfl, by rw [hf]; exact m68, hq_Sput (hq_Sput (hq_Sput (hq_S0) u44 (by omega) (by omega)) u63 (by omega) (by omega)) u67 (by omega) (by omega)⟩ d_M_pausing_87
        · intro c60
          refine lv_bipush (v := 6) C.1 C.2.1 d_M_pausing_73 (by decide) ?_
          refine lv_goto (tgt := 79) C.1 C.2.1 d_M_pausing_75 (by decide) ?_
          have e69 : va_at D vwCl (b + 4, .inl (cI, 4, .inl (A 3))) _ := m45 4 (by decide)
          refine hq_iast (lo := lo) C 0 rfl e69 (vp_in_nI hj (by decide)) hL (by omega) d_M_pausing_79 (fun H70 locs u71 hL => ?_)
          rw [nI_clamp (show j < 2 ^ 31 by omega)] at u71
          have m72 := md_set (k := 3) (f := upd (A 3) j 6) m45 u71
          have k0 : va_at D vwCl (b, .inr (6, [.int (th), .int (nn), .ref (b + 1), .ref (b + 2), .ref (b + 3), .ref (b + 4), .ref (b + 5), .ref (b + 6), .ref (b + 7), .ref (b + 8), .ref (b + 9), .ref (b + 10), .ref (b + 11), .ref (b + 12), .ref (b + 13), .ref (b + 14), .ref (b + 15), .ref (b + 16), .ref (b + 17), .ref (b + 18), .ref (b + 19), .ref (b + 20), .ref (b + 21), .ref (b + 22), .ref (b + 23), .ref (b + 24), .ref (b + 25), .ref (b + 26), .ref (b + 27), .ref (b + 28), .ref (b + 29), .ref (b + 30)])) H70 := m72 0 (by decide)
          refine lv_aload_n C.1 C.2.1 d_M_pausing_80 rfl (lv_at hl 0 rfl) ?_
          refine hq_get (v := .ref (b + 27)) C f_M_89 k0 rfl d_M_pausing_81 ?_
          refine lv_iload_n C.1 C.2.1 d_M_pausing_84 rfl (lv_at hl 1 rfl) ?_
          refine lv_iconst (v := 0) C.1 C.2.1 d_M_pausing_85 (by decide) ?_
          have e73 : va_at D vwCl (b + 27, .inl (cI, 4, .inl (upd (A 26) j ((A 26 j) + 1)))) _ := m72 27 (by decide)
          refine hq_iast (lo := lo) C 0 rfl e73 (vp_in_nI hj (by decide)) hL (by omega) d_M_pausing_86 (fun H74 locs u75 hL => ?_)
          rw [nI_clamp (show j < 2 ^ 31 by omega)] at u75
          have m76 := md_set (k := 26) (f := upd (upd (A 26) j ((A 26 j) + 1)) j 0) m72 u75
          have k0 : va_at D vwCl (b, .inr (6, [.int (th), .int (nn), .ref (b + 1), .ref (b + 2), .ref (b + 3), .ref (b + 4), .ref (b + 5), .ref (b + 6), .ref (b + 7), .ref (b + 8), .ref (b + 9), .ref (b + 10), .ref (b + 11), .ref (b + 12), .ref (b + 13), .ref (b + 14), .ref (b + 15), .ref (b + 16), .ref (b + 17), .ref (b + 18), .ref (b + 19), .ref (b + 20), .ref (b + 21), .ref (b + 22), .ref (b + 23), .ref (b + 24), .ref (b + 25), .ref (b + 26), .ref (b + 27), .ref (b + 28), .ref (b + 29), .ref (b + 30)])) H74 := m76 0 (by decide)
          have hf : f_M_pausing A j x = (setA (setA (setA A 26 (upd (A 26) j ((A 26 j) + 1))) 3 (upd (A 3) j 6)) 26 (upd (upd (A 26) j ((A 26 j) + 1)) j 0)) := by unfold f_M_pausing; rw [if_neg c46, if_pos c48, if_neg c50, if_pos c60]
          exact hq_vret C hret hlk (Nat.le_of_ble_eq_true rfl) (Nat.le_of_ble_eq_true rfl) hL ⟨rfl, by rw [hf]; exact m76, hq_Sput (hq_Sput (hq_Sput (hq_S0) u44 (by omega) (by omega)) u71 (by omega) (by omega)) u75 (by omega) (by omega)⟩ d_M_pausing_87
  · intro c46
    refine lv_aload_n C.1 C.2.1 d_M_pausing_14 rfl (lv_at hl 0 rfl) ?_
    refine hq_get (v := .ref (b + 27)) C f_M_89 k0 rfl d_M_pausing_15 ?_
    refine lv_iload_n C.1 C.2.1 d_M_pausing_18 rfl (lv_at hl 1 rfl) ?_
    have e77 : va_at D vwCl (b + 27, .inl (cI, 4, .inl (upd (A 26) j ((A 26 j) + 1)))) _ := m45 27 (by decide)
    refine hq_iald C 0 rfl e77 (vp_in_nI hj (by decide)) d_M_pausing_19 ?_
    rw [nI_clamp (show j < 2 ^ 31 by omega)]
    rw [show (upd (A 26) j ((A 26 j) + 1)) j = (A 26 j) + 1 from pk_us]
    refine W.eq (g2 := F0 m 20 ls [.int ((A 26 j) + 1)]) rfl ?_
    refine lv_iconst (v := 3) C.1 C.2.1 d_M_pausing_20 (by decide) ?_
    refine lv_icmp_ge (tgt := 32) C.1 C.2.1 d_M_pausing_21 (by decide) ?_ ?_
    · intro c78
      refine lv_aload_n C.1 C.2.1 d_M_pausing_32 rfl (lv_at hl 0 rfl) ?_
      refine lv_iload_n C.1 C.2.1 d_M_pausing_33 rfl (lv_at hl 1 rfl) ?_
      refine hq_callV (lo := lo) (As := [.int (nI j)]) (rest := []) C tb_good hml Y_M_160 (c_M_start l D cI cZ cN cJ lo b hlo th nn (setA A 26 (upd (A 26) j ((A 26 j) + 1))) j hj (okA_o (by decide) ok)) k0 rfl (fun _ _ _ _ h => h) (fun U hU hW => by show hq_B D vwCl b 31 (mdC cI cZ b th nn (setA A 26 (upd (A 26) j ((A 26 j) + 1)))) U.heap; rw [hU]; exact m45) hL hl.1 rfl rfl ⟨⟨Nat.le_of_ble_eq_true rfl, Nat.le_of_ble_eq_true rfl⟩, Nat.le_of_ble_eq_true rfl, Nat.le_of_ble_eq_true rfl⟩ (Nat.le_of_ble_eq_true rfl) d_M_pausing_34 (fun v H81 locs hp hL => ?_)
      obtain ⟨rfl, m79, S80⟩ := hp
      refine W.eq (g2 := F0 m 37 ls []) rfl ?_
      have k0 : va_at D vwCl (b, .inr (6, [.int (th), .int (nn), .ref (b + 1), .ref (b + 2), .ref (b + 3), .ref (b + 4), .ref (b + 5), .ref (b + 6), .ref (b + 7), .ref (b + 8), .ref (b + 9), .ref (b + 10), .ref (b + 11), .ref (b + 12), .ref (b + 13), .ref (b + 14), .ref (b + 15), .ref (b + 16), .ref (b + 17), .ref (b + 18), .ref (b + 19), .ref (b + 20), .ref (b + 21), .ref (b + 22), .ref (b + 23), .ref (b + 24), .ref (b + 25), .ref (b + 26), .ref (b + 27), .ref (b + 28), .ref (b + 29), .ref (b + 30)])) H81 := m79 0 (by decide)
      refine lv_goto (tgt := 87) C.1 C.2.1 d_M_pausing_37 (by decide) ?_
      have hf : f_M_pausing A j x = (f_M_start (setA A 26 (upd (A 26) j ((A 26 j) + 1))) j) := by unfold f_M_pausing; rw [if_pos c46, if_pos c78]
      exact hq_vret C hret hlk (Nat.le_of_ble_eq_true rfl) (Nat.le_of_ble_eq_true rfl) hL ⟨rfl, by rw [hf]; exact m79, hq_Scall (hq_Sput (hq_S0) u44 (by omega) (by omega)) S80 (by omega) (by omega)⟩ d_M_pausing_87
    · intro c78
      refine lv_aload_n C.1 C.2.1 d_M_pausing_24 rfl (lv_at hl 0 rfl) ?_
      refine lv_iload_n C.1 C.2.1 d_M_pausing_25 rfl (lv_at hl 1 rfl) ?_
      refine hq_callV (lo := lo) (As := [.int (nI j)]) (rest := []) C tb_good hml Y_M_137 (c_M_overload l D cI cZ cN cJ lo b hlo th nn (setA A 26 (upd (A 26) j ((A 26 j) + 1))) j hj) k0 rfl (fun _ _ _ _ h => h) (fun U hU hW => by show hq_B D vwCl b 31 (mdC cI cZ b th nn (setA A 26 (upd (A 26) j ((A 26 j) + 1)))) U.heap; rw [hU]; exact m45) hL hl.1 rfl rfl ⟨⟨Nat.le_of_ble_eq_true rfl, Nat.le_of_ble_eq_true rfl⟩, Nat.le_of_ble_eq_true rfl, Nat.le_of_ble_eq_true rfl⟩ (Nat.le_of_ble_eq_true rfl) d_M_pausing_26 (fun v H84 locs hp hL => ?_)
      obtain ⟨rfl, m82, S83⟩ := hp
      refine W.eq (g2 := F0 m 29 ls []) rfl ?_
      have k0 : va_at D vwCl (b, .inr (6, [.int (th), .int (nn), .ref (b + 1), .ref (b + 2), .ref (b + 3), .ref (b + 4), .ref (b + 5), .ref (b + 6), .ref (b + 7), .ref (b + 8), .ref (b + 9), .ref (b + 10), .ref (b + 11), .ref (b + 12), .ref (b + 13), .ref (b + 14), .ref (b + 15), .ref (b + 16), .ref (b + 17), .ref (b + 18), .ref (b + 19), .ref (b + 20), .ref (b + 21), .ref (b + 22), .ref (b + 23), .ref (b + 24), .ref (b + 25), .ref (b + 26), .ref (b + 27), .ref (b + 28), .ref (b + 29), .ref (b + 30)])) H84 := m82 0 (by decide)
      refine lv_goto (tgt := 87) C.1 C.2.1 d_M_pausing_29 (by decide) ?_
      have hf : f_M_pausing A j x = (f_M_overload (setA A 26 (upd (A 26) j ((A 26 j) + 1))) j) := by unfold f_M_pausing; rw [if_pos c46, if_neg c78]
      exact hq_vret C hret hlk (Nat.le_of_ble_eq_true rfl) (Nat.le_of_ble_eq_true rfl) hL ⟨rfl, by rw [hf]; exact m82, hq_Scall (hq_Sput (hq_S0) u44 (by omega) (by omega)) S83 (by omega) (by omega)⟩ d_M_pausing_87
set_option maxHeartbeats 4000000 in
set_option maxRecDepth 100000 in
theorem ok_M_pausing (A : Nat → Nat → Int32) (j : Nat) (hj : j < 4) (x : Int32) (ok : okA A) : okA (f_M_pausing A j x) := by
  unfold f_M_pausing
  by_cases c46 : x = 0
  · rw [if_pos c46]
    by_cases c78 : 3 ≤ ((A 26 j) + 1)
    · rw [if_pos c78]
      exact (ok_M_start (setA A 26 (upd (A 26) j ((A 26 j) + 1))) j hj (okA_o (by decide) ok))
    · rw [if_neg c78]
      exact (ok_M_overload (setA A 26 (upd (A 26) j ((A 26 j) + 1))) j hj (okA_o (by decide) ok))
  · rw [if_neg c46]
    by_cases c48 : ((A 26 j) + 1) = 3
    · rw [if_pos c48]
      by_cases c50 : ((f_M_isPassive (setA A 26 (upd (A 26) j ((A 26 j) + 1))) j)) = 0
      · rw [if_pos c50]
        exact (okA_o (by decide) (okA_3 (v := 0) rfl (fun h9 => absurd h9 (by decide)) (okA_o (by decide) ok)))
      · rw [if_neg c50]
        by_cases c60 : (A 28 j) = 1
        · rw [if_pos c60]
          exact (okA_o (by decide) (okA_3 (v := 6) rfl (fun h9 => absurd h9 (by decide)) (okA_o (by decide) ok)))
        · rw [if_neg c60]
          exact (okA_o (by decide) (okA_3 (v := 0) rfl (fun h9 => absurd h9 (by decide)) (okA_o (by decide) ok)))
    · rw [if_neg c48]
      exact (okA_o (by decide) ok)
def f_M_see (A : Nat → Nat → Int32) (j : Nat) (x : Int32) : Nat → Nat → Int32 := if (A 3 j) = 1 then ((f_M_send A j x)) else (if (A 3 j) = 2 then ((f_M_hear A j x)) else (if (A 3 j) = 3 then ((f_M_flagging A j x)) else (if (A 3 j) = 4 then ((f_M_goAfter A j x)) else (if (A 3 j) = 5 then ((f_M_pausing A j x)) else (if (A 3 j) = 6 then (if x = 0 then ((f_M_start A j)) else (if ((A 26 j) + 1) = 8 then ((setA (setA A 26 (upd (A 26) j ((A 26 j) + 1))) 3 (upd (A 3) j 0))) else ((setA (setA A 26 (upd (A 26) j ((A 26 j) + 1))) 3 (upd (A 3) j 6))))) else (if (A 3 j) = 7 then ((f_M_offTime A j x)) else (if x = 0 then ((f_M_start A j)) else (A))))))))
set_option maxHeartbeats 4000000 in
set_option maxRecDepth 100000 in
theorem c_M_see (l : Launch) (D : va_G) (cI cZ cN cJ : ClassId) (lo : Nat) (b : Nat) (hlo : lo ≤ b) (th nn : Int32) (A : Nat → Nat → Int32) (j : Nat) (hj : j < 4) (x : Int32) (ok : okA A) : hq_M l y_M_see b_M_see 3 none TB { frames := 6, cells := 0, slots := 0, locals := 135 } lo D vwCl (TY cI cZ cN cJ) [.ref (b), .int (nI j), .int (x)] (fun U => hq_B D vwCl b 31 (mdC cI cZ b th nn A) U.heap) (fun H v H' => v = none ∧ hq_B D vwCl b 31 (mdC cI cZ b th nn (f_M_see A j x)) H' ∧ hq_S b 31 H H') := by
  refine hq_ofW (by decide) (Nat.le_of_ble_eq_true rfl) ?_
  intro p e s m below meth c ls C hml hret hlk hnm hl hP
  have hL : hq_L lo [] := hq_L0
  have hl : lv_has ls 3 [(0, .ref (b)), (1, .int (nI j)), (2, .int (x))] := hl
  have hM : hq_B D vwCl b 31 (mdC cI cZ b th nn A) s.heap := hP
  have k0 : va_at D vwCl (b, .inr (6, [.int (th), .int (nn), .ref (b + 1), .ref (b + 2), .ref (b + 3), .ref (b + 4), .ref (b + 5), .ref (b + 6), .ref (b + 7), .ref (b + 8), .ref (b + 9), .ref (b + 10), .ref (b + 11), .ref (b + 12), .ref (b + 13), .ref (b + 14), .ref (b + 15), .ref (b + 16), .ref (b + 17), .ref (b + 18), .ref (b + 19), .ref (b + 20), .ref (b + 21), .ref (b + 22), .ref (b + 23), .ref (b + 24), .ref (b + 25), .ref (b + 26), .ref (b + 27), .ref (b + 28), .ref (b + 29), .ref (b + 30)])) s.heap := hM 0 (by decide)
  refine lv_aload_n C.1 C.2.1 d_M_see_0 rfl (lv_at hl 0 rfl) ?_
  refine hq_get (v := .ref (b + 4)) C f_M_20 k0 rfl d_M_see_1 ?_
  refine lv_iload_n C.1 C.2.1 d_M_see_4 rfl (lv_at hl 1 rfl) ?_
  have e41 : va_at D vwCl (b + 4, .inl (cI, 4, .inl (A 3))) _ := hM 4 (by decide)
  refine hq_iald C 0 rfl e41 (vp_in_nI hj (by decide)) d_M_see_5 ?_
  rw [nI_clamp (show j < 2 ^ 31 by omega)]
  refine W.eq (g2 := F0 m 6 ls [.int (A 3 j)]) rfl ?_
  by_cases g42 : (A 3 j) = 1
  · refine lv_tableIn (tgt := 48) C.1 C.2.1 d_M_see_6 (by rw [g42]; decide) (by rw [g42]; decide) (off := 42) (by rw [g42]; decide) (by decide) ?_
    refine lv_aload_n C.1 C.2.1 d_M_see_48 rfl (lv_at hl 0 rfl) ?_
    refine lv_iload_n C.1 C.2.1 d_M_see_49 rfl (lv_at hl 1 rfl) ?_
    refine lv_iload_n C.1 C.2.1 d_M_see_50 rfl (lv_at hl 2 rfl) ?_
    refine hq_callV (lo := lo) (As := [.int (nI j), .int (x)]) (rest := []) C tb_good hml Y_M_163 (c_M_send l D cI cZ cN cJ lo b hlo th nn A j hj x ((ok j hj).2.2.2 g42) ok) k0 rfl (fun _ _ _ _ h => h) (fun U hU hW => by show hq_B D vwCl b 31 (mdC cI cZ b th nn A) U.heap; rw [hU]; exact hM) hL hl.1 rfl rfl ⟨⟨Nat.le_of_ble_eq_true rfl, Nat.le_of_ble_eq_true rfl⟩, Nat.le_of_ble_eq_true rfl, Nat.le_of_ble_eq_true rfl⟩ (Nat.le_of_ble_eq_true rfl) d_M_see_51 (fun v H45 locs hp hL => ?_)
    obtain ⟨rfl, m43, S44⟩ := hp
    refine W.eq (g2 := F0 m 54 ls []) rfl ?_
    have k0 : va_at D vwCl (b, .inr (6, [.int (th), .int (nn), .ref (b + 1), .ref (b + 2), .ref (b + 3), .ref (b + 4), .ref (b + 5), .ref (b + 6), .ref (b + 7), .ref (b + 8), .ref (b + 9), .ref (b + 10), .ref (b + 11), .ref (b + 12), .ref (b + 13), .ref (b + 14), .ref (b + 15), .ref (b + 16), .ref (b + 17), .ref (b + 18), .ref (b + 19), .ref (b + 20), .ref (b + 21), .ref (b + 22), .ref (b + 23), .ref (b + 24), .ref (b + 25), .ref (b + 26), .ref (b + 27), .ref (b + 28), .ref (b + 29), .ref (b + 30)])) H45 := m43 0 (by decide)
    refine lv_goto (tgt := 158) C.1 C.2.1 d_M_see_54 (by decide) ?_
    have hf : f_M_see A j x = (f_M_send A j x) := by unfold f_M_see; rw [if_pos g42]
    exact hq_vret C hret hlk (Nat.le_of_ble_eq_true rfl) (Nat.le_of_ble_eq_true rfl) hL ⟨rfl, by rw [hf]; exact m43, hq_Scall (hq_S0) S44 (by omega) (by omega)⟩ d_M_see_158
  · skip
    by_cases g46 : (A 3 j) = 2
    · refine lv_tableIn (tgt := 57) C.1 C.2.1 d_M_see_6 (by rw [g46]; decide) (by rw [g46]; decide) (off := 51) (by rw [g46]; decide) (by decide) ?_
      refine lv_aload_n C.1 C.2.1 d_M_see_57 rfl (lv_at hl 0 rfl) ?_
      refine lv_iload_n C.1 C.2.1 d_M_see_58 rfl (lv_at hl 1 rfl) ?_
      refine lv_iload_n C.1 C.2.1 d_M_see_59 rfl (lv_at hl 2 rfl) ?_
      refine hq_callV (lo := lo) (As := [.int (nI j), .int (x)]) (rest := []) C tb_good hml Y_M_140 (c_M_hear l D cI cZ cN cJ lo b hlo th nn A j hj x ok) k0 rfl (fun _ _ _ _ h => h) (fun U hU hW => by show hq_B D vwCl b 31 (mdC cI cZ b th nn A) U.heap; rw [hU]; exact hM) hL hl.1 rfl rfl ⟨⟨Nat.le_of_ble_eq_true rfl, Nat.le_of_ble_eq_true rfl⟩, Nat.le_of_ble_eq_true rfl, Nat.le_of_ble_eq_true rfl⟩ (Nat.le_of_ble_eq_true rfl) d_M_see_60 (fun v H49 locs hp hL => ?_)
      obtain ⟨rfl, m47, S48⟩ := hp
      refine W.eq (g2 := F0 m 63 ls []) rfl ?_
      have k0 : va_at D vwCl (b, .inr (6, [.int (th), .int (nn), .ref (b + 1), .ref (b + 2), .ref (b + 3), .ref (b + 4), .ref (b + 5), .ref (b + 6), .ref (b + 7), .ref (b + 8), .ref (b + 9), .ref (b + 10), .ref (b + 11), .ref (b + 12), .ref (b + 13), .ref (b + 14), .ref (b + 15), .ref (b + 16), .ref (b + 17), .ref (b + 18), .ref (b + 19), .ref (b + 20), .ref (b + 21), .ref (b + 22), .ref (b + 23), .ref (b + 24), .ref (b + 25), .ref (b + 26), .ref (b + 27), .ref (b + 28), .ref (b + 29), .ref (b + 30)])) H49 := m47 0 (by decide)
      refine lv_goto (tgt := 158) C.1 C.2.1 d_M_see_63 (by decide) ?_
      have hf : f_M_see A j x = (f_M_hear A j x) := by unfold f_M_see; rw [if_neg g42, if_pos g46]
      exact hq_vret C hret hlk (Nat.le_of_ble_eq_true rfl) (Nat.le_of_ble_eq_true rfl) hL ⟨rfl, by rw [hf]; exact m47, hq_Scall (hq_S0) S48 (by omega) (by omega)⟩ d_M_see_158
    · skip
      by_cases g50 : (A 3 j) = 3
      · refine lv_tableIn (tgt := 66) C.1 C.2.1 d_M_see_6 (by rw [g50]; decide) (by rw [g50]; decide) (off := 60) (by rw [g50]; decide) (by decide) ?_
        refine lv_aload_n C.1 C.2.1 d_M_see_66 rfl (lv_at hl 0 rfl) ?_
        refine lv_iload_n C.1 C.2.1 d_M_see_67 rfl (lv_at hl 1 rfl) ?_
        refine lv_iload_n C.1 C.2.1 d_M_see_68 rfl (lv_at hl 2 rfl) ?_
        refine hq_callV (lo := lo) (As := [.int (nI j), .int (x)]) (rest := []) C tb_good hml Y_M_166 (c_M_flagging l D cI cZ cN cJ lo b hlo th nn A j hj x) k0 rfl (fun _ _ _ _ h => h) (fun U hU hW => by show hq_B D vwCl b 31 (mdC cI cZ b th nn A) U.heap; rw [hU]; exact hM) hL hl.1 rfl rfl ⟨⟨Nat.le_of_ble_eq_true rfl, Nat.le_of_ble_eq_true rfl⟩, Nat.le_of_ble_eq_true rfl, Nat.le_of_ble_eq_true rfl⟩ (Nat.le_of_ble_eq_true rfl) d_M_see_69 (fun v H53 locs hp hL => ?_)
        obtain ⟨rfl, m51, S52⟩ := hp
        refine W.eq (g2 := F0 m 72 ls []) rfl ?_
        have k0 : va_at D vwCl (b, .inr (6, [.int (th), .int (nn), .ref (b + 1), .ref (b + 2), .ref (b + 3), .ref (b + 4), .ref (b + 5), .ref (b + 6), .ref (b + 7), .ref (b + 8), .ref (b + 9), .ref (b + 10), .ref (b + 11), .ref (b + 12), .ref (b + 13), .ref (b + 14), .ref (b + 15), .ref (b + 16), .ref (b + 17), .ref (b + 18), .ref (b + 19), .ref (b + 20), .ref (b + 21), .ref (b + 22), .ref (b + 23), .ref (b + 24), .ref (b + 25), .ref (b + 26), .ref (b + 27), .ref (b + 28), .ref (b + 29), .ref (b + 30)])) H53 := m51 0 (by decide)
        refine lv_goto (tgt := 158) C.1 C.2.1 d_M_see_72 (by decide) ?_
        have hf : f_M_see A j x = (f_M_flagging A j x) := by unfold f_M_see; rw [if_neg g42, if_neg g46, if_pos g50]
        exact hq_vret C hret hlk (Nat.le_of_ble_eq_true rfl) (Nat.le_of_ble_eq_true rfl) hL ⟨rfl, by rw [hf]; exact m51, hq_Scall (hq_S0) S52 (by omega) (by omega)⟩ d_M_see_158
      · skip
        by_cases g54 : (A 3 j) = 4
        · refine lv_tableIn (tgt := 75) C.1 C.2.1 d_M_see_6 (by rw [g54]; decide) (by rw [g54]; decide) (off := 69) (by rw [g54]; decide) (by decide) ?_
          refine lv_aload_n C.1 C.2.1 d_M_see_75 rfl (lv_at hl 0 rfl) ?_
          refine lv_iload_n C.1 C.2.1 d_M_see_76 rfl (lv_at hl 1 rfl) ?_
          refine lv_iload_n C.1 C.2.1 d_M_see_77 rfl (lv_at hl 2 rfl) ?_
          refine hq_callV (lo := lo) (As := [.int (nI j), .int (x)]) (rest := []) C tb_good hml Y_M_169 (c_M_goAfter l D cI cZ cN cJ lo b hlo th nn A j hj x) k0 rfl (fun _ _ _ _ h => h) (fun U hU hW => by show hq_B D vwCl b 31 (mdC cI cZ b th nn A) U.heap; rw [hU]; exact hM) hL hl.1 rfl rfl ⟨⟨Nat.le_of_ble_eq_true rfl, Nat.le_of_ble_eq_true rfl⟩, Nat.le_of_ble_eq_true rfl, Nat.le_of_ble_eq_true rfl⟩ (Nat.le_of_ble_eq_true rfl) d_M_see_78 (fun v H57 locs hp hL => ?_)
          obtain ⟨rfl, m55, S56⟩ := hp
          refine W.eq (g2 := F0 m 81 ls []) rfl ?_
          have k0 : va_at D vwCl (b, .inr (6, [.int (th), .int (nn), .ref (b + 1), .ref (b + 2), .ref (b + 3), .ref (b + 4), .ref (b + 5), .ref (b + 6), .ref (b + 7), .ref (b + 8), .ref (b + 9), .ref (b + 10), .ref (b + 11), .ref (b + 12), .ref (b + 13), .ref (b + 14), .ref (b + 15), .ref (b + 16), .ref (b + 17), .ref (b + 18), .ref (b + 19), .ref (b + 20), .ref (b + 21), .ref (b + 22), .ref (b + 23), .ref (b + 24), .ref (b + 25), .ref (b + 26), .ref (b + 27), .ref (b + 28), .ref (b + 29), .ref (b + 30)])) H57 := m55 0 (by decide)
          refine lv_goto (tgt := 158) C.1 C.2.1 d_M_see_81 (by decide) ?_
          have hf : f_M_see A j x = (f_M_goAfter A j x) := by unfold f_M_see; rw [if_neg g42, if_neg g46, if_neg g50, if_pos g54]
          exact hq_vret C hret hlk (Nat.le_of_ble_eq_true rfl) (Nat.le_of_ble_eq_true rfl) hL ⟨rfl, by rw [hf]; exact m55, hq_Scall (hq_S0) S56 (by omega) (by omega)⟩ d_M_see_158
        · skip
          by_cases g58 : (A 3 j) = 5
          · refine lv_tableIn (tgt := 84) C.1 C.2.1 d_M_see_6 (by rw [g58]; decide) (by rw [g58]; decide) (off := 78) (by rw [g58]; decide) (by decide) ?_
            refine lv_aload_n C.1 C.2.1 d_M_see_84 rfl (lv_at hl 0 rfl) ?_
            refine lv_iload_n C.1 C.2.1 d_M_see_85 rfl (lv_at hl 1 rfl) ?_
            refine lv_iload_n C.1 C.2.1 d_M_see_86 rfl (lv_at hl 2 rfl) ?_
            refine hq_callV (lo := lo) (As := [.int (nI j), .int (x)]) (rest := []) C tb_good hml Y_M_172 (c_M_pausing l D cI cZ cN cJ lo b hlo th nn A j hj x ok) k0 rfl (fun _ _ _ _ h => h) (fun U hU hW => by show hq_B D vwCl b 31 (mdC cI cZ b th nn A) U.heap; rw [hU]; exact hM) hL hl.1 rfl rfl ⟨⟨Nat.le_of_ble_eq_true rfl, Nat.le_of_ble_eq_true rfl⟩, Nat.le_of_ble_eq_true rfl, Nat.le_of_ble_eq_true rfl⟩ (Nat.le_of_ble_eq_true rfl) d_M_see_87 (fun v H61 locs hp hL => ?_)
            obtain ⟨rfl, m59, S60⟩ := hp
            refine W.eq (g2 := F0 m 90 ls []) rfl ?_
            have k0 : va_at D vwCl (b, .inr (6, [.int (th), .int (nn), .ref (b + 1), .ref (b + 2), .ref (b + 3), .ref (b + 4), .ref (b + 5), .ref (b + 6), .ref (b + 7), .ref (b + 8), .ref (b + 9), .ref (b + 10), .ref (b + 11), .ref (b + 12), .ref (b + 13), .ref (b + 14), .ref (b + 15), .ref (b + 16), .ref (b + 17), .ref (b + 18), .ref (b + 19), .ref (b + 20), .ref (b + 21), .ref (b + 22), .ref (b + 23), .ref (b + 24), .ref (b + 25), .ref (b + 26), .ref (b + 27), .ref (b + 28), .ref (b + 29), .ref (b + 30)])) H61 := m59 0 (by decide)
            refine lv_goto (tgt := 158) C.1 C.2.1 d_M_see_90 (by decide) ?_
            have hf : f_M_see A j x = (f_M_pausing A j x) := by unfold f_M_see; rw [if_neg g42, if_neg g46, if_neg g50, if_neg g54, if_pos g58]
            exact hq_vret C hret hlk (Nat.le_of_ble_eq_true rfl) (Nat.le_of_ble_eq_true rfl) hL ⟨rfl, by rw [hf]; exact m59, hq_Scall (hq_S0) S60 (by omega) (by omega)⟩ d_M_see_158
          · skip
            by_cases g62 : (A 3 j) = 6
            · refine lv_tableIn (tgt := 102) C.1 C.2.1 d_M_see_6 (by rw [g62]; decide) (by rw [g62]; decide) (off := 96) (by rw [g62]; decide) (by decide) ?_
              refine lv_iload_n C.1 C.2.1 d_M_see_102 rfl (lv_at hl 2 rfl) ?_
              refine lv_if_ne (tgt := 114) C.1 C.2.1 d_M_see_103 (by decide) ?_ ?_
              · intro c63
                refine lv_aload_n C.1 C.2.1 d_M_see_114 rfl (lv_at hl 0 rfl) ?_
                refine hq_get (v := .ref (b + 4)) C f_M_20 k0 rfl d_M_see_115 ?_
                refine lv_iload_n C.1 C.2.1 d_M_see_118 rfl (lv_at hl 1 rfl) ?_
                have e64 : va_at D vwCl (b + 4, .inl (cI, 4, .inl (A 3))) _ := hM 4 (by decide)
                refine hq_iald C 0 rfl e64 (vp_in_nI hj (by decide)) d_M_see_119 ?_
                rw [nI_clamp (show j < 2 ^ 31 by omega)]
                refine W.eq (g2 := F0 m 120 ls [.int (A 3 j)]) rfl ?_
                refine lv_bipush (v := 6) C.1 C.2.1 d_M_see_120 (by decide) ?_
                refine lv_icmp_ne (tgt := 158) C.1 C.2.1 d_M_see_122 (by decide) (fun hn => absurd g62 hn) (fun _ => ?_)
                refine lv_aload_n C.1 C.2.1 d_M_see_125 rfl (lv_at hl 0 rfl) ?_
                refine hq_get (v := .ref (b + 27)) C f_M_89 k0 rfl d_M_see_126 ?_
                refine lv_iload_n C.1 C.2.1 d_M_see_129 rfl (lv_at hl 1 rfl) ?_
                refine lv_dup2_11 C.1 C.2.1 d_M_see_130 rfl rfl ?_
                have e65 : va_at D vwCl (b + 27, .inl (cI, 4, .inl (A 26))) _ := hM 27 (by decide)
                refine hq_iald C 0 rfl e65 (vp_in_nI hj (by decide)) d_M_see_131 ?_
                rw [nI_clamp (show j < 2 ^ 31 by omega)]
                refine W.eq (g2 := F0 m 132 ls [.int (A 26 j), .int (nI j), .ref (b + 27)]) rfl ?_
                refine lv_iconst (v := 1) C.1 C.2.1 d_M_see_132 (by decide) ?_
                refine lv_iadd C.1 C.2.1 d_M_see_133 ?_
                have e66 : va_at D vwCl (b + 27, .inl (cI, 4, .inl (A 26))) _ := hM 27 (by decide)
                refine hq_iast (lo := lo) C 0 rfl e66 (vp_in_nI hj (by decide)) hL (by omega) d_M_see_134 (fun H67 locs u68 hL => ?_)
                rw [nI_clamp (show j < 2 ^ 31 by omega)] at u68
                have m69 := md_set (k := 26) (f := upd (A 26) j ((A 26 j) + 1)) hM u68
                have k0 : va_at D vwCl (b, .inr (6, [.int (th), .int (nn), .ref (b + 1), .ref (b + 2), .ref (b + 3), .ref (b + 4), .ref (b + 5), .ref (b + 6), .ref (b + 7), .ref (b + 8), .ref (b + 9), .ref (b + 10), .ref (b + 11), .ref (b + 12), .ref (b + 13), .ref (b + 14), .ref (b + 15), .ref (b + 16), .ref (b + 17), .ref (b + 18), .ref (b + 19), .ref (b + 20), .ref (b + 21), .ref (b + 22), .ref (b + 23), .ref (b + 24), .ref (b + 25), .ref (b + 26), .ref (b + 27), .ref (b + 28), .ref (b + 29), .ref (b + 30)])) H67 := m69 0 (by decide)
                refine lv_aload_n C.1 C.2.1 d_M_see_135 rfl (lv_at hl 0 rfl) ?_
                refine hq_get (v := .ref (b + 4)) C f_M_20 k0 rfl d_M_see_136 ?_
                refine lv_iload_n C.1 C.2.1 d_M_see_139 rfl (lv_at hl 1 rfl) ?_
                refine lv_aload_n C.1 C.2.1 d_M_see_140 rfl (lv_at hl 0 rfl) ?_
                refine hq_get (v := .ref (b + 27)) C f_M_89 k0 rfl d_M_see_141 ?_
                refine lv_iload_n C.1 C.2.1 d_M_see_144 rfl (lv_at hl 1 rfl) ?_
                have e70 : va_at D vwCl (b + 27, .inl (cI, 4, .inl (upd (A 26) j ((A 26 j) + 1)))) _ := m69 27 (by decide)
                refine hq_iald C 0 rfl e70 (vp_in_nI hj (by decide)) d_M_see_145 ?_
                rw [nI_clamp (show j < 2 ^ 31 by omega)]
                rw [show (upd (A 26) j ((A 26 j) + 1)) j = (A 26 j) + 1 from pk_us]
                refine W.eq (g2 := F0 m 146 ls [.int ((A 26 j) + 1), .int (nI j), .ref (b + 4)]) rfl ?_
                refine lv_bipush (v := 8) C.1 C.2.1 d_M_see_146 (by decide) ?_
                refine lv_icmp_ne (tgt := 155) C.1 C.2.1 d_M_see_148 (by decide) ?_ ?_
                · intro c71
                  refine lv_bipush (v := 6) C.1 C.2.1 d_M_see_155 (by decide) ?_
                  have e72 : va_at D vwCl (b + 4, .inl (cI, 4, .inl (A 3))) _ := m69 4 (by decide)
                  refine hq_iast (lo := lo) C 0 rfl e72 (vp_in_nI hj (by decide)) hL (by omega) d_M_see_157 (fun H73 locs u74 hL => ?_)
                  rw [nI_clamp (show j < 2 ^ 31 by omega)] at u74
                  have m75 := md_set (k := 3) (f := upd (A 3) j 6) m69 u74
                  have k0 : va_at D vwCl (b, .inr (6, [.int (th), .int (nn), .ref (b + 1), .ref (b + 2), .ref (b + 3), .ref (b + 4), .ref (b + 5), .ref (b + 6), .ref (b + 7), .ref (b + 8), .ref (b + 9), .ref (b + 10), .ref (b + 11), .ref (b + 12), .ref (b + 13), .ref (b + 14), .ref (b + 15), .ref (b + 16), .ref (b + 17), .ref (b + 18), .ref (b + 19), .ref (b + 20), .ref (b + 21), .ref (b + 22), .ref (b + 23), .ref (b + 24), .ref (b + 25), .ref (b + 26), .ref (b + 27), .ref (b + 28), .ref (b + 29), .ref (b + 30)])) H73 := m75 0 (by decide)
                  have hf : f_M_see A j x = (setA (setA A 26 (upd (A 26) j ((A 26 j) + 1))) 3 (upd (A 3) j 6)) := by unfold f_M_see; rw [if_neg g42, if_neg g46, if_neg g50, if_neg g54, if_neg g58, if_pos g62, if_neg c63, if_neg c71]
                  exact hq_vret C hret hlk (Nat.le_of_ble_eq_true rfl) (Nat.le_of_ble_eq_true rfl) hL ⟨rfl, by rw [hf]; exact m75, hq_Sput (hq_Sput (hq_S0) u68 (by omega) (by omega)) u74 (by omega) (by omega)⟩ d_M_see_158
                · intro c71
                  refine lv_iconst (v := 0) C.1 C.2.1 d_M_see_151 (by decide) ?_
                  refine lv_goto (tgt := 157) C.1 C.2.1 d_M_see_152 (by decide) ?_
                  have e76 : va_at D vwCl (b + 4, .inl (cI, 4, .inl (A 3))) _ := m69 4 (by decide)
                  refine hq_iast (lo := lo) C 0 rfl e76 (vp_in_nI hj (by decide)) hL (by omega) d_M_see_157 (fun H77 locs u78 hL => ?_)
                  rw [nI_clamp (show j < 2 ^ 31 by omega)] at u78
                  have m79 := md_set (k := 3) (f := upd (A 3) j 0) m69 u78
                  have k0 : va_at D vwCl (b, .inr (6, [.int (th), .int (nn), .ref (b + 1), .ref (b + 2), .ref (b + 3), .ref (b + 4), .ref (b + 5), .ref (b + 6), .ref (b + 7), .ref (b + 8), .ref (b + 9), .ref (b + 10), .ref (b + 11), .ref (b + 12), .ref (b + 13), .ref (b + 14), .ref (b + 15), .ref (b + 16), .ref (b + 17), .ref (b + 18), .ref (b + 19), .ref (b + 20), .ref (b + 21), .ref (b + 22), .ref (b + 23), .ref (b + 24), .ref (b + 25), .ref (b + 26), .ref (b + 27), .ref (b + 28), .ref (b + 29), .ref (b + 30)])) H77 := m79 0 (by decide)
                  have hf : f_M_see A j x = (setA (setA A 26 (upd (A 26) j ((A 26 j) + 1))) 3 (upd (A 3) j 0)) := by unfold f_M_see; rw [if_neg g42, if_neg g46, if_neg g50, if_neg g54, if_neg g58, if_pos g62, if_neg c63, if_pos c71]
                  exact hq_vret C hret hlk (Nat.le_of_ble_eq_true rfl) (Nat.le_of_ble_eq_true rfl) hL ⟨rfl, by rw [hf]; exact m79, hq_Sput (hq_Sput (hq_S0) u68 (by omega) (by omega)) u78 (by omega) (by omega)⟩ d_M_see_158
              · intro c63
                refine lv_aload_n C.1 C.2.1 d_M_see_106 rfl (lv_at hl 0 rfl) ?_
                refine lv_iload_n C.1 C.2.1 d_M_see_107 rfl (lv_at hl 1 rfl) ?_
                refine hq_callV (lo := lo) (As := [.int (nI j)]) (rest := []) C tb_good hml Y_M_160 (c_M_start l D cI cZ cN cJ lo b hlo th nn A j hj ok) k0 rfl (fun _ _ _ _ h => h) (fun U hU hW => by show hq_B D vwCl b 31 (mdC cI cZ b th nn A) U.heap; rw [hU]; exact hM) hL hl.1 rfl rfl ⟨⟨Nat.le_of_ble_eq_true rfl, Nat.le_of_ble_eq_true rfl⟩, Nat.le_of_ble_eq_true rfl, Nat.le_of_ble_eq_true rfl⟩ (Nat.le_of_ble_eq_true rfl) d_M_see_108 (fun v H82 locs hp hL => ?_)
                obtain ⟨rfl, m80, S81⟩ := hp
                refine W.eq (g2 := F0 m 111 ls []) rfl ?_
                have k0 : va_at D vwCl (b, .inr (6, [.int (th), .int (nn), .ref (b + 1), .ref (b + 2), .ref (b + 3), .ref (b + 4), .ref (b + 5), .ref (b + 6), .ref (b + 7), .ref (b + 8), .ref (b + 9), .ref (b + 10), .ref (b + 11), .ref (b + 12), .ref (b + 13), .ref (b + 14), .ref (b + 15), .ref (b + 16), .ref (b + 17), .ref (b + 18), .ref (b + 19), .ref (b + 20), .ref (b + 21), .ref (b + 22), .ref (b + 23), .ref (b + 24), .ref (b + 25), .ref (b + 26), .ref (b + 27), .ref (b + 28), .ref (b + 29), .ref (b + 30)])) H82 := m80 0 (by decide)
                refine lv_goto (tgt := 158) C.1 C.2.1 d_M_see_111 (by decide) ?_
                have hf : f_M_see A j x = (f_M_start A j) := by unfold f_M_see; rw [if_neg g42, if_neg g46, if_neg g50, if_neg g54, if_neg g58, if_pos g62, if_pos c63]
                exact hq_vret C hret hlk (Nat.le_of_ble_eq_true rfl) (Nat.le_of_ble_eq_true rfl) hL ⟨rfl, by rw [hf]; exact m80, hq_Scall (hq_S0) S81 (by omega) (by omega)⟩ d_M_see_158
            · skip
              by_cases g83 : (A 3 j) = 7
              · refine lv_tableIn (tgt := 93) C.1 C.2.1 d_M_see_6 (by rw [g83]; decide) (by rw [g83]; decide) (off := 87) (by rw [g83]; decide) (by decide) ?_
                refine lv_aload_n C.1 C.2.1 d_M_see_93 rfl (lv_at hl 0 rfl) ?_
                refine lv_iload_n C.1 C.2.1 d_M_see_94 rfl (lv_at hl 1 rfl) ?_
                refine lv_iload_n C.1 C.2.1 d_M_see_95 rfl (lv_at hl 2 rfl) ?_
                refine hq_callV (lo := lo) (As := [.int (nI j), .int (x)]) (rest := []) C tb_good hml Y_M_175 (c_M_offTime l D cI cZ cN cJ lo b hlo th nn A j hj x) k0 rfl (fun _ _ _ _ h => h) (fun U hU hW => by show hq_B D vwCl b 31 (mdC cI cZ b th nn A) U.heap; rw [hU]; exact hM) hL hl.1 rfl rfl ⟨⟨Nat.le_of_ble_eq_true rfl, Nat.le_of_ble_eq_true rfl⟩, Nat.le_of_ble_eq_true rfl, Nat.le_of_ble_eq_true rfl⟩ (Nat.le_of_ble_eq_true rfl) d_M_see_96 (fun v H86 locs hp hL => ?_)
                obtain ⟨rfl, m84, S85⟩ := hp
                refine W.eq (g2 := F0 m 99 ls []) rfl ?_
                have k0 : va_at D vwCl (b, .inr (6, [.int (th), .int (nn), .ref (b + 1), .ref (b + 2), .ref (b + 3), .ref (b + 4), .ref (b + 5), .ref (b + 6), .ref (b + 7), .ref (b + 8), .ref (b + 9), .ref (b + 10), .ref (b + 11), .ref (b + 12), .ref (b + 13), .ref (b + 14), .ref (b + 15), .ref (b + 16), .ref (b + 17), .ref (b + 18), .ref (b + 19), .ref (b + 20), .ref (b + 21), .ref (b + 22), .ref (b + 23), .ref (b + 24), .ref (b + 25), .ref (b + 26), .ref (b + 27), .ref (b + 28), .ref (b + 29), .ref (b + 30)])) H86 := m84 0 (by decide)
                refine lv_goto (tgt := 158) C.1 C.2.1 d_M_see_99 (by decide) ?_
                have hf : f_M_see A j x = (f_M_offTime A j x) := by unfold f_M_see; rw [if_neg g42, if_neg g46, if_neg g50, if_neg g54, if_neg g58, if_neg g62, if_pos g83]
                exact hq_vret C hret hlk (Nat.le_of_ble_eq_true rfl) (Nat.le_of_ble_eq_true rfl) hL ⟨rfl, by rw [hf]; exact m84, hq_Scall (hq_S0) S85 (by omega) (by omega)⟩ d_M_see_158
              · skip
                have hout : (A 3 j).toInt < 1 ∨ 7 < (A 3 j).toInt := by
                  have y0 := lv_neT g42 (a := 1) rfl
                  have y1 := lv_neT g46 (a := 2) rfl
                  have y2 := lv_neT g50 (a := 3) rfl
                  have y3 := lv_neT g54 (a := 4) rfl
                  have y4 := lv_neT g58 (a := 5) rfl
                  have y5 := lv_neT g62 (a := 6) rfl
                  have y6 := lv_neT g83 (a := 7) rfl
                  omega
                refine lv_tableOut (tgt := 102) C.1 C.2.1 d_M_see_6 hout (by decide) ?_
                refine lv_iload_n C.1 C.2.1 d_M_see_102 rfl (lv_at hl 2 rfl) ?_
                refine lv_if_ne (tgt := 114) C.1 C.2.1 d_M_see_103 (by decide) ?_ ?_
                · intro c87
                  refine lv_aload_n C.1 C.2.1 d_M_see_114 rfl (lv_at hl 0 rfl) ?_
                  refine hq_get (v := .ref (b + 4)) C f_M_20 k0 rfl d_M_see_115 ?_
                  refine lv_iload_n C.1 C.2.1 d_M_see_118 rfl (lv_at hl 1 rfl) ?_
                  have e88 : va_at D vwCl (b + 4, .inl (cI, 4, .inl (A 3))) _ := hM 4 (by decide)
                  refine hq_iald C 0 rfl e88 (vp_in_nI hj (by decide)) d_M_see_119 ?_
                  rw [nI_clamp (show j < 2 ^ 31 by omega)]
                  refine W.eq (g2 := F0 m 120 ls [.int (A 3 j)]) rfl ?_
                  refine lv_bipush (v := 6) C.1 C.2.1 d_M_see_120 (by decide) ?_
                  refine lv_icmp_ne (tgt := 158) C.1 C.2.1 d_M_see_122 (by decide) (fun _ => ?_) (fun hn => absurd hn g62)
                  have hf : f_M_see A j x = A := by unfold f_M_see; rw [if_neg g42, if_neg g46, if_neg g50, if_neg g54, if_neg g58, if_neg g62, if_neg g83, if_neg c87]
                  exact hq_vret C hret hlk (Nat.le_of_ble_eq_true rfl) (Nat.le_of_ble_eq_true rfl) hL ⟨rfl, by rw [hf]; exact hM, hq_S0⟩ d_M_see_158
                · intro c87
                  refine lv_aload_n C.1 C.2.1 d_M_see_106 rfl (lv_at hl 0 rfl) ?_
                  refine lv_iload_n C.1 C.2.1 d_M_see_107 rfl (lv_at hl 1 rfl) ?_
                  refine hq_callV (lo := lo) (As := [.int (nI j)]) (rest := []) C tb_good hml Y_M_160 (c_M_start l D cI cZ cN cJ lo b hlo th nn A j hj ok) k0 rfl (fun _ _ _ _ h => h) (fun U hU hW => by show hq_B D vwCl b 31 (mdC cI cZ b th nn A) U.heap; rw [hU]; exact hM) hL hl.1 rfl rfl ⟨⟨Nat.le_of_ble_eq_true rfl, Nat.le_of_ble_eq_true rfl⟩, Nat.le_of_ble_eq_true rfl, Nat.le_of_ble_eq_true rfl⟩ (Nat.le_of_ble_eq_true rfl) d_M_see_108 (fun v H91 locs hp hL => ?_)
                  obtain ⟨rfl, m89, S90⟩ := hp
                  refine W.eq (g2 := F0 m 111 ls []) rfl ?_
                  have k0 : va_at D vwCl (b, .inr (6, [.int (th), .int (nn), .ref (b + 1), .ref (b + 2), .ref (b + 3), .ref (b + 4), .ref (b + 5), .ref (b + 6), .ref (b + 7), .ref (b + 8), .ref (b + 9), .ref (b + 10), .ref (b + 11), .ref (b + 12), .ref (b + 13), .ref (b + 14), .ref (b + 15), .ref (b + 16), .ref (b + 17), .ref (b + 18), .ref (b + 19), .ref (b + 20), .ref (b + 21), .ref (b + 22), .ref (b + 23), .ref (b + 24), .ref (b + 25), .ref (b + 26), .ref (b + 27), .ref (b + 28), .ref (b + 29), .ref (b + 30)])) H91 := m89 0 (by decide)
                  refine lv_goto (tgt := 158) C.1 C.2.1 d_M_see_111 (by decide) ?_
                  have hf : f_M_see A j x = (f_M_start A j) := by unfold f_M_see; rw [if_neg g42, if_neg g46, if_neg g50, if_neg g54, if_neg g58, if_neg g62, if_neg g83, if_pos c87]
                  exact hq_vret C hret hlk (Nat.le_of_ble_eq_true rfl) (Nat.le_of_ble_eq_true rfl) hL ⟨rfl, by rw [hf]; exact m89, hq_Scall (hq_S0) S90 (by omega) (by omega)⟩ d_M_see_158
set_option maxHeartbeats 4000000 in
set_option maxRecDepth 100000 in
theorem ok_M_see (A : Nat → Nat → Int32) (j : Nat) (hj : j < 4) (x : Int32) (ok : okA A) : okA (f_M_see A j x) := by
  unfold f_M_see
  by_cases g42 : (A 3 j) = 1
  · rw [if_pos g42]
    exact (ok_M_send A j hj x ((ok j hj).2.2.2 g42) ok)
  · rw [if_neg g42]
    by_cases g46 : (A 3 j) = 2
    · rw [if_pos g46]
      exact (ok_M_hear A j hj x ok)
    · rw [if_neg g46]
      by_cases g50 : (A 3 j) = 3
      · rw [if_pos g50]
        exact (ok_M_flagging A j hj x ok)
      · rw [if_neg g50]
        by_cases g54 : (A 3 j) = 4
        · rw [if_pos g54]
          exact (ok_M_goAfter A j hj x ok)
        · rw [if_neg g54]
          by_cases g58 : (A 3 j) = 5
          · rw [if_pos g58]
            exact (ok_M_pausing A j hj x ok)
          · rw [if_neg g58]
            by_cases g62 : (A 3 j) = 6
            · rw [if_pos g62]
              by_cases c63 : x = 0
              · rw [if_pos c63]
                exact (ok_M_start A j hj ok)
              · rw [if_neg c63]
                by_cases c71 : ((A 26 j) + 1) = 8
                · rw [if_pos c71]
                  exact (okA_3 (v := 0) rfl (fun h9 => absurd h9 (by decide)) (okA_o (by decide) ok))
                · rw [if_neg c71]
                  exact (okA_3 (v := 6) rfl (fun h9 => absurd h9 (by decide)) (okA_o (by decide) ok))
            · rw [if_neg g62]
              by_cases g83 : (A 3 j) = 7
              · rw [if_pos g83]
                exact (ok_M_offTime A j hj x ok)
              · rw [if_neg g83]
                by_cases c87 : x = 0
                · rw [if_pos c87]
                  exact (ok_M_start A j hj ok)
                · rw [if_neg c87]
                  exact ok
