/-! One bit time and many: the reference. -/
def pre1 (A : Nat → Nat → Int32) (j : Nat) : Nat → Nat → Int32 := if A 3 j = 0 then (if A 9 j ≤ 0 then A else f_M_begin A j) else A
def st1 (A : Nat → Nat → Int32) (j : Nat) : Nat → Nat → Int32 := setA (pre1 A j) 29 (upd (pre1 A j 29) j (f_M_driven (pre1 A j) j))
def mlp1 : Nat → Nat → (Nat → Nat → Int32) → Int32 → (Nat → Nat → Int32) × Int32
  | 0, _, A, a => (A, a)
  | d + 1, j, A, a => mlp1 d (j + 1) (st1 A j) (a &&& f_M_driven (pre1 A j) j)
def sb2 (A : Nat → Nat → Int32) (j t : Nat) (a : Int32) : Int32 := if A 2 (256 * j + t % 256) = 0 then a else 1 - a
def st2 (A : Nat → Nat → Int32) (j t : Nat) (a : Int32) : Nat → Nat → Int32 := f_M_see (setA A 2 (upd (A 2) (256 * j + t % 256) (vp_nar .boolean 0))) j (sb2 A j t a)
def mlp2 (t : Nat) (a : Int32) : Nat → Nat → (Nat → Nat → Int32) → Nat → Nat → Int32
  | 0, _, A => A
  | d + 1, j, A => mlp2 t a d (j + 1) (st2 A j t a)
def bitE (A : Nat → Nat → Int32) (t : Nat) (a : Int32) : Nat → Nat → Int32 := setA (setA A 1 (upd (A 1) (t % 64) a)) 0 (upd (A 0) 0 (nI t))
def bitM (n k : Nat) (A : Nat → Nat → Int32) : Nat → Nat → Int32 := bitE (mlp2 (k + 1) (mlp1 n 0 A 1).2 n 0 (mlp1 n 0 A 1).1) (k + 1) (mlp1 n 0 A 1).2
def passM (n : Nat) : Nat → Nat → (Nat → Nat → Int32) → Nat → Nat → Int32
  | 0, _, A => A
  | d + 1, k, A => passM n d (k + 1) (bitM n k A)
theorem ok_pre1 {A : Nat → Nat → Int32} {j : Nat} (hj : j < 4) (ok : okA A) : okA (pre1 A j) := by
  unfold pre1
  by_cases h : A 3 j = 0
  · rw [if_pos h]
    by_cases h1 : A 9 j ≤ 0
    · rw [if_pos h1]; exact ok
    · rw [if_neg h1]; exact ok_M_begin A j hj (fun h9 => h1 (by rw [h9]; exact Int32.le_refl 0)) ok
  · rw [if_neg h]; exact ok
theorem ok_st1 {A : Nat → Nat → Int32} {j : Nat} (hj : j < 4) (ok : okA A) : okA (st1 A j) := okA_o (by decide) (ok_pre1 hj ok)
theorem ok_mlp1 : ∀ (d j : Nat) (A : Nat → Nat → Int32) (a : Int32), j + d ≤ 4 → okA A → okA (mlp1 d j A a).1 := by
  intro d
  induction d with
  | zero => intro j A a _ ok; exact ok
  | succ d ih => intro j A a h ok; exact ih (j + 1) _ _ (by omega) (ok_st1 (by omega) ok)
theorem ok_st2 {A : Nat → Nat → Int32} {j t : Nat} {a : Int32} (hj : j < 4) (ok : okA A) : okA (st2 A j t a) := ok_M_see _ j hj _ (okA_o (by decide) ok)
theorem ok_mlp2 {t : Nat} {a : Int32} : ∀ (d j : Nat) (A : Nat → Nat → Int32), j + d ≤ 4 → okA A → okA (mlp2 t a d j A) := by
  intro d
  induction d with
  | zero => intro j A _ ok; exact ok
  | succ d ih => intro j A h ok; exact ih (j + 1) _ (by omega) (ok_st2 (by omega) ok)
theorem ok_bitM {n k : Nat} {A : Nat → Nat → Int32} (hn : n ≤ 4) (ok : okA A) : okA (bitM n k A) := okA_o (by decide) (okA_o (by decide) (ok_mlp2 n 0 _ (by omega) (ok_mlp1 n 0 A 1 (by omega) ok)))
theorem bitM_0 {n k : Nat} {A : Nat → Nat → Int32} : bitM n k A 0 0 = nI (k + 1) := (show upd (mlp2 (k + 1) (mlp1 n 0 A 1).2 n 0 (mlp1 n 0 A 1).1 0) 0 (nI (k + 1)) 0 = nI (k + 1) from pk_us)
theorem ok_passM {n : Nat} (hn : n ≤ 4) : ∀ (d k : Nat) (A : Nat → Nat → Int32), okA A → A 0 0 = nI k → okA (passM n d k A) ∧ passM n d k A 0 0 = nI (k + d) := by
  intro d
  induction d with
  | zero => intro k A h h2; exact ⟨h, h2⟩
  | succ d ih =>
    intro k A h h2
    have h9 := ih (k + 1) (bitM n k A) (ok_bitM hn h) bitM_0
    rw [show k + 1 + d = k + (d + 1) by omega] at h9
    exact h9
abbrev mbRm : Room := { frames := 7, cells := 0, slots := 0, locals := 157 }
set_option maxHeartbeats 4000000 in
set_option maxRecDepth 100000 in
theorem mt_loop2 {p : Program} {l : Launch} {e : Env} {s : State} {m : MethodId} {args : Array Value} {below : List Frame} {meth : Method} {c : Code} (D : va_G) (cI cZ cN cJ : ClassId) (lo b n t : Nat) (hlo : lo ≤ b) (hn4 : n ≤ 4) (ht : t < 2 ^ 30) (th : Int32) {R9 : Nat → Nat → Int32} (C : hq_C p c s m args R_M b_M_bitTime TB D vwCl (TY cI cZ cN cJ)) (hml : c.maxLocals = 6) (hret : meth.sig.returnType = none) (hlk : meth.locks = false) (a : Int32) :
    ∀ (d j : Nat) (A : Nat → Nat → Int32) (H : Heap) (locs : List Loc) (ls : Array Slot), j + d = n → okA A → bitE (mlp2 t a d j A) t a = R9 → hq_B D vwCl b 31 (mdC cI cZ b th (nI n) A) H → hq_S b 31 s.heap H → hq_L lo locs → lv_has ls 6 [(3, .int (nI j)), (2, .int (a)), (1, .int (nI t)), (0, .ref b)] →
      W p l e mbRm s m args below meth c H locs 0 0 (MQ below (hq_Q (fun H v H' => v = none ∧ hq_B D vwCl b 31 (mdC cI cZ b th (nI n) R9) H' ∧ hq_S b 31 H H')) args s 0 0 (fun q => lo ≤ q)) (F0 m 72 ls []) := by
  intro d
  induction d with
  | zero =>
    intro j A H locs ls hd ok hR hM hS hL hl
    have k0 : va_at D vwCl (b, .inr (6, [.int (th), .int (nI n), .ref (b + 1), .ref (b + 2), .ref (b + 3), .ref (b + 4), .ref (b + 5), .ref (b + 6), .ref (b + 7), .ref (b + 8), .ref (b + 9), .ref (b + 10), .ref (b + 11), .ref (b + 12), .ref (b + 13), .ref (b + 14), .ref (b + 15), .ref (b + 16), .ref (b + 17), .ref (b + 18), .ref (b + 19), .ref (b + 20), .ref (b + 21), .ref (b + 22), .ref (b + 23), .ref (b + 24), .ref (b + 25), .ref (b + 26), .ref (b + 27), .ref (b + 28), .ref (b + 29), .ref (b + 30)])) H := hM 0 (by decide)
    have hin : j = n := by omega
    refine lv_iload_n C.1 C.2.1 d_M_bitTime_72 rfl (lv_at hl 0 rfl) ?_
    refine lv_aload_n C.1 C.2.1 d_M_bitTime_73 rfl (lv_at hl 3 rfl) ?_
    refine hq_get (v := .int (nI n)) C f_M_101 k0 rfl d_M_bitTime_74 ?_
    refine lv_icmp_ge (tgt := 133) C.1 C.2.1 d_M_bitTime_77 (by decide) (fun _ => ?_) (fun hn => absurd (by rw [hin]; exact Int32.le_refl _) hn)
    refine lv_aload_n C.1 C.2.1 d_M_bitTime_133 rfl (lv_at hl 3 rfl) ?_
    refine hq_get (v := .ref (b + 2)) C f_M_13 k0 rfl d_M_bitTime_134 ?_
    refine lv_iload_n C.1 C.2.1 d_M_bitTime_137 rfl (lv_at hl 2 rfl) ?_
    refine lv_bipush (v := 64) C.1 C.2.1 d_M_bitTime_138 (by decide) ?_
    refine lv_irem C.1 C.2.1 d_M_bitTime_140 (by decide) ?_
    rw [show nI t - nI t / 64 * 64 = nI (t % 64) from pk_rem (d := 64) (by omega) (by decide) (by decide)]
    refine lv_iload_n C.1 C.2.1 d_M_bitTime_141 rfl (lv_at hl 1 rfl) ?_
    have ht64 : t % 64 < 64 := Nat.mod_lt _ (by decide)
    have e41 : va_at D vwCl (b + 2, .inl (cI, 64, .inl (A 1))) _ := hM 2 (by decide)
    refine hq_iast (lo := lo) C 0 rfl e41 (vp_in_nI (show (t % 64) < 64 by omega) (by decide)) hL (by omega) d_M_bitTime_142 (fun H42 locs u43 hL => ?_)
    rw [nI_clamp (show (t % 64) < 2 ^ 31 by omega)] at u43
    have m44 := md_set (k := 1) (f := upd (A 1) (t % 64) a) hM u43
    have k0 : va_at D vwCl (b, .inr (6, [.int (th), .int (nI n), .ref (b + 1), .ref (b + 2), .ref (b + 3), .ref (b + 4), .ref (b + 5), .ref (b + 6), .ref (b + 7), .ref (b + 8), .ref (b + 9), .ref (b + 10), .ref (b + 11), .ref (b + 12), .ref (b + 13), .ref (b + 14), .ref (b + 15), .ref (b + 16), .ref (b + 17), .ref (b + 18), .ref (b + 19), .ref (b + 20), .ref (b + 21), .ref (b + 22), .ref (b + 23), .ref (b + 24), .ref (b + 25), .ref (b + 26), .ref (b + 27), .ref (b + 28), .ref (b + 29), .ref (b + 30)])) H42 := m44 0 (by decide)
    refine lv_aload_n C.1 C.2.1 d_M_bitTime_143 rfl (lv_at hl 3 rfl) ?_
    refine hq_get (v := .ref (b + 1)) C f_M_7 k0 rfl d_M_bitTime_144 ?_
    refine lv_iconst (v := 0) C.1 C.2.1 d_M_bitTime_147 (by decide) ?_
    refine lv_iload_n C.1 C.2.1 d_M_bitTime_148 rfl (lv_at hl 2 rfl) ?_
    have e45 : va_at D vwCl (b + 1, .inl (cI, 8, .inl (A 0))) _ := m44 1 (by decide)
    refine hq_iast (lo := lo) C 0 rfl e45 (show vp_in (nI 0) 8 from vp_in_nI (by decide) (by decide)) hL (by omega) d_M_bitTime_149 (fun H46 locs u47 hL => ?_)
    have m48 := md_set (k := 0) (f := upd (A 0) 0 (nI t)) m44 u47
    have k0 : va_at D vwCl (b, .inr (6, [.int (th), .int (nI n), .ref (b + 1), .ref (b + 2), .ref (b + 3), .ref (b + 4), .ref (b + 5), .ref (b + 6), .ref (b + 7), .ref (b + 8), .ref (b + 9), .ref (b + 10), .ref (b + 11), .ref (b + 12), .ref (b + 13), .ref (b + 14), .ref (b + 15), .ref (b + 16), .ref (b + 17), .ref (b + 18), .ref (b + 19), .ref (b + 20), .ref (b + 21), .ref (b + 22), .ref (b + 23), .ref (b + 24), .ref (b + 25), .ref (b + 26), .ref (b + 27), .ref (b + 28), .ref (b + 29), .ref (b + 30)])) H46 := m48 0 (by decide)
    have hR : bitE A t a = R9 := hR
    exact hq_vret C hret hlk (Nat.le_of_ble_eq_true rfl) (Nat.le_of_ble_eq_true rfl) hL ⟨rfl, by rw [← hR]; exact m48, hq_Sput (hq_Sput (hS) u43 (by omega) (by omega)) u47 (by omega) (by omega)⟩ d_M_bitTime_150
  | succ d ih =>
    intro j A H locs ls hd ok hR hM hS hL hl
    have k0 : va_at D vwCl (b, .inr (6, [.int (th), .int (nI n), .ref (b + 1), .ref (b + 2), .ref (b + 3), .ref (b + 4), .ref (b + 5), .ref (b + 6), .ref (b + 7), .ref (b + 8), .ref (b + 9), .ref (b + 10), .ref (b + 11), .ref (b + 12), .ref (b + 13), .ref (b + 14), .ref (b + 15), .ref (b + 16), .ref (b + 17), .ref (b + 18), .ref (b + 19), .ref (b + 20), .ref (b + 21), .ref (b + 22), .ref (b + 23), .ref (b + 24), .ref (b + 25), .ref (b + 26), .ref (b + 27), .ref (b + 28), .ref (b + 29), .ref (b + 30)])) H := hM 0 (by decide)
    have hin : j < n := by omega
    have hj : j < 4 := by omega
    have ht256 : t % 256 < 256 := Nat.mod_lt _ (by decide)
    refine lv_iload_n C.1 C.2.1 d_M_bitTime_72 rfl (lv_at hl 0 rfl) ?_
    refine lv_aload_n C.1 C.2.1 d_M_bitTime_73 rfl (lv_at hl 3 rfl) ?_
    refine hq_get (v := .int (nI n)) C f_M_101 k0 rfl d_M_bitTime_74 ?_
    refine lv_icmp_ge (tgt := 133) C.1 C.2.1 d_M_bitTime_77 (by decide) (fun hn => absurd hn (nI_ge hin (by omega))) (fun _ => ?_)
    refine lv_sipush (v := 256) C.1 C.2.1 d_M_bitTime_80 (by decide) ?_
    refine lv_iload_n C.1 C.2.1 d_M_bitTime_83 rfl (lv_at hl 0 rfl) ?_
    refine lv_imul C.1 C.2.1 d_M_bitTime_84 ?_
    refine lv_iload_n C.1 C.2.1 d_M_bitTime_85 rfl (lv_at hl 2 rfl) ?_
    refine lv_sipush (v := 256) C.1 C.2.1 d_M_bitTime_86 (by decide) ?_
    refine lv_irem C.1 C.2.1 d_M_bitTime_89 (by decide) ?_
    rw [show nI t - nI t / 256 * 256 = nI (t % 256) from pk_rem (d := 256) (by omega) (by decide) (by decide)]
    refine lv_iadd C.1 C.2.1 d_M_bitTime_90 ?_
    rw [show (256 : Int32) * nI j + nI (t % 256) = nI (256 * j + t % 256) from by rw [show (256 : Int32) * nI j = nI (256 * j) from pk_mul 256 j, nI_add]]
    refine lv_istore C.1 C.2.1 d_M_bitTime_91 hl (by decide) rfl (lv' := [(4, .int (nI (256 * j + t % 256))), (3, .int (nI j)), (2, .int (a)), (1, .int (nI t)), (0, .ref (b))]) (fun ls hl => ?_)
    refine lv_aload_n C.1 C.2.1 d_M_bitTime_93 rfl (lv_at hl 4 rfl) ?_
    refine hq_get (v := .ref (b + 3)) C f_M_16 k0 rfl d_M_bitTime_94 ?_
    refine lv_iload C.1 C.2.1 d_M_bitTime_97 (lv_at hl 0 rfl) ?_
    have e41 : va_at D vwCl (b + 3, .inl (cZ, 1024, .inl (A 2))) _ := hM 3 (by decide)
    refine hq_zald C 1 rfl e41 (vp_in_nI (show (256 * j + t % 256) < 1024 by omega) (by decide)) d_M_bitTime_99 ?_
    rw [nI_clamp (show (256 * j + t % 256) < 2 ^ 31 by omega)]
    refine W.eq (g2 := F0 m 100 ls [.int (A 2 (256 * j + t % 256))]) rfl ?_
    refine lv_if_eq (tgt := 109) C.1 C.2.1 d_M_bitTime_100 (by decide) ?_ ?_
    · intro c0
      refine lv_iload_n C.1 C.2.1 d_M_bitTime_109 rfl (lv_at hl 2 rfl) ?_
      refine lv_istore C.1 C.2.1 d_M_bitTime_110 hl (by decide) rfl (lv' := [(5, .int (a)), (4, .int (nI (256 * j + t % 256))), (3, .int (nI j)), (2, .int (a)), (1, .int (nI t)), (0, .ref (b))]) (fun ls hl => ?_)
      refine lv_aload_n C.1 C.2.1 d_M_bitTime_112 rfl (lv_at hl 5 rfl) ?_
      refine hq_get (v := .ref (b + 3)) C f_M_16 k0 rfl d_M_bitTime_113 ?_
      refine lv_iload C.1 C.2.1 d_M_bitTime_116 (lv_at hl 1 rfl) ?_
      refine lv_iconst (v := 0) C.1 C.2.1 d_M_bitTime_118 (by decide) ?_
      have e42 : va_at D vwCl (b + 3, .inl (cZ, 1024, .inl (A 2))) _ := hM 3 (by decide)
      refine hq_zast (lo := lo) C 1 rfl e42 (vp_in_nI (show (256 * j + t % 256) < 1024 by omega) (by decide)) hL (by omega) d_M_bitTime_119 (fun H43 locs u44 hL => ?_)
      rw [nI_clamp (show (256 * j + t % 256) < 2 ^ 31 by omega)] at u44
      have m45 := md_set (k := 2) (f := upd (A 2) (256 * j + t % 256) (vp_nar .boolean 0)) hM u44
      have k0 : va_at D vwCl (b, .inr (6, [.int (th), .int (nI n), .ref (b + 1), .ref (b + 2), .ref (b + 3), .ref (b + 4), .ref (b + 5), .ref (b + 6), .ref (b + 7), .ref (b + 8), .ref (b + 9), .ref (b + 10), .ref (b + 11), .ref (b + 12), .ref (b + 13), .ref (b + 14), .ref (b + 15), .ref (b + 16), .ref (b + 17), .ref (b + 18), .ref (b + 19), .ref (b + 20), .ref (b + 21), .ref (b + 22), .ref (b + 23), .ref (b + 24), .ref (b + 25), .ref (b + 26), .ref (b + 27), .ref (b + 28), .ref (b + 29), .ref (b + 30)])) H43 := m45 0 (by decide)
      have hsb : sb2 A j t a = a := by unfold sb2; rw [if_pos c0]
      refine lv_aload_n C.1 C.2.1 d_M_bitTime_120 rfl (lv_at hl 5 rfl) ?_
      refine lv_iload_n C.1 C.2.1 d_M_bitTime_121 rfl (lv_at hl 2 rfl) ?_
      refine lv_iload C.1 C.2.1 d_M_bitTime_122 (lv_at hl 0 rfl) ?_
      refine hq_callV (lo := lo) (As := [.int (nI j), .int (a)]) (rest := []) C tb_good hml Y_M_184 (c_M_see l D cI cZ cN cJ lo b hlo th (nI n) (setA A 2 (upd (A 2) (256 * j + t % 256) (vp_nar .boolean 0))) j hj a (okA_o (by decide) ok)) k0 rfl (fun _ _ _ _ h => h) (fun U hU hW => by show hq_B D vwCl b 31 (mdC cI cZ b th (nI n) (setA A 2 (upd (A 2) (256 * j + t % 256) (vp_nar .boolean 0)))) U.heap; rw [hU]; exact m45) hL hl.1 rfl rfl ⟨⟨Nat.le_of_ble_eq_true rfl, Nat.le_of_ble_eq_true rfl⟩, Nat.le_of_ble_eq_true rfl, Nat.le_of_ble_eq_true rfl⟩ (Nat.le_of_ble_eq_true rfl) d_M_bitTime_124 (fun v H48 locs hp hL => ?_)
      obtain ⟨rfl, m46, S47⟩ := hp
      refine W.eq (g2 := F0 m 127 ls []) rfl ?_
      have k0 : va_at D vwCl (b, .inr (6, [.int (th), .int (nI n), .ref (b + 1), .ref (b + 2), .ref (b + 3), .ref (b + 4), .ref (b + 5), .ref (b + 6), .ref (b + 7), .ref (b + 8), .ref (b + 9), .ref (b + 10), .ref (b + 11), .ref (b + 12), .ref (b + 13), .ref (b + 14), .ref (b + 15), .ref (b + 16), .ref (b + 17), .ref (b + 18), .ref (b + 19), .ref (b + 20), .ref (b + 21), .ref (b + 22), .ref (b + 23), .ref (b + 24), .ref (b + 25), .ref (b + 26), .ref (b + 27), .ref (b + 28), .ref (b + 29), .ref (b + 30)])) H48 := m46 0 (by decide)
      refine lv_iinc (k := 2) (v := nI (j + 1)) C.1 C.2.1 d_M_bitTime_127 hl rfl (nI_1 j) (by decide) (lv' := [(3, .int (nI (j + 1))), (5, .int (a)), (4, .int (nI (256 * j + t % 256))), (2, .int (a)), (1, .int (nI t)), (0, .ref (b))]) rfl (fun ls hl => ?_)
      refine lv_goto (tgt := 72) C.1 C.2.1 d_M_bitTime_130 (by decide) ?_
      have hst : st2 A j t a = (f_M_see (setA A 2 (upd (A 2) (256 * j + t % 256) (vp_nar .boolean 0))) j a) := by unfold st2; rw [hsb]
      exact ih (j + 1) _ _ locs ls (by omega) (ok_M_see (setA A 2 (upd (A 2) (256 * j + t % 256) (vp_nar .boolean 0))) j hj a (okA_o (by decide) ok)) (by rw [← hst]; exact hR) m46 (hq_Scall (hq_Sput (hS) u44 (by omega) (by omega)) S47 (by omega) (by omega)) hL (lv_push (lv_push (lv_push (lv_push (lv_nil hl) (lv_at hl 5 rfl)) (lv_at hl 4 rfl)) (lv_at hl 3 rfl)) (lv_at hl 0 rfl))
    · intro c0
      refine lv_iconst (v := 1) C.1 C.2.1 d_M_bitTime_103 (by decide) ?_
      refine lv_iload_n C.1 C.2.1 d_M_bitTime_104 rfl (lv_at hl 2 rfl) ?_
      refine lv_isub C.1 C.2.1 d_M_bitTime_105 ?_
      refine lv_goto (tgt := 110) C.1 C.2.1 d_M_bitTime_106 (by decide) ?_
      refine lv_istore C.1 C.2.1 d_M_bitTime_110 hl (by decide) rfl (lv' := [(5, .int (1 - a)), (4, .int (nI (256 * j + t % 256))), (3, .int (nI j)), (2, .int (a)), (1, .int (nI t)), (0, .ref (b))]) (fun ls hl => ?_)
      refine lv_aload_n C.1 C.2.1 d_M_bitTime_112 rfl (lv_at hl 5 rfl) ?_
      refine hq_get (v := .ref (b + 3)) C f_M_16 k0 rfl d_M_bitTime_113 ?_
      refine lv_iload C.1 C.2.1 d_M_bitTime_116 (lv_at hl 1 rfl) ?_
      refine lv_iconst (v := 0) C.1 C.2.1 d_M_bitTime_118 (by decide) ?_
      have e49 : va_at D vwCl (b + 3, .inl (cZ, 1024, .inl (A 2))) _ := hM 3 (by decide)
      refine hq_zast (lo := lo) C 1 rfl e49 (vp_in_nI (show (256 * j + t % 256) < 1024 by omega) (by decide)) hL (by omega) d_M_bitTime_119 (fun H50 locs u51 hL => ?_)
      rw [nI_clamp (show (256 * j + t % 256) < 2 ^ 31 by omega)] at u51
      have m52 := md_set (k := 2) (f := upd (A 2) (256 * j + t % 256) (vp_nar .boolean 0)) hM u51
      have k0 : va_at D vwCl (b, .inr (6, [.int (th), .int (nI n), .ref (b + 1), .ref (b + 2), .ref (b + 3), .ref (b + 4), .ref (b + 5), .ref (b + 6), .ref (b + 7), .ref (b + 8), .ref (b + 9), .ref (b + 10), .ref (b + 11), .ref (b + 12), .ref (b + 13), .ref (b + 14), .ref (b + 15), .ref (b + 16), .ref (b + 17), .ref (b + 18), .ref (b + 19), .ref (b + 20), .ref (b + 21), .ref (b + 22), .ref (b + 23), .ref (b + 24), .ref (b + 25), .ref (b + 26), .ref (b + 27), .ref (b + 28), .ref (b + 29), .ref (b + 30)])) H50 := m52 0 (by decide)
      have hsb : sb2 A j t a = 1 - a := by unfold sb2; rw [if_neg c0]
      refine lv_aload_n C.1 C.2.1 d_M_bitTime_120 rfl (lv_at hl 5 rfl) ?_
      refine lv_iload_n C.1 C.2.1 d_M_bitTime_121 rfl (lv_at hl 2 rfl) ?_
      refine lv_iload C.1 C.2.1 d_M_bitTime_122 (lv_at hl 0 rfl) ?_
      refine hq_callV (lo := lo) (As := [.int (nI j), .int (1 - a)]) (rest := []) C tb_good hml Y_M_184 (c_M_see l D cI cZ cN cJ lo b hlo th (nI n) (setA A 2 (upd (A 2) (256 * j + t % 256) (vp_nar .boolean 0))) j hj (1 - a) (okA_o (by decide) ok)) k0 rfl (fun _ _ _ _ h => h) (fun U hU hW => by show hq_B D vwCl b 31 (mdC cI cZ b th (nI n) (setA A 2 (upd (A 2) (256 * j + t % 256) (vp_nar .boolean 0)))) U.heap; rw [hU]; exact m52) hL hl.1 rfl rfl ⟨⟨Nat.le_of_ble_eq_true rfl, Nat.le_of_ble_eq_true rfl⟩, Nat.le_of_ble_eq_true rfl, Nat.le_of_ble_eq_true rfl⟩ (Nat.le_of_ble_eq_true rfl) d_M_bitTime_124 (fun v H55 locs hp hL => ?_)
      obtain ⟨rfl, m53, S54⟩ := hp
      refine W.eq (g2 := F0 m 127 ls []) rfl ?_
      have k0 : va_at D vwCl (b, .inr (6, [.int (th), .int (nI n), .ref (b + 1), .ref (b + 2), .ref (b + 3), .ref (b + 4), .ref (b + 5), .ref (b + 6), .ref (b + 7), .ref (b + 8), .ref (b + 9), .ref (b + 10), .ref (b + 11), .ref (b + 12), .ref (b + 13), .ref (b + 14), .ref (b + 15), .ref (b + 16), .ref (b + 17), .ref (b + 18), .ref (b + 19), .ref (b + 20), .ref (b + 21), .ref (b + 22), .ref (b + 23), .ref (b + 24), .ref (b + 25), .ref (b + 26), .ref (b + 27), .ref (b + 28), .ref (b + 29), .ref (b + 30)])) H55 := m53 0 (by decide)
      refine lv_iinc (k := 2) (v := nI (j + 1)) C.1 C.2.1 d_M_bitTime_127 hl rfl (nI_1 j) (by decide) (lv' := [(3, .int (nI (j + 1))), (5, .int (1 - a)), (4, .int (nI (256 * j + t % 256))), (2, .int (a)), (1, .int (nI t)), (0, .ref (b))]) rfl (fun ls hl => ?_)
      refine lv_goto (tgt := 72) C.1 C.2.1 d_M_bitTime_130 (by decide) ?_
      have hst : st2 A j t a = (f_M_see (setA A 2 (upd (A 2) (256 * j + t % 256) (vp_nar .boolean 0))) j (1 - a)) := by unfold st2; rw [hsb]
      exact ih (j + 1) _ _ locs ls (by omega) (ok_M_see (setA A 2 (upd (A 2) (256 * j + t % 256) (vp_nar .boolean 0))) j hj (1 - a) (okA_o (by decide) ok)) (by rw [← hst]; exact hR) m53 (hq_Scall (hq_Sput (hS) u51 (by omega) (by omega)) S54 (by omega) (by omega)) hL (lv_push (lv_push (lv_push (lv_push (lv_nil hl) (lv_at hl 5 rfl)) (lv_at hl 4 rfl)) (lv_at hl 3 rfl)) (lv_at hl 0 rfl))
set_option maxHeartbeats 4000000 in
set_option maxRecDepth 100000 in
theorem mt_loop1 {p : Program} {l : Launch} {e : Env} {s : State} {m : MethodId} {args : Array Value} {below : List Frame} {meth : Method} {c : Code} (D : va_G) (cI cZ cN cJ : ClassId) (lo b n t : Nat) (hlo : lo ≤ b) (hn4 : n ≤ 4) (ht : t < 2 ^ 30) (th : Int32) {R9 : Nat → Nat → Int32} (C : hq_C p c s m args R_M b_M_bitTime TB D vwCl (TY cI cZ cN cJ)) (hml : c.maxLocals = 6) (hret : meth.sig.returnType = none) (hlk : meth.locks = false) :
    ∀ (d j : Nat) (A : Nat → Nat → Int32) (a : Int32) (H : Heap) (locs : List Loc) (ls : Array Slot), j + d = n → okA A → bitE (mlp2 t (mlp1 d j A a).2 n 0 (mlp1 d j A a).1) t (mlp1 d j A a).2 = R9 → hq_B D vwCl b 31 (mdC cI cZ b th (nI n) A) H → hq_S b 31 s.heap H → hq_L lo locs → lv_has ls 6 [(3, .int (nI j)), (2, .int (a)), (1, .int (nI t)), (0, .ref b)] →
      W p l e mbRm s m args below meth c H locs 0 0 (MQ below (hq_Q (fun H v H' => v = none ∧ hq_B D vwCl b 31 (mdC cI cZ b th (nI n) R9) H' ∧ hq_S b 31 H H')) args s 0 0 (fun q => lo ≤ q)) (F0 m 13 ls []) := by
  intro d
  induction d with
  | zero =>
    intro j A a H locs ls hd ok hR hM hS hL hl
    have k0 : va_at D vwCl (b, .inr (6, [.int (th), .int (nI n), .ref (b + 1), .ref (b + 2), .ref (b + 3), .ref (b + 4), .ref (b + 5), .ref (b + 6), .ref (b + 7), .ref (b + 8), .ref (b + 9), .ref (b + 10), .ref (b + 11), .ref (b + 12), .ref (b + 13), .ref (b + 14), .ref (b + 15), .ref (b + 16), .ref (b + 17), .ref (b + 18), .ref (b + 19), .ref (b + 20), .ref (b + 21), .ref (b + 22), .ref (b + 23), .ref (b + 24), .ref (b + 25), .ref (b + 26), .ref (b + 27), .ref (b + 28), .ref (b + 29), .ref (b + 30)])) H := hM 0 (by decide)
    have hin : j = n := by omega
    refine lv_iload_n C.1 C.2.1 d_M_bitTime_13 rfl (lv_at hl 0 rfl) ?_
    refine lv_aload_n C.1 C.2.1 d_M_bitTime_14 rfl (lv_at hl 3 rfl) ?_
    refine hq_get (v := .int (nI n)) C f_M_101 k0 rfl d_M_bitTime_15 ?_
    refine lv_icmp_ge (tgt := 70) C.1 C.2.1 d_M_bitTime_18 (by decide) (fun _ => ?_) (fun hn => absurd (by rw [hin]; exact Int32.le_refl _) hn)
    refine lv_iconst (v := 0) C.1 C.2.1 d_M_bitTime_70 (by decide) ?_
    refine lv_istore_n C.1 C.2.1 d_M_bitTime_71 rfl hl (by decide) (lv' := [(3, .int (nI 0)), (2, .int (a)), (1, .int (nI t)), (0, .ref b)]) rfl (fun ls hl => ?_)
    exact mt_loop2 D cI cZ cN cJ lo b n t hlo hn4 ht th C hml hret hlk a n 0 A H locs ls (by omega) ok hR hM hS hL hl
  | succ d ih =>
    intro j A a H locs ls hd ok hR hM hS hL hl
    have k0 : va_at D vwCl (b, .inr (6, [.int (th), .int (nI n), .ref (b + 1), .ref (b + 2), .ref (b + 3), .ref (b + 4), .ref (b + 5), .ref (b + 6), .ref (b + 7), .ref (b + 8), .ref (b + 9), .ref (b + 10), .ref (b + 11), .ref (b + 12), .ref (b + 13), .ref (b + 14), .ref (b + 15), .ref (b + 16), .ref (b + 17), .ref (b + 18), .ref (b + 19), .ref (b + 20), .ref (b + 21), .ref (b + 22), .ref (b + 23), .ref (b + 24), .ref (b + 25), .ref (b + 26), .ref (b + 27), .ref (b + 28), .ref (b + 29), .ref (b + 30)])) H := hM 0 (by decide)
    have hin : j < n := by omega
    have hj : j < 4 := by omega
    refine lv_iload_n C.1 C.2.1 d_M_bitTime_13 rfl (lv_at hl 0 rfl) ?_
    refine lv_aload_n C.1 C.2.1 d_M_bitTime_14 rfl (lv_at hl 3 rfl) ?_
    refine hq_get (v := .int (nI n)) C f_M_101 k0 rfl d_M_bitTime_15 ?_
    refine lv_icmp_ge (tgt := 70) C.1 C.2.1 d_M_bitTime_18 (by decide) (fun hn => absurd hn (nI_ge hin (by omega))) (fun _ => ?_)
    refine lv_aload_n C.1 C.2.1 d_M_bitTime_21 rfl (lv_at hl 3 rfl) ?_
    refine hq_get (v := .ref (b + 4)) C f_M_20 k0 rfl d_M_bitTime_22 ?_
    refine lv_iload_n C.1 C.2.1 d_M_bitTime_25 rfl (lv_at hl 0 rfl) ?_
    have e41 : va_at D vwCl (b + 4, .inl (cI, 4, .inl (A 3))) _ := hM 4 (by decide)
    refine hq_iald C 0 rfl e41 (vp_in_nI hj (by decide)) d_M_bitTime_26 ?_
    rw [nI_clamp (show j < 2 ^ 31 by omega)]
    refine W.eq (g2 := F0 m 27 ls [.int (A 3 j)]) rfl ?_
    refine lv_if_ne (tgt := 44) C.1 C.2.1 d_M_bitTime_27 (by decide) ?_ ?_
    · intro c0
      have hpre : pre1 A j = A := by unfold pre1; rw [if_neg c0]
      refine lv_aload_n C.1 C.2.1 d_M_bitTime_44 rfl (lv_at hl 3 rfl) ?_
      refine hq_get (v := .ref (b + 30)) C f_M_98 k0 rfl d_M_bitTime_45 ?_
      refine lv_iload_n C.1 C.2.1 d_M_bitTime_48 rfl (lv_at hl 0 rfl) ?_
      refine lv_aload_n C.1 C.2.1 d_M_bitTime_49 rfl (lv_at hl 3 rfl) ?_
      refine lv_iload_n C.1 C.2.1 d_M_bitTime_50 rfl (lv_at hl 0 rfl) ?_
      refine hq_callV (lo := lo) (As := [.int (nI j)]) (rest := [.int (nI j), .ref (b + 30)]) C tb_good hml Y_M_181 (c_M_driven l D cI cZ cN cJ lo b th (nI n) A j hj ok) k0 rfl (fun _ _ _ _ h => h) (fun U hU hW => by show hq_B D vwCl b 31 (mdC cI cZ b th (nI n) A) U.heap; rw [hU]; exact hM) hL hl.1 rfl rfl ⟨⟨Nat.le_of_ble_eq_true rfl, Nat.le_of_ble_eq_true rfl⟩, Nat.le_of_ble_eq_true rfl, Nat.le_of_ble_eq_true rfl⟩ (Nat.le_of_ble_eq_true rfl) d_M_bitTime_51 (fun v H42 locs hp hL => ?_)
      obtain ⟨rfl, rfl⟩ := hp
      refine W.eq (g2 := F0 m 54 ls [.int ((f_M_driven A j)), .int (nI j), .ref (b + 30)]) rfl ?_
      have e43 : va_at D vwCl (b + 30, .inl (cI, 4, .inl (A 29))) _ := hM 30 (by decide)
      refine hq_iast (lo := lo) C 0 rfl e43 (vp_in_nI hj (by decide)) hL (by omega) d_M_bitTime_54 (fun H44 locs u45 hL => ?_)
      rw [nI_clamp (show j < 2 ^ 31 by omega)] at u45
      have m46 := md_set (k := 29) (f := upd (A 29) j ((f_M_driven A j))) hM u45
      have k0 : va_at D vwCl (b, .inr (6, [.int (th), .int (nI n), .ref (b + 1), .ref (b + 2), .ref (b + 3), .ref (b + 4), .ref (b + 5), .ref (b + 6), .ref (b + 7), .ref (b + 8), .ref (b + 9), .ref (b + 10), .ref (b + 11), .ref (b + 12), .ref (b + 13), .ref (b + 14), .ref (b + 15), .ref (b + 16), .ref (b + 17), .ref (b + 18), .ref (b + 19), .ref (b + 20), .ref (b + 21), .ref (b + 22), .ref (b + 23), .ref (b + 24), .ref (b + 25), .ref (b + 26), .ref (b + 27), .ref (b + 28), .ref (b + 29), .ref (b + 30)])) H44 := m46 0 (by decide)
      refine lv_iload_n C.1 C.2.1 d_M_bitTime_55 rfl (lv_at hl 1 rfl) ?_
      refine lv_aload_n C.1 C.2.1 d_M_bitTime_56 rfl (lv_at hl 3 rfl) ?_
      refine hq_get (v := .ref (b + 30)) C f_M_98 k0 rfl d_M_bitTime_57 ?_
      refine lv_iload_n C.1 C.2.1 d_M_bitTime_60 rfl (lv_at hl 0 rfl) ?_
      have e47 : va_at D vwCl (b + 30, .inl (cI, 4, .inl (upd (A 29) j ((f_M_driven A j))))) _ := m46 30 (by decide)
      refine hq_iald C 0 rfl e47 (vp_in_nI hj (by decide)) d_M_bitTime_61 ?_
      rw [nI_clamp (show j < 2 ^ 31 by omega)]
      rw [show (upd (A 29) j ((f_M_driven A j))) j = (f_M_driven A j) from pk_us]
      refine W.eq (g2 := F0 m 62 ls [.int ((f_M_driven A j)), .int (a)]) rfl ?_
      refine lv_iand C.1 C.2.1 d_M_bitTime_62 ?_
      refine lv_istore_n C.1 C.2.1 d_M_bitTime_63 rfl hl (by decide) (lv' := [(2, .int (a &&& ((f_M_driven A j)))), (3, .int (nI j)), (1, .int (nI t)), (0, .ref (b))]) rfl (fun ls hl => ?_)
      refine lv_iinc (k := 1) (v := nI (j + 1)) C.1 C.2.1 d_M_bitTime_64 hl rfl (nI_1 j) (by decide) (lv' := [(3, .int (nI (j + 1))), (2, .int (a &&& ((f_M_driven A j)))), (1, .int (nI t)), (0, .ref (b))]) rfl (fun ls hl => ?_)
      refine lv_goto (tgt := 13) C.1 C.2.1 d_M_bitTime_67 (by decide) ?_
      exact ih (j + 1) (setA A 29 (upd (A 29) j ((f_M_driven A j)))) (a &&& ((f_M_driven A j))) _ locs ls (by omega) (okA_o (by decide) ok) (by rw [← hR, show mlp1 (d + 1) j A a = mlp1 d (j + 1) (st1 A j) (a &&& f_M_driven (pre1 A j) j) from rfl, show st1 A j = (setA A 29 (upd (A 29) j ((f_M_driven A j)))) from by unfold st1; rw [hpre], hpre]) m46 (hq_Sput (hS) u45 (by omega) (by omega)) hL (lv_push (lv_push (lv_push (lv_push (lv_nil hl) (lv_at hl 3 rfl)) (lv_at hl 2 rfl)) (lv_at hl 1 rfl)) (lv_at hl 0 rfl))
    · intro c0
      refine lv_aload_n C.1 C.2.1 d_M_bitTime_30 rfl (lv_at hl 3 rfl) ?_
      refine hq_get (v := .ref (b + 10)) C f_M_38 k0 rfl d_M_bitTime_31 ?_
      refine lv_iload_n C.1 C.2.1 d_M_bitTime_34 rfl (lv_at hl 0 rfl) ?_
      have e48 : va_at D vwCl (b + 10, .inl (cI, 4, .inl (A 9))) _ := hM 10 (by decide)
      refine hq_iald C 0 rfl e48 (vp_in_nI hj (by decide)) d_M_bitTime_35 ?_
      rw [nI_clamp (show j < 2 ^ 31 by omega)]
      refine W.eq (g2 := F0 m 36 ls [.int (A 9 j)]) rfl ?_
      refine lv_if_le (tgt := 44) C.1 C.2.1 d_M_bitTime_36 (by decide) ?_ ?_
      · intro c1
        have hpre : pre1 A j = A := by unfold pre1; rw [if_pos c0, if_pos c1]
        refine lv_aload_n C.1 C.2.1 d_M_bitTime_44 rfl (lv_at hl 3 rfl) ?_
        refine hq_get (v := .ref (b + 30)) C f_M_98 k0 rfl d_M_bitTime_45 ?_
        refine lv_iload_n C.1 C.2.1 d_M_bitTime_48 rfl (lv_at hl 0 rfl) ?_
        refine lv_aload_n C.1 C.2.1 d_M_bitTime_49 rfl (lv_at hl 3 rfl) ?_
        refine lv_iload_n C.1 C.2.1 d_M_bitTime_50 rfl (lv_at hl 0 rfl) ?_
        refine hq_callV (lo := lo) (As := [.int (nI j)]) (rest := [.int (nI j), .ref (b + 30)]) C tb_good hml Y_M_181 (c_M_driven l D cI cZ cN cJ lo b th (nI n) A j hj ok) k0 rfl (fun _ _ _ _ h => h) (fun U hU hW => by show hq_B D vwCl b 31 (mdC cI cZ b th (nI n) A) U.heap; rw [hU]; exact hM) hL hl.1 rfl rfl ⟨⟨Nat.le_of_ble_eq_true rfl, Nat.le_of_ble_eq_true rfl⟩, Nat.le_of_ble_eq_true rfl, Nat.le_of_ble_eq_true rfl⟩ (Nat.le_of_ble_eq_true rfl) d_M_bitTime_51 (fun v H49 locs hp hL => ?_)
        obtain ⟨rfl, rfl⟩ := hp
        refine W.eq (g2 := F0 m 54 ls [.int ((f_M_driven A j)), .int (nI j), .ref (b + 30)]) rfl ?_
        have e50 : va_at D vwCl (b + 30, .inl (cI, 4, .inl (A 29))) _ := hM 30 (by decide)
        refine hq_iast (lo := lo) C 0 rfl e50 (vp_in_nI hj (by decide)) hL (by omega) d_M_bitTime_54 (fun H51 locs u52 hL => ?_)
        rw [nI_clamp (show j < 2 ^ 31 by omega)] at u52
        have m53 := md_set (k := 29) (f := upd (A 29) j ((f_M_driven A j))) hM u52
        have k0 : va_at D vwCl (b, .inr (6, [.int (th), .int (nI n), .ref (b + 1), .ref (b + 2), .ref (b + 3), .ref (b + 4), .ref (b + 5), .ref (b + 6), .ref (b + 7), .ref (b + 8), .ref (b + 9), .ref (b + 10), .ref (b + 11), .ref (b + 12), .ref (b + 13), .ref (b + 14), .ref (b + 15), .ref (b + 16), .ref (b + 17), .ref (b + 18), .ref (b + 19), .ref (b + 20), .ref (b + 21), .ref (b + 22), .ref (b + 23), .ref (b + 24), .ref (b + 25), .ref (b + 26), .ref (b + 27), .ref (b + 28), .ref (b + 29), .ref (b + 30)])) H51 := m53 0 (by decide)
        refine lv_iload_n C.1 C.2.1 d_M_bitTime_55 rfl (lv_at hl 1 rfl) ?_
        refine lv_aload_n C.1 C.2.1 d_M_bitTime_56 rfl (lv_at hl 3 rfl) ?_
        refine hq_get (v := .ref (b + 30)) C f_M_98 k0 rfl d_M_bitTime_57 ?_
        refine lv_iload_n C.1 C.2.1 d_M_bitTime_60 rfl (lv_at hl 0 rfl) ?_
        have e54 : va_at D vwCl (b + 30, .inl (cI, 4, .inl (upd (A 29) j ((f_M_driven A j))))) _ := m53 30 (by decide)
        refine hq_iald C 0 rfl e54 (vp_in_nI hj (by decide)) d_M_bitTime_61 ?_
        rw [nI_clamp (show j < 2 ^ 31 by omega)]
        rw [show (upd (A 29) j ((f_M_driven A j))) j = (f_M_driven A j) from pk_us]
        refine W.eq (g2 := F0 m 62 ls [.int ((f_M_driven A j)), .int (a)]) rfl ?_
        refine lv_iand C.1 C.2.1 d_M_bitTime_62 ?_
        refine lv_istore_n C.1 C.2.1 d_M_bitTime_63 rfl hl (by decide) (lv' := [(2, .int (a &&& ((f_M_driven A j)))), (3, .int (nI j)), (1, .int (nI t)), (0, .ref (b))]) rfl (fun ls hl => ?_)
        refine lv_iinc (k := 1) (v := nI (j + 1)) C.1 C.2.1 d_M_bitTime_64 hl rfl (nI_1 j) (by decide) (lv' := [(3, .int (nI (j + 1))), (2, .int (a &&& ((f_M_driven A j)))), (1, .int (nI t)), (0, .ref (b))]) rfl (fun ls hl => ?_)
        refine lv_goto (tgt := 13) C.1 C.2.1 d_M_bitTime_67 (by decide) ?_
        exact ih (j + 1) (setA A 29 (upd (A 29) j ((f_M_driven A j)))) (a &&& ((f_M_driven A j))) _ locs ls (by omega) (okA_o (by decide) ok) (by rw [← hR, show mlp1 (d + 1) j A a = mlp1 d (j + 1) (st1 A j) (a &&& f_M_driven (pre1 A j) j) from rfl, show st1 A j = (setA A 29 (upd (A 29) j ((f_M_driven A j)))) from by unfold st1; rw [hpre], hpre]) m53 (hq_Sput (hS) u52 (by omega) (by omega)) hL (lv_push (lv_push (lv_push (lv_push (lv_nil hl) (lv_at hl 3 rfl)) (lv_at hl 2 rfl)) (lv_at hl 1 rfl)) (lv_at hl 0 rfl))
      · intro c1
        refine lv_aload_n C.1 C.2.1 d_M_bitTime_39 rfl (lv_at hl 3 rfl) ?_
        refine lv_iload_n C.1 C.2.1 d_M_bitTime_40 rfl (lv_at hl 0 rfl) ?_
        refine hq_callV (lo := lo) (As := [.int (nI j)]) (rest := []) C tb_good hml Y_M_178 (c_M_begin l D cI cZ cN cJ lo b hlo th (nI n) A j hj ok) k0 rfl (fun _ _ _ _ h => h) (fun U hU hW => by show hq_B D vwCl b 31 (mdC cI cZ b th (nI n) A) U.heap; rw [hU]; exact hM) hL hl.1 rfl rfl ⟨⟨Nat.le_of_ble_eq_true rfl, Nat.le_of_ble_eq_true rfl⟩, Nat.le_of_ble_eq_true rfl, Nat.le_of_ble_eq_true rfl⟩ (Nat.le_of_ble_eq_true rfl) d_M_bitTime_41 (fun v H57 locs hp hL => ?_)
        obtain ⟨rfl, m55, S56⟩ := hp
        refine W.eq (g2 := F0 m 44 ls []) rfl ?_
        have k0 : va_at D vwCl (b, .inr (6, [.int (th), .int (nI n), .ref (b + 1), .ref (b + 2), .ref (b + 3), .ref (b + 4), .ref (b + 5), .ref (b + 6), .ref (b + 7), .ref (b + 8), .ref (b + 9), .ref (b + 10), .ref (b + 11), .ref (b + 12), .ref (b + 13), .ref (b + 14), .ref (b + 15), .ref (b + 16), .ref (b + 17), .ref (b + 18), .ref (b + 19), .ref (b + 20), .ref (b + 21), .ref (b + 22), .ref (b + 23), .ref (b + 24), .ref (b + 25), .ref (b + 26), .ref (b + 27), .ref (b + 28), .ref (b + 29), .ref (b + 30)])) H57 := m55 0 (by decide)
        have hpre : pre1 A j = (f_M_begin A j) := by unfold pre1; rw [if_pos c0, if_neg c1]
        refine lv_aload_n C.1 C.2.1 d_M_bitTime_44 rfl (lv_at hl 3 rfl) ?_
        refine hq_get (v := .ref (b + 30)) C f_M_98 k0 rfl d_M_bitTime_45 ?_
        refine lv_iload_n C.1 C.2.1 d_M_bitTime_48 rfl (lv_at hl 0 rfl) ?_
        refine lv_aload_n C.1 C.2.1 d_M_bitTime_49 rfl (lv_at hl 3 rfl) ?_
        refine lv_iload_n C.1 C.2.1 d_M_bitTime_50 rfl (lv_at hl 0 rfl) ?_
        refine hq_callV (lo := lo) (As := [.int (nI j)]) (rest := [.int (nI j), .ref (b + 30)]) C tb_good hml Y_M_181 (c_M_driven l D cI cZ cN cJ lo b th (nI n) (f_M_begin A j) j hj (ok_M_begin A j hj (fun h9 => c1 (by rw [h9]; exact Int32.le_refl 0)) ok)) k0 rfl (fun _ _ _ _ h => h) (fun U hU hW => by show hq_B D vwCl b 31 (mdC cI cZ b th (nI n) (f_M_begin A j)) U.heap; rw [hU]; exact m55) hL hl.1 rfl rfl ⟨⟨Nat.le_of_ble_eq_true rfl, Nat.le_of_ble_eq_true rfl⟩, Nat.le_of_ble_eq_true rfl, Nat.le_of_ble_eq_true rfl⟩ (Nat.le_of_ble_eq_true rfl) d_M_bitTime_51 (fun v H58 locs hp hL => ?_)
        obtain ⟨rfl, rfl⟩ := hp
        refine W.eq (g2 := F0 m 54 ls [.int ((f_M_driven (f_M_begin A j) j)), .int (nI j), .ref (b + 30)]) rfl ?_
        have e59 : va_at D vwCl (b + 30, .inl (cI, 4, .inl ((f_M_begin A j) 29))) _ := m55 30 (by decide)
        refine hq_iast (lo := lo) C 0 rfl e59 (vp_in_nI hj (by decide)) hL (by omega) d_M_bitTime_54 (fun H60 locs u61 hL => ?_)
        rw [nI_clamp (show j < 2 ^ 31 by omega)] at u61
        have m62 := md_set (k := 29) (f := upd ((f_M_begin A j) 29) j ((f_M_driven (f_M_begin A j) j))) m55 u61
        have k0 : va_at D vwCl (b, .inr (6, [.int (th), .int (nI n), .ref (b + 1), .ref (b + 2), .ref (b + 3), .ref (b + 4), .ref (b + 5), .ref (b + 6), .ref (b + 7), .ref (b + 8), .ref (b + 9), .ref (b + 10), .ref (b + 11), .ref (b + 12), .ref (b + 13), .ref (b + 14), .ref (b + 15), .ref (b + 16), .ref (b + 17), .ref (b + 18), .ref (b + 19), .ref (b + 20), .ref (b + 21), .ref (b + 22), .ref (b + 23), .ref (b + 24), .ref (b + 25), .ref (b + 26), .ref (b + 27), .ref (b + 28), .ref (b + 29), .ref (b + 30)])) H60 := m62 0 (by decide)
        refine lv_iload_n C.1 C.2.1 d_M_bitTime_55 rfl (lv_at hl 1 rfl) ?_
        refine lv_aload_n C.1 C.2.1 d_M_bitTime_56 rfl (lv_at hl 3 rfl) ?_
        refine hq_get (v := .ref (b + 30)) C f_M_98 k0 rfl d_M_bitTime_57 ?_
        refine lv_iload_n C.1 C.2.1 d_M_bitTime_60 rfl (lv_at hl 0 rfl) ?_
        have e63 : va_at D vwCl (b + 30, .inl (cI, 4, .inl (upd ((f_M_begin A j) 29) j ((f_M_driven (f_M_begin A j) j))))) _ := m62 30 (by decide)
        refine hq_iald C 0 rfl e63 (vp_in_nI hj (by decide)) d_M_bitTime_61 ?_
        rw [nI_clamp (show j < 2 ^ 31 by omega)]
        rw [show (upd ((f_M_begin A j) 29) j ((f_M_driven (f_M_begin A j) j))) j = (f_M_driven (f_M_begin A j) j) from pk_us]
        refine W.eq (g2 := F0 m 62 ls [.int ((f_M_driven (f_M_begin A j) j)), .int (a)]) rfl ?_
        refine lv_iand C.1 C.2.1 d_M_bitTime_62 ?_
        refine lv_istore_n C.1 C.2.1 d_M_bitTime_63 rfl hl (by decide) (lv' := [(2, .int (a &&& ((f_M_driven (f_M_begin A j) j)))), (3, .int (nI j)), (1, .int (nI t)), (0, .ref (b))]) rfl (fun ls hl => ?_)
        refine lv_iinc (k := 1) (v := nI (j + 1)) C.1 C.2.1 d_M_bitTime_64 hl rfl (nI_1 j) (by decide) (lv' := [(3, .int (nI (j + 1))), (2, .int (a &&& ((f_M_driven (f_M_begin A j) j)))), (1, .int (nI t)), (0, .ref (b))]) rfl (fun ls hl => ?_)
        refine lv_goto (tgt := 13) C.1 C.2.1 d_M_bitTime_67 (by decide) ?_
        exact ih (j + 1) (setA (f_M_begin A j) 29 (upd ((f_M_begin A j) 29) j ((f_M_driven (f_M_begin A j) j)))) (a &&& ((f_M_driven (f_M_begin A j) j))) _ locs ls (by omega) (okA_o (by decide) (ok_M_begin A j hj (fun h9 => c1 (by rw [h9]; exact Int32.le_refl 0)) ok)) (by rw [← hR, show mlp1 (d + 1) j A a = mlp1 d (j + 1) (st1 A j) (a &&& f_M_driven (pre1 A j) j) from rfl, show st1 A j = (setA (f_M_begin A j) 29 (upd ((f_M_begin A j) 29) j ((f_M_driven (f_M_begin A j) j)))) from by unfold st1; rw [hpre], hpre]) m62 (hq_Sput (hq_Scall (hS) S56 (by omega) (by omega)) u61 (by omega) (by omega)) hL (lv_push (lv_push (lv_push (lv_push (lv_nil hl) (lv_at hl 3 rfl)) (lv_at hl 2 rfl)) (lv_at hl 1 rfl)) (lv_at hl 0 rfl))
set_option maxHeartbeats 4000000 in
set_option maxRecDepth 100000 in
theorem c_M_bitTime (l : Launch) (D : va_G) (cI cZ cN cJ : ClassId) (lo : Nat) (b n k : Nat) (hlo : lo ≤ b) (hn4 : n ≤ 4) (hk2 : k + 1 < 2 ^ 30) (th : Int32) (A : Nat → Nat → Int32) (hk : A 0 0 = nI k) (ok : okA A) : hq_M l y_M_bitTime b_M_bitTime 6 none TB mbRm lo D vwCl (TY cI cZ cN cJ) [.ref b] (fun U => hq_B D vwCl b 31 (mdC cI cZ b th (nI n) A) U.heap) (fun H v H' => v = none ∧ hq_B D vwCl b 31 (mdC cI cZ b th (nI n) (bitM n k A)) H' ∧ hq_S b 31 H H') := by
  refine hq_ofW (by decide) (Nat.le_of_ble_eq_true rfl) ?_
  intro p e s m below meth c ls C hml hret hlk hnm hl hP
  have hL : hq_L lo [] := hq_L0
  have hl : lv_has ls 6 [(0, .ref b)] := hl
  have hM : hq_B D vwCl b 31 (mdC cI cZ b th (nI n) A) s.heap := hP
  have k0 : va_at D vwCl (b, .inr (6, [.int (th), .int (nI n), .ref (b + 1), .ref (b + 2), .ref (b + 3), .ref (b + 4), .ref (b + 5), .ref (b + 6), .ref (b + 7), .ref (b + 8), .ref (b + 9), .ref (b + 10), .ref (b + 11), .ref (b + 12), .ref (b + 13), .ref (b + 14), .ref (b + 15), .ref (b + 16), .ref (b + 17), .ref (b + 18), .ref (b + 19), .ref (b + 20), .ref (b + 21), .ref (b + 22), .ref (b + 23), .ref (b + 24), .ref (b + 25), .ref (b + 26), .ref (b + 27), .ref (b + 28), .ref (b + 29), .ref (b + 30)])) s.heap := hM 0 (by decide)
  refine lv_aload_n C.1 C.2.1 d_M_bitTime_0 rfl (lv_at hl 0 rfl) ?_
  refine hq_get (v := .ref (b + 1)) C f_M_7 k0 rfl d_M_bitTime_1 ?_
  refine lv_iconst (v := 0) C.1 C.2.1 d_M_bitTime_4 (by decide) ?_
  have e41 : va_at D vwCl (b + 1, .inl (cI, 8, .inl (A 0))) _ := hM 1 (by decide)
  refine hq_iald C 0 rfl e41 (show vp_in (nI 0) 8 from vp_in_nI (by decide) (by decide)) d_M_bitTime_5 ?_
  refine W.eq (g2 := F0 m 6 ls [.int (A 0 0)]) rfl ?_
  rw [hk]
  refine lv_iconst (v := 1) C.1 C.2.1 d_M_bitTime_6 (by decide) ?_
  refine lv_iadd C.1 C.2.1 d_M_bitTime_7 ?_
  rw [nI_1 k]
  refine lv_istore_n C.1 C.2.1 d_M_bitTime_8 rfl hl (by decide) rfl (lv' := [(1, .int (nI (k + 1))), (0, .ref (b))]) (fun ls hl => ?_)
  refine lv_iconst (v := 1) C.1 C.2.1 d_M_bitTime_9 (by decide) ?_
  refine lv_istore_n C.1 C.2.1 d_M_bitTime_10 rfl hl (by decide) rfl (lv' := [(2, .int (1)), (1, .int (nI (k + 1))), (0, .ref (b))]) (fun ls hl => ?_)
  refine lv_iconst (v := 0) C.1 C.2.1 d_M_bitTime_11 (by decide) ?_
  refine lv_istore_n C.1 C.2.1 d_M_bitTime_12 rfl hl (by decide) (lv' := [(3, .int (nI 0)), (2, .int (1)), (1, .int (nI (k + 1))), (0, .ref b)]) rfl (fun ls hl => ?_)
  exact mt_loop1 D cI cZ cN cJ lo b n (k + 1) hlo hn4 (by omega) th C hml hret hlk n 0 A 1 _ _ _ (by omega) ok rfl hM hq_S0 hL hl
abbrev mpRm9 : Room := { frames := 8, cells := 0, slots := 0, locals := 182 }
set_option maxHeartbeats 4000000 in
set_option maxRecDepth 100000 in
theorem mq_loop9 {p : Program} {l : Launch} {e : Env} {s : State} {m : MethodId} {args : Array Value} {below : List Frame} {meth : Method} {c : Code} (D : va_G) (cI cZ cN cJ : ClassId) (lo b n a : Nat) (t1 : Int32) {R9 : Nat → Nat → Int32} (hlo : lo ≤ b) (hn4 : n ≤ 4) (ha : a ≤ 200) (C : hq_C p c s m args R_M b_M_pass TB D vwCl (TY cI cZ cN cJ)) (hml : c.maxLocals = 4) (hret : meth.sig.returnType = some .int) (hlk : meth.locks = false) :
    ∀ (d i k : Nat) (A : Nat → Nat → Int32) (H : Heap) (locs : List Loc) (ls : Array Slot), i + d = a → k + d < 2 ^ 30 → okA A → A 0 0 = nI k → passM n d k A = R9 → hq_B D vwCl b 31 (mdC cI cZ b 0 (nI n) A) H → hq_S b 31 s.heap H → hq_L lo locs → lv_has ls 4 [(3, .int (nI i)), (2, .int (t1)), (0, .ref b), (1, .int (nI a))] →
      W p l e mpRm9 s m args below meth c H locs 0 0 (MQ below (hq_Q (fun H v H' => v = some (.int (R9 0 1 - t1)) ∧ hq_B D vwCl b 31 (mdC cI cZ b 0 (nI n) R9) H' ∧ hq_S b 31 H H')) args s 0 0 (fun q => lo ≤ q)) (F0 m 30 ls []) := by
  intro d
  induction d with
  | zero =>
    intro i k A H locs ls hd hk ok h0 hR hM hS hL hl
    have k0 : va_at D vwCl (b, .inr (6, [.int (0), .int (nI n), .ref (b + 1), .ref (b + 2), .ref (b + 3), .ref (b + 4), .ref (b + 5), .ref (b + 6), .ref (b + 7), .ref (b + 8), .ref (b + 9), .ref (b + 10), .ref (b + 11), .ref (b + 12), .ref (b + 13), .ref (b + 14), .ref (b + 15), .ref (b + 16), .ref (b + 17), .ref (b + 18), .ref (b + 19), .ref (b + 20), .ref (b + 21), .ref (b + 22), .ref (b + 23), .ref (b + 24), .ref (b + 25), .ref (b + 26), .ref (b + 27), .ref (b + 28), .ref (b + 29), .ref (b + 30)])) H := hM 0 (by decide)
    have hin : i = a := by omega
    have hR : A = R9 := hR
    subst hR
    refine lv_iload_n C.1 C.2.1 d_M_pass_30 rfl (lv_at hl 0 rfl) ?_
    refine lv_iload_n C.1 C.2.1 d_M_pass_31 rfl (lv_at hl 3 rfl) ?_
    refine lv_icmp_ge (tgt := 52) C.1 C.2.1 d_M_pass_32 (by decide) (fun _ => ?_) (fun hn => absurd (by rw [hin]; exact Int32.le_refl _) hn)
    refine lv_aload_n C.1 C.2.1 d_M_pass_52 rfl (lv_at hl 2 rfl) ?_
    refine hq_get (v := .ref (b + 1)) C f_M_7 k0 rfl d_M_pass_53 ?_
    refine lv_iconst (v := 1) C.1 C.2.1 d_M_pass_56 (by decide) ?_
    have e41 : va_at D vwCl (b + 1, .inl (cI, 8, .inl (A 0))) _ := hM 1 (by decide)
    refine hq_iald C 0 rfl e41 (show vp_in (nI 1) 8 from vp_in_nI (by decide) (by decide)) d_M_pass_57 ?_
    refine W.eq (g2 := F0 m 58 ls [.int (A 0 1)]) rfl ?_
    refine lv_iload_n C.1 C.2.1 d_M_pass_58 rfl (lv_at hl 1 rfl) ?_
    refine lv_isub C.1 C.2.1 d_M_pass_59 ?_
    exact hq_iret C hret hlk (Nat.le_of_ble_eq_true rfl) (Nat.le_of_ble_eq_true rfl) hL ⟨rfl, hM, hS⟩ d_M_pass_60
  | succ d ih =>
    intro i k A H locs ls hd hk ok h0 hR hM hS hL hl
    have k0 : va_at D vwCl (b, .inr (6, [.int (0), .int (nI n), .ref (b + 1), .ref (b + 2), .ref (b + 3), .ref (b + 4), .ref (b + 5), .ref (b + 6), .ref (b + 7), .ref (b + 8), .ref (b + 9), .ref (b + 10), .ref (b + 11), .ref (b + 12), .ref (b + 13), .ref (b + 14), .ref (b + 15), .ref (b + 16), .ref (b + 17), .ref (b + 18), .ref (b + 19), .ref (b + 20), .ref (b + 21), .ref (b + 22), .ref (b + 23), .ref (b + 24), .ref (b + 25), .ref (b + 26), .ref (b + 27), .ref (b + 28), .ref (b + 29), .ref (b + 30)])) H := hM 0 (by decide)
    have hin : i < a := by omega
    refine lv_iload_n C.1 C.2.1 d_M_pass_30 rfl (lv_at hl 0 rfl) ?_
    refine lv_iload_n C.1 C.2.1 d_M_pass_31 rfl (lv_at hl 3 rfl) ?_
    refine lv_icmp_ge (tgt := 52) C.1 C.2.1 d_M_pass_32 (by decide) (fun hn => absurd hn (nI_ge hin (by omega))) (fun _ => ?_)
    refine lv_aload_n C.1 C.2.1 d_M_pass_35 rfl (lv_at hl 2 rfl) ?_
    refine hq_get (v := .int (0)) C f_M_105 k0 rfl d_M_pass_36 ?_
    refine lv_if_ne (tgt := 52) C.1 C.2.1 d_M_pass_39 (by decide) (fun hn => absurd hn (by decide)) (fun _ => ?_)
    refine lv_aload_n C.1 C.2.1 d_M_pass_42 rfl (lv_at hl 2 rfl) ?_
    refine hq_callV (lo := lo) (As := []) (rest := []) C tb_good hml Y_M_187 (c_M_bitTime l D cI cZ cN cJ lo b n k hlo hn4 (by omega) 0 A h0 ok) k0 rfl (fun _ _ _ _ h => h) (fun U hU hW => by show hq_B D vwCl b 31 (mdC cI cZ b 0 (nI n) A) U.heap; rw [hU]; exact hM) hL hl.1 rfl rfl ⟨⟨Nat.le_of_ble_eq_true rfl, Nat.le_of_ble_eq_true rfl⟩, Nat.le_of_ble_eq_true rfl, Nat.le_of_ble_eq_true rfl⟩ (Nat.le_of_ble_eq_true rfl) d_M_pass_43 (fun v H41 locs hp hL => ?_)
    obtain ⟨rfl, hM1, hS1⟩ := hp
    refine W.eq (g2 := F0 m 46 ls []) rfl ?_
    refine lv_iinc (k := 0) (v := nI (i + 1)) C.1 C.2.1 d_M_pass_46 hl rfl (nI_1 i) (by decide) (lv' := [(3, .int (nI (i + 1))), (2, .int (t1)), (0, .ref (b)), (1, .int (nI a))]) rfl (fun ls hl => ?_)
    refine lv_goto (tgt := 30) C.1 C.2.1 d_M_pass_49 (by decide) ?_
    exact ih (i + 1) (k + 1) (bitM n k A) H41 _ _ (by omega) (by omega) (ok_bitM hn4 ok) bitM_0 hR hM1 (hq_Scall hS hS1 (by omega) (by omega)) hL (lv_push (lv_push (lv_push (lv_push (lv_nil hl) (lv_at hl 3 rfl)) (lv_at hl 2 rfl)) (lv_at hl 1 rfl)) (lv_at hl 0 rfl))
set_option maxHeartbeats 4000000 in
set_option maxRecDepth 100000 in
theorem c_M_pass (l : Launch) (D : va_G) (cI cZ cN cJ : ClassId) (lo : Nat) (b n a k : Nat) (hlo : lo ≤ b) (hn4 : n ≤ 4) (h1 : 1 ≤ a) (h2 : a ≤ 200) (hk2 : k + a < 2 ^ 30) (th : Int32) (A : Nat → Nat → Int32) (hk : A 0 0 = nI k) (ok : okA A) : hq_M l y_M_pass b_M_pass 4 (some .int) TB mpRm9 lo D vwCl (TY cI cZ cN cJ) [.ref b, .int (nI a)] (fun U => hq_B D vwCl b 31 (mdC cI cZ b th (nI n) A) U.heap) (fun H v H' => v = some (.int ((passM n a k A) 0 1 - A 0 1)) ∧ hq_B D vwCl b 31 (mdC cI cZ b 0 (nI n) (passM n a k A)) H' ∧ hq_S b 31 H H') := by
  refine hq_ofW (by decide) (Nat.le_of_ble_eq_true rfl) ?_
  intro p e s m below meth c ls C hml hret hlk hnm hl hP
  have hL : hq_L lo [] := hq_L0
  have hl : lv_has ls 4 [(0, .ref (b)), (1, .int (nI a))] := hl
  have hM : hq_B D vwCl b 31 (mdC cI cZ b th (nI n) A) s.heap := hP
  have k0 : va_at D vwCl (b, .inr (6, [.int (th), .int (nI n), .ref (b + 1), .ref (b + 2), .ref (b + 3), .ref (b + 4), .ref (b + 5), .ref (b + 6), .ref (b + 7), .ref (b + 8), .ref (b + 9), .ref (b + 10), .ref (b + 11), .ref (b + 12), .ref (b + 13), .ref (b + 14), .ref (b + 15), .ref (b + 16), .ref (b + 17), .ref (b + 18), .ref (b + 19), .ref (b + 20), .ref (b + 21), .ref (b + 22), .ref (b + 23), .ref (b + 24), .ref (b + 25), .ref (b + 26), .ref (b + 27), .ref (b + 28), .ref (b + 29), .ref (b + 30)])) s.heap := hM 0 (by decide)
  refine lv_aload_n C.1 C.2.1 d_M_pass_0 rfl (lv_at hl 0 rfl) ?_
  refine lv_iload_n C.1 C.2.1 d_M_pass_1 rfl (lv_at hl 1 rfl) ?_
  refine lv_iconst (v := 1) C.1 C.2.1 d_M_pass_2 (by decide) ?_
  refine lv_icmp_lt (tgt := 13) C.1 C.2.1 d_M_pass_3 (by decide) (fun hn => absurd hn (nI_nlt (a := a) (b := 1) h1 (by omega))) (fun _ => ?_)
  refine lv_iload_n C.1 C.2.1 d_M_pass_6 rfl (lv_at hl 1 rfl) ?_
  refine lv_sipush (v := 200) C.1 C.2.1 d_M_pass_7 (by decide) ?_
  refine lv_icmp_le (tgt := 17) C.1 C.2.1 d_M_pass_10 (by decide) (fun _ => ?_) (fun hn => absurd (nI_le (b := 200) h2 (by decide)) hn)
  refine lv_iconst (v := 0) C.1 C.2.1 d_M_pass_17 (by decide) ?_
  refine hq_put (lo := lo) C f_M_105 k0 rfl rfl (Nat.le_of_ble_eq_true rfl) hL (by omega) d_M_pass_18 (fun H41 locs u42 hL => ?_)
  have m43 := md_thr (th2 := 0) hM u42
  have k0 : va_at D vwCl (b, .inr (6, [.int (0), .int (nI n), .ref (b + 1), .ref (b + 2), .ref (b + 3), .ref (b + 4), .ref (b + 5), .ref (b + 6), .ref (b + 7), .ref (b + 8), .ref (b + 9), .ref (b + 10), .ref (b + 11), .ref (b + 12), .ref (b + 13), .ref (b + 14), .ref (b + 15), .ref (b + 16), .ref (b + 17), .ref (b + 18), .ref (b + 19), .ref (b + 20), .ref (b + 21), .ref (b + 22), .ref (b + 23), .ref (b + 24), .ref (b + 25), .ref (b + 26), .ref (b + 27), .ref (b + 28), .ref (b + 29), .ref (b + 30)])) H41 := m43 0 (by decide)
  refine lv_aload_n C.1 C.2.1 d_M_pass_21 rfl (lv_at hl 0 rfl) ?_
  refine hq_get (v := .ref (b + 1)) C f_M_7 k0 rfl d_M_pass_22 ?_
  refine lv_iconst (v := 1) C.1 C.2.1 d_M_pass_25 (by decide) ?_
  have e44 : va_at D vwCl (b + 1, .inl (cI, 8, .inl (A 0))) _ := m43 1 (by decide)
  refine hq_iald C 0 rfl e44 (show vp_in (nI 1) 8 from vp_in_nI (by decide) (by decide)) d_M_pass_26 ?_
  refine W.eq (g2 := F0 m 27 ls [.int (A 0 1)]) rfl ?_
  refine lv_istore_n C.1 C.2.1 d_M_pass_27 rfl hl (by decide) rfl (lv' := [(2, .int (A 0 1)), (0, .ref (b)), (1, .int (nI a))]) (fun ls hl => ?_)
  refine lv_iconst (v := 0) C.1 C.2.1 d_M_pass_28 (by decide) ?_
  refine lv_istore_n C.1 C.2.1 d_M_pass_29 rfl hl (by decide) (lv' := [(3, .int (nI 0)), (2, .int (A 0 1)), (0, .ref b), (1, .int (nI a))]) rfl (fun ls hl => ?_)
  exact mq_loop9 D cI cZ cN cJ lo b n a (A 0 1) hlo hn4 h2 C hml hret hlk a 0 k A _ _ _ (by omega) hk2 ok hk rfl m43 (hq_Sput (hq_S0) u42 (by omega) (by omega)) hL hl
set_option maxHeartbeats 4000000 in
set_option maxRecDepth 100000 in
theorem c_M_pass_n (l : Launch) (D : va_G) (cI cZ cN cJ : ClassId) (lo : Nat) (b n : Nat) (hlo : lo ≤ b) (th : Int32) (A : Nat → Nat → Int32) (a : Int32) (hb : a < 1 ∨ ¬ a ≤ 200) : hq_M l y_M_pass b_M_pass 4 (some .int) TB mpRm9 lo D vwCl (TY cI cZ cN cJ) [.ref b, .int a] (fun U => hq_B D vwCl b 31 (mdC cI cZ b th (nI n) A) U.heap) (fun H v H' => v = some (.int (A 0 1 - A 0 1)) ∧ hq_B D vwCl b 31 (mdC cI cZ b 1 (nI n) A) H' ∧ hq_S b 31 H H') := by
  refine hq_ofW (by decide) (Nat.le_of_ble_eq_true rfl) ?_
  intro p e s m below meth c ls C hml hret hlk hnm hl hP
  have hL : hq_L lo [] := hq_L0
  have hl : lv_has ls 4 [(0, .ref (b)), (1, .int (a))] := hl
  have hM : hq_B D vwCl b 31 (mdC cI cZ b th (nI n) A) s.heap := hP
  have k0 : va_at D vwCl (b, .inr (6, [.int (th), .int (nI n), .ref (b + 1), .ref (b + 2), .ref (b + 3), .ref (b + 4), .ref (b + 5), .ref (b + 6), .ref (b + 7), .ref (b + 8), .ref (b + 9), .ref (b + 10), .ref (b + 11), .ref (b + 12), .ref (b + 13), .ref (b + 14), .ref (b + 15), .ref (b + 16), .ref (b + 17), .ref (b + 18), .ref (b + 19), .ref (b + 20), .ref (b + 21), .ref (b + 22), .ref (b + 23), .ref (b + 24), .ref (b + 25), .ref (b + 26), .ref (b + 27), .ref (b + 28), .ref (b + 29), .ref (b + 30)])) s.heap := hM 0 (by decide)
  refine lv_aload_n C.1 C.2.1 d_M_pass_0 rfl (lv_at hl 0 rfl) ?_
  refine lv_iload_n C.1 C.2.1 d_M_pass_1 rfl (lv_at hl 1 rfl) ?_
  refine lv_iconst (v := 1) C.1 C.2.1 d_M_pass_2 (by decide) ?_
  refine lv_icmp_lt (tgt := 13) C.1 C.2.1 d_M_pass_3 (by decide) ?_ ?_
  · intro c0
    refine lv_iconst (v := 1) C.1 C.2.1 d_M_pass_13 (by decide) ?_
    refine lv_goto (tgt := 18) C.1 C.2.1 d_M_pass_14 (by decide) ?_
    refine hq_put (lo := lo) C f_M_105 k0 rfl rfl (Nat.le_of_ble_eq_true rfl) hL (by omega) d_M_pass_18 (fun H41 locs u42 hL => ?_)
    have m43 := md_thr (th2 := 1) hM u42
    have k0 : va_at D vwCl (b, .inr (6, [.int (1), .int (nI n), .ref (b + 1), .ref (b + 2), .ref (b + 3), .ref (b + 4), .ref (b + 5), .ref (b + 6), .ref (b + 7), .ref (b + 8), .ref (b + 9), .ref (b + 10), .ref (b + 11), .ref (b + 12), .ref (b + 13), .ref (b + 14), .ref (b + 15), .ref (b + 16), .ref (b + 17), .ref (b + 18), .ref (b + 19), .ref (b + 20), .ref (b + 21), .ref (b + 22), .ref (b + 23), .ref (b + 24), .ref (b + 25), .ref (b + 26), .ref (b + 27), .ref (b + 28), .ref (b + 29), .ref (b + 30)])) H41 := m43 0 (by decide)
    refine lv_aload_n C.1 C.2.1 d_M_pass_21 rfl (lv_at hl 0 rfl) ?_
    refine hq_get (v := .ref (b + 1)) C f_M_7 k0 rfl d_M_pass_22 ?_
    refine lv_iconst (v := 1) C.1 C.2.1 d_M_pass_25 (by decide) ?_
    have e44 : va_at D vwCl (b + 1, .inl (cI, 8, .inl (A 0))) _ := m43 1 (by decide)
    refine hq_iald C 0 rfl e44 (show vp_in (nI 1) 8 from vp_in_nI (by decide) (by decide)) d_M_pass_26 ?_
    refine W.eq (g2 := F0 m 27 ls [.int (A 0 1)]) rfl ?_
    refine lv_istore_n C.1 C.2.1 d_M_pass_27 rfl hl (by decide) rfl (lv' := [(2, .int (A 0 1)), (0, .ref (b)), (1, .int (a))]) (fun ls hl => ?_)
    refine lv_iconst (v := 0) C.1 C.2.1 d_M_pass_28 (by decide) ?_
    refine lv_istore_n C.1 C.2.1 d_M_pass_29 rfl hl (by decide) rfl (lv' := [(3, .int (0)), (2, .int (A 0 1)), (0, .ref (b)), (1, .int (a))]) (fun ls hl => ?_)
    refine lv_iload_n C.1 C.2.1 d_M_pass_30 rfl (lv_at hl 0 rfl) ?_
    refine lv_iload_n C.1 C.2.1 d_M_pass_31 rfl (lv_at hl 3 rfl) ?_
    refine lv_icmp_ge (tgt := 52) C.1 C.2.1 d_M_pass_32 (by decide) ?_ ?_
    · intro c9
      refine lv_aload_n C.1 C.2.1 d_M_pass_52 rfl (lv_at hl 2 rfl) ?_
      refine hq_get (v := .ref (b + 1)) C f_M_7 k0 rfl d_M_pass_53 ?_
      refine lv_iconst (v := 1) C.1 C.2.1 d_M_pass_56 (by decide) ?_
      have e45 : va_at D vwCl (b + 1, .inl (cI, 8, .inl (A 0))) _ := m43 1 (by decide)
      refine hq_iald C 0 rfl e45 (show vp_in (nI 1) 8 from vp_in_nI (by decide) (by decide)) d_M_pass_57 ?_
      refine W.eq (g2 := F0 m 58 ls [.int (A 0 1)]) rfl ?_
      refine lv_iload_n C.1 C.2.1 d_M_pass_58 rfl (lv_at hl 1 rfl) ?_
      refine lv_isub C.1 C.2.1 d_M_pass_59 ?_
      exact hq_iret C hret hlk (Nat.le_of_ble_eq_true rfl) (Nat.le_of_ble_eq_true rfl) hL ⟨rfl, m43, hq_Sput (hq_S0) u42 (by omega) (by omega)⟩ d_M_pass_60
    · intro c9
      refine lv_aload_n C.1 C.2.1 d_M_pass_35 rfl (lv_at hl 2 rfl) ?_
      refine hq_get (v := .int (1)) C f_M_105 k0 rfl d_M_pass_36 ?_
      refine lv_if_ne (tgt := 52) C.1 C.2.1 d_M_pass_39 (by decide) (fun _ => ?_) (fun hn => absurd hn (by decide))
      refine lv_aload_n C.1 C.2.1 d_M_pass_52 rfl (lv_at hl 2 rfl) ?_
      refine hq_get (v := .ref (b + 1)) C f_M_7 k0 rfl d_M_pass_53 ?_
      refine lv_iconst (v := 1) C.1 C.2.1 d_M_pass_56 (by decide) ?_
      have e46 : va_at D vwCl (b + 1, .inl (cI, 8, .inl (A 0))) _ := m43 1 (by decide)
      refine hq_iald C 0 rfl e46 (show vp_in (nI 1) 8 from vp_in_nI (by decide) (by decide)) d_M_pass_57 ?_
      refine W.eq (g2 := F0 m 58 ls [.int (A 0 1)]) rfl ?_
      refine lv_iload_n C.1 C.2.1 d_M_pass_58 rfl (lv_at hl 1 rfl) ?_
      refine lv_isub C.1 C.2.1 d_M_pass_59 ?_
      exact hq_iret C hret hlk (Nat.le_of_ble_eq_true rfl) (Nat.le_of_ble_eq_true rfl) hL ⟨rfl, m43, hq_Sput (hq_S0) u42 (by omega) (by omega)⟩ d_M_pass_60
  · intro c0
    refine lv_iload_n C.1 C.2.1 d_M_pass_6 rfl (lv_at hl 1 rfl) ?_
    refine lv_sipush (v := 200) C.1 C.2.1 d_M_pass_7 (by decide) ?_
    refine lv_icmp_le (tgt := 17) C.1 C.2.1 d_M_pass_10 (by decide) (fun hn => absurd hn (fun h9 => hb.elim c0 (fun z => z h9))) (fun _ => ?_)
    refine lv_iconst (v := 1) C.1 C.2.1 d_M_pass_13 (by decide) ?_
    refine lv_goto (tgt := 18) C.1 C.2.1 d_M_pass_14 (by decide) ?_
    refine hq_put (lo := lo) C f_M_105 k0 rfl rfl (Nat.le_of_ble_eq_true rfl) hL (by omega) d_M_pass_18 (fun H47 locs u48 hL => ?_)
    have m49 := md_thr (th2 := 1) hM u48
    have k0 : va_at D vwCl (b, .inr (6, [.int (1), .int (nI n), .ref (b + 1), .ref (b + 2), .ref (b + 3), .ref (b + 4), .ref (b + 5), .ref (b + 6), .ref (b + 7), .ref (b + 8), .ref (b + 9), .ref (b + 10), .ref (b + 11), .ref (b + 12), .ref (b + 13), .ref (b + 14), .ref (b + 15), .ref (b + 16), .ref (b + 17), .ref (b + 18), .ref (b + 19), .ref (b + 20), .ref (b + 21), .ref (b + 22), .ref (b + 23), .ref (b + 24), .ref (b + 25), .ref (b + 26), .ref (b + 27), .ref (b + 28), .ref (b + 29), .ref (b + 30)])) H47 := m49 0 (by decide)
    refine lv_aload_n C.1 C.2.1 d_M_pass_21 rfl (lv_at hl 0 rfl) ?_
    refine hq_get (v := .ref (b + 1)) C f_M_7 k0 rfl d_M_pass_22 ?_
    refine lv_iconst (v := 1) C.1 C.2.1 d_M_pass_25 (by decide) ?_
    have e50 : va_at D vwCl (b + 1, .inl (cI, 8, .inl (A 0))) _ := m49 1 (by decide)
    refine hq_iald C 0 rfl e50 (show vp_in (nI 1) 8 from vp_in_nI (by decide) (by decide)) d_M_pass_26 ?_
    refine W.eq (g2 := F0 m 27 ls [.int (A 0 1)]) rfl ?_
    refine lv_istore_n C.1 C.2.1 d_M_pass_27 rfl hl (by decide) rfl (lv' := [(2, .int (A 0 1)), (0, .ref (b)), (1, .int (a))]) (fun ls hl => ?_)
    refine lv_iconst (v := 0) C.1 C.2.1 d_M_pass_28 (by decide) ?_
    refine lv_istore_n C.1 C.2.1 d_M_pass_29 rfl hl (by decide) rfl (lv' := [(3, .int (0)), (2, .int (A 0 1)), (0, .ref (b)), (1, .int (a))]) (fun ls hl => ?_)
    refine lv_iload_n C.1 C.2.1 d_M_pass_30 rfl (lv_at hl 0 rfl) ?_
    refine lv_iload_n C.1 C.2.1 d_M_pass_31 rfl (lv_at hl 3 rfl) ?_
    refine lv_icmp_ge (tgt := 52) C.1 C.2.1 d_M_pass_32 (by decide) ?_ ?_
    · intro c9
      refine lv_aload_n C.1 C.2.1 d_M_pass_52 rfl (lv_at hl 2 rfl) ?_
      refine hq_get (v := .ref (b + 1)) C f_M_7 k0 rfl d_M_pass_53 ?_
      refine lv_iconst (v := 1) C.1 C.2.1 d_M_pass_56 (by decide) ?_
      have e51 : va_at D vwCl (b + 1, .inl (cI, 8, .inl (A 0))) _ := m49 1 (by decide)
      refine hq_iald C 0 rfl e51 (show vp_in (nI 1) 8 from vp_in_nI (by decide) (by decide)) d_M_pass_57 ?_
      refine W.eq (g2 := F0 m 58 ls [.int (A 0 1)]) rfl ?_
      refine lv_iload_n C.1 C.2.1 d_M_pass_58 rfl (lv_at hl 1 rfl) ?_
      refine lv_isub C.1 C.2.1 d_M_pass_59 ?_
      exact hq_iret C hret hlk (Nat.le_of_ble_eq_true rfl) (Nat.le_of_ble_eq_true rfl) hL ⟨rfl, m49, hq_Sput (hq_S0) u48 (by omega) (by omega)⟩ d_M_pass_60
    · intro c9
      refine lv_aload_n C.1 C.2.1 d_M_pass_35 rfl (lv_at hl 2 rfl) ?_
      refine hq_get (v := .int (1)) C f_M_105 k0 rfl d_M_pass_36 ?_
      refine lv_if_ne (tgt := 52) C.1 C.2.1 d_M_pass_39 (by decide) (fun _ => ?_) (fun hn => absurd hn (by decide))
      refine lv_aload_n C.1 C.2.1 d_M_pass_52 rfl (lv_at hl 2 rfl) ?_
      refine hq_get (v := .ref (b + 1)) C f_M_7 k0 rfl d_M_pass_53 ?_
      refine lv_iconst (v := 1) C.1 C.2.1 d_M_pass_56 (by decide) ?_
      have e52 : va_at D vwCl (b + 1, .inl (cI, 8, .inl (A 0))) _ := m49 1 (by decide)
      refine hq_iald C 0 rfl e52 (show vp_in (nI 1) 8 from vp_in_nI (by decide) (by decide)) d_M_pass_57 ?_
      refine W.eq (g2 := F0 m 58 ls [.int (A 0 1)]) rfl ?_
      refine lv_iload_n C.1 C.2.1 d_M_pass_58 rfl (lv_at hl 1 rfl) ?_
      refine lv_isub C.1 C.2.1 d_M_pass_59 ?_
      exact hq_iret C hret hlk (Nat.le_of_ble_eq_true rfl) (Nat.le_of_ble_eq_true rfl) hL ⟨rfl, m49, hq_Sput (hq_S0) u48 (by omega) (by omega)⟩ d_M_pass_60
