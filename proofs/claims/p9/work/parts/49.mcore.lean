/-! What the reference's smaller methods keep; err, and what reads a core. -/
set_option maxHeartbeats 4000000 in
set_option maxRecDepth 100000 in
theorem ok_M_rest (A : Nat → Nat → Int32) (j : Nat) (hj : j < 4) (ok : okA A) : okA (f_M_rest A j) := by
  exact (okA_o (by decide) (okA_3 (v := 5) rfl (fun h9 => absurd h9 (by decide)) ok))
set_option maxHeartbeats 4000000 in
set_option maxRecDepth 100000 in
theorem ok_M_open (A : Nat → Nat → Int32) (j : Nat) (hj : j < 4) (x : Int32) (hx : x = 1 → ¬ A 9 j = 0) (ok : okA A) : okA (f_M_open A j x) := by
  exact (okA_o (by decide) (okA_o (by decide) (okA_o (by decide) (okA_o (by decide) (okA_o (by decide) (okA_o (by decide) (okA_o (by decide) (okA_o (by decide) (okA_o (by decide) (okA_3 rfl (fun h9 => hx h9) ok))))))))))
set_option maxHeartbeats 4000000 in
set_option maxRecDepth 100000 in
theorem ok_M_goesOff (A : Nat → Nat → Int32) (j : Nat) (hj : j < 4) (ok : okA A) : okA (f_M_goesOff A j).1 := by
  unfold f_M_goesOff
  by_cases c42 : 256 ≤ (A 4 j)
  · rw [if_pos c42]
    exact (okA_o (by decide) (okA_o (by decide) (okA_9 (v := 0) rfl ⟨0, by decide, rfl⟩ (fun h9 => absurd ((show upd (A 3) j 7 j = 7 from pk_us).symm.trans h9) (by decide)) (okA_3 (v := 7) rfl (fun h9 => absurd h9 (by decide)) ok))))
  · rw [if_neg c42]
    exact ok
set_option maxHeartbeats 4000000 in
set_option maxRecDepth 100000 in
theorem ok_M_flag (A : Nat → Nat → Int32) (j : Nat) (hj : j < 4) (x y : Int32) (ok : okA A) : okA (f_M_flag A j x y) := by
  exact (okA_o (by decide) (okA_3 (v := 3) rfl (fun h9 => absurd h9 (by decide)) (okA_o (by decide) (okA_o (by decide) ok))))
set_option maxHeartbeats 4000000 in
set_option maxRecDepth 100000 in
theorem ok_M_overload (A : Nat → Nat → Int32) (j : Nat) (hj : j < 4) (ok : okA A) : okA (f_M_overload A j) := by
  exact (ok_M_flag (setA (setA A 0 (upd (A 0) 7 ((A 0 7) + 1))) 28 (upd (A 28) j 0)) j hj 0 0 (okA_o (by decide) (okA_o (by decide) ok)))
set_option maxHeartbeats 4000000 in
set_option maxRecDepth 100000 in
theorem ok_M_eightMore (A : Nat → Nat → Int32) (j : Nat) (hj : j < 4) (ok : okA A) : okA (f_M_eightMore A j).1 := by
  unfold f_M_eightMore
  by_cases c43 : (A 24 j) = 1
  · rw [if_pos c43]
    by_cases c71 : (A 24 j) = 2
    · rw [if_pos c71]
      exact (ok_M_goesOff (setA (setA A 4 (upd (A 4) j ((A 4 j) + 8))) 5 (upd (A 5) j ((A 5 j) + 8))) j hj (okA_o (by decide) (okA_o (by decide) ok)))
    · rw [if_neg c71]
      exact (ok_M_goesOff (setA (setA A 4 (upd (A 4) j ((A 4 j) + 8))) 5 (upd (A 5) j ((A 5 j) + 0))) j hj (okA_o (by decide) (okA_o (by decide) ok)))
  · rw [if_neg c43]
    by_cases c50 : (A 24 j) = 2
    · rw [if_pos c50]
      exact (ok_M_goesOff (setA (setA A 4 (upd (A 4) j ((A 4 j) + 0))) 5 (upd (A 5) j ((A 5 j) + 8))) j hj (okA_o (by decide) (okA_o (by decide) ok)))
    · rw [if_neg c50]
      exact (ok_M_goesOff (setA (setA A 4 (upd (A 4) j ((A 4 j) + 0))) 5 (upd (A 5) j ((A 5 j) + 0))) j hj (okA_o (by decide) (okA_o (by decide) ok)))
set_option maxHeartbeats 4000000 in
set_option maxRecDepth 100000 in
theorem ok_M_flagging (A : Nat → Nat → Int32) (j : Nat) (hj : j < 4) (x : Int32) (ok : okA A) : okA (f_M_flagging A j x) := by
  unfold f_M_flagging
  by_cases c42 : (A 29 j) = 0
  · rw [if_pos c42]
    by_cases c62 : x = 1
    · rw [if_pos c62]
      by_cases c85 : ((f_M_eightMore A j).2) = 0
      · rw [if_pos c85]
        by_cases c92 : ((((f_M_eightMore A j).1 26) j) + 1) = 6
        · rw [if_pos c92]
          exact (okA_o (by decide) (okA_o (by decide) (okA_3 (v := 4) rfl (fun h9 => absurd h9 (by decide)) (okA_o (by decide) (ok_M_eightMore A j hj ok)))))
        · rw [if_neg c92]
          exact (okA_o (by decide) (ok_M_eightMore A j hj ok))
      · rw [if_neg c85]
        exact (ok_M_eightMore A j hj ok)
    · rw [if_neg c62]
      by_cases c69 : ((A 26 j) + 1) = 6
      · rw [if_pos c69]
        exact (okA_o (by decide) (okA_o (by decide) (okA_3 (v := 4) rfl (fun h9 => absurd h9 (by decide)) (okA_o (by decide) ok))))
      · rw [if_neg c69]
        exact (okA_o (by decide) ok)
  · rw [if_neg c42]
    by_cases c49 : ((A 26 j) + 1) = 6
    · rw [if_pos c49]
      exact (okA_o (by decide) (okA_o (by decide) (okA_3 (v := 4) rfl (fun h9 => absurd h9 (by decide)) (okA_o (by decide) ok))))
    · rw [if_neg c49]
      exact (okA_o (by decide) ok)
set_option maxHeartbeats 4000000 in
set_option maxRecDepth 100000 in
theorem ok_M_offTime (A : Nat → Nat → Int32) (j : Nat) (hj : j < 4) (x : Int32) (ok : okA A) : okA (f_M_offTime A j x) := by
  unfold f_M_offTime
  by_cases c41 : x = 1
  · rw [if_pos c41]
    by_cases c71 : ((A 27 j) + 1) = 11
    · rw [if_pos c71]
      by_cases c100 : ((A 26 j) + 1) = 8
      · rw [if_pos c100]
        exact (okA_o (by decide) (okA_3 (v := 0) rfl (fun h9 => absurd h9 (by decide)) (okA_o (by decide) (okA_o (by decide) (okA_o (by decide) (okA_o (by decide) (okA_o (by decide) ok)))))))
      · rw [if_neg c100]
        exact (okA_o (by decide) (okA_o (by decide) (okA_o (by decide) ok)))
    · rw [if_neg c71]
      by_cases c73 : (A 26 j) = 8
      · rw [if_pos c73]
        exact (okA_o (by decide) (okA_3 (v := 0) rfl (fun h9 => absurd h9 (by decide)) (okA_o (by decide) (okA_o (by decide) (okA_o (by decide) ok)))))
      · rw [if_neg c73]
        exact (okA_o (by decide) ok)
  · rw [if_neg c41]
    by_cases c48 : (A 26 j) = 8
    · rw [if_pos c48]
      exact (okA_o (by decide) (okA_3 (v := 0) rfl (fun h9 => absurd h9 (by decide)) (okA_o (by decide) (okA_o (by decide) (okA_o (by decide) ok)))))
    · rw [if_neg c48]
      exact (okA_o (by decide) ok)
def f_M_err (A : Nat → Nat → Int32) (j : Nat) (x y : Int32) : Nat → Nat → Int32 := if y = 1 then (if x = 6 then (if ((f_M_isPassive (setA A 0 (upd (A 0) x.toNatClampNeg ((A 0 x.toNatClampNeg) + 1))) j)) = 0 then (if ((f_M_goesOff (setA (setA A 0 (upd (A 0) x.toNatClampNeg ((A 0 x.toNatClampNeg) + 1))) 4 (upd (A 4) j ((A 4 j) + 8))) j).2) = 0 then ((f_M_flag (f_M_goesOff (setA (setA A 0 (upd (A 0) x.toNatClampNeg ((A 0 x.toNatClampNeg) + 1))) 4 (upd (A 4) j ((A 4 j) + 8))) j).1 j y ((f_M_isPassive (f_M_goesOff (setA (setA A 0 (upd (A 0) x.toNatClampNeg ((A 0 x.toNatClampNeg) + 1))) 4 (upd (A 4) j ((A 4 j) + 8))) j).1 j)))) else ((f_M_goesOff (setA (setA A 0 (upd (A 0) x.toNatClampNeg ((A 0 x.toNatClampNeg) + 1))) 4 (upd (A 4) j ((A 4 j) + 8))) j).1)) else (if ((f_M_goesOff (setA (setA A 0 (upd (A 0) x.toNatClampNeg ((A 0 x.toNatClampNeg) + 1))) 4 (upd (A 4) j ((A 4 j) + 0))) j).2) = 0 then ((f_M_flag (f_M_goesOff (setA (setA A 0 (upd (A 0) x.toNatClampNeg ((A 0 x.toNatClampNeg) + 1))) 4 (upd (A 4) j ((A 4 j) + 0))) j).1 j y ((f_M_isPassive (f_M_goesOff (setA (setA A 0 (upd (A 0) x.toNatClampNeg ((A 0 x.toNatClampNeg) + 1))) 4 (upd (A 4) j ((A 4 j) + 0))) j).1 j)))) else ((f_M_goesOff (setA (setA A 0 (upd (A 0) x.toNatClampNeg ((A 0 x.toNatClampNeg) + 1))) 4 (upd (A 4) j ((A 4 j) + 0))) j).1))) else (if ((f_M_goesOff (setA (setA A 0 (upd (A 0) x.toNatClampNeg ((A 0 x.toNatClampNeg) + 1))) 4 (upd (A 4) j ((A 4 j) + 8))) j).2) = 0 then ((f_M_flag (f_M_goesOff (setA (setA A 0 (upd (A 0) x.toNatClampNeg ((A 0 x.toNatClampNeg) + 1))) 4 (upd (A 4) j ((A 4 j) + 8))) j).1 j y ((f_M_isPassive (f_M_goesOff (setA (setA A 0 (upd (A 0) x.toNatClampNeg ((A 0 x.toNatClampNeg) + 1))) 4 (upd (A 4) j ((A 4 j) + 8))) j).1 j)))) else ((f_M_goesOff (setA (setA A 0 (upd (A 0) x.toNatClampNeg ((A 0 x.toNatClampNeg) + 1))) 4 (upd (A 4) j ((A 4 j) + 8))) j).1))) else (if ((f_M_goesOff (setA (setA A 0 (upd (A 0) x.toNatClampNeg ((A 0 x.toNatClampNeg) + 1))) 5 (upd (A 5) j ((A 5 j) + 1))) j).2) = 0 then ((f_M_flag (f_M_goesOff (setA (setA A 0 (upd (A 0) x.toNatClampNeg ((A 0 x.toNatClampNeg) + 1))) 5 (upd (A 5) j ((A 5 j) + 1))) j).1 j y ((f_M_isPassive (f_M_goesOff (setA (setA A 0 (upd (A 0) x.toNatClampNeg ((A 0 x.toNatClampNeg) + 1))) 5 (upd (A 5) j ((A 5 j) + 1))) j).1 j)))) else ((f_M_goesOff (setA (setA A 0 (upd (A 0) x.toNatClampNeg ((A 0 x.toNatClampNeg) + 1))) 5 (upd (A 5) j ((A 5 j) + 1))) j).1))
set_option maxHeartbeats 4000000 in
set_option maxRecDepth 100000 in
theorem c_M_err (l : Launch) (D : va_G) (cI cZ cN cJ : ClassId) (lo : Nat) (b : Nat) (hlo : lo ≤ b) (th nn : Int32) (A : Nat → Nat → Int32) (j : Nat) (hj : j < 4) (x y : Int32) (hx : vp_in x 8) : hq_M l y_M_err b_M_err 4 none TB { frames := 1, cells := 0, slots := 0, locals := 23 } lo D vwCl (TY cI cZ cN cJ) [.ref (b), .int (nI j), .int (x), .int (y)] (fun U => hq_B D vwCl b 31 (mdC cI cZ b th nn A) U.heap) (fun H v H' => v = none ∧ hq_B D vwCl b 31 (mdC cI cZ b th nn (f_M_err A j x y)) H' ∧ hq_S b 31 H H') := by
  refine hq_ofW (by decide) (Nat.le_of_ble_eq_true rfl) ?_
  intro p e s m below meth c ls C hml hret hlk hnm hl hP
  have hL : hq_L lo [] := hq_L0
  have hl : lv_has ls 4 [(0, .ref (b)), (1, .int (nI j)), (2, .int (x)), (3, .int (y))] := hl
  have hM : hq_B D vwCl b 31 (mdC cI cZ b th nn A) s.heap := hP
  have k0 : va_at D vwCl (b, .inr (6, [.int (th), .int (nn), .ref (b + 1), .ref (b + 2), .ref (b + 3), .ref (b + 4), .ref (b + 5), .ref (b + 6), .ref (b + 7), .ref (b + 8), .ref (b + 9), .ref (b + 10), .ref (b + 11), .ref (b + 12), .ref (b + 13), .ref (b + 14), .ref (b + 15), .ref (b + 16), .ref (b + 17), .ref (b + 18), .ref (b + 19), .ref (b + 20), .ref (b + 21), .ref (b + 22), .ref (b + 23), .ref (b + 24), .ref (b + 25), .ref (b + 26), .ref (b + 27), .ref (b + 28), .ref (b + 29), .ref (b + 30)])) s.heap := hM 0 (by decide)
  refine lv_aload_n C.1 C.2.1 d_M_err_0 rfl (lv_at hl 0 rfl) ?_
  refine hq_get (v := .ref (b + 1)) C f_M_7 k0 rfl d_M_err_1 ?_
  refine lv_iload_n C.1 C.2.1 d_M_err_4 rfl (lv_at hl 2 rfl) ?_
  refine lv_dup2_11 C.1 C.2.1 d_M_err_5 rfl rfl ?_
  have e41 : va_at D vwCl (b + 1, .inl (cI, 8, .inl (A 0))) _ := hM 1 (by decide)
  refine hq_iald C 0 rfl e41 (hx) d_M_err_6 ?_
  refine W.eq (g2 := F0 m 7 ls [.int (A 0 x.toNatClampNeg), .int (x), .ref (b + 1)]) rfl ?_
  refine lv_iconst (v := 1) C.1 C.2.1 d_M_err_7 (by decide) ?_
  refine lv_iadd C.1 C.2.1 d_M_err_8 ?_
  have e42 : va_at D vwCl (b + 1, .inl (cI, 8, .inl (A 0))) _ := hM 1 (by decide)
  refine hq_iast (lo := lo) C 0 rfl e42 (hx) hL (by omega) d_M_err_9 (fun H43 locs u44 hL => ?_)
  have m45 := md_set (k := 0) (f := upd (A 0) x.toNatClampNeg ((A 0 x.toNatClampNeg) + 1)) hM u44
  have k0 : va_at D vwCl (b, .inr (6, [.int (th), .int (nn), .ref (b + 1), .ref (b + 2), .ref (b + 3), .ref (b + 4), .ref (b + 5), .ref (b + 6), .ref (b + 7), .ref (b + 8), .ref (b + 9), .ref (b + 10), .ref (b + 11), .ref (b + 12), .ref (b + 13), .ref (b + 14), .ref (b + 15), .ref (b + 16), .ref (b + 17), .ref (b + 18), .ref (b + 19), .ref (b + 20), .ref (b + 21), .ref (b + 22), .ref (b + 23), .ref (b + 24), .ref (b + 25), .ref (b + 26), .ref (b + 27), .ref (b + 28), .ref (b + 29), .ref (b + 30)])) H43 := m45 0 (by decide)
  refine lv_iload_n C.1 C.2.1 d_M_err_10 rfl (lv_at hl 3 rfl) ?_
  refine lv_iconst (v := 1) C.1 C.2.1 d_M_err_11 (by decide) ?_
  refine lv_icmp_ne (tgt := 47) C.1 C.2.1 d_M_err_12 (by decide) ?_ ?_
  · intro c46
    refine lv_aload_n C.1 C.2.1 d_M_err_47 rfl (lv_at hl 0 rfl) ?_
    refine hq_get (v := .ref (b + 6)) C f_M_26 k0 rfl d_M_err_48 ?_
    refine lv_iload_n C.1 C.2.1 d_M_err_51 rfl (lv_at hl 1 rfl) ?_
    refine lv_dup2_11 C.1 C.2.1 d_M_err_52 rfl rfl ?_
    have e47 : va_at D vwCl (b + 6, .inl (cI, 4, .inl (A 5))) _ := m45 6 (by decide)
    refine hq_iald C 0 rfl e47 (vp_in_nI hj (by decide)) d_M_err_53 ?_
    rw [nI_clamp (show j < 2 ^ 31 by omega)]
    refine W.eq (g2 := F0 m 54 ls [.int (A 5 j), .int (nI j), .ref (b + 6)]) rfl ?_
    refine lv_iconst (v := 1) C.1 C.2.1 d_M_err_54 (by decide) ?_
    refine lv_iadd C.1 C.2.1 d_M_err_55 ?_
    have e48 : va_at D vwCl (b + 6, .inl (cI, 4, .inl (A 5))) _ := m45 6 (by decide)
    refine hq_iast (lo := lo) C 0 rfl e48 (vp_in_nI hj (by decide)) hL (by omega) d_M_err_56 (fun H49 locs u50 hL => ?_)
    rw [nI_clamp (show j < 2 ^ 31 by omega)] at u50
    have m51 := md_set (k := 5) (f := upd (A 5) j ((A 5 j) + 1)) m45 u50
    have k0 : va_at D vwCl (b, .inr (6, [.int (th), .int (nn), .ref (b + 1), .ref (b + 2), .ref (b + 3), .ref (b + 4), .ref (b + 5), .ref (b + 6), .ref (b + 7), .ref (b + 8), .ref (b + 9), .ref (b + 10), .ref (b + 11), .ref (b + 12), .ref (b + 13), .ref (b + 14), .ref (b + 15), .ref (b + 16), .ref (b + 17), .ref (b + 18), .ref (b + 19), .ref (b + 20), .ref (b + 21), .ref (b + 22), .ref (b + 23), .ref (b + 24), .ref (b + 25), .ref (b + 26), .ref (b + 27), .ref (b + 28), .ref (b + 29), .ref (b + 30)])) H49 := m51 0 (by decide)
    refine lv_aload_n C.1 C.2.1 d_M_err_57 rfl (lv_at hl 0 rfl) ?_
    refine lv_iload_n C.1 C.2.1 d_M_err_58 rfl (lv_at hl 1 rfl) ?_
    refine hq_callV (lo := lo) (As := [.int (nI j)]) (rest := []) C tb_good hml Y_M_126 (c_M_goesOff l D cI cZ cN cJ lo b hlo th nn (setA (setA A 0 (upd (A 0) x.toNatClampNeg ((A 0 x.toNatClampNeg) + 1))) 5 (upd (A 5) j ((A 5 j) + 1))) j hj) k0 rfl (fun _ _ _ _ h => h) (fun U hU hW => by show hq_B D vwCl b 31 (mdC cI cZ b th nn (setA (setA A 0 (upd (A 0) x.toNatClampNeg ((A 0 x.toNatClampNeg) + 1))) 5 (upd (A 5) j ((A 5 j) + 1)))) U.heap; rw [hU]; exact m51) hL hl.1 rfl rfl ⟨⟨Nat.le_of_ble_eq_true rfl, Nat.le_of_ble_eq_true rfl⟩, Nat.le_of_ble_eq_true rfl, Nat.le_of_ble_eq_true rfl⟩ (Nat.le_of_ble_eq_true rfl) d_M_err_59 (fun v H54 locs hp hL => ?_)
    obtain ⟨rfl, m52, S53⟩ := hp
    refine W.eq (g2 := F0 m 62 ls [.int ((f_M_goesOff (setA (setA A 0 (upd (A 0) x.toNatClampNeg ((A 0 x.toNatClampNeg) + 1))) 5 (upd (A 5) j ((A 5 j) + 1))) j).2)]) rfl ?_
    have k0 : va_at D vwCl (b, .inr (6, [.int (th), .int (nn), .ref (b + 1), .ref (b + 2), .ref (b + 3), .ref (b + 4), .ref (b + 5), .ref (b + 6), .ref (b + 7), .ref (b + 8), .ref (b + 9), .ref (b + 10), .ref (b + 11), .ref (b + 12), .ref (b + 13), .ref (b + 14), .ref (b + 15), .ref (b + 16), .ref (b + 17), .ref (b + 18), .ref (b + 19), .ref (b + 20), .ref (b + 21), .ref (b + 22), .ref (b + 23), .ref (b + 24), .ref (b + 25), .ref (b + 26), .ref (b + 27), .ref (b + 28), .ref (b + 29), .ref (b + 30)])) H54 := m52 0 (by decide)
    refine lv_if_ne (tgt := 76) C.1 C.2.1 d_M_err_62 (by decide) ?_ ?_
    · intro c55
      have hf : f_M_err A j x y = (f_M_goesOff (setA (setA A 0 (upd (A 0) x.toNatClampNeg ((A 0 x.toNatClampNeg) + 1))) 5 (upd (A 5) j ((A 5 j) + 1))) j).1 := by unfold f_M_err; rw [if_neg c46, if_neg c55]
      exact hq_vret C hret hlk (Nat.le_of_ble_eq_true rfl) (Nat.le_of_ble_eq_true rfl) hL ⟨rfl, by rw [hf]; exact m52, hq_Scall (hq_Sput (hq_Sput (hq_S0) u44 (by omega) (by omega)) u50 (by omega) (by omega)) S53 (by omega) (by omega)⟩ d_M_err_76
    · intro c55
      refine lv_aload_n C.1 C.2.1 d_M_err_65 rfl (lv_at hl 0 rfl) ?_
      refine lv_iload_n C.1 C.2.1 d_M_err_66 rfl (lv_at hl 1 rfl) ?_
      refine lv_iload_n C.1 C.2.1 d_M_err_67 rfl (lv_at hl 3 rfl) ?_
      refine lv_aload_n C.1 C.2.1 d_M_err_68 rfl (lv_at hl 0 rfl) ?_
      refine lv_iload_n C.1 C.2.1 d_M_err_69 rfl (lv_at hl 1 rfl) ?_
      refine hq_callV (lo := lo) (As := [.int (nI j)]) (rest := [.int (y), .int (nI j), .ref (b)]) C tb_good hml Y_M_123 (c_M_isPassive l D cI cZ cN cJ lo b th nn (f_M_goesOff (setA (setA A 0 (upd (A 0) x.toNatClampNeg ((A 0 x.toNatClampNeg) + 1))) 5 (upd (A 5) j ((A 5 j) + 1))) j).1 j hj) k0 rfl (fun _ _ _ _ h => h) (fun U hU hW => by show hq_B D vwCl b 31 (mdC cI cZ b th nn (f_M_goesOff (setA (setA A 0 (upd (A 0) x.toNatClampNeg ((A 0 x.toNatClampNeg) + 1))) 5 (upd (A 5) j ((A 5 j) + 1))) j).1) U.heap; rw [hU]; exact m52) hL hl.1 rfl rfl ⟨⟨Nat.le_of_ble_eq_true rfl, Nat.le_of_ble_eq_true rfl⟩, Nat.le_of_ble_eq_true rfl, Nat.le_of_ble_eq_true rfl⟩ (Nat.le_of_ble_eq_true rfl) d_M_err_70 (fun v H56 locs hp hL => ?_)
      obtain ⟨rfl, rfl⟩ := hp
      refine W.eq (g2 := F0 m 73 ls [.int ((f_M_isPassive (f_M_goesOff (setA (setA A 0 (upd (A 0) x.toNatClampNeg ((A 0 x.toNatClampNeg) + 1))) 5 (upd (A 5) j ((A 5 j) + 1))) j).1 j)), .int (y), .int (nI j), .ref (b)]) rfl ?_
      refine hq_callV (lo := lo) (As := [.int (nI j), .int (y), .int ((f_M_isPassive (f_M_goesOff (setA (setA A 0 (upd (A 0) x.toNatClampNeg ((A 0 x.toNatClampNeg) + 1))) 5 (upd (A 5) j ((A 5 j) + 1))) j).1 j))]) (rest := []) C tb_good hml Y_M_129 (c_M_flag l D cI cZ cN cJ lo b hlo th nn (f_M_goesOff (setA (setA A 0 (upd (A 0) x.toNatClampNeg ((A 0 x.toNatClampNeg) + 1))) 5 (upd (A 5) j ((A 5 j) + 1))) j).1 j hj y ((f_M_isPassive (f_M_goesOff (setA (setA A 0 (upd (A 0) x.toNatClampNeg ((A 0 x.toNatClampNeg) + 1))) 5 (upd (A 5) j ((A 5 j) + 1))) j).1 j))) k0 rfl (fun _ _ _ _ h => h) (fun U hU hW => by show hq_B D vwCl b 31 (mdC cI cZ b th nn (f_M_goesOff (setA (setA A 0 (upd (A 0) x.toNatClampNeg ((A 0 x.toNatClampNeg) + 1))) 5 (upd (A 5) j ((A 5 j) + 1))) j).1) U.heap; rw [hU]; exact m52) hL hl.1 rfl rfl ⟨⟨Nat.le_of_ble_eq_true rfl, Nat.le_of_ble_eq_true rfl⟩, Nat.le_of_ble_eq_true rfl, Nat.le_of_ble_eq_true rfl⟩ (Nat.le_of_ble_eq_true rfl) d_M_err_73 (fun v H59 locs hp hL => ?_)
      obtain ⟨rfl, m57, S58⟩ := hp
      refine W.eq (g2 := F0 m 76 ls []) rfl ?_
      have k0 : va_at D vwCl (b, .inr (6, [.int (th), .int (nn), .ref (b + 1), .ref (b + 2), .ref (b + 3), .ref (b + 4), .ref (b + 5), .ref (b + 6), .ref (b + 7), .ref (b + 8), .ref (b + 9), .ref (b + 10), .ref (b + 11), .ref (b + 12), .ref (b + 13), .ref (b + 14), .ref (b + 15), .ref (b + 16), .ref (b + 17), .ref (b + 18), .ref (b + 19), .ref (b + 20), .ref (b + 21), .ref (b + 22), .ref (b + 23), .ref (b + 24), .ref (b + 25), .ref (b + 26), .ref (b + 27), .ref (b + 28), .ref (b + 29), .ref (b + 30)])) H59 := m57 0 (by decide)
      have hf : f_M_err A j x y = (f_M_flag (f_M_goesOff (setA (setA A 0 (upd (A 0) x.toNatClampNeg ((A 0 x.toNatClampNeg) + 1))) 5 (upd (A 5) j ((A 5 j) + 1))) j).1 j y ((f_M_isPassive (f_M_goesOff (setA (setA A 0 (upd (A 0) x.toNatClampNeg ((A 0 x.toNatClampNeg) + 1))) 5 (upd (A 5) j ((A 5 j) + 1))) j).1 j))) := by unfold f_M_err; rw [if_neg c46, if_pos c55]
      exact hq_vret C hret hlk (Nat.le_of_ble_eq_true rfl) (Nat.le_of_ble_eq_true rfl) hL ⟨rfl, by rw [hf]; exact m57, hq_Scall (hq_Scall (hq_Sput (hq_Sput (hq_S0) u44 (by omega) (by omega)) u50 (by omega) (by omega)) S53 (by omega) (by omega)) S58 (by omega) (by omega)⟩ d_M_err_76
  · intro c46
    refine lv_aload_n C.1 C.2.1 d_M_err_15 rfl (lv_at hl 0 rfl) ?_
    refine hq_get (v := .ref (b + 5)) C f_M_23 k0 rfl d_M_err_16 ?_
    refine lv_iload_n C.1 C.2.1 d_M_err_19 rfl (lv_at hl 1 rfl) ?_
    refine lv_dup2_11 C.1 C.2.1 d_M_err_20 rfl rfl ?_
    have e60 : va_at D vwCl (b + 5, .inl (cI, 4, .inl (A 4))) _ := m45 5 (by decide)
    refine hq_iald C 0 rfl e60 (vp_in_nI hj (by decide)) d_M_err_21 ?_
    rw [nI_clamp (show j < 2 ^ 31 by omega)]
    refine W.eq (g2 := F0 m 22 ls [.int (A 4 j), .int (nI j), .ref (b + 5)]) rfl ?_
    refine lv_iload_n C.1 C.2.1 d_M_err_22 rfl (lv_at hl 2 rfl) ?_
    refine lv_bipush (v := 6) C.1 C.2.1 d_M_err_23 (by decide) ?_
    refine lv_icmp_ne (tgt := 40) C.1 C.2.1 d_M_err_25 (by decide) ?_ ?_
    · intro c61
      refine lv_bipush (v := 8) C.1 C.2.1 d_M_err_40 (by decide) ?_
      refine lv_iadd C.1 C.2.1 d_M_err_42 ?_
      have e62 : va_at D vwCl (b + 5, .inl (cI, 4, .inl (A 4))) _ := m45 5 (by decide)
      refine hq_iast (lo := lo) C 0 rfl e62 (vp_in_nI hj (by decide)) hL (by omega) d_M_err_43 (fun H63 locs u64 hL => ?_)
      rw [nI_clamp (show j < 2 ^ 31 by omega)] at u64
      have m65 := md_set (k := 4) (f := upd (A 4) j ((A 4 j) + 8)) m45 u64
      have k0 : va_at D vwCl (b, .inr (6, [.int (th), .int (nn), .ref (b + 1), .ref (b + 2), .ref (b + 3), .ref (b + 4), .ref (b + 5), .ref (b + 6), .ref (b + 7), .ref (b + 8), .ref (b + 9), .ref (b + 10), .ref (b + 11), .ref (b + 12), .ref (b + 13), .ref (b + 14), .ref (b + 15), .ref (b + 16), .ref (b + 17), .ref (b + 18), .ref (b + 19), .ref (b + 20), .ref (b + 21), .ref (b + 22), .ref (b + 23), .ref (b + 24), .ref (b + 25), .ref (b + 26), .ref (b + 27), .ref (b + 28), .ref (b + 29), .ref (b + 30)])) H63 := m65 0 (by decide)
      refine lv_goto (tgt := 57) C.1 C.2.1 d_M_err_44 (by decide) ?_
      refine lv_aload_n C.1 C.2.1 d_M_err_57 rfl (lv_at hl 0 rfl) ?_
      refine lv_iload_n C.1 C.2.1 d_M_err_58 rfl (lv_at hl 1 rfl) ?_
      refine hq_callV (lo := lo) (As := [.int (nI j)]) (rest := []) C tb_good hml Y_M_126 (c_M_goesOff l D cI cZ cN cJ lo b hlo th nn (setA (setA A 0 (upd (A 0) x.toNatClampNeg ((A 0 x.toNatClampNeg) + 1))) 4 (upd (A 4) j ((A 4 j) + 8))) j hj) k0 rfl (fun _ _ _ _ h => h) (fun U hU hW => by show hq_B D vwCl b 31 (mdC cI cZ b th nn (setA (setA A 0 (upd (A 0) x.toNatClampNeg ((A 0 x.toNatClampNeg) + 1))) 4 (upd (A 4) j ((A 4 j) + 8)))) U.heap; rw [hU]; exact m65) hL hl.1 rfl rfl ⟨⟨Nat.le_of_ble_eq_true rfl, Nat.le_of_ble_eq_true rfl⟩, Nat.le_of_ble_eq_true rfl, Nat.le_of_ble_eq_true rfl⟩ (Nat.le_of_ble_eq_true rfl) d_M_err_59 (fun v H68 locs hp hL => ?_)
      obtain ⟨rfl, m66, S67⟩ := hp
      refine W.eq (g2 := F0 m 62 ls [.int ((f_M_goesOff (setA (setA A 0 (upd (A 0) x.toNatClampNeg ((A 0 x.toNatClampNeg) + 1))) 4 (upd (A 4) j ((A 4 j) + 8))) j).2)]) rfl ?_
      have k0 : va_at D vwCl (b, .inr (6, [.int (th), .int (nn), .ref (b + 1), .ref (b + 2), .ref (b + 3), .ref (b + 4), .ref (b + 5), .ref (b + 6), .ref (b + 7), .ref (b + 8), .ref (b + 9), .ref (b + 10), .ref (b + 11), .ref (b + 12), .ref (b + 13), .ref (b + 14), .ref (b + 15), .ref (b + 16), .ref (b + 17), .ref (b + 18), .ref (b + 19), .ref (b + 20), .ref (b + 21), .ref (b + 22), .ref (b + 23), .ref (b + 24), .ref (b + 25), .ref (b + 26), .ref (b + 27), .ref (b + 28), .ref (b + 29), .ref (b + 30)])) H68 := m66 0 (by decide)
      refine lv_if_ne (tgt := 76) C.1 C.2.1 d_M_err_62 (by decide) ?_ ?_
      · intro c69
        have hf : f_M_err A j x y = (f_M_goesOff (setA (setA A 0 (upd (A 0) x.toNatClampNeg ((A 0 x.toNatClampNeg) + 1))) 4 (upd (A 4) j ((A 4 j) + 8))) j).1 := by unfold f_M_err; rw [if_pos c46, if_neg c61, if_neg c69]
        exact hq_vret C hret hlk (Nat.le_of_ble_eq_true rfl) (Nat.le_of_ble_eq_true rfl) hL ⟨rfl, by rw [hf]; exact m66, hq_Scall (hq_Sput (hq_Sput (hq_S0) u44 (by omega) (by omega)) u64 (by omega) (by omega)) S67 (by omega) (by omega)⟩ d_M_err_76
      · intro c69
        refine lv_aload_n C.1 C.2.1 d_M_err_65 rfl (lv_at hl 0 rfl) ?_
        refine lv_iload_n C.1 C.2.1 d_M_err_66 rfl (lv_at hl 1 rfl) ?_
        refine lv_iload_n C.1 C.2.1 d_M_err_67 rfl (lv_at hl 3 rfl) ?_
        refine lv_aload_n C.1 C.2.1 d_M_err_68 rfl (lv_at hl 0 rfl) ?_
        refine lv_iload_n C.1 C.2.1 d_M_err_69 rfl (lv_at hl 1 rfl) ?_
        refine hq_callV (lo := lo) (As := [.int (nI j)]) (rest := [.int (y), .int (nI j), .ref (b)]) C tb_good hml Y_M_123 (c_M_isPassive l D cI cZ cN cJ lo b th nn (f_M_goesOff (setA (setA A 0 (upd (A 0) x.toNatClampNeg ((A 0 x.toNatClampNeg) + 1))) 4 (upd (A 4) j ((A 4 j) + 8))) j).1 j hj) k0 rfl (fun _ _ _ _ h => h) (fun U hU hW => by show hq_B D vwCl b 31 (mdC cI cZ b th nn (f_M_goesOff (setA (setA A 0 (upd (A 0) x.toNatClampNeg ((A 0 x.toNatClampNeg) + 1))) 4 (upd (A 4) j ((A 4 j) + 8))) j).1) U.heap; rw [hU]; exact m66) hL hl.1 rfl rfl ⟨⟨Nat.le_of_ble_eq_true rfl, Nat.le_of_ble_eq_true rfl⟩, Nat.le_of_ble_eq_true rfl, Nat.le_of_ble_eq_true rfl⟩ (Nat.le_of_ble_eq_true rfl) d_M_err_70 (fun v H70 locs hp hL => ?_)
        obtain ⟨rfl, rfl⟩ := hp
        refine W.eq (g2 := F0 m 73 ls [.int ((f_M_isPassive (f_M_goesOff (setA (setA A 0 (upd (A 0) x.toNatClampNeg ((A 0 x.toNatClampNeg) + 1))) 4 (upd (A 4) j ((A 4 j) + 8))) j).1 j)), .int (y), .int (nI j), .ref (b)]) rfl ?_
        refine hq_callV (lo := lo) (As := [.int (nI j), .int (y), .int ((f_M_isPassive (f_M_goesOff (setA (setA A 0 (upd (A 0) x.toNatClampNeg ((A 0 x.toNatClampNeg) + 1))) 4 (upd (A 4) j ((A 4 j) + 8))) j).1 j))]) (rest := []) C tb_good hml Y_M_129 (c_M_flag l D cI cZ cN cJ lo b hlo th nn (f_M_goesOff (setA (setA A 0 (upd (A 0) x.toNatClampNeg ((A 0 x.toNatClampNeg) + 1))) 4 (upd (A 4) j ((A 4 j) + 8))) j).1 j hj y ((f_M_isPassive (f_M_goesOff (setA (setA A 0 (upd (A 0) x.toNatClampNeg ((A 0 x.toNatClampNeg) + 1))) 4 (upd (A 4) j ((A 4 j) + 8))) j).1 j))) k0 rfl (fun _ _ _ _ h => h) (fun U hU hW => by show hq_B D vwCl b 31 (mdC cI cZ b th nn (f_M_goesOff (setA (setA A 0 (upd (A 0) x.toNatClampNeg ((A 0 x.toNatClampNeg) + 1))) 4 (upd (A 4) j ((A 4 j) + 8))) j).1) U.heap; rw [hU]; exact m66) hL hl.1 rfl rfl ⟨⟨Nat.le_of_ble_eq_true rfl, Nat.le_of_ble_eq_true rfl⟩, Nat.le_of_ble_eq_true rfl, Nat.le_of_ble_eq_true rfl⟩ (Nat.le_of_ble_eq_true rfl) d_M_err_73 (fun v H73 locs hp hL => ?_)
        obtain ⟨rfl, m71, S72⟩ := hp
        refine W.eq (g2 := F0 m 76 ls []) rfl ?_
        have k0 : va_at D vwCl (b, .inr (6, [.int (th), .int (nn), .ref (b + 1), .ref (b + 2), .ref (b + 3), .ref (b + 4), .ref (b + 5), .ref (b + 6), .ref (b + 7), .ref (b + 8), .ref (b + 9), .ref (b + 10), .ref (b + 11), .ref (b + 12), .ref (b + 13), .ref (b + 14), .ref (b + 15), .ref (b + 16), .ref (b + 17), .ref (b + 18), .ref (b + 19), .ref (b + 20), .ref (b + 21), .ref (b + 22), .ref (b + 23), .ref (b + 24), .ref (b + 25), .ref (b + 26), .ref (b + 27), .ref (b + 28), .ref (b + 29), .ref (b + 30)])) H73 := m71 0 (by decide)
        have hf : f_M_err A j x y = (f_M_flag (f_M_goesOff (setA (setA A 0 (upd (A 0) x.toNatClampNeg ((A 0 x.toNatClampNeg) + 1))) 4 (upd (A 4) j ((A 4 j) + 8))) j).1 j y ((f_M_isPassive (f_M_goesOff (setA (setA A 0 (upd (A 0) x.toNatClampNeg ((A 0 x.toNatClampNeg) + 1))) 4 (upd (A 4) j ((A 4 j) + 8))) j).1 j))) := by unfold f_M_err; rw [if_pos c46, if_neg c61, if_pos c69]
        exact hq_vret C hret hlk (Nat.le_of_ble_eq_true rfl) (Nat.le_of_ble_eq_true rfl) hL ⟨rfl, by rw [hf]; exact m71, hq_Scall (hq_Scall (hq_Sput (hq_Sput (hq_S0) u44 (by omega) (by omega)) u64 (by omega) (by omega)) S67 (by omega) (by omega)) S72 (by omega) (by omega)⟩ d_M_err_76
    · intro c61
      refine lv_aload_n C.1 C.2.1 d_M_err_28 rfl (lv_at hl 0 rfl) ?_
      refine lv_iload_n C.1 C.2.1 d_M_err_29 rfl (lv_at hl 1 rfl) ?_
      refine hq_callV (lo := lo) (As := [.int (nI j)]) (rest := [.int (A 4 j), .int (nI j), .ref (b + 5)]) C tb_good hml Y_M_123 (c_M_isPassive l D cI cZ cN cJ lo b th nn (setA A 0 (upd (A 0) x.toNatClampNeg ((A 0 x.toNatClampNeg) + 1))) j hj) k0 rfl (fun _ _ _ _ h => h) (fun U hU hW => by show hq_B D vwCl b 31 (mdC cI cZ b th nn (setA A 0 (upd (A 0) x.toNatClampNeg ((A 0 x.toNatClampNeg) + 1)))) U.heap; rw [hU]; exact m45) hL hl.1 rfl rfl ⟨⟨Nat.le_of_ble_eq_true rfl, Nat.le_of_ble_eq_true rfl⟩, Nat.le_of_ble_eq_true rfl, Nat.le_of_ble_eq_true rfl⟩ (Nat.le_of_ble_eq_true rfl) d_M_err_30 (fun v H74 locs hp hL => ?_)
      obtain ⟨rfl, rfl⟩ := hp
      refine W.eq (g2 := F0 m 33 ls [.int ((f_M_isPassive (setA A 0 (upd (A 0) x.toNatClampNeg ((A 0 x.toNatClampNeg) + 1))) j)), .int (A 4 j), .int (nI j), .ref (b + 5)]) rfl ?_
      refine lv_if_eq (tgt := 40) C.1 C.2.1 d_M_err_33 (by decide) ?_ ?_
      · intro c75
        refine lv_bipush (v := 8) C.1 C.2.1 d_M_err_40 (by decide) ?_
        refine lv_iadd C.1 C.2.1 d_M_err_42 ?_
        have e76 : va_at D vwCl (b + 5, .inl (cI, 4, .inl (A 4))) _ := m45 5 (by decide)
        refine hq_iast (lo := lo) C 0 rfl e76 (vp_in_nI hj (by decide)) hL (by omega) d_M_err_43 (fun H77 locs u78 hL => ?_)
        rw [nI_clamp (show j < 2 ^ 31 by omega)] at u78
        have m79 := md_set (k := 4) (f := upd (A 4) j ((A 4 j) + 8)) m45 u78
        have k0 : va_at D vwCl (b, .inr (6, [.int (th), .int (nn), .ref (b + 1), .ref (b + 2), .ref (b + 3), .ref (b + 4), .ref (b + 5), .ref (b + 6), .ref (b + 7), .ref (b + 8), .ref (b + 9), .ref (b + 10), .ref (b + 11), .ref (b + 12), .ref (b + 13), .ref (b + 14), .ref (b + 15), .ref (b + 16), .ref (b + 17), .ref (b + 18), .ref (b + 19), .ref (b + 20), .ref (b + 21), .ref (b + 22), .ref (b + 23), .ref (b + 24), .ref (b + 25), .ref (b + 26), .ref (b + 27), .ref (b + 28), .ref (b + 29), .ref (b + 30)])) H77 := m79 0 (by decide)
        refine lv_goto (tgt := 57) C.1 C.2.1 d_M_err_44 (by decide) ?_
        refine lv_aload_n C.1 C.2.1 d_M_err_57 rfl (lv_at hl 0 rfl) ?_
        refine lv_iload_n C.1 C.2.1 d_M_err_58 rfl (lv_at hl 1 rfl) ?_
        refine hq_callV (lo := lo) (As := [.int (nI j)]) (rest := []) C tb_good hml Y_M_126 (c_M_goesOff l D cI cZ cN cJ lo b hlo th nn (setA (setA A 0 (upd (A 0) x.toNatClampNeg ((A 0 x.toNatClampNeg) + 1))) 4 (upd (A 4) j ((A 4 j) + 8))) j hj) k0 rfl (fun _ _ _ _ h => h) (fun U hU hW => by show hq_B D vwCl b 31 (mdC cI cZ b th nn (setA (setA A 0 (upd (A 0) x.toNatClampNeg ((A 0 x.toNatClampNeg) + 1))) 4 (upd (A 4) j ((A 4 j) + 8)))) U.heap; rw [hU]; exact m79) hL hl.1 rfl rfl ⟨⟨Nat.le_of_ble_eq_true rfl, Nat.le_of_ble_eq_true rfl⟩, Nat.le_of_ble_eq_true rfl, Nat.le_of_ble_eq_true rfl⟩ (Nat.le_of_ble_eq_true rfl) d_M_err_59 (fun v H82 locs hp hL => ?_)
        obtain ⟨rfl, m80, S81⟩ := hp
        refine W.eq (g2 := F0 m 62 ls [.int ((f_M_goesOff (setA (setA A 0 (upd (A 0) x.toNatClampNeg ((A 0 x.toNatClampNeg) + 1))) 4 (upd (A 4) j ((A 4 j) + 8))) j).2)]) rfl ?_
        have k0 : va_at D vwCl (b, .inr (6, [.int (th), .int (nn), .ref (b + 1), .ref (b + 2), .ref (b + 3), .ref (b + 4), .ref (b + 5), .ref (b + 6), .ref (b + 7), .ref (b + 8), .ref (b + 9), .ref (b + 10), .ref (b + 11), .ref (b + 12), .ref (b + 13), .ref (b + 14), .ref (b + 15), .ref (b + 16), .ref (b + 17), .ref (b + 18), .ref (b + 19), .ref (b + 20), .ref (b + 21), .ref (b + 22), .ref (b + 23), .ref (b + 24), .ref (b + 25), .ref (b + 26), .ref (b + 27), .ref (b + 28), .ref (b + 29), .ref (b + 30)])) H82 := m80 0 (by decide)
        refine lv_if_ne (tgt := 76) C.1 C.2.1 d_M_err_62 (by decide) ?_ ?_
        · intro c83
          have hf : f_M_err A j x y = (f_M_goesOff (setA (setA A 0 (upd (A 0) x.toNatClampNeg ((A 0 x.toNatClampNeg) + 1))) 4 (upd (A 4) j ((A 4 j) + 8))) j).1 := by unfold f_M_err; rw [if_pos c46, if_pos c61, if_pos c75, if_neg c83]
          exact hq_vret C hret hlk (Nat.le_of_ble_eq_true rfl) (Nat.le_of_ble_eq_true rfl) hL ⟨rfl, by rw [hf]; exact m80, hq_Scall (hq_Sput (hq_Sput (hq_S0) u44 (by omega) (by omega)) u78 (by omega) (by omega)) S81 (by omega) (by omega)⟩ d_M_err_76
        · intro c83
          refine lv_aload_n C.1 C.2.1 d_M_err_65 rfl (lv_at hl 0 rfl) ?_
          refine lv_iload_n C.1 C.2.1 d_M_err_66 rfl (lv_at hl 1 rfl) ?_
          refine lv_iload_n C.1 C.2.1 d_M_err_67 rfl (lv_at hl 3 rfl) ?_
          refine lv_aload_n C.1 C.2.1 d_M_err_68 rfl (lv_at hl 0 rfl) ?_
          refine lv_iload_n C.1 C.2.1 d_M_err_69 rfl (lv_at hl 1 rfl) ?_
          refine hq_callV (lo := lo) (As := [.int (nI j)]) (rest := [.int (y), .int (nI j), .ref (b)]) C tb_good hml Y_M_123 (c_M_isPassive l D cI cZ cN cJ lo b th nn (f_M_goesOff (setA (setA A 0 (upd (A 0) x.toNatClampNeg ((A 0 x.toNatClampNeg) + 1))) 4 (upd (A 4) j ((A 4 j) + 8))) j).1 j hj) k0 rfl (fun _ _ _ _ h => h) (fun U hU hW => by show hq_B D vwCl b 31 (mdC cI cZ b th nn (f_M_goesOff (setA (setA A 0 (upd (A 0) x.toNatClampNeg ((A 0 x.toNatClampNeg) + 1))) 4 (upd (A 4) j ((A 4 j) + 8))) j).1) U.heap; rw [hU]; exact m80) hL hl.1 rfl rfl ⟨⟨Nat.le_of_ble_eq_true rfl, Nat.le_of_ble_eq_true rfl⟩, Nat.le_of_ble_eq_true rfl, Nat.le_of_ble_eq_true rfl⟩ (Nat.le_of_ble_eq_true rfl) d_M_err_70 (fun v H84 locs hp hL => ?_)
          obtain ⟨rfl, rfl⟩ := hp
          refine W.eq (g2 := F0 m 73 ls [.int ((f_M_isPassive (f_M_goesOff (setA (setA A 0 (upd (A 0) x.toNatClampNeg ((A 0 x.toNatClampNeg) + 1))) 4 (upd (A 4) j ((A 4 j) + 8))) j).1 j)), .int (y), .int (nI j), .ref (b)]) rfl ?_
          refine hq_callV (lo := lo) (As := [.int (nI j), .int (y), .int ((f_M_isPassive (f_M_goesOff (setA (setA A 0 (upd (A 0) x.toNatClampNeg ((A 0 x.toNatClampNeg) + 1))) 4 (upd (A 4) j ((A 4 j) + 8))) j).1 j))]) (rest := []) C tb_good hml Y_M_129 (c_M_flag l D cI cZ cN cJ lo b hlo th nn (f_M_goesOff (setA (setA A 0 (upd (A 0) x.toNatClampNeg ((A 0 x.toNatClampNeg) + 1))) 4 (upd (A 4) j ((A 4 j) + 8))) j).1 j hj y ((f_M_isPassive (f_M_goesOff (setA (setA A 0 (upd (A 0) x.toNatClampNeg ((A 0 x.toNatClampNeg) + 1))) 4 (upd (A 4) j ((A 4 j) + 8))) j).1 j))) k0 rfl (fun _ _ _ _ h => h) (fun U hU hW => by show hq_B D vwCl b 31 (mdC cI cZ b th nn (f_M_goesOff (setA (setA A 0 (upd (A 0) x.toNatClampNeg ((A 0 x.toNatClampNeg) + 1))) 4 (upd (A 4) j ((A 4 j) + 8))) j).1) U.heap; rw [hU]; exact m80) hL hl.1 rfl rfl ⟨⟨Nat.le_of_ble_eq_true rfl, Nat.le_of_ble_eq_true rfl⟩, Nat.le_of_ble_eq_true rfl, Nat.le_of_ble_eq_true rfl⟩ (Nat.le_of_ble_eq_true rfl) d_M_err_73 (fun v H87 locs hp hL => ?_)
          obtain ⟨rfl, m85, S86⟩ := hp
          refine W.eq (g2 := F0 m 76 ls []) rfl ?_
          have k0 : va_at D vwCl (b, .inr (6, [.int (th), .int (nn), .ref (b + 1), .ref (b + 2), .ref (b + 3), .ref (b + 4), .ref (b + 5), .ref (b + 6), .ref (b + 7), .ref (b + 8), .ref (b + 9), .ref (b + 10), .ref (b + 11), .ref (b + 12), .ref (b + 13), .ref (b + 14), .ref (b + 15), .ref (b + 16), .ref (b + 17), .ref (b + 18), .ref (b + 19), .ref (b + 20), .ref (b + 21), .ref (b + 22), .ref (b + 23), .ref (b + 24), .ref (b + 25), .ref (b + 26), .ref (b + 27), .ref (b + 28), .ref (b + 29), .ref (b + 30)])) H87 := m85 0 (by decide)
          have hf : f_M_err A j x y = (f_M_flag (f_M_goesOff (setA (setA A 0 (upd (A 0) x.toNatClampNeg ((A 0 x.toNatClampNeg) + 1))) 4 (upd (A 4) j ((A 4 j) + 8))) j).1 j y ((f_M_isPassive (f_M_goesOff (setA (setA A 0 (upd (A 0) x.toNatClampNeg ((A 0 x.toNatClampNeg) + 1))) 4 (upd (A 4) j ((A 4 j) + 8))) j).1 j))) := by unfold f_M_err; rw [if_pos c46, if_pos c61, if_pos c75, if_pos c83]
          exact hq_vret C hret hlk (Nat.le_of_ble_eq_true rfl) (Nat.le_of_ble_eq_true rfl) hL ⟨rfl, by rw [hf]; exact m85, hq_Scall (hq_Scall (hq_Sput (hq_Sput (hq_S0) u44 (by omega) (by omega)) u78 (by omega) (by omega)) S81 (by omega) (by omega)) S86 (by omega) (by omega)⟩ d_M_err_76
      · intro c75
        refine lv_iconst (v := 0) C.1 C.2.1 d_M_err_36 (by decide) ?_
        refine lv_goto (tgt := 42) C.1 C.2.1 d_M_err_37 (by decide) ?_
        refine lv_iadd C.1 C.2.1 d_M_err_42 ?_
        have e88 : va_at D vwCl (b + 5, .inl (cI, 4, .inl (A 4))) _ := m45 5 (by decide)
        refine hq_iast (lo := lo) C 0 rfl e88 (vp_in_nI hj (by decide)) hL (by omega) d_M_err_43 (fun H89 locs u90 hL => ?_)
        rw [nI_clamp (show j < 2 ^ 31 by omega)] at u90
        have m91 := md_set (k := 4) (f := upd (A 4) j ((A 4 j) + 0)) m45 u90
        have k0 : va_at D vwCl (b, .inr (6, [.int (th), .int (nn), .ref (b + 1), .ref (b + 2), .ref (b + 3), .ref (b + 4), .ref (b + 5), .ref (b + 6), .ref (b + 7), .ref (b + 8), .ref (b + 9), .ref (b + 10), .ref (b + 11), .ref (b + 12), .ref (b + 13), .ref (b + 14), .ref (b + 15), .ref (b + 16), .ref (b + 17), .ref (b + 18), .ref (b + 19), .ref (b + 20), .ref (b + 21), .ref (b + 22), .ref (b + 23), .ref (b + 24), .ref (b + 25), .ref (b + 26), .ref (b + 27), .ref (b + 28), .ref (b + 29), .ref (b + 30)])) H89 := m91 0 (by decide)
        refine lv_goto (tgt := 57) C.1 C.2.1 d_M_err_44 (by decide) ?_
        refine lv_aload_n C.1 C.2.1 d_M_err_57 rfl (lv_at hl 0 rfl) ?_
        refine lv_iload_n C.1 C.2.1 d_M_err_58 rfl (lv_at hl 1 rfl) ?_
        refine hq_callV (lo := lo) (As := [.int (nI j)]) (rest := []) C tb_good hml Y_M_126 (c_M_goesOff l D cI cZ cN cJ lo b hlo th nn (setA (setA A 0 (upd (A 0) x.toNatClampNeg ((A 0 x.toNatClampNeg) + 1))) 4 (upd (A 4) j ((A 4 j) + 0))) j hj) k0 rfl (fun _ _ _ _ h => h) (fun U hU hW => by show hq_B D vwCl b 31 (mdC cI cZ b th nn (setA (setA A 0 (upd (A 0) x.toNatClampNeg ((A 0 x.toNatClampNeg) + 1))) 4 (upd (A 4) j ((A 4 j) + 0)))) U.heap; rw [hU]; exact m91) hL hl.1 rfl rfl ⟨⟨Nat.le_of_ble_eq_true rfl, Nat.le_of_ble_eq_true rfl⟩, Nat.le_of_ble_eq_true rfl, Nat.le_of_ble_eq_true rfl⟩ (Nat.le_of_ble_eq_true rfl) d_M_err_59 (fun v H94 locs hp hL => ?_)
        obtain ⟨rfl, m92, S93⟩ := hp
        refine W.eq (g2 := F0 m 62 ls [.int ((f_M_goesOff (setA (setA A 0 (upd (A 0) x.toNatClampNeg ((A 0 x.toNatClampNeg) + 1))) 4 (upd (A 4) j ((A 4 j) + 0))) j).2)]) rfl ?_
        have k0 : va_at D vwCl (b, .inr (6, [.int (th), .int (nn), .ref (b + 1), .ref (b + 2), .ref (b + 3), .ref (b + 4), .ref (b + 5), .ref (b + 6), .ref (b + 7), .ref (b + 8), .ref (b + 9), .ref (b + 10), .ref (b + 11), .ref (b + 12), .ref (b + 13), .ref (b + 14), .ref (b + 15), .ref (b + 16), .ref (b + 17), .ref (b + 18), .ref (b + 19), .ref (b + 20), .ref (b + 21), .ref (b + 22), .ref (b + 23), .ref (b + 24), .ref (b + 25), .ref (b + 26), .ref (b + 27), .ref (b + 28), .ref (b + 29), .ref (b + 30)])) H94 := m92 0 (by decide)
        refine lv_if_ne (tgt := 76) C.1 C.2.1 d_M_err_62 (by decide) ?_ ?_
        · intro c95
          have hf : f_M_err A j x y = (f_M_goesOff (setA (setA A 0 (upd (A 0) x.toNatClampNeg ((A 0 x.toNatClampNeg) + 1))) 4 (upd (A 4) j ((A 4 j) + 0))) j).1 := by unfold f_M_err; rw [if_pos c46, if_pos c61, if_neg c75, if_neg c95]
          exact hq_vret C hret hlk (Nat.le_of_ble_eq_true rfl) (Nat.le_of_ble_eq_true rfl) hL ⟨rfl, by rw [hf]; exact m92, hq_Scall (hq_Sput (hq_Sput (hq_S0) u44 (by omega) (by omega)) u90 (by omega) (by omega)) S93 (by omega) (by omega)⟩ d_M_err_76
        · intro c95
          refine lv_aload_n C.1 C.2.1 d_M_err_65 rfl (lv_at hl 0 rfl) ?_
          refine lv_iload_n C.1 C.2.1 d_M_err_66 rfl (lv_at hl 1 rfl) ?_
          refine lv_iload_n C.1 C.2.1 d_M_err_67 rfl (lv_at hl 3 rfl) ?_
          refine lv_aload_n C.1 C.2.1 d_M_err_68 rfl (lv_at hl 0 rfl) ?_
          refine lv_iload_n C.1 C.2.1 d_M_err_69 rfl (lv_at hl 1 rfl) ?_
          refine hq_callV (lo := lo) (As := [.int (nI j)]) (rest := [.int (y), .int (nI j), .ref (b)]) C tb_good hml Y_M_123 (c_M_isPassive l D cI cZ cN cJ lo b th nn (f_M_goesOff (setA (setA A 0 (upd (A 0) x.toNatClampNeg ((A 0 x.toNatClampNeg) + 1))) 4 (upd (A 4) j ((A 4 j) + 0))) j).1 j hj) k0 rfl (fun _ _ _ _ h => h) (fun U hU hW => by show hq_B D vwCl b 31 (mdC cI cZ b th nn (f_M_goesOff (setA (setA A 0 (upd (A 0) x.toNatClampNeg ((A 0 x.toNatClampNeg) + 1))) 4 (upd (A 4) j ((A 4 j) + 0))) j).1) U.heap; rw [hU]; exact m92) hL hl.1 rfl rfl ⟨⟨Nat.le_of_ble_eq_true rfl, Nat.le_of_ble_eq_true rfl⟩, Nat.le_of_ble_eq_true rfl, Nat.le_of_ble_eq_true rfl⟩ (Nat.le_of_ble_eq_true rfl) d_M_err_70 (fun v H96 locs hp hL => ?_)
          obtain ⟨rfl, rfl⟩ := hp
          refine W.eq (g2 := F0 m 73 ls [.int ((f_M_isPassive (f_M_goesOff (setA (setA A 0 (upd (A 0) x.toNatClampNeg ((A 0 x.toNatClampNeg) + 1))) 4 (upd (A 4) j ((A 4 j) + 0))) j).1 j)), .int (y), .int (nI j), .ref (b)]) rfl ?_
          refine hq_callV (lo := lo) (As := [.int (nI j), .int (y), .int ((f_M_isPassive (f_M_goesOff (setA (setA A 0 (upd (A 0) x.toNatClampNeg ((A 0 x.toNatClampNeg) + 1))) 4 (upd (A 4) j ((A 4 j) + 0))) j).1 j))]) (rest := []) C tb_good hml Y_M_129 (c_M_flag l D cI cZ cN cJ lo b hlo th nn (f_M_goesOff (setA (setA A 0 (upd (A 0) x.toNatClampNeg ((A 0 x.toNatClampNeg) + 1))) 4 (upd (A 4) j ((A 4 j) + 0))) j).1 j hj y ((f_M_isPassive (f_M_goesOff (setA (setA A 0 (upd (A 0) x.toNatClampNeg ((A 0 x.toNatClampNeg) + 1))) 4 (upd (A 4) j ((A 4 j) + 0))) j).1 j))) k0 rfl (fun _ _ _ _ h => h) (fun U hU hW => by show hq_B D vwCl b 31 (mdC cI cZ b th nn (f_M_goesOff (setA (setA A 0 (upd (A 0) x.toNatClampNeg ((A 0 x.toNatClampNeg) + 1))) 4 (upd (A 4) j ((A 4 j) + 0))) j).1) U.heap; rw [hU]; exact m92) hL hl.1 rfl rfl ⟨⟨Nat.le_of_ble_eq_true rfl, Nat.le_of_ble_eq_true rfl⟩, Nat.le_of_ble_eq_true rfl, Nat.le_of_ble_eq_true rfl⟩ (Nat.le_of_ble_eq_true rfl) d_M_err_73 (fun v H99 locs hp hL => ?_)
          obtain ⟨rfl, m97, S98⟩ := hp
          refine W.eq (g2 := F0 m 76 ls []) rfl ?_
          have k0 : va_at D vwCl (b, .inr (6, [.int (th), .int (nn), .ref (b + 1), .ref (b + 2), .ref (b + 3), .ref (b + 4), .ref (b + 5), .ref (b + 6), .ref (b + 7), .ref (b + 8), .ref (b + 9), .ref (b + 10), .ref (b + 11), .ref (b + 12), .ref (b + 13), .ref (b + 14), .ref (b + 15), .ref (b + 16), .ref (b + 17), .ref (b + 18), .ref (b + 19), .ref (b + 20), .ref (b + 21), .ref (b + 22), .ref (b + 23), .ref (b + 24), .ref (b + 25), .ref (b + 26), .ref (b + 27), .ref (b + 28), .ref (b + 29), .ref (b + 30)])) H99 := m97 0 (by decide)
          have hf : f_M_err A j x y = (f_M_flag (f_M_goesOff (setA (setA A 0 (upd (A 0) x.toNatClampNeg ((A 0 x.toNatClampNeg) + 1))) 4 (upd (A 4) j ((A 4 j) + 0))) j).1 j y ((f_M_isPassive (f_M_goesOff (setA (setA A 0 (upd (A 0) x.toNatClampNeg ((A 0 x.toNatClampNeg) + 1))) 4 (upd (A 4) j ((A 4 j) + 0))) j).1 j))) := by unfold f_M_err; rw [if_pos c46, if_pos c61, if_neg c75, if_pos c95]
          exact hq_vret C hret hlk (Nat.le_of_ble_eq_true rfl) (Nat.le_of_ble_eq_true rfl) hL ⟨rfl, by rw [hf]; exact m97, hq_Scall (hq_Scall (hq_Sput (hq_Sput (hq_S0) u44 (by omega) (by omega)) u90 (by omega) (by omega)) S93 (by omega) (by omega)) S98 (by omega) (by omega)⟩ d_M_err_76
set_option maxHeartbeats 4000000 in
set_option maxRecDepth 100000 in
theorem ok_M_err (A : Nat → Nat → Int32) (j : Nat) (hj : j < 4) (x y : Int32) (hx : vp_in x 8) (ok : okA A) : okA (f_M_err A j x y) := by
  unfold f_M_err
  by_cases c46 : y = 1
  · rw [if_pos c46]
    by_cases c61 : x = 6
    · rw [if_pos c61]
      by_cases c75 : ((f_M_isPassive (setA A 0 (upd (A 0) x.toNatClampNeg ((A 0 x.toNatClampNeg) + 1))) j)) = 0
      · rw [if_pos c75]
        by_cases c83 : ((f_M_goesOff (setA (setA A 0 (upd (A 0) x.toNatClampNeg ((A 0 x.toNatClampNeg) + 1))) 4 (upd (A 4) j ((A 4 j) + 8))) j).2) = 0
        · rw [if_pos c83]
          exact (ok_M_flag (f_M_goesOff (setA (setA A 0 (upd (A 0) x.toNatClampNeg ((A 0 x.toNatClampNeg) + 1))) 4 (upd (A 4) j ((A 4 j) + 8))) j).1 j hj y ((f_M_isPassive (f_M_goesOff (setA (setA A 0 (upd (A 0) x.toNatClampNeg ((A 0 x.toNatClampNeg) + 1))) 4 (upd (A 4) j ((A 4 j) + 8))) j).1 j)) (ok_M_goesOff (setA (setA A 0 (upd (A 0) x.toNatClampNeg ((A 0 x.toNatClampNeg) + 1))) 4 (upd (A 4) j ((A 4 j) + 8))) j hj (okA_o (by decide) (okA_o (by decide) ok))))
        · rw [if_neg c83]
          exact (ok_M_goesOff (setA (setA A 0 (upd (A 0) x.toNatClampNeg ((A 0 x.toNatClampNeg) + 1))) 4 (upd (A 4) j ((A 4 j) + 8))) j hj (okA_o (by decide) (okA_o (by decide) ok)))
      · rw [if_neg c75]
        by_cases c95 : ((f_M_goesOff (setA (setA A 0 (upd (A 0) x.toNatClampNeg ((A 0 x.toNatClampNeg) + 1))) 4 (upd (A 4) j ((A 4 j) + 0))) j).2) = 0
        · rw [if_pos c95]
          exact (ok_M_flag (f_M_goesOff (setA (setA A 0 (upd (A 0) x.toNatClampNeg ((A 0 x.toNatClampNeg) + 1))) 4 (upd (A 4) j ((A 4 j) + 0))) j).1 j hj y ((f_M_isPassive (f_M_goesOff (setA (setA A 0 (upd (A 0) x.toNatClampNeg ((A 0 x.toNatClampNeg) + 1))) 4 (upd (A 4) j ((A 4 j) + 0))) j).1 j)) (ok_M_goesOff (setA (setA A 0 (upd (A 0) x.toNatClampNeg ((A 0 x.toNatClampNeg) + 1))) 4 (upd (A 4) j ((A 4 j) + 0))) j hj (okA_o (by decide) (okA_o (by decide) ok))))
        · rw [if_neg c95]
          exact (ok_M_goesOff (setA (setA A 0 (upd (A 0) x.toNatClampNeg ((A 0 x.toNatClampNeg) + 1))) 4 (upd (A 4) j ((A 4 j) + 0))) j hj (okA_o (by decide) (okA_o (by decide) ok)))
    · rw [if_neg c61]
      by_cases c69 : ((f_M_goesOff (setA (setA A 0 (upd (A 0) x.toNatClampNeg ((A 0 x.toNatClampNeg) + 1))) 4 (upd (A 4) j ((A 4 j) + 8))) j).2) = 0
      · rw [if_pos c69]
        exact (ok_M_flag (f_M_goesOff (setA (setA A 0 (upd (A 0) x.toNatClampNeg ((A 0 x.toNatClampNeg) + 1))) 4 (upd (A 4) j ((A 4 j) + 8))) j).1 j hj y ((f_M_isPassive (f_M_goesOff (setA (setA A 0 (upd (A 0) x.toNatClampNeg ((A 0 x.toNatClampNeg) + 1))) 4 (upd (A 4) j ((A 4 j) + 8))) j).1 j)) (ok_M_goesOff (setA (setA A 0 (upd (A 0) x.toNatClampNeg ((A 0 x.toNatClampNeg) + 1))) 4 (upd (A 4) j ((A 4 j) + 8))) j hj (okA_o (by decide) (okA_o (by decide) ok))))
      · rw [if_neg c69]
        exact (ok_M_goesOff (setA (setA A 0 (upd (A 0) x.toNatClampNeg ((A 0 x.toNatClampNeg) + 1))) 4 (upd (A 4) j ((A 4 j) + 8))) j hj (okA_o (by decide) (okA_o (by decide) ok)))
  · rw [if_neg c46]
    by_cases c55 : ((f_M_goesOff (setA (setA A 0 (upd (A 0) x.toNatClampNeg ((A 0 x.toNatClampNeg) + 1))) 5 (upd (A 5) j ((A 5 j) + 1))) j).2) = 0
    · rw [if_pos c55]
      exact (ok_M_flag (f_M_goesOff (setA (setA A 0 (upd (A 0) x.toNatClampNeg ((A 0 x.toNatClampNeg) + 1))) 5 (upd (A 5) j ((A 5 j) + 1))) j).1 j hj y ((f_M_isPassive (f_M_goesOff (setA (setA A 0 (upd (A 0) x.toNatClampNeg ((A 0 x.toNatClampNeg) + 1))) 5 (upd (A 5) j ((A 5 j) + 1))) j).1 j)) (ok_M_goesOff (setA (setA A 0 (upd (A 0) x.toNatClampNeg ((A 0 x.toNatClampNeg) + 1))) 5 (upd (A 5) j ((A 5 j) + 1))) j hj (okA_o (by decide) (okA_o (by decide) ok))))
    · rw [if_neg c55]
      exact (ok_M_goesOff (setA (setA A 0 (upd (A 0) x.toNatClampNeg ((A 0 x.toNatClampNeg) + 1))) 5 (upd (A 5) j ((A 5 j) + 1))) j hj (okA_o (by decide) (okA_o (by decide) ok)))
def f_M_readCore_332 (A : Nat → Nat → Int32) (j : Nat) : (Nat → Nat → Int32) × Int32 := if (A 17 j) = ((f_M_coreLength A j)) then (if 5 ≤ (A 18 j) then (((setA A 16 (upd (A 16) j 0)), 0)) else (((setA A 16 (upd (A 16) j 1)), 0))) else (((setA A 16 (upd (A 16) j 0)), 0))
def f_M_readCore_314 (A : Nat → Nat → Int32) (j : Nat) (v3 : Int32) : (Nat → Nat → Int32) × Int32 := if v3 = 18 then (if (A 22 j) ≤ 2 then (f_M_readCore_332 A j) else ((A, 4))) else (f_M_readCore_332 A j)
def f_M_readCore_287 (A : Nat → Nat → Int32) (j : Nat) (v2 v3 : Int32) : (Nat → Nat → Int32) × Int32 := if v3 ≤ 11 then (f_M_readCore_314 (setA A 17 (upd (A 17) j ((A 17 j) + 1))) j v3) else (if 15 ≤ v3 then (f_M_readCore_314 (setA A 17 (upd (A 17) j ((A 17 j) + 1))) j v3) else (if v2 = 1 then (((setA A 17 (upd (A 17) j ((A 17 j) + 1))), 4)) else (f_M_readCore_314 (setA A 17 (upd (A 17) j ((A 17 j) + 1))) j v3)))
def f_M_readCore_167 (A : Nat → Nat → Int32) (j : Nat) (v2 v3 : Int32) : (Nat → Nat → Int32) × Int32 := if v3 ≤ 0 then (if v3 ≤ 14 then (if v3 ≤ 18 then (f_M_readCore_287 A j v2 v3) else (if (19 + (8 * (A 22 j))) ≤ v3 then (f_M_readCore_287 A j v2 v3) else (f_M_readCore_287 (setA A 23 (upd (A 23) j ((A 23 j) ||| (v2 <<< ((((8 * ((v3 - 19) / 8)) + 7) - ((v3 - 19) - (v3 - 19) / 8 * 8)) &&& 31))))) j v2 v3))) else (if 19 ≤ v3 then (if v3 ≤ 18 then (f_M_readCore_287 A j v2 v3) else (if (19 + (8 * (A 22 j))) ≤ v3 then (f_M_readCore_287 A j v2 v3) else (f_M_readCore_287 (setA A 23 (upd (A 23) j ((A 23 j) ||| (v2 <<< ((((8 * ((v3 - 19) / 8)) + 7) - ((v3 - 19) - (v3 - 19) / 8 * 8)) &&& 31))))) j v2 v3))) else (f_M_readCore_287 (setA A 22 (upd (A 22) j ((2 * (A 22 j)) + v2))) j v2 v3))) else (if 12 ≤ v3 then (if v3 ≤ 14 then (if v3 ≤ 18 then (f_M_readCore_287 A j v2 v3) else (if (19 + (8 * (A 22 j))) ≤ v3 then (f_M_readCore_287 A j v2 v3) else (f_M_readCore_287 (setA A 23 (upd (A 23) j ((A 23 j) ||| (v2 <<< ((((8 * ((v3 - 19) / 8)) + 7) - ((v3 - 19) - (v3 - 19) / 8 * 8)) &&& 31))))) j v2 v3))) else (if 19 ≤ v3 then (if v3 ≤ 18 then (f_M_readCore_287 A j v2 v3) else (if (19 + (8 * (A 22 j))) ≤ v3 then (f_M_readCore_287 A j v2 v3) else (f_M_readCore_287 (setA A 23 (upd (A 23) j ((A 23 j) ||| (v2 <<< ((((8 * ((v3 - 19) / 8)) + 7) - ((v3 - 19) - (v3 - 19) / 8 * 8)) &&& 31))))) j v2 v3))) else (f_M_readCore_287 (setA A 22 (upd (A 22) j ((2 * (A 22 j)) + v2))) j v2 v3))) else (f_M_readCore_287 (setA A 21 (upd (A 21) j ((2 * (A 21 j)) + v2))) j v2 v3))
def f_M_readCore_114 (A : Nat → Nat → Int32) (j : Nat) (v2 v3 : Int32) : (Nat → Nat → Int32) × Int32 := if v2 = (((A 20 j) >>> (14 &&& 31)) &&& 1) then (f_M_readCore_167 (setA (setA A 19 (upd (A 19) j v2)) 20 (upd (A 20) j (((A 20 j) <<< (1 &&& 31)) &&& 32767))) j v2 v3) else (f_M_readCore_167 (setA (setA A 19 (upd (A 19) j v2)) 20 (upd (A 20) j ((((A 20 j) <<< (1 &&& 31)) &&& 32767) ^^^ 17817))) j v2 v3)
def f_M_readCore (A : Nat → Nat → Int32) (j : Nat) (x : Int32) : (Nat → Nat → Int32) × Int32 := if (A 18 j) = 5 then (if x = (A 19 j) then (if (A 17 j) = ((f_M_coreLength (setA (setA A 19 (upd (A 19) j x)) 18 (upd (A 18) j 1)) j)) then (((setA (setA (setA A 19 (upd (A 19) j x)) 18 (upd (A 18) j 1)) 16 (upd (A 16) j 1)), 3)) else (((setA (setA (setA A 19 (upd (A 19) j x)) 18 (upd (A 18) j 1)) 16 (upd (A 16) j 0)), 3))) else (if (A 17 j) = ((f_M_coreLength (setA (setA A 19 (upd (A 19) j x)) 18 (upd (A 18) j 1)) j)) then (((setA (setA (setA A 19 (upd (A 19) j x)) 18 (upd (A 18) j 1)) 16 (upd (A 16) j 1)), 0)) else (((setA (setA (setA A 19 (upd (A 19) j x)) 18 (upd (A 18) j 1)) 16 (upd (A 16) j 0)), 0)))) else (if (A 17 j) ≤ 0 then (f_M_readCore_114 (setA A 18 (upd (A 18) j 1)) j x (A 17 j)) else (if x = (A 19 j) then (f_M_readCore_114 (setA A 18 (upd (A 18) j ((A 18 j) + 1))) j x (A 17 j)) else (f_M_readCore_114 (setA A 18 (upd (A 18) j 1)) j x (A 17 j))))
set_option maxHeartbeats 4000000 in
set_option maxRecDepth 100000 in
theorem s_M_readCore_332 {p : Program} {l : Launch} {e : Env} {s : State} {m : MethodId} {args : Array Value} {below : List Frame} {meth : Method} {c : Code} {H : Heap} {locs : List Loc} {ls : Array Slot} (D : va_G) (cI cZ cN cJ : ClassId) (lo b : Nat) (hlo : lo ≤ b) (th nn : Int32) (A : Nat → Nat → Int32) (j : Nat) (hj : j < 4) {R9 : (Nat → Nat → Int32) × Int32} (hR : f_M_readCore_332 A j = R9) (C : hq_C p c s m args R_M b_M_readCore TB D vwCl (TY cI cZ cN cJ)) (hml : c.maxLocals = 6) (hret : meth.sig.returnType = (some .int)) (hlk : meth.locks = false) (hL : hq_L lo locs) (hM : hq_B D vwCl b 31 (mdC cI cZ b th nn A) H) (hS : hq_S b 31 s.heap H) (hl : lv_has ls 6 [(0, .ref (b)), (1, .int (nI j))]) : W p l e { frames := 1, cells := 0, slots := 0, locals := 21 } s m args below meth c H locs 0 0 (MQ below (hq_Q (fun H v H' => v = some (.int (R9).2) ∧ hq_B D vwCl b 31 (mdC cI cZ b th nn (R9).1) H' ∧ hq_S b 31 H H')) args s 0 0 (fun q => lo ≤ q)) (F0 m 332 ls []) := by
  have k0 : va_at D vwCl (b, .inr (6, [.int (th), .int (nn), .ref (b + 1), .ref (b + 2), .ref (b + 3), .ref (b + 4), .ref (b + 5), .ref (b + 6), .ref (b + 7), .ref (b + 8), .ref (b + 9), .ref (b + 10), .ref (b + 11), .ref (b + 12), .ref (b + 13), .ref (b + 14), .ref (b + 15), .ref (b + 16), .ref (b + 17), .ref (b + 18), .ref (b + 19), .ref (b + 20), .ref (b + 21), .ref (b + 22), .ref (b + 23), .ref (b + 24), .ref (b + 25), .ref (b + 26), .ref (b + 27), .ref (b + 28), .ref (b + 29), .ref (b + 30)])) H := hM 0 (by decide)
  refine lv_aload_n C.1 C.2.1 d_M_readCore_332 rfl (lv_at hl 0 rfl) ?_
  refine hq_get (v := .ref (b + 17)) C f_M_59 k0 rfl d_M_readCore_333 ?_
  refine lv_iload_n C.1 C.2.1 d_M_readCore_336 rfl (lv_at hl 1 rfl) ?_
  refine lv_aload_n C.1 C.2.1 d_M_readCore_337 rfl (lv_at hl 0 rfl) ?_
  refine hq_get (v := .ref (b + 18)) C f_M_62 k0 rfl d_M_readCore_338 ?_
  refine lv_iload_n C.1 C.2.1 d_M_readCore_341 rfl (lv_at hl 1 rfl) ?_
  have e61 : va_at D vwCl (b + 18, .inl (cI, 4, .inl (A 17))) _ := hM 18 (by decide)
  refine hq_iald C 0 rfl e61 (vp_in_nI hj (by decide)) d_M_readCore_342 ?_
  rw [nI_clamp (show j < 2 ^ 31 by omega)]
  refine W.eq (g2 := F0 m 343 ls [.int (A 17 j), .int (nI j), .ref (b + 17)]) rfl ?_
  refine lv_aload_n C.1 C.2.1 d_M_readCore_343 rfl (lv_at hl 0 rfl) ?_
  refine lv_iload_n C.1 C.2.1 d_M_readCore_344 rfl (lv_at hl 1 rfl) ?_
  refine hq_callV (lo := lo) (As := [.int (nI j)]) (rest := [.int (A 17 j), .int (nI j), .ref (b + 17)]) C tb_good hml Y_M_120 (c_M_coreLength l D cI cZ cN cJ lo b th nn A j hj) k0 rfl (fun _ _ _ _ h => h) (fun U hU hW => by show hq_B D vwCl b 31 (mdC cI cZ b th nn A) U.heap; rw [hU]; exact hM) hL hl.1 rfl rfl ⟨⟨Nat.le_of_ble_eq_true rfl, Nat.le_of_ble_eq_true rfl⟩, Nat.le_of_ble_eq_true rfl, Nat.le_of_ble_eq_true rfl⟩ (Nat.le_of_ble_eq_true rfl) d_M_readCore_345 (fun v H62 locs hp hL => ?_)
  obtain ⟨rfl, rfl⟩ := hp
  refine W.eq (g2 := F0 m 348 ls [.int ((f_M_coreLength A j)), .int (A 17 j), .int (nI j), .ref (b + 17)]) rfl ?_
  refine lv_icmp_ne (tgt := 365) C.1 C.2.1 d_M_readCore_348 (by decide) ?_ ?_
  · intro c63
    refine lv_iconst (v := 0) C.1 C.2.1 d_M_readCore_365 (by decide) ?_
    have e64 : va_at D vwCl (b + 17, .inl (cI, 4, .inl (A 16))) _ := hM 17 (by decide)
    refine hq_iast (lo := lo) C 0 rfl e64 (vp_in_nI hj (by decide)) hL (by omega) d_M_readCore_366 (fun H65 locs u66 hL => ?_)
    rw [nI_clamp (show j < 2 ^ 31 by omega)] at u66
    have m67 := md_set (k := 16) (f := upd (A 16) j 0) hM u66
    have k0 : va_at D vwCl (b, .inr (6, [.int (th), .int (nn), .ref (b + 1), .ref (b + 2), .ref (b + 3), .ref (b + 4), .ref (b + 5), .ref (b + 6), .ref (b + 7), .ref (b + 8), .ref (b + 9), .ref (b + 10), .ref (b + 11), .ref (b + 12), .ref (b + 13), .ref (b + 14), .ref (b + 15), .ref (b + 16), .ref (b + 17), .ref (b + 18), .ref (b + 19), .ref (b + 20), .ref (b + 21), .ref (b + 22), .ref (b + 23), .ref (b + 24), .ref (b + 25), .ref (b + 26), .ref (b + 27), .ref (b + 28), .ref (b + 29), .ref (b + 30)])) H65 := m67 0 (by decide)
    refine lv_iconst (v := 0) C.1 C.2.1 d_M_readCore_367 (by decide) ?_
    have hf : R9 = ((setA A 16 (upd (A 16) j 0)), 0) := by rw [← hR]; unfold f_M_readCore_332; rw [if_neg c63]
    exact hq_iret C hret hlk (Nat.le_of_ble_eq_true rfl) (Nat.le_of_ble_eq_true rfl) hL ⟨by rw [hf], by rw [hf]; exact m67, hq_Sput (hS) u66 (by omega) (by omega)⟩ d_M_readCore_368
  · intro c63
    refine lv_aload_n C.1 C.2.1 d_M_readCore_351 rfl (lv_at hl 0 rfl) ?_
    refine hq_get (v := .ref (b + 19)) C f_M_65 k0 rfl d_M_readCore_352 ?_
    refine lv_iload_n C.1 C.2.1 d_M_readCore_355 rfl (lv_at hl 1 rfl) ?_
    have e68 : va_at D vwCl (b + 19, .inl (cI, 4, .inl (A 18))) _ := hM 19 (by decide)
    refine hq_iald C 0 rfl e68 (vp_in_nI hj (by decide)) d_M_readCore_356 ?_
    rw [nI_clamp (show j < 2 ^ 31 by omega)]
    refine W.eq (g2 := F0 m 357 ls [.int (A 18 j), .int (nI j), .ref (b + 17)]) rfl ?_
    refine lv_iconst (v := 5) C.1 C.2.1 d_M_readCore_357 (by decide) ?_
    refine lv_icmp_ge (tgt := 365) C.1 C.2.1 d_M_readCore_358 (by decide) ?_ ?_
    · intro c69
      refine lv_iconst (v := 0) C.1 C.2.1 d_M_readCore_365 (by decide) ?_
      have e70 : va_at D vwCl (b + 17, .inl (cI, 4, .inl (A 16))) _ := hM 17 (by decide)
      refine hq_iast (lo := lo) C 0 rfl e70 (vp_in_nI hj (by decide)) hL (by omega) d_M_readCore_366 (fun H71 locs u72 hL => ?_)
      rw [nI_clamp (show j < 2 ^ 31 by omega)] at u72
      have m73 := md_set (k := 16) (f := upd (A 16) j 0) hM u72
      have k0 : va_at D vwCl (b, .inr (6, [.int (th), .int (nn), .ref (b + 1), .ref (b + 2), .ref (b + 3), .ref (b + 4), .ref (b + 5), .ref (b + 6), .ref (b + 7), .ref (b + 8), .ref (b + 9), .ref (b + 10), .ref (b + 11), .ref (b + 12), .ref (b + 13), .ref (b + 14), .ref (b + 15), .ref (b + 16), .ref (b + 17), .ref (b + 18), .ref (b + 19), .ref (b + 20), .ref (b + 21), .ref (b + 22), .ref (b + 23), .ref (b + 24), .ref (b + 25), .ref (b + 26), .ref (b + 27), .ref (b + 28), .ref (b + 29), .ref (b + 30)])) H71 := m73 0 (by decide)
      refine lv_iconst (v := 0) C.1 C.2.1 d_M_readCore_367 (by decide) ?_
      have hf : R9 = ((setA A 16 (upd (A 16) j 0)), 0) := by rw [← hR]; unfold f_M_readCore_332; rw [if_pos c63, if_pos c69]
      exact hq_iret C hret hlk (Nat.le_of_ble_eq_true rfl) (Nat.le_of_ble_eq_true rfl) hL ⟨by rw [hf], by rw [hf]; exact m73, hq_Sput (hS) u72 (by omega) (by omega)⟩ d_M_readCore_368
    · intro c69
      refine lv_iconst (v := 1) C.1 C.2.1 d_M_readCore_361 (by decide) ?_
      refine lv_goto (tgt := 366) C.1 C.2.1 d_M_readCore_362 (by decide) ?_
      have e74 : va_at D vwCl (b + 17, .inl (cI, 4, .inl (A 16))) _ := hM 17 (by decide)
      refine hq_iast (lo := lo) C 0 rfl e74 (vp_in_nI hj (by decide)) hL (by omega) d_M_readCore_366 (fun H75 locs u76 hL => ?_)
      rw [nI_clamp (show j < 2 ^ 31 by omega)] at u76
      have m77 := md_set (k := 16) (f := upd (A 16) j 1) hM u76
      have k0 : va_at D vwCl (b, .inr (6, [.int (th), .int (nn), .ref (b + 1), .ref (b + 2), .ref (b + 3), .ref (b + 4), .ref (b + 5), .ref (b + 6), .ref (b + 7), .ref (b + 8), .ref (b + 9), .ref (b + 10), .ref (b + 11), .ref (b + 12), .ref (b + 13), .ref (b + 14), .ref (b + 15), .ref (b + 16), .ref (b + 17), .ref (b + 18), .ref (b + 19), .ref (b + 20), .ref (b + 21), .ref (b + 22), .ref (b + 23), .ref (b + 24), .ref (b + 25), .ref (b + 26), .ref (b + 27), .ref (b + 28), .ref (b + 29), .ref (b + 30)])) H75 := m77 0 (by decide)
      refine lv_iconst (v := 0) C.1 C.2.1 d_M_readCore_367 (by decide) ?_
      have hf : R9 = ((setA A 16 (upd (A 16) j 1)), 0) := by rw [← hR]; unfold f_M_readCore_332; rw [if_pos c63, if_neg c69]
      exact hq_iret C hret hlk (Nat.le_of_ble_eq_true rfl) (Nat.le_of_ble_eq_true rfl) hL ⟨by rw [hf], by rw [hf]; exact m77, hq_Sput (hS) u76 (by omega) (by omega)⟩ d_M_readCore_368
set_option maxHeartbeats 4000000 in
set_option maxRecDepth 100000 in
theorem s_M_readCore_314 {p : Program} {l : Launch} {e : Env} {s : State} {m : MethodId} {args : Array Value} {below : List Frame} {meth : Method} {c : Code} {H : Heap} {locs : List Loc} {ls : Array Slot} (D : va_G) (cI cZ cN cJ : ClassId) (lo b : Nat) (hlo : lo ≤ b) (th nn : Int32) (A : Nat → Nat → Int32) (j : Nat) (hj : j < 4) (v3 : Int32) {R9 : (Nat → Nat → Int32) × Int32} (hR : f_M_readCore_314 A j v3 = R9) (C : hq_C p c s m args R_M b_M_readCore TB D vwCl (TY cI cZ cN cJ)) (hml : c.maxLocals = 6) (hret : meth.sig.returnType = (some .int)) (hlk : meth.locks = false) (hL : hq_L lo locs) (hM : hq_B D vwCl b 31 (mdC cI cZ b th nn A) H) (hS : hq_S b 31 s.heap H) (hl : lv_has ls 6 [(0, .ref (b)), (1, .int (nI j)), (3, .int (v3))]) : W p l e { frames := 1, cells := 0, slots := 0, locals := 21 } s m args below meth c H locs 0 0 (MQ below (hq_Q (fun H v H' => v = some (.int (R9).2) ∧ hq_B D vwCl b 31 (mdC cI cZ b th nn (R9).1) H' ∧ hq_S b 31 H H')) args s 0 0 (fun q => lo ≤ q)) (F0 m 314 ls []) := by
  have k0 : va_at D vwCl (b, .inr (6, [.int (th), .int (nn), .ref (b + 1), .ref (b + 2), .ref (b + 3), .ref (b + 4), .ref (b + 5), .ref (b + 6), .ref (b + 7), .ref (b + 8), .ref (b + 9), .ref (b + 10), .ref (b + 11), .ref (b + 12), .ref (b + 13), .ref (b + 14), .ref (b + 15), .ref (b + 16), .ref (b + 17), .ref (b + 18), .ref (b + 19), .ref (b + 20), .ref (b + 21), .ref (b + 22), .ref (b + 23), .ref (b + 24), .ref (b + 25), .ref (b + 26), .ref (b + 27), .ref (b + 28), .ref (b + 29), .ref (b + 30)])) H := hM 0 (by decide)
  refine lv_iload_n C.1 C.2.1 d_M_readCore_314 rfl (lv_at hl 2 rfl) ?_
  refine lv_bipush (v := 18) C.1 C.2.1 d_M_readCore_315 (by decide) ?_
  refine lv_icmp_ne (tgt := 332) C.1 C.2.1 d_M_readCore_317 (by decide) ?_ ?_
  · intro c61
    exact s_M_readCore_332 D cI cZ cN cJ lo b hlo th nn A j hj (((show f_M_readCore_314 A j v3 = f_M_readCore_332 A j from by unfold f_M_readCore_314; rw [if_neg c61]).symm).trans hR) C hml hret hlk hL hM (hS) (lv_push (lv_push (lv_nil hl) (lv_at hl 1 rfl)) (lv_at hl 0 rfl))
  · intro c61
    refine lv_aload_n C.1 C.2.1 d_M_readCore_320 rfl (lv_at hl 0 rfl) ?_
    refine hq_get (v := .ref (b + 23)) C f_M_77 k0 rfl d_M_readCore_321 ?_
    refine lv_iload_n C.1 C.2.1 d_M_readCore_324 rfl (lv_at hl 1 rfl) ?_
    have e62 : va_at D vwCl (b + 23, .inl (cI, 4, .inl (A 22))) _ := hM 23 (by decide)
    refine hq_iald C 0 rfl e62 (vp_in_nI hj (by decide)) d_M_readCore_325 ?_
    rw [nI_clamp (show j < 2 ^ 31 by omega)]
    refine W.eq (g2 := F0 m 326 ls [.int (A 22 j)]) rfl ?_
    refine lv_iconst (v := 2) C.1 C.2.1 d_M_readCore_326 (by decide) ?_
    refine lv_icmp_le (tgt := 332) C.1 C.2.1 d_M_readCore_327 (by decide) ?_ ?_
    · intro c63
      exact s_M_readCore_332 D cI cZ cN cJ lo b hlo th nn A j hj (((show f_M_readCore_314 A j v3 = f_M_readCore_332 A j from by unfold f_M_readCore_314; rw [if_pos c61, if_pos c63]).symm).trans hR) C hml hret hlk hL hM (hS) (lv_push (lv_push (lv_nil hl) (lv_at hl 1 rfl)) (lv_at hl 0 rfl))
    · intro c63
      refine lv_iconst (v := 4) C.1 C.2.1 d_M_readCore_330 (by decide) ?_
      have hf : R9 = (A, 4) := by rw [← hR]; unfold f_M_readCore_314; rw [if_pos c61, if_neg c63]
      exact hq_iret C hret hlk (Nat.le_of_ble_eq_true rfl) (Nat.le_of_ble_eq_true rfl) hL ⟨by rw [hf], by rw [hf]; exact hM, hS⟩ d_M_readCore_331
set_option maxHeartbeats 4000000 in
set_option maxRecDepth 100000 in
theorem s_M_readCore_287 {p : Program} {l : Launch} {e : Env} {s : State} {m : MethodId} {args : Array Value} {below : List Frame} {meth : Method} {c : Code} {H : Heap} {locs : List Loc} {ls : Array Slot} (D : va_G) (cI cZ cN cJ : ClassId) (lo b : Nat) (hlo : lo ≤ b) (th nn : Int32) (A : Nat → Nat → Int32) (j : Nat) (hj : j < 4) (v2 v3 : Int32) {R9 : (Nat → Nat → Int32) × Int32} (hR : f_M_readCore_287 A j v2 v3 = R9) (C : hq_C p c s m args R_M b_M_readCore TB D vwCl (TY cI cZ cN cJ)) (hml : c.maxLocals = 6) (hret : meth.sig.returnType = (some .int)) (hlk : meth.locks = false) (hL : hq_L lo locs) (hM : hq_B D vwCl b 31 (mdC cI cZ b th nn A) H) (hS : hq_S b 31 s.heap H) (hl : lv_has ls 6 [(0, .ref (b)), (1, .int (nI j)), (2, .int (v2)), (3, .int (v3))]) : W p l e { frames := 1, cells := 0, slots := 0, locals := 21 } s m args below meth c H locs 0 0 (MQ below (hq_Q (fun H v H' => v = some (.int (R9).2) ∧ hq_B D vwCl b 31 (mdC cI cZ b th nn (R9).1) H' ∧ hq_S b 31 H H')) args s 0 0 (fun q => lo ≤ q)) (F0 m 287 ls []) := by
  have k0 : va_at D vwCl (b, .inr (6, [.int (th), .int (nn), .ref (b + 1), .ref (b + 2), .ref (b + 3), .ref (b + 4), .ref (b + 5), .ref (b + 6), .ref (b + 7), .ref (b + 8), .ref (b + 9), .ref (b + 10), .ref (b + 11), .ref (b + 12), .ref (b + 13), .ref (b + 14), .ref (b + 15), .ref (b + 16), .ref (b + 17), .ref (b + 18), .ref (b + 19), .ref (b + 20), .ref (b + 21), .ref (b + 22), .ref (b + 23), .ref (b + 24), .ref (b + 25), .ref (b + 26), .ref (b + 27), .ref (b + 28), .ref (b + 29), .ref (b + 30)])) H := hM 0 (by decide)
  refine lv_aload_n C.1 C.2.1 d_M_readCore_287 rfl (lv_at hl 0 rfl) ?_
  refine hq_get (v := .ref (b + 18)) C f_M_62 k0 rfl d_M_readCore_288 ?_
  refine lv_iload_n C.1 C.2.1 d_M_readCore_291 rfl (lv_at hl 1 rfl) ?_
  refine lv_dup2_11 C.1 C.2.1 d_M_readCore_292 rfl rfl ?_
  have e61 : va_at D vwCl (b + 18, .inl (cI, 4, .inl (A 17))) _ := hM 18 (by decide)
  refine hq_iald C 0 rfl e61 (vp_in_nI hj (by decide)) d_M_readCore_293 ?_
  rw [nI_clamp (show j < 2 ^ 31 by omega)]
  refine W.eq (g2 := F0 m 294 ls [.int (A 17 j), .int (nI j), .ref (b + 18)]) rfl ?_
  refine lv_iconst (v := 1) C.1 C.2.1 d_M_readCore_294 (by decide) ?_
  refine lv_iadd C.1 C.2.1 d_M_readCore_295 ?_
  have e62 : va_at D vwCl (b + 18, .inl (cI, 4, .inl (A 17))) _ := hM 18 (by decide)
  refine hq_iast (lo := lo) C 0 rfl e62 (vp_in_nI hj (by decide)) hL (by omega) d_M_readCore_296 (fun H63 locs u64 hL => ?_)
  rw [nI_clamp (show j < 2 ^ 31 by omega)] at u64
  have m65 := md_set (k := 17) (f := upd (A 17) j ((A 17 j) + 1)) hM u64
  have k0 : va_at D vwCl (b, .inr (6, [.int (th), .int (nn), .ref (b + 1), .ref (b + 2), .ref (b + 3), .ref (b + 4), .ref (b + 5), .ref (b + 6), .ref (b + 7), .ref (b + 8), .ref (b + 9), .ref (b + 10), .ref (b + 11), .ref (b + 12), .ref (b + 13), .ref (b + 14), .ref (b + 15), .ref (b + 16), .ref (b + 17), .ref (b + 18), .ref (b + 19), .ref (b + 20), .ref (b + 21), .ref (b + 22), .ref (b + 23), .ref (b + 24), .ref (b + 25), .ref (b + 26), .ref (b + 27), .ref (b + 28), .ref (b + 29), .ref (b + 30)])) H63 := m65 0 (by decide)
  refine lv_iload_n C.1 C.2.1 d_M_readCore_297 rfl (lv_at hl 3 rfl) ?_
  refine lv_bipush (v := 11) C.1 C.2.1 d_M_readCore_298 (by decide) ?_
  refine lv_icmp_le (tgt := 314) C.1 C.2.1 d_M_readCore_300 (by decide) ?_ ?_
  · intro c66
    exact s_M_readCore_314 D cI cZ cN cJ lo b hlo th nn (setA A 17 (upd (A 17) j ((A 17 j) + 1))) j hj v3 (((show f_M_readCore_287 A j v2 v3 = f_M_readCore_314 (setA A 17 (upd (A 17) j ((A 17 j) + 1))) j v3 from by unfold f_M_readCore_287; rw [if_pos c66]).symm).trans hR) C hml hret hlk hL m65 (hq_Sput (hS) u64 (by omega) (by omega)) (lv_push (lv_push (lv_push (lv_nil hl) (lv_at hl 3 rfl)) (lv_at hl 1 rfl)) (lv_at hl 0 rfl))
  · intro c66
    refine lv_iload_n C.1 C.2.1 d_M_readCore_303 rfl (lv_at hl 3 rfl) ?_
    refine lv_bipush (v := 15) C.1 C.2.1 d_M_readCore_304 (by decide) ?_
    refine lv_icmp_ge (tgt := 314) C.1 C.2.1 d_M_readCore_306 (by decide) ?_ ?_
    · intro c67
      exact s_M_readCore_314 D cI cZ cN cJ lo b hlo th nn (setA A 17 (upd (A 17) j ((A 17 j) + 1))) j hj v3 (((show f_M_readCore_287 A j v2 v3 = f_M_readCore_314 (setA A 17 (upd (A 17) j ((A 17 j) + 1))) j v3 from by unfold f_M_readCore_287; rw [if_neg c66, if_pos c67]).symm).trans hR) C hml hret hlk hL m65 (hq_Sput (hS) u64 (by omega) (by omega)) (lv_push (lv_push (lv_push (lv_nil hl) (lv_at hl 3 rfl)) (lv_at hl 1 rfl)) (lv_at hl 0 rfl))
    · intro c67
      refine lv_iload_n C.1 C.2.1 d_M_readCore_309 rfl (lv_at hl 2 rfl) ?_
      refine lv_iconst (v := 1) C.1 C.2.1 d_M_readCore_310 (by decide) ?_
      refine lv_icmp_eq (tgt := 330) C.1 C.2.1 d_M_readCore_311 (by decide) ?_ ?_
      · intro c68
        refine lv_iconst (v := 4) C.1 C.2.1 d_M_readCore_330 (by decide) ?_
        have hf : R9 = ((setA A 17 (upd (A 17) j ((A 17 j) + 1))), 4) := by rw [← hR]; unfold f_M_readCore_287; rw [if_neg c66, if_neg c67, if_pos c68]
        exact hq_iret C hret hlk (Nat.le_of_ble_eq_true rfl) (Nat.le_of_ble_eq_true rfl) hL ⟨by rw [hf], by rw [hf]; exact m65, hq_Sput (hS) u64 (by omega) (by omega)⟩ d_M_readCore_331
      · intro c68
        exact s_M_readCore_314 D cI cZ cN cJ lo b hlo th nn (setA A 17 (upd (A 17) j ((A 17 j) + 1))) j hj v3 (((show f_M_readCore_287 A j v2 v3 = f_M_readCore_314 (setA A 17 (upd (A 17) j ((A 17 j) + 1))) j v3 from by unfold f_M_readCore_287; rw [if_neg c66, if_neg c67, if_neg c68]).symm).trans hR) C hml hret hlk hL m65 (hq_Sput (hS) u64 (by omega) (by omega)) (lv_push (lv_push (lv_push (lv_nil hl) (lv_at hl 3 rfl)) (lv_at hl 1 rfl)) (lv_at hl 0 rfl))
set_option maxHeartbeats 4000000 in
set_option maxRecDepth 100000 in
theorem s_M_readCore_167 {p : Program} {l : Launch} {e : Env} {s : State} {m : MethodId} {args : Array Value} {below : List Frame} {meth : Method} {c : Code} {H : Heap} {locs : List Loc} {ls : Array Slot} (D : va_G) (cI cZ cN cJ : ClassId) (lo b : Nat) (hlo : lo ≤ b) (th nn : Int32) (A : Nat → Nat → Int32) (j : Nat) (hj : j < 4) (v2 v3 : Int32) {R9 : (Nat → Nat → Int32) × Int32} (hR : f_M_readCore_167 A j v2 v3 = R9) (C : hq_C p c s m args R_M b_M_readCore TB D vwCl (TY cI cZ cN cJ)) (hml : c.maxLocals = 6) (hret : meth.sig.returnType = (some .int)) (hlk : meth.locks = false) (hL : hq_L lo locs) (hM : hq_B D vwCl b 31 (mdC cI cZ b th nn A) H) (hS : hq_S b 31 s.heap H) (hl : lv_has ls 6 [(0, .ref (b)), (1, .int (nI j)), (2, .int (v2)), (3, .int (v3))]) : W p l e { frames := 1, cells := 0, slots := 0, locals := 21 } s m args below meth c H locs 0 0 (MQ below (hq_Q (fun H v H' => v = some (.int (R9).2) ∧ hq_B D vwCl b 31 (mdC cI cZ b th nn (R9).1) H' ∧ hq_S b 31 H H')) args s 0 0 (fun q => lo ≤ q)) (F0 m 167 ls []) := by
  have k0 : va_at D vwCl (b, .inr (6, [.int (th), .int (nn), .ref (b + 1), .ref (b + 2), .ref (b + 3), .ref (b + 4), .ref (b + 5), .ref (b + 6), .ref (b + 7), .ref (b + 8), .ref (b + 9), .ref (b + 10), .ref (b + 11), .ref (b + 12), .ref (b + 13), .ref (b + 14), .ref (b + 15), .ref (b + 16), .ref (b + 17), .ref (b + 18), .ref (b + 19), .ref (b + 20), .ref (b + 21), .ref (b + 22), .ref (b + 23), .ref (b + 24), .ref (b + 25), .ref (b + 26), .ref (b + 27), .ref (b + 28), .ref (b + 29), .ref (b + 30)])) H := hM 0 (by decide)
  refine lv_iload_n C.1 C.2.1 d_M_readCore_167 rfl (lv_at hl 3 rfl) ?_
  refine lv_if_le (tgt := 196) C.1 C.2.1 d_M_readCore_168 (by decide) ?_ ?_
  · intro c61
    refine lv_iload_n C.1 C.2.1 d_M_readCore_196 rfl (lv_at hl 3 rfl) ?_
    refine lv_bipush (v := 14) C.1 C.2.1 d_M_readCore_197 (by decide) ?_
    refine lv_icmp_le (tgt := 227) C.1 C.2.1 d_M_readCore_199 (by decide) ?_ ?_
    · intro c62
      refine lv_iload_n C.1 C.2.1 d_M_readCore_227 rfl (lv_at hl 3 rfl) ?_
      refine lv_bipush (v := 18) C.1 C.2.1 d_M_readCore_228 (by decide) ?_
      refine lv_icmp_le (tgt := 287) C.1 C.2.1 d_M_readCore_230 (by decide) ?_ ?_
      · intro c63
        exact s_M_readCore_287 D cI cZ cN cJ lo b hlo th nn A j hj v2 v3 (((show f_M_readCore_167 A j v2 v3 = f_M_readCore_287 A j v2 v3 from by unfold f_M_readCore_167; rw [if_pos c61, if_pos c62, if_pos c63]).symm).trans hR) C hml hret hlk hL hM (hS) (lv_push (lv_push (lv_push (lv_push (lv_nil hl) (lv_at hl 3 rfl)) (lv_at hl 2 rfl)) (lv_at hl 1 rfl)) (lv_at hl 0 rfl))
      · intro c63
        refine lv_iload_n C.1 C.2.1 d_M_readCore_233 rfl (lv_at hl 3 rfl) ?_
        refine lv_bipush (v := 19) C.1 C.2.1 d_M_readCore_234 (by decide) ?_
        refine lv_bipush (v := 8) C.1 C.2.1 d_M_readCore_236 (by decide) ?_
        refine lv_aload_n C.1 C.2.1 d_M_readCore_238 rfl (lv_at hl 0 rfl) ?_
        refine hq_get (v := .ref (b + 23)) C f_M_77 k0 rfl d_M_readCore_239 ?_
        refine lv_iload_n C.1 C.2.1 d_M_readCore_242 rfl (lv_at hl 1 rfl) ?_
        have e64 : va_at D vwCl (b + 23, .inl (cI, 4, .inl (A 22))) _ := hM 23 (by decide)
        refine hq_iald C 0 rfl e64 (vp_in_nI hj (by decide)) d_M_readCore_243 ?_
        rw [nI_clamp (show j < 2 ^ 31 by omega)]
        refine W.eq (g2 := F0 m 244 ls [.int (A 22 j), .int (8), .int (19), .int (v3)]) rfl ?_
        refine lv_imul C.1 C.2.1 d_M_readCore_244 ?_
        refine lv_iadd C.1 C.2.1 d_M_readCore_245 ?_
        refine lv_icmp_ge (tgt := 287) C.1 C.2.1 d_M_readCore_246 (by decide) ?_ ?_
        · intro c65
          exact s_M_readCore_287 D cI cZ cN cJ lo b hlo th nn A j hj v2 v3 (((show f_M_readCore_167 A j v2 v3 = f_M_readCore_287 A j v2 v3 from by unfold f_M_readCore_167; rw [if_pos c61, if_pos c62, if_neg c63, if_pos c65]).symm).trans hR) C hml hret hlk hL hM (hS) (lv_push (lv_push (lv_push (lv_push (lv_nil hl) (lv_at hl 3 rfl)) (lv_at hl 2 rfl)) (lv_at hl 1 rfl)) (lv_at hl 0 rfl))
        · intro c65
          refine lv_iload_n C.1 C.2.1 d_M_readCore_249 rfl (lv_at hl 3 rfl) ?_
          refine lv_bipush (v := 19) C.1 C.2.1 d_M_readCore_250 (by decide) ?_
          refine lv_isub C.1 C.2.1 d_M_readCore_252 ?_
          refine lv_istore C.1 C.2.1 d_M_readCore_253 hl (by decide) rfl (lv' := [(5, .int (v3 - 19)), (0, .ref (b)), (1, .int (nI j)), (2, .int (v2)), (3, .int (v3))]) (fun ls hl => ?_)
          refine lv_aload_n C.1 C.2.1 d_M_readCore_255 rfl (lv_at hl 1 rfl) ?_
          refine hq_get (v := .ref (b + 24)) C f_M_80 k0 rfl d_M_readCore_256 ?_
          refine lv_iload_n C.1 C.2.1 d_M_readCore_259 rfl (lv_at hl 2 rfl) ?_
          refine lv_aload_n C.1 C.2.1 d_M_readCore_260 rfl (lv_at hl 1 rfl) ?_
          refine hq_get (v := .ref (b + 24)) C f_M_80 k0 rfl d_M_readCore_261 ?_
          refine lv_iload_n C.1 C.2.1 d_M_readCore_264 rfl (lv_at hl 2 rfl) ?_
          have e66 : va_at D vwCl (b + 24, .inl (cI, 4, .inl (A 23))) _ := hM 24 (by decide)
          refine hq_iald C 0 rfl e66 (vp_in_nI hj (by decide)) d_M_readCore_265 ?_
          rw [nI_clamp (show j < 2 ^ 31 by omega)]
          refine W.eq (g2 := F0 m 266 ls [.int (A 23 j), .int (nI j), .ref (b + 24)]) rfl ?_
          refine lv_iload_n C.1 C.2.1 d_M_readCore_266 rfl (lv_at hl 3 rfl) ?_
          refine lv_bipush (v := 8) C.1 C.2.1 d_M_readCore_267 (by decide) ?_
          refine lv_iload C.1 C.2.1 d_M_readCore_269 (lv_at hl 0 rfl) ?_
          refine lv_bipush (v := 8) C.1 C.2.1 d_M_readCore_271 (by decide) ?_
          refine lv_idiv C.1 C.2.1 d_M_readCore_273 (by decide) ?_
          refine lv_imul C.1 C.2.1 d_M_readCore_274 ?_
          refine lv_bipush (v := 7) C.1 C.2.1 d_M_readCore_275 (by decide) ?_
          refine lv_iadd C.1 C.2.1 d_M_readCore_277 ?_
          refine lv_iload C.1 C.2.1 d_M_readCore_278 (lv_at hl 0 rfl) ?_
          refine lv_bipush (v := 8) C.1 C.2.1 d_M_readCore_280 (by decide) ?_
          refine lv_irem C.1 C.2.1 d_M_readCore_282 (by decide) ?_
          refine lv_isub C.1 C.2.1 d_M_readCore_283 ?_
          refine lv_ishl C.1 C.2.1 d_M_readCore_284 ?_
          refine lv_ior C.1 C.2.1 d_M_readCore_285 ?_
          have e67 : va_at D vwCl (b + 24, .inl (cI, 4, .inl (A 23))) _ := hM 24 (by decide)
          refine hq_iast (lo := lo) C 0 rfl e67 (vp_in_nI hj (by decide)) hL (by omega) d_M_readCore_286 (fun H68 locs u69 hL => ?_)
          rw [nI_clamp (show j < 2 ^ 31 by omega)] at u69
          have m70 := md_set (k := 23) (f := upd (A 23) j ((A 23 j) ||| (v2 <<< ((((8 * ((v3 - 19) / 8)) + 7) - ((v3 - 19) - (v3 - 19) / 8 * 8)) &&& 31)))) hM u69
          have k0 : va_at D vwCl (b, .inr (6, [.int (th), .int (nn), .ref (b + 1), .ref (b + 2), .ref (b + 3), .ref (b + 4), .ref (b + 5), .ref (b + 6), .ref (b + 7), .ref (b + 8), .ref (b + 9), .ref (b + 10), .ref (b + 11), .ref (b + 12), .ref (b + 13), .ref (b + 14), .ref (b + 15), .ref (b + 16), .ref (b + 17), .ref (b + 18), .ref (b + 19), .ref (b + 20), .ref (b + 21), .ref (b + 22), .ref (b + 23), .ref (b + 24), .ref (b + 25), .ref (b + 26), .ref (b + 27), .ref (b + 28), .ref (b + 29), .ref (b + 30)])) H68 := m70 0 (by decide)
          exact s_M_readCore_287 D cI cZ cN cJ lo b hlo th nn (setA A 23 (upd (A 23) j ((A 23 j) ||| (v2 <<< ((((8 * ((v3 - 19) / 8)) + 7) - ((v3 - 19) - (v3 - 19) / 8 * 8)) &&& 31))))) j hj v2 v3 (((show f_M_readCore_167 A j v2 v3 = f_M_readCore_287 (setA A 23 (upd (A 23) j ((A 23 j) ||| (v2 <<< ((((8 * ((v3 - 19) / 8)) + 7) - ((v3 - 19) - (v3 - 19) / 8 * 8)) &&& 31))))) j v2 v3 from by unfold f_M_readCore_167; rw [if_pos c61, if_pos c62, if_neg c63, if_neg c65]).symm).trans hR) C hml hret hlk hL m70 (hq_Sput (hS) u69 (by omega) (by omega)) (lv_push (lv_push (lv_push (lv_push (lv_nil hl) (lv_at hl 4 rfl)) (lv_at hl 3 rfl)) (lv_at hl 2 rfl)) (lv_at hl 1 rfl))
    · intro c62
      refine lv_iload_n C.1 C.2.1 d_M_readCore_202 rfl (lv_at hl 3 rfl) ?_
      refine lv_bipush (v := 19) C.1 C.2.1 d_M_readCore_203 (by decide) ?_
      refine lv_icmp_ge (tgt := 227) C.1 C.2.1 d_M_readCore_205 (by decide) ?_ ?_
      · intro c71
        refine lv_iload_n C.1 C.2.1 d_M_readCore_227 rfl (lv_at hl 3 rfl) ?_
        refine lv_bipush (v := 18) C.1 C.2.1 d_M_readCore_228 (by decide) ?_
        refine lv_icmp_le (tgt := 287) C.1 C.2.1 d_M_readCore_230 (by decide) ?_ ?_
        · intro c72
          exact s_M_readCore_287 D cI cZ cN cJ lo b hlo th nn A j hj v2 v3 (((show f_M_readCore_167 A j v2 v3 = f_M_readCore_287 A j v2 v3 from by unfold f_M_readCore_167; rw [if_pos c61, if_neg c62, if_pos c71, if_pos c72]).symm).trans hR) C hml hret hlk hL hM (hS) (lv_push (lv_push (lv_push (lv_push (lv_nil hl) (lv_at hl 3 rfl)) (lv_at hl 2 rfl)) (lv_at hl 1 rfl)) (lv_at hl 0 rfl))
        · intro c72
          refine lv_iload_n C.1 C.2.1 d_M_readCore_233 rfl (lv_at hl 3 rfl) ?_
          refine lv_bipush (v := 19) C.1 C.2.1 d_M_readCore_234 (by decide) ?_
          refine lv_bipush (v := 8) C.1 C.2.1 d_M_readCore_236 (by decide) ?_
          refine lv_aload_n C.1 C.2.1 d_M_readCore_238 rfl (lv_at hl 0 rfl) ?_
          refine hq_get (v := .ref (b + 23)) C f_M_77 k0 rfl d_M_readCore_239 ?_
          refine lv_iload_n C.1 C.2.1 d_M_readCore_242 rfl (lv_at hl 1 rfl) ?_
          have e73 : va_at D vwCl (b + 23, .inl (cI, 4, .inl (A 22))) _ := hM 23 (by decide)
          refine hq_iald C 0 rfl e73 (vp_in_nI hj (by decide)) d_M_readCore_243 ?_
          rw [nI_clamp (show j < 2 ^ 31 by omega)]
          refine W.eq (g2 := F0 m 244 ls [.int (A 22 j), .int (8), .int (19), .int (v3)]) rfl ?_
          refine lv_imul C.1 C.2.1 d_M_readCore_244 ?_
          refine lv_iadd C.1 C.2.1 d_M_readCore_245 ?_
          refine lv_icmp_ge (tgt := 287) C.1 C.2.1 d_M_readCore_246 (by decide) ?_ ?_
          · intro c74
            exact s_M_readCore_287 D cI cZ cN cJ lo b hlo th nn A j hj v2 v3 (((show f_M_readCore_167 A j v2 v3 = f_M_readCore_287 A j v2 v3 from by unfold f_M_readCore_167; rw [if_pos c61, if_neg c62, if_pos c71, if_neg c72, if_pos c74]).symm).trans hR) C hml hret hlk hL hM (hS) (lv_push (lv_push (lv_push (lv_push (lv_nil hl) (lv_at hl 3 rfl)) (lv_at hl 2 rfl)) (lv_at hl 1 rfl)) (lv_at hl 0 rfl))
          · intro c74
            refine lv_iload_n C.1 C.2.1 d_M_readCore_249 rfl (lv_at hl 3 rfl) ?_
            refine lv_bipush (v := 19) C.1 C.2.1 d_M_readCore_250 (by decide) ?_
            refine lv_isub C.1 C.2.1 d_M_readCore_252 ?_
            refine lv_istore C.1 C.2.1 d_M_readCore_253 hl (by decide) rfl (lv' := [(5, .int (v3 - 19)), (0, .ref (b)), (1, .int (nI j)), (2, .int (v2)), (3, .int (v3))]) (fun ls hl => ?_)
            refine lv_aload_n C.1 C.2.1 d_M_readCore_255 rfl (lv_at hl 1 rfl) ?_
            refine hq_get (v := .ref (b + 24)) C f_M_80 k0 rfl d_M_readCore_256 ?_
            refine lv_iload_n C.1 C.2.1 d_M_readCore_259 rfl (lv_at hl 2 rfl) ?_
            refine lv_aload_n C.1 C.2.1 d_M_readCore_260 rfl (lv_at hl 1 rfl) ?_
            refine hq_get (v := .ref (b + 24)) C f_M_80 k0 rfl d_M_readCore_261 ?_
            refine lv_iload_n C.1 C.2.1 d_M_readCore_264 rfl (lv_at hl 2 rfl) ?_
            have e75 : va_at D vwCl (b + 24, .inl (cI, 4, .inl (A 23))) _ := hM 24 (by decide)
            refine hq_iald C 0 rfl e75 (vp_in_nI hj (by decide)) d_M_readCore_265 ?_
            rw [nI_clamp (show j < 2 ^ 31 by omega)]
            refine W.eq (g2 := F0 m 266 ls [.int (A 23 j), .int (nI j), .ref (b + 24)]) rfl ?_
            refine lv_iload_n C.1 C.2.1 d_M_readCore_266 rfl (lv_at hl 3 rfl) ?_
            refine lv_bipush (v := 8) C.1 C.2.1 d_M_readCore_267 (by decide) ?_
            refine lv_iload C.1 C.2.1 d_M_readCore_269 (lv_at hl 0 rfl) ?_
            refine lv_bipush (v := 8) C.1 C.2.1 d_M_readCore_271 (by decide) ?_
            refine lv_idiv C.1 C.2.1 d_M_readCore_273 (by decide) ?_
            refine lv_imul C.1 C.2.1 d_M_readCore_274 ?_
            refine lv_bipush (v := 7) C.1 C.2.1 d_M_readCore_275 (by decide) ?_
            refine lv_iadd C.1 C.2.1 d_M_readCore_277 ?_
            refine lv_iload C.1 C.2.1 d_M_readCore_278 (lv_at hl 0 rfl) ?_
            refine lv_bipush (v := 8) C.1 C.2.1 d_M_readCore_280 (by decide) ?_
            refine lv_irem C.1 C.2.1 d_M_readCore_282 (by decide) ?_
            refine lv_isub C.1 C.2.1 d_M_readCore_283 ?_
            refine lv_ishl C.1 C.2.1 d_M_readCore_284 ?_
            refine lv_ior C.1 C.2.1 d_M_readCore_285 ?_
            have e76 : va_at D vwCl (b + 24, .inl (cI, 4, .inl (A 23))) _ := hM 24 (by decide)
            refine hq_iast (lo := lo) C 0 rfl e76 (vp_in_nI hj (by decide)) hL (by omega) d_M_readCore_286 (fun H77 locs u78 hL => ?_)
            rw [nI_clamp (show j < 2 ^ 31 by omega)] at u78
            have m79 := md_set (k := 23) (f := upd (A 23) j ((A 23 j) ||| (v2 <<< ((((8 * ((v3 - 19) / 8)) + 7) - ((v3 - 19) - (v3 - 19) / 8 * 8)) &&& 31)))) hM u78
            have k0 : va_at D vwCl (b, .inr (6, [.int (th), .int (nn), .ref (b + 1), .ref (b + 2), .ref (b + 3), .ref (b + 4), .ref (b + 5), .ref (b + 6), .ref (b + 7), .ref (b + 8), .ref (b + 9), .ref (b + 10), .ref (b + 11), .ref (b + 12), .ref (b + 13), .ref (b + 14), .ref (b + 15), .ref (b + 16), .ref (b + 17), .ref (b + 18), .ref (b + 19), .ref (b + 20), .ref (b + 21), .ref (b + 22), .ref (b + 23), .ref (b + 24), .ref (b + 25), .ref (b + 26), .ref (b + 27), .ref (b + 28), .ref (b + 29), .ref (b + 30)])) H77 := m79 0 (by decide)
            exact s_M_readCore_287 D cI cZ cN cJ lo b hlo th nn (setA A 23 (upd (A 23) j ((A 23 j) ||| (v2 <<< ((((8 * ((v3 - 19) / 8)) + 7) - ((v3 - 19) - (v3 - 19) / 8 * 8)) &&& 31))))) j hj v2 v3 (((show f_M_readCore_167 A j v2 v3 = f_M_readCore_287 (setA A 23 (upd (A 23) j ((A 23 j) ||| (v2 <<< ((((8 * ((v3 - 19) / 8)) + 7) - ((v3 - 19) - (v3 - 19) / 8 * 8)) &&& 31))))) j v2 v3 from by unfold f_M_readCore_167; rw [if_pos c61, if_neg c62, if_pos c71, if_neg c72, if_neg c74]).symm).trans hR) C hml hret hlk hL m79 (hq_Sput (hS) u78 (by omega) (by omega)) (lv_push (lv_push (lv_push (lv_push (lv_nil hl) (lv_at hl 4 rfl)) (lv_at hl 3 rfl)) (lv_at hl 2 rfl)) (lv_at hl 1 rfl))
      · intro c71
        refine lv_aload_n C.1 C.2.1 d_M_readCore_208 rfl (lv_at hl 0 rfl) ?_
        refine hq_get (v := .ref (b + 23)) C f_M_77 k0 rfl d_M_readCore_209 ?_
        refine lv_iload_n C.1 C.2.1 d_M_readCore_212 rfl (lv_at hl 1 rfl) ?_
        refine lv_iconst (v := 2) C.1 C.2.1 d_M_readCore_213 (by decide) ?_
        refine lv_aload_n C.1 C.2.1 d_M_readCore_214 rfl (lv_at hl 0 rfl) ?_
        refine hq_get (v := .ref (b + 23)) C f_M_77 k0 rfl d_M_readCore_215 ?_
        refine lv_iload_n C.1 C.2.1 d_M_readCore_218 rfl (lv_at hl 1 rfl) ?_
        have e80 : va_at D vwCl (b + 23, .inl (cI, 4, .inl (A 22))) _ := hM 23 (by decide)
        refine hq_iald C 0 rfl e80 (vp_in_nI hj (by decide)) d_M_readCore_219 ?_
        rw [nI_clamp (show j < 2 ^ 31 by omega)]
        refine W.eq (g2 := F0 m 220 ls [.int (A 22 j), .int (2), .int (nI j), .ref (b + 23)]) rfl ?_
        refine lv_imul C.1 C.2.1 d_M_readCore_220 ?_
        refine lv_iload_n C.1 C.2.1 d_M_readCore_221 rfl (lv_at hl 2 rfl) ?_
        refine lv_iadd C.1 C.2.1 d_M_readCore_222 ?_
        have e81 : va_at D vwCl (b + 23, .inl (cI, 4, .inl (A 22))) _ := hM 23 (by decide)
        refine hq_iast (lo := lo) C 0 rfl e81 (vp_in_nI hj (by decide)) hL (by omega) d_M_readCore_223 (fun H82 locs u83 hL => ?_)
        rw [nI_clamp (show j < 2 ^ 31 by omega)] at u83
        have m84 := md_set (k := 22) (f := upd (A 22) j ((2 * (A 22 j)) + v2)) hM u83
        have k0 : va_at D vwCl (b, .inr (6, [.int (th), .int (nn), .ref (b + 1), .ref (b + 2), .ref (b + 3), .ref (b + 4), .ref (b + 5), .ref (b + 6), .ref (b + 7), .ref (b + 8), .ref (b + 9), .ref (b + 10), .ref (b + 11), .ref (b + 12), .ref (b + 13), .ref (b + 14), .ref (b + 15), .ref (b + 16), .ref (b + 17), .ref (b + 18), .ref (b + 19), .ref (b + 20), .ref (b + 21), .ref (b + 22), .ref (b + 23), .ref (b + 24), .ref (b + 25), .ref (b + 26), .ref (b + 27), .ref (b + 28), .ref (b + 29), .ref (b + 30)])) H82 := m84 0 (by decide)
        refine lv_goto (tgt := 287) C.1 C.2.1 d_M_readCore_224 (by decide) ?_
        exact s_M_readCore_287 D cI cZ cN cJ lo b hlo th nn (setA A 22 (upd (A 22) j ((2 * (A 22 j)) + v2))) j hj v2 v3 (((show f_M_readCore_167 A j v2 v3 = f_M_readCore_287 (setA A 22 (upd (A 22) j ((2 * (A 22 j)) + v2))) j v2 v3 from by unfold f_M_readCore_167; rw [if_pos c61, if_neg c62, if_neg c71]).symm).trans hR) C hml hret hlk hL m84 (hq_Sput (hS) u83 (by omega) (by omega)) (lv_push (lv_push (lv_push (lv_push (lv_nil hl) (lv_at hl 3 rfl)) (lv_at hl 2 rfl)) (lv_at hl 1 rfl)) (lv_at hl 0 rfl))
  · intro c61
    refine lv_iload_n C.1 C.2.1 d_M_readCore_171 rfl (lv_at hl 3 rfl) ?_
    refine lv_bipush (v := 12) C.1 C.2.1 d_M_readCore_172 (by decide) ?_
    refine lv_icmp_ge (tgt := 196) C.1 C.2.1 d_M_readCore_174 (by decide) ?_ ?_
    · intro c85
      refine lv_iload_n C.1 C.2.1 d_M_readCore_196 rfl (lv_at hl 3 rfl) ?_
      refine lv_bipush (v := 14) C.1 C.2.1 d_M_readCore_197 (by decide) ?_
      refine lv_icmp_le (tgt := 227) C.1 C.2.1 d_M_readCore_199 (by decide) ?_ ?_
      · intro c86
        refine lv_iload_n C.1 C.2.1 d_M_readCore_227 rfl (lv_at hl 3 rfl) ?_
        refine lv_bipush (v := 18) C.1 C.2.1 d_M_readCore_228 (by decide) ?_
        refine lv_icmp_le (tgt := 287) C.1 C.2.1 d_M_readCore_230 (by decide) ?_ ?_
        · intro c87
          exact s_M_readCore_287 D cI cZ cN cJ lo b hlo th nn A j hj v2 v3 (((show f_M_readCore_167 A j v2 v3 = f_M_readCore_287 A j v2 v3 from by unfold f_M_readCore_167; rw [if_neg c61, if_pos c85, if_pos c86, if_pos c87]).symm).trans hR) C hml hret hlk hL hM (hS) (lv_push (lv_push (lv_push (lv_push (lv_nil hl) (lv_at hl 3 rfl)) (lv_at hl 2 rfl)) (lv_at hl 1 rfl)) (lv_at hl 0 rfl))
        · intro c87
          refine lv_iload_n C.1 C.2.1 d_M_readCore_233 rfl (lv_at hl 3 rfl) ?_
          refine lv_bipush (v := 19) C.1 C.2.1 d_M_readCore_234 (by decide) ?_
          refine lv_bipush (v := 8) C.1 C.2.1 d_M_readCore_236 (by decide) ?_
          refine lv_aload_n C.1 C.2.1 d_M_readCore_238 rfl (lv_at hl 0 rfl) ?_
          refine hq_get (v := .ref (b + 23)) C f_M_77 k0 rfl d_M_readCore_239 ?_
          refine lv_iload_n C.1 C.2.1 d_M_readCore_242 rfl (lv_at hl 1 rfl) ?_
          have e88 : va_at D vwCl (b + 23, .inl (cI, 4, .inl (A 22))) _ := hM 23 (by decide)
          refine hq_iald C 0 rfl e88 (vp_in_nI hj (by decide)) d_M_readCore_243 ?_
          rw [nI_clamp (show j < 2 ^ 31 by omega)]
          refine W.eq (g2 := F0 m 244 ls [.int (A 22 j), .int (8), .int (19), .int (v3)]) rfl ?_
          refine lv_imul C.1 C.2.1 d_M_readCore_244 ?_
          refine lv_iadd C.1 C.2.1 d_M_readCore_245 ?_
          refine lv_icmp_ge (tgt := 287) C.1 C.2.1 d_M_readCore_246 (by decide) ?_ ?_
          · intro c89
            exact s_M_readCore_287 D cI cZ cN cJ lo b hlo th nn A j hj v2 v3 (((show f_M_readCore_167 A j v2 v3 = f_M_readCore_287 A j v2 v3 from by unfold f_M_readCore_167; rw [if_neg c61, if_pos c85, if_pos c86, if_neg c87, if_pos c89]).symm).trans hR) C hml hret hlk hL hM (hS) (lv_push (lv_push (lv_push (lv_push (lv_nil hl) (lv_at hl 3 rfl)) (lv_at hl 2 rfl)) (lv_at hl 1 rfl)) (lv_at hl 0 rfl))
          · intro c89
            refine lv_iload_n C.1 C.2.1 d_M_readCore_249 rfl (lv_at hl 3 rfl) ?_
            refine lv_bipush (v := 19) C.1 C.2.1 d_M_readCore_250 (by decide) ?_
            refine lv_isub C.1 C.2.1 d_M_readCore_252 ?_
            refine lv_istore C.1 C.2.1 d_M_readCore_253 hl (by decide) rfl (lv' := [(5, .int (v3 - 19)), (0, .ref (b)), (1, .int (nI j)), (2, .int (v2)), (3, .int (v3))]) (fun ls hl => ?_)
            refine lv_aload_n C.1 C.2.1 d_M_readCore_255 rfl (lv_at hl 1 rfl) ?_
            refine hq_get (v := .ref (b + 24)) C f_M_80 k0 rfl d_M_readCore_256 ?_
            refine lv_iload_n C.1 C.2.1 d_M_readCore_259 rfl (lv_at hl 2 rfl) ?_
            refine lv_aload_n C.1 C.2.1 d_M_readCore_260 rfl (lv_at hl 1 rfl) ?_
            refine hq_get (v := .ref (b + 24)) C f_M_80 k0 rfl d_M_readCore_261 ?_
            refine lv_iload_n C.1 C.2.1 d_M_readCore_264 rfl (lv_at hl 2 rfl) ?_
            have e90 : va_at D vwCl (b + 24, .inl (cI, 4, .inl (A 23))) _ := hM 24 (by decide)
            refine hq_iald C 0 rfl e90 (vp_in_nI hj (by decide)) d_M_readCore_265 ?_
            rw [nI_clamp (show j < 2 ^ 31 by omega)]
            refine W.eq (g2 := F0 m 266 ls [.int (A 23 j), .int (nI j), .ref (b + 24)]) rfl ?_
            refine lv_iload_n C.1 C.2.1 d_M_readCore_266 rfl (lv_at hl 3 rfl) ?_
            refine lv_bipush (v := 8) C.1 C.2.1 d_M_readCore_267 (by decide) ?_
            refine lv_iload C.1 C.2.1 d_M_readCore_269 (lv_at hl 0 rfl) ?_
            refine lv_bipush (v := 8) C.1 C.2.1 d_M_readCore_271 (by decide) ?_
            refine lv_idiv C.1 C.2.1 d_M_readCore_273 (by decide) ?_
            refine lv_imul C.1 C.2.1 d_M_readCore_274 ?_
            refine lv_bipush (v := 7) C.1 C.2.1 d_M_readCore_275 (by decide) ?_
            refine lv_iadd C.1 C.2.1 d_M_readCore_277 ?_
            refine lv_iload C.1 C.2.1 d_M_readCore_278 (lv_at hl 0 rfl) ?_
            refine lv_bipush (v := 8) C.1 C.2.1 d_M_readCore_280 (by decide) ?_
            refine lv_irem C.1 C.2.1 d_M_readCore_282 (by decide) ?_
            refine lv_isub C.1 C.2.1 d_M_readCore_283 ?_
            refine lv_ishl C.1 C.2.1 d_M_readCore_284 ?_
            refine lv_ior C.1 C.2.1 d_M_readCore_285 ?_
            have e91 : va_at D vwCl (b + 24, .inl (cI, 4, .inl (A 23))) _ := hM 24 (by decide)
            refine hq_iast (lo := lo) C 0 rfl e91 (vp_in_nI hj (by decide)) hL (by omega) d_M_readCore_286 (fun H92 locs u93 hL => ?_)
            rw [nI_clamp (show j < 2 ^ 31 by omega)] at u93
            have m94 := md_set (k := 23) (f := upd (A 23) j ((A 23 j) ||| (v2 <<< ((((8 * ((v3 - 19) / 8)) + 7) - ((v3 - 19) - (v3 - 19) / 8 * 8)) &&& 31)))) hM u93
            have k0 : va_at D vwCl (b, .inr (6, [.int (th), .int (nn), .ref (b + 1), .ref (b + 2), .ref (b + 3), .ref (b + 4), .ref (b + 5), .ref (b + 6), .ref (b + 7), .ref (b + 8), .ref (b + 9), .ref (b + 10), .ref (b + 11), .ref (b + 12), .ref (b + 13), .ref (b + 14), .ref (b + 15), .ref (b + 16), .ref (b + 17), .ref (b + 18), .ref (b + 19), .ref (b + 20), .ref (b + 21), .ref (b + 22), .ref (b + 23), .ref (b + 24), .ref (b + 25), .ref (b + 26), .ref (b + 27), .ref (b + 28), .ref (b + 29), .ref (b + 30)])) H92 := m94 0 (by decide)
            exact s_M_readCore_287 D cI cZ cN cJ lo b hlo th nn (setA A 23 (upd (A 23) j ((A 23 j) ||| (v2 <<< ((((8 * ((v3 - 19) / 8)) + 7) - ((v3 - 19) - (v3 - 19) / 8 * 8)) &&& 31))))) j hj v2 v3 (((show f_M_readCore_167 A j v2 v3 = f_M_readCore_287 (setA A 23 (upd (A 23) j ((A 23 j) ||| (v2 <<< ((((8 * ((v3 - 19) / 8)) + 7) - ((v3 - 19) - (v3 - 19) / 8 * 8)) &&& 31))))) j v2 v3 from by unfold f_M_readCore_167; rw [if_neg c61, if_pos c85, if_pos c86, if_neg c87, if_neg c89]).symm).trans hR) C hml hret hlk hL m94 (hq_Sput (hS) u93 (by omega) (by omega)) (lv_push (lv_push (lv_push (lv_push (lv_nil hl) (lv_at hl 4 rfl)) (lv_at hl 3 rfl)) (lv_at hl 2 rfl)) (lv_at hl 1 rfl))
      · intro c86
        refine lv_iload_n C.1 C.2.1 d_M_readCore_202 rfl (lv_at hl 3 rfl) ?_
        refine lv_bipush (v := 19) C.1 C.2.1 d_M_readCore_203 (by decide) ?_
        refine lv_icmp_ge (tgt := 227) C.1 C.2.1 d_M_readCore_205 (by decide) ?_ ?_
        · intro c95
          refine lv_iload_n C.1 C.2.1 d_M_readCore_227 rfl (lv_at hl 3 rfl) ?_
          refine lv_bipush (v := 18) C.1 C.2.1 d_M_readCore_228 (by decide) ?_
          refine lv_icmp_le (tgt := 287) C.1 C.2.1 d_M_readCore_230 (by decide) ?_ ?_
          · intro c96
            exact s_M_readCore_287 D cI cZ cN cJ lo b hlo th nn A j hj v2 v3 (((show f_M_readCore_167 A j v2 v3 = f_M_readCore_287 A j v2 v3 from by unfold f_M_readCore_167; rw [if_neg c61, if_pos c85, if_neg c86, if_pos c95, if_pos c96]).symm).trans hR) C hml hret hlk hL hM (hS) (lv_push (lv_push (lv_push (lv_push (lv_nil hl) (lv_at hl 3 rfl)) (lv_at hl 2 rfl)) (lv_at hl 1 rfl)) (lv_at hl 0 rfl))
          · intro c96
            refine lv_iload_n C.1 C.2.1 d_M_readCore_233 rfl (lv_at hl 3 rfl) ?_
            refine lv_bipush (v := 19) C.1 C.2.1 d_M_readCore_234 (by decide) ?_
            refine lv_bipush (v := 8) C.1 C.2.1 d_M_readCore_236 (by decide) ?_
            refine lv_aload_n C.1 C.2.1 d_M_readCore_238 rfl (lv_at hl 0 rfl) ?_
            refine hq_get (v := .ref (b + 23)) C f_M_77 k0 rfl d_M_readCore_239 ?_
            refine lv_iload_n C.1 C.2.1 d_M_readCore_242 rfl (lv_at hl 1 rfl) ?_
            have e97 : va_at D vwCl (b + 23, .inl (cI, 4, .inl (A 22))) _ := hM 23 (by decide)
            refine hq_iald C 0 rfl e97 (vp_in_nI hj (by decide)) d_M_readCore_243 ?_
            rw [nI_clamp (show j < 2 ^ 31 by omega)]
            refine W.eq (g2 := F0 m 244 ls [.int (A 22 j), .int (8), .int (19), .int (v3)]) rfl ?_
            refine lv_imul C.1 C.2.1 d_M_readCore_244 ?_
            refine lv_iadd C.1 C.2.1 d_M_readCore_245 ?_
            refine lv_icmp_ge (tgt := 287) C.1 C.2.1 d_M_readCore_246 (by decide) ?_ ?_
            · intro c98
              exact s_M_readCore_287 D cI cZ cN cJ lo b hlo th nn A j hj v2 v3 (((show f_M_readCore_167 A j v2 v3 = f_M_readCore_287 A j v2 v3 from by unfold f_M_readCore_167; rw [if_neg c61, if_pos c85, if_neg c86, if_pos c95, if_neg c96, if_pos c98]).symm).trans hR) C hml hret hlk hL hM (hS) (lv_push (lv_push (lv_push (lv_push (lv_nil hl) (lv_at hl 3 rfl)) (lv_at hl 2 rfl)) (lv_at hl 1 rfl)) (lv_at hl 0 rfl))
            · intro c98
              refine lv_iload_n C.1 C.2.1 d_M_readCore_249 rfl (lv_at hl 3 rfl) ?_
              refine lv_bipush (v := 19) C.1 C.2.1 d_M_readCore_250 (by decide) ?_
              refine lv_isub C.1 C.2.1 d_M_readCore_252 ?_
              refine lv_istore C.1 C.2.1 d_M_readCore_253 hl (by decide) rfl (lv' := [(5, .int (v3 - 19)), (0, .ref (b)), (1, .int (nI j)), (2, .int (v2)), (3, .int (v3))]) (fun ls hl => ?_)
              refine lv_aload_n C.1 C.2.1 d_M_readCore_255 rfl (lv_at hl 1 rfl) ?_
              refine hq_get (v := .ref (b + 24)) C f_M_80 k0 rfl d_M_readCore_256 ?_
              refine lv_iload_n C.1 C.2.1 d_M_readCore_259 rfl (lv_at hl 2 rfl) ?_
              refine lv_aload_n C.1 C.2.1 d_M_readCore_260 rfl (lv_at hl 1 rfl) ?_
              refine hq_get (v := .ref (b + 24)) C f_M_80 k0 rfl d_M_readCore_261 ?_
              refine lv_iload_n C.1 C.2.1 d_M_readCore_264 rfl (lv_at hl 2 rfl) ?_
              have e99 : va_at D vwCl (b + 24, .inl (cI, 4, .inl (A 23))) _ := hM 24 (by decide)
              refine hq_iald C 0 rfl e99 (vp_in_nI hj (by decide)) d_M_readCore_265 ?_
              rw [nI_clamp (show j < 2 ^ 31 by omega)]
              refine W.eq (g2 := F0 m 266 ls [.int (A 23 j), .int (nI j), .ref (b + 24)]) rfl ?_
              refine lv_iload_n C.1 C.2.1 d_M_readCore_266 rfl (lv_at hl 3 rfl) ?_
              refine lv_bipush (v := 8) C.1 C.2.1 d_M_readCore_267 (by decide) ?_
              refine lv_iload C.1 C.2.1 d_M_readCore_269 (lv_at hl 0 rfl) ?_
              refine lv_bipush (v := 8) C.1 C.2.1 d_M_readCore_271 (by decide) ?_
              refine lv_idiv C.1 C.2.1 d_M_readCore_273 (by decide) ?_
              refine lv_imul C.1 C.2.1 d_M_readCore_274 ?_
              refine lv_bipush (v := 7) C.1 C.2.1 d_M_readCore_275 (by decide) ?_
              refine lv_iadd C.1 C.2.1 d_M_readCore_277 ?_
              refine lv_iload C.1 C.2.1 d_M_readCore_278 (lv_at hl 0 rfl) ?_
              refine lv_bipush (v := 8) C.1 C.2.1 d_M_readCore_280 (by decide) ?_
              refine lv_irem C.1 C.2.1 d_M_readCore_282 (by decide) ?_
              refine lv_isub C.1 C.2.1 d_M_readCore_283 ?_
              refine lv_ishl C.1 C.2.1 d_M_readCore_284 ?_
              refine lv_ior C.1 C.2.1 d_M_readCore_285 ?_
              have e100 : va_at D vwCl (b + 24, .inl (cI, 4, .inl (A 23))) _ := hM 24 (by decide)
              refine hq_iast (lo := lo) C 0 rfl e100 (vp_in_nI hj (by decide)) hL (by omega) d_M_readCore_286 (fun H101 locs u102 hL => ?_)
              rw [nI_clamp (show j < 2 ^ 31 by omega)] at u102
              have m103 := md_set (k := 23) (f := upd (A 23) j ((A 23 j) ||| (v2 <<< ((((8 * ((v3 - 19) / 8)) + 7) - ((v3 - 19) - (v3 - 19) / 8 * 8)) &&& 31)))) hM u102
              have k0 : va_at D vwCl (b, .inr (6, [.int (th), .int (nn), .ref (b + 1), .ref (b + 2), .ref (b + 3), .ref (b + 4), .ref (b + 5), .ref (b + 6), .ref (b + 7), .ref (b + 8), .ref (b + 9), .ref (b + 10), .ref (b + 11), .ref (b + 12), .ref (b + 13), .ref (b + 14), .ref (b + 15), .ref (b + 16), .ref (b + 17), .ref (b + 18), .ref (b + 19), .ref (b + 20), .ref (b + 21), .ref (b + 22), .ref (b + 23), .ref (b + 24), .ref (b + 25), .ref (b + 26), .ref (b + 27), .ref (b + 28), .ref (b + 29), .ref (b + 30)])) H101 := m103 0 (by decide)
              exact s_M_readCore_287 D cI cZ cN cJ lo b hlo th nn (setA A 23 (upd (A 23) j ((A 23 j) ||| (v2 <<< ((((8 * ((v3 - 19) / 8)) + 7) - ((v3 - 19) - (v3 - 19) / 8 * 8)) &&& 31))))) j hj v2 v3 (((show f_M_readCore_167 A j v2 v3 = f_M_readCore_287 (setA A 23 (upd (A 23) j ((A 23 j) ||| (v2 <<< ((((8 * ((v3 - 19) / 8)) + 7) - ((v3 - 19) - (v3 - 19) / 8 * 8)) &&& 31))))) j v2 v3 from by unfold f_M_readCore_167; rw [if_neg c61, if_pos c85, if_neg c86, if_pos c95, if_neg c96, if_neg c98]).symm).trans hR) C hml hret hlk hL m103 (hq_Sput (hS) u102 (by omega) (by omega)) (lv_push (lv_push (lv_push (lv_push (lv_nil hl) (lv_at hl 4 rfl)) (lv_at hl 3 rfl)) (lv_at hl 2 rfl)) (lv_at hl 1 rfl))
        · intro c95
          refine lv_aload_n C.1 C.2.1 d_M_readCore_208 rfl (lv_at hl 0 rfl) ?_
          refine hq_get (v := .ref (b + 23)) C f_M_77 k0 rfl d_M_readCore_209 ?_
          refine lv_iload_n C.1 C.2.1 d_M_readCore_212 rfl (lv_at hl 1 rfl) ?_
          refine lv_iconst (v := 2) C.1 C.2.1 d_M_readCore_213 (by decide) ?_
          refine lv_aload_n C.1 C.2.1 d_M_readCore_214 rfl (lv_at hl 0 rfl) ?_
          refine hq_get (v := .ref (b + 23)) C f_M_77 k0 rfl d_M_readCore_215 ?_
          refine lv_iload_n C.1 C.2.1 d_M_readCore_218 rfl (lv_at hl 1 rfl) ?_
          have e104 : va_at D vwCl (b + 23, .inl (cI, 4, .inl (A 22))) _ := hM 23 (by decide)
          refine hq_iald C 0 rfl e104 (vp_in_nI hj (by decide)) d_M_readCore_219 ?_
          rw [nI_clamp (show j < 2 ^ 31 by omega)]
          refine W.eq (g2 := F0 m 220 ls [.int (A 22 j), .int (2), .int (nI j), .ref (b + 23)]) rfl ?_
          refine lv_imul C.1 C.2.1 d_M_readCore_220 ?_
          refine lv_iload_n C.1 C.2.1 d_M_readCore_221 rfl (lv_at hl 2 rfl) ?_
          refine lv_iadd C.1 C.2.1 d_M_readCore_222 ?_
          have e105 : va_at D vwCl (b + 23, .inl (cI, 4, .inl (A 22))) _ := hM 23 (by decide)
          refine hq_iast (lo := lo) C 0 rfl e105 (vp_in_nI hj (by decide)) hL (by omega) d_M_readCore_223 (fun H106 locs u107 hL => ?_)
          rw [nI_clamp (show j < 2 ^ 31 by omega)] at u107
          have m108 := md_set (k := 22) (f := upd (A 22) j ((2 * (A 22 j)) + v2)) hM u107
          have k0 : va_at D vwCl (b, .inr (6, [.int (th), .int (nn), .ref (b + 1), .ref (b + 2), .ref (b + 3), .ref (b + 4), .ref (b + 5), .ref (b + 6), .ref (b + 7), .ref (b + 8), .ref (b + 9), .ref (b + 10), .ref (b + 11), .ref (b + 12), .ref (b + 13), .ref (b + 14), .ref (b + 15), .ref (b + 16), .ref (b + 17), .ref (b + 18), .ref (b + 19), .ref (b + 20), .ref (b + 21), .ref (b + 22), .ref (b + 23), .ref (b + 24), .ref (b + 25), .ref (b + 26), .ref (b + 27), .ref (b + 28), .ref (b + 29), .ref (b + 30)])) H106 := m108 0 (by decide)
          refine lv_goto (tgt := 287) C.1 C.2.1 d_M_readCore_224 (by decide) ?_
          exact s_M_readCore_287 D cI cZ cN cJ lo b hlo th nn (setA A 22 (upd (A 22) j ((2 * (A 22 j)) + v2))) j hj v2 v3 (((show f_M_readCore_167 A j v2 v3 = f_M_readCore_287 (setA A 22 (upd (A 22) j ((2 * (A 22 j)) + v2))) j v2 v3 from by unfold f_M_readCore_167; rw [if_neg c61, if_pos c85, if_neg c86, if_neg c95]).symm).trans hR) C hml hret hlk hL m108 (hq_Sput (hS) u107 (by omega) (by omega)) (lv_push (lv_push (lv_push (lv_push (lv_nil hl) (lv_at hl 3 rfl)) (lv_at hl 2 rfl)) (lv_at hl 1 rfl)) (lv_at hl 0 rfl))
    · intro c85
      refine lv_aload_n C.1 C.2.1 d_M_readCore_177 rfl (lv_at hl 0 rfl) ?_
      refine hq_get (v := .ref (b + 22)) C f_M_74 k0 rfl d_M_readCore_178 ?_
      refine lv_iload_n C.1 C.2.1 d_M_readCore_181 rfl (lv_at hl 1 rfl) ?_
      refine lv_iconst (v := 2) C.1 C.2.1 d_M_readCore_182 (by decide) ?_
      refine lv_aload_n C.1 C.2.1 d_M_readCore_183 rfl (lv_at hl 0 rfl) ?_
      refine hq_get (v := .ref (b + 22)) C f_M_74 k0 rfl d_M_readCore_184 ?_
      refine lv_iload_n C.1 C.2.1 d_M_readCore_187 rfl (lv_at hl 1 rfl) ?_
      have e109 : va_at D vwCl (b + 22, .inl (cI, 4, .inl (A 21))) _ := hM 22 (by decide)
      refine hq_iald C 0 rfl e109 (vp_in_nI hj (by decide)) d_M_readCore_188 ?_
      rw [nI_clamp (show j < 2 ^ 31 by omega)]
      refine W.eq (g2 := F0 m 189 ls [.int (A 21 j), .int (2), .int (nI j), .ref (b + 22)]) rfl ?_
      refine lv_imul C.1 C.2.1 d_M_readCore_189 ?_
      refine lv_iload_n C.1 C.2.1 d_M_readCore_190 rfl (lv_at hl 2 rfl) ?_
      refine lv_iadd C.1 C.2.1 d_M_readCore_191 ?_
      have e110 : va_at D vwCl (b + 22, .inl (cI, 4, .inl (A 21))) _ := hM 22 (by decide)
      refine hq_iast (lo := lo) C 0 rfl e110 (vp_in_nI hj (by decide)) hL (by omega) d_M_readCore_192 (fun H111 locs u112 hL => ?_)
      rw [nI_clamp (show j < 2 ^ 31 by omega)] at u112
      have m113 := md_set (k := 21) (f := upd (A 21) j ((2 * (A 21 j)) + v2)) hM u112
      have k0 : va_at D vwCl (b, .inr (6, [.int (th), .int (nn), .ref (b + 1), .ref (b + 2), .ref (b + 3), .ref (b + 4), .ref (b + 5), .ref (b + 6), .ref (b + 7), .ref (b + 8), .ref (b + 9), .ref (b + 10), .ref (b + 11), .ref (b + 12), .ref (b + 13), .ref (b + 14), .ref (b + 15), .ref (b + 16), .ref (b + 17), .ref (b + 18), .ref (b + 19), .ref (b + 20), .ref (b + 21), .ref (b + 22), .ref (b + 23), .ref (b + 24), .ref (b + 25), .ref (b + 26), .ref (b + 27), .ref (b + 28), .ref (b + 29), .ref (b + 30)])) H111 := m113 0 (by decide)
      refine lv_goto (tgt := 287) C.1 C.2.1 d_M_readCore_193 (by decide) ?_
      exact s_M_readCore_287 D cI cZ cN cJ lo b hlo th nn (setA A 21 (upd (A 21) j ((2 * (A 21 j)) + v2))) j hj v2 v3 (((show f_M_readCore_167 A j v2 v3 = f_M_readCore_287 (setA A 21 (upd (A 21) j ((2 * (A 21 j)) + v2))) j v2 v3 from by unfold f_M_readCore_167; rw [if_neg c61, if_neg c85]).symm).trans hR) C hml hret hlk hL m113 (hq_Sput (hS) u112 (by omega) (by omega)) (lv_push (lv_push (lv_push (lv_push (lv_nil hl) (lv_at hl 3 rfl)) (lv_at hl 2 rfl)) (lv_at hl 1 rfl)) (lv_at hl 0 rfl))
set_option maxHeartbeats 4000000 in
set_option maxRecDepth 100000 in
theorem s_M_readCore_114 {p : Program} {l : Launch} {e : Env} {s : State} {m : MethodId} {args : Array Value} {below : List Frame} {meth : Method} {c : Code} {H : Heap} {locs : List Loc} {ls : Array Slot} (D : va_G) (cI cZ cN cJ : ClassId) (lo b : Nat) (hlo : lo ≤ b) (th nn : Int32) (A : Nat → Nat → Int32) (j : Nat) (hj : j < 4) (v2 v3 : Int32) {R9 : (Nat → Nat → Int32) × Int32} (hR : f_M_readCore_114 A j v2 v3 = R9) (C : hq_C p c s m args R_M b_M_readCore TB D vwCl (TY cI cZ cN cJ)) (hml : c.maxLocals = 6) (hret : meth.sig.returnType = (some .int)) (hlk : meth.locks = false) (hL : hq_L lo locs) (hM : hq_B D vwCl b 31 (mdC cI cZ b th nn A) H) (hS : hq_S b 31 s.heap H) (hl : lv_has ls 6 [(0, .ref (b)), (1, .int (nI j)), (2, .int (v2)), (3, .int (v3))]) : W p l e { frames := 1, cells := 0, slots := 0, locals := 21 } s m args below meth c H locs 0 0 (MQ below (hq_Q (fun H v H' => v = some (.int (R9).2) ∧ hq_B D vwCl b 31 (mdC cI cZ b th nn (R9).1) H' ∧ hq_S b 31 H H')) args s 0 0 (fun q => lo ≤ q)) (F0 m 114 ls []) := by
  have k0 : va_at D vwCl (b, .inr (6, [.int (th), .int (nn), .ref (b + 1), .ref (b + 2), .ref (b + 3), .ref (b + 4), .ref (b + 5), .ref (b + 6), .ref (b + 7), .ref (b + 8), .ref (b + 9), .ref (b + 10), .ref (b + 11), .ref (b + 12), .ref (b + 13), .ref (b + 14), .ref (b + 15), .ref (b + 16), .ref (b + 17), .ref (b + 18), .ref (b + 19), .ref (b + 20), .ref (b + 21), .ref (b + 22), .ref (b + 23), .ref (b + 24), .ref (b + 25), .ref (b + 26), .ref (b + 27), .ref (b + 28), .ref (b + 29), .ref (b + 30)])) H := hM 0 (by decide)
  refine lv_aload_n C.1 C.2.1 d_M_readCore_114 rfl (lv_at hl 0 rfl) ?_
  refine hq_get (v := .ref (b + 20)) C f_M_68 k0 rfl d_M_readCore_115 ?_
  refine lv_iload_n C.1 C.2.1 d_M_readCore_118 rfl (lv_at hl 1 rfl) ?_
  refine lv_iload_n C.1 C.2.1 d_M_readCore_119 rfl (lv_at hl 2 rfl) ?_
  have e61 : va_at D vwCl (b + 20, .inl (cI, 4, .inl (A 19))) _ := hM 20 (by decide)
  refine hq_iast (lo := lo) C 0 rfl e61 (vp_in_nI hj (by decide)) hL (by omega) d_M_readCore_120 (fun H62 locs u63 hL => ?_)
  rw [nI_clamp (show j < 2 ^ 31 by omega)] at u63
  have m64 := md_set (k := 19) (f := upd (A 19) j v2) hM u63
  have k0 : va_at D vwCl (b, .inr (6, [.int (th), .int (nn), .ref (b + 1), .ref (b + 2), .ref (b + 3), .ref (b + 4), .ref (b + 5), .ref (b + 6), .ref (b + 7), .ref (b + 8), .ref (b + 9), .ref (b + 10), .ref (b + 11), .ref (b + 12), .ref (b + 13), .ref (b + 14), .ref (b + 15), .ref (b + 16), .ref (b + 17), .ref (b + 18), .ref (b + 19), .ref (b + 20), .ref (b + 21), .ref (b + 22), .ref (b + 23), .ref (b + 24), .ref (b + 25), .ref (b + 26), .ref (b + 27), .ref (b + 28), .ref (b + 29), .ref (b + 30)])) H62 := m64 0 (by decide)
  refine lv_aload_n C.1 C.2.1 d_M_readCore_121 rfl (lv_at hl 0 rfl) ?_
  refine hq_get (v := .ref (b + 21)) C f_M_71 k0 rfl d_M_readCore_122 ?_
  refine lv_iload_n C.1 C.2.1 d_M_readCore_125 rfl (lv_at hl 1 rfl) ?_
  have e65 : va_at D vwCl (b + 21, .inl (cI, 4, .inl (A 20))) _ := m64 21 (by decide)
  refine hq_iald C 0 rfl e65 (vp_in_nI hj (by decide)) d_M_readCore_126 ?_
  rw [nI_clamp (show j < 2 ^ 31 by omega)]
  refine W.eq (g2 := F0 m 127 ls [.int (A 20 j)]) rfl ?_
  refine lv_iconst (v := 1) C.1 C.2.1 d_M_readCore_127 (by decide) ?_
  refine lv_ishl C.1 C.2.1 d_M_readCore_128 ?_
  refine lv_sipush (v := 32767) C.1 C.2.1 d_M_readCore_129 (by decide) ?_
  refine lv_iand C.1 C.2.1 d_M_readCore_132 ?_
  refine lv_istore C.1 C.2.1 d_M_readCore_133 hl (by decide) rfl (lv' := [(4, .int (((A 20 j) <<< (1 &&& 31)) &&& 32767)), (0, .ref (b)), (1, .int (nI j)), (2, .int (v2)), (3, .int (v3))]) (fun ls hl => ?_)
  refine lv_aload_n C.1 C.2.1 d_M_readCore_135 rfl (lv_at hl 1 rfl) ?_
  refine hq_get (v := .ref (b + 21)) C f_M_71 k0 rfl d_M_readCore_136 ?_
  refine lv_iload_n C.1 C.2.1 d_M_readCore_139 rfl (lv_at hl 2 rfl) ?_
  refine lv_iload_n C.1 C.2.1 d_M_readCore_140 rfl (lv_at hl 3 rfl) ?_
  refine lv_aload_n C.1 C.2.1 d_M_readCore_141 rfl (lv_at hl 1 rfl) ?_
  refine hq_get (v := .ref (b + 21)) C f_M_71 k0 rfl d_M_readCore_142 ?_
  refine lv_iload_n C.1 C.2.1 d_M_readCore_145 rfl (lv_at hl 2 rfl) ?_
  have e66 : va_at D vwCl (b + 21, .inl (cI, 4, .inl (A 20))) _ := m64 21 (by decide)
  refine hq_iald C 0 rfl e66 (vp_in_nI hj (by decide)) d_M_readCore_146 ?_
  rw [nI_clamp (show j < 2 ^ 31 by omega)]
  refine W.eq (g2 := F0 m 147 ls [.int (A 20 j), .int (v2), .int (nI j), .ref (b + 21)]) rfl ?_
  refine lv_bipush (v := 14) C.1 C.2.1 d_M_readCore_147 (by decide) ?_
  refine lv_ishr C.1 C.2.1 d_M_readCore_149 ?_
  refine lv_iconst (v := 1) C.1 C.2.1 d_M_readCore_150 (by decide) ?_
  refine lv_iand C.1 C.2.1 d_M_readCore_151 ?_
  refine lv_icmp_eq (tgt := 164) C.1 C.2.1 d_M_readCore_152 (by decide) ?_ ?_
  · intro c67
    refine lv_iload C.1 C.2.1 d_M_readCore_164 (lv_at hl 0 rfl) ?_
    have e68 : va_at D vwCl (b + 21, .inl (cI, 4, .inl (A 20))) _ := m64 21 (by decide)
    refine hq_iast (lo := lo) C 0 rfl e68 (vp_in_nI hj (by decide)) hL (by omega) d_M_readCore_166 (fun H69 locs u70 hL => ?_)
    rw [nI_clamp (show j < 2 ^ 31 by omega)] at u70
    have m71 := md_set (k := 20) (f := upd (A 20) j (((A 20 j) <<< (1 &&& 31)) &&& 32767)) m64 u70
    have k0 : va_at D vwCl (b, .inr (6, [.int (th), .int (nn), .ref (b + 1), .ref (b + 2), .ref (b + 3), .ref (b + 4), .ref (b + 5), .ref (b + 6), .ref (b + 7), .ref (b + 8), .ref (b + 9), .ref (b + 10), .ref (b + 11), .ref (b + 12), .ref (b + 13), .ref (b + 14), .ref (b + 15), .ref (b + 16), .ref (b + 17), .ref (b + 18), .ref (b + 19), .ref (b + 20), .ref (b + 21), .ref (b + 22), .ref (b + 23), .ref (b + 24), .ref (b + 25), .ref (b + 26), .ref (b + 27), .ref (b + 28), .ref (b + 29), .ref (b + 30)])) H69 := m71 0 (by decide)
    exact s_M_readCore_167 D cI cZ cN cJ lo b hlo th nn (setA (setA A 19 (upd (A 19) j v2)) 20 (upd (A 20) j (((A 20 j) <<< (1 &&& 31)) &&& 32767))) j hj v2 v3 (((show f_M_readCore_114 A j v2 v3 = f_M_readCore_167 (setA (setA A 19 (upd (A 19) j v2)) 20 (upd (A 20) j (((A 20 j) <<< (1 &&& 31)) &&& 32767))) j v2 v3 from by unfold f_M_readCore_114; rw [if_pos c67]).symm).trans hR) C hml hret hlk hL m71 (hq_Sput (hq_Sput (hS) u63 (by omega) (by omega)) u70 (by omega) (by omega)) (lv_push (lv_push (lv_push (lv_push (lv_nil hl) (lv_at hl 4 rfl)) (lv_at hl 3 rfl)) (lv_at hl 2 rfl)) (lv_at hl 1 rfl))
  · intro c67
    refine lv_iload C.1 C.2.1 d_M_readCore_155 (lv_at hl 0 rfl) ?_
    refine lv_sipush (v := 17817) C.1 C.2.1 d_M_readCore_157 (by decide) ?_
    refine lv_ixor C.1 C.2.1 d_M_readCore_160 ?_
    refine lv_goto (tgt := 166) C.1 C.2.1 d_M_readCore_161 (by decide) ?_
    have e72 : va_at D vwCl (b + 21, .inl (cI, 4, .inl (A 20))) _ := m64 21 (by decide)
    refine hq_iast (lo := lo) C 0 rfl e72 (vp_in_nI hj (by decide)) hL (by omega) d_M_readCore_166 (fun H73 locs u74 hL => ?_)
    rw [nI_clamp (show j < 2 ^ 31 by omega)] at u74
    have m75 := md_set (k := 20) (f := upd (A 20) j ((((A 20 j) <<< (1 &&& 31)) &&& 32767) ^^^ 17817)) m64 u74
    have k0 : va_at D vwCl (b, .inr (6, [.int (th), .int (nn), .ref (b + 1), .ref (b + 2), .ref (b + 3), .ref (b + 4), .ref (b + 5), .ref (b + 6), .ref (b + 7), .ref (b + 8), .ref (b + 9), .ref (b + 10), .ref (b + 11), .ref (b + 12), .ref (b + 13), .ref (b + 14), .ref (b + 15), .ref (b + 16), .ref (b + 17), .ref (b + 18), .ref (b + 19), .ref (b + 20), .ref (b + 21), .ref (b + 22), .ref (b + 23), .ref (b + 24), .ref (b + 25), .ref (b + 26), .ref (b + 27), .ref (b + 28), .ref (b + 29), .ref (b + 30)])) H73 := m75 0 (by decide)
    exact s_M_readCore_167 D cI cZ cN cJ lo b hlo th nn (setA (setA A 19 (upd (A 19) j v2)) 20 (upd (A 20) j ((((A 20 j) <<< (1 &&& 31)) &&& 32767) ^^^ 17817))) j hj v2 v3 (((show f_M_readCore_114 A j v2 v3 = f_M_readCore_167 (setA (setA A 19 (upd (A 19) j v2)) 20 (upd (A 20) j ((((A 20 j) <<< (1 &&& 31)) &&& 32767) ^^^ 17817))) j v2 v3 from by unfold f_M_readCore_114; rw [if_neg c67]).symm).trans hR) C hml hret hlk hL m75 (hq_Sput (hq_Sput (hS) u63 (by omega) (by omega)) u74 (by omega) (by omega)) (lv_push (lv_push (lv_push (lv_push (lv_nil hl) (lv_at hl 4 rfl)) (lv_at hl 3 rfl)) (lv_at hl 2 rfl)) (lv_at hl 1 rfl))
set_option maxHeartbeats 4000000 in
set_option maxRecDepth 100000 in
theorem c_M_readCore (l : Launch) (D : va_G) (cI cZ cN cJ : ClassId) (lo : Nat) (b : Nat) (hlo : lo ≤ b) (th nn : Int32) (A : Nat → Nat → Int32) (j : Nat) (hj : j < 4) (x : Int32) : hq_M l y_M_readCore b_M_readCore 6 (some .int) TB { frames := 1, cells := 0, slots := 0, locals := 21 } lo D vwCl (TY cI cZ cN cJ) [.ref (b), .int (nI j), .int (x)] (fun U => hq_B D vwCl b 31 (mdC cI cZ b th nn A) U.heap) (fun H v H' => v = some (.int (f_M_readCore A j x).2) ∧ hq_B D vwCl b 31 (mdC cI cZ b th nn (f_M_readCore A j x).1) H' ∧ hq_S b 31 H H') := by
  refine hq_ofW (by decide) (Nat.le_of_ble_eq_true rfl) ?_
  intro p e s m below meth c ls C hml hret hlk hnm hl hP
  have hL : hq_L lo [] := hq_L0
  have hl : lv_has ls 6 [(0, .ref (b)), (1, .int (nI j)), (2, .int (x))] := hl
  have hM : hq_B D vwCl b 31 (mdC cI cZ b th nn A) s.heap := hP
  have k0 : va_at D vwCl (b, .inr (6, [.int (th), .int (nn), .ref (b + 1), .ref (b + 2), .ref (b + 3), .ref (b + 4), .ref (b + 5), .ref (b + 6), .ref (b + 7), .ref (b + 8), .ref (b + 9), .ref (b + 10), .ref (b + 11), .ref (b + 12), .ref (b + 13), .ref (b + 14), .ref (b + 15), .ref (b + 16), .ref (b + 17), .ref (b + 18), .ref (b + 19), .ref (b + 20), .ref (b + 21), .ref (b + 22), .ref (b + 23), .ref (b + 24), .ref (b + 25), .ref (b + 26), .ref (b + 27), .ref (b + 28), .ref (b + 29), .ref (b + 30)])) s.heap := hM 0 (by decide)
  refine lv_aload_n C.1 C.2.1 d_M_readCore_0 rfl (lv_at hl 0 rfl) ?_
  refine hq_get (v := .ref (b + 19)) C f_M_65 k0 rfl d_M_readCore_1 ?_
  refine lv_iload_n C.1 C.2.1 d_M_readCore_4 rfl (lv_at hl 1 rfl) ?_
  have e41 : va_at D vwCl (b + 19, .inl (cI, 4, .inl (A 18))) _ := hM 19 (by decide)
  refine hq_iald C 0 rfl e41 (vp_in_nI hj (by decide)) d_M_readCore_5 ?_
  rw [nI_clamp (show j < 2 ^ 31 by omega)]
  refine W.eq (g2 := F0 m 6 ls [.int (A 18 j)]) rfl ?_
  refine lv_iconst (v := 5) C.1 C.2.1 d_M_readCore_6 (by decide) ?_
  refine lv_icmp_ne (tgt := 75) C.1 C.2.1 d_M_readCore_7 (by decide) ?_ ?_
  · intro c42
    refine lv_aload_n C.1 C.2.1 d_M_readCore_75 rfl (lv_at hl 0 rfl) ?_
    refine hq_get (v := .ref (b + 18)) C f_M_62 k0 rfl d_M_readCore_76 ?_
    refine lv_iload_n C.1 C.2.1 d_M_readCore_79 rfl (lv_at hl 1 rfl) ?_
    have e43 : va_at D vwCl (b + 18, .inl (cI, 4, .inl (A 17))) _ := hM 18 (by decide)
    refine hq_iald C 0 rfl e43 (vp_in_nI hj (by decide)) d_M_readCore_80 ?_
    rw [nI_clamp (show j < 2 ^ 31 by omega)]
    refine W.eq (g2 := F0 m 81 ls [.int (A 17 j)]) rfl ?_
    refine lv_istore_n C.1 C.2.1 d_M_readCore_81 rfl hl (by decide) rfl (lv' := [(3, .int (A 17 j)), (0, .ref (b)), (1, .int (nI j)), (2, .int (x))]) (fun ls hl => ?_)
    refine lv_aload_n C.1 C.2.1 d_M_readCore_82 rfl (lv_at hl 1 rfl) ?_
    refine hq_get (v := .ref (b + 19)) C f_M_65 k0 rfl d_M_readCore_83 ?_
    refine lv_iload_n C.1 C.2.1 d_M_readCore_86 rfl (lv_at hl 2 rfl) ?_
    refine lv_iload_n C.1 C.2.1 d_M_readCore_87 rfl (lv_at hl 0 rfl) ?_
    refine lv_if_le (tgt := 112) C.1 C.2.1 d_M_readCore_88 (by decide) ?_ ?_
    · intro c44
      refine lv_iconst (v := 1) C.1 C.2.1 d_M_readCore_112 (by decide) ?_
      have e45 : va_at D vwCl (b + 19, .inl (cI, 4, .inl (A 18))) _ := hM 19 (by decide)
      refine hq_iast (lo := lo) C 0 rfl e45 (vp_in_nI hj (by decide)) hL (by omega) d_M_readCore_113 (fun H46 locs u47 hL => ?_)
      rw [nI_clamp (show j < 2 ^ 31 by omega)] at u47
      have m48 := md_set (k := 18) (f := upd (A 18) j 1) hM u47
      have k0 : va_at D vwCl (b, .inr (6, [.int (th), .int (nn), .ref (b + 1), .ref (b + 2), .ref (b + 3), .ref (b + 4), .ref (b + 5), .ref (b + 6), .ref (b + 7), .ref (b + 8), .ref (b + 9), .ref (b + 10), .ref (b + 11), .ref (b + 12), .ref (b + 13), .ref (b + 14), .ref (b + 15), .ref (b + 16), .ref (b + 17), .ref (b + 18), .ref (b + 19), .ref (b + 20), .ref (b + 21), .ref (b + 22), .ref (b + 23), .ref (b + 24), .ref (b + 25), .ref (b + 26), .ref (b + 27), .ref (b + 28), .ref (b + 29), .ref (b + 30)])) H46 := m48 0 (by decide)
      exact s_M_readCore_114 D cI cZ cN cJ lo b hlo th nn (setA A 18 (upd (A 18) j 1)) j hj x (A 17 j) ((show f_M_readCore A j x = f_M_readCore_114 (setA A 18 (upd (A 18) j 1)) j x (A 17 j) from by unfold f_M_readCore; rw [if_neg c42, if_pos c44]).symm) C hml hret hlk hL m48 (hq_Sput (hq_S0) u47 (by omega) (by omega)) (lv_push (lv_push (lv_push (lv_push (lv_nil hl) (lv_at hl 0 rfl)) (lv_at hl 3 rfl)) (lv_at hl 2 rfl)) (lv_at hl 1 rfl))
    · intro c44
      refine lv_iload_n C.1 C.2.1 d_M_readCore_91 rfl (lv_at hl 3 rfl) ?_
      refine lv_aload_n C.1 C.2.1 d_M_readCore_92 rfl (lv_at hl 1 rfl) ?_
      refine hq_get (v := .ref (b + 20)) C f_M_68 k0 rfl d_M_readCore_93 ?_
      refine lv_iload_n C.1 C.2.1 d_M_readCore_96 rfl (lv_at hl 2 rfl) ?_
      have e49 : va_at D vwCl (b + 20, .inl (cI, 4, .inl (A 19))) _ := hM 20 (by decide)
      refine hq_iald C 0 rfl e49 (vp_in_nI hj (by decide)) d_M_readCore_97 ?_
      rw [nI_clamp (show j < 2 ^ 31 by omega)]
      refine W.eq (g2 := F0 m 98 ls [.int (A 19 j), .int (x), .int (nI j), .ref (b + 19)]) rfl ?_
      refine lv_icmp_ne (tgt := 112) C.1 C.2.1 d_M_readCore_98 (by decide) ?_ ?_
      · intro c50
        refine lv_iconst (v := 1) C.1 C.2.1 d_M_readCore_112 (by decide) ?_
        have e51 : va_at D vwCl (b + 19, .inl (cI, 4, .inl (A 18))) _ := hM 19 (by decide)
        refine hq_iast (lo := lo) C 0 rfl e51 (vp_in_nI hj (by decide)) hL (by omega) d_M_readCore_113 (fun H52 locs u53 hL => ?_)
        rw [nI_clamp (show j < 2 ^ 31 by omega)] at u53
        have m54 := md_set (k := 18) (f := upd (A 18) j 1) hM u53
        have k0 : va_at D vwCl (b, .inr (6, [.int (th), .int (nn), .ref (b + 1), .ref (b + 2), .ref (b + 3), .ref (b + 4), .ref (b + 5), .ref (b + 6), .ref (b + 7), .ref (b + 8), .ref (b + 9), .ref (b + 10), .ref (b + 11), .ref (b + 12), .ref (b + 13), .ref (b + 14), .ref (b + 15), .ref (b + 16), .ref (b + 17), .ref (b + 18), .ref (b + 19), .ref (b + 20), .ref (b + 21), .ref (b + 22), .ref (b + 23), .ref (b + 24), .ref (b + 25), .ref (b + 26), .ref (b + 27), .ref (b + 28), .ref (b + 29), .ref (b + 30)])) H52 := m54 0 (by decide)
        exact s_M_readCore_114 D cI cZ cN cJ lo b hlo th nn (setA A 18 (upd (A 18) j 1)) j hj x (A 17 j) ((show f_M_readCore A j x = f_M_readCore_114 (setA A 18 (upd (A 18) j 1)) j x (A 17 j) from by unfold f_M_readCore; rw [if_neg c42, if_neg c44, if_neg c50]).symm) C hml hret hlk hL m54 (hq_Sput (hq_S0) u53 (by omega) (by omega)) (lv_push (lv_push (lv_push (lv_push (lv_nil hl) (lv_at hl 0 rfl)) (lv_at hl 3 rfl)) (lv_at hl 2 rfl)) (lv_at hl 1 rfl))
      · intro c50
        refine lv_aload_n C.1 C.2.1 d_M_readCore_101 rfl (lv_at hl 1 rfl) ?_
        refine hq_get (v := .ref (b + 19)) C f_M_65 k0 rfl d_M_readCore_102 ?_
        refine lv_iload_n C.1 C.2.1 d_M_readCore_105 rfl (lv_at hl 2 rfl) ?_
        have e55 : va_at D vwCl (b + 19, .inl (cI, 4, .inl (A 18))) _ := hM 19 (by decide)
        refine hq_iald C 0 rfl e55 (vp_in_nI hj (by decide)) d_M_readCore_106 ?_
        rw [nI_clamp (show j < 2 ^ 31 by omega)]
        refine W.eq (g2 := F0 m 107 ls [.int (A 18 j), .int (nI j), .ref (b + 19)]) rfl ?_
        refine lv_iconst (v := 1) C.1 C.2.1 d_M_readCore_107 (by decide) ?_
        refine lv_iadd C.1 C.2.1 d_M_readCore_108 ?_
        refine lv_goto (tgt := 113) C.1 C.2.1 d_M_readCore_109 (by decide) ?_
        have e56 : va_at D vwCl (b + 19, .inl (cI, 4, .inl (A 18))) _ := hM 19 (by decide)
        refine hq_iast (lo := lo) C 0 rfl e56 (vp_in_nI hj (by decide)) hL (by omega) d_M_readCore_113 (fun H57 locs u58 hL => ?_)
        rw [nI_clamp (show j < 2 ^ 31 by omega)] at u58
        have m59 := md_set (k := 18) (f := upd (A 18) j ((A 18 j) + 1)) hM u58
        have k0 : va_at D vwCl (b, .inr (6, [.int (th), .int (nn), .ref (b + 1), .ref (b + 2), .ref (b + 3), .ref (b + 4), .ref (b + 5), .ref (b + 6), .ref (b + 7), .ref (b + 8), .ref (b + 9), .ref (b + 10), .ref (b + 11), .ref (b + 12), .ref (b + 13), .ref (b + 14), .ref (b + 15), .ref (b + 16), .ref (b + 17), .ref (b + 18), .ref (b + 19), .ref (b + 20), .ref (b + 21), .ref (b + 22), .ref (b + 23), .ref (b + 24), .ref (b + 25), .ref (b + 26), .ref (b + 27), .ref (b + 28), .ref (b + 29), .ref (b + 30)])) H57 := m59 0 (by decide)
        exact s_M_readCore_114 D cI cZ cN cJ lo b hlo th nn (setA A 18 (upd (A 18) j ((A 18 j) + 1))) j hj x (A 17 j) ((show f_M_readCore A j x = f_M_readCore_114 (setA A 18 (upd (A 18) j ((A 18 j) + 1))) j x (A 17 j) from by unfold f_M_readCore; rw [if_neg c42, if_neg c44, if_pos c50]).symm) C hml hret hlk hL m59 (hq_Sput (hq_S0) u58 (by omega) (by omega)) (lv_push (lv_push (lv_push (lv_push (lv_nil hl) (lv_at hl 0 rfl)) (lv_at hl 3 rfl)) (lv_at hl 2 rfl)) (lv_at hl 1 rfl))
  · intro c42
    refine lv_iload_n C.1 C.2.1 d_M_readCore_10 rfl (lv_at hl 2 rfl) ?_
    refine lv_aload_n C.1 C.2.1 d_M_readCore_11 rfl (lv_at hl 0 rfl) ?_
    refine hq_get (v := .ref (b + 20)) C f_M_68 k0 rfl d_M_readCore_12 ?_
    refine lv_iload_n C.1 C.2.1 d_M_readCore_15 rfl (lv_at hl 1 rfl) ?_
    have e60 : va_at D vwCl (b + 20, .inl (cI, 4, .inl (A 19))) _ := hM 20 (by decide)
    refine hq_iald C 0 rfl e60 (vp_in_nI hj (by decide)) d_M_readCore_16 ?_
    rw [nI_clamp (show j < 2 ^ 31 by omega)]
    refine W.eq (g2 := F0 m 17 ls [.int (A 19 j), .int (x)]) rfl ?_
    refine lv_icmp_ne (tgt := 24) C.1 C.2.1 d_M_readCore_17 (by decide) ?_ ?_
    · intro c61
      refine lv_iconst (v := 0) C.1 C.2.1 d_M_readCore_24 (by decide) ?_
      refine lv_istore_n C.1 C.2.1 d_M_readCore_25 rfl hl (by decide) rfl (lv' := [(3, .int (0)), (0, .ref (b)), (1, .int (nI j)), (2, .int (x))]) (fun ls hl => ?_)
      refine lv_aload_n C.1 C.2.1 d_M_readCore_26 rfl (lv_at hl 1 rfl) ?_
      refine hq_get (v := .ref (b + 20)) C f_M_68 k0 rfl d_M_readCore_27 ?_
      refine lv_iload_n C.1 C.2.1 d_M_readCore_30 rfl (lv_at hl 2 rfl) ?_
      refine lv_iload_n C.1 C.2.1 d_M_readCore_31 rfl (lv_at hl 3 rfl) ?_
      have e62 : va_at D vwCl (b + 20, .inl (cI, 4, .inl (A 19))) _ := hM 20 (by decide)
      refine hq_iast (lo := lo) C 0 rfl e62 (vp_in_nI hj (by decide)) hL (by omega) d_M_readCore_32 (fun H63 locs u64 hL => ?_)
      rw [nI_clamp (show j < 2 ^ 31 by omega)] at u64
      have m65 := md_set (k := 19) (f := upd (A 19) j x) hM u64
      have k0 : va_at D vwCl (b, .inr (6, [.int (th), .int (nn), .ref (b + 1), .ref (b + 2), .ref (b + 3), .ref (b + 4), .ref (b + 5), .ref (b + 6), .ref (b + 7), .ref (b + 8), .ref (b + 9), .ref (b + 10), .ref (b + 11), .ref (b + 12), .ref (b + 13), .ref (b + 14), .ref (b + 15), .ref (b + 16), .ref (b + 17), .ref (b + 18), .ref (b + 19), .ref (b + 20), .ref (b + 21), .ref (b + 22), .ref (b + 23), .ref (b + 24), .ref (b + 25), .ref (b + 26), .ref (b + 27), .ref (b + 28), .ref (b + 29), .ref (b + 30)])) H63 := m65 0 (by decide)
      refine lv_aload_n C.1 C.2.1 d_M_readCore_33 rfl (lv_at hl 1 rfl) ?_
      refine hq_get (v := .ref (b + 19)) C f_M_65 k0 rfl d_M_readCore_34 ?_
      refine lv_iload_n C.1 C.2.1 d_M_readCore_37 rfl (lv_at hl 2 rfl) ?_
      refine lv_iconst (v := 1) C.1 C.2.1 d_M_readCore_38 (by decide) ?_
      have e66 : va_at D vwCl (b + 19, .inl (cI, 4, .inl (A 18))) _ := m65 19 (by decide)
      refine hq_iast (lo := lo) C 0 rfl e66 (vp_in_nI hj (by decide)) hL (by omega) d_M_readCore_39 (fun H67 locs u68 hL => ?_)
      rw [nI_clamp (show j < 2 ^ 31 by omega)] at u68
      have m69 := md_set (k := 18) (f := upd (A 18) j 1) m65 u68
      have k0 : va_at D vwCl (b, .inr (6, [.int (th), .int (nn), .ref (b + 1), .ref (b + 2), .ref (b + 3), .ref (b + 4), .ref (b + 5), .ref (b + 6), .ref (b + 7), .ref (b + 8), .ref (b + 9), .ref (b + 10), .ref (b + 11), .ref (b + 12), .ref (b + 13), .ref (b + 14), .ref (b + 15), .ref (b + 16), .ref (b + 17), .ref (b + 18), .ref (b + 19), .ref (b + 20), .ref (b + 21), .ref (b + 22), .ref (b + 23), .ref (b + 24), .ref (b + 25), .ref (b + 26), .ref (b + 27), .ref (b + 28), .ref (b + 29), .ref (b + 30)])) H67 := m69 0 (by decide)
      refine lv_aload_n C.1 C.2.1 d_M_readCore_40 rfl (lv_at hl 1 rfl) ?_
      refine hq_get (v := .ref (b + 17)) C f_M_59 k0 rfl d_M_readCore_41 ?_
      refine lv_iload_n C.1 C.2.1 d_M_readCore_44 rfl (lv_at hl 2 rfl) ?_
      refine lv_aload_n C.1 C.2.1 d_M_readCore_45 rfl (lv_at hl 1 rfl) ?_
      refine hq_get (v := .ref (b + 18)) C f_M_62 k0 rfl d_M_readCore_46 ?_
      refine lv_iload_n C.1 C.2.1 d_M_readCore_49 rfl (lv_at hl 2 rfl) ?_
      have e70 : va_at D vwCl (b + 18, .inl (cI, 4, .inl (A 17))) _ := m69 18 (by decide)
      refine hq_iald C 0 rfl e70 (vp_in_nI hj (by decide)) d_M_readCore_50 ?_
      rw [nI_clamp (show j < 2 ^ 31 by omega)]
      refine W.eq (g2 := F0 m 51 ls [.int (A 17 j), .int (nI j), .ref (b + 17)]) rfl ?_
      refine lv_aload_n C.1 C.2.1 d_M_readCore_51 rfl (lv_at hl 1 rfl) ?_
      refine lv_iload_n C.1 C.2.1 d_M_readCore_52 rfl (lv_at hl 2 rfl) ?_
      refine hq_callV (lo := lo) (As := [.int (nI j)]) (rest := [.int (A 17 j), .int (nI j), .ref (b + 17)]) C tb_good hml Y_M_120 (c_M_coreLength l D cI cZ cN cJ lo b th nn (setA (setA A 19 (upd (A 19) j x)) 18 (upd (A 18) j 1)) j hj) k0 rfl (fun _ _ _ _ h => h) (fun U hU hW => by show hq_B D vwCl b 31 (mdC cI cZ b th nn (setA (setA A 19 (upd (A 19) j x)) 18 (upd (A 18) j 1))) U.heap; rw [hU]; exact m69) hL hl.1 rfl rfl ⟨⟨Nat.le_of_ble_eq_true rfl, Nat.le_of_ble_eq_true rfl⟩, Nat.le_of_ble_eq_true rfl, Nat.le_of_ble_eq_true rfl⟩ (Nat.le_of_ble_eq_true rfl) d_M_readCore_53 (fun v H71 locs hp hL => ?_)
      obtain ⟨rfl, rfl⟩ := hp
      refine W.eq (g2 := F0 m 56 ls [.int ((f_M_coreLength (setA (setA A 19 (upd (A 19) j x)) 18 (upd (A 18) j 1)) j)), .int (A 17 j), .int (nI j), .ref (b + 17)]) rfl ?_
      refine lv_icmp_ne (tgt := 63) C.1 C.2.1 d_M_readCore_56 (by decide) ?_ ?_
      · intro c72
        refine lv_iconst (v := 0) C.1 C.2.1 d_M_readCore_63 (by decide) ?_
        have e73 : va_at D vwCl (b + 17, .inl (cI, 4, .inl (A 16))) _ := m69 17 (by decide)
        refine hq_iast (lo := lo) C 0 rfl e73 (vp_in_nI hj (by decide)) hL (by omega) d_M_readCore_64 (fun H74 locs u75 hL => ?_)
        rw [nI_clamp (show j < 2 ^ 31 by omega)] at u75
        have m76 := md_set (k := 16) (f := upd (A 16) j 0) m69 u75
        have k0 : va_at D vwCl (b, .inr (6, [.int (th), .int (nn), .ref (b + 1), .ref (b + 2), .ref (b + 3), .ref (b + 4), .ref (b + 5), .ref (b + 6), .ref (b + 7), .ref (b + 8), .ref (b + 9), .ref (b + 10), .ref (b + 11), .ref (b + 12), .ref (b + 13), .ref (b + 14), .ref (b + 15), .ref (b + 16), .ref (b + 17), .ref (b + 18), .ref (b + 19), .ref (b + 20), .ref (b + 21), .ref (b + 22), .ref (b + 23), .ref (b + 24), .ref (b + 25), .ref (b + 26), .ref (b + 27), .ref (b + 28), .ref (b + 29), .ref (b + 30)])) H74 := m76 0 (by decide)
        refine lv_iload_n C.1 C.2.1 d_M_readCore_65 rfl (lv_at hl 0 rfl) ?_
        refine lv_if_eq (tgt := 73) C.1 C.2.1 d_M_readCore_66 (by decide) (fun _ => ?_) (fun hn => absurd (by decide) hn)
        refine lv_iconst (v := 0) C.1 C.2.1 d_M_readCore_73 (by decide) ?_
        have hf : f_M_readCore A j x = ((setA (setA (setA A 19 (upd (A 19) j x)) 18 (upd (A 18) j 1)) 16 (upd (A 16) j 0)), 0) := by unfold f_M_readCore; rw [if_pos c42, if_neg c61, if_neg c72]
        exact hq_iret C hret hlk (Nat.le_of_ble_eq_true rfl) (Nat.le_of_ble_eq_true rfl) hL ⟨by rw [hf], by rw [hf]; exact m76, hq_Sput (hq_Sput (hq_Sput (hq_S0) u64 (by omega) (by omega)) u68 (by omega) (by omega)) u75 (by omega) (by omega)⟩ d_M_readCore_74
      · intro c72
        refine lv_iconst (v := 1) C.1 C.2.1 d_M_readCore_59 (by decide) ?_
        refine lv_goto (tgt := 64) C.1 C.2.1 d_M_readCore_60 (by decide) ?_
        have e77 : va_at D vwCl (b + 17, .inl (cI, 4, .inl (A 16))) _ := m69 17 (by decide)
        refine hq_iast (lo := lo) C 0 rfl e77 (vp_in_nI hj (by decide)) hL (by omega) d_M_readCore_64 (fun H78 locs u79 hL => ?_)
        rw [nI_clamp (show j < 2 ^ 31 by omega)] at u79
        have m80 := md_set (k := 16) (f := upd (A 16) j 1) m69 u79
        have k0 : va_at D vwCl (b, .inr (6, [.int (th), .int (nn), .ref (b + 1), .ref (b + 2), .ref (b + 3), .ref (b + 4), .ref (b + 5), .ref (b + 6), .ref (b + 7), .ref (b + 8), .ref (b + 9), .ref (b + 10), .ref (b + 11), .ref (b + 12), .ref (b + 13), .ref (b + 14), .ref (b + 15), .ref (b + 16), .ref (b + 17), .ref (b + 18), .ref (b + 19), .ref (b + 20), .ref (b + 21), .ref (b + 22), .ref (b + 23), .ref (b + 24), .ref (b + 25), .ref (b + 26), .ref (b + 27), .ref (b + 28), .ref (b + 29), .ref (b + 30)])) H78 := m80 0 (by decide)
        refine lv_iload_n C.1 C.2.1 d_M_readCore_65 rfl (lv_at hl 0 rfl) ?_
        refine lv_if_eq (tgt := 73) C.1 C.2.1 d_M_readCore_66 (by decide) (fun _ => ?_) (fun hn => absurd (by decide) hn)
        refine lv_iconst (v := 0) C.1 C.2.1 d_M_readCore_73 (by decide) ?_
        have hf : f_M_readCore A j x = ((setA (setA (setA A 19 (upd (A 19) j x)) 18 (upd (A 18) j 1)) 16 (upd (A 16) j 1)), 0) := by unfold f_M_readCore; rw [if_pos c42, if_neg c61, if_pos c72]
        exact hq_iret C hret hlk (Nat.le_of_ble_eq_true rfl) (Nat.le_of_ble_eq_true rfl) hL ⟨by rw [hf], by rw [hf]; exact m80, hq_Sput (hq_Sput (hq_Sput (hq_S0) u64 (by omega) (by omega)) u68 (by omega) (by omega)) u79 (by omega) (by omega)⟩ d_M_readCore_74
    · intro c61
      refine lv_iconst (v := 1) C.1 C.2.1 d_M_readCore_20 (by decide) ?_
      refine lv_goto (tgt := 25) C.1 C.2.1 d_M_readCore_21 (by decide) ?_
      refine lv_istore_n C.1 C.2.1 d_M_readCore_25 rfl hl (by decide) rfl (lv' := [(3, .int (1)), (0, .ref (b)), (1, .int (nI j)), (2, .int (x))]) (fun ls hl => ?_)
      refine lv_aload_n C.1 C.2.1 d_M_readCore_26 rfl (lv_at hl 1 rfl) ?_
      refine hq_get (v := .ref (b + 20)) C f_M_68 k0 rfl d_M_readCore_27 ?_
      refine lv_iload_n C.1 C.2.1 d_M_readCore_30 rfl (lv_at hl 2 rfl) ?_
      refine lv_iload_n C.1 C.2.1 d_M_readCore_31 rfl (lv_at hl 3 rfl) ?_
      have e81 : va_at D vwCl (b + 20, .inl (cI, 4, .inl (A 19))) _ := hM 20 (by decide)
      refine hq_iast (lo := lo) C 0 rfl e81 (vp_in_nI hj (by decide)) hL (by omega) d_M_readCore_32 (fun H82 locs u83 hL => ?_)
      rw [nI_clamp (show j < 2 ^ 31 by omega)] at u83
      have m84 := md_set (k := 19) (f := upd (A 19) j x) hM u83
      have k0 : va_at D vwCl (b, .inr (6, [.int (th), .int (nn), .ref (b + 1), .ref (b + 2), .ref (b + 3), .ref (b + 4), .ref (b + 5), .ref (b + 6), .ref (b + 7), .ref (b + 8), .ref (b + 9), .ref (b + 10), .ref (b + 11), .ref (b + 12), .ref (b + 13), .ref (b + 14), .ref (b + 15), .ref (b + 16), .ref (b + 17), .ref (b + 18), .ref (b + 19), .ref (b + 20), .ref (b + 21), .ref (b + 22), .ref (b + 23), .ref (b + 24), .ref (b + 25), .ref (b + 26), .ref (b + 27), .ref (b + 28), .ref (b + 29), .ref (b + 30)])) H82 := m84 0 (by decide)
      refine lv_aload_n C.1 C.2.1 d_M_readCore_33 rfl (lv_at hl 1 rfl) ?_
      refine hq_get (v := .ref (b + 19)) C f_M_65 k0 rfl d_M_readCore_34 ?_
      refine lv_iload_n C.1 C.2.1 d_M_readCore_37 rfl (lv_at hl 2 rfl) ?_
      refine lv_iconst (v := 1) C.1 C.2.1 d_M_readCore_38 (by decide) ?_
      have e85 : va_at D vwCl (b + 19, .inl (cI, 4, .inl (A 18))) _ := m84 19 (by decide)
      refine hq_iast (lo := lo) C 0 rfl e85 (vp_in_nI hj (by decide)) hL (by omega) d_M_readCore_39 (fun H86 locs u87 hL => ?_)
      rw [nI_clamp (show j < 2 ^ 31 by omega)] at u87
      have m88 := md_set (k := 18) (f := upd (A 18) j 1) m84 u87
      have k0 : va_at D vwCl (b, .inr (6, [.int (th), .int (nn), .ref (b + 1), .ref (b + 2), .ref (b + 3), .ref (b + 4), .ref (b + 5), .ref (b + 6), .ref (b + 7), .ref (b + 8), .ref (b + 9), .ref (b + 10), .ref (b + 11), .ref (b + 12), .ref (b + 13), .ref (b + 14), .ref (b + 15), .ref (b + 16), .ref (b + 17), .ref (b + 18), .ref (b + 19), .ref (b + 20), .ref (b + 21), .ref (b + 22), .ref (b + 23), .ref (b + 24), .ref (b + 25), .ref (b + 26), .ref (b + 27), .ref (b + 28), .ref (b + 29), .ref (b + 30)])) H86 := m88 0 (by decide)
      refine lv_aload_n C.1 C.2.1 d_M_readCore_40 rfl (lv_at hl 1 rfl) ?_
      refine hq_get (v := .ref (b + 17)) C f_M_59 k0 rfl d_M_readCore_41 ?_
      refine lv_iload_n C.1 C.2.1 d_M_readCore_44 rfl (lv_at hl 2 rfl) ?_
      refine lv_aload_n C.1 C.2.1 d_M_readCore_45 rfl (lv_at hl 1 rfl) ?_
      refine hq_get (v := .ref (b + 18)) C f_M_62 k0 rfl d_M_readCore_46 ?_
      refine lv_iload_n C.1 C.2.1 d_M_readCore_49 rfl (lv_at hl 2 rfl) ?_
      have e89 : va_at D vwCl (b + 18, .inl (cI, 4, .inl (A 17))) _ := m88 18 (by decide)
      refine hq_iald C 0 rfl e89 (vp_in_nI hj (by decide)) d_M_readCore_50 ?_
      rw [nI_clamp (show j < 2 ^ 31 by omega)]
      refine W.eq (g2 := F0 m 51 ls [.int (A 17 j), .int (nI j), .ref (b + 17)]) rfl ?_
      refine lv_aload_n C.1 C.2.1 d_M_readCore_51 rfl (lv_at hl 1 rfl) ?_
      refine lv_iload_n C.1 C.2.1 d_M_readCore_52 rfl (lv_at hl 2 rfl) ?_
      refine hq_callV (lo := lo) (As := [.int (nI j)]) (rest := [.int (A 17 j), .int (nI j), .ref (b + 17)]) C tb_good hml Y_M_120 (c_M_coreLength l D cI cZ cN cJ lo b th nn (setA (setA A 19 (upd (A 19) j x)) 18 (upd (A 18) j 1)) j hj) k0 rfl (fun _ _ _ _ h => h) (fun U hU hW => by show hq_B D vwCl b 31 (mdC cI cZ b th nn (setA (setA A 19 (upd (A 19) j x)) 18 (upd (A 18) j 1))) U.heap; rw [hU]; exact m88) hL hl.1 rfl rfl ⟨⟨Nat.le_of_ble_eq_true rfl, Nat.le_of_ble_eq_true rfl⟩, Nat.le_of_ble_eq_true rfl, Nat.le_of_ble_eq_true rfl⟩ (Nat.le_of_ble_eq_true rfl) d_M_readCore_53 (fun v H90 locs hp hL => ?_)
      obtain ⟨rfl, rfl⟩ := hp
      refine W.eq (g2 := F0 m 56 ls [.int ((f_M_coreLength (setA (setA A 19 (upd (A 19) j x)) 18 (upd (A 18) j 1)) j)), .int (A 17 j), .int (nI j), .ref (b + 17)]) rfl ?_
      refine lv_icmp_ne (tgt := 63) C.1 C.2.1 d_M_readCore_56 (by decide) ?_ ?_
      · intro c91
        refine lv_iconst (v := 0) C.1 C.2.1 d_M_readCore_63 (by decide) ?_
        have e92 : va_at D vwCl (b + 17, .inl (cI, 4, .inl (A 16))) _ := m88 17 (by decide)
        refine hq_iast (lo := lo) C 0 rfl e92 (vp_in_nI hj (by decide)) hL (by omega) d_M_readCore_64 (fun H93 locs u94 hL => ?_)
        rw [nI_clamp (show j < 2 ^ 31 by omega)] at u94
        have m95 := md_set (k := 16) (f := upd (A 16) j 0) m88 u94
        have k0 : va_at D vwCl (b, .inr (6, [.int (th), .int (nn), .ref (b + 1), .ref (b + 2), .ref (b + 3), .ref (b + 4), .ref (b + 5), .ref (b + 6), .ref (b + 7), .ref (b + 8), .ref (b + 9), .ref (b + 10), .ref (b + 11), .ref (b + 12), .ref (b + 13), .ref (b + 14), .ref (b + 15), .ref (b + 16), .ref (b + 17), .ref (b + 18), .ref (b + 19), .ref (b + 20), .ref (b + 21), .ref (b + 22), .ref (b + 23), .ref (b + 24), .ref (b + 25), .ref (b + 26), .ref (b + 27), .ref (b + 28), .ref (b + 29), .ref (b + 30)])) H93 := m95 0 (by decide)
        refine lv_iload_n C.1 C.2.1 d_M_readCore_65 rfl (lv_at hl 0 rfl) ?_
        refine lv_if_eq (tgt := 73) C.1 C.2.1 d_M_readCore_66 (by decide) (fun hn => absurd hn (by decide)) (fun _ => ?_)
        refine lv_iconst (v := 3) C.1 C.2.1 d_M_readCore_69 (by decide) ?_
        refine lv_goto (tgt := 74) C.1 C.2.1 d_M_readCore_70 (by decide) ?_
        have hf : f_M_readCore A j x = ((setA (setA (setA A 19 (upd (A 19) j x)) 18 (upd (A 18) j 1)) 16 (upd (A 16) j 0)), 3) := by unfold f_M_readCore; rw [if_pos c42, if_pos c61, if_neg c91]
        exact hq_iret C hret hlk (Nat.le_of_ble_eq_true rfl) (Nat.le_of_ble_eq_true rfl) hL ⟨by rw [hf], by rw [hf]; exact m95, hq_Sput (hq_Sput (hq_Sput (hq_S0) u83 (by omega) (by omega)) u87 (by omega) (by omega)) u94 (by omega) (by omega)⟩ d_M_readCore_74
      · intro c91
        refine lv_iconst (v := 1) C.1 C.2.1 d_M_readCore_59 (by decide) ?_
        refine lv_goto (tgt := 64) C.1 C.2.1 d_M_readCore_60 (by decide) ?_
        have e96 : va_at D vwCl (b + 17, .inl (cI, 4, .inl (A 16))) _ := m88 17 (by decide)
        refine hq_iast (lo := lo) C 0 rfl e96 (vp_in_nI hj (by decide)) hL (by omega) d_M_readCore_64 (fun H97 locs u98 hL => ?_)
        rw [nI_clamp (show j < 2 ^ 31 by omega)] at u98
        have m99 := md_set (k := 16) (f := upd (A 16) j 1) m88 u98
        have k0 : va_at D vwCl (b, .inr (6, [.int (th), .int (nn), .ref (b + 1), .ref (b + 2), .ref (b + 3), .ref (b + 4), .ref (b + 5), .ref (b + 6), .ref (b + 7), .ref (b + 8), .ref (b + 9), .ref (b + 10), .ref (b + 11), .ref (b + 12), .ref (b + 13), .ref (b + 14), .ref (b + 15), .ref (b + 16), .ref (b + 17), .ref (b + 18), .ref (b + 19), .ref (b + 20), .ref (b + 21), .ref (b + 22), .ref (b + 23), .ref (b + 24), .ref (b + 25), .ref (b + 26), .ref (b + 27), .ref (b + 28), .ref (b + 29), .ref (b + 30)])) H97 := m99 0 (by decide)
        refine lv_iload_n C.1 C.2.1 d_M_readCore_65 rfl (lv_at hl 0 rfl) ?_
        refine lv_if_eq (tgt := 73) C.1 C.2.1 d_M_readCore_66 (by decide) (fun hn => absurd hn (by decide)) (fun _ => ?_)
        refine lv_iconst (v := 3) C.1 C.2.1 d_M_readCore_69 (by decide) ?_
        refine lv_goto (tgt := 74) C.1 C.2.1 d_M_readCore_70 (by decide) ?_
        have hf : f_M_readCore A j x = ((setA (setA (setA A 19 (upd (A 19) j x)) 18 (upd (A 18) j 1)) 16 (upd (A 16) j 1)), 3) := by unfold f_M_readCore; rw [if_pos c42, if_pos c61, if_pos c91]
        exact hq_iret C hret hlk (Nat.le_of_ble_eq_true rfl) (Nat.le_of_ble_eq_true rfl) hL ⟨by rw [hf], by rw [hf]; exact m99, hq_Sput (hq_Sput (hq_Sput (hq_S0) u83 (by omega) (by omega)) u87 (by omega) (by omega)) u98 (by omega) (by omega)⟩ d_M_readCore_74
set_option maxHeartbeats 4000000 in
set_option maxRecDepth 100000 in
theorem ok_M_readCore_332 (A : Nat → Nat → Int32) (j : Nat) (hj : j < 4) (ok : okA A) : okA (f_M_readCore_332 A j).1 := by
  unfold f_M_readCore_332
  by_cases c63 : (A 17 j) = ((f_M_coreLength A j))
  · rw [if_pos c63]
    by_cases c69 : 5 ≤ (A 18 j)
    · rw [if_pos c69]
      exact (okA_o (by decide) ok)
    · rw [if_neg c69]
      exact (okA_o (by decide) ok)
  · rw [if_neg c63]
    exact (okA_o (by decide) ok)
set_option maxHeartbeats 4000000 in
set_option maxRecDepth 100000 in
theorem ok_M_readCore_314 (A : Nat → Nat → Int32) (j : Nat) (hj : j < 4) (v3 : Int32) (ok : okA A) : okA (f_M_readCore_314 A j v3).1 := by
  unfold f_M_readCore_314
  by_cases c61 : v3 = 18
  · rw [if_pos c61]
    by_cases c63 : (A 22 j) ≤ 2
    · rw [if_pos c63]
      exact ok_M_readCore_332 A j hj ok
    · rw [if_neg c63]
      exact ok
  · rw [if_neg c61]
    exact ok_M_readCore_332 A j hj ok
set_option maxHeartbeats 4000000 in
set_option maxRecDepth 100000 in
theorem ok_M_readCore_287 (A : Nat → Nat → Int32) (j : Nat) (hj : j < 4) (v2 v3 : Int32) (ok : okA A) : okA (f_M_readCore_287 A j v2 v3).1 := by
  unfold f_M_readCore_287
  by_cases c66 : v3 ≤ 11
  · rw [if_pos c66]
    exact ok_M_readCore_314 (setA A 17 (upd (A 17) j ((A 17 j) + 1))) j hj v3 (okA_o (by decide) ok)
  · rw [if_neg c66]
    by_cases c67 : 15 ≤ v3
    · rw [if_pos c67]
      exact ok_M_readCore_314 (setA A 17 (upd (A 17) j ((A 17 j) + 1))) j hj v3 (okA_o (by decide) ok)
    · rw [if_neg c67]
      by_cases c68 : v2 = 1
      · rw [if_pos c68]
        exact (okA_o (by decide) ok)
      · rw [if_neg c68]
        exact ok_M_readCore_314 (setA A 17 (upd (A 17) j ((A 17 j) + 1))) j hj v3 (okA_o (by decide) ok)
set_option maxHeartbeats 4000000 in
set_option maxRecDepth 100000 in
theorem ok_M_readCore_167 (A : Nat → Nat → Int32) (j : Nat) (hj : j < 4) (v2 v3 : Int32) (ok : okA A) : okA (f_M_readCore_167 A j v2 v3).1 := by
  unfold f_M_readCore_167
  by_cases c61 : v3 ≤ 0
  · rw [if_pos c61]
    by_cases c62 : v3 ≤ 14
    · rw [if_pos c62]
      by_cases c63 : v3 ≤ 18
      · rw [if_pos c63]
        exact ok_M_readCore_287 A j hj v2 v3 ok
      · rw [if_neg c63]
        by_cases c65 : (19 + (8 * (A 22 j))) ≤ v3
        · rw [if_pos c65]
          exact ok_M_readCore_287 A j hj v2 v3 ok
        · rw [if_neg c65]
          exact ok_M_readCore_287 (setA A 23 (upd (A 23) j ((A 23 j) ||| (v2 <<< ((((8 * ((v3 - 19) / 8)) + 7) - ((v3 - 19) - (v3 - 19) / 8 * 8)) &&& 31))))) j hj v2 v3 (okA_o (by decide) ok)
    · rw [if_neg c62]
      by_cases c71 : 19 ≤ v3
      · rw [if_pos c71]
        by_cases c72 : v3 ≤ 18
        · rw [if_pos c72]
          exact ok_M_readCore_287 A j hj v2 v3 ok
        · rw [if_neg c72]
          by_cases c74 : (19 + (8 * (A 22 j))) ≤ v3
          · rw [if_pos c74]
            exact ok_M_readCore_287 A j hj v2 v3 ok
          · rw [if_neg c74]
            exact ok_M_readCore_287 (setA A 23 (upd (A 23) j ((A 23 j) ||| (v2 <<< ((((8 * ((v3 - 19) / 8)) + 7) - ((v3 - 19) - (v3 - 19) / 8 * 8)) &&& 31))))) j hj v2 v3 (okA_o (by decide) ok)
      · rw [if_neg c71]
        exact ok_M_readCore_287 (setA A 22 (upd (A 22) j ((2 * (A 22 j)) + v2))) j hj v2 v3 (okA_o (by decide) ok)
  · rw [if_neg c61]
    by_cases c85 : 12 ≤ v3
    · rw [if_pos c85]
      by_cases c86 : v3 ≤ 14
      · rw [if_pos c86]
        by_cases c87 : v3 ≤ 18
        · rw [if_pos c87]
          exact ok_M_readCore_287 A j hj v2 v3 ok
        · rw [if_neg c87]
          by_cases c89 : (19 + (8 * (A 22 j))) ≤ v3
          · rw [if_pos c89]
            exact ok_M_readCore_287 A j hj v2 v3 ok
          · rw [if_neg c89]
            exact ok_M_readCore_287 (setA A 23 (upd (A 23) j ((A 23 j) ||| (v2 <<< ((((8 * ((v3 - 19) / 8)) + 7) - ((v3 - 19) - (v3 - 19) / 8 * 8)) &&& 31))))) j hj v2 v3 (okA_o (by decide) ok)
      · rw [if_neg c86]
        by_cases c95 : 19 ≤ v3
        · rw [if_pos c95]
          by_cases c96 : v3 ≤ 18
          · rw [if_pos c96]
            exact ok_M_readCore_287 A j hj v2 v3 ok
          · rw [if_neg c96]
            by_cases c98 : (19 + (8 * (A 22 j))) ≤ v3
            · rw [if_pos c98]
              exact ok_M_readCore_287 A j hj v2 v3 ok
            · rw [if_neg c98]
              exact ok_M_readCore_287 (setA A 23 (upd (A 23) j ((A 23 j) ||| (v2 <<< ((((8 * ((v3 - 19) / 8)) + 7) - ((v3 - 19) - (v3 - 19) / 8 * 8)) &&& 31))))) j hj v2 v3 (okA_o (by decide) ok)
        · rw [if_neg c95]
          exact ok_M_readCore_287 (setA A 22 (upd (A 22) j ((2 * (A 22 j)) + v2))) j hj v2 v3 (okA_o (by decide) ok)
    · rw [if_neg c85]
      exact ok_M_readCore_287 (setA A 21 (upd (A 21) j ((2 * (A 21 j)) + v2))) j hj v2 v3 (okA_o (by decide) ok)
set_option maxHeartbeats 4000000 in
set_option maxRecDepth 100000 in
theorem ok_M_readCore_114 (A : Nat → Nat → Int32) (j : Nat) (hj : j < 4) (v2 v3 : Int32) (ok : okA A) : okA (f_M_readCore_114 A j v2 v3).1 := by
  unfold f_M_readCore_114
  by_cases c67 : v2 = (((A 20 j) >>> (14 &&& 31)) &&& 1)
  · rw [if_pos c67]
    exact ok_M_readCore_167 (setA (setA A 19 (upd (A 19) j v2)) 20 (upd (A 20) j (((A 20 j) <<< (1 &&& 31)) &&& 32767))) j hj v2 v3 (okA_o (by decide) (okA_o (by decide) ok))
  · rw [if_neg c67]
    exact ok_M_readCore_167 (setA (setA A 19 (upd (A 19) j v2)) 20 (upd (A 20) j ((((A 20 j) <<< (1 &&& 31)) &&& 32767) ^^^ 17817))) j hj v2 v3 (okA_o (by decide) (okA_o (by decide) ok))
set_option maxHeartbeats 4000000 in
set_option maxRecDepth 100000 in
theorem ok_M_readCore (A : Nat → Nat → Int32) (j : Nat) (hj : j < 4) (x : Int32) (ok : okA A) : okA (f_M_readCore A j x).1 := by
  unfold f_M_readCore
  by_cases c42 : (A 18 j) = 5
  · rw [if_pos c42]
    by_cases c61 : x = (A 19 j)
    · rw [if_pos c61]
      by_cases c91 : (A 17 j) = ((f_M_coreLength (setA (setA A 19 (upd (A 19) j x)) 18 (upd (A 18) j 1)) j))
      · rw [if_pos c91]
        exact (okA_o (by decide) (okA_o (by decide) (okA_o (by decide) ok)))
      · rw [if_neg c91]
        exact (okA_o (by decide) (okA_o (by decide) (okA_o (by decide) ok)))
    · rw [if_neg c61]
      by_cases c72 : (A 17 j) = ((f_M_coreLength (setA (setA A 19 (upd (A 19) j x)) 18 (upd (A 18) j 1)) j))
      · rw [if_pos c72]
        exact (okA_o (by decide) (okA_o (by decide) (okA_o (by decide) ok)))
      · rw [if_neg c72]
        exact (okA_o (by decide) (okA_o (by decide) (okA_o (by decide) ok)))
  · rw [if_neg c42]
    by_cases c44 : (A 17 j) ≤ 0
    · rw [if_pos c44]
      exact ok_M_readCore_114 (setA A 18 (upd (A 18) j 1)) j hj x (A 17 j) (okA_o (by decide) ok)
    · rw [if_neg c44]
      by_cases c50 : x = (A 19 j)
      · rw [if_pos c50]
        exact ok_M_readCore_114 (setA A 18 (upd (A 18) j ((A 18 j) + 1))) j hj x (A 17 j) (okA_o (by decide) ok)
      · rw [if_neg c50]
        exact ok_M_readCore_114 (setA A 18 (upd (A 18) j 1)) j hj x (A 17 j) (okA_o (by decide) ok)
set_option maxHeartbeats 4000000 in
set_option maxRecDepth 100000 in
theorem in_M_readCore_332 (A : Nat → Nat → Int32) (j : Nat) (hj : j < 4) : vp_in (f_M_readCore_332 A j).2 8 := by
  unfold f_M_readCore_332
  by_cases c63 : (A 17 j) = ((f_M_coreLength A j))
  · rw [if_pos c63]
    by_cases c69 : 5 ≤ (A 18 j)
    · rw [if_pos c69]
      exact show vp_in (nI 0) 8 from vp_in_nI (by decide) (by decide)
    · rw [if_neg c69]
      exact show vp_in (nI 0) 8 from vp_in_nI (by decide) (by decide)
  · rw [if_neg c63]
    exact show vp_in (nI 0) 8 from vp_in_nI (by decide) (by decide)
set_option maxHeartbeats 4000000 in
set_option maxRecDepth 100000 in
theorem in_M_readCore_314 (A : Nat → Nat → Int32) (j : Nat) (hj : j < 4) (v3 : Int32) : vp_in (f_M_readCore_314 A j v3).2 8 := by
  unfold f_M_readCore_314
  by_cases c61 : v3 = 18
  · rw [if_pos c61]
    by_cases c63 : (A 22 j) ≤ 2
    · rw [if_pos c63]
      exact in_M_readCore_332 A j hj
    · rw [if_neg c63]
      exact show vp_in (nI 4) 8 from vp_in_nI (by decide) (by decide)
  · rw [if_neg c61]
    exact in_M_readCore_332 A j hj
set_option maxHeartbeats 4000000 in
set_option maxRecDepth 100000 in
theorem in_M_readCore_287 (A : Nat → Nat → Int32) (j : Nat) (hj : j < 4) (v2 v3 : Int32) : vp_in (f_M_readCore_287 A j v2 v3).2 8 := by
  unfold f_M_readCore_287
  by_cases c66 : v3 ≤ 11
  · rw [if_pos c66]
    exact in_M_readCore_314 (setA A 17 (upd (A 17) j ((A 17 j) + 1))) j hj v3
  · rw [if_neg c66]
    by_cases c67 : 15 ≤ v3
    · rw [if_pos c67]
      exact in_M_readCore_314 (setA A 17 (upd (A 17) j ((A 17 j) + 1))) j hj v3
    · rw [if_neg c67]
      by_cases c68 : v2 = 1
      · rw [if_pos c68]
        exact show vp_in (nI 4) 8 from vp_in_nI (by decide) (by decide)
      · rw [if_neg c68]
        exact in_M_readCore_314 (setA A 17 (upd (A 17) j ((A 17 j) + 1))) j hj v3
set_option maxHeartbeats 4000000 in
set_option maxRecDepth 100000 in
theorem in_M_readCore_167 (A : Nat → Nat → Int32) (j : Nat) (hj : j < 4) (v2 v3 : Int32) : vp_in (f_M_readCore_167 A j v2 v3).2 8 := by
  unfold f_M_readCore_167
  by_cases c61 : v3 ≤ 0
  · rw [if_pos c61]
    by_cases c62 : v3 ≤ 14
    · rw [if_pos c62]
      by_cases c63 : v3 ≤ 18
      · rw [if_pos c63]
        exact in_M_readCore_287 A j hj v2 v3
      · rw [if_neg c63]
        by_cases c65 : (19 + (8 * (A 22 j))) ≤ v3
        · rw [if_pos c65]
          exact in_M_readCore_287 A j hj v2 v3
        · rw [if_neg c65]
          exact in_M_readCore_287 (setA A 23 (upd (A 23) j ((A 23 j) ||| (v2 <<< ((((8 * ((v3 - 19) / 8)) + 7) - ((v3 - 19) - (v3 - 19) / 8 * 8)) &&& 31))))) j hj v2 v3
    · rw [if_neg c62]
      by_cases c71 : 19 ≤ v3
      · rw [if_pos c71]
        by_cases c72 : v3 ≤ 18
        · rw [if_pos c72]
          exact in_M_readCore_287 A j hj v2 v3
        · rw [if_neg c72]
          by_cases c74 : (19 + (8 * (A 22 j))) ≤ v3
          · rw [if_pos c74]
            exact in_M_readCore_287 A j hj v2 v3
          · rw [if_neg c74]
            exact in_M_readCore_287 (setA A 23 (upd (A 23) j ((A 23 j) ||| (v2 <<< ((((8 * ((v3 - 19) / 8)) + 7) - ((v3 - 19) - (v3 - 19) / 8 * 8)) &&& 31))))) j hj v2 v3
      · rw [if_neg c71]
        exact in_M_readCore_287 (setA A 22 (upd (A 22) j ((2 * (A 22 j)) + v2))) j hj v2 v3
  · rw [if_neg c61]
    by_cases c85 : 12 ≤ v3
    · rw [if_pos c85]
      by_cases c86 : v3 ≤ 14
      · rw [if_pos c86]
        by_cases c87 : v3 ≤ 18
        · rw [if_pos c87]
          exact in_M_readCore_287 A j hj v2 v3
        · rw [if_neg c87]
          by_cases c89 : (19 + (8 * (A 22 j))) ≤ v3
          · rw [if_pos c89]
            exact in_M_readCore_287 A j hj v2 v3
          · rw [if_neg c89]
            exact in_M_readCore_287 (setA A 23 (upd (A 23) j ((A 23 j) ||| (v2 <<< ((((8 * ((v3 - 19) / 8)) + 7) - ((v3 - 19) - (v3 - 19) / 8 * 8)) &&& 31))))) j hj v2 v3
      · rw [if_neg c86]
        by_cases c95 : 19 ≤ v3
        · rw [if_pos c95]
          by_cases c96 : v3 ≤ 18
          · rw [if_pos c96]
            exact in_M_readCore_287 A j hj v2 v3
          · rw [if_neg c96]
            by_cases c98 : (19 + (8 * (A 22 j))) ≤ v3
            · rw [if_pos c98]
              exact in_M_readCore_287 A j hj v2 v3
            · rw [if_neg c98]
              exact in_M_readCore_287 (setA A 23 (upd (A 23) j ((A 23 j) ||| (v2 <<< ((((8 * ((v3 - 19) / 8)) + 7) - ((v3 - 19) - (v3 - 19) / 8 * 8)) &&& 31))))) j hj v2 v3
        · rw [if_neg c95]
          exact in_M_readCore_287 (setA A 22 (upd (A 22) j ((2 * (A 22 j)) + v2))) j hj v2 v3
    · rw [if_neg c85]
      exact in_M_readCore_287 (setA A 21 (upd (A 21) j ((2 * (A 21 j)) + v2))) j hj v2 v3
set_option maxHeartbeats 4000000 in
set_option maxRecDepth 100000 in
theorem in_M_readCore_114 (A : Nat → Nat → Int32) (j : Nat) (hj : j < 4) (v2 v3 : Int32) : vp_in (f_M_readCore_114 A j v2 v3).2 8 := by
  unfold f_M_readCore_114
  by_cases c67 : v2 = (((A 20 j) >>> (14 &&& 31)) &&& 1)
  · rw [if_pos c67]
    exact in_M_readCore_167 (setA (setA A 19 (upd (A 19) j v2)) 20 (upd (A 20) j (((A 20 j) <<< (1 &&& 31)) &&& 32767))) j hj v2 v3
  · rw [if_neg c67]
    exact in_M_readCore_167 (setA (setA A 19 (upd (A 19) j v2)) 20 (upd (A 20) j ((((A 20 j) <<< (1 &&& 31)) &&& 32767) ^^^ 17817))) j hj v2 v3
set_option maxHeartbeats 4000000 in
set_option maxRecDepth 100000 in
theorem in_M_readCore (A : Nat → Nat → Int32) (j : Nat) (hj : j < 4) (x : Int32) : vp_in (f_M_readCore A j x).2 8 := by
  unfold f_M_readCore
  by_cases c42 : (A 18 j) = 5
  · rw [if_pos c42]
    by_cases c61 : x = (A 19 j)
    · rw [if_pos c61]
      by_cases c91 : (A 17 j) = ((f_M_coreLength (setA (setA A 19 (upd (A 19) j x)) 18 (upd (A 18) j 1)) j))
      · rw [if_pos c91]
        exact show vp_in (nI 3) 8 from vp_in_nI (by decide) (by decide)
      · rw [if_neg c91]
        exact show vp_in (nI 3) 8 from vp_in_nI (by decide) (by decide)
    · rw [if_neg c61]
      by_cases c72 : (A 17 j) = ((f_M_coreLength (setA (setA A 19 (upd (A 19) j x)) 18 (upd (A 18) j 1)) j))
      · rw [if_pos c72]
        exact show vp_in (nI 0) 8 from vp_in_nI (by decide) (by decide)
      · rw [if_neg c72]
        exact show vp_in (nI 0) 8 from vp_in_nI (by decide) (by decide)
  · rw [if_neg c42]
    by_cases c44 : (A 17 j) ≤ 0
    · rw [if_pos c44]
      exact in_M_readCore_114 (setA A 18 (upd (A 18) j 1)) j hj x (A 17 j)
    · rw [if_neg c44]
      by_cases c50 : x = (A 19 j)
      · rw [if_pos c50]
        exact in_M_readCore_114 (setA A 18 (upd (A 18) j ((A 18 j) + 1))) j hj x (A 17 j)
      · rw [if_neg c50]
        exact in_M_readCore_114 (setA A 18 (upd (A 18) j 1)) j hj x (A 17 j)
def f_M_goAfter (A : Nat → Nat → Int32) (j : Nat) (x : Int32) : Nat → Nat → Int32 := if x = 1 then (if ((A 27 j) + 1) = 8 then ((f_M_rest (setA A 27 (upd (A 27) j ((A 27 j) + 1))) j)) else ((setA A 27 (upd (A 27) j ((A 27 j) + 1))))) else (if (A 27 j) ≤ 0 then (if ((A 26 j) + 1) = 1 then (if (A 24 j) = 2 then (if (((A 26 j) + 1) - ((A 26 j) + 1) / 8 * 8) = 0 then (if ((f_M_eightMore (setA (setA A 26 (upd (A 26) j ((A 26 j) + 1))) 5 (upd (A 5) j ((A 5 j) + 8))) j).2) = 0 then ((f_M_eightMore (setA (setA A 26 (upd (A 26) j ((A 26 j) + 1))) 5 (upd (A 5) j ((A 5 j) + 8))) j).1) else ((f_M_eightMore (setA (setA A 26 (upd (A 26) j ((A 26 j) + 1))) 5 (upd (A 5) j ((A 5 j) + 8))) j).1)) else ((setA (setA A 26 (upd (A 26) j ((A 26 j) + 1))) 5 (upd (A 5) j ((A 5 j) + 8))))) else (if (((A 26 j) + 1) - ((A 26 j) + 1) / 8 * 8) = 0 then (if ((f_M_eightMore (setA (setA A 26 (upd (A 26) j ((A 26 j) + 1))) 5 (upd (A 5) j ((A 5 j) + 0))) j).2) = 0 then ((f_M_eightMore (setA (setA A 26 (upd (A 26) j ((A 26 j) + 1))) 5 (upd (A 5) j ((A 5 j) + 0))) j).1) else ((f_M_eightMore (setA (setA A 26 (upd (A 26) j ((A 26 j) + 1))) 5 (upd (A 5) j ((A 5 j) + 0))) j).1)) else ((setA (setA A 26 (upd (A 26) j ((A 26 j) + 1))) 5 (upd (A 5) j ((A 5 j) + 0)))))) else (if (((A 26 j) + 1) - ((A 26 j) + 1) / 8 * 8) = 0 then (if ((f_M_eightMore (setA (setA A 26 (upd (A 26) j ((A 26 j) + 1))) 5 (upd (A 5) j ((A 5 j) + 0))) j).2) = 0 then ((f_M_eightMore (setA (setA A 26 (upd (A 26) j ((A 26 j) + 1))) 5 (upd (A 5) j ((A 5 j) + 0))) j).1) else ((f_M_eightMore (setA (setA A 26 (upd (A 26) j ((A 26 j) + 1))) 5 (upd (A 5) j ((A 5 j) + 0))) j).1)) else ((setA (setA A 26 (upd (A 26) j ((A 26 j) + 1))) 5 (upd (A 5) j ((A 5 j) + 0)))))) else (if (A 24 j) = 0 then ((f_M_overload A j)) else ((f_M_err A j 4 (A 24 j)))))
set_option maxHeartbeats 4000000 in
set_option maxRecDepth 100000 in
theorem c_M_goAfter (l : Launch) (D : va_G) (cI cZ cN cJ : ClassId) (lo : Nat) (b : Nat) (hlo : lo ≤ b) (th nn : Int32) (A : Nat → Nat → Int32) (j : Nat) (hj : j < 4) (x : Int32) : hq_M l y_M_goAfter b_M_goAfter 4 none TB { frames := 2, cells := 0, slots := 0, locals := 46 } lo D vwCl (TY cI cZ cN cJ) [.ref (b), .int (nI j), .int (x)] (fun U => hq_B D vwCl b 31 (mdC cI cZ b th nn A) U.heap) (fun H v H' => v = none ∧ hq_B D vwCl b 31 (mdC cI cZ b th nn (f_M_goAfter A j x)) H' ∧ hq_S b 31 H H') := by
  refine hq_ofW (by decide) (Nat.le_of_ble_eq_true rfl) ?_
  intro p e s m below meth c ls C hml hret hlk hnm hl hP
  have hL : hq_L lo [] := hq_L0
  have hl : lv_has ls 4 [(0, .ref (b)), (1, .int (nI j)), (2, .int (x))] := hl
  have hM : hq_B D vwCl b 31 (mdC cI cZ b th nn A) s.heap := hP
  have k0 : va_at D vwCl (b, .inr (6, [.int (th), .int (nn), .ref (b + 1), .ref (b + 2), .ref (b + 3), .ref (b + 4), .ref (b + 5), .ref (b + 6), .ref (b + 7), .ref (b + 8), .ref (b + 9), .ref (b + 10), .ref (b + 11), .ref (b + 12), .ref (b + 13), .ref (b + 14), .ref (b + 15), .ref (b + 16), .ref (b + 17), .ref (b + 18), .ref (b + 19), .ref (b + 20), .ref (b + 21), .ref (b + 22), .ref (b + 23), .ref (b + 24), .ref (b + 25), .ref (b + 26), .ref (b + 27), .ref (b + 28), .ref (b + 29), .ref (b + 30)])) s.heap := hM 0 (by decide)
  refine lv_iload_n C.1 C.2.1 d_M_goAfter_0 rfl (lv_at hl 2 rfl) ?_
  refine lv_iconst (v := 1) C.1 C.2.1 d_M_goAfter_1 (by decide) ?_
  refine lv_icmp_ne (tgt := 34) C.1 C.2.1 d_M_goAfter_2 (by decide) ?_ ?_
  · intro c41
    refine lv_aload_n C.1 C.2.1 d_M_goAfter_34 rfl (lv_at hl 0 rfl) ?_
    refine hq_get (v := .ref (b + 28)) C f_M_92 k0 rfl d_M_goAfter_35 ?_
    refine lv_iload_n C.1 C.2.1 d_M_goAfter_38 rfl (lv_at hl 1 rfl) ?_
    have e42 : va_at D vwCl (b + 28, .inl (cI, 4, .inl (A 27))) _ := hM 28 (by decide)
    refine hq_iald C 0 rfl e42 (vp_in_nI hj (by decide)) d_M_goAfter_39 ?_
    rw [nI_clamp (show j < 2 ^ 31 by omega)]
    refine W.eq (g2 := F0 m 40 ls [.int (A 27 j)]) rfl ?_
    refine lv_if_le (tgt := 75) C.1 C.2.1 d_M_goAfter_40 (by decide) ?_ ?_
    · intro c43
      refine lv_aload_n C.1 C.2.1 d_M_goAfter_75 rfl (lv_at hl 0 rfl) ?_
      refine hq_get (v := .ref (b + 27)) C f_M_89 k0 rfl d_M_goAfter_76 ?_
      refine lv_iload_n C.1 C.2.1 d_M_goAfter_79 rfl (lv_at hl 1 rfl) ?_
      refine lv_dup2_11 C.1 C.2.1 d_M_goAfter_80 rfl rfl ?_
      have e44 : va_at D vwCl (b + 27, .inl (cI, 4, .inl (A 26))) _ := hM 27 (by decide)
      refine hq_iald C 0 rfl e44 (vp_in_nI hj (by decide)) d_M_goAfter_81 ?_
      rw [nI_clamp (show j < 2 ^ 31 by omega)]
      refine W.eq (g2 := F0 m 82 ls [.int (A 26 j), .int (nI j), .ref (b + 27)]) rfl ?_
      refine lv_iconst (v := 1) C.1 C.2.1 d_M_goAfter_82 (by decide) ?_
      refine lv_iadd C.1 C.2.1 d_M_goAfter_83 ?_
      have e45 : va_at D vwCl (b + 27, .inl (cI, 4, .inl (A 26))) _ := hM 27 (by decide)
      refine hq_iast (lo := lo) C 0 rfl e45 (vp_in_nI hj (by decide)) hL (by omega) d_M_goAfter_84 (fun H46 locs u47 hL => ?_)
      rw [nI_clamp (show j < 2 ^ 31 by omega)] at u47
      have m48 := md_set (k := 26) (f := upd (A 26) j ((A 26 j) + 1)) hM u47
      have k0 : va_at D vwCl (b, .inr (6, [.int (th), .int (nn), .ref (b + 1), .ref (b + 2), .ref (b + 3), .ref (b + 4), .ref (b + 5), .ref (b + 6), .ref (b + 7), .ref (b + 8), .ref (b + 9), .ref (b + 10), .ref (b + 11), .ref (b + 12), .ref (b + 13), .ref (b + 14), .ref (b + 15), .ref (b + 16), .ref (b + 17), .ref (b + 18), .ref (b + 19), .ref (b + 20), .ref (b + 21), .ref (b + 22), .ref (b + 23), .ref (b + 24), .ref (b + 25), .ref (b + 26), .ref (b + 27), .ref (b + 28), .ref (b + 29), .ref (b + 30)])) H46 := m48 0 (by decide)
      refine lv_aload_n C.1 C.2.1 d_M_goAfter_85 rfl (lv_at hl 0 rfl) ?_
      refine hq_get (v := .ref (b + 6)) C f_M_26 k0 rfl d_M_goAfter_86 ?_
      refine lv_iload_n C.1 C.2.1 d_M_goAfter_89 rfl (lv_at hl 1 rfl) ?_
      refine lv_dup2_11 C.1 C.2.1 d_M_goAfter_90 rfl rfl ?_
      have e49 : va_at D vwCl (b + 6, .inl (cI, 4, .inl (A 5))) _ := m48 6 (by decide)
      refine hq_iald C 0 rfl e49 (vp_in_nI hj (by decide)) d_M_goAfter_91 ?_
      rw [nI_clamp (show j < 2 ^ 31 by omega)]
      refine W.eq (g2 := F0 m 92 ls [.int (A 5 j), .int (nI j), .ref (b + 6)]) rfl ?_
      refine lv_aload_n C.1 C.2.1 d_M_goAfter_92 rfl (lv_at hl 0 rfl) ?_
      refine hq_get (v := .ref (b + 27)) C f_M_89 k0 rfl d_M_goAfter_93 ?_
      refine lv_iload_n C.1 C.2.1 d_M_goAfter_96 rfl (lv_at hl 1 rfl) ?_
      have e50 : va_at D vwCl (b + 27, .inl (cI, 4, .inl (upd (A 26) j ((A 26 j) + 1)))) _ := m48 27 (by decide)
      refine hq_iald C 0 rfl e50 (vp_in_nI hj (by decide)) d_M_goAfter_97 ?_
      rw [nI_clamp (show j < 2 ^ 31 by omega)]
      rw [show (upd (A 26) j ((A 26 j) + 1)) j = (A 26 j) + 1 from pk_us]
      refine W.eq (g2 := F0 m 98 ls [.int ((A 26 j) + 1), .int (A 5 j), .int (nI j), .ref (b + 6)]) rfl ?_
      refine lv_iconst (v := 1) C.1 C.2.1 d_M_goAfter_98 (by decide) ?_
      refine lv_icmp_ne (tgt := 117) C.1 C.2.1 d_M_goAfter_99 (by decide) ?_ ?_
      · intro c51
        refine lv_iconst (v := 0) C.1 C.2.1 d_M_goAfter_117 (by decide) ?_
        refine lv_iadd C.1 C.2.1 d_M_goAfter_118 ?_
        have e52 : va_at D vwCl (b + 6, .inl (cI, 4, .inl (A 5))) _ := m48 6 (by decide)
        refine hq_iast (lo := lo) C 0 rfl e52 (vp_in_nI hj (by decide)) hL (by omega) d_M_goAfter_119 (fun H53 locs u54 hL => ?_)
        rw [nI_clamp (show j < 2 ^ 31 by omega)] at u54
        have m55 := md_set (k := 5) (f := upd (A 5) j ((A 5 j) + 0)) m48 u54
        have k0 : va_at D vwCl (b, .inr (6, [.int (th), .int (nn), .ref (b + 1), .ref (b + 2), .ref (b + 3), .ref (b + 4), .ref (b + 5), .ref (b + 6), .ref (b + 7), .ref (b + 8), .ref (b + 9), .ref (b + 10), .ref (b + 11), .ref (b + 12), .ref (b + 13), .ref (b + 14), .ref (b + 15), .ref (b + 16), .ref (b + 17), .ref (b + 18), .ref (b + 19), .ref (b + 20), .ref (b + 21), .ref (b + 22), .ref (b + 23), .ref (b + 24), .ref (b + 25), .ref (b + 26), .ref (b + 27), .ref (b + 28), .ref (b + 29), .ref (b + 30)])) H53 := m55 0 (by decide)
        refine lv_aload_n C.1 C.2.1 d_M_goAfter_120 rfl (lv_at hl 0 rfl) ?_
        refine hq_get (v := .ref (b + 27)) C f_M_89 k0 rfl d_M_goAfter_121 ?_
        refine lv_iload_n C.1 C.2.1 d_M_goAfter_124 rfl (lv_at hl 1 rfl) ?_
        have e56 : va_at D vwCl (b + 27, .inl (cI, 4, .inl (upd (A 26) j ((A 26 j) + 1)))) _ := m55 27 (by decide)
        refine hq_iald C 0 rfl e56 (vp_in_nI hj (by decide)) d_M_goAfter_125 ?_
        rw [nI_clamp (show j < 2 ^ 31 by omega)]
        rw [show (upd (A 26) j ((A 26 j) + 1)) j = (A 26 j) + 1 from pk_us]
        refine W.eq (g2 := F0 m 126 ls [.int ((A 26 j) + 1)]) rfl ?_
        refine lv_bipush (v := 8) C.1 C.2.1 d_M_goAfter_126 (by decide) ?_
        refine lv_irem C.1 C.2.1 d_M_goAfter_128 (by decide) ?_
        refine lv_if_ne (tgt := 144) C.1 C.2.1 d_M_goAfter_129 (by decide) ?_ ?_
        · intro c57
          refine lv_iconst (v := 0) C.1 C.2.1 d_M_goAfter_144 (by decide) ?_
          refine lv_istore_n C.1 C.2.1 d_M_goAfter_145 rfl hl (by decide) rfl (lv' := [(3, .int (0)), (0, .ref (b)), (1, .int (nI j)), (2, .int (x))]) (fun ls hl => ?_)
          have hf : f_M_goAfter A j x = (setA (setA A 26 (upd (A 26) j ((A 26 j) + 1))) 5 (upd (A 5) j ((A 5 j) + 0))) := by unfold f_M_goAfter; rw [if_neg c41, if_pos c43, if_neg c51, if_neg c57]
          exact hq_vret C hret hlk (Nat.le_of_ble_eq_true rfl) (Nat.le_of_ble_eq_true rfl) hL ⟨rfl, by rw [hf]; exact m55, hq_Sput (hq_Sput (hq_S0) u47 (by omega) (by omega)) u54 (by omega) (by omega)⟩ d_M_goAfter_146
        · intro c57
          refine lv_aload_n C.1 C.2.1 d_M_goAfter_132 rfl (lv_at hl 0 rfl) ?_
          refine lv_iload_n C.1 C.2.1 d_M_goAfter_133 rfl (lv_at hl 1 rfl) ?_
          refine hq_callV (lo := lo) (As := [.int (nI j)]) (rest := []) C tb_good hml Y_M_157 (c_M_eightMore l D cI cZ cN cJ lo b hlo th nn (setA (setA A 26 (upd (A 26) j ((A 26 j) + 1))) 5 (upd (A 5) j ((A 5 j) + 0))) j hj) k0 rfl (fun _ _ _ _ h => h) (fun U hU hW => by show hq_B D vwCl b 31 (mdC cI cZ b th nn (setA (setA A 26 (upd (A 26) j ((A 26 j) + 1))) 5 (upd (A 5) j ((A 5 j) + 0)))) U.heap; rw [hU]; exact m55) hL hl.1 rfl rfl ⟨⟨Nat.le_of_ble_eq_true rfl, Nat.le_of_ble_eq_true rfl⟩, Nat.le_of_ble_eq_true rfl, Nat.le_of_ble_eq_true rfl⟩ (Nat.le_of_ble_eq_true rfl) d_M_goAfter_134 (fun v H60 locs hp hL => ?_)
          obtain ⟨rfl, m58, S59⟩ := hp
          refine W.eq (g2 := F0 m 137 ls [.int ((f_M_eightMore (setA (setA A 26 (upd (A 26) j ((A 26 j) + 1))) 5 (upd (A 5) j ((A 5 j) + 0))) j).2)]) rfl ?_
          have k0 : va_at D vwCl (b, .inr (6, [.int (th), .int (nn), .ref (b + 1), .ref (b + 2), .ref (b + 3), .ref (b + 4), .ref (b + 5), .ref (b + 6), .ref (b + 7), .ref (b + 8), .ref (b + 9), .ref (b + 10), .ref (b + 11), .ref (b + 12), .ref (b + 13), .ref (b + 14), .ref (b + 15), .ref (b + 16), .ref (b + 17), .ref (b + 18), .ref (b + 19), .ref (b + 20), .ref (b + 21), .ref (b + 22), .ref (b + 23), .ref (b + 24), .ref (b + 25), .ref (b + 26), .ref (b + 27), .ref (b + 28), .ref (b + 29), .ref (b + 30)])) H60 := m58 0 (by decide)
          refine lv_if_eq (tgt := 144) C.1 C.2.1 d_M_goAfter_137 (by decide) ?_ ?_
          · intro c61
            refine lv_iconst (v := 0) C.1 C.2.1 d_M_goAfter_144 (by decide) ?_
            refine lv_istore_n C.1 C.2.1 d_M_goAfter_145 rfl hl (by decide) rfl (lv' := [(3, .int (0)), (0, .ref (b)), (1, .int (nI j)), (2, .int (x))]) (fun ls hl => ?_)
            have hf : f_M_goAfter A j x = (f_M_eightMore (setA (setA A 26 (upd (A 26) j ((A 26 j) + 1))) 5 (upd (A 5) j ((A 5 j) + 0))) j).1 := by unfold f_M_goAfter; rw [if_neg c41, if_pos c43, if_neg c51, if_pos c57, if_pos c61]
            exact hq_vret C hret hlk (Nat.le_of_ble_eq_true rfl) (Nat.le_of_ble_eq_true rfl) hL ⟨rfl, by rw [hf]; exact m58, hq_Scall (hq_Sput (hq_Sput (hq_S0) u47 (by omega) (by omega)) u54 (by omega) (by omega)) S59 (by omega) (by omega)⟩ d_M_goAfter_146
          · intro c61
            refine lv_iconst (v := 1) C.1 C.2.1 d_M_goAfter_140 (by decide) ?_
            refine lv_goto (tgt := 145) C.1 C.2.1 d_M_goAfter_141 (by decide) ?_
            refine lv_istore_n C.1 C.2.1 d_M_goAfter_145 rfl hl (by decide) rfl (lv' := [(3, .int (1)), (0, .ref (b)), (1, .int (nI j)), (2, .int (x))]) (fun ls hl => ?_)
            have hf : f_M_goAfter A j x = (f_M_eightMore (setA (setA A 26 (upd (A 26) j ((A 26 j) + 1))) 5 (upd (A 5) j ((A 5 j) + 0))) j).1 := by unfold f_M_goAfter; rw [if_neg c41, if_pos c43, if_neg c51, if_pos c57, if_neg c61]
            exact hq_vret C hret hlk (Nat.le_of_ble_eq_true rfl) (Nat.le_of_ble_eq_true rfl) hL ⟨rfl, by rw [hf]; exact m58, hq_Scall (hq_Sput (hq_Sput (hq_S0) u47 (by omega) (by omega)) u54 (by omega) (by omega)) S59 (by omega) (by omega)⟩ d_M_goAfter_146
      · intro c51
        refine lv_aload_n C.1 C.2.1 d_M_goAfter_102 rfl (lv_at hl 0 rfl) ?_
        refine hq_get (v := .ref (b + 25)) C f_M_83 k0 rfl d_M_goAfter_103 ?_
        refine lv_iload_n C.1 C.2.1 d_M_goAfter_106 rfl (lv_at hl 1 rfl) ?_
        have e62 : va_at D vwCl (b + 25, .inl (cI, 4, .inl (A 24))) _ := m48 25 (by decide)
        refine hq_iald C 0 rfl e62 (vp_in_nI hj (by decide)) d_M_goAfter_107 ?_
        rw [nI_clamp (show j < 2 ^ 31 by omega)]
        refine W.eq (g2 := F0 m 108 ls [.int (A 24 j), .int (A 5 j), .int (nI j), .ref (b + 6)]) rfl ?_
        refine lv_iconst (v := 2) C.1 C.2.1 d_M_goAfter_108 (by decide) ?_
        refine lv_icmp_ne (tgt := 117) C.1 C.2.1 d_M_goAfter_109 (by decide) ?_ ?_
        · intro c63
          refine lv_iconst (v := 0) C.1 C.2.1 d_M_goAfter_117 (by decide) ?_
          refine lv_iadd C.1 C.2.1 d_M_goAfter_118 ?_
          have e64 : va_at D vwCl (b + 6, .inl (cI, 4, .inl (A 5))) _ := m48 6 (by decide)
          refine hq_iast (lo := lo) C 0 rfl e64 (vp_in_nI hj (by decide)) hL (by omega) d_M_goAfter_119 (fun H65 locs u66 hL => ?_)
          rw [nI_clamp (show j < 2 ^ 31 by omega)] at u66
          have m67 := md_set (k := 5) (f := upd (A 5) j ((A 5 j) + 0)) m48 u66
          have k0 : va_at D vwCl (b, .inr (6, [.int (th), .int (nn), .ref (b + 1), .ref (b + 2), .ref (b + 3), .ref (b + 4), .ref (b + 5), .ref (b + 6), .ref (b + 7), .ref (b + 8), .ref (b + 9), .ref (b + 10), .ref (b + 11), .ref (b + 12), .ref (b + 13), .ref (b + 14), .ref (b + 15), .ref (b + 16), .ref (b + 17), .ref (b + 18), .ref (b + 19), .ref (b + 20), .ref (b + 21), .ref (b + 22), .ref (b + 23), .ref (b + 24), .ref (b + 25), .ref (b + 26), .ref (b + 27), .ref (b + 28), .ref (b + 29), .ref (b + 30)])) H65 := m67 0 (by decide)
          refine lv_aload_n C.1 C.2.1 d_M_goAfter_120 rfl (lv_at hl 0 rfl) ?_
          refine hq_get (v := .ref (b + 27)) C f_M_89 k0 rfl d_M_goAfter_121 ?_
          refine lv_iload_n C.1 C.2.1 d_M_goAfter_124 rfl (lv_at hl 1 rfl) ?_
          have e68 : va_at D vwCl (b + 27, .inl (cI, 4, .inl (upd (A 26) j ((A 26 j) + 1)))) _ := m67 27 (by decide)
          refine hq_iald C 0 rfl e68 (vp_in_nI hj (by decide)) d_M_goAfter_125 ?_
          rw [nI_clamp (show j < 2 ^ 31 by omega)]
          rw [show (upd (A 26) j ((A 26 j) + 1)) j = (A 26 j) + 1 from pk_us]
          refine W.eq (g2 := F0 m 126 ls [.int ((A 26 j) + 1)]) rfl ?_
          refine lv_bipush (v := 8) C.1 C.2.1 d_M_goAfter_126 (by decide) ?_
          refine lv_irem C.1 C.2.1 d_M_goAfter_128 (by decide) ?_
          refine lv_if_ne (tgt := 144) C.1 C.2.1 d_M_goAfter_129 (by decide) ?_ ?_
          · intro c69
            refine lv_iconst (v := 0) C.1 C.2.1 d_M_goAfter_144 (by decide) ?_
            refine lv_istore_n C.1 C.2.1 d_M_goAfter_145 rfl hl (by decide) rfl (lv' := [(3, .int (0)), (0, .ref (b)), (1, .int (nI j)), (2, .int (x))]) (fun ls hl => ?_)
            have hf : f_M_goAfter A j x = (setA (setA A 26 (upd (A 26) j ((A 26 j) + 1))) 5 (upd (A 5) j ((A 5 j) + 0))) := by unfold f_M_goAfter; rw [if_neg c41, if_pos c43, if_pos c51, if_neg c63, if_neg c69]
            exact hq_vret C hret hlk (Nat.le_of_ble_eq_true rfl) (Nat.le_of_ble_eq_true rfl) hL ⟨rfl, by rw [hf]; exact m67, hq_Sput (hq_Sput (hq_S0) u47 (by omega) (by omega)) u66 (by omega) (by omega)⟩ d_M_goAfter_146
          · intro c69
            refine lv_aload_n C.1 C.2.1 d_M_goAfter_132 rfl (lv_at hl 0 rfl) ?_
            refine lv_iload_n C.1 C.2.1 d_M_goAfter_133 rfl (lv_at hl 1 rfl) ?_
            refine hq_callV (lo := lo) (As := [.int (nI j)]) (rest := []) C tb_good hml Y_M_157 (c_M_eightMore l D cI cZ cN cJ lo b hlo th nn (setA (setA A 26 (upd (A 26) j ((A 26 j) + 1))) 5 (upd (A 5) j ((A 5 j) + 0))) j hj) k0 rfl (fun _ _ _ _ h => h) (fun U hU hW => by show hq_B D vwCl b 31 (mdC cI cZ b th nn (setA (setA A 26 (upd (A 26) j ((A 26 j) + 1))) 5 (upd (A 5) j ((A 5 j) + 0)))) U.heap; rw [hU]; exact m67) hL hl.1 rfl rfl ⟨⟨Nat.le_of_ble_eq_true rfl, Nat.le_of_ble_eq_true rfl⟩, Nat.le_of_ble_eq_true rfl, Nat.le_of_ble_eq_true rfl⟩ (Nat.le_of_ble_eq_true rfl) d_M_goAfter_134 (fun v H72 locs hp hL => ?_)
            obtain ⟨rfl, m70, S71⟩ := hp
            refine W.eq (g2 := F0 m 137 ls [.int ((f_M_eightMore (setA (setA A 26 (upd (A 26) j ((A 26 j) + 1))) 5 (upd (A 5) j ((A 5 j) + 0))) j).2)]) rfl ?_
            have k0 : va_at D vwCl (b, .inr (6, [.int (th), .int (nn), .ref (b + 1), .ref (b + 2), .ref (b + 3), .ref (b + 4), .ref (b + 5), .ref (b + 6), .ref (b + 7), .ref (b + 8), .ref (b + 9), .ref (b + 10), .ref (b + 11), .ref (b + 12), .ref (b + 13), .ref (b + 14), .ref (b + 15), .ref (b + 16), .ref (b + 17), .ref (b + 18), .ref (b + 19), .ref (b + 20), .ref (b + 21), .ref (b + 22), .ref (b + 23), .ref (b + 24), .ref (b + 25), .ref (b + 26), .ref (b + 27), .ref (b + 28), .ref (b + 29), .ref (b + 30)])) H72 := m70 0 (by decide)
            refine lv_if_eq (tgt := 144) C.1 C.2.1 d_M_goAfter_137 (by decide) ?_ ?_
            · intro c73
              refine lv_iconst (v := 0) C.1 C.2.1 d_M_goAfter_144 (by decide) ?_
              refine lv_istore_n C.1 C.2.1 d_M_goAfter_145 rfl hl (by decide) rfl (lv' := [(3, .int (0)), (0, .ref (b)), (1, .int (nI j)), (2, .int (x))]) (fun ls hl => ?_)
              have hf : f_M_goAfter A j x = (f_M_eightMore (setA (setA A 26 (upd (A 26) j ((A 26 j) + 1))) 5 (upd (A 5) j ((A 5 j) + 0))) j).1 := by unfold f_M_goAfter; rw [if_neg c41, if_pos c43, if_pos c51, if_neg c63, if_pos c69, if_pos c73]
              exact hq_vret C hret hlk (Nat.le_of_ble_eq_true rfl) (Nat.le_of_ble_eq_true rfl) hL ⟨rfl, by rw [hf]; exact m70, hq_Scall (hq_Sput (hq_Sput (hq_S0) u47 (by omega) (by omega)) u66 (by omega) (by omega)) S71 (by omega) (by omega)⟩ d_M_goAfter_146
            · intro c73
              refine lv_iconst (v := 1) C.1 C.2.1 d_M_goAfter_140 (by decide) ?_
              refine lv_goto (tgt := 145) C.1 C.2.1 d_M_goAfter_141 (by decide) ?_
              refine lv_istore_n C.1 C.2.1 d_M_goAfter_145 rfl hl (by decide) rfl (lv' := [(3, .int (1)), (0, .ref (b)), (1, .int (nI j)), (2, .int (x))]) (fun ls hl => ?_)
              have hf : f_M_goAfter A j x = (f_M_eightMore (setA (setA A 26 (upd (A 26) j ((A 26 j) + 1))) 5 (upd (A 5) j ((A 5 j) + 0))) j).1 := by unfold f_M_goAfter; rw [if_neg c41, if_pos c43, if_pos c51, if_neg c63, if_pos c69, if_neg c73]
              exact hq_vret C hret hlk (Nat.le_of_ble_eq_true rfl) (Nat.le_of_ble_eq_true rfl) hL ⟨rfl, by rw [hf]; exact m70, hq_Scall (hq_Sput (hq_Sput (hq_S0) u47 (by omega) (by omega)) u66 (by omega) (by omega)) S71 (by omega) (by omega)⟩ d_M_goAfter_146
        · intro c63
          refine lv_bipush (v := 8) C.1 C.2.1 d_M_goAfter_112 (by decide) ?_
          refine lv_goto (tgt := 118) C.1 C.2.1 d_M_goAfter_114 (by decide) ?_
          refine lv_iadd C.1 C.2.1 d_M_goAfter_118 ?_
          have e74 : va_at D vwCl (b + 6, .inl (cI, 4, .inl (A 5))) _ := m48 6 (by decide)
          refine hq_iast (lo := lo) C 0 rfl e74 (vp_in_nI hj (by decide)) hL (by omega) d_M_goAfter_119 (fun H75 locs u76 hL => ?_)
          rw [nI_clamp (show j < 2 ^ 31 by omega)] at u76
          have m77 := md_set (k := 5) (f := upd (A 5) j ((A 5 j) + 8)) m48 u76
          have k0 : va_at D vwCl (b, .inr (6, [.int (th), .int (nn), .ref (b + 1), .ref (b + 2), .ref (b + 3), .ref (b + 4), .ref (b + 5), .ref (b + 6), .ref (b + 7), .ref (b + 8), .ref (b + 9), .ref (b + 10), .ref (b + 11), .ref (b + 12), .ref (b + 13), .ref (b + 14), .ref (b + 15), .ref (b + 16), .ref (b + 17), .ref (b + 18), .ref (b + 19), .ref (b + 20), .ref (b + 21), .ref (b + 22), .ref (b + 23), .ref (b + 24), .ref (b + 25), .ref (b + 26), .ref (b + 27), .ref (b + 28), .ref (b + 29), .ref (b + 30)])) H75 := m77 0 (by decide)
          refine lv_aload_n C.1 C.2.1 d_M_goAfter_120 rfl (lv_at hl 0 rfl) ?_
          refine hq_get (v := .ref (b + 27)) C f_M_89 k0 rfl d_M_goAfter_121 ?_
          refine lv_iload_n C.1 C.2.1 d_M_goAfter_124 rfl (lv_at hl 1 rfl) ?_
          have e78 : va_at D vwCl (b + 27, .inl (cI, 4, .inl (upd (A 26) j ((A 26 j) + 1)))) _ := m77 27 (by decide)
          refine hq_iald C 0 rfl e78 (vp_in_nI hj (by decide)) d_M_goAfter_125 ?_
          rw [nI_clamp (show j < 2 ^ 31 by omega)]
          rw [show (upd (A 26) j ((A 26 j) + 1)) j = (A 26 j) + 1 from pk_us]
          refine W.eq (g2 := F0 m 126 ls [.int ((A 26 j) + 1)]) rfl ?_
          refine lv_bipush (v := 8) C.1 C.2.1 d_M_goAfter_126 (by decide) ?_
          refine lv_irem C.1 C.2.1 d_M_goAfter_128 (by decide) ?_
          refine lv_if_ne (tgt := 144) C.1 C.2.1 d_M_goAfter_129 (by decide) ?_ ?_
          · intro c79
            refine lv_iconst (v := 0) C.1 C.2.1 d_M_goAfter_144 (by decide) ?_
            refine lv_istore_n C.1 C.2.1 d_M_goAfter_145 rfl hl (by decide) rfl (lv' := [(3, .int (0)), (0, .ref (b)), (1, .int (nI j)), (2, .int (x))]) (fun ls hl => ?_)
            have hf : f_M_goAfter A j x = (setA (setA A 26 (upd (A 26) j ((A 26 j) + 1))) 5 (upd (A 5) j ((A 5 j) + 8))) := by unfold f_M_goAfter; rw [if_neg c41, if_pos c43, if_pos c51, if_pos c63, if_neg c79]
            exact hq_vret C hret hlk (Nat.le_of_ble_eq_true rfl) (Nat.le_of_ble_eq_true rfl) hL ⟨rfl, by rw [hf]; exact m77, hq_Sput (hq_Sput (hq_S0) u47 (by omega) (by omega)) u76 (by omega) (by omega)⟩ d_M_goAfter_146
          · intro c79
            refine lv_aload_n C.1 C.2.1 d_M_goAfter_132 rfl (lv_at hl 0 rfl) ?_
            refine lv_iload_n C.1 C.2.1 d_M_goAfter_133 rfl (lv_at hl 1 rfl) ?_
            refine hq_callV (lo := lo) (As := [.int (nI j)]) (rest := []) C tb_good hml Y_M_157 (c_M_eightMore l D cI cZ cN cJ lo b hlo th nn (setA (setA A 26 (upd (A 26) j ((A 26 j) + 1))) 5 (upd (A 5) j ((A 5 j) + 8))) j hj) k0 rfl (fun _ _ _ _ h => h) (fun U hU hW => by show hq_B D vwCl b 31 (mdC cI cZ b th nn (setA (setA A 26 (upd (A 26) j ((A 26 j) + 1))) 5 (upd (A 5) j ((A 5 j) + 8)))) U.heap; rw [hU]; exact m77) hL hl.1 rfl rfl ⟨⟨Nat.le_of_ble_eq_true rfl, Nat.le_of_ble_eq_true rfl⟩, Nat.le_of_ble_eq_true rfl, Nat.le_of_ble_eq_true rfl⟩ (Nat.le_of_ble_eq_true rfl) d_M_goAfter_134 (fun v H82 locs hp hL => ?_)
            obtain ⟨rfl, m80, S81⟩ := hp
            refine W.eq (g2 := F0 m 137 ls [.int ((f_M_eightMore (setA (setA A 26 (upd (A 26) j ((A 26 j) + 1))) 5 (upd (A 5) j ((A 5 j) + 8))) j).2)]) rfl ?_
            have k0 : va_at D vwCl (b, .inr (6, [.int (th), .int (nn), .ref (b + 1), .ref (b + 2), .ref (b + 3), .ref (b + 4), .ref (b + 5), .ref (b + 6), .ref (b + 7), .ref (b + 8), .ref (b + 9), .ref (b + 10), .ref (b + 11), .ref (b + 12), .ref (b + 13), .ref (b + 14), .ref (b + 15), .ref (b + 16), .ref (b + 17), .ref (b + 18), .ref (b + 19), .ref (b + 20), .ref (b + 21), .ref (b + 22), .ref (b + 23), .ref (b + 24), .ref (b + 25), .ref (b + 26), .ref (b + 27), .ref (b + 28), .ref (b + 29), .ref (b + 30)])) H82 := m80 0 (by decide)
            refine lv_if_eq (tgt := 144) C.1 C.2.1 d_M_goAfter_137 (by decide) ?_ ?_
            · intro c83
              refine lv_iconst (v := 0) C.1 C.2.1 d_M_goAfter_144 (by decide) ?_
              refine lv_istore_n C.1 C.2.1 d_M_goAfter_145 rfl hl (by decide) rfl (lv' := [(3, .int (0)), (0, .ref (b)), (1, .int (nI j)), (2, .int (x))]) (fun ls hl => ?_)
              have hf : f_M_goAfter A j x = (f_M_eightMore (setA (setA A 26 (upd (A 26) j ((A 26 j) + 1))) 5 (upd (A 5) j ((A 5 j) + 8))) j).1 := by unfold f_M_goAfter; rw [if_neg c41, if_pos c43, if_pos c51, if_pos c63, if_pos c79, if_pos c83]
              exact hq_vret C hret hlk (Nat.le_of_ble_eq_true rfl) (Nat.le_of_ble_eq_true rfl) hL ⟨rfl, by rw [hf]; exact m80, hq_Scall (hq_Sput (hq_Sput (hq_S0) u47 (by omega) (by omega)) u76 (by omega) (by omega)) S81 (by omega) (by omega)⟩ d_M_goAfter_146
            · intro c83
              refine lv_iconst (v := 1) C.1 C.2.1 d_M_goAfter_140 (by decide) ?_
              refine lv_goto (tgt := 145) C.1 C.2.1 d_M_goAfter_141 (by decide) ?_
              refine lv_istore_n C.1 C.2.1 d_M_goAfter_145 rfl hl (by decide) rfl (lv' := [(3, .int (1)), (0, .ref (b)), (1, .int (nI j)), (2, .int (x))]) (fun ls hl => ?_)
              have hf : f_M_goAfter A j x = (f_M_eightMore (setA (setA A 26 (upd (A 26) j ((A 26 j) + 1))) 5 (upd (A 5) j ((A 5 j) + 8))) j).1 := by unfold f_M_goAfter; rw [if_neg c41, if_pos c43, if_pos c51, if_pos c63, if_pos c79, if_neg c83]
              exact hq_vret C hret hlk (Nat.le_of_ble_eq_true rfl) (Nat.le_of_ble_eq_true rfl) hL ⟨rfl, by rw [hf]; exact m80, hq_Scall (hq_Sput (hq_Sput (hq_S0) u47 (by omega) (by omega)) u76 (by omega) (by omega)) S81 (by omega) (by omega)⟩ d_M_goAfter_146
    · intro c43
      refine lv_aload_n C.1 C.2.1 d_M_goAfter_43 rfl (lv_at hl 0 rfl) ?_
      refine hq_get (v := .ref (b + 25)) C f_M_83 k0 rfl d_M_goAfter_44 ?_
      refine lv_iload_n C.1 C.2.1 d_M_goAfter_47 rfl (lv_at hl 1 rfl) ?_
      have e84 : va_at D vwCl (b + 25, .inl (cI, 4, .inl (A 24))) _ := hM 25 (by decide)
      refine hq_iald C 0 rfl e84 (vp_in_nI hj (by decide)) d_M_goAfter_48 ?_
      rw [nI_clamp (show j < 2 ^ 31 by omega)]
      refine W.eq (g2 := F0 m 49 ls [.int (A 24 j)]) rfl ?_
      refine lv_if_ne (tgt := 60) C.1 C.2.1 d_M_goAfter_49 (by decide) ?_ ?_
      · intro c85
        refine lv_aload_n C.1 C.2.1 d_M_goAfter_60 rfl (lv_at hl 0 rfl) ?_
        refine lv_iload_n C.1 C.2.1 d_M_goAfter_61 rfl (lv_at hl 1 rfl) ?_
        refine lv_iconst (v := 4) C.1 C.2.1 d_M_goAfter_62 (by decide) ?_
        refine lv_aload_n C.1 C.2.1 d_M_goAfter_63 rfl (lv_at hl 0 rfl) ?_
        refine hq_get (v := .ref (b + 25)) C f_M_83 k0 rfl d_M_goAfter_64 ?_
        refine lv_iload_n C.1 C.2.1 d_M_goAfter_67 rfl (lv_at hl 1 rfl) ?_
        have e86 : va_at D vwCl (b + 25, .inl (cI, 4, .inl (A 24))) _ := hM 25 (by decide)
        refine hq_iald C 0 rfl e86 (vp_in_nI hj (by decide)) d_M_goAfter_68 ?_
        rw [nI_clamp (show j < 2 ^ 31 by omega)]
        refine W.eq (g2 := F0 m 69 ls [.int (A 24 j), .int (4), .int (nI j), .ref (b)]) rfl ?_
        refine hq_callV (lo := lo) (As := [.int (nI j), .int (4), .int (A 24 j)]) (rest := []) C tb_good hml Y_M_143 (c_M_err l D cI cZ cN cJ lo b hlo th nn A j hj 4 (A 24 j) (show vp_in (nI 4) 8 from vp_in_nI (by decide) (by decide))) k0 rfl (fun _ _ _ _ h => h) (fun U hU hW => by show hq_B D vwCl b 31 (mdC cI cZ b th nn A) U.heap; rw [hU]; exact hM) hL hl.1 rfl rfl ⟨⟨Nat.le_of_ble_eq_true rfl, Nat.le_of_ble_eq_true rfl⟩, Nat.le_of_ble_eq_true rfl, Nat.le_of_ble_eq_true rfl⟩ (Nat.le_of_ble_eq_true rfl) d_M_goAfter_69 (fun v H89 locs hp hL => ?_)
        obtain ⟨rfl, m87, S88⟩ := hp
        refine W.eq (g2 := F0 m 72 ls []) rfl ?_
        have k0 : va_at D vwCl (b, .inr (6, [.int (th), .int (nn), .ref (b + 1), .ref (b + 2), .ref (b + 3), .ref (b + 4), .ref (b + 5), .ref (b + 6), .ref (b + 7), .ref (b + 8), .ref (b + 9), .ref (b + 10), .ref (b + 11), .ref (b + 12), .ref (b + 13), .ref (b + 14), .ref (b + 15), .ref (b + 16), .ref (b + 17), .ref (b + 18), .ref (b + 19), .ref (b + 20), .ref (b + 21), .ref (b + 22), .ref (b + 23), .ref (b + 24), .ref (b + 25), .ref (b + 26), .ref (b + 27), .ref (b + 28), .ref (b + 29), .ref (b + 30)])) H89 := m87 0 (by decide)
        refine lv_goto (tgt := 146) C.1 C.2.1 d_M_goAfter_72 (by decide) ?_
        have hf : f_M_goAfter A j x = (f_M_err A j 4 (A 24 j)) := by unfold f_M_goAfter; rw [if_neg c41, if_neg c43, if_neg c85]
        exact hq_vret C hret hlk (Nat.le_of_ble_eq_true rfl) (Nat.le_of_ble_eq_true rfl) hL ⟨rfl, by rw [hf]; exact m87, hq_Scall (hq_S0) S88 (by omega) (by omega)⟩ d_M_goAfter_146
      · intro c85
        refine lv_aload_n C.1 C.2.1 d_M_goAfter_52 rfl (lv_at hl 0 rfl) ?_
        refine lv_iload_n C.1 C.2.1 d_M_goAfter_53 rfl (lv_at hl 1 rfl) ?_
        refine hq_callV (lo := lo) (As := [.int (nI j)]) (rest := []) C tb_good hml Y_M_137 (c_M_overload l D cI cZ cN cJ lo b hlo th nn A j hj) k0 rfl (fun _ _ _ _ h => h) (fun U hU hW => by show hq_B D vwCl b 31 (mdC cI cZ b th nn A) U.heap; rw [hU]; exact hM) hL hl.1 rfl rfl ⟨⟨Nat.le_of_ble_eq_true rfl, Nat.le_of_ble_eq_true rfl⟩, Nat.le_of_ble_eq_true rfl, Nat.le_of_ble_eq_true rfl⟩ (Nat.le_of_ble_eq_true rfl) d_M_goAfter_54 (fun v H92 locs hp hL => ?_)
        obtain ⟨rfl, m90, S91⟩ := hp
        refine W.eq (g2 := F0 m 57 ls []) rfl ?_
        have k0 : va_at D vwCl (b, .inr (6, [.int (th), .int (nn), .ref (b + 1), .ref (b + 2), .ref (b + 3), .ref (b + 4), .ref (b + 5), .ref (b + 6), .ref (b + 7), .ref (b + 8), .ref (b + 9), .ref (b + 10), .ref (b + 11), .ref (b + 12), .ref (b + 13), .ref (b + 14), .ref (b + 15), .ref (b + 16), .ref (b + 17), .ref (b + 18), .ref (b + 19), .ref (b + 20), .ref (b + 21), .ref (b + 22), .ref (b + 23), .ref (b + 24), .ref (b + 25), .ref (b + 26), .ref (b + 27), .ref (b + 28), .ref (b + 29), .ref (b + 30)])) H92 := m90 0 (by decide)
        refine lv_goto (tgt := 146) C.1 C.2.1 d_M_goAfter_57 (by decide) ?_
        have hf : f_M_goAfter A j x = (f_M_overload A j) := by unfold f_M_goAfter; rw [if_neg c41, if_neg c43, if_pos c85]
        exact hq_vret C hret hlk (Nat.le_of_ble_eq_true rfl) (Nat.le_of_ble_eq_true rfl) hL ⟨rfl, by rw [hf]; exact m90, hq_Scall (hq_S0) S91 (by omega) (by omega)⟩ d_M_goAfter_146
  · intro c41
    refine lv_aload_n C.1 C.2.1 d_M_goAfter_5 rfl (lv_at hl 0 rfl) ?_
    refine hq_get (v := .ref (b + 28)) C f_M_92 k0 rfl d_M_goAfter_6 ?_
    refine lv_iload_n C.1 C.2.1 d_M_goAfter_9 rfl (lv_at hl 1 rfl) ?_
    refine lv_dup2_11 C.1 C.2.1 d_M_goAfter_10 rfl rfl ?_
    have e93 : va_at D vwCl (b + 28, .inl (cI, 4, .inl (A 27))) _ := hM 28 (by decide)
    refine hq_iald C 0 rfl e93 (vp_in_nI hj (by decide)) d_M_goAfter_11 ?_
    rw [nI_clamp (show j < 2 ^ 31 by omega)]
    refine W.eq (g2 := F0 m 12 ls [.int (A 27 j), .int (nI j), .ref (b + 28)]) rfl ?_
    refine lv_iconst (v := 1) C.1 C.2.1 d_M_goAfter_12 (by decide) ?_
    refine lv_iadd C.1 C.2.1 d_M_goAfter_13 ?_
    have e94 : va_at D vwCl (b + 28, .inl (cI, 4, .inl (A 27))) _ := hM 28 (by decide)
    refine hq_iast (lo := lo) C 0 rfl e94 (vp_in_nI hj (by decide)) hL (by omega) d_M_goAfter_14 (fun H95 locs u96 hL => ?_)
    rw [nI_clamp (show j < 2 ^ 31 by omega)] at u96
    have m97 := md_set (k := 27) (f := upd (A 27) j ((A 27 j) + 1)) hM u96
    have k0 : va_at D vwCl (b, .inr (6, [.int (th), .int (nn), .ref (b + 1), .ref (b + 2), .ref (b + 3), .ref (b + 4), .ref (b + 5), .ref (b + 6), .ref (b + 7), .ref (b + 8), .ref (b + 9), .ref (b + 10), .ref (b + 11), .ref (b + 12), .ref (b + 13), .ref (b + 14), .ref (b + 15), .ref (b + 16), .ref (b + 17), .ref (b + 18), .ref (b + 19), .ref (b + 20), .ref (b + 21), .ref (b + 22), .ref (b + 23), .ref (b + 24), .ref (b + 25), .ref (b + 26), .ref (b + 27), .ref (b + 28), .ref (b + 29), .ref (b + 30)])) H95 := m97 0 (by decide)
    refine lv_aload_n C.1 C.2.1 d_M_goAfter_15 rfl (lv_at hl 0 rfl) ?_
    refine hq_get (v := .ref (b + 28)) C f_M_92 k0 rfl d_M_goAfter_16 ?_
    refine lv_iload_n C.1 C.2.1 d_M_goAfter_19 rfl (lv_at hl 1 rfl) ?_
    have e98 : va_at D vwCl (b + 28, .inl (cI, 4, .inl (upd (A 27) j ((A 27 j) + 1)))) _ := m97 28 (by decide)
    refine hq_iald C 0 rfl e98 (vp_in_nI hj (by decide)) d_M_goAfter_20 ?_
    rw [nI_clamp (show j < 2 ^ 31 by omega)]
    rw [show (upd (A 27) j ((A 27 j) + 1)) j = (A 27 j) + 1 from pk_us]
    refine W.eq (g2 := F0 m 21 ls [.int ((A 27 j) + 1)]) rfl ?_
    refine lv_bipush (v := 8) C.1 C.2.1 d_M_goAfter_21 (by decide) ?_
    refine lv_icmp_ne (tgt := 146) C.1 C.2.1 d_M_goAfter_23 (by decide) ?_ ?_
    · intro c99
      have hf : f_M_goAfter A j x = (setA A 27 (upd (A 27) j ((A 27 j) + 1))) := by unfold f_M_goAfter; rw [if_pos c41, if_neg c99]
      exact hq_vret C hret hlk (Nat.le_of_ble_eq_true rfl) (Nat.le_of_ble_eq_true rfl) hL ⟨rfl, by rw [hf]; exact m97, hq_Sput (hq_S0) u96 (by omega) (by omega)⟩ d_M_goAfter_146
    · intro c99
      refine lv_aload_n C.1 C.2.1 d_M_goAfter_26 rfl (lv_at hl 0 rfl) ?_
      refine lv_iload_n C.1 C.2.1 d_M_goAfter_27 rfl (lv_at hl 1 rfl) ?_
      refine hq_callV (lo := lo) (As := [.int (nI j)]) (rest := []) C tb_good hml Y_M_133 (c_M_rest l D cI cZ cN cJ lo b hlo th nn (setA A 27 (upd (A 27) j ((A 27 j) + 1))) j hj) k0 rfl (fun _ _ _ _ h => h) (fun U hU hW => by show hq_B D vwCl b 31 (mdC cI cZ b th nn (setA A 27 (upd (A 27) j ((A 27 j) + 1)))) U.heap; rw [hU]; exact m97) hL hl.1 rfl rfl ⟨⟨Nat.le_of_ble_eq_true rfl, Nat.le_of_ble_eq_true rfl⟩, Nat.le_of_ble_eq_true rfl, Nat.le_of_ble_eq_true rfl⟩ (Nat.le_of_ble_eq_true rfl) d_M_goAfter_28 (fun v H102 locs hp hL => ?_)
      obtain ⟨rfl, m100, S101⟩ := hp
      refine W.eq (g2 := F0 m 31 ls []) rfl ?_
      have k0 : va_at D vwCl (b, .inr (6, [.int (th), .int (nn), .ref (b + 1), .ref (b + 2), .ref (b + 3), .ref (b + 4), .ref (b + 5), .ref (b + 6), .ref (b + 7), .ref (b + 8), .ref (b + 9), .ref (b + 10), .ref (b + 11), .ref (b + 12), .ref (b + 13), .ref (b + 14), .ref (b + 15), .ref (b + 16), .ref (b + 17), .ref (b + 18), .ref (b + 19), .ref (b + 20), .ref (b + 21), .ref (b + 22), .ref (b + 23), .ref (b + 24), .ref (b + 25), .ref (b + 26), .ref (b + 27), .ref (b + 28), .ref (b + 29), .ref (b + 30)])) H102 := m100 0 (by decide)
      refine lv_goto (tgt := 146) C.1 C.2.1 d_M_goAfter_31 (by decide) ?_
      have hf : f_M_goAfter A j x = (f_M_rest (setA A 27 (upd (A 27) j ((A 27 j) + 1))) j) := by unfold f_M_goAfter; rw [if_pos c41, if_pos c99]
      exact hq_vret C hret hlk (Nat.le_of_ble_eq_true rfl) (Nat.le_of_ble_eq_true rfl) hL ⟨rfl, by rw [hf]; exact m100, hq_Scall (hq_Sput (hq_S0) u96 (by omega) (by omega)) S101 (by omega) (by omega)⟩ d_M_goAfter_146
set_option maxHeartbeats 4000000 in
set_option maxRecDepth 100000 in
theorem ok_M_goAfter (A : Nat → Nat → Int32) (j : Nat) (hj : j < 4) (x : Int32) (ok : okA A) : okA (f_M_goAfter A j x) := by
  unfold f_M_goAfter
  by_cases c41 : x = 1
  · rw [if_pos c41]
    by_cases c99 : ((A 27 j) + 1) = 8
    · rw [if_pos c99]
      exact (ok_M_rest (setA A 27 (upd (A 27) j ((A 27 j) + 1))) j hj (okA_o (by decide) ok))
    · rw [if_neg c99]
      exact (okA_o (by decide) ok)
  · rw [if_neg c41]
    by_cases c43 : (A 27 j) ≤ 0
    · rw [if_pos c43]
      by_cases c51 : ((A 26 j) + 1) = 1
      · rw [if_pos c51]
        by_cases c63 : (A 24 j) = 2
        · rw [if_pos c63]
          by_cases c79 : (((A 26 j) + 1) - ((A 26 j) + 1) / 8 * 8) = 0
          · rw [if_pos c79]
            by_cases c83 : ((f_M_eightMore (setA (setA A 26 (upd (A 26) j ((A 26 j) + 1))) 5 (upd (A 5) j ((A 5 j) + 8))) j).2) = 0
            · rw [if_pos c83]
              exact (ok_M_eightMore (setA (setA A 26 (upd (A 26) j ((A 26 j) + 1))) 5 (upd (A 5) j ((A 5 j) + 8))) j hj (okA_o (by decide) (okA_o (by decide) ok)))
            · rw [if_neg c83]
              exact (ok_M_eightMore (setA (setA A 26 (upd (A 26) j ((A 26 j) + 1))) 5 (upd (A 5) j ((A 5 j) + 8))) j hj (okA_o (by decide) (okA_o (by decide) ok)))
          · rw [if_neg c79]
            exact (okA_o (by decide) (okA_o (by decide) ok))
        · rw [if_neg c63]
          by_cases c69 : (((A 26 j) + 1) - ((A 26 j) + 1) / 8 * 8) = 0
          · rw [if_pos c69]
            by_cases c73 : ((f_M_eightMore (setA (setA A 26 (upd (A 26) j ((A 26 j) + 1))) 5 (upd (A 5) j ((A 5 j) + 0))) j).2) = 0
            · rw [if_pos c73]
              exact (ok_M_eightMore (setA (setA A 26 (upd (A 26) j ((A 26 j) + 1))) 5 (upd (A 5) j ((A 5 j) + 0))) j hj (okA_o (by decide) (okA_o (by decide) ok)))
            · rw [if_neg c73]
              exact (ok_M_eightMore (setA (setA A 26 (upd (A 26) j ((A 26 j) + 1))) 5 (upd (A 5) j ((A 5 j) + 0))) j hj (okA_o (by decide) (okA_o (by decide) ok)))
          · rw [if_neg c69]
            exact (okA_o (by decide) (okA_o (by decide) ok))
      · rw [if_neg c51]
        by_cases c57 : (((A 26 j) + 1) - ((A 26 j) + 1) / 8 * 8) = 0
        · rw [if_pos c57]
          by_cases c61 : ((f_M_eightMore (setA (setA A 26 (upd (A 26) j ((A 26 j) + 1))) 5 (upd (A 5) j ((A 5 j) + 0))) j).2) = 0
          · rw [if_pos c61]
            exact (ok_M_eightMore (setA (setA A 26 (upd (A 26) j ((A 26 j) + 1))) 5 (upd (A 5) j ((A 5 j) + 0))) j hj (okA_o (by decide) (okA_o (by decide) ok)))
          · rw [if_neg c61]
            exact (ok_M_eightMore (setA (setA A 26 (upd (A 26) j ((A 26 j) + 1))) 5 (upd (A 5) j ((A 5 j) + 0))) j hj (okA_o (by decide) (okA_o (by decide) ok)))
        · rw [if_neg c57]
          exact (okA_o (by decide) (okA_o (by decide) ok))
    · rw [if_neg c43]
      by_cases c85 : (A 24 j) = 0
      · rw [if_pos c85]
        exact (ok_M_overload A j hj ok)
      · rw [if_neg c85]
        exact (ok_M_err A j hj 4 (A 24 j) (show vp_in (nI 4) 8 from vp_in_nI (by decide) (by decide)) ok)
