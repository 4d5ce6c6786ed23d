/-! The reference's node alone: sending, hearing, seeing. -/
def gbst (row : Nat → Int32) : Nat → Nat → Nat → Nat
  | 0, _, q => q
  | d + 1, i, q => gbst row d (i + 1) (if row q ≤ row i then q else i)
theorem bst_g (A : Nat → Nat → Int32) (j : Nat) : ∀ d i q : Nat, bst A j d i q = gbst (fun q => A 10 (4 * j + q)) d i q := by
  intro d
  induction d with
  | zero => intro i q; rfl
  | succ d ih => intro i q; exact ih (i + 1) _
def g_M_begin (yy : sM) : sM := g_M_open (yy.s13 (nI (gbst yy.wi (yy.r9.toNatClampNeg - 1) 1 0))) 1
theorem pj_M_begin (A : Nat → Nat → Int32) (j : Nat) (hj : j < 4) (yy : sM) (h : pj A j = yy) : pj (f_M_begin A j) j = g_M_begin yy := by
  subst h
  have h1 := bst_g A j (wn A j - 1) 1 0
  show pj (f_M_open (setA A 13 (upd (A 13) j (nI (bst A j (wn A j - 1) 1 0)))) j 1) j = _
  rw [h1]
  exact pj_M_open _ j hj 1 _ (pjc_13 rfl rfl)
theorem sh3_o {k : Nat} (hk : k ≠ 10 ∧ k ≠ 11 ∧ k ≠ 12) : ∀ (d i : Nat) (B : Nat → Nat → Int32), sh3 d i B k = B k := by
  intro d
  induction d with
  | zero => intro i B; rfl
  | succ d ih =>
    intro i B
    refine (ih (i + 1) _).trans ?_
    rw [setA_ne hk.2.2, setA_ne hk.2.1, setA_ne hk.1]
theorem sh3_10 : ∀ (d i : Nat) (B : Nat → Nat → Int32), sh3 d i B 10 = shiftF d i (B 10) := by
  intro d
  induction d with
  | zero => intro i B; rfl
  | succ d ih => intro i B; exact ih (i + 1) _
theorem sh3_11 : ∀ (d i : Nat) (B : Nat → Nat → Int32), sh3 d i B 11 = shiftF d i (B 11) := by
  intro d
  induction d with
  | zero => intro i B; rfl
  | succ d ih => intro i B; exact ih (i + 1) _
theorem sh3_12 : ∀ (d i : Nat) (B : Nat → Nat → Int32), sh3 d i B 12 = shiftF d i (B 12) := by
  intro d
  induction d with
  | zero => intro i B; rfl
  | succ d ih => intro i B; exact ih (i + 1) _
theorem shiftF_off {j : Nat} : ∀ (d c : Nat) (row : Nat → Int32), (fun q => shiftF d (4 * j + c) row (4 * j + q)) = shiftF d c (fun q => row (4 * j + q)) := by
  intro d
  induction d with
  | zero => intro c row; rfl
  | succ d ih =>
    intro c row
    refine (ih (c + 1) _).trans ?_
    have h9 : (fun q => upd row (4 * j + c) (row (4 * j + c + 1)) (4 * j + q)) = upd (fun q => row (4 * j + q)) c (row (4 * j + (c + 1))) := by
      funext q
      by_cases e : q = c
      · subst e; rw [pk_us, pk_us]; rfl
      · rw [pk_un (by omega), pk_un e]
    rw [h9]
    rfl
theorem pj_sh3 {j : Nat} (d c : Nat) (B : Nat → Nat → Int32) (y : sM) (h : pj B j = y) : pj (sh3 d (4 * j + c) B) j = ((y.swi (shiftF d c y.wi)).swb (shiftF d c y.wb)).swd (shiftF d c y.wd) := by
  subst h
  have e3 : sh3 d (4 * j + c) B 3 = B 3 := sh3_o (by decide) _ _ _
  have e4 : sh3 d (4 * j + c) B 4 = B 4 := sh3_o (by decide) _ _ _
  have e5 : sh3 d (4 * j + c) B 5 = B 5 := sh3_o (by decide) _ _ _
  have e6 : sh3 d (4 * j + c) B 6 = B 6 := sh3_o (by decide) _ _ _
  have e7 : sh3 d (4 * j + c) B 7 = B 7 := sh3_o (by decide) _ _ _
  have e8 : sh3 d (4 * j + c) B 8 = B 8 := sh3_o (by decide) _ _ _
  have e9 : sh3 d (4 * j + c) B 9 = B 9 := sh3_o (by decide) _ _ _
  have e13 : sh3 d (4 * j + c) B 13 = B 13 := sh3_o (by decide) _ _ _
  have e14 : sh3 d (4 * j + c) B 14 = B 14 := sh3_o (by decide) _ _ _
  have e16 : sh3 d (4 * j + c) B 16 = B 16 := sh3_o (by decide) _ _ _
  have e17 : sh3 d (4 * j + c) B 17 = B 17 := sh3_o (by decide) _ _ _
  have e18 : sh3 d (4 * j + c) B 18 = B 18 := sh3_o (by decide) _ _ _
  have e19 : sh3 d (4 * j + c) B 19 = B 19 := sh3_o (by decide) _ _ _
  have e20 : sh3 d (4 * j + c) B 20 = B 20 := sh3_o (by decide) _ _ _
  have e21 : sh3 d (4 * j + c) B 21 = B 21 := sh3_o (by decide) _ _ _
  have e22 : sh3 d (4 * j + c) B 22 = B 22 := sh3_o (by decide) _ _ _
  have e23 : sh3 d (4 * j + c) B 23 = B 23 := sh3_o (by decide) _ _ _
  have e24 : sh3 d (4 * j + c) B 24 = B 24 := sh3_o (by decide) _ _ _
  have e25 : sh3 d (4 * j + c) B 25 = B 25 := sh3_o (by decide) _ _ _
  have e26 : sh3 d (4 * j + c) B 26 = B 26 := sh3_o (by decide) _ _ _
  have e27 : sh3 d (4 * j + c) B 27 = B 27 := sh3_o (by decide) _ _ _
  have e28 : sh3 d (4 * j + c) B 28 = B 28 := sh3_o (by decide) _ _ _
  have e29 : sh3 d (4 * j + c) B 29 = B 29 := sh3_o (by decide) _ _ _
  have e15 : sh3 d (4 * j + c) B 15 = B 15 := sh3_o (by decide) _ _ _
  have e10 : (fun q => sh3 d (4 * j + c) B 10 (4 * j + q)) = shiftF d c (fun q => B 10 (4 * j + q)) := by rw [sh3_10]; exact shiftF_off d c _
  have e11 : (fun q => sh3 d (4 * j + c) B 11 (4 * j + q)) = shiftF d c (fun q => B 11 (4 * j + q)) := by rw [sh3_11]; exact shiftF_off d c _
  have e12 : (fun q => sh3 d (4 * j + c) B 12 (4 * j + q)) = shiftF d c (fun q => B 12 (4 * j + q)) := by rw [sh3_12]; exact shiftF_off d c _
  show (sh3 d (4 * j + c) B 3 j, sh3 d (4 * j + c) B 4 j, sh3 d (4 * j + c) B 5 j, sh3 d (4 * j + c) B 6 j, sh3 d (4 * j + c) B 7 j, sh3 d (4 * j + c) B 8 j, sh3 d (4 * j + c) B 9 j, sh3 d (4 * j + c) B 13 j, sh3 d (4 * j + c) B 14 j, sh3 d (4 * j + c) B 16 j, sh3 d (4 * j + c) B 17 j, sh3 d (4 * j + c) B 18 j, sh3 d (4 * j + c) B 19 j, sh3 d (4 * j + c) B 20 j, sh3 d (4 * j + c) B 21 j, sh3 d (4 * j + c) B 22 j, sh3 d (4 * j + c) B 23 j, sh3 d (4 * j + c) B 24 j, sh3 d (4 * j + c) B 25 j, sh3 d (4 * j + c) B 26 j, sh3 d (4 * j + c) B 27 j, sh3 d (4 * j + c) B 28 j, sh3 d (4 * j + c) B 29 j, fun q => sh3 d (4 * j + c) B 10 (4 * j + q), fun q => sh3 d (4 * j + c) B 11 (4 * j + q), fun q => sh3 d (4 * j + c) B 12 (4 * j + q), fun q => sh3 d (4 * j + c) B 15 (4 * j + q)) = (B 3 j, B 4 j, B 5 j, B 6 j, B 7 j, B 8 j, B 9 j, B 13 j, B 14 j, B 16 j, B 17 j, B 18 j, B 19 j, B 20 j, B 21 j, B 22 j, B 23 j, B 24 j, B 25 j, B 26 j, B 27 j, B 28 j, B 29 j, shiftF d c (fun q => B 10 (4 * j + q)), shiftF d c (fun q => B 11 (4 * j + q)), shiftF d c (fun q => B 12 (4 * j + q)), fun q => B 15 (4 * j + q))
  rw [e10, e11, e12, e3, e4, e5, e6, e7, e8, e9, e13, e14, e16, e17, e18, e19, e20, e21, e22, e23, e24, e25, e26, e27, e28, e29, e15]
def g_M_sentFrame (yy : sM) : sM := g_M_rest (((((yy.s4 (if yy.r4 ≤ 0 then yy.r4 - 0 else yy.r4 - 1)).s9 (yy.r9 - 1)).swi (shiftF (yy.r9.toNatClampNeg - 1 - yy.r13.toNatClampNeg) yy.r13.toNatClampNeg yy.wi)).swb (shiftF (yy.r9.toNatClampNeg - 1 - yy.r13.toNatClampNeg) yy.r13.toNatClampNeg yy.wb)).swd (shiftF (yy.r9.toNatClampNeg - 1 - yy.r13.toNatClampNeg) yy.r13.toNatClampNeg yy.wd))
theorem pj_M_sentFrame (A : Nat → Nat → Int32) (j : Nat) (hj : j < 4) (hw : ¬ A 9 j = 0) (ok : okA A) (yy : sM) (h : pj A j = yy) : pj (f_M_sentFrame A j) j = g_M_sentFrame yy := by
  subst h
  unfold f_M_sentFrame
  by_cases c : A 4 j ≤ 0
  · rw [if_pos c]
    refine (pj_M_rest _ j hj _ (pj_sh3 _ _ _ _ (pjc_9 (v := A 9 j - 1) rfl (pjc_4 (v := A 4 j - 0) rfl (pjc_0 rfl))))).trans ?_
    unfold g_M_sentFrame
    rw [if_pos (show (pj A j).r4 ≤ 0 from c)]
    rfl
  · rw [if_neg c]
    refine (pj_M_rest _ j hj _ (pj_sh3 _ _ _ _ (pjc_9 (v := A 9 j - 1) rfl (pjc_4 (v := A 4 j - 1) rfl (pjc_0 rfl))))).trans ?_
    unfold g_M_sentFrame
    rw [if_neg (show ¬ (pj A j).r4 ≤ 0 from c)]
    rfl
def g_M_coreBit (yy : sM) : Int32 := if (yy.r17) ≤ 0 then (if 15 ≤ (yy.r17) then (if 19 ≤ (yy.r17) then (if (8 * ((yy.wb yy.r13.toNatClampNeg))) ≤ ((yy.r17) - 19) then (((yy.r20) >>> (14 &&& 31)) &&& 1) else ((((yy.wd yy.r13.toNatClampNeg)) >>> ((((8 * (((yy.r17) - 19) / 8)) + 7) - (((yy.r17) - 19) - ((yy.r17) - 19) / 8 * 8)) &&& 31)) &&& 1)) else ((((yy.wb yy.r13.toNatClampNeg)) >>> ((18 - (yy.r17)) &&& 31)) &&& 1)) else ((0 : Int32))) else (if 12 ≤ (yy.r17) then (if 15 ≤ (yy.r17) then (if 19 ≤ (yy.r17) then (if (8 * ((yy.wb yy.r13.toNatClampNeg))) ≤ ((yy.r17) - 19) then (((yy.r20) >>> (14 &&& 31)) &&& 1) else ((((yy.wd yy.r13.toNatClampNeg)) >>> ((((8 * (((yy.r17) - 19) / 8)) + 7) - (((yy.r17) - 19) - ((yy.r17) - 19) / 8 * 8)) &&& 31)) &&& 1)) else ((((yy.wb yy.r13.toNatClampNeg)) >>> ((18 - (yy.r17)) &&& 31)) &&& 1)) else ((0 : Int32))) else ((((yy.wi yy.r13.toNatClampNeg)) >>> ((11 - (yy.r17)) &&& 31)) &&& 1))
set_option maxHeartbeats 4000000 in
set_option maxRecDepth 100000 in
theorem pj_M_coreBit (A : Nat → Nat → Int32) (j : Nat) (hj : j < 4) (ok : okA A) (yy : sM) (h : pj A j = yy) : f_M_coreBit A j = g_M_coreBit yy := by
  subst h
  by_cases c43 : (A 17 j) ≤ 0
  · skip
    by_cases c44 : 15 ≤ (A 17 j)
    · skip
      by_cases c45 : 19 ≤ (A 17 j)
      · skip
        by_cases c48 : (8 * (A 11 ((4 * (nI j)) + (A 13 j)).toNatClampNeg)) ≤ ((A 17 j) - 19)
        · skip
          have e47 : A 11 ((4 * (nI j)) + (A 13 j)).toNatClampNeg = (pj A j).wb (pj A j).r13.toNatClampNeg := by rw [ixn (in_r (ok j hj).2.2.1 (by decide))]
          have hf : f_M_coreBit A j = ((A 20 j) >>> (14 &&& 31)) &&& 1 := by unfold f_M_coreBit; rw [if_pos c43, if_pos c44, if_pos c45, if_pos c48]
          have hg : g_M_coreBit (pj A j) = (((pj A j).r20) >>> (14 &&& 31)) &&& 1 := by unfold g_M_coreBit; rw [if_pos (show ((pj A j).r17) ≤ 0 from c43), if_pos (show 15 ≤ ((pj A j).r17) from c44), if_pos (show 19 ≤ ((pj A j).r17) from c45), if_pos (show (8 * (((pj A j).wb (pj A j).r13.toNatClampNeg))) ≤ (((pj A j).r17) - 19) from by rw [← e47]; exact c48)]
          rw [hf, hg]
          all_goals rfl
        · skip
          have e47 : A 11 ((4 * (nI j)) + (A 13 j)).toNatClampNeg = (pj A j).wb (pj A j).r13.toNatClampNeg := by rw [ixn (in_r (ok j hj).2.2.1 (by decide))]
          have e51 : A 12 ((4 * (nI j)) + (A 13 j)).toNatClampNeg = (pj A j).wd (pj A j).r13.toNatClampNeg := by rw [ixn (in_r (ok j hj).2.2.1 (by decide))]
          have hf : f_M_coreBit A j = ((A 12 ((4 * (nI j)) + (A 13 j)).toNatClampNeg) >>> ((((8 * (((A 17 j) - 19) / 8)) + 7) - (((A 17 j) - 19) - ((A 17 j) - 19) / 8 * 8)) &&& 31)) &&& 1 := by unfold f_M_coreBit; rw [if_pos c43, if_pos c44, if_pos c45, if_neg c48]
          have hg : g_M_coreBit (pj A j) = ((((pj A j).wd (pj A j).r13.toNatClampNeg)) >>> ((((8 * ((((pj A j).r17) - 19) / 8)) + 7) - ((((pj A j).r17) - 19) - (((pj A j).r17) - 19) / 8 * 8)) &&& 31)) &&& 1 := by unfold g_M_coreBit; rw [if_pos (show ((pj A j).r17) ≤ 0 from c43), if_pos (show 15 ≤ ((pj A j).r17) from c44), if_pos (show 19 ≤ ((pj A j).r17) from c45), if_neg (show ¬ ((8 * (((pj A j).wb (pj A j).r13.toNatClampNeg))) ≤ (((pj A j).r17) - 19)) from by rw [← e47]; exact c48)]
          rw [hf, hg]
          rw [← e51]
          all_goals rfl
      · skip
        have e53 : A 11 ((4 * (nI j)) + (A 13 j)).toNatClampNeg = (pj A j).wb (pj A j).r13.toNatClampNeg := by rw [ixn (in_r (ok j hj).2.2.1 (by decide))]
        have hf : f_M_coreBit A j = ((A 11 ((4 * (nI j)) + (A 13 j)).toNatClampNeg) >>> ((18 - (A 17 j)) &&& 31)) &&& 1 := by unfold f_M_coreBit; rw [if_pos c43, if_pos c44, if_neg c45]
        have hg : g_M_coreBit (pj A j) = ((((pj A j).wb (pj A j).r13.toNatClampNeg)) >>> ((18 - ((pj A j).r17)) &&& 31)) &&& 1 := by unfold g_M_coreBit; rw [if_pos (show ((pj A j).r17) ≤ 0 from c43), if_pos (show 15 ≤ ((pj A j).r17) from c44), if_neg (show ¬ (19 ≤ ((pj A j).r17)) from c45)]
        rw [hf, hg]
        rw [← e53]
        all_goals rfl
    · skip
      have hf : f_M_coreBit A j = (0 : Int32) := by unfold f_M_coreBit; rw [if_pos c43, if_neg c44]
      have hg : g_M_coreBit (pj A j) = (0 : Int32) := by unfold g_M_coreBit; rw [if_pos (show ((pj A j).r17) ≤ 0 from c43), if_neg (show ¬ (15 ≤ ((pj A j).r17)) from c44)]
      rw [hf, hg]
      all_goals rfl
  · skip
    by_cases c54 : 12 ≤ (A 17 j)
    · skip
      by_cases c55 : 15 ≤ (A 17 j)
      · skip
        by_cases c56 : 19 ≤ (A 17 j)
        · skip
          by_cases c59 : (8 * (A 11 ((4 * (nI j)) + (A 13 j)).toNatClampNeg)) ≤ ((A 17 j) - 19)
          · skip
            have e58 : A 11 ((4 * (nI j)) + (A 13 j)).toNatClampNeg = (pj A j).wb (pj A j).r13.toNatClampNeg := by rw [ixn (in_r (ok j hj).2.2.1 (by decide))]
            have hf : f_M_coreBit A j = ((A 20 j) >>> (14 &&& 31)) &&& 1 := by unfold f_M_coreBit; rw [if_neg c43, if_pos c54, if_pos c55, if_pos c56, if_pos c59]
            have hg : g_M_coreBit (pj A j) = (((pj A j).r20) >>> (14 &&& 31)) &&& 1 := by unfold g_M_coreBit; rw [if_neg (show ¬ (((pj A j).r17) ≤ 0) from c43), if_pos (show 12 ≤ ((pj A j).r17) from c54), if_pos (show 15 ≤ ((pj A j).r17) from c55), if_pos (show 19 ≤ ((pj A j).r17) from c56), if_pos (show (8 * (((pj A j).wb (pj A j).r13.toNatClampNeg))) ≤ (((pj A j).r17) - 19) from by rw [← e58]; exact c59)]
            rw [hf, hg]
            all_goals rfl
          · skip
            have e58 : A 11 ((4 * (nI j)) + (A 13 j)).toNatClampNeg = (pj A j).wb (pj A j).r13.toNatClampNeg := by rw [ixn (in_r (ok j hj).2.2.1 (by decide))]
            have e62 : A 12 ((4 * (nI j)) + (A 13 j)).toNatClampNeg = (pj A j).wd (pj A j).r13.toNatClampNeg := by rw [ixn (in_r (ok j hj).2.2.1 (by decide))]
            have hf : f_M_coreBit A j = ((A 12 ((4 * (nI j)) + (A 13 j)).toNatClampNeg) >>> ((((8 * (((A 17 j) - 19) / 8)) + 7) - (((A 17 j) - 19) - ((A 17 j) - 19) / 8 * 8)) &&& 31)) &&& 1 := by unfold f_M_coreBit; rw [if_neg c43, if_pos c54, if_pos c55, if_pos c56, if_neg c59]
            have hg : g_M_coreBit (pj A j) = ((((pj A j).wd (pj A j).r13.toNatClampNeg)) >>> ((((8 * ((((pj A j).r17) - 19) / 8)) + 7) - ((((pj A j).r17) - 19) - (((pj A j).r17) - 19) / 8 * 8)) &&& 31)) &&& 1 := by unfold g_M_coreBit; rw [if_neg (show ¬ (((pj A j).r17) ≤ 0) from c43), if_pos (show 12 ≤ ((pj A j).r17) from c54), if_pos (show 15 ≤ ((pj A j).r17) from c55), if_pos (show 19 ≤ ((pj A j).r17) from c56), if_neg (show ¬ ((8 * (((pj A j).wb (pj A j).r13.toNatClampNeg))) ≤ (((pj A j).r17) - 19)) from by rw [← e58]; exact c59)]
            rw [hf, hg]
            rw [← e62]
            all_goals rfl
        · skip
          have e64 : A 11 ((4 * (nI j)) + (A 13 j)).toNatClampNeg = (pj A j).wb (pj A j).r13.toNatClampNeg := by rw [ixn (in_r (ok j hj).2.2.1 (by decide))]
          have hf : f_M_coreBit A j = ((A 11 ((4 * (nI j)) + (A 13 j)).toNatClampNeg) >>> ((18 - (A 17 j)) &&& 31)) &&& 1 := by unfold f_M_coreBit; rw [if_neg c43, if_pos c54, if_pos c55, if_neg c56]
          have hg : g_M_coreBit (pj A j) = ((((pj A j).wb (pj A j).r13.toNatClampNeg)) >>> ((18 - ((pj A j).r17)) &&& 31)) &&& 1 := by unfold g_M_coreBit; rw [if_neg (show ¬ (((pj A j).r17) ≤ 0) from c43), if_pos (show 12 ≤ ((pj A j).r17) from c54), if_pos (show 15 ≤ ((pj A j).r17) from c55), if_neg (show ¬ (19 ≤ ((pj A j).r17)) from c56)]
          rw [hf, hg]
          rw [← e64]
          all_goals rfl
      · skip
        have hf : f_M_coreBit A j = (0 : Int32) := by unfold f_M_coreBit; rw [if_neg c43, if_pos c54, if_neg c55]
        have hg : g_M_coreBit (pj A j) = (0 : Int32) := by unfold g_M_coreBit; rw [if_neg (show ¬ (((pj A j).r17) ≤ 0) from c43), if_pos (show 12 ≤ ((pj A j).r17) from c54), if_neg (show ¬ (15 ≤ ((pj A j).r17)) from c55)]
        rw [hf, hg]
        all_goals rfl
    · skip
      have e66 : A 10 ((4 * (nI j)) + (A 13 j)).toNatClampNeg = (pj A j).wi (pj A j).r13.toNatClampNeg := by rw [ixn (in_r (ok j hj).2.2.1 (by decide))]
      have hf : f_M_coreBit A j = ((A 10 ((4 * (nI j)) + (A 13 j)).toNatClampNeg) >>> ((11 - (A 17 j)) &&& 31)) &&& 1 := by unfold f_M_coreBit; rw [if_neg c43, if_neg c54]
      have hg : g_M_coreBit (pj A j) = ((((pj A j).wi (pj A j).r13.toNatClampNeg)) >>> ((11 - ((pj A j).r17)) &&& 31)) &&& 1 := by unfold g_M_coreBit; rw [if_neg (show ¬ (((pj A j).r17) ≤ 0) from c43), if_neg (show ¬ (12 ≤ ((pj A j).r17)) from c54)]
      rw [hf, hg]
      rw [← e66]
      all_goals rfl
def g_M_driven (yy : sM) : Int32 := if (yy.r3) = 1 then (if (yy.r16) ≤ 0 then (if (yy.r18) = 5 then (1 - (yy.r19)) else ((g_M_coreBit yy))) else ((1 : Int32))) else (if (yy.r3) = 2 then (if (yy.r16) = 2 then (if (yy.r20) = 0 then ((0 : Int32)) else ((1 : Int32))) else ((1 : Int32))) else (if (yy.r3) = 3 then (if (yy.r25) = 0 then ((0 : Int32)) else ((1 : Int32))) else ((1 : Int32))))
set_option maxHeartbeats 4000000 in
set_option maxRecDepth 100000 in
theorem pj_M_driven (A : Nat → Nat → Int32) (j : Nat) (hj : j < 4) (ok : okA A) (yy : sM) (h : pj A j = yy) : f_M_driven A j = g_M_driven yy := by
  subst h
  by_cases g42 : (A 3 j) = 1
  · skip
    by_cases c44 : (A 16 j) ≤ 0
    · skip
      by_cases c46 : (A 18 j) = 5
      · skip
        have hf : f_M_driven A j = 1 - (A 19 j) := by unfold f_M_driven; rw [if_pos g42, if_pos c44, if_pos c46]
        have hg : g_M_driven (pj A j) = 1 - ((pj A j).r19) := by unfold g_M_driven; rw [if_pos (show ((pj A j).r3) = 1 from g42), if_pos (show ((pj A j).r16) ≤ 0 from c44), if_pos (show ((pj A j).r18) = 5 from c46)]
        rw [hf, hg]
        all_goals rfl
      · skip
        have e48 : (f_M_coreBit A j) = (g_M_coreBit (pj A j)) := (pj_M_coreBit A j hj ok _ rfl)
        have hf : f_M_driven A j = (f_M_coreBit A j) := by unfold f_M_driven; rw [if_pos g42, if_pos c44, if_neg c46]
        have hg : g_M_driven (pj A j) = (g_M_coreBit (pj A j)) := by unfold g_M_driven; rw [if_pos (show ((pj A j).r3) = 1 from g42), if_pos (show ((pj A j).r16) ≤ 0 from c44), if_neg (show ¬ (((pj A j).r18) = 5) from c46)]
        rw [hf, hg]
        rw [← e48]
        all_goals rfl
    · skip
      have hf : f_M_driven A j = (1 : Int32) := by unfold f_M_driven; rw [if_pos g42, if_neg c44]
      have hg : g_M_driven (pj A j) = (1 : Int32) := by unfold g_M_driven; rw [if_pos (show ((pj A j).r3) = 1 from g42), if_neg (show ¬ (((pj A j).r16) ≤ 0) from c44)]
      rw [hf, hg]
      all_goals rfl
  · skip
    by_cases g50 : (A 3 j) = 2
    · skip
      by_cases c52 : (A 16 j) = 2
      · skip
        by_cases c54 : (A 20 j) = 0
        · skip
          have hf : f_M_driven A j = (0 : Int32) := by unfold f_M_driven; rw [if_neg g42, if_pos g50, if_pos c52, if_pos c54]
          have hg : g_M_driven (pj A j) = (0 : Int32) := by unfold g_M_driven; rw [if_neg (show ¬ (((pj A j).r3) = 1) from g42), if_pos (show ((pj A j).r3) = 2 from g50), if_pos (show ((pj A j).r16) = 2 from c52), if_pos (show ((pj A j).r20) = 0 from c54)]
          rw [hf, hg]
          all_goals rfl
        · skip
          have hf : f_M_driven A j = (1 : Int32) := by unfold f_M_driven; rw [if_neg g42, if_pos g50, if_pos c52, if_neg c54]
          have hg : g_M_driven (pj A j) = (1 : Int32) := by unfold g_M_driven; rw [if_neg (show ¬ (((pj A j).r3) = 1) from g42), if_pos (show ((pj A j).r3) = 2 from g50), if_pos (show ((pj A j).r16) = 2 from c52), if_neg (show ¬ (((pj A j).r20) = 0) from c54)]
          rw [hf, hg]
          all_goals rfl
      · skip
        have hf : f_M_driven A j = (1 : Int32) := by unfold f_M_driven; rw [if_neg g42, if_pos g50, if_neg c52]
        have hg : g_M_driven (pj A j) = (1 : Int32) := by unfold g_M_driven; rw [if_neg (show ¬ (((pj A j).r3) = 1) from g42), if_pos (show ((pj A j).r3) = 2 from g50), if_neg (show ¬ (((pj A j).r16) = 2) from c52)]
        rw [hf, hg]
        all_goals rfl
    · skip
      by_cases g55 : (A 3 j) = 3
      · skip
        by_cases c57 : (A 25 j) = 0
        · skip
          have hf : f_M_driven A j = (0 : Int32) := by unfold f_M_driven; rw [if_neg g42, if_neg g50, if_pos g55, if_pos c57]
          have hg : g_M_driven (pj A j) = (0 : Int32) := by unfold g_M_driven; rw [if_neg (show ¬ (((pj A j).r3) = 1) from g42), if_neg (show ¬ (((pj A j).r3) = 2) from g50), if_pos (show ((pj A j).r3) = 3 from g55), if_pos (show ((pj A j).r25) = 0 from c57)]
          rw [hf, hg]
          all_goals rfl
        · skip
          have hf : f_M_driven A j = (1 : Int32) := by unfold f_M_driven; rw [if_neg g42, if_neg g50, if_pos g55, if_neg c57]
          have hg : g_M_driven (pj A j) = (1 : Int32) := by unfold g_M_driven; rw [if_neg (show ¬ (((pj A j).r3) = 1) from g42), if_neg (show ¬ (((pj A j).r3) = 2) from g50), if_pos (show ((pj A j).r3) = 3 from g55), if_neg (show ¬ (((pj A j).r25) = 0) from c57)]
          rw [hf, hg]
          all_goals rfl
      · skip
        have hf : f_M_driven A j = (1 : Int32) := by unfold f_M_driven; rw [if_neg g42, if_neg g50, if_neg g55]
        have hg : g_M_driven (pj A j) = (1 : Int32) := by unfold g_M_driven; rw [if_neg (show ¬ (((pj A j).r3) = 1) from g42), if_neg (show ¬ (((pj A j).r3) = 2) from g50), if_neg (show ¬ (((pj A j).r3) = 3) from g55)]
        rw [hf, hg]
        all_goals rfl
def g_M_heardFrame (yy : sM) (x : Int32) : sM := if (yy.r5) ≤ 127 then (if (yy.r5) ≤ 0 then (if ((yy.r21) &&& (yy.r6)) = (yy.r7) then (if (yy.r14) = 4 then (if x = 0 then ((g_M_overload ((yy.s5 0).s8 ((yy.r8) + 1)))) else ((g_M_rest ((yy.s5 0).s8 ((yy.r8) + 1))))) else (if x = 0 then ((g_M_overload (((yy.s5 0).sbx (upd yy.bx yy.r14.toNatClampNeg (((yy.r21) + (2048 * (yy.r22))) + (8192 * (yy.r23))))).s14 ((yy.r14) + 1)))) else ((g_M_rest (((yy.s5 0).sbx (upd yy.bx yy.r14.toNatClampNeg (((yy.r21) + (2048 * (yy.r22))) + (8192 * (yy.r23))))).s14 ((yy.r14) + 1)))))) else (if x = 0 then ((g_M_overload (yy.s5 0))) else ((g_M_rest (yy.s5 0))))) else (if ((yy.r21) &&& (yy.r6)) = (yy.r7) then (if (yy.r14) = 4 then (if x = 0 then ((g_M_overload ((yy.s5 ((yy.r5) - 1)).s8 ((yy.r8) + 1)))) else ((g_M_rest ((yy.s5 ((yy.r5) - 1)).s8 ((yy.r8) + 1))))) else (if x = 0 then ((g_M_overload (((yy.s5 ((yy.r5) - 1)).sbx (upd yy.bx yy.r14.toNatClampNeg (((yy.r21) + (2048 * (yy.r22))) + (8192 * (yy.r23))))).s14 ((yy.r14) + 1)))) else ((g_M_rest (((yy.s5 ((yy.r5) - 1)).sbx (upd yy.bx yy.r14.toNatClampNeg (((yy.r21) + (2048 * (yy.r22))) + (8192 * (yy.r23))))).s14 ((yy.r14) + 1)))))) else (if x = 0 then ((g_M_overload (yy.s5 ((yy.r5) - 1)))) else ((g_M_rest (yy.s5 ((yy.r5) - 1))))))) else (if ((yy.r21) &&& (yy.r6)) = (yy.r7) then (if (yy.r14) = 4 then (if x = 0 then ((g_M_overload ((yy.s5 127).s8 ((yy.r8) + 1)))) else ((g_M_rest ((yy.s5 127).s8 ((yy.r8) + 1))))) else (if x = 0 then ((g_M_overload (((yy.s5 127).sbx (upd yy.bx yy.r14.toNatClampNeg (((yy.r21) + (2048 * (yy.r22))) + (8192 * (yy.r23))))).s14 ((yy.r14) + 1)))) else ((g_M_rest (((yy.s5 127).sbx (upd yy.bx yy.r14.toNatClampNeg (((yy.r21) + (2048 * (yy.r22))) + (8192 * (yy.r23))))).s14 ((yy.r14) + 1)))))) else (if x = 0 then ((g_M_overload (yy.s5 127))) else ((g_M_rest (yy.s5 127)))))
set_option maxHeartbeats 4000000 in
set_option maxRecDepth 100000 in
theorem pj_M_heardFrame (A : Nat → Nat → Int32) (j : Nat) (hj : j < 4) (x : Int32) (ok : okA A) (yy : sM) (h : pj A j = yy) : pj (f_M_heardFrame A j x) j = g_M_heardFrame yy x := by
  subst h
  by_cases c42 : (A 5 j) ≤ 127
  · skip
    by_cases c44 : (A 5 j) ≤ 0
    · skip
      by_cases c52 : ((A 21 j) &&& (A 6 j)) = (A 7 j)
      · skip
        by_cases c63 : (A 14 j) = 4
        · skip
          by_cases c91 : x = 0
          · skip
            have e99 : pj (f_M_overload (setA (setA A 5 (upd (A 5) j 0)) 8 (upd (A 8) j ((A 8 j) + 1))) j) j = (g_M_overload (((pj A j).s5 0).s8 (((pj A j).r8) + 1))) := (pj_M_overload (setA (setA A 5 (upd (A 5) j 0)) 8 (upd (A 8) j ((A 8 j) + 1))) j hj _ (pjc_8 (v := (A 8 j) + 1) rfl (pjc_5 (v := 0) rfl rfl)))
            have hf : f_M_heardFrame A j x = (f_M_overload (setA (setA A 5 (upd (A 5) j 0)) 8 (upd (A 8) j ((A 8 j) + 1))) j) := by unfold f_M_heardFrame; rw [if_pos c42, if_pos c44, if_pos c52, if_pos c63, if_pos c91]
            have hg : g_M_heardFrame (pj A j) x = (g_M_overload (((pj A j).s5 0).s8 (((pj A j).r8) + 1))) := by unfold g_M_heardFrame; rw [if_pos (show ((pj A j).r5) ≤ 127 from c42), if_pos (show ((pj A j).r5) ≤ 0 from c44), if_pos (show (((pj A j).r21) &&& ((pj A j).r6)) = ((pj A j).r7) from c52), if_pos (show ((pj A j).r14) = 4 from c63), if_pos (show x = 0 from c91)]
            rw [hf, hg]
            exact e99
          · skip
            have e95 : pj (f_M_rest (setA (setA A 5 (upd (A 5) j 0)) 8 (upd (A 8) j ((A 8 j) + 1))) j) j = (g_M_rest (((pj A j).s5 0).s8 (((pj A j).r8) + 1))) := (pj_M_rest (setA (setA A 5 (upd (A 5) j 0)) 8 (upd (A 8) j ((A 8 j) + 1))) j hj _ (pjc_8 (v := (A 8 j) + 1) rfl (pjc_5 (v := 0) rfl rfl)))
            have hf : f_M_heardFrame A j x = (f_M_rest (setA (setA A 5 (upd (A 5) j 0)) 8 (upd (A 8) j ((A 8 j) + 1))) j) := by unfold f_M_heardFrame; rw [if_pos c42, if_pos c44, if_pos c52, if_pos c63, if_neg c91]
            have hg : g_M_heardFrame (pj A j) x = (g_M_rest (((pj A j).s5 0).s8 (((pj A j).r8) + 1))) := by unfold g_M_heardFrame; rw [if_pos (show ((pj A j).r5) ≤ 127 from c42), if_pos (show ((pj A j).r5) ≤ 0 from c44), if_pos (show (((pj A j).r21) &&& ((pj A j).r6)) = ((pj A j).r7) from c52), if_pos (show ((pj A j).r14) = 4 from c63), if_neg (show ¬ (x = 0) from c91)]
            rw [hf, hg]
            exact e95
        · skip
          by_cases c77 : x = 0
          · skip
            have e85 : pj (f_M_overload (setA (setA (setA A 5 (upd (A 5) j 0)) 15 (upd (A 15) ((4 * (nI j)) + (A 14 j)).toNatClampNeg (((A 21 j) + (2048 * (A 22 j))) + (8192 * (A 23 j))))) 14 (upd (A 14) j ((A 14 j) + 1))) j) j = (g_M_overload ((((pj A j).s5 0).sbx (upd (pj A j).bx (pj A j).r14.toNatClampNeg ((((pj A j).r21) + (2048 * ((pj A j).r22))) + (8192 * ((pj A j).r23))))).s14 (((pj A j).r14) + 1))) := (pj_M_overload (setA (setA (setA A 5 (upd (A 5) j 0)) 15 (upd (A 15) ((4 * (nI j)) + (A 14 j)).toNatClampNeg (((A 21 j) + (2048 * (A 22 j))) + (8192 * (A 23 j))))) 14 (upd (A 14) j ((A 14 j) + 1))) j hj _ (pjc_14 (v := (A 14 j) + 1) rfl (pjc_15 (i := (A 14 j).toNatClampNeg) (v := ((A 21 j) + (2048 * (A 22 j))) + (8192 * (A 23 j))) (congrArg (fun q9 => upd (A 15) q9 (((A 21 j) + (2048 * (A 22 j))) + (8192 * (A 23 j)))) (ixn (in_r (ok j hj).2.1 (by decide)))) (pjc_5 (v := 0) rfl rfl))))
            have hf : f_M_heardFrame A j x = (f_M_overload (setA (setA (setA A 5 (upd (A 5) j 0)) 15 (upd (A 15) ((4 * (nI j)) + (A 14 j)).toNatClampNeg (((A 21 j) + (2048 * (A 22 j))) + (8192 * (A 23 j))))) 14 (upd (A 14) j ((A 14 j) + 1))) j) := by unfold f_M_heardFrame; rw [if_pos c42, if_pos c44, if_pos c52, if_neg c63, if_pos c77]
            have hg : g_M_heardFrame (pj A j) x = (g_M_overload ((((pj A j).s5 0).sbx (upd (pj A j).bx (pj A j).r14.toNatClampNeg ((((pj A j).r21) + (2048 * ((pj A j).r22))) + (8192 * ((pj A j).r23))))).s14 (((pj A j).r14) + 1))) := by unfold g_M_heardFrame; rw [if_pos (show ((pj A j).r5) ≤ 127 from c42), if_pos (show ((pj A j).r5) ≤ 0 from c44), if_pos (show (((pj A j).r21) &&& ((pj A j).r6)) = ((pj A j).r7) from c52), if_neg (show ¬ (((pj A j).r14) = 4) from c63), if_pos (show x = 0 from c77)]
            rw [hf, hg]
            exact e85
          · skip
            have e81 : pj (f_M_rest (setA (setA (setA A 5 (upd (A 5) j 0)) 15 (upd (A 15) ((4 * (nI j)) + (A 14 j)).toNatClampNeg (((A 21 j) + (2048 * (A 22 j))) + (8192 * (A 23 j))))) 14 (upd (A 14) j ((A 14 j) + 1))) j) j = (g_M_rest ((((pj A j).s5 0).sbx (upd (pj A j).bx (pj A j).r14.toNatClampNeg ((((pj A j).r21) + (2048 * ((pj A j).r22))) + (8192 * ((pj A j).r23))))).s14 (((pj A j).r14) + 1))) := (pj_M_rest (setA (setA (setA A 5 (upd (A 5) j 0)) 15 (upd (A 15) ((4 * (nI j)) + (A 14 j)).toNatClampNeg (((A 21 j) + (2048 * (A 22 j))) + (8192 * (A 23 j))))) 14 (upd (A 14) j ((A 14 j) + 1))) j hj _ (pjc_14 (v := (A 14 j) + 1) rfl (pjc_15 (i := (A 14 j).toNatClampNeg) (v := ((A 21 j) + (2048 * (A 22 j))) + (8192 * (A 23 j))) (congrArg (fun q9 => upd (A 15) q9 (((A 21 j) + (2048 * (A 22 j))) + (8192 * (A 23 j)))) (ixn (in_r (ok j hj).2.1 (by decide)))) (pjc_5 (v := 0) rfl rfl))))
            have hf : f_M_heardFrame A j x = (f_M_rest (setA (setA (setA A 5 (upd (A 5) j 0)) 15 (upd (A 15) ((4 * (nI j)) + (A 14 j)).toNatClampNeg (((A 21 j) + (2048 * (A 22 j))) + (8192 * (A 23 j))))) 14 (upd (A 14) j ((A 14 j) + 1))) j) := by unfold f_M_heardFrame; rw [if_pos c42, if_pos c44, if_pos c52, if_neg c63, if_neg c77]
            have hg : g_M_heardFrame (pj A j) x = (g_M_rest ((((pj A j).s5 0).sbx (upd (pj A j).bx (pj A j).r14.toNatClampNeg ((((pj A j).r21) + (2048 * ((pj A j).r22))) + (8192 * ((pj A j).r23))))).s14 (((pj A j).r14) + 1))) := by unfold g_M_heardFrame; rw [if_pos (show ((pj A j).r5) ≤ 127 from c42), if_pos (show ((pj A j).r5) ≤ 0 from c44), if_pos (show (((pj A j).r21) &&& ((pj A j).r6)) = ((pj A j).r7) from c52), if_neg (show ¬ (((pj A j).r14) = 4) from c63), if_neg (show ¬ (x = 0) from c77)]
            rw [hf, hg]
            exact e81
      · skip
        by_cases c53 : x = 0
        · skip
          have e61 : pj (f_M_overload (setA A 5 (upd (A 5) j 0)) j) j = (g_M_overload ((pj A j).s5 0)) := (pj_M_overload (setA A 5 (upd (A 5) j 0)) j hj _ (pjc_5 (v := 0) rfl rfl))
          have hf : f_M_heardFrame A j x = (f_M_overload (setA A 5 (upd (A 5) j 0)) j) := by unfold f_M_heardFrame; rw [if_pos c42, if_pos c44, if_neg c52, if_pos c53]
          have hg : g_M_heardFrame (pj A j) x = (g_M_overload ((pj A j).s5 0)) := by unfold g_M_heardFrame; rw [if_pos (show ((pj A j).r5) ≤ 127 from c42), if_pos (show ((pj A j).r5) ≤ 0 from c44), if_neg (show ¬ ((((pj A j).r21) &&& ((pj A j).r6)) = ((pj A j).r7)) from c52), if_pos (show x = 0 from c53)]
          rw [hf, hg]
          exact e61
        · skip
          have e57 : pj (f_M_rest (setA A 5 (upd (A 5) j 0)) j) j = (g_M_rest ((pj A j).s5 0)) := (pj_M_rest (setA A 5 (upd (A 5) j 0)) j hj _ (pjc_5 (v := 0) rfl rfl))
          have hf : f_M_heardFrame A j x = (f_M_rest (setA A 5 (upd (A 5) j 0)) j) := by unfold f_M_heardFrame; rw [if_pos c42, if_pos c44, if_neg c52, if_neg c53]
          have hg : g_M_heardFrame (pj A j) x = (g_M_rest ((pj A j).s5 0)) := by unfold g_M_heardFrame; rw [if_pos (show ((pj A j).r5) ≤ 127 from c42), if_pos (show ((pj A j).r5) ≤ 0 from c44), if_neg (show ¬ ((((pj A j).r21) &&& ((pj A j).r6)) = ((pj A j).r7)) from c52), if_neg (show ¬ (x = 0) from c53)]
          rw [hf, hg]
          exact e57
    · skip
      by_cases c108 : ((A 21 j) &&& (A 6 j)) = (A 7 j)
      · skip
        by_cases c119 : (A 14 j) = 4
        · skip
          by_cases c147 : x = 0
          · skip
            have e155 : pj (f_M_overload (setA (setA A 5 (upd (A 5) j ((A 5 j) - 1))) 8 (upd (A 8) j ((A 8 j) + 1))) j) j = (g_M_overload (((pj A j).s5 (((pj A j).r5) - 1)).s8 (((pj A j).r8) + 1))) := (pj_M_overload (setA (setA A 5 (upd (A 5) j ((A 5 j) - 1))) 8 (upd (A 8) j ((A 8 j) + 1))) j hj _ (pjc_8 (v := (A 8 j) + 1) rfl (pjc_5 (v := (A 5 j) - 1) rfl rfl)))
            have hf : f_M_heardFrame A j x = (f_M_overload (setA (setA A 5 (upd (A 5) j ((A 5 j) - 1))) 8 (upd (A 8) j ((A 8 j) + 1))) j) := by unfold f_M_heardFrame; rw [if_pos c42, if_neg c44, if_pos c108, if_pos c119, if_pos c147]
            have hg : g_M_heardFrame (pj A j) x = (g_M_overload (((pj A j).s5 (((pj A j).r5) - 1)).s8 (((pj A j).r8) + 1))) := by unfold g_M_heardFrame; rw [if_pos (show ((pj A j).r5) ≤ 127 from c42), if_neg (show ¬ (((pj A j).r5) ≤ 0) from c44), if_pos (show (((pj A j).r21) &&& ((pj A j).r6)) = ((pj A j).r7) from c108), if_pos (show ((pj A j).r14) = 4 from c119), if_pos (show x = 0 from c147)]
            rw [hf, hg]
            exact e155
          · skip
            have e151 : pj (f_M_rest (setA (setA A 5 (upd (A 5) j ((A 5 j) - 1))) 8 (upd (A 8) j ((A 8 j) + 1))) j) j = (g_M_rest (((pj A j).s5 (((pj A j).r5) - 1)).s8 (((pj A j).r8) + 1))) := (pj_M_rest (setA (setA A 5 (upd (A 5) j ((A 5 j) - 1))) 8 (upd (A 8) j ((A 8 j) + 1))) j hj _ (pjc_8 (v := (A 8 j) + 1) rfl (pjc_5 (v := (A 5 j) - 1) rfl rfl)))
            have hf : f_M_heardFrame A j x = (f_M_rest (setA (setA A 5 (upd (A 5) j ((A 5 j) - 1))) 8 (upd (A 8) j ((A 8 j) + 1))) j) := by unfold f_M_heardFrame; rw [if_pos c42, if_neg c44, if_pos c108, if_pos c119, if_neg c147]
            have hg : g_M_heardFrame (pj A j) x = (g_M_rest (((pj A j).s5 (((pj A j).r5) - 1)).s8 (((pj A j).r8) + 1))) := by unfold g_M_heardFrame; rw [if_pos (show ((pj A j).r5) ≤ 127 from c42), if_neg (show ¬ (((pj A j).r5) ≤ 0) from c44), if_pos (show (((pj A j).r21) &&& ((pj A j).r6)) = ((pj A j).r7) from c108), if_pos (show ((pj A j).r14) = 4 from c119), if_neg (show ¬ (x = 0) from c147)]
            rw [hf, hg]
            exact e151
        · skip
          by_cases c133 : x = 0
          · skip
            have e141 : pj (f_M_overload (setA (setA (setA A 5 (upd (A 5) j ((A 5 j) - 1))) 15 (upd (A 15) ((4 * (nI j)) + (A 14 j)).toNatClampNeg (((A 21 j) + (2048 * (A 22 j))) + (8192 * (A 23 j))))) 14 (upd (A 14) j ((A 14 j) + 1))) j) j = (g_M_overload ((((pj A j).s5 (((pj A j).r5) - 1)).sbx (upd (pj A j).bx (pj A j).r14.toNatClampNeg ((((pj A j).r21) + (2048 * ((pj A j).r22))) + (8192 * ((pj A j).r23))))).s14 (((pj A j).r14) + 1))) := (pj_M_overload (setA (setA (setA A 5 (upd (A 5) j ((A 5 j) - 1))) 15 (upd (A 15) ((4 * (nI j)) + (A 14 j)).toNatClampNeg (((A 21 j) + (2048 * (A 22 j))) + (8192 * (A 23 j))))) 14 (upd (A 14) j ((A 14 j) + 1))) j hj _ (pjc_14 (v := (A 14 j) + 1) rfl (pjc_15 (i := (A 14 j).toNatClampNeg) (v := ((A 21 j) + (2048 * (A 22 j))) + (8192 * (A 23 j))) (congrArg (fun q9 => upd (A 15) q9 (((A 21 j) + (2048 * (A 22 j))) + (8192 * (A 23 j)))) (ixn (in_r (ok j hj).2.1 (by decide)))) (pjc_5 (v := (A 5 j) - 1) rfl rfl))))
            have hf : f_M_heardFrame A j x = (f_M_overload (setA (setA (setA A 5 (upd (A 5) j ((A 5 j) - 1))) 15 (upd (A 15) ((4 * (nI j)) + (A 14 j)).toNatClampNeg (((A 21 j) + (2048 * (A 22 j))) + (8192 * (A 23 j))))) 14 (upd (A 14) j ((A 14 j) + 1))) j) := by unfold f_M_heardFrame; rw [if_pos c42, if_neg c44, if_pos c108, if_neg c119, if_pos c133]
            have hg : g_M_heardFrame (pj A j) x = (g_M_overload ((((pj A j).s5 (((pj A j).r5) - 1)).sbx (upd (pj A j).bx (pj A j).r14.toNatClampNeg ((((pj A j).r21) + (2048 * ((pj A j).r22))) + (8192 * ((pj A j).r23))))).s14 (((pj A j).r14) + 1))) := by unfold g_M_heardFrame; rw [if_pos (show ((pj A j).r5) ≤ 127 from c42), if_neg (show ¬ (((pj A j).r5) ≤ 0) from c44), if_pos (show (((pj A j).r21) &&& ((pj A j).r6)) = ((pj A j).r7) from c108), if_neg (show ¬ (((pj A j).r14) = 4) from c119), if_pos (show x = 0 from c133)]
            rw [hf, hg]
            exact e141
          · skip
            have e137 : pj (f_M_rest (setA (setA (setA A 5 (upd (A 5) j ((A 5 j) - 1))) 15 (upd (A 15) ((4 * (nI j)) + (A 14 j)).toNatClampNeg (((A 21 j) + (2048 * (A 22 j))) + (8192 * (A 23 j))))) 14 (upd (A 14) j ((A 14 j) + 1))) j) j = (g_M_rest ((((pj A j).s5 (((pj A j).r5) - 1)).sbx (upd (pj A j).bx (pj A j).r14.toNatClampNeg ((((pj A j).r21) + (2048 * ((pj A j).r22))) + (8192 * ((pj A j).r23))))).s14 (((pj A j).r14) + 1))) := (pj_M_rest (setA (setA (setA A 5 (upd (A 5) j ((A 5 j) - 1))) 15 (upd (A 15) ((4 * (nI j)) + (A 14 j)).toNatClampNeg (((A 21 j) + (2048 * (A 22 j))) + (8192 * (A 23 j))))) 14 (upd (A 14) j ((A 14 j) + 1))) j hj _ (pjc_14 (v := (A 14 j) + 1) rfl (pjc_15 (i := (A 14 j).toNatClampNeg) (v := ((A 21 j) + (2048 * (A 22 j))) + (8192 * (A 23 j))) (congrArg (fun q9 => upd (A 15) q9 (((A 21 j) + (2048 * (A 22 j))) + (8192 * (A 23 j)))) (ixn (in_r (ok j hj).2.1 (by decide)))) (pjc_5 (v := (A 5 j) - 1) rfl rfl))))
            have hf : f_M_heardFrame A j x = (f_M_rest (setA (setA (setA A 5 (upd (A 5) j ((A 5 j) - 1))) 15 (upd (A 15) ((4 * (nI j)) + (A 14 j)).toNatClampNeg (((A 21 j) + (2048 * (A 22 j))) + (8192 * (A 23 j))))) 14 (upd (A 14) j ((A 14 j) + 1))) j) := by unfold f_M_heardFrame; rw [if_pos c42, if_neg c44, if_pos c108, if_neg c119, if_neg c133]
            have hg : g_M_heardFrame (pj A j) x = (g_M_rest ((((pj A j).s5 (((pj A j).r5) - 1)).sbx (upd (pj A j).bx (pj A j).r14.toNatClampNeg ((((pj A j).r21) + (2048 * ((pj A j).r22))) + (8192 * ((pj A j).r23))))).s14 (((pj A j).r14) + 1))) := by unfold g_M_heardFrame; rw [if_pos (show ((pj A j).r5) ≤ 127 from c42), if_neg (show ¬ (((pj A j).r5) ≤ 0) from c44), if_pos (show (((pj A j).r21) &&& ((pj A j).r6)) = ((pj A j).r7) from c108), if_neg (show ¬ (((pj A j).r14) = 4) from c119), if_neg (show ¬ (x = 0) from c133)]
            rw [hf, hg]
            exact e137
      · skip
        by_cases c109 : x = 0
        · skip
          have e117 : pj (f_M_overload (setA A 5 (upd (A 5) j ((A 5 j) - 1))) j) j = (g_M_overload ((pj A j).s5 (((pj A j).r5) - 1))) := (pj_M_overload (setA A 5 (upd (A 5) j ((A 5 j) - 1))) j hj _ (pjc_5 (v := (A 5 j) - 1) rfl rfl))
          have hf : f_M_heardFrame A j x = (f_M_overload (setA A 5 (upd (A 5) j ((A 5 j) - 1))) j) := by unfold f_M_heardFrame; rw [if_pos c42, if_neg c44, if_neg c108, if_pos c109]
          have hg : g_M_heardFrame (pj A j) x = (g_M_overload ((pj A j).s5 (((pj A j).r5) - 1))) := by unfold g_M_heardFrame; rw [if_pos (show ((pj A j).r5) ≤ 127 from c42), if_neg (show ¬ (((pj A j).r5) ≤ 0) from c44), if_neg (show ¬ ((((pj A j).r21) &&& ((pj A j).r6)) = ((pj A j).r7)) from c108), if_pos (show x = 0 from c109)]
          rw [hf, hg]
          exact e117
        · skip
          have e113 : pj (f_M_rest (setA A 5 (upd (A 5) j ((A 5 j) - 1))) j) j = (g_M_rest ((pj A j).s5 (((pj A j).r5) - 1))) := (pj_M_rest (setA A 5 (upd (A 5) j ((A 5 j) - 1))) j hj _ (pjc_5 (v := (A 5 j) - 1) rfl rfl))
          have hf : f_M_heardFrame A j x = (f_M_rest (setA A 5 (upd (A 5) j ((A 5 j) - 1))) j) := by unfold f_M_heardFrame; rw [if_pos c42, if_neg c44, if_neg c108, if_neg c109]
          have hg : g_M_heardFrame (pj A j) x = (g_M_rest ((pj A j).s5 (((pj A j).r5) - 1))) := by unfold g_M_heardFrame; rw [if_pos (show ((pj A j).r5) ≤ 127 from c42), if_neg (show ¬ (((pj A j).r5) ≤ 0) from c44), if_neg (show ¬ ((((pj A j).r21) &&& ((pj A j).r6)) = ((pj A j).r7)) from c108), if_neg (show ¬ (x = 0) from c109)]
          rw [hf, hg]
          exact e113
  · skip
    by_cases c163 : ((A 21 j) &&& (A 6 j)) = (A 7 j)
    · skip
      by_cases c174 : (A 14 j) = 4
      · skip
        by_cases c202 : x = 0
        · skip
          have e210 : pj (f_M_overload (setA (setA A 5 (upd (A 5) j 127)) 8 (upd (A 8) j ((A 8 j) + 1))) j) j = (g_M_overload (((pj A j).s5 127).s8 (((pj A j).r8) + 1))) := (pj_M_overload (setA (setA A 5 (upd (A 5) j 127)) 8 (upd (A 8) j ((A 8 j) + 1))) j hj _ (pjc_8 (v := (A 8 j) + 1) rfl (pjc_5 (v := 127) rfl rfl)))
          have hf : f_M_heardFrame A j x = (f_M_overload (setA (setA A 5 (upd (A 5) j 127)) 8 (upd (A 8) j ((A 8 j) + 1))) j) := by unfold f_M_heardFrame; rw [if_neg c42, if_pos c163, if_pos c174, if_pos c202]
          have hg : g_M_heardFrame (pj A j) x = (g_M_overload (((pj A j).s5 127).s8 (((pj A j).r8) + 1))) := by unfold g_M_heardFrame; rw [if_neg (show ¬ (((pj A j).r5) ≤ 127) from c42), if_pos (show (((pj A j).r21) &&& ((pj A j).r6)) = ((pj A j).r7) from c163), if_pos (show ((pj A j).r14) = 4 from c174), if_pos (show x = 0 from c202)]
          rw [hf, hg]
          exact e210
        · skip
          have e206 : pj (f_M_rest (setA (setA A 5 (upd (A 5) j 127)) 8 (upd (A 8) j ((A 8 j) + 1))) j) j = (g_M_rest (((pj A j).s5 127).s8 (((pj A j).r8) + 1))) := (pj_M_rest (setA (setA A 5 (upd (A 5) j 127)) 8 (upd (A 8) j ((A 8 j) + 1))) j hj _ (pjc_8 (v := (A 8 j) + 1) rfl (pjc_5 (v := 127) rfl rfl)))
          have hf : f_M_heardFrame A j x = (f_M_rest (setA (setA A 5 (upd (A 5) j 127)) 8 (upd (A 8) j ((A 8 j) + 1))) j) := by unfold f_M_heardFrame; rw [if_neg c42, if_pos c163, if_pos c174, if_neg c202]
          have hg : g_M_heardFrame (pj A j) x = (g_M_rest (((pj A j).s5 127).s8 (((pj A j).r8) + 1))) := by unfold g_M_heardFrame; rw [if_neg (show ¬ (((pj A j).r5) ≤ 127) from c42), if_pos (show (((pj A j).r21) &&& ((pj A j).r6)) = ((pj A j).r7) from c163), if_pos (show ((pj A j).r14) = 4 from c174), if_neg (show ¬ (x = 0) from c202)]
          rw [hf, hg]
          exact e206
      · skip
        by_cases c188 : x = 0
        · skip
          have e196 : pj (f_M_overload (setA (setA (setA A 5 (upd (A 5) j 127)) 15 (upd (A 15) ((4 * (nI j)) + (A 14 j)).toNatClampNeg (((A 21 j) + (2048 * (A 22 j))) + (8192 * (A 23 j))))) 14 (upd (A 14) j ((A 14 j) + 1))) j) j = (g_M_overload ((((pj A j).s5 127).sbx (upd (pj A j).bx (pj A j).r14.toNatClampNeg ((((pj A j).r21) + (2048 * ((pj A j).r22))) + (8192 * ((pj A j).r23))))).s14 (((pj A j).r14) + 1))) := (pj_M_overload (setA (setA (setA A 5 (upd (A 5) j 127)) 15 (upd (A 15) ((4 * (nI j)) + (A 14 j)).toNatClampNeg (((A 21 j) + (2048 * (A 22 j))) + (8192 * (A 23 j))))) 14 (upd (A 14) j ((A 14 j) + 1))) j hj _ (pjc_14 (v := (A 14 j) + 1) rfl (pjc_15 (i := (A 14 j).toNatClampNeg) (v := ((A 21 j) + (2048 * (A 22 j))) + (8192 * (A 23 j))) (congrArg (fun q9 => upd (A 15) q9 (((A 21 j) + (2048 * (A 22 j))) + (8192 * (A 23 j)))) (ixn (in_r (ok j hj).2.1 (by decide)))) (pjc_5 (v := 127) rfl rfl))))
          have hf : f_M_heardFrame A j x = (f_M_overload (setA (setA (setA A 5 (upd (A 5) j 127)) 15 (upd (A 15) ((4 * (nI j)) + (A 14 j)).toNatClampNeg (((A 21 j) + (2048 * (A 22 j))) + (8192 * (A 23 j))))) 14 (upd (A 14) j ((A 14 j) + 1))) j) := by unfold f_M_heardFrame; rw [if_neg c42, if_pos c163, if_neg c174, if_pos c188]
          have hg : g_M_heardFrame (pj A j) x = (g_M_overload ((((pj A j).s5 127).sbx (upd (pj A j).bx (pj A j).r14.toNatClampNeg ((((pj A j).r21) + (2048 * ((pj A j).r22))) + (8192 * ((pj A j).r23))))).s14 (((pj A j).r14) + 1))) := by unfold g_M_heardFrame; rw [if_neg (show ¬ (((pj A j).r5) ≤ 127) from c42), if_pos (show (((pj A j).r21) &&& ((pj A j).r6)) = ((pj A j).r7) from c163), if_neg (show ¬ (((pj A j).r14) = 4) from c174), if_pos (show x = 0 from c188)]
          rw [hf, hg]
          exact e196
        · skip
          have e192 : pj (f_M_rest (setA (setA (setA A 5 (upd (A 5) j 127)) 15 (upd (A 15) ((4 * (nI j)) + (A 14 j)).toNatClampNeg (((A 21 j) + (2048 * (A 22 j))) + (8192 * (A 23 j))))) 14 (upd (A 14) j ((A 14 j) + 1))) j) j = (g_M_rest ((((pj A j).s5 127).sbx (upd (pj A j).bx (pj A j).r14.toNatClampNeg ((((pj A j).r21) + (2048 * ((pj A j).r22))) + (8192 * ((pj A j).r23))))).s14 (((pj A j).r14) + 1))) := (pj_M_rest (setA (setA (setA A 5 (upd (A 5) j 127)) 15 (upd (A 15) ((4 * (nI j)) + (A 14 j)).toNatClampNeg (((A 21 j) + (2048 * (A 22 j))) + (8192 * (A 23 j))))) 14 (upd (A 14) j ((A 14 j) + 1))) j hj _ (pjc_14 (v := (A 14 j) + 1) rfl (pjc_15 (i := (A 14 j).toNatClampNeg) (v := ((A 21 j) + (2048 * (A 22 j))) + (8192 * (A 23 j))) (congrArg (fun q9 => upd (A 15) q9 (((A 21 j) + (2048 * (A 22 j))) + (8192 * (A 23 j)))) (ixn (in_r (ok j hj).2.1 (by decide)))) (pjc_5 (v := 127) rfl rfl))))
          have hf : f_M_heardFrame A j x = (f_M_rest (setA (setA (setA A 5 (upd (A 5) j 127)) 15 (upd (A 15) ((4 * (nI j)) + (A 14 j)).toNatClampNeg (((A 21 j) + (2048 * (A 22 j))) + (8192 * (A 23 j))))) 14 (upd (A 14) j ((A 14 j) + 1))) j) := by unfold f_M_heardFrame; rw [if_neg c42, if_pos c163, if_neg c174, if_neg c188]
          have hg : g_M_heardFrame (pj A j) x = (g_M_rest ((((pj A j).s5 127).sbx (upd (pj A j).bx (pj A j).r14.toNatClampNeg ((((pj A j).r21) + (2048 * ((pj A j).r22))) + (8192 * ((pj A j).r23))))).s14 (((pj A j).r14) + 1))) := by unfold g_M_heardFrame; rw [if_neg (show ¬ (((pj A j).r5) ≤ 127) from c42), if_pos (show (((pj A j).r21) &&& ((pj A j).r6)) = ((pj A j).r7) from c163), if_neg (show ¬ (((pj A j).r14) = 4) from c174), if_neg (show ¬ (x = 0) from c188)]
          rw [hf, hg]
          exact e192
    · skip
      by_cases c164 : x = 0
      · skip
        have e172 : pj (f_M_overload (setA A 5 (upd (A 5) j 127)) j) j = (g_M_overload ((pj A j).s5 127)) := (pj_M_overload (setA A 5 (upd (A 5) j 127)) j hj _ (pjc_5 (v := 127) rfl rfl))
        have hf : f_M_heardFrame A j x = (f_M_overload (setA A 5 (upd (A 5) j 127)) j) := by unfold f_M_heardFrame; rw [if_neg c42, if_neg c163, if_pos c164]
        have hg : g_M_heardFrame (pj A j) x = (g_M_overload ((pj A j).s5 127)) := by unfold g_M_heardFrame; rw [if_neg (show ¬ (((pj A j).r5) ≤ 127) from c42), if_neg (show ¬ ((((pj A j).r21) &&& ((pj A j).r6)) = ((pj A j).r7)) from c163), if_pos (show x = 0 from c164)]
        rw [hf, hg]
        exact e172
      · skip
        have e168 : pj (f_M_rest (setA A 5 (upd (A 5) j 127)) j) j = (g_M_rest ((pj A j).s5 127)) := (pj_M_rest (setA A 5 (upd (A 5) j 127)) j hj _ (pjc_5 (v := 127) rfl rfl))
        have hf : f_M_heardFrame A j x = (f_M_rest (setA A 5 (upd (A 5) j 127)) j) := by unfold f_M_heardFrame; rw [if_neg c42, if_neg c163, if_neg c164]
        have hg : g_M_heardFrame (pj A j) x = (g_M_rest ((pj A j).s5 127)) := by unfold g_M_heardFrame; rw [if_neg (show ¬ (((pj A j).r5) ≤ 127) from c42), if_neg (show ¬ ((((pj A j).r21) &&& ((pj A j).r6)) = ((pj A j).r7)) from c163), if_neg (show ¬ (x = 0) from c164)]
        rw [hf, hg]
        exact e168
def g_M_hear (yy : sM) (x : Int32) : sM := if (yy.r16) = 0 then (if ((g_M_readCore yy x).2) ≤ 0 then (if (yy.r16) = 10 then ((g_M_heardFrame (g_M_readCore yy x).1 x)) else ((g_M_readCore yy x).1)) else ((g_M_err (g_M_readCore yy x).1 ((g_M_readCore yy x).2) 2))) else (if (yy.r16) = 3 then (if (yy.r20) = 0 then (if x = 0 then (if (yy.r16) = 2 then (if (yy.r16) = 10 then ((g_M_heardFrame (yy.s16 ((yy.r16) + 1)) x)) else ((yy.s16 ((yy.r16) + 1)))) else (if 10 ≤ (yy.r16) then (if (yy.r16) = 10 then ((g_M_heardFrame (yy.s16 ((yy.r16) + 1)) x)) else ((yy.s16 ((yy.r16) + 1)))) else ((g_M_err (yy.s16 ((yy.r16) + 1)) 4 2)))) else (if (yy.r16) = 10 then ((g_M_heardFrame (yy.s16 ((yy.r16) + 1)) x)) else ((yy.s16 ((yy.r16) + 1))))) else (if x = 0 then (if (yy.r16) = 2 then ((g_M_err (yy.s16 ((yy.r16) + 1)) 5 2)) else (if 10 ≤ (yy.r16) then ((g_M_err (yy.s16 ((yy.r16) + 1)) 5 2)) else ((g_M_err (yy.s16 ((yy.r16) + 1)) 5 2)))) else ((g_M_err (yy.s16 ((yy.r16) + 1)) 5 2)))) else (if x = 0 then (if (yy.r16) = 2 then (if (yy.r16) = 10 then ((g_M_heardFrame (yy.s16 ((yy.r16) + 1)) x)) else ((yy.s16 ((yy.r16) + 1)))) else (if 10 ≤ (yy.r16) then (if (yy.r16) = 10 then ((g_M_heardFrame (yy.s16 ((yy.r16) + 1)) x)) else ((yy.s16 ((yy.r16) + 1)))) else ((g_M_err (yy.s16 ((yy.r16) + 1)) 4 2)))) else (if (yy.r16) = 10 then ((g_M_heardFrame (yy.s16 ((yy.r16) + 1)) x)) else ((yy.s16 ((yy.r16) + 1))))))
set_option maxHeartbeats 4000000 in
set_option maxRecDepth 100000 in
theorem pj_M_hear (A : Nat → Nat → Int32) (j : Nat) (hj : j < 4) (x : Int32) (ok : okA A) (yy : sM) (h : pj A j = yy) : pj (f_M_hear A j x) j = g_M_hear yy x := by
  subst h
  by_cases c42 : (A 16 j) = 0
  · skip
    by_cases c173 : ((f_M_readCore A j x).2) ≤ 0
    · skip
      by_cases c174 : (A 16 j) = 10
      · skip
        have e172 : pj (f_M_readCore A j x).1 j = (g_M_readCore (pj A j) x).1 ∧ (f_M_readCore A j x).2 = (g_M_readCore (pj A j) x).2 := (pj_M_readCore A j hj x _ rfl)
        have e178 : pj (f_M_heardFrame (f_M_readCore A j x).1 j x) j = (g_M_heardFrame (g_M_readCore (pj A j) x).1 x) := (pj_M_heardFrame (f_M_readCore A j x).1 j hj x (ok_M_readCore A j hj x ok) _ e172.1)
        have hf : f_M_hear A j x = (f_M_heardFrame (f_M_readCore A j x).1 j x) := by unfold f_M_hear; rw [if_pos c42, if_pos c173, if_pos c174]
        have hg : g_M_hear (pj A j) x = (g_M_heardFrame (g_M_readCore (pj A j) x).1 x) := by unfold g_M_hear; rw [if_pos (show ((pj A j).r16) = 0 from c42), if_pos (show ((g_M_readCore (pj A j) x).2) ≤ 0 from by rw [← e172.2]; exact c173), if_pos (show ((pj A j).r16) = 10 from c174)]
        rw [hf, hg]
        exact e178
      · skip
        have e172 : pj (f_M_readCore A j x).1 j = (g_M_readCore (pj A j) x).1 ∧ (f_M_readCore A j x).2 = (g_M_readCore (pj A j) x).2 := (pj_M_readCore A j hj x _ rfl)
        have hf : f_M_hear A j x = (f_M_readCore A j x).1 := by unfold f_M_hear; rw [if_pos c42, if_pos c173, if_neg c174]
        have hg : g_M_hear (pj A j) x = (g_M_readCore (pj A j) x).1 := by unfold g_M_hear; rw [if_pos (show ((pj A j).r16) = 0 from c42), if_pos (show ((g_M_readCore (pj A j) x).2) ≤ 0 from by rw [← e172.2]; exact c173), if_neg (show ¬ (((pj A j).r16) = 10) from c174)]
        rw [hf, hg]
        exact e172.1
    · skip
      have e172 : pj (f_M_readCore A j x).1 j = (g_M_readCore (pj A j) x).1 ∧ (f_M_readCore A j x).2 = (g_M_readCore (pj A j) x).2 := (pj_M_readCore A j hj x _ rfl)
      have e182 : pj (f_M_err (f_M_readCore A j x).1 j ((f_M_readCore A j x).2) 2) j = (g_M_err (g_M_readCore (pj A j) x).1 ((g_M_readCore (pj A j) x).2) 2) := (by rw [← e172.2]; exact (pj_M_err (f_M_readCore A j x).1 j hj ((f_M_readCore A j x).2) 2 (in_M_readCore A j hj x) _ e172.1))
      have hf : f_M_hear A j x = (f_M_err (f_M_readCore A j x).1 j ((f_M_readCore A j x).2) 2) := by unfold f_M_hear; rw [if_pos c42, if_neg c173]
      have hg : g_M_hear (pj A j) x = (g_M_err (g_M_readCore (pj A j) x).1 ((g_M_readCore (pj A j) x).2) 2) := by unfold g_M_hear; rw [if_pos (show ((pj A j).r16) = 0 from c42), if_neg (show ¬ (((g_M_readCore (pj A j) x).2) ≤ 0) from by rw [← e172.2]; exact c173)]
      rw [hf, hg]
      exact e182
  · skip
    by_cases c43 : (A 16 j) = 3
    · skip
      by_cases c87 : (A 20 j) = 0
      · skip
        by_cases c88 : x = 0
        · skip
          by_cases c99 : (A 16 j) = 2
          · skip
            by_cases c105 : (A 16 j) = 10
            · skip
              have e109 : pj (f_M_heardFrame (setA A 16 (upd (A 16) j ((A 16 j) + 1))) j x) j = (g_M_heardFrame ((pj A j).s16 (((pj A j).r16) + 1)) x) := (pj_M_heardFrame (setA A 16 (upd (A 16) j ((A 16 j) + 1))) j hj x (okA_o (by decide) ok) _ (pjc_16 (v := (A 16 j) + 1) rfl rfl))
              have hf : f_M_hear A j x = (f_M_heardFrame (setA A 16 (upd (A 16) j ((A 16 j) + 1))) j x) := by unfold f_M_hear; rw [if_neg c42, if_pos c43, if_pos c87, if_pos c88, if_pos c99, if_pos c105]
              have hg : g_M_hear (pj A j) x = (g_M_heardFrame ((pj A j).s16 (((pj A j).r16) + 1)) x) := by unfold g_M_hear; rw [if_neg (show ¬ (((pj A j).r16) = 0) from c42), if_pos (show ((pj A j).r16) = 3 from c43), if_pos (show ((pj A j).r20) = 0 from c87), if_pos (show x = 0 from c88), if_pos (show ((pj A j).r16) = 2 from c99), if_pos (show ((pj A j).r16) = 10 from c105)]
              rw [hf, hg]
              exact e109
            · skip
              have hf : f_M_hear A j x = (setA A 16 (upd (A 16) j ((A 16 j) + 1))) := by unfold f_M_hear; rw [if_neg c42, if_pos c43, if_pos c87, if_pos c88, if_pos c99, if_neg c105]
              have hg : g_M_hear (pj A j) x = ((pj A j).s16 (((pj A j).r16) + 1)) := by unfold g_M_hear; rw [if_neg (show ¬ (((pj A j).r16) = 0) from c42), if_pos (show ((pj A j).r16) = 3 from c43), if_pos (show ((pj A j).r20) = 0 from c87), if_pos (show x = 0 from c88), if_pos (show ((pj A j).r16) = 2 from c99), if_neg (show ¬ (((pj A j).r16) = 10) from c105)]
              rw [hf, hg]
              exact (pjc_16 (v := (A 16 j) + 1) rfl rfl)
          · skip
            by_cases c110 : 10 ≤ (A 16 j)
            · skip
              by_cases c116 : (A 16 j) = 10
              · skip
                have e120 : pj (f_M_heardFrame (setA A 16 (upd (A 16) j ((A 16 j) + 1))) j x) j = (g_M_heardFrame ((pj A j).s16 (((pj A j).r16) + 1)) x) := (pj_M_heardFrame (setA A 16 (upd (A 16) j ((A 16 j) + 1))) j hj x (okA_o (by decide) ok) _ (pjc_16 (v := (A 16 j) + 1) rfl rfl))
                have hf : f_M_hear A j x = (f_M_heardFrame (setA A 16 (upd (A 16) j ((A 16 j) + 1))) j x) := by unfold f_M_hear; rw [if_neg c42, if_pos c43, if_pos c87, if_pos c88, if_neg c99, if_pos c110, if_pos c116]
                have hg : g_M_hear (pj A j) x = (g_M_heardFrame ((pj A j).s16 (((pj A j).r16) + 1)) x) := by unfold g_M_hear; rw [if_neg (show ¬ (((pj A j).r16) = 0) from c42), if_pos (show ((pj A j).r16) = 3 from c43), if_pos (show ((pj A j).r20) = 0 from c87), if_pos (show x = 0 from c88), if_neg (show ¬ (((pj A j).r16) = 2) from c99), if_pos (show 10 ≤ ((pj A j).r16) from c110), if_pos (show ((pj A j).r16) = 10 from c116)]
                rw [hf, hg]
                exact e120
              · skip
                have hf : f_M_hear A j x = (setA A 16 (upd (A 16) j ((A 16 j) + 1))) := by unfold f_M_hear; rw [if_neg c42, if_pos c43, if_pos c87, if_pos c88, if_neg c99, if_pos c110, if_neg c116]
                have hg : g_M_hear (pj A j) x = ((pj A j).s16 (((pj A j).r16) + 1)) := by unfold g_M_hear; rw [if_neg (show ¬ (((pj A j).r16) = 0) from c42), if_pos (show ((pj A j).r16) = 3 from c43), if_pos (show ((pj A j).r20) = 0 from c87), if_pos (show x = 0 from c88), if_neg (show ¬ (((pj A j).r16) = 2) from c99), if_pos (show 10 ≤ ((pj A j).r16) from c110), if_neg (show ¬ (((pj A j).r16) = 10) from c116)]
                rw [hf, hg]
                exact (pjc_16 (v := (A 16 j) + 1) rfl rfl)
            · skip
              have e129 : pj (f_M_err (setA A 16 (upd (A 16) j ((A 16 j) + 1))) j 4 2) j = (g_M_err ((pj A j).s16 (((pj A j).r16) + 1)) 4 2) := (pj_M_err (setA A 16 (upd (A 16) j ((A 16 j) + 1))) j hj 4 2 (show vp_in (nI 4) 8 from vp_in_nI (by decide) (by decide)) _ (pjc_16 (v := (A 16 j) + 1) rfl rfl))
              have hf : f_M_hear A j x = (f_M_err (setA A 16 (upd (A 16) j ((A 16 j) + 1))) j 4 2) := by unfold f_M_hear; rw [if_neg c42, if_pos c43, if_pos c87, if_pos c88, if_neg c99, if_neg c110]
              have hg : g_M_hear (pj A j) x = (g_M_err ((pj A j).s16 (((pj A j).r16) + 1)) 4 2) := by unfold g_M_hear; rw [if_neg (show ¬ (((pj A j).r16) = 0) from c42), if_pos (show ((pj A j).r16) = 3 from c43), if_pos (show ((pj A j).r20) = 0 from c87), if_pos (show x = 0 from c88), if_neg (show ¬ (((pj A j).r16) = 2) from c99), if_neg (show ¬ (10 ≤ ((pj A j).r16)) from c110)]
              rw [hf, hg]
              exact e129
        · skip
          by_cases c94 : (A 16 j) = 10
          · skip
            have e98 : pj (f_M_heardFrame (setA A 16 (upd (A 16) j ((A 16 j) + 1))) j x) j = (g_M_heardFrame ((pj A j).s16 (((pj A j).r16) + 1)) x) := (pj_M_heardFrame (setA A 16 (upd (A 16) j ((A 16 j) + 1))) j hj x (okA_o (by decide) ok) _ (pjc_16 (v := (A 16 j) + 1) rfl rfl))
            have hf : f_M_hear A j x = (f_M_heardFrame (setA A 16 (upd (A 16) j ((A 16 j) + 1))) j x) := by unfold f_M_hear; rw [if_neg c42, if_pos c43, if_pos c87, if_neg c88, if_pos c94]
            have hg : g_M_hear (pj A j) x = (g_M_heardFrame ((pj A j).s16 (((pj A j).r16) + 1)) x) := by unfold g_M_hear; rw [if_neg (show ¬ (((pj A j).r16) = 0) from c42), if_pos (show ((pj A j).r16) = 3 from c43), if_pos (show ((pj A j).r20) = 0 from c87), if_neg (show ¬ (x = 0) from c88), if_pos (show ((pj A j).r16) = 10 from c94)]
            rw [hf, hg]
            exact e98
          · skip
            have hf : f_M_hear A j x = (setA A 16 (upd (A 16) j ((A 16 j) + 1))) := by unfold f_M_hear; rw [if_neg c42, if_pos c43, if_pos c87, if_neg c88, if_neg c94]
            have hg : g_M_hear (pj A j) x = ((pj A j).s16 (((pj A j).r16) + 1)) := by unfold g_M_hear; rw [if_neg (show ¬ (((pj A j).r16) = 0) from c42), if_pos (show ((pj A j).r16) = 3 from c43), if_pos (show ((pj A j).r20) = 0 from c87), if_neg (show ¬ (x = 0) from c88), if_neg (show ¬ (((pj A j).r16) = 10) from c94)]
            rw [hf, hg]
            exact (pjc_16 (v := (A 16 j) + 1) rfl rfl)
      · skip
        by_cases c130 : x = 0
        · skip
          by_cases c140 : (A 16 j) = 2
          · skip
            have e149 : pj (f_M_err (setA A 16 (upd (A 16) j ((A 16 j) + 1))) j 5 2) j = (g_M_err ((pj A j).s16 (((pj A j).r16) + 1)) 5 2) := (pj_M_err (setA A 16 (upd (A 16) j ((A 16 j) + 1))) j hj 5 2 (show vp_in (nI 5) 8 from vp_in_nI (by decide) (by decide)) _ (pjc_16 (v := (A 16 j) + 1) rfl rfl))
            have hf : f_M_hear A j x = (f_M_err (setA A 16 (upd (A 16) j ((A 16 j) + 1))) j 5 2) := by unfold f_M_hear; rw [if_neg c42, if_pos c43, if_neg c87, if_pos c130, if_pos c140]
            have hg : g_M_hear (pj A j) x = (g_M_err ((pj A j).s16 (((pj A j).r16) + 1)) 5 2) := by unfold g_M_hear; rw [if_neg (show ¬ (((pj A j).r16) = 0) from c42), if_pos (show ((pj A j).r16) = 3 from c43), if_neg (show ¬ (((pj A j).r20) = 0) from c87), if_pos (show x = 0 from c130), if_pos (show ((pj A j).r16) = 2 from c140)]
            rw [hf, hg]
            exact e149
          · skip
            by_cases c150 : 10 ≤ (A 16 j)
            · skip
              have e159 : pj (f_M_err (setA A 16 (upd (A 16) j ((A 16 j) + 1))) j 5 2) j = (g_M_err ((pj A j).s16 (((pj A j).r16) + 1)) 5 2) := (pj_M_err (setA A 16 (upd (A 16) j ((A 16 j) + 1))) j hj 5 2 (show vp_in (nI 5) 8 from vp_in_nI (by decide) (by decide)) _ (pjc_16 (v := (A 16 j) + 1) rfl rfl))
              have hf : f_M_hear A j x = (f_M_err (setA A 16 (upd (A 16) j ((A 16 j) + 1))) j 5 2) := by unfold f_M_hear; rw [if_neg c42, if_pos c43, if_neg c87, if_pos c130, if_neg c140, if_pos c150]
              have hg : g_M_hear (pj A j) x = (g_M_err ((pj A j).s16 (((pj A j).r16) + 1)) 5 2) := by unfold g_M_hear; rw [if_neg (show ¬ (((pj A j).r16) = 0) from c42), if_pos (show ((pj A j).r16) = 3 from c43), if_neg (show ¬ (((pj A j).r20) = 0) from c87), if_pos (show x = 0 from c130), if_neg (show ¬ (((pj A j).r16) = 2) from c140), if_pos (show 10 ≤ ((pj A j).r16) from c150)]
              rw [hf, hg]
              exact e159
            · skip
              have e168 : pj (f_M_err (setA A 16 (upd (A 16) j ((A 16 j) + 1))) j 5 2) j = (g_M_err ((pj A j).s16 (((pj A j).r16) + 1)) 5 2) := (pj_M_err (setA A 16 (upd (A 16) j ((A 16 j) + 1))) j hj 5 2 (show vp_in (nI 5) 8 from vp_in_nI (by decide) (by decide)) _ (pjc_16 (v := (A 16 j) + 1) rfl rfl))
              have hf : f_M_hear A j x = (f_M_err (setA A 16 (upd (A 16) j ((A 16 j) + 1))) j 5 2) := by unfold f_M_hear; rw [if_neg c42, if_pos c43, if_neg c87, if_pos c130, if_neg c140, if_neg c150]
              have hg : g_M_hear (pj A j) x = (g_M_err ((pj A j).s16 (((pj A j).r16) + 1)) 5 2) := by unfold g_M_hear; rw [if_neg (show ¬ (((pj A j).r16) = 0) from c42), if_pos (show ((pj A j).r16) = 3 from c43), if_neg (show ¬ (((pj A j).r20) = 0) from c87), if_pos (show x = 0 from c130), if_neg (show ¬ (((pj A j).r16) = 2) from c140), if_neg (show ¬ (10 ≤ ((pj A j).r16)) from c150)]
              rw [hf, hg]
              exact e168
        · skip
          have e139 : pj (f_M_err (setA A 16 (upd (A 16) j ((A 16 j) + 1))) j 5 2) j = (g_M_err ((pj A j).s16 (((pj A j).r16) + 1)) 5 2) := (pj_M_err (setA A 16 (upd (A 16) j ((A 16 j) + 1))) j hj 5 2 (show vp_in (nI 5) 8 from vp_in_nI (by decide) (by decide)) _ (pjc_16 (v := (A 16 j) + 1) rfl rfl))
          have hf : f_M_hear A j x = (f_M_err (setA A 16 (upd (A 16) j ((A 16 j) + 1))) j 5 2) := by unfold f_M_hear; rw [if_neg c42, if_pos c43, if_neg c87, if_neg c130]
          have hg : g_M_hear (pj A j) x = (g_M_err ((pj A j).s16 (((pj A j).r16) + 1)) 5 2) := by unfold g_M_hear; rw [if_neg (show ¬ (((pj A j).r16) = 0) from c42), if_pos (show ((pj A j).r16) = 3 from c43), if_neg (show ¬ (((pj A j).r20) = 0) from c87), if_neg (show ¬ (x = 0) from c130)]
          rw [hf, hg]
          exact e139
    · skip
      by_cases c44 : x = 0
      · skip
        by_cases c55 : (A 16 j) = 2
        · skip
          by_cases c61 : (A 16 j) = 10
          · skip
            have e65 : pj (f_M_heardFrame (setA A 16 (upd (A 16) j ((A 16 j) + 1))) j x) j = (g_M_heardFrame ((pj A j).s16 (((pj A j).r16) + 1)) x) := (pj_M_heardFrame (setA A 16 (upd (A 16) j ((A 16 j) + 1))) j hj x (okA_o (by decide) ok) _ (pjc_16 (v := (A 16 j) + 1) rfl rfl))
            have hf : f_M_hear A j x = (f_M_heardFrame (setA A 16 (upd (A 16) j ((A 16 j) + 1))) j x) := by unfold f_M_hear; rw [if_neg c42, if_neg c43, if_pos c44, if_pos c55, if_pos c61]
            have hg : g_M_hear (pj A j) x = (g_M_heardFrame ((pj A j).s16 (((pj A j).r16) + 1)) x) := by unfold g_M_hear; rw [if_neg (show ¬ (((pj A j).r16) = 0) from c42), if_neg (show ¬ (((pj A j).r16) = 3) from c43), if_pos (show x = 0 from c44), if_pos (show ((pj A j).r16) = 2 from c55), if_pos (show ((pj A j).r16) = 10 from c61)]
            rw [hf, hg]
            exact e65
          · skip
            have hf : f_M_hear A j x = (setA A 16 (upd (A 16) j ((A 16 j) + 1))) := by unfold f_M_hear; rw [if_neg c42, if_neg c43, if_pos c44, if_pos c55, if_neg c61]
            have hg : g_M_hear (pj A j) x = ((pj A j).s16 (((pj A j).r16) + 1)) := by unfold g_M_hear; rw [if_neg (show ¬ (((pj A j).r16) = 0) from c42), if_neg (show ¬ (((pj A j).r16) = 3) from c43), if_pos (show x = 0 from c44), if_pos (show ((pj A j).r16) = 2 from c55), if_neg (show ¬ (((pj A j).r16) = 10) from c61)]
            rw [hf, hg]
            exact (pjc_16 (v := (A 16 j) + 1) rfl rfl)
        · skip
          by_cases c66 : 10 ≤ (A 16 j)
          · skip
            by_cases c72 : (A 16 j) = 10
            · skip
              have e76 : pj (f_M_heardFrame (setA A 16 (upd (A 16) j ((A 16 j) + 1))) j x) j = (g_M_heardFrame ((pj A j).s16 (((pj A j).r16) + 1)) x) := (pj_M_heardFrame (setA A 16 (upd (A 16) j ((A 16 j) + 1))) j hj x (okA_o (by decide) ok) _ (pjc_16 (v := (A 16 j) + 1) rfl rfl))
              have hf : f_M_hear A j x = (f_M_heardFrame (setA A 16 (upd (A 16) j ((A 16 j) + 1))) j x) := by unfold f_M_hear; rw [if_neg c42, if_neg c43, if_pos c44, if_neg c55, if_pos c66, if_pos c72]
              have hg : g_M_hear (pj A j) x = (g_M_heardFrame ((pj A j).s16 (((pj A j).r16) + 1)) x) := by unfold g_M_hear; rw [if_neg (show ¬ (((pj A j).r16) = 0) from c42), if_neg (show ¬ (((pj A j).r16) = 3) from c43), if_pos (show x = 0 from c44), if_neg (show ¬ (((pj A j).r16) = 2) from c55), if_pos (show 10 ≤ ((pj A j).r16) from c66), if_pos (show ((pj A j).r16) = 10 from c72)]
              rw [hf, hg]
              exact e76
            · skip
              have hf : f_M_hear A j x = (setA A 16 (upd (A 16) j ((A 16 j) + 1))) := by unfold f_M_hear; rw [if_neg c42, if_neg c43, if_pos c44, if_neg c55, if_pos c66, if_neg c72]
              have hg : g_M_hear (pj A j) x = ((pj A j).s16 (((pj A j).r16) + 1)) := by unfold g_M_hear; rw [if_neg (show ¬ (((pj A j).r16) = 0) from c42), if_neg (show ¬ (((pj A j).r16) = 3) from c43), if_pos (show x = 0 from c44), if_neg (show ¬ (((pj A j).r16) = 2) from c55), if_pos (show 10 ≤ ((pj A j).r16) from c66), if_neg (show ¬ (((pj A j).r16) = 10) from c72)]
              rw [hf, hg]
              exact (pjc_16 (v := (A 16 j) + 1) rfl rfl)
          · skip
            have e85 : pj (f_M_err (setA A 16 (upd (A 16) j ((A 16 j) + 1))) j 4 2) j = (g_M_err ((pj A j).s16 (((pj A j).r16) + 1)) 4 2) := (pj_M_err (setA A 16 (upd (A 16) j ((A 16 j) + 1))) j hj 4 2 (show vp_in (nI 4) 8 from vp_in_nI (by decide) (by decide)) _ (pjc_16 (v := (A 16 j) + 1) rfl rfl))
            have hf : f_M_hear A j x = (f_M_err (setA A 16 (upd (A 16) j ((A 16 j) + 1))) j 4 2) := by unfold f_M_hear; rw [if_neg c42, if_neg c43, if_pos c44, if_neg c55, if_neg c66]
            have hg : g_M_hear (pj A j) x = (g_M_err ((pj A j).s16 (((pj A j).r16) + 1)) 4 2) := by unfold g_M_hear; rw [if_neg (show ¬ (((pj A j).r16) = 0) from c42), if_neg (show ¬ (((pj A j).r16) = 3) from c43), if_pos (show x = 0 from c44), if_neg (show ¬ (((pj A j).r16) = 2) from c55), if_neg (show ¬ (10 ≤ ((pj A j).r16)) from c66)]
            rw [hf, hg]
            exact e85
      · skip
        by_cases c50 : (A 16 j) = 10
        · skip
          have e54 : pj (f_M_heardFrame (setA A 16 (upd (A 16) j ((A 16 j) + 1))) j x) j = (g_M_heardFrame ((pj A j).s16 (((pj A j).r16) + 1)) x) := (pj_M_heardFrame (setA A 16 (upd (A 16) j ((A 16 j) + 1))) j hj x (okA_o (by decide) ok) _ (pjc_16 (v := (A 16 j) + 1) rfl rfl))
          have hf : f_M_hear A j x = (f_M_heardFrame (setA A 16 (upd (A 16) j ((A 16 j) + 1))) j x) := by unfold f_M_hear; rw [if_neg c42, if_neg c43, if_neg c44, if_pos c50]
          have hg : g_M_hear (pj A j) x = (g_M_heardFrame ((pj A j).s16 (((pj A j).r16) + 1)) x) := by unfold g_M_hear; rw [if_neg (show ¬ (((pj A j).r16) = 0) from c42), if_neg (show ¬ (((pj A j).r16) = 3) from c43), if_neg (show ¬ (x = 0) from c44), if_pos (show ((pj A j).r16) = 10 from c50)]
          rw [hf, hg]
          exact e54
        · skip
          have hf : f_M_hear A j x = (setA A 16 (upd (A 16) j ((A 16 j) + 1))) := by unfold f_M_hear; rw [if_neg c42, if_neg c43, if_neg c44, if_neg c50]
          have hg : g_M_hear (pj A j) x = ((pj A j).s16 (((pj A j).r16) + 1)) := by unfold g_M_hear; rw [if_neg (show ¬ (((pj A j).r16) = 0) from c42), if_neg (show ¬ (((pj A j).r16) = 3) from c43), if_neg (show ¬ (x = 0) from c44), if_neg (show ¬ (((pj A j).r16) = 10) from c50)]
          rw [hf, hg]
          exact (pjc_16 (v := (A 16 j) + 1) rfl rfl)
def g_M_send_86 (yy : sM) (v2 : Int32) : sM := if (yy.r16) = 2 then (if v2 = 1 then ((g_M_err yy 6 1)) else (if (yy.r16) = 0 then ((g_M_readCore yy v2).1) else (if (yy.r16) = 10 then ((g_M_sentFrame yy)) else ((yy.s16 ((yy.r16) + 1)))))) else (if v2 = (yy.r29) then (if (yy.r16) = 0 then ((g_M_readCore yy v2).1) else (if (yy.r16) = 10 then ((g_M_sentFrame yy)) else ((yy.s16 ((yy.r16) + 1))))) else ((g_M_err yy 2 1)))
def g_M_send (yy : sM) (x : Int32) : sM := if (yy.r16) = 0 then (if 5 ≤ (yy.r18) then (g_M_send_86 yy x) else (if (yy.r17) ≤ 0 then (g_M_send_86 yy x) else (if 12 ≤ (yy.r17) then (g_M_send_86 yy x) else (if (yy.r29) = 1 then (if x = 0 then ((g_M_hear ((yy.s3 2).s28 2) x)) else (g_M_send_86 yy x)) else (g_M_send_86 yy x))))) else (g_M_send_86 yy x)
set_option maxHeartbeats 4000000 in
set_option maxRecDepth 100000 in
theorem pj_M_send_86 (A : Nat → Nat → Int32) (j : Nat) (hj : j < 4) (v2 : Int32) (hw : ¬ A 9 j = 0) (ok : okA A) (yy : sM) (h : pj A j = yy) : pj (f_M_send_86 A j v2) j = g_M_send_86 yy v2 := by
  subst h
  by_cases c62 : (A 16 j) = 2
  · skip
    by_cases c87 : v2 = 1
    · skip
      have e109 : pj (f_M_err A j 6 1) j = (g_M_err (pj A j) 6 1) := (pj_M_err A j hj 6 1 (show vp_in (nI 6) 8 from vp_in_nI (by decide) (by decide)) _ rfl)
      have hf : f_M_send_86 A j v2 = (f_M_err A j 6 1) := by unfold f_M_send_86; rw [if_pos c62, if_pos c87]
      have hg : g_M_send_86 (pj A j) v2 = (g_M_err (pj A j) 6 1) := by unfold g_M_send_86; rw [if_pos (show ((pj A j).r16) = 2 from c62), if_pos (show v2 = 1 from c87)]
      rw [hf, hg]
      exact e109
    · skip
      by_cases c90 : (A 16 j) = 0
      · skip
        have e105 : pj (f_M_readCore A j v2).1 j = (g_M_readCore (pj A j) v2).1 ∧ (f_M_readCore A j v2).2 = (g_M_readCore (pj A j) v2).2 := (pj_M_readCore A j hj v2 _ rfl)
        have hf : f_M_send_86 A j v2 = (f_M_readCore A j v2).1 := by unfold f_M_send_86; rw [if_pos c62, if_neg c87, if_pos c90]
        have hg : g_M_send_86 (pj A j) v2 = (g_M_readCore (pj A j) v2).1 := by unfold g_M_send_86; rw [if_pos (show ((pj A j).r16) = 2 from c62), if_neg (show ¬ (v2 = 1) from c87), if_pos (show ((pj A j).r16) = 0 from c90)]
        rw [hf, hg]
        exact e105.1
      · skip
        by_cases c92 : (A 16 j) = 10
        · skip
          have e101 : pj (f_M_sentFrame A j) j = (g_M_sentFrame (pj A j)) := (pj_M_sentFrame A j hj hw ok _ rfl)
          have hf : f_M_send_86 A j v2 = (f_M_sentFrame A j) := by unfold f_M_send_86; rw [if_pos c62, if_neg c87, if_neg c90, if_pos c92]
          have hg : g_M_send_86 (pj A j) v2 = (g_M_sentFrame (pj A j)) := by unfold g_M_send_86; rw [if_pos (show ((pj A j).r16) = 2 from c62), if_neg (show ¬ (v2 = 1) from c87), if_neg (show ¬ (((pj A j).r16) = 0) from c90), if_pos (show ((pj A j).r16) = 10 from c92)]
          rw [hf, hg]
          exact e101
        · skip
          have hf : f_M_send_86 A j v2 = (setA A 16 (upd (A 16) j ((A 16 j) + 1))) := by unfold f_M_send_86; rw [if_pos c62, if_neg c87, if_neg c90, if_neg c92]
          have hg : g_M_send_86 (pj A j) v2 = ((pj A j).s16 (((pj A j).r16) + 1)) := by unfold g_M_send_86; rw [if_pos (show ((pj A j).r16) = 2 from c62), if_neg (show ¬ (v2 = 1) from c87), if_neg (show ¬ (((pj A j).r16) = 0) from c90), if_neg (show ¬ (((pj A j).r16) = 10) from c92)]
          rw [hf, hg]
          exact (pjc_16 (v := (A 16 j) + 1) rfl rfl)
  · skip
    by_cases c65 : v2 = (A 29 j)
    · skip
      by_cases c67 : (A 16 j) = 0
      · skip
        have e82 : pj (f_M_readCore A j v2).1 j = (g_M_readCore (pj A j) v2).1 ∧ (f_M_readCore A j v2).2 = (g_M_readCore (pj A j) v2).2 := (pj_M_readCore A j hj v2 _ rfl)
        have hf : f_M_send_86 A j v2 = (f_M_readCore A j v2).1 := by unfold f_M_send_86; rw [if_neg c62, if_pos c65, if_pos c67]
        have hg : g_M_send_86 (pj A j) v2 = (g_M_readCore (pj A j) v2).1 := by unfold g_M_send_86; rw [if_neg (show ¬ (((pj A j).r16) = 2) from c62), if_pos (show v2 = ((pj A j).r29) from c65), if_pos (show ((pj A j).r16) = 0 from c67)]
        rw [hf, hg]
        exact e82.1
      · skip
        by_cases c69 : (A 16 j) = 10
        · skip
          have e78 : pj (f_M_sentFrame A j) j = (g_M_sentFrame (pj A j)) := (pj_M_sentFrame A j hj hw ok _ rfl)
          have hf : f_M_send_86 A j v2 = (f_M_sentFrame A j) := by unfold f_M_send_86; rw [if_neg c62, if_pos c65, if_neg c67, if_pos c69]
          have hg : g_M_send_86 (pj A j) v2 = (g_M_sentFrame (pj A j)) := by unfold g_M_send_86; rw [if_neg (show ¬ (((pj A j).r16) = 2) from c62), if_pos (show v2 = ((pj A j).r29) from c65), if_neg (show ¬ (((pj A j).r16) = 0) from c67), if_pos (show ((pj A j).r16) = 10 from c69)]
          rw [hf, hg]
          exact e78
        · skip
          have hf : f_M_send_86 A j v2 = (setA A 16 (upd (A 16) j ((A 16 j) + 1))) := by unfold f_M_send_86; rw [if_neg c62, if_pos c65, if_neg c67, if_neg c69]
          have hg : g_M_send_86 (pj A j) v2 = ((pj A j).s16 (((pj A j).r16) + 1)) := by unfold g_M_send_86; rw [if_neg (show ¬ (((pj A j).r16) = 2) from c62), if_pos (show v2 = ((pj A j).r29) from c65), if_neg (show ¬ (((pj A j).r16) = 0) from c67), if_neg (show ¬ (((pj A j).r16) = 10) from c69)]
          rw [hf, hg]
          exact (pjc_16 (v := (A 16 j) + 1) rfl rfl)
    · skip
      have e86 : pj (f_M_err A j 2 1) j = (g_M_err (pj A j) 2 1) := (pj_M_err A j hj 2 1 (show vp_in (nI 2) 8 from vp_in_nI (by decide) (by decide)) _ rfl)
      have hf : f_M_send_86 A j v2 = (f_M_err A j 2 1) := by unfold f_M_send_86; rw [if_neg c62, if_neg c65]
      have hg : g_M_send_86 (pj A j) v2 = (g_M_err (pj A j) 2 1) := by unfold g_M_send_86; rw [if_neg (show ¬ (((pj A j).r16) = 2) from c62), if_neg (show ¬ (v2 = ((pj A j).r29)) from c65)]
      rw [hf, hg]
      exact e86
set_option maxHeartbeats 4000000 in
set_option maxRecDepth 100000 in
theorem pj_M_send (A : Nat → Nat → Int32) (j : Nat) (hj : j < 4) (x : Int32) (hw : ¬ A 9 j = 0) (ok : okA A) (yy : sM) (h : pj A j = yy) : pj (f_M_send A j x) j = g_M_send yy x := by
  subst h
  by_cases c42 : (A 16 j) = 0
  · skip
    by_cases c44 : 5 ≤ (A 18 j)
    · skip
      have hf : f_M_send A j x = f_M_send_86 A j x := by unfold f_M_send; rw [if_pos c42, if_pos c44]
      have hg : g_M_send (pj A j) x = g_M_send_86 (pj A j) x := by unfold g_M_send; rw [if_pos (show ((pj A j).r16) = 0 from c42), if_pos (show 5 ≤ ((pj A j).r18) from c44)]
      rw [hf, hg]
      exact pj_M_send_86 A j hj x hw ok _ rfl
    · skip
      by_cases c46 : (A 17 j) ≤ 0
      · skip
        have hf : f_M_send A j x = f_M_send_86 A j x := by unfold f_M_send; rw [if_pos c42, if_neg c44, if_pos c46]
        have hg : g_M_send (pj A j) x = g_M_send_86 (pj A j) x := by unfold g_M_send; rw [if_pos (show ((pj A j).r16) = 0 from c42), if_neg (show ¬ (5 ≤ ((pj A j).r18)) from c44), if_pos (show ((pj A j).r17) ≤ 0 from c46)]
        rw [hf, hg]
        exact pj_M_send_86 A j hj x hw ok _ rfl
      · skip
        by_cases c48 : 12 ≤ (A 17 j)
        · skip
          have hf : f_M_send A j x = f_M_send_86 A j x := by unfold f_M_send; rw [if_pos c42, if_neg c44, if_neg c46, if_pos c48]
          have hg : g_M_send (pj A j) x = g_M_send_86 (pj A j) x := by unfold g_M_send; rw [if_pos (show ((pj A j).r16) = 0 from c42), if_neg (show ¬ (5 ≤ ((pj A j).r18)) from c44), if_neg (show ¬ (((pj A j).r17) ≤ 0) from c46), if_pos (show 12 ≤ ((pj A j).r17) from c48)]
          rw [hf, hg]
          exact pj_M_send_86 A j hj x hw ok _ rfl
        · skip
          by_cases c50 : (A 29 j) = 1
          · skip
            by_cases c51 : x = 0
            · skip
              have e63 : pj (f_M_hear (setA (setA A 3 (upd (A 3) j 2)) 28 (upd (A 28) j 2)) j x) j = (g_M_hear (((pj A j).s3 2).s28 2) x) := (pj_M_hear (setA (setA A 3 (upd (A 3) j 2)) 28 (upd (A 28) j 2)) j hj x (okA_o (by decide) (okA_3 (v := 2) rfl (fun h9 => absurd h9 (by decide)) ok)) _ (pjc_28 (v := 2) rfl (pjc_3 (v := 2) rfl rfl)))
              have hf : f_M_send A j x = (f_M_hear (setA (setA A 3 (upd (A 3) j 2)) 28 (upd (A 28) j 2)) j x) := by unfold f_M_send; rw [if_pos c42, if_neg c44, if_neg c46, if_neg c48, if_pos c50, if_pos c51]
              have hg : g_M_send (pj A j) x = (g_M_hear (((pj A j).s3 2).s28 2) x) := by unfold g_M_send; rw [if_pos (show ((pj A j).r16) = 0 from c42), if_neg (show ¬ (5 ≤ ((pj A j).r18)) from c44), if_neg (show ¬ (((pj A j).r17) ≤ 0) from c46), if_neg (show ¬ (12 ≤ ((pj A j).r17)) from c48), if_pos (show ((pj A j).r29) = 1 from c50), if_pos (show x = 0 from c51)]
              rw [hf, hg]
              exact e63
            · skip
              have hf : f_M_send A j x = f_M_send_86 A j x := by unfold f_M_send; rw [if_pos c42, if_neg c44, if_neg c46, if_neg c48, if_pos c50, if_neg c51]
              have hg : g_M_send (pj A j) x = g_M_send_86 (pj A j) x := by unfold g_M_send; rw [if_pos (show ((pj A j).r16) = 0 from c42), if_neg (show ¬ (5 ≤ ((pj A j).r18)) from c44), if_neg (show ¬ (((pj A j).r17) ≤ 0) from c46), if_neg (show ¬ (12 ≤ ((pj A j).r17)) from c48), if_pos (show ((pj A j).r29) = 1 from c50), if_neg (show ¬ (x = 0) from c51)]
              rw [hf, hg]
              exact pj_M_send_86 A j hj x hw ok _ rfl
          · skip
            have hf : f_M_send A j x = f_M_send_86 A j x := by unfold f_M_send; rw [if_pos c42, if_neg c44, if_neg c46, if_neg c48, if_neg c50]
            have hg : g_M_send (pj A j) x = g_M_send_86 (pj A j) x := by unfold g_M_send; rw [if_pos (show ((pj A j).r16) = 0 from c42), if_neg (show ¬ (5 ≤ ((pj A j).r18)) from c44), if_neg (show ¬ (((pj A j).r17) ≤ 0) from c46), if_neg (show ¬ (12 ≤ ((pj A j).r17)) from c48), if_neg (show ¬ (((pj A j).r29) = 1) from c50)]
            rw [hf, hg]
            exact pj_M_send_86 A j hj x hw ok _ rfl
  · skip
    have hf : f_M_send A j x = f_M_send_86 A j x := by unfold f_M_send; rw [if_neg c42]
    have hg : g_M_send (pj A j) x = g_M_send_86 (pj A j) x := by unfold g_M_send; rw [if_neg (show ¬ (((pj A j).r16) = 0) from c42)]
    rw [hf, hg]
    exact pj_M_send_86 A j hj x hw ok _ rfl
def g_M_start (yy : sM) : sM := (g_M_hear (g_M_open yy 2) 0)
set_option maxHeartbeats 4000000 in
set_option maxRecDepth 100000 in
theorem pj_M_start (A : Nat → Nat → Int32) (j : Nat) (hj : j < 4) (ok : okA A) (yy : sM) (h : pj A j = yy) : pj (f_M_start A j) j = g_M_start yy := by
  subst h
  have e44 : pj (f_M_open A j 2) j = (g_M_open (pj A j) 2) := (pj_M_open A j hj 2 _ rfl)
  have e48 : pj (f_M_hear (f_M_open A j 2) j 0) j = (g_M_hear (g_M_open (pj A j) 2) 0) := (pj_M_hear (f_M_open A j 2) j hj 0 (ok_M_open A j hj 2 (fun h9 => absurd h9 (by decide)) ok) _ e44)
  have hf : f_M_start A j = (f_M_hear (f_M_open A j 2) j 0) := rfl
  have hg : g_M_start (pj A j) = (g_M_hear (g_M_open (pj A j) 2) 0) := rfl
  rw [hf, hg]
  exact e48
def g_M_pausing (yy : sM) (x : Int32) : sM := if x = 0 then (if 3 ≤ ((yy.r26) + 1) then ((g_M_start (yy.s26 ((yy.r26) + 1)))) else ((g_M_overload (yy.s26 ((yy.r26) + 1))))) else (if ((yy.r26) + 1) = 3 then (if ((g_M_isPassive (yy.s26 ((yy.r26) + 1)))) = 0 then ((((yy.s26 ((yy.r26) + 1)).s3 0).s26 0)) else (if (yy.r28) = 1 then ((((yy.s26 ((yy.r26) + 1)).s3 6).s26 0)) else ((((yy.s26 ((yy.r26) + 1)).s3 0).s26 0)))) else ((yy.s26 ((yy.r26) + 1))))
set_option maxHeartbeats 4000000 in
set_option maxRecDepth 100000 in
theorem pj_M_pausing (A : Nat → Nat → Int32) (j : Nat) (hj : j < 4) (x : Int32) (ok : okA A) (yy : sM) (h : pj A j = yy) : pj (f_M_pausing A j x) j = g_M_pausing yy x := by
  subst h
  by_cases c46 : x = 0
  · skip
    by_cases c79 : 3 ≤ ((A 26 j) + 1)
    · skip
      have e83 : pj (f_M_start (setA A 26 (upd (A 26) j ((A 26 j) + 1))) j) j = (g_M_start ((pj A j).s26 (((pj A j).r26) + 1))) := (pj_M_start (setA A 26 (upd (A 26) j ((A 26 j) + 1))) j hj (okA_o (by decide) ok) _ (pjc_26 (v := (A 26 j) + 1) rfl rfl))
      have hf : f_M_pausing A j x = (f_M_start (setA A 26 (upd (A 26) j ((A 26 j) + 1))) j) := by unfold f_M_pausing; rw [if_pos c46, if_pos c79]
      have hg : g_M_pausing (pj A j) x = (g_M_start ((pj A j).s26 (((pj A j).r26) + 1))) := by unfold g_M_pausing; rw [if_pos (show x = 0 from c46), if_pos (show 3 ≤ (((pj A j).r26) + 1) from c79)]
      rw [hf, hg]
      exact e83
    · skip
      have e87 : pj (f_M_overload (setA A 26 (upd (A 26) j ((A 26 j) + 1))) j) j = (g_M_overload ((pj A j).s26 (((pj A j).r26) + 1))) := (pj_M_overload (setA A 26 (upd (A 26) j ((A 26 j) + 1))) j hj _ (pjc_26 (v := (A 26 j) + 1) rfl rfl))
      have hf : f_M_pausing A j x = (f_M_overload (setA A 26 (upd (A 26) j ((A 26 j) + 1))) j) := by unfold f_M_pausing; rw [if_pos c46, if_neg c79]
      have hg : g_M_pausing (pj A j) x = (g_M_overload ((pj A j).s26 (((pj A j).r26) + 1))) := by unfold g_M_pausing; rw [if_pos (show x = 0 from c46), if_neg (show ¬ (3 ≤ (((pj A j).r26) + 1)) from c79)]
      rw [hf, hg]
      exact e87
  · skip
    by_cases c48 : ((A 26 j) + 1) = 3
    · skip
      by_cases c51 : ((f_M_isPassive (setA A 26 (upd (A 26) j ((A 26 j) + 1))) j)) = 0
      · skip
        have e50 : (f_M_isPassive (setA A 26 (upd (A 26) j ((A 26 j) + 1))) j) = (g_M_isPassive ((pj A j).s26 (((pj A j).r26) + 1))) := (pj_M_isPassive (setA A 26 (upd (A 26) j ((A 26 j) + 1))) j hj _ (pjc_26 (v := (A 26 j) + 1) rfl rfl))
        have hf : f_M_pausing A j x = (setA (setA (setA A 26 (upd (A 26) j ((A 26 j) + 1))) 3 (upd (A 3) j 0)) 26 (upd (upd (A 26) j ((A 26 j) + 1)) j 0)) := by unfold f_M_pausing; rw [if_neg c46, if_pos c48, if_pos c51]
        have hg : g_M_pausing (pj A j) x = ((((pj A j).s26 (((pj A j).r26) + 1)).s3 0).s26 0) := by unfold g_M_pausing; rw [if_neg (show ¬ (x = 0) from c46), if_pos (show (((pj A j).r26) + 1) = 3 from c48), if_pos (show ((g_M_isPassive ((pj A j).s26 (((pj A j).r26) + 1)))) = 0 from by rw [← e50]; exact c51)]
        rw [hf, hg]
        exact (pjc_26 (v := 0) rfl (pjc_3 (v := 0) rfl (pjc_26 (v := (A 26 j) + 1) rfl rfl)))
      · skip
        by_cases c61 : (A 28 j) = 1
        · skip
          have e50 : (f_M_isPassive (setA A 26 (upd (A 26) j ((A 26 j) + 1))) j) = (g_M_isPassive ((pj A j).s26 (((pj A j).r26) + 1))) := (pj_M_isPassive (setA A 26 (upd (A 26) j ((A 26 j) + 1))) j hj _ (pjc_26 (v := (A 26 j) + 1) rfl rfl))
          have hf : f_M_pausing A j x = (setA (setA (setA A 26 (upd (A 26) j ((A 26 j) + 1))) 3 (upd (A 3) j 6)) 26 (upd (upd (A 26) j ((A 26 j) + 1)) j 0)) := by unfold f_M_pausing; rw [if_neg c46, if_pos c48, if_neg c51, if_pos c61]
          have hg : g_M_pausing (pj A j) x = ((((pj A j).s26 (((pj A j).r26) + 1)).s3 6).s26 0) := by unfold g_M_pausing; rw [if_neg (show ¬ (x = 0) from c46), if_pos (show (((pj A j).r26) + 1) = 3 from c48), if_neg (show ¬ (((g_M_isPassive ((pj A j).s26 (((pj A j).r26) + 1)))) = 0) from by rw [← e50]; exact c51), if_pos (show ((pj A j).r28) = 1 from c61)]
          rw [hf, hg]
          exact (pjc_26 (v := 0) rfl (pjc_3 (v := 6) rfl (pjc_26 (v := (A 26 j) + 1) rfl rfl)))
        · skip
          have e50 : (f_M_isPassive (setA A 26 (upd (A 26) j ((A 26 j) + 1))) j) = (g_M_isPassive ((pj A j).s26 (((pj A j).r26) + 1))) := (pj_M_isPassive (setA A 26 (upd (A 26) j ((A 26 j) + 1))) j hj _ (pjc_26 (v := (A 26 j) + 1) rfl rfl))
          have hf : f_M_pausing A j x = (setA (setA (setA A 26 (upd (A 26) j ((A 26 j) + 1))) 3 (upd (A 3) j 0)) 26 (upd (upd (A 26) j ((A 26 j) + 1)) j 0)) := by unfold f_M_pausing; rw [if_neg c46, if_pos c48, if_neg c51, if_neg c61]
          have hg : g_M_pausing (pj A j) x = ((((pj A j).s26 (((pj A j).r26) + 1)).s3 0).s26 0) := by unfold g_M_pausing; rw [if_neg (show ¬ (x = 0) from c46), if_pos (show (((pj A j).r26) + 1) = 3 from c48), if_neg (show ¬ (((g_M_isPassive ((pj A j).s26 (((pj A j).r26) + 1)))) = 0) from by rw [← e50]; exact c51), if_neg (show ¬ (((pj A j).r28) = 1) from c61)]
          rw [hf, hg]
          exact (pjc_26 (v := 0) rfl (pjc_3 (v := 0) rfl (pjc_26 (v := (A 26 j) + 1) rfl rfl)))
    · skip
      have hf : f_M_pausing A j x = (setA A 26 (upd (A 26) j ((A 26 j) + 1))) := by unfold f_M_pausing; rw [if_neg c46, if_neg c48]
      have hg : g_M_pausing (pj A j) x = ((pj A j).s26 (((pj A j).r26) + 1)) := by unfold g_M_pausing; rw [if_neg (show ¬ (x = 0) from c46), if_neg (show ¬ ((((pj A j).r26) + 1) = 3) from c48)]
      rw [hf, hg]
      exact (pjc_26 (v := (A 26 j) + 1) rfl rfl)
def g_M_see (yy : sM) (x : Int32) : sM := if (yy.r3) = 1 then ((g_M_send yy x)) else (if (yy.r3) = 2 then ((g_M_hear yy x)) else (if (yy.r3) = 3 then ((g_M_flagging yy x)) else (if (yy.r3) = 4 then ((g_M_goAfter yy x)) else (if (yy.r3) = 5 then ((g_M_pausing yy x)) else (if (yy.r3) = 6 then (if x = 0 then ((g_M_start yy)) else (if ((yy.r26) + 1) = 8 then (((yy.s26 ((yy.r26) + 1)).s3 0)) else (((yy.s26 ((yy.r26) + 1)).s3 6)))) else (if (yy.r3) = 7 then ((g_M_offTime yy x)) else (if x = 0 then ((g_M_start yy)) else (yy))))))))
set_option maxHeartbeats 4000000 in
set_option maxRecDepth 100000 in
theorem pj_M_see (A : Nat → Nat → Int32) (j : Nat) (hj : j < 4) (x : Int32) (ok : okA A) (yy : sM) (h : pj A j = yy) : pj (f_M_see A j x) j = g_M_see yy x := by
  subst h
  by_cases g42 : (A 3 j) = 1
  · skip
    have e46 : pj (f_M_send A j x) j = (g_M_send (pj A j) x) := (pj_M_send A j hj x ((ok j hj).2.2.2 g42) ok _ rfl)
    have hf : f_M_see A j x = (f_M_send A j x) := by unfold f_M_see; rw [if_pos g42]
    have hg : g_M_see (pj A j) x = (g_M_send (pj A j) x) := by unfold g_M_see; rw [if_pos (show ((pj A j).r3) = 1 from g42)]
    rw [hf, hg]
    exact e46
  · skip
    by_cases g47 : (A 3 j) = 2
    · skip
      have e51 : pj (f_M_hear A j x) j = (g_M_hear (pj A j) x) := (pj_M_hear A j hj x ok _ rfl)
      have hf : f_M_see A j x = (f_M_hear A j x) := by unfold f_M_see; rw [if_neg g42, if_pos g47]
      have hg : g_M_see (pj A j) x = (g_M_hear (pj A j) x) := by unfold g_M_see; rw [if_neg (show ¬ (((pj A j).r3) = 1) from g42), if_pos (show ((pj A j).r3) = 2 from g47)]
      rw [hf, hg]
      exact e51
    · skip
      by_cases g52 : (A 3 j) = 3
      · skip
        have e56 : pj (f_M_flagging A j x) j = (g_M_flagging (pj A j) x) := (pj_M_flagging A j hj x _ rfl)
        have hf : f_M_see A j x = (f_M_flagging A j x) := by unfold f_M_see; rw [if_neg g42, if_neg g47, if_pos g52]
        have hg : g_M_see (pj A j) x = (g_M_flagging (pj A j) x) := by unfold g_M_see; rw [if_neg (show ¬ (((pj A j).r3) = 1) from g42), if_neg (show ¬ (((pj A j).r3) = 2) from g47), if_pos (show ((pj A j).r3) = 3 from g52)]
        rw [hf, hg]
        exact e56
      · skip
        by_cases g57 : (A 3 j) = 4
        · skip
          have e61 : pj (f_M_goAfter A j x) j = (g_M_goAfter (pj A j) x) := (pj_M_goAfter A j hj x _ rfl)
          have hf : f_M_see A j x = (f_M_goAfter A j x) := by unfold f_M_see; rw [if_neg g42, if_neg g47, if_neg g52, if_pos g57]
          have hg : g_M_see (pj A j) x = (g_M_goAfter (pj A j) x) := by unfold g_M_see; rw [if_neg (show ¬ (((pj A j).r3) = 1) from g42), if_neg (show ¬ (((pj A j).r3) = 2) from g47), if_neg (show ¬ (((pj A j).r3) = 3) from g52), if_pos (show ((pj A j).r3) = 4 from g57)]
          rw [hf, hg]
          exact e61
        · skip
          by_cases g62 : (A 3 j) = 5
          · skip
            have e66 : pj (f_M_pausing A j x) j = (g_M_pausing (pj A j) x) := (pj_M_pausing A j hj x ok _ rfl)
            have hf : f_M_see A j x = (f_M_pausing A j x) := by unfold f_M_see; rw [if_neg g42, if_neg g47, if_neg g52, if_neg g57, if_pos g62]
            have hg : g_M_see (pj A j) x = (g_M_pausing (pj A j) x) := by unfold g_M_see; rw [if_neg (show ¬ (((pj A j).r3) = 1) from g42), if_neg (show ¬ (((pj A j).r3) = 2) from g47), if_neg (show ¬ (((pj A j).r3) = 3) from g52), if_neg (show ¬ (((pj A j).r3) = 4) from g57), if_pos (show ((pj A j).r3) = 5 from g62)]
            rw [hf, hg]
            exact e66
          · skip
            by_cases g67 : (A 3 j) = 6
            · skip
              by_cases c68 : x = 0
              · skip
                have e88 : pj (f_M_start A j) j = (g_M_start (pj A j)) := (pj_M_start A j hj ok _ rfl)
                have hf : f_M_see A j x = (f_M_start A j) := by unfold f_M_see; rw [if_neg g42, if_neg g47, if_neg g52, if_neg g57, if_neg g62, if_pos g67, if_pos c68]
                have hg : g_M_see (pj A j) x = (g_M_start (pj A j)) := by unfold g_M_see; rw [if_neg (show ¬ (((pj A j).r3) = 1) from g42), if_neg (show ¬ (((pj A j).r3) = 2) from g47), if_neg (show ¬ (((pj A j).r3) = 3) from g52), if_neg (show ¬ (((pj A j).r3) = 4) from g57), if_neg (show ¬ (((pj A j).r3) = 5) from g62), if_pos (show ((pj A j).r3) = 6 from g67), if_pos (show x = 0 from c68)]
                rw [hf, hg]
                exact e88
              · skip
                by_cases c76 : ((A 26 j) + 1) = 8
                · skip
                  have hf : f_M_see A j x = (setA (setA A 26 (upd (A 26) j ((A 26 j) + 1))) 3 (upd (A 3) j 0)) := by unfold f_M_see; rw [if_neg g42, if_neg g47, if_neg g52, if_neg g57, if_neg g62, if_pos g67, if_neg c68, if_pos c76]
                  have hg : g_M_see (pj A j) x = (((pj A j).s26 (((pj A j).r26) + 1)).s3 0) := by unfold g_M_see; rw [if_neg (show ¬ (((pj A j).r3) = 1) from g42), if_neg (show ¬ (((pj A j).r3) = 2) from g47), if_neg (show ¬ (((pj A j).r3) = 3) from g52), if_neg (show ¬ (((pj A j).r3) = 4) from g57), if_neg (show ¬ (((pj A j).r3) = 5) from g62), if_pos (show ((pj A j).r3) = 6 from g67), if_neg (show ¬ (x = 0) from c68), if_pos (show (((pj A j).r26) + 1) = 8 from c76)]
                  rw [hf, hg]
                  exact (pjc_3 (v := 0) rfl (pjc_26 (v := (A 26 j) + 1) rfl rfl))
                · skip
                  have hf : f_M_see A j x = (setA (setA A 26 (upd (A 26) j ((A 26 j) + 1))) 3 (upd (A 3) j 6)) := by unfold f_M_see; rw [if_neg g42, if_neg g47, if_neg g52, if_neg g57, if_neg g62, if_pos g67, if_neg c68, if_neg c76]
                  have hg : g_M_see (pj A j) x = (((pj A j).s26 (((pj A j).r26) + 1)).s3 6) := by unfold g_M_see; rw [if_neg (show ¬ (((pj A j).r3) = 1) from g42), if_neg (show ¬ (((pj A j).r3) = 2) from g47), if_neg (show ¬ (((pj A j).r3) = 3) from g52), if_neg (show ¬ (((pj A j).r3) = 4) from g57), if_neg (show ¬ (((pj A j).r3) = 5) from g62), if_pos (show ((pj A j).r3) = 6 from g67), if_neg (show ¬ (x = 0) from c68), if_neg (show ¬ ((((pj A j).r26) + 1) = 8) from c76)]
                  rw [hf, hg]
                  exact (pjc_3 (v := 6) rfl (pjc_26 (v := (A 26 j) + 1) rfl rfl))
            · skip
              by_cases g89 : (A 3 j) = 7
              · skip
                have e93 : pj (f_M_offTime A j x) j = (g_M_offTime (pj A j) x) := (pj_M_offTime A j hj x _ rfl)
                have hf : f_M_see A j x = (f_M_offTime A j x) := by unfold f_M_see; rw [if_neg g42, if_neg g47, if_neg g52, if_neg g57, if_neg g62, if_neg g67, if_pos g89]
                have hg : g_M_see (pj A j) x = (g_M_offTime (pj A j) x) := by unfold g_M_see; rw [if_neg (show ¬ (((pj A j).r3) = 1) from g42), if_neg (show ¬ (((pj A j).r3) = 2) from g47), if_neg (show ¬ (((pj A j).r3) = 3) from g52), if_neg (show ¬ (((pj A j).r3) = 4) from g57), if_neg (show ¬ (((pj A j).r3) = 5) from g62), if_neg (show ¬ (((pj A j).r3) = 6) from g67), if_pos (show ((pj A j).r3) = 7 from g89)]
                rw [hf, hg]
                exact e93
              · skip
                by_cases c94 : x = 0
                · skip
                  have e99 : pj (f_M_start A j) j = (g_M_start (pj A j)) := (pj_M_start A j hj ok _ rfl)
                  have hf : f_M_see A j x = (f_M_start A j) := by unfold f_M_see; rw [if_neg g42, if_neg g47, if_neg g52, if_neg g57, if_neg g62, if_neg g67, if_neg g89, if_pos c94]
                  have hg : g_M_see (pj A j) x = (g_M_start (pj A j)) := by unfold g_M_see; rw [if_neg (show ¬ (((pj A j).r3) = 1) from g42), if_neg (show ¬ (((pj A j).r3) = 2) from g47), if_neg (show ¬ (((pj A j).r3) = 3) from g52), if_neg (show ¬ (((pj A j).r3) = 4) from g57), if_neg (show ¬ (((pj A j).r3) = 5) from g62), if_neg (show ¬ (((pj A j).r3) = 6) from g67), if_neg (show ¬ (((pj A j).r3) = 7) from g89), if_pos (show x = 0 from c94)]
                  rw [hf, hg]
                  exact e99
                · skip
                  have hf : f_M_see A j x = A := by unfold f_M_see; rw [if_neg g42, if_neg g47, if_neg g52, if_neg g57, if_neg g62, if_neg g67, if_neg g89, if_neg c94]
                  have hg : g_M_see (pj A j) x = (pj A j) := by unfold g_M_see; rw [if_neg (show ¬ (((pj A j).r3) = 1) from g42), if_neg (show ¬ (((pj A j).r3) = 2) from g47), if_neg (show ¬ (((pj A j).r3) = 3) from g52), if_neg (show ¬ (((pj A j).r3) = 4) from g57), if_neg (show ¬ (((pj A j).r3) = 5) from g62), if_neg (show ¬ (((pj A j).r3) = 6) from g67), if_neg (show ¬ (((pj A j).r3) = 7) from g89), if_neg (show ¬ (x = 0) from c94)]
                  rw [hf, hg]
                  all_goals rfl
