/-! The frames sent: what the reference does to totals[1]. -/
theorem t1_u {B : Nat → Nat → Int32} {f : Nat → Int32} {i : Nat} {v c : Int32} (hf : f = upd (B 0) i v) (hi : 1 ≠ i) (h : B 0 1 = c) : setA B 0 f 0 1 = c := by
  subst hf
  exact (pk_un (f := B 0) (k := i) (j := 1) (x := v) hi).trans h
set_option maxHeartbeats 4000000 in
set_option maxRecDepth 100000 in
theorem t1_M_rest (A : Nat → Nat → Int32) (j : Nat) (hj : j < 4) : (f_M_rest A j) 0 1 = A 0 1 := by
  all_goals rfl
set_option maxHeartbeats 4000000 in
set_option maxRecDepth 100000 in
theorem t1_M_open (A : Nat → Nat → Int32) (j : Nat) (hj : j < 4) (x : Int32) : (f_M_open A j x) 0 1 = A 0 1 := by
  all_goals rfl
set_option maxHeartbeats 4000000 in
set_option maxRecDepth 100000 in
theorem t1_M_goesOff (A : Nat → Nat → Int32) (j : Nat) (hj : j < 4) : (f_M_goesOff A j).1 0 1 = A 0 1 := by
  unfold f_M_goesOff
  by_cases c42 : 256 ≤ (A 4 j)
  · rw [if_pos c42]
    all_goals rfl
  · rw [if_neg c42]
    all_goals rfl
set_option maxHeartbeats 4000000 in
set_option maxRecDepth 100000 in
theorem t1_M_flag (A : Nat → Nat → Int32) (j : Nat) (hj : j < 4) (x y : Int32) : (f_M_flag A j x y) 0 1 = A 0 1 := by
  all_goals rfl
set_option maxHeartbeats 4000000 in
set_option maxRecDepth 100000 in
theorem t1_M_overload (A : Nat → Nat → Int32) (j : Nat) (hj : j < 4) : (f_M_overload A j) 0 1 = A 0 1 := by
  exact ((t1_M_flag (setA (setA A 0 (upd (A 0) 7 ((A 0 7) + 1))) 28 (upd (A 28) j 0)) j hj 0 0).trans (t1_u (B := A) rfl (by decide) rfl))
set_option maxHeartbeats 4000000 in
set_option maxRecDepth 100000 in
theorem t1_M_eightMore (A : Nat → Nat → Int32) (j : Nat) (hj : j < 4) : (f_M_eightMore A j).1 0 1 = A 0 1 := by
  unfold f_M_eightMore
  by_cases c43 : (A 24 j) = 1
  · rw [if_pos c43]
    by_cases c73 : (A 24 j) = 2
    · rw [if_pos c73]
      exact ((t1_M_goesOff (setA (setA A 4 (upd (A 4) j ((A 4 j) + 8))) 5 (upd (A 5) j ((A 5 j) + 8))) j hj).trans rfl)
    · rw [if_neg c73]
      exact ((t1_M_goesOff (setA (setA A 4 (upd (A 4) j ((A 4 j) + 8))) 5 (upd (A 5) j ((A 5 j) + 0))) j hj).trans rfl)
  · rw [if_neg c43]
    by_cases c50 : (A 24 j) = 2
    · rw [if_pos c50]
      exact ((t1_M_goesOff (setA (setA A 4 (upd (A 4) j ((A 4 j) + 0))) 5 (upd (A 5) j ((A 5 j) + 8))) j hj).trans rfl)
    · rw [if_neg c50]
      exact ((t1_M_goesOff (setA (setA A 4 (upd (A 4) j ((A 4 j) + 0))) 5 (upd (A 5) j ((A 5 j) + 0))) j hj).trans rfl)
set_option maxHeartbeats 4000000 in
set_option maxRecDepth 100000 in
theorem t1_M_flagging (A : Nat → Nat → Int32) (j : Nat) (hj : j < 4) (x : Int32) : (f_M_flagging A j x) 0 1 = A 0 1 := by
  unfold f_M_flagging
  by_cases c42 : (A 29 j) = 0
  · rw [if_pos c42]
    by_cases c62 : x = 1
    · rw [if_pos c62]
      by_cases c86 : ((f_M_eightMore A j).2) = 0
      · rw [if_pos c86]
        by_cases c94 : ((((f_M_eightMore A j).1 26) j) + 1) = 6
        · rw [if_pos c94]
          exact ((t1_M_eightMore A j hj).trans rfl)
        · rw [if_neg c94]
          exact ((t1_M_eightMore A j hj).trans rfl)
      · rw [if_neg c86]
        exact ((t1_M_eightMore A j hj).trans rfl)
    · rw [if_neg c62]
      by_cases c69 : ((A 26 j) + 1) = 6
      · rw [if_pos c69]
        all_goals rfl
      · rw [if_neg c69]
        all_goals rfl
  · rw [if_neg c42]
    by_cases c49 : ((A 26 j) + 1) = 6
    · rw [if_pos c49]
      all_goals rfl
    · rw [if_neg c49]
      all_goals rfl
set_option maxHeartbeats 4000000 in
set_option maxRecDepth 100000 in
theorem t1_M_offTime (A : Nat → Nat → Int32) (j : Nat) (hj : j < 4) (x : Int32) : (f_M_offTime A j x) 0 1 = A 0 1 := by
  unfold f_M_offTime
  by_cases c41 : x = 1
  · rw [if_pos c41]
    by_cases c71 : ((A 27 j) + 1) = 11
    · rw [if_pos c71]
      by_cases c100 : ((A 26 j) + 1) = 8
      · rw [if_pos c100]
        all_goals rfl
      · rw [if_neg c100]
        all_goals rfl
    · rw [if_neg c71]
      by_cases c73 : (A 26 j) = 8
      · rw [if_pos c73]
        all_goals rfl
      · rw [if_neg c73]
        all_goals rfl
  · rw [if_neg c41]
    by_cases c48 : (A 26 j) = 8
    · rw [if_pos c48]
      all_goals rfl
    · rw [if_neg c48]
      all_goals rfl
set_option maxHeartbeats 4000000 in
set_option maxRecDepth 100000 in
theorem t1_M_err (A : Nat → Nat → Int32) (j : Nat) (hj : j < 4) (x y : Int32) (hx1 : 1 ≠ x.toNatClampNeg) : (f_M_err A j x y) 0 1 = A 0 1 := by
  unfold f_M_err
  by_cases c46 : y = 1
  · rw [if_pos c46]
    by_cases c64 : x = 6
    · rw [if_pos c64]
      by_cases c82 : ((f_M_isPassive (setA A 0 (upd (A 0) x.toNatClampNeg ((A 0 x.toNatClampNeg) + 1))) j)) = 0
      · rw [if_pos c82]
        by_cases c91 : ((f_M_goesOff (setA (setA A 0 (upd (A 0) x.toNatClampNeg ((A 0 x.toNatClampNeg) + 1))) 4 (upd (A 4) j ((A 4 j) + 8))) j).2) = 0
        · rw [if_pos c91]
          exact ((t1_M_flag (f_M_goesOff (setA (setA A 0 (upd (A 0) x.toNatClampNeg ((A 0 x.toNatClampNeg) + 1))) 4 (upd (A 4) j ((A 4 j) + 8))) j).1 j hj y ((f_M_isPassive (f_M_goesOff (setA (setA A 0 (upd (A 0) x.toNatClampNeg ((A 0 x.toNatClampNeg) + 1))) 4 (upd (A 4) j ((A 4 j) + 8))) j).1 j))).trans ((t1_M_goesOff (setA (setA A 0 (upd (A 0) x.toNatClampNeg ((A 0 x.toNatClampNeg) + 1))) 4 (upd (A 4) j ((A 4 j) + 8))) j hj).trans (t1_u (B := A) rfl hx1 rfl)))
        · rw [if_neg c91]
          exact ((t1_M_goesOff (setA (setA A 0 (upd (A 0) x.toNatClampNeg ((A 0 x.toNatClampNeg) + 1))) 4 (upd (A 4) j ((A 4 j) + 8))) j hj).trans (t1_u (B := A) rfl hx1 rfl))
      · rw [if_neg c82]
        by_cases c106 : ((f_M_goesOff (setA (setA A 0 (upd (A 0) x.toNatClampNeg ((A 0 x.toNatClampNeg) + 1))) 4 (upd (A 4) j ((A 4 j) + 0))) j).2) = 0
        · rw [if_pos c106]
          exact ((t1_M_flag (f_M_goesOff (setA (setA A 0 (upd (A 0) x.toNatClampNeg ((A 0 x.toNatClampNeg) + 1))) 4 (upd (A 4) j ((A 4 j) + 0))) j).1 j hj y ((f_M_isPassive (f_M_goesOff (setA (setA A 0 (upd (A 0) x.toNatClampNeg ((A 0 x.toNatClampNeg) + 1))) 4 (upd (A 4) j ((A 4 j) + 0))) j).1 j))).trans ((t1_M_goesOff (setA (setA A 0 (upd (A 0) x.toNatClampNeg ((A 0 x.toNatClampNeg) + 1))) 4 (upd (A 4) j ((A 4 j) + 0))) j hj).trans (t1_u (B := A) rfl hx1 rfl)))
        · rw [if_neg c106]
          exact ((t1_M_goesOff (setA (setA A 0 (upd (A 0) x.toNatClampNeg ((A 0 x.toNatClampNeg) + 1))) 4 (upd (A 4) j ((A 4 j) + 0))) j hj).trans (t1_u (B := A) rfl hx1 rfl))
    · rw [if_neg c64]
      by_cases c73 : ((f_M_goesOff (setA (setA A 0 (upd (A 0) x.toNatClampNeg ((A 0 x.toNatClampNeg) + 1))) 4 (upd (A 4) j ((A 4 j) + 8))) j).2) = 0
      · rw [if_pos c73]
        exact ((t1_M_flag (f_M_goesOff (setA (setA A 0 (upd (A 0) x.toNatClampNeg ((A 0 x.toNatClampNeg) + 1))) 4 (upd (A 4) j ((A 4 j) + 8))) j).1 j hj y ((f_M_isPassive (f_M_goesOff (setA (setA A 0 (upd (A 0) x.toNatClampNeg ((A 0 x.toNatClampNeg) + 1))) 4 (upd (A 4) j ((A 4 j) + 8))) j).1 j))).trans ((t1_M_goesOff (setA (setA A 0 (upd (A 0) x.toNatClampNeg ((A 0 x.toNatClampNeg) + 1))) 4 (upd (A 4) j ((A 4 j) + 8))) j hj).trans (t1_u (B := A) rfl hx1 rfl)))
      · rw [if_neg c73]
        exact ((t1_M_goesOff (setA (setA A 0 (upd (A 0) x.toNatClampNeg ((A 0 x.toNatClampNeg) + 1))) 4 (upd (A 4) j ((A 4 j) + 8))) j hj).trans (t1_u (B := A) rfl hx1 rfl))
  · rw [if_neg c46]
    by_cases c56 : ((f_M_goesOff (setA (setA A 0 (upd (A 0) x.toNatClampNeg ((A 0 x.toNatClampNeg) + 1))) 5 (upd (A 5) j ((A 5 j) + 1))) j).2) = 0
    · rw [if_pos c56]
      exact ((t1_M_flag (f_M_goesOff (setA (setA A 0 (upd (A 0) x.toNatClampNeg ((A 0 x.toNatClampNeg) + 1))) 5 (upd (A 5) j ((A 5 j) + 1))) j).1 j hj y ((f_M_isPassive (f_M_goesOff (setA (setA A 0 (upd (A 0) x.toNatClampNeg ((A 0 x.toNatClampNeg) + 1))) 5 (upd (A 5) j ((A 5 j) + 1))) j).1 j))).trans ((t1_M_goesOff (setA (setA A 0 (upd (A 0) x.toNatClampNeg ((A 0 x.toNatClampNeg) + 1))) 5 (upd (A 5) j ((A 5 j) + 1))) j hj).trans (t1_u (B := A) rfl hx1 rfl)))
    · rw [if_neg c56]
      exact ((t1_M_goesOff (setA (setA A 0 (upd (A 0) x.toNatClampNeg ((A 0 x.toNatClampNeg) + 1))) 5 (upd (A 5) j ((A 5 j) + 1))) j hj).trans (t1_u (B := A) rfl hx1 rfl))
set_option maxHeartbeats 4000000 in
set_option maxRecDepth 100000 in
theorem t1_M_readCore_332 (A : Nat → Nat → Int32) (j : Nat) (hj : j < 4) : (f_M_readCore_332 A j).1 0 1 = A 0 1 := by
  unfold f_M_readCore_332
  by_cases c64 : (A 17 j) = ((f_M_coreLength A j))
  · rw [if_pos c64]
    by_cases c70 : 5 ≤ (A 18 j)
    · rw [if_pos c70]
      all_goals rfl
    · rw [if_neg c70]
      all_goals rfl
  · rw [if_neg c64]
    all_goals rfl
set_option maxHeartbeats 4000000 in
set_option maxRecDepth 100000 in
theorem i1_M_readCore_332 (A : Nat → Nat → Int32) (j : Nat) (hj : j < 4) : 1 ≠ (f_M_readCore_332 A j).2.toNatClampNeg := by
  unfold f_M_readCore_332
  by_cases c64 : (A 17 j) = ((f_M_coreLength A j))
  · rw [if_pos c64]
    by_cases c70 : 5 ≤ (A 18 j)
    · rw [if_pos c70]
      exact (show 1 ≠ (0 : Int32).toNatClampNeg by decide)
    · rw [if_neg c70]
      exact (show 1 ≠ (0 : Int32).toNatClampNeg by decide)
  · rw [if_neg c64]
    exact (show 1 ≠ (0 : Int32).toNatClampNeg by decide)
set_option maxHeartbeats 4000000 in
set_option maxRecDepth 100000 in
theorem t1_M_readCore_314 (A : Nat → Nat → Int32) (j : Nat) (hj : j < 4) (v3 : Int32) : (f_M_readCore_314 A j v3).1 0 1 = A 0 1 := by
  unfold f_M_readCore_314
  by_cases c61 : v3 = 18
  · rw [if_pos c61]
    by_cases c63 : (A 22 j) ≤ 2
    · rw [if_pos c63]
      exact (t1_M_readCore_332 A j hj).trans rfl
    · rw [if_neg c63]
      all_goals rfl
  · rw [if_neg c61]
    exact (t1_M_readCore_332 A j hj).trans rfl
set_option maxHeartbeats 4000000 in
set_option maxRecDepth 100000 in
theorem i1_M_readCore_314 (A : Nat → Nat → Int32) (j : Nat) (hj : j < 4) (v3 : Int32) : 1 ≠ (f_M_readCore_314 A j v3).2.toNatClampNeg := by
  unfold f_M_readCore_314
  by_cases c61 : v3 = 18
  · rw [if_pos c61]
    by_cases c63 : (A 22 j) ≤ 2
    · rw [if_pos c63]
      exact i1_M_readCore_332 A j hj
    · rw [if_neg c63]
      exact (show 1 ≠ (4 : Int32).toNatClampNeg by decide)
  · rw [if_neg c61]
    exact i1_M_readCore_332 A j hj
set_option maxHeartbeats 4000000 in
set_option maxRecDepth 100000 in
theorem t1_M_readCore_287 (A : Nat → Nat → Int32) (j : Nat) (hj : j < 4) (v2 v3 : Int32) : (f_M_readCore_287 A j v2 v3).1 0 1 = A 0 1 := by
  unfold f_M_readCore_287
  by_cases c66 : v3 ≤ 11
  · rw [if_pos c66]
    exact (t1_M_readCore_314 (setA A 17 (upd (A 17) j ((A 17 j) + 1))) j hj v3).trans rfl
  · rw [if_neg c66]
    by_cases c67 : 15 ≤ v3
    · rw [if_pos c67]
      exact (t1_M_readCore_314 (setA A 17 (upd (A 17) j ((A 17 j) + 1))) j hj v3).trans rfl
    · rw [if_neg c67]
      by_cases c68 : v2 = 1
      · rw [if_pos c68]
        all_goals rfl
      · rw [if_neg c68]
        exact (t1_M_readCore_314 (setA A 17 (upd (A 17) j ((A 17 j) + 1))) j hj v3).trans rfl
set_option maxHeartbeats 4000000 in
set_option maxRecDepth 100000 in
theorem i1_M_readCore_287 (A : Nat → Nat → Int32) (j : Nat) (hj : j < 4) (v2 v3 : Int32) : 1 ≠ (f_M_readCore_287 A j v2 v3).2.toNatClampNeg := by
  unfold f_M_readCore_287
  by_cases c66 : v3 ≤ 11
  · rw [if_pos c66]
    exact i1_M_readCore_314 (setA A 17 (upd (A 17) j ((A 17 j) + 1))) j hj v3
  · rw [if_neg c66]
    by_cases c67 : 15 ≤ v3
    · rw [if_pos c67]
      exact i1_M_readCore_314 (setA A 17 (upd (A 17) j ((A 17 j) + 1))) j hj v3
    · rw [if_neg c67]
      by_cases c68 : v2 = 1
      · rw [if_pos c68]
        exact (show 1 ≠ (4 : Int32).toNatClampNeg by decide)
      · rw [if_neg c68]
        exact i1_M_readCore_314 (setA A 17 (upd (A 17) j ((A 17 j) + 1))) j hj v3
set_option maxHeartbeats 4000000 in
set_option maxRecDepth 100000 in
theorem t1_M_readCore_167 (A : Nat → Nat → Int32) (j : Nat) (hj : j < 4) (v2 v3 : Int32) : (f_M_readCore_167 A j v2 v3).1 0 1 = A 0 1 := by
  unfold f_M_readCore_167
  by_cases c61 : v3 ≤ 0
  · rw [if_pos c61]
    by_cases c62 : v3 ≤ 14
    · rw [if_pos c62]
      by_cases c63 : v3 ≤ 18
      · rw [if_pos c63]
        exact (t1_M_readCore_287 A j hj v2 v3).trans rfl
      · rw [if_neg c63]
        by_cases c65 : (19 + (8 * (A 22 j))) ≤ v3
        · rw [if_pos c65]
          exact (t1_M_readCore_287 A j hj v2 v3).trans rfl
        · rw [if_neg c65]
          exact (t1_M_readCore_287 (setA A 23 (upd (A 23) j ((A 23 j) ||| (v2 <<< ((((8 * ((v3 - 19) / 8)) + 7) - ((v3 - 19) - (v3 - 19) / 8 * 8)) &&& 31))))) j hj v2 v3).trans rfl
    · rw [if_neg c62]
      by_cases c71 : 19 ≤ v3
      · rw [if_pos c71]
        by_cases c72 : v3 ≤ 18
        · rw [if_pos c72]
          exact (t1_M_readCore_287 A j hj v2 v3).trans rfl
        · rw [if_neg c72]
          by_cases c74 : (19 + (8 * (A 22 j))) ≤ v3
          · rw [if_pos c74]
            exact (t1_M_readCore_287 A j hj v2 v3).trans rfl
          · rw [if_neg c74]
            exact (t1_M_readCore_287 (setA A 23 (upd (A 23) j ((A 23 j) ||| (v2 <<< ((((8 * ((v3 - 19) / 8)) + 7) - ((v3 - 19) - (v3 - 19) / 8 * 8)) &&& 31))))) j hj v2 v3).trans rfl
      · rw [if_neg c71]
        exact (t1_M_readCore_287 (setA A 22 (upd (A 22) j ((2 * (A 22 j)) + v2))) j hj v2 v3).trans rfl
  · rw [if_neg c61]
    by_cases c85 : 12 ≤ v3
    · rw [if_pos c85]
      by_cases c86 : v3 ≤ 14
      · rw [if_pos c86]
        by_cases c87 : v3 ≤ 18
        · rw [if_pos c87]
          exact (t1_M_readCore_287 A j hj v2 v3).trans rfl
        · rw [if_neg c87]
          by_cases c89 : (19 + (8 * (A 22 j))) ≤ v3
          · rw [if_pos c89]
            exact (t1_M_readCore_287 A j hj v2 v3).trans rfl
          · rw [if_neg c89]
            exact (t1_M_readCore_287 (setA A 23 (upd (A 23) j ((A 23 j) ||| (v2 <<< ((((8 * ((v3 - 19) / 8)) + 7) - ((v3 - 19) - (v3 - 19) / 8 * 8)) &&& 31))))) j hj v2 v3).trans rfl
      · rw [if_neg c86]
        by_cases c95 : 19 ≤ v3
        · rw [if_pos c95]
          by_cases c96 : v3 ≤ 18
          · rw [if_pos c96]
            exact (t1_M_readCore_287 A j hj v2 v3).trans rfl
          · rw [if_neg c96]
            by_cases c98 : (19 + (8 * (A 22 j))) ≤ v3
            · rw [if_pos c98]
              exact (t1_M_readCore_287 A j hj v2 v3).trans rfl
            · rw [if_neg c98]
              exact (t1_M_readCore_287 (setA A 23 (upd (A 23) j ((A 23 j) ||| (v2 <<< ((((8 * ((v3 - 19) / 8)) + 7) - ((v3 - 19) - (v3 - 19) / 8 * 8)) &&& 31))))) j hj v2 v3).trans rfl
        · rw [if_neg c95]
          exact (t1_M_readCore_287 (setA A 22 (upd (A 22) j ((2 * (A 22 j)) + v2))) j hj v2 v3).trans rfl
    · rw [if_neg c85]
      exact (t1_M_readCore_287 (setA A 21 (upd (A 21) j ((2 * (A 21 j)) + v2))) j hj v2 v3).trans rfl
set_option maxHeartbeats 4000000 in
set_option maxRecDepth 100000 in
theorem i1_M_readCore_167 (A : Nat → Nat → Int32) (j : Nat) (hj : j < 4) (v2 v3 : Int32) : 1 ≠ (f_M_readCore_167 A j v2 v3).2.toNatClampNeg := by
  unfold f_M_readCore_167
  by_cases c61 : v3 ≤ 0
  · rw [if_pos c61]
    by_cases c62 : v3 ≤ 14
    · rw [if_pos c62]
      by_cases c63 : v3 ≤ 18
      · rw [if_pos c63]
        exact i1_M_readCore_287 A j hj v2 v3
      · rw [if_neg c63]
        by_cases c65 : (19 + (8 * (A 22 j))) ≤ v3
        · rw [if_pos c65]
          exact i1_M_readCore_287 A j hj v2 v3
        · rw [if_neg c65]
          exact i1_M_readCore_287 (setA A 23 (upd (A 23) j ((A 23 j) ||| (v2 <<< ((((8 * ((v3 - 19) / 8)) + 7) - ((v3 - 19) - (v3 - 19) / 8 * 8)) &&& 31))))) j hj v2 v3
    · rw [if_neg c62]
      by_cases c71 : 19 ≤ v3
      · rw [if_pos c71]
        by_cases c72 : v3 ≤ 18
        · rw [if_pos c72]
          exact i1_M_readCore_287 A j hj v2 v3
        · rw [if_neg c72]
          by_cases c74 : (19 + (8 * (A 22 j))) ≤ v3
          · rw [if_pos c74]
            exact i1_M_readCore_287 A j hj v2 v3
          · rw [if_neg c74]
            exact i1_M_readCore_287 (setA A 23 (upd (A 23) j ((A 23 j) ||| (v2 <<< ((((8 * ((v3 - 19) / 8)) + 7) - ((v3 - 19) - (v3 - 19) / 8 * 8)) &&& 31))))) j hj v2 v3
      · rw [if_neg c71]
        exact i1_M_readCore_287 (setA A 22 (upd (A 22) j ((2 * (A 22 j)) + v2))) j hj v2 v3
  · rw [if_neg c61]
    by_cases c85 : 12 ≤ v3
    · rw [if_pos c85]
      by_cases c86 : v3 ≤ 14
      · rw [if_pos c86]
        by_cases c87 : v3 ≤ 18
        · rw [if_pos c87]
          exact i1_M_readCore_287 A j hj v2 v3
        · rw [if_neg c87]
          by_cases c89 : (19 + (8 * (A 22 j))) ≤ v3
          · rw [if_pos c89]
            exact i1_M_readCore_287 A j hj v2 v3
          · rw [if_neg c89]
            exact i1_M_readCore_287 (setA A 23 (upd (A 23) j ((A 23 j) ||| (v2 <<< ((((8 * ((v3 - 19) / 8)) + 7) - ((v3 - 19) - (v3 - 19) / 8 * 8)) &&& 31))))) j hj v2 v3
      · rw [if_neg c86]
        by_cases c95 : 19 ≤ v3
        · rw [if_pos c95]
          by_cases c96 : v3 ≤ 18
          · rw [if_pos c96]
            exact i1_M_readCore_287 A j hj v2 v3
          · rw [if_neg c96]
            by_cases c98 : (19 + (8 * (A 22 j))) ≤ v3
            · rw [if_pos c98]
              exact i1_M_readCore_287 A j hj v2 v3
            · rw [if_neg c98]
              exact i1_M_readCore_287 (setA A 23 (upd (A 23) j ((A 23 j) ||| (v2 <<< ((((8 * ((v3 - 19) / 8)) + 7) - ((v3 - 19) - (v3 - 19) / 8 * 8)) &&& 31))))) j hj v2 v3
        · rw [if_neg c95]
          exact i1_M_readCore_287 (setA A 22 (upd (A 22) j ((2 * (A 22 j)) + v2))) j hj v2 v3
    · rw [if_neg c85]
      exact i1_M_readCore_287 (setA A 21 (upd (A 21) j ((2 * (A 21 j)) + v2))) j hj v2 v3
set_option maxHeartbeats 4000000 in
set_option maxRecDepth 100000 in
theorem t1_M_readCore_114 (A : Nat → Nat → Int32) (j : Nat) (hj : j < 4) (v2 v3 : Int32) : (f_M_readCore_114 A j v2 v3).1 0 1 = A 0 1 := by
  unfold f_M_readCore_114
  by_cases c67 : v2 = (((A 20 j) >>> (14 &&& 31)) &&& 1)
  · rw [if_pos c67]
    exact (t1_M_readCore_167 (setA (setA A 19 (upd (A 19) j v2)) 20 (upd (A 20) j (((A 20 j) <<< (1 &&& 31)) &&& 32767))) j hj v2 v3).trans rfl
  · rw [if_neg c67]
    exact (t1_M_readCore_167 (setA (setA A 19 (upd (A 19) j v2)) 20 (upd (A 20) j ((((A 20 j) <<< (1 &&& 31)) &&& 32767) ^^^ 17817))) j hj v2 v3).trans rfl
set_option maxHeartbeats 4000000 in
set_option maxRecDepth 100000 in
theorem i1_M_readCore_114 (A : Nat → Nat → Int32) (j : Nat) (hj : j < 4) (v2 v3 : Int32) : 1 ≠ (f_M_readCore_114 A j v2 v3).2.toNatClampNeg := by
  unfold f_M_readCore_114
  by_cases c67 : v2 = (((A 20 j) >>> (14 &&& 31)) &&& 1)
  · rw [if_pos c67]
    exact i1_M_readCore_167 (setA (setA A 19 (upd (A 19) j v2)) 20 (upd (A 20) j (((A 20 j) <<< (1 &&& 31)) &&& 32767))) j hj v2 v3
  · rw [if_neg c67]
    exact i1_M_readCore_167 (setA (setA A 19 (upd (A 19) j v2)) 20 (upd (A 20) j ((((A 20 j) <<< (1 &&& 31)) &&& 32767) ^^^ 17817))) j hj v2 v3
set_option maxHeartbeats 4000000 in
set_option maxRecDepth 100000 in
theorem t1_M_readCore (A : Nat → Nat → Int32) (j : Nat) (hj : j < 4) (x : Int32) : (f_M_readCore A j x).1 0 1 = A 0 1 := by
  unfold f_M_readCore
  by_cases c42 : (A 18 j) = 5
  · rw [if_pos c42]
    by_cases c61 : x = (A 19 j)
    · rw [if_pos c61]
      by_cases c93 : (A 17 j) = ((f_M_coreLength (setA (setA A 19 (upd (A 19) j x)) 18 (upd (A 18) j 1)) j))
      · rw [if_pos c93]
        all_goals rfl
      · rw [if_neg c93]
        all_goals rfl
    · rw [if_neg c61]
      by_cases c73 : (A 17 j) = ((f_M_coreLength (setA (setA A 19 (upd (A 19) j x)) 18 (upd (A 18) j 1)) j))
      · rw [if_pos c73]
        all_goals rfl
      · rw [if_neg c73]
        all_goals rfl
  · rw [if_neg c42]
    by_cases c44 : (A 17 j) ≤ 0
    · rw [if_pos c44]
      exact (t1_M_readCore_114 (setA A 18 (upd (A 18) j 1)) j hj x (A 17 j)).trans rfl
    · rw [if_neg c44]
      by_cases c50 : x = (A 19 j)
      · rw [if_pos c50]
        exact (t1_M_readCore_114 (setA A 18 (upd (A 18) j ((A 18 j) + 1))) j hj x (A 17 j)).trans rfl
      · rw [if_neg c50]
        exact (t1_M_readCore_114 (setA A 18 (upd (A 18) j 1)) j hj x (A 17 j)).trans rfl
set_option maxHeartbeats 4000000 in
set_option maxRecDepth 100000 in
theorem i1_M_readCore (A : Nat → Nat → Int32) (j : Nat) (hj : j < 4) (x : Int32) : 1 ≠ (f_M_readCore A j x).2.toNatClampNeg := by
  unfold f_M_readCore
  by_cases c42 : (A 18 j) = 5
  · rw [if_pos c42]
    by_cases c61 : x = (A 19 j)
    · rw [if_pos c61]
      by_cases c93 : (A 17 j) = ((f_M_coreLength (setA (setA A 19 (upd (A 19) j x)) 18 (upd (A 18) j 1)) j))
      · rw [if_pos c93]
        exact (show 1 ≠ (3 : Int32).toNatClampNeg by decide)
      · rw [if_neg c93]
        exact (show 1 ≠ (3 : Int32).toNatClampNeg by decide)
    · rw [if_neg c61]
      by_cases c73 : (A 17 j) = ((f_M_coreLength (setA (setA A 19 (upd (A 19) j x)) 18 (upd (A 18) j 1)) j))
      · rw [if_pos c73]
        exact (show 1 ≠ (0 : Int32).toNatClampNeg by decide)
      · rw [if_neg c73]
        exact (show 1 ≠ (0 : Int32).toNatClampNeg by decide)
  · rw [if_neg c42]
    by_cases c44 : (A 17 j) ≤ 0
    · rw [if_pos c44]
      exact i1_M_readCore_114 (setA A 18 (upd (A 18) j 1)) j hj x (A 17 j)
    · rw [if_neg c44]
      by_cases c50 : x = (A 19 j)
      · rw [if_pos c50]
        exact i1_M_readCore_114 (setA A 18 (upd (A 18) j ((A 18 j) + 1))) j hj x (A 17 j)
      · rw [if_neg c50]
        exact i1_M_readCore_114 (setA A 18 (upd (A 18) j 1)) j hj x (A 17 j)
set_option maxHeartbeats 4000000 in
set_option maxRecDepth 100000 in
theorem t1_M_goAfter (A : Nat → Nat → Int32) (j : Nat) (hj : j < 4) (x : Int32) : (f_M_goAfter A j x) 0 1 = A 0 1 := by
  unfold f_M_goAfter
  by_cases c41 : x = 1
  · rw [if_pos c41]
    by_cases c104 : ((A 27 j) + 1) = 8
    · rw [if_pos c104]
      exact ((t1_M_rest (setA A 27 (upd (A 27) j ((A 27 j) + 1))) j hj).trans rfl)
    · rw [if_neg c104]
      all_goals rfl
  · rw [if_neg c41]
    by_cases c43 : (A 27 j) ≤ 0
    · rw [if_pos c43]
      by_cases c51 : ((A 26 j) + 1) = 1
      · rw [if_pos c51]
        by_cases c64 : (A 24 j) = 2
        · rw [if_pos c64]
          by_cases c81 : (((A 26 j) + 1) - ((A 26 j) + 1) / 8 * 8) = 0
          · rw [if_pos c81]
            by_cases c86 : ((f_M_eightMore (setA (setA A 26 (upd (A 26) j ((A 26 j) + 1))) 5 (upd (A 5) j ((A 5 j) + 8))) j).2) = 0
            · rw [if_pos c86]
              exact ((t1_M_eightMore (setA (setA A 26 (upd (A 26) j ((A 26 j) + 1))) 5 (upd (A 5) j ((A 5 j) + 8))) j hj).trans rfl)
            · rw [if_neg c86]
              exact ((t1_M_eightMore (setA (setA A 26 (upd (A 26) j ((A 26 j) + 1))) 5 (upd (A 5) j ((A 5 j) + 8))) j hj).trans rfl)
          · rw [if_neg c81]
            all_goals rfl
        · rw [if_neg c64]
          by_cases c70 : (((A 26 j) + 1) - ((A 26 j) + 1) / 8 * 8) = 0
          · rw [if_pos c70]
            by_cases c75 : ((f_M_eightMore (setA (setA A 26 (upd (A 26) j ((A 26 j) + 1))) 5 (upd (A 5) j ((A 5 j) + 0))) j).2) = 0
            · rw [if_pos c75]
              exact ((t1_M_eightMore (setA (setA A 26 (upd (A 26) j ((A 26 j) + 1))) 5 (upd (A 5) j ((A 5 j) + 0))) j hj).trans rfl)
            · rw [if_neg c75]
              exact ((t1_M_eightMore (setA (setA A 26 (upd (A 26) j ((A 26 j) + 1))) 5 (upd (A 5) j ((A 5 j) + 0))) j hj).trans rfl)
          · rw [if_neg c70]
            all_goals rfl
      · rw [if_neg c51]
        by_cases c57 : (((A 26 j) + 1) - ((A 26 j) + 1) / 8 * 8) = 0
        · rw [if_pos c57]
          by_cases c62 : ((f_M_eightMore (setA (setA A 26 (upd (A 26) j ((A 26 j) + 1))) 5 (upd (A 5) j ((A 5 j) + 0))) j).2) = 0
          · rw [if_pos c62]
            exact ((t1_M_eightMore (setA (setA A 26 (upd (A 26) j ((A 26 j) + 1))) 5 (upd (A 5) j ((A 5 j) + 0))) j hj).trans rfl)
          · rw [if_neg c62]
            exact ((t1_M_eightMore (setA (setA A 26 (upd (A 26) j ((A 26 j) + 1))) 5 (upd (A 5) j ((A 5 j) + 0))) j hj).trans rfl)
        · rw [if_neg c57]
          all_goals rfl
    · rw [if_neg c43]
      by_cases c88 : (A 24 j) = 0
      · rw [if_pos c88]
        exact ((t1_M_overload A j hj).trans rfl)
      · rw [if_neg c88]
        exact ((t1_M_err A j hj 4 (A 24 j) (by decide)).trans rfl)
set_option maxHeartbeats 4000000 in
set_option maxRecDepth 100000 in
theorem t1_M_heardFrame (A : Nat → Nat → Int32) (j : Nat) (hj : j < 4) (x : Int32) : (f_M_heardFrame A j x) 0 1 = A 0 1 := by
  unfold f_M_heardFrame
  by_cases c42 : (A 5 j) ≤ 127
  · rw [if_pos c42]
    by_cases c44 : (A 5 j) ≤ 0
    · rw [if_pos c44]
      by_cases c52 : ((A 21 j) &&& (A 6 j)) = (A 7 j)
      · rw [if_pos c52]
        by_cases c63 : (A 14 j) = 4
        · rw [if_pos c63]
          by_cases c91 : x = 0
          · rw [if_pos c91]
            exact ((t1_M_overload (setA (setA A 5 (upd (A 5) j 0)) 8 (upd (A 8) j ((A 8 j) + 1))) j hj).trans rfl)
          · rw [if_neg c91]
            exact ((t1_M_rest (setA (setA A 5 (upd (A 5) j 0)) 8 (upd (A 8) j ((A 8 j) + 1))) j hj).trans rfl)
        · rw [if_neg c63]
          by_cases c77 : x = 0
          · rw [if_pos c77]
            exact ((t1_M_overload (setA (setA (setA A 5 (upd (A 5) j 0)) 15 (upd (A 15) ((4 * (nI j)) + (A 14 j)).toNatClampNeg (((A 21 j) + (2048 * (A 22 j))) + (8192 * (A 23 j))))) 14 (upd (A 14) j ((A 14 j) + 1))) j hj).trans rfl)
          · rw [if_neg c77]
            exact ((t1_M_rest (setA (setA (setA A 5 (upd (A 5) j 0)) 15 (upd (A 15) ((4 * (nI j)) + (A 14 j)).toNatClampNeg (((A 21 j) + (2048 * (A 22 j))) + (8192 * (A 23 j))))) 14 (upd (A 14) j ((A 14 j) + 1))) j hj).trans rfl)
      · rw [if_neg c52]
        by_cases c53 : x = 0
        · rw [if_pos c53]
          exact ((t1_M_overload (setA A 5 (upd (A 5) j 0)) j hj).trans rfl)
        · rw [if_neg c53]
          exact ((t1_M_rest (setA A 5 (upd (A 5) j 0)) j hj).trans rfl)
    · rw [if_neg c44]
      by_cases c108 : ((A 21 j) &&& (A 6 j)) = (A 7 j)
      · rw [if_pos c108]
        by_cases c119 : (A 14 j) = 4
        · rw [if_pos c119]
          by_cases c147 : x = 0
          · rw [if_pos c147]
            exact ((t1_M_overload (setA (setA A 5 (upd (A 5) j ((A 5 j) - 1))) 8 (upd (A 8) j ((A 8 j) + 1))) j hj).trans rfl)
          · rw [if_neg c147]
            exact ((t1_M_rest (setA (setA A 5 (upd (A 5) j ((A 5 j) - 1))) 8 (upd (A 8) j ((A 8 j) + 1))) j hj).trans rfl)
        · rw [if_neg c119]
          by_cases c133 : x = 0
          · rw [if_pos c133]
            exact ((t1_M_overload (setA (setA (setA A 5 (upd (A 5) j ((A 5 j) - 1))) 15 (upd (A 15) ((4 * (nI j)) + (A 14 j)).toNatClampNeg (((A 21 j) + (2048 * (A 22 j))) + (8192 * (A 23 j))))) 14 (upd (A 14) j ((A 14 j) + 1))) j hj).trans rfl)
          · rw [if_neg c133]
            exact ((t1_M_rest (setA (setA (setA A 5 (upd (A 5) j ((A 5 j) - 1))) 15 (upd (A 15) ((4 * (nI j)) + (A 14 j)).toNatClampNeg (((A 21 j) + (2048 * (A 22 j))) + (8192 * (A 23 j))))) 14 (upd (A 14) j ((A 14 j) + 1))) j hj).trans rfl)
      · rw [if_neg c108]
        by_cases c109 : x = 0
        · rw [if_pos c109]
          exact ((t1_M_overload (setA A 5 (upd (A 5) j ((A 5 j) - 1))) j hj).trans rfl)
        · rw [if_neg c109]
          exact ((t1_M_rest (setA A 5 (upd (A 5) j ((A 5 j) - 1))) j hj).trans rfl)
  · rw [if_neg c42]
    by_cases c163 : ((A 21 j) &&& (A 6 j)) = (A 7 j)
    · rw [if_pos c163]
      by_cases c174 : (A 14 j) = 4
      · rw [if_pos c174]
        by_cases c202 : x = 0
        · rw [if_pos c202]
          exact ((t1_M_overload (setA (setA A 5 (upd (A 5) j 127)) 8 (upd (A 8) j ((A 8 j) + 1))) j hj).trans rfl)
        · rw [if_neg c202]
          exact ((t1_M_rest (setA (setA A 5 (upd (A 5) j 127)) 8 (upd (A 8) j ((A 8 j) + 1))) j hj).trans rfl)
      · rw [if_neg c174]
        by_cases c188 : x = 0
        · rw [if_pos c188]
          exact ((t1_M_overload (setA (setA (setA A 5 (upd (A 5) j 127)) 15 (upd (A 15) ((4 * (nI j)) + (A 14 j)).toNatClampNeg (((A 21 j) + (2048 * (A 22 j))) + (8192 * (A 23 j))))) 14 (upd (A 14) j ((A 14 j) + 1))) j hj).trans rfl)
        · rw [if_neg c188]
          exact ((t1_M_rest (setA (setA (setA A 5 (upd (A 5) j 127)) 15 (upd (A 15) ((4 * (nI j)) + (A 14 j)).toNatClampNeg (((A 21 j) + (2048 * (A 22 j))) + (8192 * (A 23 j))))) 14 (upd (A 14) j ((A 14 j) + 1))) j hj).trans rfl)
    · rw [if_neg c163]
      by_cases c164 : x = 0
      · rw [if_pos c164]
        exact ((t1_M_overload (setA A 5 (upd (A 5) j 127)) j hj).trans rfl)
      · rw [if_neg c164]
        exact ((t1_M_rest (setA A 5 (upd (A 5) j 127)) j hj).trans rfl)
set_option maxHeartbeats 4000000 in
set_option maxRecDepth 100000 in
theorem t1_M_hear (A : Nat → Nat → Int32) (j : Nat) (hj : j < 4) (x : Int32) : (f_M_hear A j x) 0 1 = A 0 1 := by
  unfold f_M_hear
  by_cases c42 : (A 16 j) = 0
  · rw [if_pos c42]
    by_cases c173 : ((f_M_readCore A j x).2) ≤ 0
    · rw [if_pos c173]
      by_cases c174 : (A 16 j) = 10
      · rw [if_pos c174]
        exact ((t1_M_heardFrame (f_M_readCore A j x).1 j hj x).trans ((t1_M_readCore A j hj x).trans rfl))
      · rw [if_neg c174]
        exact ((t1_M_readCore A j hj x).trans rfl)
    · rw [if_neg c173]
      exact ((t1_M_err (f_M_readCore A j x).1 j hj ((f_M_readCore A j x).2) 2 (i1_M_readCore A j hj x)).trans ((t1_M_readCore A j hj x).trans rfl))
  · rw [if_neg c42]
    by_cases c43 : (A 16 j) = 3
    · rw [if_pos c43]
      by_cases c87 : (A 20 j) = 0
      · rw [if_pos c87]
        by_cases c88 : x = 0
        · rw [if_pos c88]
          by_cases c99 : (A 16 j) = 2
          · rw [if_pos c99]
            by_cases c105 : (A 16 j) = 10
            · rw [if_pos c105]
              exact ((t1_M_heardFrame (setA A 16 (upd (A 16) j ((A 16 j) + 1))) j hj x).trans rfl)
            · rw [if_neg c105]
              all_goals rfl
          · rw [if_neg c99]
            by_cases c110 : 10 ≤ (A 16 j)
            · rw [if_pos c110]
              by_cases c116 : (A 16 j) = 10
              · rw [if_pos c116]
                exact ((t1_M_heardFrame (setA A 16 (upd (A 16) j ((A 16 j) + 1))) j hj x).trans rfl)
              · rw [if_neg c116]
                all_goals rfl
            · rw [if_neg c110]
              exact ((t1_M_err (setA A 16 (upd (A 16) j ((A 16 j) + 1))) j hj 4 2 (by decide)).trans rfl)
        · rw [if_neg c88]
          by_cases c94 : (A 16 j) = 10
          · rw [if_pos c94]
            exact ((t1_M_heardFrame (setA A 16 (upd (A 16) j ((A 16 j) + 1))) j hj x).trans rfl)
          · rw [if_neg c94]
            all_goals rfl
      · rw [if_neg c87]
        by_cases c130 : x = 0
        · rw [if_pos c130]
          by_cases c140 : (A 16 j) = 2
          · rw [if_pos c140]
            exact ((t1_M_err (setA A 16 (upd (A 16) j ((A 16 j) + 1))) j hj 5 2 (by decide)).trans rfl)
          · rw [if_neg c140]
            by_cases c150 : 10 ≤ (A 16 j)
            · rw [if_pos c150]
              exact ((t1_M_err (setA A 16 (upd (A 16) j ((A 16 j) + 1))) j hj 5 2 (by decide)).trans rfl)
            · rw [if_neg c150]
              exact ((t1_M_err (setA A 16 (upd (A 16) j ((A 16 j) + 1))) j hj 5 2 (by decide)).trans rfl)
        · rw [if_neg c130]
          exact ((t1_M_err (setA A 16 (upd (A 16) j ((A 16 j) + 1))) j hj 5 2 (by decide)).trans rfl)
    · rw [if_neg c43]
      by_cases c44 : x = 0
      · rw [if_pos c44]
        by_cases c55 : (A 16 j) = 2
        · rw [if_pos c55]
          by_cases c61 : (A 16 j) = 10
          · rw [if_pos c61]
            exact ((t1_M_heardFrame (setA A 16 (upd (A 16) j ((A 16 j) + 1))) j hj x).trans rfl)
          · rw [if_neg c61]
            all_goals rfl
        · rw [if_neg c55]
          by_cases c66 : 10 ≤ (A 16 j)
          · rw [if_pos c66]
            by_cases c72 : (A 16 j) = 10
            · rw [if_pos c72]
              exact ((t1_M_heardFrame (setA A 16 (upd (A 16) j ((A 16 j) + 1))) j hj x).trans rfl)
            · rw [if_neg c72]
              all_goals rfl
          · rw [if_neg c66]
            exact ((t1_M_err (setA A 16 (upd (A 16) j ((A 16 j) + 1))) j hj 4 2 (by decide)).trans rfl)
      · rw [if_neg c44]
        by_cases c50 : (A 16 j) = 10
        · rw [if_pos c50]
          exact ((t1_M_heardFrame (setA A 16 (upd (A 16) j ((A 16 j) + 1))) j hj x).trans rfl)
        · rw [if_neg c50]
          all_goals rfl
set_option maxHeartbeats 4000000 in
set_option maxRecDepth 100000 in
theorem t1_M_start (A : Nat → Nat → Int32) (j : Nat) (hj : j < 4) : (f_M_start A j) 0 1 = A 0 1 := by
  exact ((t1_M_hear (f_M_open A j 2) j hj 0).trans ((t1_M_open A j hj 2).trans rfl))
set_option maxHeartbeats 4000000 in
set_option maxRecDepth 100000 in
theorem t1_M_pausing (A : Nat → Nat → Int32) (j : Nat) (hj : j < 4) (x : Int32) : (f_M_pausing A j x) 0 1 = A 0 1 := by
  unfold f_M_pausing
  by_cases c46 : x = 0
  · rw [if_pos c46]
    by_cases c79 : 3 ≤ ((A 26 j) + 1)
    · rw [if_pos c79]
      exact ((t1_M_start (setA A 26 (upd (A 26) j ((A 26 j) + 1))) j hj).trans rfl)
    · rw [if_neg c79]
      exact ((t1_M_overload (setA A 26 (upd (A 26) j ((A 26 j) + 1))) j hj).trans rfl)
  · rw [if_neg c46]
    by_cases c48 : ((A 26 j) + 1) = 3
    · rw [if_pos c48]
      by_cases c51 : ((f_M_isPassive (setA A 26 (upd (A 26) j ((A 26 j) + 1))) j)) = 0
      · rw [if_pos c51]
        all_goals rfl
      · rw [if_neg c51]
        by_cases c61 : (A 28 j) = 1
        · rw [if_pos c61]
          all_goals rfl
        · rw [if_neg c61]
          all_goals rfl
    · rw [if_neg c48]
      all_goals rfl
