/-! The states but sending and hearing, side by side. -/
theorem s_heavy2 {t : Nat} {z : sNd} {y : sM} (h : RC t z y) (ha : y.r24 = z.was) : (∃ se he a b : Int32, (g_M_eightMore y).2 = 0 ∧ f_No_countHeavily z = sNd.mk z.st z.was se he z.lo z.ma z.va z.sp z.dr z.pf z.ss z.on z.ro z.w z.i z.d z.k z.r ∧ (g_M_eightMore y).1 = (y.s4 a).s5 b ∧ RC (t + 1) (sNd.mk z.st z.was se he z.lo z.ma z.va z.sp z.dr z.pf z.ss z.on z.ro z.w z.i z.d z.k z.r) ((y.s4 a).s5 b)) ∨ (¬ (g_M_eightMore y).2 = 0 ∧ RS (t + 1) (f_No_countHeavily z) (g_M_eightMore y).1) := by
  obtain ⟨h1, h2⟩ := s_heavy h ha
  by_cases c : (g_M_eightMore y).2 = 0
  · obtain ⟨a1, a2, a3⟩ := h1 z trivial c
    refine Or.inl ⟨_, _, _, _, c, a2, a3, ?_⟩
    rw [← a2, ← a3]
    exact a1
  · exact Or.inr ⟨c, h2 c⟩
theorem nI6 {q : Nat} (h : q ≤ 4) : nI q + 1 < 6 ∧ ¬ nI q + 1 = 6 := by
  rw [nI_1]
  exact ⟨nI_lt (b := 6) (by omega) (by decide), fun h9 => absurd ((nI_eq (a := q + 1) (b := 6) (by omega) (by decide)).mp h9) (by omega)⟩
theorem s_flag {t : Nat} {z : sNd} {y : sM} {x : Int32} (h : RC t z y) (hst : z.st = 3) (h3 : z.st = y.r3) (hm : RF z y) (hd : z.dr = y.r29) : RS (t + 1) (f_No_seeInFlag z x).1 (g_M_flagging y x) := by
  obtain ⟨f1, f2, f3, q, hq, e1, e2⟩ := hm
  by_cases c5 : q ≤ 4
  · obtain ⟨l6, n6⟩ := nI6 c5
    unfold f_No_seeInFlag g_M_flagging
    rw [e1, e2, if_pos l6, ← hd]
    by_cases c1 : z.dr = 0
    · rw [if_pos c1, if_pos c1]
      by_cases c2 : x = 1
      · rw [if_pos c2, if_pos c2]
        rcases s_heavy2 (z := sNd.mk z.st z.was z.se z.he z.lo z.ma z.va z.sp z.dr z.pf (nI q + 1) z.on z.ro z.w z.i z.d z.k z.r) (y := y) h f1.1 with ⟨se, he, a, b, g1, g2, g3, g4⟩ | ⟨g1, g2⟩
        · rw [if_pos g1, g2, g3]
          have e9 : ((y.s4 a).s5 b).r26 = nI q := e2
          rw [e9, if_neg n6]
          exact ⟨g4, h3, Or.inr (Or.inr (Or.inr (Or.inl ⟨hst, f1, f2, f3, q + 1, by omega, nI_1 q, nI_1 q⟩)))⟩
        · rw [if_neg g1]; exact g2
      · rw [if_neg c2, if_neg c2, if_neg n6]
        exact ⟨RC_t h, h3, Or.inr (Or.inr (Or.inr (Or.inl ⟨hst, f1, f2, f3, q + 1, by omega, nI_1 q, nI_1 q⟩)))⟩
    · rw [if_neg c1, if_neg c1, if_neg n6]
      exact ⟨RC_t h, h3, Or.inr (Or.inr (Or.inr (Or.inl ⟨hst, f1, f2, f3, q + 1, by omega, nI_1 q, nI_1 q⟩)))⟩
  · have hq5 : q = 5 := by omega
    subst hq5
    have l6 : ¬ nI 5 + 1 < 6 := by decide
    have n6 : nI 5 + 1 = 6 := by decide
    unfold f_No_seeInFlag g_M_flagging
    rw [e1, e2, if_neg l6, ← hd]
    by_cases c1 : z.dr = 0
    · rw [if_pos c1, if_pos c1]
      by_cases c2 : x = 1
      · rw [if_pos c2, if_pos c2]
        rcases s_heavy2 (z := sNd.mk 4 z.was z.se z.he z.lo z.ma z.va z.sp z.dr z.pf 0 0 z.ro z.w z.i z.d z.k z.r) (y := y) h f1.1 with ⟨se, he, a, b, g1, g2, g3, g4⟩ | ⟨g1, g2⟩
        · rw [if_pos g1, g2, g3]
          have e9 : ((y.s4 a).s5 b).r26 = nI 5 := e2
          rw [e9, if_pos n6]
          exact ⟨g4, rfl, Or.inr (Or.inr (Or.inr (Or.inr (Or.inl ⟨rfl, f1, rfl, 0, by decide, rfl, rfl⟩))))⟩
        · rw [if_neg g1]; exact g2
      · rw [if_neg c2, if_neg c2, if_pos n6]
        exact ⟨RC_t h, rfl, Or.inr (Or.inr (Or.inr (Or.inr (Or.inl ⟨rfl, f1, rfl, 0, by decide, rfl, rfl⟩))))⟩
    · rw [if_neg c1, if_neg c1, if_pos n6]
      exact ⟨RC_t h, rfl, Or.inr (Or.inr (Or.inr (Or.inr (Or.inl ⟨rfl, f1, rfl, 0, by decide, rfl, rfl⟩))))⟩
theorem nI8 {q : Nat} (h : q ≤ 6) : nI q + 1 < 8 ∧ ¬ nI q + 1 = 8 := by
  rw [nI_1]
  exact ⟨nI_lt (b := 8) (by omega) (by decide), fun h9 => absurd ((nI_eq (a := q + 1) (b := 8) (by omega) (by decide)).mp h9) (by omega)⟩
/-- the row of zeros: with or without eight for the first -/
theorem s_zeros {t : Nat} {z : sNd} {y : sM} (h : RC (t + 1) z y) (hst : z.st = 4) (h3 : z.st = y.r3) (ha : y.r24 = z.was ∧ W3 z.was) (hs : z.ss = y.r26) {q : Nat} (hq : q ≤ 7) (o1 : z.on = nI q) (o2 : y.r27 = nI q) : RS (t + 2) (if (z.ss - z.ss / 8 * 8) = 0 then f_No_countHeavily z else z) (if (y.r26 - y.r26 / 8 * 8) = 0 then (if (g_M_eightMore y).2 = 0 then (g_M_eightMore y).1 else (g_M_eightMore y).1) else y) := by
  rw [hs]
  by_cases c : (y.r26 - y.r26 / 8 * 8) = 0
  · rw [if_pos c, if_pos c]
    rcases s_heavy2 h ha.1 with ⟨se, he, a, b, g1, g2, g3, g4⟩ | ⟨g1, g2⟩
    · rw [if_pos g1, g2, g3]
      exact ⟨g4, h3, Or.inr (Or.inr (Or.inr (Or.inr (Or.inl ⟨hst, ha, hs, q, hq, o1, o2⟩))))⟩
    · rw [if_neg g1]; exact g2
  · rw [if_neg c, if_neg c]
    exact ⟨RC_t h, h3, Or.inr (Or.inr (Or.inr (Or.inr (Or.inl ⟨hst, ha, hs, q, hq, o1, o2⟩))))⟩
theorem s_zeros2 {t : Nat} (z : sNd) (y : sM) (v : Int32) (h : RC (t + 1) z y) (hst : z.st = 4) (h3 : z.st = y.r3) (ha : y.r24 = z.was ∧ W3 z.was) (hs : z.ss = v) (hs2 : y.r26 = v) {q : Nat} (hq : q ≤ 7) (o1 : z.on = nI q) (o2 : y.r27 = nI q) : RS (t + 2) (if (v - v / 8 * 8) = 0 then (f_No_countHeavily z, (0 : Int32)) else (z, 0)).1 (if (v - v / 8 * 8) = 0 then (if (g_M_eightMore y).2 = 0 then (g_M_eightMore y).1 else (g_M_eightMore y).1) else y) := by
  have k9 := s_zeros h hst h3 ha (hs.trans hs2.symm) hq o1 o2
  rw [hs, hs2] at k9
  by_cases c : (v - v / 8 * 8) = 0
  · rw [if_pos c, if_pos c] at k9 ⊢; exact k9
  · rw [if_neg c, if_neg c] at k9 ⊢; exact k9
theorem s_after {t : Nat} {z : sNd} {y : sM} {x : Int32} (h : RC t z y) (hst : z.st = 4) (h3 : z.st = y.r3) (hm : RA z y) : RS (t + 2) (f_No_seeAfter z x).1 (g_M_goAfter y x) := by
  obtain ⟨f1, f2, q, hq, o1, o2⟩ := hm
  unfold f_No_seeAfter g_M_goAfter
  by_cases c1 : x = 1
  · rw [if_pos c1, if_pos c1, o1, o2]
    by_cases c7 : q ≤ 6
    · obtain ⟨l8, n8⟩ := nI8 c7
      rw [if_pos l8, if_neg n8]
      exact ⟨RC_t (RC_t h), h3, Or.inr (Or.inr (Or.inr (Or.inr (Or.inl ⟨hst, f1, f2, q + 1, by omega, nI_1 q, nI_1 q⟩))))⟩
    · have hq7 : q = 7 := by omega
      subst hq7
      rw [if_neg (show ¬ nI 7 + 1 < 8 by decide), if_pos (show nI 7 + 1 = 8 by decide)]
      exact RS_t (RS_t (s_rest h))
  · rw [if_neg c1, if_neg c1, o1, o2]
    by_cases c0 : nI q ≤ 0
    · rw [if_pos c0, if_pos c0, f1.1, f2]
      by_cases c2 : y.r26 + 1 = 1
      · rw [if_pos c2, if_pos c2]
        by_cases c3 : z.was = 2
        · rw [if_pos c3, if_pos c3]
          exact s_zeros2 (sNd.mk z.st z.was z.se (z.he + 8) z.lo z.ma z.va z.sp z.dr z.pf (y.r26 + 1) (nI q) z.ro z.w z.i z.d z.k z.r) ((y.s26 (y.r26 + 1)).s5 (y.r5 + 8)) (y.r26 + 1) (RC_he (y := y.s26 (y.r26 + 1)) h 8 (by decide) 8 rfl _ rfl) hst h3 f1 rfl rfl hq rfl o2
        · rw [if_neg c3, if_neg c3, add0]
          exact s_zeros2 (sNd.mk z.st z.was z.se z.he z.lo z.ma z.va z.sp z.dr z.pf (y.r26 + 1) (nI q) z.ro z.w z.i z.d z.k z.r) ((y.s26 (y.r26 + 1)).s5 y.r5) (y.r26 + 1) (RC_t h) hst h3 f1 rfl rfl hq rfl o2
      · rw [if_neg c2, if_neg c2, add0]
        exact s_zeros2 (sNd.mk z.st z.was z.se z.he z.lo z.ma z.va z.sp z.dr z.pf (y.r26 + 1) (nI q) z.ro z.w z.i z.d z.k z.r) ((y.s26 (y.r26 + 1)).s5 y.r5) (y.r26 + 1) (RC_t h) hst h3 f1 rfl rfl hq rfl o2
    · rw [if_neg c0, if_neg c0, f1.1]
      rcases f1.2 with h0 | h1 | h2
      · rw [if_pos h0, if_pos h0]; exact RS_t (RS_t (s_overload h))
      · rw [if_neg (show ¬ z.was = 0 by rw [h1]; decide), if_neg (show ¬ z.was = 0 by rw [h1]; decide)]
        have k9 := s_err1 (x := 4) h h1
        rw [h1]
        exact RS_t k9
      · rw [if_neg (show ¬ z.was = 0 by rw [h2]; decide), if_neg (show ¬ z.was = 0 by rw [h2]; decide)]
        have k9 := s_err2 (x := 4) h h2 (by decide)
        rw [h2]
        exact RS_t k9
theorem nI3 {q : Nat} (h : q ≤ 1) : nI q + 1 < 3 ∧ ¬ nI q + 1 = 3 ∧ ¬ 3 ≤ nI q + 1 := by
  have : q = 0 ∨ q = 1 := by omega
  rcases this with rfl | rfl <;> decide
theorem s_pause {t : Nat} {z : sNd} {y : sM} {x : Int32} (h : RC t z y) (hst : z.st = 5) (h3 : z.st = y.r3) (hm : RP z y) : RS t (f_No_seeInPause z x).1 (g_M_pausing y x) := by
  obtain ⟨q, hq, e1, e2⟩ := hm
  unfold f_No_seeInPause g_M_pausing
  rw [e1, e2]
  by_cases c1 : x = 0
  · rw [if_pos c1, if_pos c1]
    by_cases c2 : q ≤ 1
    · obtain ⟨l1, l2, l3⟩ := nI3 c2
      rw [if_neg l3, if_neg l3]
      exact s_overload (z := sNd.mk z.st z.was z.se z.he z.lo z.ma z.va z.sp z.dr z.pf (nI q + 1) z.on z.ro z.w z.i z.d z.k z.r) (y := y.s26 (nI q + 1)) h
    · have hq2 : q = 2 := by omega
      subst hq2
      rw [if_pos (show (3 : Int32) ≤ nI 2 + 1 by decide), if_pos (show (3 : Int32) ≤ nI 2 + 1 by decide)]
      exact s_start (z := sNd.mk z.st z.was z.se z.he z.lo z.ma z.va z.sp z.dr z.pf (nI 2 + 1) z.on z.ro z.w z.i z.d z.k z.r) (y := y.s26 (nI 2 + 1)) h
  · rw [if_neg c1, if_neg c1]
    by_cases c2 : q ≤ 1
    · obtain ⟨l1, l2, l3⟩ := nI3 c2
      rw [if_pos l1, if_neg l2]
      exact ⟨h, h3, Or.inr (Or.inr (Or.inr (Or.inr (Or.inr (Or.inl ⟨hst, q + 1, by omega, nI_1 q, nI_1 q⟩)))))⟩
    · have hq2 : q = 2 := by omega
      subst hq2
      rw [if_neg (show ¬ nI 2 + 1 < 3 by decide), if_pos (show nI 2 + 1 = 3 by decide), s_passive (z := sNd.mk z.st z.was z.se z.he z.lo z.ma z.va z.sp z.dr z.pf (nI 2 + 1) z.on z.ro z.w z.i z.d z.k z.r) (y := y.s26 (nI 2 + 1)) h, ← h.1.1]
      by_cases c3 : g_M_isPassive (y.s26 (nI 2 + 1)) = 0
      · rw [if_pos c3, if_pos c3]; exact ⟨h, rfl, Or.inl rfl⟩
      · rw [if_neg c3, if_neg c3]
        by_cases c4 : z.was = 1
        · rw [if_pos c4, if_pos c4]; exact ⟨h, rfl, Or.inr (Or.inr (Or.inr (Or.inr (Or.inr (Or.inr (Or.inl ⟨rfl, 0, by decide, rfl, rfl⟩))))))⟩
        · rw [if_neg c4, if_neg c4]; exact ⟨h, rfl, Or.inl rfl⟩
theorem s_susp {t : Nat} {z : sNd} {y : sM} {x : Int32} (h : RC t z y) (hst : z.st = 6) (h3 : z.st = y.r3) (hm : RU z y) : RS t (f_No_seeSuspended z x).1 (if x = 0 then (g_M_start y) else (if (y.r26 + 1) = 8 then ((y.s26 (y.r26 + 1)).s3 0) else ((y.s26 (y.r26 + 1)).s3 6))) := by
  obtain ⟨q, hq, e1, e2⟩ := hm
  unfold f_No_seeSuspended
  by_cases c1 : x = 0
  · rw [if_pos c1, if_pos c1]; exact s_start h
  · rw [if_neg c1, if_neg c1, e1, e2]
    by_cases c2 : q ≤ 6
    · obtain ⟨l8, n8⟩ := nI8 c2
      rw [if_pos l8, if_neg n8]
      exact ⟨h, hst, Or.inr (Or.inr (Or.inr (Or.inr (Or.inr (Or.inr (Or.inl ⟨hst, q + 1, by omega, nI_1 q, nI_1 q⟩))))))⟩
    · have hq7 : q = 7 := by omega
      subst hq7
      rw [if_neg (show ¬ nI 7 + 1 < 8 by decide), if_pos (show nI 7 + 1 = 8 by decide)]
      exact ⟨h, rfl, Or.inl rfl⟩
theorem nI11 {q : Nat} (h : q ≤ 9) : nI q + 1 < 11 ∧ ¬ nI q + 1 = 11 := by
  rw [nI_1]
  exact ⟨nI_lt (b := 11) (by omega) (by decide), fun h9 => absurd ((nI_eq (a := q + 1) (b := 11) (by omega) (by decide)).mp h9) (by omega)⟩
theorem nI8' {q : Nat} (h : q ≤ 7) : nI q < 8 ∧ ¬ nI q = 8 := ⟨nI_lt (b := 8) (by omega) (by decide), fun h9 => absurd ((nI_eq (a := q) (b := 8) (by omega) (by decide)).mp h9) (by omega)⟩
theorem s_offT {t : Nat} {z : sNd} {y : sM} {x : Int32} (h : RC t z y) (hst : z.st = 7) (h3 : z.st = y.r3) (hm : RO z y) : RS t (f_No_seeOff z x).1 (g_M_offTime y x) := by
  obtain ⟨⟨q, hq, e1, e2⟩, w, hw, d1, d2⟩ := hm
  obtain ⟨b1, b2, b3, hh, b4, b5⟩ := h
  have h : RC t z y := ⟨b1, b2, b3, hh, b4, b5⟩
  obtain ⟨m1, m2⟩ := nI8' hw
  unfold f_No_seeOff g_M_offTime
  rw [e1, e2, d1, d2]
  by_cases c1 : x = 1
  · rw [if_pos c1, if_pos c1]
    by_cases c2 : q ≤ 9
    · obtain ⟨l1, l2⟩ := nI11 c2
      rw [if_pos l1, if_neg l2, if_pos m1, if_neg m2]
      exact ⟨h, h3, Or.inr (Or.inr (Or.inr (Or.inr (Or.inr (Or.inr (Or.inr ⟨hst, ⟨q + 1, by omega, nI_1 q, nI_1 q⟩, w, hw, rfl, d2⟩))))))⟩
    · have hq9 : q = 10 := by omega
      subst hq9
      rw [if_neg (show ¬ nI 10 + 1 < 11 by decide), if_pos (show nI 10 + 1 = 11 by decide)]
      by_cases c3 : w ≤ 6
      · obtain ⟨l8, n8⟩ := nI8 c3
        rw [if_pos l8, if_neg n8]
        exact ⟨h, h3, Or.inr (Or.inr (Or.inr (Or.inr (Or.inr (Or.inr (Or.inr ⟨hst, ⟨0, by decide, rfl, rfl⟩, w + 1, by omega, nI_1 w, nI_1 w⟩))))))⟩
      · have hw7 : w = 7 := by omega
        subst hw7
        rw [if_neg (show ¬ nI 7 + 1 < 8 by decide), if_pos (show nI 7 + 1 = 8 by decide)]
        exact ⟨⟨⟨b1.1, rfl, rfl, b1.2.2.2⟩, b2, b3, 0, rfl, Nat.zero_le _⟩, rfl, Or.inl rfl⟩
  · rw [if_neg c1, if_neg c1, if_pos m1, if_neg m2]
    exact ⟨h, h3, Or.inr (Or.inr (Or.inr (Or.inr (Or.inr (Or.inr (Or.inr ⟨hst, ⟨0, by decide, rfl, rfl⟩, w, hw, rfl, d2⟩))))))⟩
