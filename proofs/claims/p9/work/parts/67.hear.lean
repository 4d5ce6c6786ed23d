/-! Hearing, side by side: the whole. -/
theorem eo_core {r : sRe} {x : Int32} {p b xn : Nat} (hx : x = nI xn) (hxn : xn ≤ 1) (hp : r.p = nI p) (hpl : p < 1000) (hb : r.b = nI b) (hbl : b < 100) (h1 : f_Re_padIsDue r = 0) (h2 : f_Re_isBehindCore r = 0) : f_Re_errorOf r x = if (12 ≤ p ∧ p < 15 ∧ xn = 1) ∨ (p = 18 ∧ ¬ 2 * b + xn ≤ 2) then 4 else 0 := by
  obtain ⟨a1, a2, a3, a4, a5, a6, a7, a8, a9, a10, a11, a12⟩ := lits hpl
  have hv : (nI b <<< (1 &&& 31)) ||| nI xn = nI (2 * b + xn) := by
    rw [sh1or _ _ (x01 rfl hxn), show (2 : Int32) * nI b = nI (2 * b) from pk_mul 2 b, nI_add]
  have h3 : ((nI (2 * b + xn) : Int32) ≤ 2) = (2 * b + xn ≤ 2) := propext (nI_leI (b := 2) (by omega) (by decide))
  have h4 : ((nI xn : Int32) = 0) = (xn = 0) := propext (nI_eq (b := 0) (by omega) (by decide))
  unfold f_Re_errorOf
  rw [if_pos h1, if_pos h2, hp, hb, hx, hv]
  simp only [a6, a11, a12, h3, h4]
  by_cases c12 : p < 12
  · rw [if_pos c12, if_neg (show ¬ p = 18 by omega), if_neg (by omega)]
  · rw [if_neg c12]
    by_cases c15 : 15 ≤ p
    · rw [if_pos c15]
      by_cases c18 : p = 18
      · rw [if_pos c18]
        by_cases c2 : 2 * b + xn ≤ 2
        · rw [if_pos c2, if_neg (by omega)]
        · rw [if_neg c2, if_pos (Or.inr ⟨c18, c2⟩)]
      · rw [if_neg c18, if_neg (by omega)]
    · rw [if_neg c15]
      by_cases c0 : xn = 0
      · rw [if_pos c0, if_neg (show ¬ p = 18 by omega), if_neg (by omega)]
      · rw [if_neg c0, if_neg (show ¬ p = 18 by omega), if_pos (Or.inl ⟨by omega, by omega, by omega⟩)]
theorem eb_tail {r : sRe} {x : Int32} {m xn : Nat} (hx : x = nI xn) (hxn : xn ≤ 1) (h1 : 1 ≤ m) (h10 : m ≤ 10) : f_Re_errorBehindCore r (nI (m - 1)) x = if m = 3 ∧ ¬ r.g = 0 then 5 else if xn = 0 ∧ m ≠ 2 ∧ m < 10 then 4 else 0 := by
  have h4 : (x = 0) = (xn = 0) := by rw [hx]; exact propext (nI_eq (b := 0) (by omega) (by decide))
  have e2 : (nI (m - 1) = (2 : Int32)) = (m = 3) := by
    rw [show (2 : Int32) = nI 2 from rfl]
    exact propext ((nI_eq (a := m - 1) (b := 2) (by omega) (by decide)).trans ⟨fun h => by omega, fun h => by omega⟩)
  have e1 : (nI (m - 1) = (1 : Int32)) = (m = 2) := by
    rw [show (1 : Int32) = nI 1 from rfl]
    exact propext ((nI_eq (a := m - 1) (b := 1) (by omega) (by decide)).trans ⟨fun h => by omega, fun h => by omega⟩)
  have e9 : (nI (m - 1) < (9 : Int32)) = (m < 10) := by
    rw [show (9 : Int32) = nI 9 from rfl]
    exact propext ((nI_ltI (a := m - 1) (b := 9) (by omega) (by decide)).trans ⟨fun h => by omega, fun h => by omega⟩)
  have hr : (f_Re_isRight r = 0) = (¬ r.g = 0) := by
    unfold f_Re_isRight
    by_cases c : r.g = 0
    · rw [if_pos c]; exact propext ⟨fun h => absurd h (by decide), fun h => absurd c h⟩
    · rw [if_neg c]; exact propext ⟨fun _ => c, fun _ => rfl⟩
  unfold f_Re_errorBehindCore
  simp only [e2, e1, e9, hr, h4]
  by_cases c3 : m = 3
  · by_cases cg : r.g = 0
    · rw [if_pos c3, if_neg (fun h => h cg), if_neg (show ¬ m = 2 by omega), if_pos (show m < 10 by omega), if_neg (show ¬ (m = 3 ∧ ¬ r.g = 0) from fun h => h.2 cg)]
      by_cases c0 : xn = 0
      · rw [if_pos c0, if_pos ⟨c0, by omega, by omega⟩]
      · rw [if_neg c0, if_neg (fun h => c0 h.1)]
    · rw [if_pos c3, if_pos cg, if_pos ⟨c3, cg⟩]
  · rw [if_neg c3, if_neg (show ¬ (m = 3 ∧ ¬ r.g = 0) from fun h => c3 h.1)]
    by_cases c2 : m = 2
    · rw [if_pos c2, if_neg (show ¬ (xn = 0 ∧ m ≠ 2 ∧ m < 10) from fun h => h.2.1 c2)]
      by_cases c0 : xn = 0
      · rw [if_pos c0]
      · rw [if_neg c0]
    · rw [if_neg c2]
      by_cases c10 : m < 10
      · rw [if_pos c10]
        by_cases c0 : xn = 0
        · rw [if_pos c0, if_pos ⟨c0, c2, c10⟩]
        · rw [if_neg c0, if_neg (fun h => c0 h.1)]
      · rw [if_neg c10, if_neg (show ¬ (xn = 0 ∧ m ≠ 2 ∧ m < 10) from fun h => c10 h.2.2)]
        by_cases c0 : xn = 0
        · rw [if_pos c0]
        · rw [if_neg c0]
theorem gh_tail {y : sM} {x : Int32} {m xn : Nat} (hx : x = nI xn) (hxn : xn ≤ 1) (hm : y.r16 = nI m) (h1 : 1 ≤ m) (h10 : m ≤ 10) : g_M_hear y x = if m = 3 ∧ ¬ y.r20 = 0 then g_M_err (y.s16 (nI (m + 1))) 5 2 else if xn = 0 ∧ m ≠ 2 ∧ m < 10 then g_M_err (y.s16 (nI (m + 1))) 4 2 else if m = 10 then g_M_heardFrame (y.s16 (nI (m + 1))) x else y.s16 (nI (m + 1)) := by
  have h4 : (x = 0) = (xn = 0) := by rw [hx]; exact propext (nI_eq (b := 0) (by omega) (by decide))
  have e0 : (nI m = (0 : Int32)) = (m = 0) := propext (nI_eq (b := 0) (by omega) (by decide))
  have e3 : (nI m = (3 : Int32)) = (m = 3) := propext (nI_eq (b := 3) (by omega) (by decide))
  have e2 : (nI m = (2 : Int32)) = (m = 2) := propext (nI_eq (b := 2) (by omega) (by decide))
  have e10 : (nI m = (10 : Int32)) = (m = 10) := propext (nI_eq (b := 10) (by omega) (by decide))
  have l10 : ((10 : Int32) ≤ nI m) = (10 ≤ m) := propext (nI_leI (a := 10) (by decide) (by omega))
  unfold g_M_hear
  rw [hm, nI_1]
  simp only [e0, e3, e2, e10, l10, h4]
  have hm9 : m = 1 ∨ m = 2 ∨ m = 3 ∨ m = 4 ∨ m = 5 ∨ m = 6 ∨ m = 7 ∨ m = 8 ∨ m = 9 ∨ m = 10 := by omega
  by_cases c0 : xn = 0 <;> by_cases cg : y.r20 = 0 <;> rcases hm9 with rfl | rfl | rfl | rfl | rfl | rfl | rfl | rfl | rfl | rfl <;> simp [c0, cg]
/-- reading a core bit as a hearer, no pad due -/
theorem s_hcore {t : Nat} {z : sNd} {y : sM} {x : Int32} {p e b xn : Nat} (h : RC t z y) (hst : z.st = 2) (h3 : z.st = y.r3) (hw : z.was = 2) (hx : x = nI xn) (hxn : xn ≤ 1) (h16 : y.r16 = 0) (hp : z.r.p = nI p) (hyp : y.r17 = nI p) (he : z.r.e = nI e) (hye : y.r18 = nI e) (he4 : e ≤ 4) (hep : e ≤ p) (hb : z.r.b = nI b) (hl : 0 < p → z.r.l = y.r19) (hg : z.r.g = y.r20) (hi : z.r.i = y.r21) (hbb : z.r.b = y.r22) (hd : z.r.d = y.r23) (hph : (p < 19 ∧ z.r.c = 50 ∧ b < 2 ^ (p - 15)) ∨ (19 ≤ p ∧ b ≤ 2 ∧ z.r.c = nI (34 + 8 * b) ∧ p < 34 + 8 * b)) : RS (t + 1) (f_No_seeHearing z x).1 (g_M_hear y x) := by
  have hb8 : b < 8 := by
    rcases hph with h | h
    · exact Nat.lt_of_lt_of_le h.2.2 (p2_le h.1)
    · omega
  have hpl : p < 50 := by
    rcases hph with h | h <;> omega
  have hpad := pad_0 he he4
  have hbeh : f_Re_isBehindCore z.r = 0 := by
    rcases hph with ⟨q1, q2, q3⟩ | ⟨q1, q2, q3, q4⟩
    · exact beh_0 hp (show z.r.c = nI 50 from q2) (by omega) (by decide)
    · exact beh_0 hp q3 q4 (by omega)
  have heo := eo_core hx hxn hp (show p < 1000 by omega) hb (show b < 100 by omega) hpad hbeh
  have hread : f_Re_read z.r x = f_Re_readCore z.r x := by unfold f_Re_read; rw [if_pos hpad, if_pos hbeh]
  have hy22 : y.r22 = nI b := hbb.symm.trans hb
  unfold f_No_seeHearing g_M_hear
  rw [if_pos h16, heo, hread]
  by_cases cs : (12 ≤ p ∧ p < 15 ∧ xn = 1) ∨ (p = 18 ∧ ¬ 2 * b + xn ≤ 2)
  · rw [if_pos cs, if_neg (show ¬ (4 : Int32) = 0 by decide)]
    have e1 := g_rc (x := x) (show p < 1000 by omega) hyp hye he4 hy22 (show b < 100 by omega)
    have em : (mY y p b x (nI (nE p e (x = y.r19)))).r22 = nI (if 15 ≤ p ∧ p < 19 then 2 * b + xn else b) := by show nb p y.r22 x = _; rw [hy22, hx]; exact nb_nI
    have e2 := g287s (y := mY y p b x (nI (nE p e (x = y.r19)))) (x := x) (show p < 1000 by omega) hx hyp (by
      rcases cs with c | ⟨c, d⟩
      · exact Or.inl c
      · refine Or.inr ⟨c, ?_⟩
        rw [em, if_pos ⟨by omega, by omega⟩]
        exact nI_ge (a := 2) (by omega) (by omega))
    rw [e1, e2, if_neg (show ¬ (4 : Int32) ≤ 0 by decide)]
    exact s_err2 (y := (mY y p b x (nI (nE p e (x = y.r19)))).s17 (nI (p + 1))) h hw (by decide)
  · rw [if_neg cs, if_pos rfl]
    obtain ⟨k1, k2, ⟨a16, a17, a18, a19, a20, a21, a22, a23, k3⟩, k4, k5, k6, c9, k7, k8, k9⟩ := rcc hx hxn hp hyp he hye he4 hep hb hl hg hi hbb hd hph (fun h => cs (Or.inl h)) (fun h => by
      by_cases c : 2 * b + xn ≤ 2
      · exact c
      · exact absurd (Or.inr ⟨h, c⟩) cs)
    rw [k1, if_pos (show (0 : Int32) ≤ 0 by decide), if_neg (show ¬ y.r16 = 10 by rw [h16]; decide)]
    rw [if_pos (end_0 k5 k7 (by omega) k9)]
    refine ⟨?_, ?_, Or.inr (Or.inr (Or.inl ⟨hst, hw, k2⟩))⟩
    · rw [k3]; exact RC_t h
    · rw [k3]; exact h3
/-- the pad, as a hearer -/
theorem g_pad {y : sM} {x : Int32} {p b : Nat} (hpl : p < 1000) (hyp : y.r17 = nI p) (hye : y.r18 = nI 5) (hb : y.r22 = nI b) (hbl : b < 100) : g_M_readCore y x = (((y.s19 x).s18 1).s16 (if 19 ≤ p ∧ p = 34 + 8 * b then 1 else 0), if x = y.r19 then 3 else 0) := by
  have h19 : (((19 : Int32) ≤ nI p) = (19 ≤ p)) := propext (nI_leI (a := 19) (by decide) (by omega))
  have h34 : (34 : Int32) + 8 * nI b = nI (34 + 8 * b) := by rw [show (8 : Int32) * nI b = nI (8 * b) from pk_mul 8 b]; exact nI_add 34 (8 * b)
  have hcl : (y.r17 = g_M_coreLength ((y.s19 x).s18 1)) = (19 ≤ p ∧ p = 34 + 8 * b) := by
    unfold g_M_coreLength
    show (y.r17 = if (19 : Int32) ≤ y.r17 then 34 + 8 * y.r22 else 999) = _
    rw [hyp, hb, h34]
    simp only [h19]
    by_cases c1 : 19 ≤ p
    · rw [if_pos c1]
      exact propext ⟨fun h => ⟨c1, (nI_eq (by omega) (by omega)).mp h⟩, fun h => by rw [h.2]⟩
    · rw [if_neg c1]
      exact propext ⟨fun h => absurd ((nI_eq (a := p) (b := 999) (by omega) (by decide)).mp h) (by omega), fun h => absurd h.1 c1⟩
  unfold g_M_readCore
  rw [hye, if_pos (show nI 5 = 5 from rfl)]
  simp only [hcl]
  by_cases cx : x = y.r19
  · rw [if_pos cx, if_pos cx]
    by_cases c1 : 19 ≤ p ∧ p = 34 + 8 * b
    · rw [if_pos c1, if_pos c1]
    · rw [if_neg c1, if_neg c1]
  · rw [if_neg cx, if_neg cx]
    by_cases c1 : 19 ≤ p ∧ p = 34 + 8 * b
    · rw [if_pos c1, if_pos c1]
    · rw [if_neg c1, if_neg c1]
theorem RR_pad {r : sRe} {y : sM} {x : Int32} {p b xn : Nat} (hx : x = nI xn) (hxn : xn ≤ 1) (hp : r.p = nI p) (hyp : y.r17 = nI p) (h5 : 5 ≤ p) (hb : r.b = nI b) (hg : r.g = y.r20) (hi : r.i = y.r21) (hbb : r.b = y.r22) (hd : r.d = y.r23) (hph : (p < 19 ∧ r.c = 50 ∧ b < 2 ^ (p - 15)) ∨ (19 ≤ p ∧ b ≤ 2 ∧ r.c = nI (34 + 8 * b) ∧ p ≤ 34 + 8 * b)) : RR (sRe.mk r.p r.c x 1 r.g r.i r.b r.d) (((y.s19 x).s18 1).s16 (if 19 ≤ p ∧ p = 34 + 8 * b then 1 else 0)) := by
  refine ⟨hg, hi, hbb, hd, p, 1, b, hp, rfl, rfl, hb, ?_⟩
  rcases hph with ⟨q1, q2, q3⟩ | ⟨q1, q2, q3, q4⟩
  · exact Or.inl ⟨(show (if 19 ≤ p ∧ p = 34 + 8 * b then (1 : Int32) else 0) = 0 from if_neg (by omega)), hyp, by decide, by omega, fun _ => ⟨rfl, x01 hx hxn⟩, Or.inl ⟨q1, q2, q3⟩⟩
  · by_cases c : p = 34 + 8 * b
    · exact Or.inr ⟨1, Nat.le_refl 1, by decide, (show (if 19 ≤ p ∧ p = 34 + 8 * b then (1 : Int32) else 0) = nI 1 from if_pos ⟨q1, c⟩), q2, q3, by omega, by decide⟩
    · exact Or.inl ⟨(show (if 19 ≤ p ∧ p = 34 + 8 * b then (1 : Int32) else 0) = 0 from if_neg (by omega)), hyp, by decide, by omega, fun _ => ⟨rfl, x01 hx hxn⟩, Or.inr ⟨q1, q2, q3, Or.inl (by omega)⟩⟩
theorem s_hpad {t : Nat} {z : sNd} {y : sM} {x : Int32} {p b xn : Nat} (h : RC t z y) (hst : z.st = 2) (h3 : z.st = y.r3) (hw : z.was = 2) (hx : x = nI xn) (hxn : xn ≤ 1) (h16 : y.r16 = 0) (hp : z.r.p = nI p) (hyp : y.r17 = nI p) (he : z.r.e = nI 5) (hye : y.r18 = nI 5) (h5 : 5 ≤ p) (hb : z.r.b = nI b) (hl : z.r.l = y.r19) (hg : z.r.g = y.r20) (hi : z.r.i = y.r21) (hbb : z.r.b = y.r22) (hd : z.r.d = y.r23) (hph : (p < 19 ∧ z.r.c = 50 ∧ b < 2 ^ (p - 15)) ∨ (19 ≤ p ∧ b ≤ 2 ∧ z.r.c = nI (34 + 8 * b) ∧ p ≤ 34 + 8 * b)) : RS (t + 1) (f_No_seeHearing z x).1 (g_M_hear y x) := by
  have hb8 : b < 8 := by
    rcases hph with h | h
    · exact Nat.lt_of_lt_of_le h.2.2 (p2_le h.1)
    · omega
  have hpl : p ≤ 50 := by
    rcases hph with h | h <;> omega
  have hpad := pad_1 he
  have heo : f_Re_errorOf z.r x = if x = y.r19 then 3 else 0 := by unfold f_Re_errorOf; rw [hpad, if_neg (show ¬ (1 : Int32) = 0 by decide), hl]
  have hread : f_Re_read z.r x = sRe.mk z.r.p z.r.c x 1 z.r.g z.r.i z.r.b z.r.d := by unfold f_Re_read; rw [hpad, if_neg (show ¬ (1 : Int32) = 0 by decide)]
  have e1 := g_pad (x := x) (show p < 1000 by omega) hyp hye (hbb.symm.trans hb) (show b < 100 by omega)
  unfold f_No_seeHearing g_M_hear
  rw [if_pos h16, heo, hread, e1]
  by_cases cx : x = y.r19
  · rw [if_pos cx, if_neg (show ¬ (3 : Int32) = 0 by decide), if_neg (show ¬ (3 : Int32) ≤ 0 by decide)]
    exact s_err2 (y := ((y.s19 x).s18 1).s16 _) h hw (by decide)
  · have hend : f_Re_isAtEnd (sRe.mk z.r.p z.r.c x 1 z.r.g z.r.i z.r.b z.r.d) = 0 := by
      rcases hph with ⟨q1, q2, q3⟩ | ⟨q1, q2, q3, q4⟩
      · exact end_0 (r := sRe.mk z.r.p z.r.c x 1 z.r.g z.r.i z.r.b z.r.d) hp (show z.r.c = nI 50 from q2) (by omega) (by decide)
      · exact end_0 (r := sRe.mk z.r.p z.r.c x 1 z.r.g z.r.i z.r.b z.r.d) hp q3 (by omega) (by omega)
    rw [if_neg cx, if_pos rfl, if_pos (show (0 : Int32) ≤ 0 by decide), if_neg (show ¬ y.r16 = 10 by rw [h16]; decide), if_pos hend]
    exact ⟨RC_t h, h3, Or.inr (Or.inr (Or.inl ⟨hst, hw, RR_pad hx hxn hp hyp h5 hb hg hi hbb hd hph⟩))⟩
theorem s_hearing {t : Nat} (ht : t < 2 ^ 25) {z : sNd} {y : sM} {x : Int32} {xn : Nat} (h : RC t z y) (hst : z.st = 2) (h3 : z.st = y.r3) (hw : z.was = 2) (hx : x = nI xn) (hxn : xn ≤ 1) (hR : RR z.r y) : RS (t + 1) (f_No_seeHearing z x).1 (g_M_hear y x) := by
  obtain ⟨hg, hi, hbb, hd, p, e, b, hp, he, hye, hb, hph⟩ := hR
  rcases hph with ⟨h16, hyp, he5, hep, hl, hph⟩ | ⟨m, m1, m10, h16, hb2, hc, hpm, he4⟩
  · by_cases c5 : e = 5
    · subst c5
      exact s_hpad h hst h3 hw hx hxn h16 hp hyp he hye hep hb (hl (by omega)).1 hg hi hbb hd (by
        rcases hph with q | ⟨q1, q2, q3, q4⟩
        · exact Or.inl q
        · exact Or.inr ⟨q1, q2, q3, by omega⟩)
    · exact s_hcore h hst h3 hw hx hxn h16 hp hyp he hye (by omega) hep hb (fun h0 => (hl h0).1) hg hi hbb hd (by
        rcases hph with q | ⟨q1, q2, q3, q4⟩
        · exact Or.inl q
        · exact Or.inr ⟨q1, q2, q3, by omega⟩)
  · have hpad := pad_0 he (by omega)
    have hbeh := beh_1 hp hc (by omega) (by omega) hpad
    have hsub : z.r.p - z.r.c = nI (m - 1) := by rw [hp, hc, pk_sub (by omega), show p - (34 + 8 * b) = m - 1 by omega]
    have heo : f_Re_errorOf z.r x = if m = 3 ∧ ¬ z.r.g = 0 then 5 else if xn = 0 ∧ m ≠ 2 ∧ m < 10 then 4 else 0 := by
      unfold f_Re_errorOf
      rw [if_pos hpad, hbeh, if_neg (show ¬ (1 : Int32) = 0 by decide), hsub]
      exact eb_tail hx hxn m1 m10
    have hread : f_Re_read z.r x = sRe.mk (z.r.p + 1) z.r.c z.r.l z.r.e z.r.g z.r.i z.r.b z.r.d := by unfold f_Re_read; rw [if_pos hpad, hbeh, if_neg (show ¬ (1 : Int32) = 0 by decide)]
    have hp1 : z.r.p + 1 = nI (p + 1) := by rw [hp, nI_1]
    rw [gh_tail hx hxn h16 m1 m10]
    unfold f_No_seeHearing
    rw [heo, hread, hg]
    by_cases c1 : m = 3 ∧ ¬ y.r20 = 0
    · rw [if_pos c1, if_pos c1, if_neg (show ¬ (5 : Int32) = 0 by decide)]
      exact s_err2 (y := y.s16 (nI (m + 1))) h hw (by decide)
    · rw [if_neg c1, if_neg c1]
      by_cases c2 : xn = 0 ∧ m ≠ 2 ∧ m < 10
      · rw [if_pos c2, if_pos c2, if_neg (show ¬ (4 : Int32) = 0 by decide)]
        exact s_err2 (y := y.s16 (nI (m + 1))) h hw (by decide)
      · rw [if_neg c2, if_neg c2, if_pos rfl]
        by_cases c10 : m = 10
        · have hend := end_1 (r := sRe.mk (z.r.p + 1) z.r.c z.r.l z.r.e y.r20 z.r.i z.r.b z.r.d) hp1 hc (by omega) (by omega)
          rw [if_pos c10, hend, if_neg (show ¬ (1 : Int32) = 0 by decide)]
          exact RS_t (s_heard ht (z := sNd.mk z.st z.was z.se z.he z.lo z.ma z.va z.sp z.dr z.pf z.ss z.on z.ro z.w z.i z.d z.k (sRe.mk (z.r.p + 1) z.r.c z.r.l z.r.e y.r20 z.r.i z.r.b z.r.d)) (y := y.s16 (nI (m + 1))) h hi hbb hd)
        · have hend := end_0 (r := sRe.mk (z.r.p + 1) z.r.c z.r.l z.r.e y.r20 z.r.i z.r.b z.r.d) hp1 hc (by omega) (by omega)
          rw [if_neg c10, if_pos hend]
          exact ⟨RC_t h, h3, Or.inr (Or.inr (Or.inl ⟨hst, hw, rfl, hi, hbb, hd, p + 1, e, b, hp1, he, hye, hb, Or.inr ⟨m + 1, by omega, by omega, rfl, hb2, hc, by omega, he4⟩⟩))⟩
theorem s_start {t : Nat} {z : sNd} {y : sM} (h : RC t z y) : RS t (f_No_beginToHear z).1 (g_M_start y) := by
  have hr : f_Re_begin z.r = sRe.mk 0 50 1 0 0 0 0 0 := rfl
  obtain ⟨k1, k2, ⟨a16, a17, a18, a19, a20, a21, a22, a23, k3⟩, k4, k5, k6, c9, k7, k8, k9⟩ := rcc (r := sRe.mk 0 50 1 0 0 0 0 0) (y := g_M_open y 2) (x := 0) (p := 0) (e := 0) (b := 0) (xn := 0) rfl (by decide) rfl rfl rfl rfl (by decide) (by decide) rfl (fun h => absurd h (by decide)) rfl rfl rfl rfl (Or.inl ⟨by decide, rfl, by decide⟩) (by decide) (fun h => absurd h (by decide))
  have hread : f_Re_read (sRe.mk 0 50 1 0 0 0 0 0) 0 = f_Re_readCore (sRe.mk 0 50 1 0 0 0 0 0) 0 := by
    unfold f_Re_read
    rw [if_pos (pad_0 (r := sRe.mk 0 50 1 0 0 0 0 0) (e := 0) rfl (by decide)), if_pos (beh_0 (r := sRe.mk 0 50 1 0 0 0 0 0) (p := 0) (c := 50) rfl rfl (by decide) (by decide))]
  have hg : g_M_start y = (g_M_readCore (g_M_open y 2) 0).1 := by
    unfold g_M_start g_M_hear
    rw [if_pos (show (g_M_open y 2).r16 = 0 from rfl), k1, if_pos (show (0 : Int32) ≤ 0 by decide), if_neg (show ¬ (g_M_open y 2).r16 = 10 from (show ¬ (0 : Int32) = 10 by decide))]
  unfold f_No_beginToHear
  rw [hg, hr, hread]
  refine ⟨?_, ?_, Or.inr (Or.inr (Or.inl ⟨rfl, rfl, k2⟩))⟩
  · rw [k3]; exact ⟨⟨rfl, h.1.2⟩, h.2⟩
  · rw [k3]; rfl
