/-! Hearing, side by side. -/
theorem pad_0 {r : sRe} {e : Nat} (he : r.e = nI e) (h : e ≤ 4) : f_Re_padIsDue r = 0 := by
  unfold f_Re_padIsDue
  rw [he, if_neg (show ¬ nI e = 5 from fun h9 => absurd ((nI_eq (a := e) (b := 5) (by omega) (by decide)).mp h9) (by omega))]
theorem pad_1 {r : sRe} (he : r.e = nI 5) : f_Re_padIsDue r = 1 := by
  unfold f_Re_padIsDue
  rw [he, if_pos (show nI 5 = 5 from rfl)]
theorem beh_0 {r : sRe} {p c : Nat} (hp : r.p = nI p) (hc : r.c = nI c) (h : p < c) (hl : c < 1000) : f_Re_isBehindCore r = 0 := by
  unfold f_Re_isBehindCore
  rw [hp, hc, if_pos (nI_lt h (by omega))]
theorem beh_p {r : sRe} (h : f_Re_padIsDue r = 1) : f_Re_isBehindCore r = 0 := by
  unfold f_Re_isBehindCore
  by_cases c : r.p < r.c
  · rw [if_pos c]
  · rw [if_neg c, h, if_neg (show ¬ (1 : Int32) = 0 by decide)]
theorem beh_1 {r : sRe} {p c : Nat} (hp : r.p = nI p) (hc : r.c = nI c) (h : c ≤ p) (hl : p < 1000) (hd : f_Re_padIsDue r = 0) : f_Re_isBehindCore r = 1 := by
  unfold f_Re_isBehindCore
  rw [hp, hc, if_neg (nI_nlt h (by omega)), if_pos hd]
theorem end_0 {r : sRe} {p c : Nat} (hp : r.p = nI p) (hc : r.c = nI c) (h : p ≤ c + 9) (hl : c < 1000) : f_Re_isAtEnd r = 0 := by
  unfold f_Re_isAtEnd
  rw [hp, hc, if_pos]
  rw [Int32.le_iff_toInt_le, pk_sub_toInt (by omega) (by omega), show (9 : Int32).toInt = 9 from rfl]
  omega
theorem end_1 {r : sRe} {p c : Nat} (hp : r.p = nI p) (hc : r.c = nI c) (h : c + 9 < p) (hl : p < 1000) : f_Re_isAtEnd r = 1 := by
  unfold f_Re_isAtEnd
  rw [hp, hc, if_neg]
  rw [Int32.le_iff_toInt_le, pk_sub_toInt (by omega) (by omega), show (9 : Int32).toInt = 9 from rfl]
  omega
theorem fst_ite {c : Prop} [Decidable c] {α β : Type} (a b : α × β) : (if c then a else b).1 = if c then a.1 else b.1 := by
  split <;> rfl
/-- a frame heard to its end: the inbox, and on -/
theorem s_heard2 {t : Nat} {z : sNd} {y : sM} {x : Int32} (h : RC t z y) (hi : z.r.i = y.r21) (hb : z.r.b = y.r22) (hd : z.r.d = y.r23) : RS t (f_No_endHearing_22 z x).1 (if (y.r21 &&& y.r6) = y.r7 then (if y.r14 = 4 then (if x = 0 then (g_M_overload (y.s8 (y.r8 + 1))) else (g_M_rest (y.s8 (y.r8 + 1)))) else (if x = 0 then (g_M_overload ((y.sbx (upd y.bx y.r14.toNatClampNeg ((y.r21 + (2048 * y.r22)) + (8192 * y.r23)))).s14 (y.r14 + 1))) else (g_M_rest ((y.sbx (upd y.bx y.r14.toNatClampNeg ((y.r21 + (2048 * y.r22)) + (8192 * y.r23)))).s14 (y.r14 + 1))))) else (if x = 0 then (g_M_overload y) else (g_M_rest y))) := by
  have fin : ∀ (z1 : sNd) (y1 : sM), RC t z1 y1 → RS t (f_No_endHearing_52 z1 x).1 (if x = 0 then g_M_overload y1 else g_M_rest y1) := by
    intro z1 y1 h1
    unfold f_No_endHearing_52
    by_cases c : x = 0
    · rw [if_pos c, if_pos c]; exact s_overload h1
    · rw [if_neg c, if_neg c]; exact s_rest h1
  obtain ⟨b1, b2, ⟨i1, i2, i3⟩, b4⟩ := h
  have h : RC t z y := ⟨b1, b2, ⟨i1, i2, i3⟩, b4⟩
  unfold f_No_endHearing_22
  rw [hi, b1.2.2.2.2.1, b1.2.2.2.2.2]
  by_cases c1 : (y.r21 &&& y.r6) = y.r7
  · rw [if_pos c1, if_pos c1]
    unfold f_No_keep
    by_cases c4 : z.i.k < 4
    · have hfl : fl (nI z.i.k) = 0 := by unfold fl; rw [if_pos (show nI z.i.k < 4 from nI_lt (b := 4) c4 (by decide))]
      have hn4 : ¬ y.r14 = 4 := by rw [i1]; exact fun h9 => absurd ((nI_eq (a := z.i.k) (b := 4) (by omega) (by decide)).mp h9) (by omega)
      rw [if_pos hfl, if_neg hn4]
      refine fin _ _ ⟨b1, b2, ?_, b4⟩
      have hadd : f_Fr_add z.i (f_Re_frame z.r) = (upd z.i.row z.i.k (f_Re_frame z.r), z.i.k + 1) := by unfold f_Fr_add; rw [if_pos c4]
      show RI (f_Fr_add z.i (f_Re_frame z.r)) _
      rw [hadd]
      refine ⟨(show y.r14 + 1 = nI (z.i.k + 1) by rw [i1, nI_1]), (show z.i.k + 1 ≤ 4 by omega), fun q hq => ?_⟩
      have hq : q < z.i.k + 1 := hq
      show upd z.i.row z.i.k (f_Re_frame z.r) q = upd y.bx y.r14.toNatClampNeg ((y.r21 + (2048 * y.r22)) + (8192 * y.r23)) q
      rw [i1, nI_clamp (by omega)]
      by_cases e : q = z.i.k
      · subst e
        rw [pk_us, pk_us]
        unfold f_Re_frame f_Fr_packed
        rw [hi, hb, hd]
      · rw [pk_un e, pk_un e]; exact i3 q (by omega)
    · have hk : z.i.k = 4 := by omega
      have hfl : ¬ fl (nI z.i.k) = 0 := by rw [hk]; decide
      rw [if_neg hfl, if_pos (show y.r14 = 4 by rw [i1, hk]; rfl)]
      exact fin _ _ ⟨⟨b1.1, b1.2.1, b1.2.2.1, (show z.lo + 1 = y.r8 + 1 by rw [b1.2.2.2.1]), b1.2.2.2.2⟩, b2, ⟨i1, i2, i3⟩, b4⟩
  · rw [if_neg c1, if_neg c1]
    exact fin _ _ h
theorem s_heard {t : Nat} (ht : t < 2 ^ 25) {z : sNd} {y : sM} {x : Int32} (h : RC t z y) (hi : z.r.i = y.r21) (hb : z.r.b = y.r22) (hd : z.r.d = y.r23) : RS t (f_No_endHearing z x).1 (g_M_heardFrame y x) := by
  obtain ⟨b1, b2, b3, q, e, l⟩ := h
  have hr5 : y.r5 = nI q := b1.2.2.1.symm.trans e
  unfold f_No_endHearing g_M_heardFrame
  rw [e, hr5]
  by_cases c1 : q = 0
  · subst c1
    rw [if_pos (show nI 0 ≤ 0 by decide), if_pos (show nI 0 ≤ 127 by decide), if_pos (show nI 0 ≤ 0 by decide)]
    exact s_heard2 (z := z) (y := y.s5 0) ⟨⟨b1.1, b1.2.1, e, b1.2.2.2⟩, b2, b3, 0, e, Nat.zero_le _⟩ hi hb hd
  · have hq1 : nI q - 1 = nI (q - 1) := fr_pred (by omega)
    rw [if_neg (show ¬ nI q ≤ 0 from nI_nle (by omega) (by omega)), hq1]
    by_cases c2 : q ≤ 127
    · rw [if_pos (show nI q ≤ 127 from nI_le (b := 127) c2 (by decide)), if_neg (show ¬ nI q ≤ 0 from nI_nle (by omega) (by omega))]
      have hmin : f_Ma_min (nI (q - 1)) 127 = nI (q - 1) := by unfold f_Ma_min; rw [if_neg (show ¬ (127 : Int32) < nI (q - 1) from nI_nlt (a := 127) (by omega) (by decide))]
      rw [hmin]
      exact s_heard2 (z := sNd.mk z.st z.was z.se (nI (q - 1)) z.lo z.ma z.va z.sp z.dr z.pf z.ss z.on z.ro z.w z.i z.d z.k z.r) (y := y.s5 (nI (q - 1))) ⟨⟨b1.1, b1.2.1, rfl, b1.2.2.2⟩, b2, b3, q - 1, rfl, by omega⟩ hi hb hd
    · rw [if_neg (show ¬ nI q ≤ 127 from nI_ge (a := 127) (by omega) (by omega))]
      have hmin : f_Ma_min (nI (q - 1)) 127 = 127 := by
        unfold f_Ma_min
        by_cases c3 : (127 : Int32) < nI (q - 1)
        · rw [if_pos c3]
        · have : ¬ 127 < q - 1 := fun h9 => c3 (nI_lt (a := 127) h9 (by omega))
          rw [if_neg c3, show q - 1 = 127 by omega]; rfl
      rw [hmin]
      exact s_heard2 (z := sNd.mk z.st z.was z.se 127 z.lo z.ma z.va z.sp z.dr z.pf z.ss z.on z.ro z.w z.i z.d z.k z.r) (y := y.s5 127) ⟨⟨b1.1, b1.2.1, rfl, b1.2.2.2⟩, b2, b3, 127, rfl, by omega⟩ hi hb hd
