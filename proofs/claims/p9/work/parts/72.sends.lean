/-! Sending, side by side: the whole; and a node's bit time. -/
theorem s_pad1 {t : Nat} {z : sNd} {y : sM} {x : Int32} {p b2 xn : Nat} (h : RC t z y) (hst : z.st = 1) (h3 : z.st = y.r3) (hw : z.was = 1) (hX : RX z y) (hx : x = nI xn) (hxn : xn ≤ 1) (hp : z.r.p = nI p) (hyp : y.r17 = nI p) (he : z.r.e = nI 5) (hye : y.r18 = nI 5) (h5 : 5 ≤ p) (hb : z.r.b = nI b2) (hg : z.r.g = y.r20) (hi : z.r.i = y.r21) (hbb : z.r.b = y.r22) (hd : z.r.d = y.r23) (hph : (p < 19 ∧ z.r.c = 50 ∧ b2 < 2 ^ (p - 15)) ∨ (19 ≤ p ∧ b2 ≤ 2 ∧ z.r.c = nI (34 + 8 * b2) ∧ p ≤ 34 + 8 * b2)) : RS (t + 1) (f_No_seeSending_63 z x).1 (g_M_readCore y x).1 := by
  have hb8 : b2 < 8 := by
    rcases hph with h | h
    · exact Nat.lt_of_lt_of_le h.2.2 (p2_le h.1)
    · omega
  have hpl : p ≤ 50 := by
    rcases hph with h | h <;> omega
  have hpad := pad_1 he
  have hread : f_Re_read z.r x = sRe.mk z.r.p z.r.c x 1 z.r.g z.r.i z.r.b z.r.d := by unfold f_Re_read; rw [hpad, if_neg (show ¬ (1 : Int32) = 0 by decide)]
  have hend : f_Re_isAtEnd (sRe.mk z.r.p z.r.c x 1 z.r.g z.r.i z.r.b z.r.d) = 0 := by
    rcases hph with ⟨q1, q2, q3⟩ | ⟨q1, q2, q3, q4⟩
    · exact end_0 (r := sRe.mk z.r.p z.r.c x 1 z.r.g z.r.i z.r.b z.r.d) hp (show z.r.c = nI 50 from q2) (by omega) (by decide)
    · exact end_0 (r := sRe.mk z.r.p z.r.c x 1 z.r.g z.r.i z.r.b z.r.d) hp q3 (by omega) (by omega)
  have e1 := g_pad (x := x) (show p < 1000 by omega) hyp hye (hbb.symm.trans hb) (show b2 < 100 by omega)
  unfold f_No_seeSending_63
  rw [hread, if_pos hend, e1]
  exact ⟨RC_t h, h3, Or.inr (Or.inl ⟨hst, hw, RR_pad hx hxn hp hyp h5 hb hg hi hbb hd hph, hX⟩)⟩
theorem xne {x d : Int32} {xn dn : Nat} (hx : x = nI xn) (hxn : xn ≤ 1) (hd : d = nI dn) (hdn : dn ≤ 1) (h : ¬ x = d) : (d = 0 ∧ x = 1) ∨ (¬ d = 0 ∧ d = 1 ∧ x = 0) := by
  have h1 : xn = 0 ∨ xn = 1 := by omega
  have h2 : dn = 0 ∨ dn = 1 := by omega
  rcases h1 with rfl | rfl <;> rcases h2 with rfl | rfl
  · exact absurd (hx.trans hd.symm) h
  · exact Or.inr ⟨by rw [hd]; decide, hd, hx⟩
  · exact Or.inl ⟨hd, hx⟩
  · exact absurd (hx.trans hd.symm) h
theorem s_sending {t : Nat} (ht : t < 2 ^ 25) {z : sNd} {y : sM} {x : Int32} {xn : Nat} (h : RC t z y) (hst : z.st = 1) (h3 : z.st = y.r3) (hw : z.was = 1) (hx : x = nI xn) (hxn : xn ≤ 1) (hR : RR z.r y) (hX : RX z y) (hdd : z.dr = y.r29) (hdr : z.dr = f_No_nextBit z) : RS (t + 1) (f_No_seeSending z x).1 (g_M_send y x) := by
  have hW4 : z.w.k ≤ 4 := h.2.1.2.1
  obtain ⟨n1, ⟨dn, hdn, n2⟩, n3⟩ := s_next hW4 hR hX (h3.symm.trans hst)
  have hdv : z.dr = nI dn := hdr.trans n2
  have hR0 := hR
  obtain ⟨hg, hi, hbb, hd, p, e, b, hp, he, hye, hb, hph⟩ := hR
  rcases hph with ⟨h16, hyp, he5, hep, hl, hph⟩ | ⟨m, m1, m10, h16, hb2, hc, hpm, he4⟩
  · have hpl : p ≤ 50 ∧ b < 8 := by
      rcases hph with ⟨q1, q2, q3⟩ | ⟨q1, q2, q3, q4⟩
      · exact ⟨by omega, Nat.lt_of_lt_of_le q3 (p2_le q1)⟩
      · omega
    have hans : f_Re_isAtAnswer z.r = 0 := by
      have hb0 : f_Re_isBehindCore z.r = 0 := by
        by_cases c5 : e = 5
        · exact beh_p (pad_1 (by rw [he, c5]))
        · rcases hph with ⟨q1, q2, q3⟩ | ⟨q1, q2, q3, q4⟩
          · exact beh_0 hp (show z.r.c = nI 50 from q2) (by omega) (by decide)
          · exact beh_0 hp q3 (by omega) (by omega)
      unfold f_Re_isAtAnswer
      rw [if_pos hb0]
    have g86 : g_M_send_86 y x = if x = y.r29 then (g_M_readCore y x).1 else g_M_err y 2 1 := by
      unfold g_M_send_86
      rw [h16, if_neg (show ¬ (0 : Int32) = 2 by decide), if_pos (show (0 : Int32) = 0 from rfl)]
    unfold f_No_seeSending
    rw [if_pos hans]
    by_cases cx : x = z.dr
    · rw [if_pos cx, gs_86 (fun h9 => absurd (cx.symm.trans h9.2.2.2.2.2) (by rw [hdd, h9.2.2.2.2.1]; decide)), g86, if_pos (cx.trans hdd)]
      by_cases c5 : e = 5
      · subst c5
        exact s_pad1 h hst h3 hw hX hx hxn hp hyp he hye hep hb hg hi hbb hd (by
          rcases hph with q | ⟨q1, q2, q3, q4⟩
          · exact Or.inl q
          · exact Or.inr ⟨q1, q2, q3, by omega⟩)
      · exact s_own h hst h3 hw hX h16 hp hyp he hye (by omega) hep hb (fun h0 => (hl h0).1) hg hi hbb hd (by
          rcases hph with q | ⟨q1, q2, q3, q4⟩
          · exact Or.inl q
          · exact Or.inr ⟨q1, q2, q3, by omega⟩) (by rw [cx, hdr]; exact n3 p e hp he (by omega) (by omega) h16)
    · rw [if_neg cx]
      have hxr : ¬ x = y.r29 := by rw [← hdd]; exact cx
      rcases xne hx hxn hdv hdn cx with ⟨d0, x1⟩ | ⟨d0, d1, x0⟩
      · rw [if_pos d0, gs_86 (fun h9 => absurd (x1.symm.trans h9.2.2.2.2.2) (by decide)), g86, if_neg hxr]
        exact s_err1 h hw
      · rw [if_neg d0]
        by_cases cid : 1 ≤ p ∧ p < 12 ∧ e ≤ 4
        · obtain ⟨q1, q2, q3⟩ := cid
          have hid : f_Re_isInId z.r = 1 := by
            unfold f_Re_isInId
            rw [hp, if_neg (show ¬ nI p < 1 from nI_nlt (b := 1) q1 (by omega)), if_neg (show ¬ (12 : Int32) ≤ nI p from nI_ge (b := 12) q2 (by decide)), if_pos (pad_0 he q3)]
          rw [hid, if_neg (show ¬ (1 : Int32) = 0 by decide), gs_lost ⟨h16, by rw [hye]; exact nI_ge (b := 5) (by omega) (by decide), by rw [hyp]; exact nI_nle (by omega) (by omega), by rw [hyp]; exact nI_ge (b := 12) q2 (by decide), hdd.symm.trans d1, x0⟩]
          have hph2 : (p < 19 ∧ z.r.c = 50 ∧ b < 2 ^ (p - 15)) ∨ (19 ≤ p ∧ b ≤ 2 ∧ z.r.c = nI (34 + 8 * b) ∧ p < 34 + 8 * b) := by
            rcases hph with q | q
            · exact Or.inl q
            · omega
          have k9 := s_hearing ht (z := sNd.mk 2 2 z.se z.he z.lo z.ma z.va z.sp z.dr z.pf z.ss z.on z.ro z.w z.i z.d z.k z.r) (y := (y.s3 2).s28 2) (x := x) ⟨⟨rfl, h.1.2⟩, h.2⟩ rfl rfl rfl hx hxn hR0
          have hpad := pad_0 he q3
          have hc50 : z.r.c = nI 50 := by
            rcases hph with q | q
            · exact q.2.1
            · omega
          have hbeh : f_Re_isBehindCore z.r = 0 := beh_0 hp hc50 (by omega) (by decide)
          have heo := eo_core hx hxn hp (show p < 1000 by omega) hb (show b < 100 by omega) hpad hbeh
          rw [if_neg (by omega)] at heo
          have heq : (f_No_seeHearing (sNd.mk 2 2 z.se z.he z.lo z.ma z.va z.sp z.dr z.pf z.ss z.on z.ro z.w z.i z.d z.k z.r) x).1 = (f_No_seeSending_63 (sNd.mk 2 2 z.se z.he z.lo z.ma z.va z.sp z.dr z.pf z.ss z.on z.ro z.w z.i z.d z.k z.r) x).1 := by
            obtain ⟨k1, k2, k3, k4, k5, k6, c9, k7, k8, k9⟩ := rcc hx hxn hp hyp he hye q3 hep hb (fun h0 => (hl h0).1) hg hi hbb hd hph2 (by omega) (by omega)
            have hread : f_Re_read z.r x = f_Re_readCore z.r x := by unfold f_Re_read; rw [if_pos hpad, if_pos hbeh]
            have hend : f_Re_isAtEnd (f_Re_read z.r x) = 0 := by rw [hread]; exact end_0 k5 k7 (by omega) k9
            unfold f_No_seeHearing f_No_seeSending_63
            rw [if_pos (show f_Re_errorOf (sNd.mk 2 2 z.se z.he z.lo z.ma z.va z.sp z.dr z.pf z.ss z.on z.ro z.w z.i z.d z.k z.r).r x = 0 from heo), if_pos (show f_Re_isAtEnd (f_Re_read (sNd.mk 2 2 z.se z.he z.lo z.ma z.va z.sp z.dr z.pf z.ss z.on z.ro z.w z.i z.d z.k z.r).r x) = 0 from hend), if_pos (show f_Re_isAtEnd (f_Re_read (sNd.mk 2 2 z.se z.he z.lo z.ma z.va z.sp z.dr z.pf z.ss z.on z.ro z.w z.i z.d z.k z.r).r x) = 0 from hend)]
          rw [← heq]
          exact k9
        · have hid : f_Re_isInId z.r = 0 := by
            unfold f_Re_isInId
            rw [hp]
            by_cases q1 : p < 1
            · rw [if_pos (show nI p < 1 from nI_lt (b := 1) q1 (by decide))]
            · rw [if_neg (show ¬ nI p < 1 from nI_nlt (b := 1) (by omega) (by omega))]
              by_cases q2 : 12 ≤ p
              · rw [if_pos (show (12 : Int32) ≤ nI p from nI_le (a := 12) q2 (by omega))]
              · have : e = 5 := by omega
                rw [if_neg (show ¬ (12 : Int32) ≤ nI p from nI_ge (b := 12) (by omega) (by decide)), pad_1 (by rw [he, this]), if_neg (show ¬ (1 : Int32) = 0 by decide)]
          rw [if_pos hid, gs_86, g86, if_neg hxr]
          · exact s_err1 h hw
          · intro ⟨_, j2, j3, j4, _, _⟩
            rw [hye] at j2
            rw [hyp] at j3 j4
            refine cid ⟨?_, ?_, ?_⟩
            · rcases Nat.lt_or_ge 0 p with q | q
              · exact q
              · exact absurd (show nI p ≤ 0 from nI_le (b := 0) q (by decide)) j3
            · rcases Nat.lt_or_ge p 12 with q | q
              · exact q
              · exact absurd (show (12 : Int32) ≤ nI p from nI_le (a := 12) q (by omega)) j4
            · rcases Nat.lt_or_ge e 5 with q | q
              · omega
              · exact absurd (show (5 : Int32) ≤ nI e from nI_le (a := 5) q (by omega)) j2
  · have hpad := pad_0 he (by omega)
    have hbeh := beh_1 hp hc (by omega) (by omega) hpad
    have hsub : z.r.p - z.r.c = nI (m - 1) := by rw [hp, hc, pk_sub (by omega), show p - (34 + 8 * b) = m - 1 by omega]
    have hans : f_Re_isAtAnswer z.r = if m = 2 then 1 else 0 := by
      unfold f_Re_isAtAnswer
      rw [hbeh, if_neg (show ¬ (1 : Int32) = 0 by decide), hsub]
      by_cases c2 : m = 2
      · rw [if_pos c2, c2, if_pos (show nI (2 - 1) = 1 from rfl)]
      · rw [if_neg c2, if_neg (show ¬ nI (m - 1) = 1 from fun h9 => absurd ((nI_eq (a := m - 1) (b := 1) (by omega) (by decide)).mp h9) (by omega))]
    have h160 : ¬ y.r16 = 0 := by rw [h16]; exact nI_ne0 (by omega) (by omega)
    have e2 : (y.r16 = 2) = (m = 2) := by rw [h16]; exact propext (nI_eq (b := 2) (by omega) (by decide))
    have e10 : (y.r16 = 10) = (m = 10) := by rw [h16]; exact propext (nI_eq (b := 10) (by omega) (by decide))
    have hread : f_Re_read z.r x = sRe.mk (z.r.p + 1) z.r.c z.r.l z.r.e z.r.g z.r.i z.r.b z.r.d := by unfold f_Re_read; rw [if_pos hpad, hbeh, if_neg (show ¬ (1 : Int32) = 0 by decide)]
    have hp1 : z.r.p + 1 = nI (p + 1) := by rw [hp, nI_1]
    obtain ⟨c, i, b', d, p2, x1, x2, x3, x4, x5, x6, x7, x8, x9, x10, x11, x12, x13, x14, x15⟩ := hX
    have hpe : p2 = p := (nI_eq (by omega) (by omega)).mp (x11.symm.trans hp)
    subst hpe
    have hbe : b = b' := by
      have h9 : nI b = nI (b' / 2 ^ (19 - p2)) := hb.symm.trans x13
      rw [show 19 - p2 = 0 by omega, Nat.pow_zero, Nat.div_one] at h9
      exact (nI_eq (by omega) (by omega)).mp h9
    subst hbe
    have on_ : RS (t + 1) (f_No_seeSending_63 z x).1 (if y.r16 = 10 then g_M_sentFrame y else y.s16 (y.r16 + 1)) := by
      unfold f_No_seeSending_63
      rw [hread]
      simp only [e10]
      by_cases c10 : m = 10
      · have hend := end_1 (r := sRe.mk (z.r.p + 1) z.r.c z.r.l z.r.e z.r.g z.r.i z.r.b z.r.d) hp1 hc (by omega) (by omega)
        rw [if_pos c10, hend, if_neg (show ¬ (1 : Int32) = 0 by decide)]
        exact RS_t (s_sent (z := sNd.mk z.st z.was z.se z.he z.lo z.ma z.va z.sp z.dr z.pf z.ss z.on z.ro z.w z.i z.d z.k (sRe.mk (z.r.p + 1) z.r.c z.r.l z.r.e z.r.g z.r.i z.r.b z.r.d)) h x1 x2 x3)
      · have hend := end_0 (r := sRe.mk (z.r.p + 1) z.r.c z.r.l z.r.e z.r.g z.r.i z.r.b z.r.d) hp1 hc (by omega) (by omega)
        rw [if_neg c10, if_pos hend]
        refine ⟨RC_t h, h3, Or.inr (Or.inl ⟨hst, hw, ⟨hg, hi, hbb, hd, p2 + 1, e, b, hp1, he, hye, hb, Or.inr ⟨m + 1, by omega, by omega, (show y.r16 + 1 = nI (m + 1) by rw [h16, nI_1]), hb2, hc, by omega, he4⟩⟩, c, i, b, d, p2 + 1, x1, x2, x3, x4, x5, x6, x7, x8, x9, x10, hp1, by omega, ?_, fun h9 => by omega, x15⟩)⟩
        show z.r.b = nI (b / 2 ^ (19 - (p2 + 1)))
        rw [x13, show 19 - p2 = 0 by omega, show 19 - (p2 + 1) = 0 by omega]
    rw [gs_86 (fun h9 => h160 h9.1)]
    unfold f_No_seeSending g_M_send_86
    rw [hans, if_neg h160]
    simp only [e2]
    by_cases c2 : m = 2
    · rw [if_pos c2, if_pos c2, if_neg (show ¬ (1 : Int32) = 0 by decide)]
      by_cases cx : x = 1
      · rw [if_pos cx, if_pos cx]; exact s_err1 h hw
      · rw [if_neg cx, if_neg cx]; exact on_
    · rw [if_neg c2, if_neg c2, if_pos (show (0 : Int32) = 0 from rfl), ← hdd]
      by_cases cx : x = z.dr
      · rw [if_pos cx, if_pos cx]; exact on_
      · rw [if_neg cx, if_neg cx]
        have hid : f_Re_isInId z.r = 0 := by
          unfold f_Re_isInId
          rw [hp, if_neg (show ¬ nI p2 < 1 from nI_nlt (b := 1) (by omega) (by omega)), if_pos (show (12 : Int32) ≤ nI p2 from nI_le (a := 12) (by omega) (by omega))]
        by_cases c0 : z.dr = 0
        · rw [if_pos c0]; exact s_err1 h hw
        · rw [if_neg c0, if_pos hid]; exact s_err1 h hw
