/-! Sending, side by side: what is driven. -/
theorem CB01 {f : Nat → Int32} {i b d : Nat} (hb : b ≤ 2) (h : CB f i b d) {p : Nat} (hp : p < 34 + 8 * b) : ∃ xn : Nat, xn ≤ 1 ∧ f p = nI xn := by
  obtain ⟨h1, h2, h3, h4, h5, h6⟩ := h
  by_cases c0 : p = 0
  · subst c0; exact ⟨0, by decide, h1⟩
  · by_cases c1 : p < 12
    · refine ⟨i / 2 ^ (10 - (p - 1)) % 2, Nat.le_of_lt_succ (Nat.mod_lt _ (by decide)), ?_⟩
      have := h2 (p - 1) (by omega)
      rw [show 1 + (p - 1) = p by omega] at this
      exact this
    · by_cases c2 : p < 15
      · refine ⟨0, by decide, ?_⟩
        have := h3 (p - 12) (by omega)
        rw [show 12 + (p - 12) = p by omega] at this
        exact this
      · by_cases c3 : p < 19
        · refine ⟨b / 2 ^ (3 - (p - 15)) % 2, Nat.le_of_lt_succ (Nat.mod_lt _ (by decide)), ?_⟩
          have := h4 (p - 15) (by omega)
          rw [show 15 + (p - 15) = p by omega] at this
          exact this
        · by_cases c4 : p < 19 + 8 * b
          · refine ⟨d / 2 ^ (8 * ((p - 19) / 8) + 7 - (p - 19) % 8) % 2, Nat.le_of_lt_succ (Nat.mod_lt _ (by decide)), ?_⟩
            have := h5 (p - 19) (by omega)
            rw [show 19 + (p - 19) = p by omega] at this
            exact this
          · obtain ⟨X, hX, hr⟩ := regB_lt f (19 + 8 * b)
            obtain ⟨k1, k2⟩ := crc hX hr h6 (p - (19 + 8 * b)) (by omega)
            refine ⟨X / 2 ^ (14 - (p - (19 + 8 * b))) % 2, Nat.le_of_lt_succ (Nat.mod_lt _ (by decide)), ?_⟩
            have := (k2 (by omega)).1
            rw [show 19 + 8 * b + (p - (19 + 8 * b)) = p by omega] at this
            exact this
theorem core_bit {y : sM} {f : Nat → Int32} {c i b d p : Nat} (h13 : y.r13 = nI c) (hc : c < 4) (hwi : y.wi c = nI i) (hwb : y.wb c = nI b) (hwd : y.wd c = nI d) (hi : i < 2048) (hb : b ≤ 2) (hd : d < 65536) (h17 : y.r17 = nI p) (hp : p < 34 + 8 * b) (h20 : y.r20 = regB f p) (hCB : CB f i b d) : g_M_coreBit y = f p := by
  obtain ⟨h1, h2, h3, h4, h5, h6⟩ := hCB
  obtain ⟨a1, a2, a3, a4, a5, a6, a7, a8, a9, a10, a11, a12⟩ := lits (show p < 1000 by omega)
  have hcc : (nI c).toNatClampNeg = c := nI_clamp (by omega)
  unfold g_M_coreBit
  rw [h13, hcc, hwi, hwb, hwd, h17]
  simp only [a4, a5, a6, a7]
  by_cases c0 : p = 0
  · subst c0
    rw [if_pos (by decide), if_neg (by decide), h1]
  · rw [if_neg (show ¬ p ≤ 0 by omega)]
    by_cases c1 : p < 12
    · rw [if_neg (show ¬ 12 ≤ p by omega), show (11 : Int32) - nI p = nI (11 - p) from pk_sub (a := 11) (by omega), bitN (by omega) (by omega)]
      have := h2 (p - 1) (by omega)
      rw [show 1 + (p - 1) = p by omega, show 10 - (p - 1) = 11 - p by omega] at this
      exact this.symm
    · rw [if_pos (show 12 ≤ p by omega)]
      by_cases c2 : p < 15
      · rw [if_neg (show ¬ 15 ≤ p by omega)]
        have := h3 (p - 12) (by omega)
        rw [show 12 + (p - 12) = p by omega] at this
        exact this.symm
      · rw [if_pos (show 15 ≤ p by omega)]
        by_cases c3 : p < 19
        · rw [if_neg (show ¬ 19 ≤ p by omega), show (18 : Int32) - nI p = nI (18 - p) from pk_sub (a := 18) (by omega), bitN (by omega) (by omega)]
          have := h4 (p - 15) (by omega)
          rw [show 15 + (p - 15) = p by omega, show 3 - (p - 15) = 18 - p by omega] at this
          exact this.symm
        · have e19 : nI p - 19 = nI (p - 19) := pk_sub (b := 19) (by omega)
          have e8 : (8 : Int32) * nI b = nI (8 * b) := pk_mul 8 b
          rw [if_pos (show 19 ≤ p by omega), e19, e8]
          by_cases c4 : p < 19 + 8 * b
          · rw [if_neg (show ¬ nI (8 * b) ≤ nI (p - 19) from nI_ge (by omega) (by omega))]
            have e1 : nI (p - 19) / 8 = nI ((p - 19) / 8) := pk_div (d := 8) (by omega) (by decide) (by decide)
            have e2 : nI (p - 19) - nI (p - 19) / 8 * 8 = nI ((p - 19) % 8) := pk_rem (d := 8) (by omega) (by decide) (by decide)
            have hm8 : (p - 19) % 8 < 8 := Nat.mod_lt _ (by decide)
            rw [e2, e1, show (8 : Int32) * nI ((p - 19) / 8) = nI (8 * ((p - 19) / 8)) from pk_mul 8 _, show nI (8 * ((p - 19) / 8)) + 7 = nI (8 * ((p - 19) / 8) + 7) from nI_add _ 7, pk_sub (by omega), bitN (by omega) (by omega)]
            have := h5 (p - 19) (by omega)
            rw [show 19 + (p - 19) = p by omega] at this
            exact this.symm
          · rw [if_pos (show nI (8 * b) ≤ nI (p - 19) from nI_le (by omega) (by omega)), h20]
            obtain ⟨X, hX, hr⟩ := regB_lt f (19 + 8 * b)
            obtain ⟨k1, k2⟩ := crc hX hr h6 (p - (19 + 8 * b)) (by omega)
            obtain ⟨k3, k4⟩ := k2 (by omega)
            rw [show 19 + 8 * b + (p - (19 + 8 * b)) = p by omega] at k1 k3
            rw [k1, k3]
            exact k4
theorem okFd {d b : Nat} (hb : b ≤ 2) (h : d < 2 ^ (8 * b)) : d < 65536 := Nat.lt_of_lt_of_le h (Nat.le_trans (Nat.pow_le_pow_right (by decide) (show 8 * b ≤ 16 by omega)) (by decide))
/-- what a sender drives -/
theorem s_next {z : sNd} {y : sM} (hW : z.w.k ≤ 4) (hR : RR z.r y) (hX : RX z y) (h3 : y.r3 = 1) : f_No_nextBit z = g_M_driven y ∧ (∃ xn : Nat, xn ≤ 1 ∧ f_No_nextBit z = nI xn) ∧ (∀ p e : Nat, z.r.p = nI p → z.r.e = nI e → p < 100 → e ≤ 4 → y.r16 = 0 → f_No_nextBit z = z.k.bits p) := by
  obtain ⟨c, i, b, d, p, x1, x2, x3, x4, x5, x6, x7, x8, x9, x10, x11, x12, x13, x14, x15⟩ := hX
  obtain ⟨hg, hi, hbb, hd, p2, e, b2, hp, he, hye, hb, hph⟩ := hR
  have hpe : p2 = p := by
    have h9 : nI p2 = nI p := hp.symm.trans x11
    rcases hph with ⟨_, _, _, _, _, q⟩ | ⟨m, m1, m10, _, hb2, _, hpm, _⟩
    · refine (nI_eq ?_ (by omega)).mp h9
      rcases q with q | q <;> omega
    · exact (nI_eq (by omega) (by omega)).mp h9
  subst hpe
  have hdr : g_M_driven y = if y.r16 ≤ 0 then (if y.r18 = 5 then 1 - y.r19 else g_M_coreBit y) else 1 := by unfold g_M_driven; rw [if_pos h3]
  rw [hdr]
  unfold f_No_nextBit
  rcases hph with ⟨h16, hyp, he5, hep, hl, hph⟩ | ⟨m, m1, m10, h16, hb2, hc, hpm, he4⟩
  · rw [h16, if_pos (show (0 : Int32) ≤ 0 by decide), hye]
    by_cases c5 : e = 5
    · subst c5
      obtain ⟨l1, l2⟩ := hl (by omega)
      rw [pad_1 he, if_neg (show ¬ (1 : Int32) = 0 by decide), if_pos (show nI 5 = 5 from rfl), l1]
      refine ⟨rfl, ?_, fun p9 e9 _ q2 _ q4 _ => ?_⟩
      · rw [← l1]
        rcases l2 with l2 | l2
        · exact ⟨1, by decide, by rw [l2]; rfl⟩
        · exact ⟨0, by decide, by rw [l2]; rfl⟩
      · exact absurd ((nI_eq (a := 5) (b := e9) (by decide) (by omega)).mp (he.symm.trans q2)) (by omega)
    · have hlt : p2 < 34 + 8 * b := by
        rcases hph with ⟨q1, q2, q3⟩ | ⟨q1, q2, q3, q4⟩
        · omega
        · have hbe : b2 = b := by
            have h9 : nI b2 = nI (b / 2 ^ (19 - p2)) := hb.symm.trans x13
            rw [show 19 - p2 = 0 by omega, Nat.pow_zero, Nat.div_one] at h9
            exact (nI_eq (by omega) (by omega)).mp h9
          omega
      have hbit := core_bit (f := z.k.bits) x2 (by omega) x4 x5 x6 x7 x8 (okFd x8 x9) hyp hlt (hg.symm.trans (x14 (by omega))) x15
      have hat : f_Co_bitAt z.k z.r.p = z.k.bits p2 := by
        unfold f_Co_bitAt
        rw [hp, x10, if_neg (nI_pos (by omega)), if_neg (nI_ge hlt (by omega)), nI_clamp (by omega)]
      rw [if_pos (pad_0 he (by omega)), if_neg (show ¬ nI e = 5 from fun h9 => absurd ((nI_eq (a := e) (b := 5) (by omega) (by decide)).mp h9) c5), hbit, hat]
      refine ⟨rfl, CB01 x8 x15 hlt, fun p9 e9 q1 _ q3 _ _ => ?_⟩
      rw [(nI_eq (a := p2) (b := p9) (by omega) (by omega)).mp (hp.symm.trans q1)]
  · have hbe : b2 = b := by
      have h9 : nI b2 = nI (b / 2 ^ (19 - p2)) := hb.symm.trans x13
      rw [show 19 - p2 = 0 by omega, Nat.pow_zero, Nat.div_one] at h9
      exact (nI_eq (by omega) (by omega)).mp h9
    have hat : f_Co_bitAt z.k z.r.p = 1 := by
      unfold f_Co_bitAt
      rw [hp, x10, if_neg (nI_pos (by omega)), if_pos (nI_le (by omega) (by omega))]
    rw [h16, if_neg (show ¬ nI m ≤ 0 from nI_nle (by omega) (by omega)), if_pos (pad_0 he (by omega)), hat]
    exact ⟨rfl, ⟨1, by decide, rfl⟩, fun _ _ _ _ _ _ q => absurd q (nI_ne0 (by omega) (by omega))⟩
