/-! Sending, side by side. -/
theorem gs_lost {y : sM} {x : Int32} (h : y.r16 = 0 ∧ ¬ (5 : Int32) ≤ y.r18 ∧ ¬ y.r17 ≤ 0 ∧ ¬ (12 : Int32) ≤ y.r17 ∧ y.r29 = 1 ∧ x = 0) : g_M_send y x = g_M_hear ((y.s3 2).s28 2) x := by
  obtain ⟨a1, a2, a3, a4, a5, a6⟩ := h
  unfold g_M_send
  rw [if_pos a1, if_neg a2, if_neg a3, if_neg a4, if_pos a5, if_pos a6]
theorem gs_86 {y : sM} {x : Int32} (h : ¬ (y.r16 = 0 ∧ ¬ (5 : Int32) ≤ y.r18 ∧ ¬ y.r17 ≤ 0 ∧ ¬ (12 : Int32) ≤ y.r17 ∧ y.r29 = 1 ∧ x = 0)) : g_M_send y x = g_M_send_86 y x := by
  unfold g_M_send
  by_cases a1 : y.r16 = 0
  · rw [if_pos a1]
    by_cases a2 : (5 : Int32) ≤ y.r18
    · rw [if_pos a2]
    · rw [if_neg a2]
      by_cases a3 : y.r17 ≤ 0
      · rw [if_pos a3]
      · rw [if_neg a3]
        by_cases a4 : (12 : Int32) ≤ y.r17
        · rw [if_pos a4]
        · rw [if_neg a4]
          by_cases a5 : y.r29 = 1
          · rw [if_pos a5, if_neg (fun a6 => h ⟨a1, a2, a3, a4, a5, a6⟩)]
          · rw [if_neg a5]
  · rw [if_neg a1]
theorem shiftF_val : ∀ (d c : Nat) (row : Nat → Int32) (q : Nat), shiftF d c row q = if c ≤ q ∧ q < c + d then row (q + 1) else row q := by
  intro d
  induction d with
  | zero => intro c row q; rw [if_neg (by omega)]; rfl
  | succ d ih =>
    intro c row q
    show shiftF d (c + 1) (upd row c (row (c + 1))) q = _
    rw [ih]
    by_cases e : q = c
    · subst e
      rw [if_neg (by omega), pk_us, if_pos ⟨by omega, by omega⟩]
    · rw [pk_un e]
      by_cases c1 : c + 1 ≤ q ∧ q < c + 1 + d
      · rw [if_pos c1, pk_un (by omega), if_pos ⟨by omega, by omega⟩]
      · rw [if_neg c1, if_neg (by omega)]
theorem s_sent {t : Nat} {z : sNd} {y : sM} {c : Nat} (h : RC t z y) (h1 : z.sp = nI c) (h2 : y.r13 = nI c) (hc : c < z.w.k) : RS t (f_No_endSending z).1 (g_M_sentFrame y) := by
  obtain ⟨b1, ⟨w1, w2, w3⟩, b3, b4⟩ := h
  have hrem : (f_Fr_remove z.w z.sp).1 = (shiftF (z.w.k - 1 - c) c z.w.row, z.w.k - 1) := by
    unfold f_Fr_remove
    rw [h1, if_neg (nI_pos (by omega)), if_neg (nI_ge hc (by omega)), nI_clamp (by omega)]
  have hW : RW (f_Fr_remove z.w z.sp).1 ((((y.s9 (y.r9 - 1)).swi (shiftF (z.w.k - 1 - c) c y.wi)).swb (shiftF (z.w.k - 1 - c) c y.wb)).swd (shiftF (z.w.k - 1 - c) c y.wd)) := by
    rw [hrem]
    refine ⟨(show y.r9 - 1 = nI (z.w.k - 1) by rw [w1]; exact fr_pred (by omega)), (show z.w.k - 1 ≤ 4 by omega), fun q hq => ?_⟩
    have hq : q < z.w.k - 1 := hq
    show okF (shiftF (z.w.k - 1 - c) c y.wi q) (shiftF (z.w.k - 1 - c) c y.wb q) (shiftF (z.w.k - 1 - c) c y.wd q) ∧ shiftF (z.w.k - 1 - c) c z.w.row q = f_Fr_packed (shiftF (z.w.k - 1 - c) c y.wi q) (shiftF (z.w.k - 1 - c) c y.wb q) (shiftF (z.w.k - 1 - c) c y.wd q)
    rw [shiftF_val, shiftF_val, shiftF_val, shiftF_val]
    by_cases e : c ≤ q ∧ q < c + (z.w.k - 1 - c)
    · rw [if_pos e, if_pos e, if_pos e, if_pos e]; exact w3 (q + 1) (by omega)
    · rw [if_neg e, if_neg e, if_neg e, if_neg e]; exact w3 q (by omega)
  unfold f_No_endSending g_M_sentFrame
  rw [h2, w1, nI_clamp (by omega), nI_clamp (by omega), ← w1, ← b1.2.1]
  by_cases c0 : z.se ≤ 0
  · rw [if_pos c0, if_pos c0]
    exact s_rest (z := sNd.mk z.st z.was z.se z.he z.lo z.ma z.va z.sp z.dr z.pf z.ss z.on z.ro (f_Fr_remove z.w z.sp).1 z.i z.d z.k z.r) ⟨⟨b1.1, (show z.se = z.se - 0 by rw [Int32.sub_zero]), b1.2.2⟩, hW, b3, b4⟩
  · rw [if_neg c0, if_neg c0]
    exact s_rest (z := sNd.mk z.st z.was (z.se - 1) z.he z.lo z.ma z.va z.sp z.dr z.pf z.ss z.on z.ro (f_Fr_remove z.w z.sp).1 z.i z.d z.k z.r) ⟨⟨b1.1, rfl, b1.2.2⟩, hW, b3, b4⟩
theorem b_step {b p : Nat} (hb : b ≤ 2) : (if 15 ≤ p ∧ p < 19 then 2 * (b / 2 ^ (19 - p)) + b / 2 ^ (18 - p) % 2 else b / 2 ^ (19 - p)) = b / 2 ^ (19 - (p + 1)) := by
  by_cases c : 15 ≤ p ∧ p < 19
  · rw [if_pos c]
    have : p = 15 ∨ p = 16 ∨ p = 17 ∨ p = 18 := by omega
    rcases this with rfl | rfl | rfl | rfl <;> simp <;> omega
  · rw [if_neg c]
    by_cases c2 : 19 ≤ p
    · rw [show 19 - p = 0 by omega, show 19 - (p + 1) = 0 by omega]
    · have h1 : b < 2 ^ (19 - p) := Nat.lt_of_lt_of_le (show b < 4 by omega) (Nat.le_trans (show 4 ≤ 2 ^ 2 by decide) (Nat.pow_le_pow_right (by decide) (by omega)))
      have h2 : b < 2 ^ (19 - (p + 1)) := Nat.lt_of_lt_of_le (show b < 4 by omega) (Nat.le_trans (show 4 ≤ 2 ^ 2 by decide) (Nat.pow_le_pow_right (by decide) (by omega)))
      rw [Nat.div_eq_of_lt h1, Nat.div_eq_of_lt h2]
/-- the sender's own bit, read -/
theorem s_own {t : Nat} {z : sNd} {y : sM} {x : Int32} {p e b2 : Nat} (h : RC t z y) (hst : z.st = 1) (h3 : z.st = y.r3) (hw : z.was = 1) (hX : RX z y) (h16 : y.r16 = 0) (hp : z.r.p = nI p) (hyp : y.r17 = nI p) (he : z.r.e = nI e) (hye : y.r18 = nI e) (he4 : e ≤ 4) (hep : e ≤ p) (hb : z.r.b = nI b2) (hl : 0 < p → z.r.l = y.r19) (hg : z.r.g = y.r20) (hi : z.r.i = y.r21) (hbb : z.r.b = y.r22) (hd : z.r.d = y.r23) (hph : (p < 19 ∧ z.r.c = 50 ∧ b2 < 2 ^ (p - 15)) ∨ (19 ≤ p ∧ b2 ≤ 2 ∧ z.r.c = nI (34 + 8 * b2) ∧ p < 34 + 8 * b2)) (hx : x = z.k.bits p) : RS (t + 1) (f_No_seeSending_63 z x).1 (g_M_readCore y x).1 := by
  obtain ⟨c, i, b, d, p2, x1, x2, x3, x4, x5, x6, x7, x8, x9, x10, x11, x12, x13, x14, x15⟩ := hX
  have hb8 : b2 < 8 := by
    rcases hph with h | h
    · exact Nat.lt_of_lt_of_le h.2.2 (p2_le h.1)
    · omega
  have hpl : p < 50 := by
    rcases hph with h | h <;> omega
  have hpe : p2 = p := (nI_eq (by omega) (by omega)).mp (x11.symm.trans hp)
  subst hpe
  have hb2 : b2 = b / 2 ^ (19 - p2) := (nI_eq (by omega) (Nat.lt_of_le_of_lt (Nat.div_le_self _ _) (by omega))).mp (hb.symm.trans x13)
  have hlt : p2 < 34 + 8 * b := by
    rcases hph with ⟨q1, q2, q3⟩ | ⟨q1, q2, q3, q4⟩
    · omega
    · rw [show 19 - p2 = 0 by omega, Nat.pow_zero, Nat.div_one] at hb2; omega
  obtain ⟨xn, hxn, hxe⟩ := CB01 x8 x15 hlt
  have hxx : x = nI xn := hx.trans hxe
  have hpad := pad_0 he he4
  have hbeh : f_Re_isBehindCore z.r = 0 := by
    rcases hph with ⟨q1, q2, q3⟩ | ⟨q1, q2, q3, q4⟩
    · exact beh_0 hp (show z.r.c = nI 50 from q2) (by omega) (by decide)
    · exact beh_0 hp q3 q4 (by omega)
  have hread : f_Re_read z.r x = f_Re_readCore z.r x := by unfold f_Re_read; rw [if_pos hpad, if_pos hbeh]
  have hx15 : 15 ≤ p2 ∧ p2 < 19 → xn = b / 2 ^ (18 - p2) % 2 := by
    intro h9
    have := x15.2.2.2.1 (p2 - 15) (by omega)
    rw [show 15 + (p2 - 15) = p2 by omega, show 3 - (p2 - 15) = 18 - p2 by omega] at this
    exact (nI_eq (by omega) (Nat.lt_trans (Nat.mod_lt _ (by decide)) (by decide))).mp (hxe.symm.trans this)
  have hs1 : ¬ (12 ≤ p2 ∧ p2 < 15 ∧ xn = 1) := by
    intro ⟨q1, q2, q3⟩
    have := x15.2.2.1 (p2 - 12) (by omega)
    rw [show 12 + (p2 - 12) = p2 by omega, hxe, q3] at this
    exact absurd this (by decide)
  have hbs : (if 15 ≤ p2 ∧ p2 < 19 then 2 * b2 + xn else b2) = b / 2 ^ (19 - (p2 + 1)) := by
    rw [← b_step (p := p2) x8]
    by_cases c9 : 15 ≤ p2 ∧ p2 < 19
    · rw [if_pos c9, if_pos c9, hb2, hx15 c9]
    · rw [if_neg c9, if_neg c9, hb2]
  have hs2 : p2 = 18 → 2 * b2 + xn ≤ 2 := by
    intro h9
    rw [if_pos ⟨by omega, by omega⟩, h9] at hbs
    rw [hbs, show 19 - (18 + 1) = 0 by decide, Nat.pow_zero, Nat.div_one]
    exact x8
  obtain ⟨k1, k2, ⟨a16, a17, a18, a19, a20, a21, a22, a23, k3⟩, k4, k5, k6, c9, k7, k8, k9⟩ := rcc hxx hxn hp hyp he hye he4 hep hb hl hg hi hbb hd hph hs1 hs2
  have hreg : (f_Re_readCore z.r x).g = regB z.k.bits (p2 + 1) := by
    rw [k4, x14 (by omega), hx]
    rfl
  unfold f_No_seeSending_63
  rw [hread, if_pos (end_0 k5 k7 (by omega) k9)]
  refine ⟨?_, ?_, Or.inr (Or.inl ⟨hst, hw, k2, ?_⟩)⟩
  · rw [k3]; exact RC_t h
  · rw [k3]; exact h3
  · rw [k3]
    exact ⟨c, i, b, d, p2 + 1, x1, x2, x3, x4, x5, x6, x7, x8, x9, x10, k5, by omega, k6.trans (congrArg nI hbs), fun _ => hreg, x15⟩
