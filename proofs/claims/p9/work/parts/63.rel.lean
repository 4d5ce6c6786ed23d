/-! Class and reference, node by node: what they have in common. -/
def okF (a g d : Int32) : Prop := ∃ i b e : Nat, a = nI i ∧ g = nI b ∧ d = nI e ∧ i < 2048 ∧ b ≤ 2 ∧ e < 2 ^ (8 * b)
def RB (z : sNd) (y : sM) : Prop := z.was = y.r28 ∧ z.se = y.r4 ∧ z.he = y.r5 ∧ z.lo = y.r8 ∧ z.ma = y.r6 ∧ z.va = y.r7
def RW (w : sFr) (y : sM) : Prop := y.r9 = nI w.k ∧ w.k ≤ 4 ∧ ∀ q : Nat, q < w.k → okF (y.wi q) (y.wb q) (y.wd q) ∧ w.row q = f_Fr_packed (y.wi q) (y.wb q) (y.wd q)
def RI (i : sFr) (y : sM) : Prop := y.r14 = nI i.k ∧ i.k ≤ 4 ∧ ∀ q : Nat, q < i.k → i.row q = y.bx q
def RC (t : Nat) (z : sNd) (y : sM) : Prop := RB z y ∧ RW z.w y ∧ RI z.i y ∧ ∃ h : Nat, z.he = nI h ∧ h ≤ 16 * t
def W3 (w : Int32) : Prop := w = 0 ∨ w = 1 ∨ w = 2
def RF (z : sNd) (y : sM) : Prop := (y.r24 = z.was ∧ W3 z.was) ∧ (z.pf = 0 ∨ z.pf = 1) ∧ y.r25 = z.pf ∧ ∃ q : Nat, q ≤ 5 ∧ z.ss = nI q ∧ y.r26 = nI q
def RA (z : sNd) (y : sM) : Prop := (y.r24 = z.was ∧ W3 z.was) ∧ z.ss = y.r26 ∧ ∃ q : Nat, q ≤ 7 ∧ z.on = nI q ∧ y.r27 = nI q
def RP (z : sNd) (y : sM) : Prop := ∃ q : Nat, q ≤ 2 ∧ z.ss = nI q ∧ y.r26 = nI q
def RU (z : sNd) (y : sM) : Prop := ∃ q : Nat, q ≤ 7 ∧ z.on = nI q ∧ y.r26 = nI q
def RO (z : sNd) (y : sM) : Prop := (∃ q : Nat, q ≤ 10 ∧ z.on = nI q ∧ y.r27 = nI q) ∧ ∃ q : Nat, q ≤ 7 ∧ z.ro = nI q ∧ y.r26 = nI q
/-- what has been read of a frame -/
def RR (r : sRe) (y : sM) : Prop := r.g = y.r20 ∧ r.i = y.r21 ∧ r.b = y.r22 ∧ r.d = y.r23 ∧ ∃ p e b : Nat, r.p = nI p ∧ r.e = nI e ∧ y.r18 = nI e ∧ r.b = nI b ∧
  ((y.r16 = 0 ∧ y.r17 = nI p ∧ e ≤ 5 ∧ e ≤ p ∧ (0 < p → r.l = y.r19 ∧ (r.l = 0 ∨ r.l = 1)) ∧ ((p < 19 ∧ r.c = 50 ∧ b < 2 ^ (p - 15)) ∨ (19 ≤ p ∧ b ≤ 2 ∧ r.c = nI (34 + 8 * b) ∧ (p < 34 + 8 * b ∨ (p = 34 + 8 * b ∧ e = 5)))))
   ∨ (∃ m : Nat, 1 ≤ m ∧ m ≤ 10 ∧ y.r16 = nI m ∧ b ≤ 2 ∧ r.c = nI (34 + 8 * b) ∧ p + 1 = 34 + 8 * b + m ∧ e < 5))
def regB (f : Nat → Int32) : Nat → Int32
  | 0 => 0
  | p + 1 => f_Co_registerBehind (regB f p) (f p)
/-- the bits of a core -/
def CB (bits : Nat → Int32) (i b d : Nat) : Prop := bits 0 = 0 ∧ (∀ q : Nat, q < 11 → bits (1 + q) = nI (i / 2 ^ (10 - q) % 2)) ∧ (∀ q : Nat, q < 3 → bits (12 + q) = 0) ∧ (∀ q : Nat, q < 4 → bits (15 + q) = nI (b / 2 ^ (3 - q) % 2)) ∧ (∀ q : Nat, q < 8 * b → bits (19 + q) = nI (d / 2 ^ (8 * (q / 8) + 7 - q % 8) % 2)) ∧ ∀ q : Nat, q < 15 → bits (19 + 8 * b + q) = ((regB bits (19 + 8 * b)) >>> (nI (14 - q) &&& 31)) &&& 1
/-- what is being sent -/
def RX (z : sNd) (y : sM) : Prop := ∃ c i b d p : Nat, z.sp = nI c ∧ y.r13 = nI c ∧ c < z.w.k ∧ y.wi c = nI i ∧ y.wb c = nI b ∧ y.wd c = nI d ∧ i < 2048 ∧ b ≤ 2 ∧ d < 2 ^ (8 * b) ∧ z.k.len = 34 + 8 * b ∧ z.r.p = nI p ∧ p ≤ 100 ∧ z.r.b = nI (b / 2 ^ (19 - p)) ∧ (p ≤ 34 + 8 * b → z.r.g = regB z.k.bits p) ∧ CB z.k.bits i b d
def RM (z : sNd) (y : sM) : Prop := z.st = 0 ∨ (z.st = 1 ∧ z.was = 1 ∧ RR z.r y ∧ RX z y) ∨ (z.st = 2 ∧ z.was = 2 ∧ RR z.r y) ∨ (z.st = 3 ∧ RF z y) ∨ (z.st = 4 ∧ RA z y) ∨ (z.st = 5 ∧ RP z y) ∨ (z.st = 6 ∧ RU z y) ∨ (z.st = 7 ∧ RO z y)
def RS (t : Nat) (z : sNd) (y : sM) : Prop := RC t z y ∧ z.st = y.r3 ∧ RM z y
theorem RC_t {t : Nat} {z : sNd} {y : sM} (h : RC t z y) : RC (t + 1) z y := ⟨h.1, h.2.1, h.2.2.1, by obtain ⟨q, e, l⟩ := h.2.2.2; exact ⟨q, e, by omega⟩⟩
theorem RS_t {t : Nat} {z : sNd} {y : sM} (h : RS t z y) : RS (t + 1) z y := ⟨RC_t h.1, h.2⟩
theorem s_rest {t : Nat} {z : sNd} {y : sM} (h : RC t z y) : RS t (f_No_beginPause z) (g_M_rest y) := ⟨h, rfl, Or.inr (Or.inr (Or.inr (Or.inr (Or.inr (Or.inl ⟨rfl, 0, by decide, rfl, rfl⟩)))))⟩
theorem s_overload {t : Nat} {z : sNd} {y : sM} (h : RC t z y) : RS t (f_No_overload z).1 (g_M_overload y) := ⟨⟨⟨rfl, h.1.2⟩, h.2⟩, rfl, Or.inr (Or.inr (Or.inr (Or.inl ⟨rfl, ⟨rfl, Or.inl rfl⟩, Or.inl rfl, (show vp_nar .boolean 0 = 0 by decide), 0, by decide, rfl, rfl⟩)))⟩
theorem le255 {x : Int32} (h : x ≤ 255) : ¬ (256 : Int32) ≤ x := by
  rw [Int32.le_iff_toInt_le] at h ⊢
  rw [show (255 : Int32).toInt = 255 from rfl] at h
  rw [show (256 : Int32).toInt = 256 from rfl]
  omega
theorem nle255 {x : Int32} (h : ¬ x ≤ 255) : (256 : Int32) ≤ x := by
  rw [Int32.le_iff_toInt_le] at h ⊢
  rw [show (255 : Int32).toInt = 255 from rfl] at h
  rw [show (256 : Int32).toInt = 256 from rfl]
  omega
theorem s_passive {t : Nat} {z : sNd} {y : sM} (h : RC t z y) : f_No_isPassive z = g_M_isPassive y := by
  unfold f_No_isPassive g_M_isPassive
  rw [h.1.2.1, h.1.2.2.1]
theorem pass01 (y : sM) : g_M_isPassive y = 0 ∨ g_M_isPassive y = 1 := by
  unfold g_M_isPassive
  split
  · exact Or.inr rfl
  · split
    · exact Or.inl rfl
    · exact Or.inr rfl
theorem nar_b {v : Int32} (h : v = 0 ∨ v = 1) : vp_nar .boolean v = v := by
  rcases h with rfl | rfl <;> decide
/-- gone off, on both sides -/
theorem s_off {t : Nat} {z z2 : sNd} {y : sM} (h : RC t z y) (hz : z2 = sNd.mk 7 z.was z.se z.he z.lo z.ma z.va z2.sp z2.dr z2.pf z2.ss 0 0 (⟨z.w.row, 0⟩ : sFr) z.i z2.d z2.k z2.r) : RS t z2 ((((y.s3 7).s9 0).s27 0).s26 0) := by
  rw [hz]
  exact ⟨⟨h.1, ⟨rfl, Nat.zero_le 4, fun q hq => absurd hq (Nat.not_lt_zero q)⟩, h.2.2.1, h.2.2.2⟩, rfl, Or.inr (Or.inr (Or.inr (Or.inr (Or.inr (Or.inr (Or.inr ⟨rfl, ⟨0, by decide, rfl, rfl⟩, 0, by decide, rfl, rfl⟩))))))⟩
theorem s_flagOff {t : Nat} {z : sNd} {y : sM} {a : Int32} (h : RC t z y) (ha : z.was = a) (hW : W3 z.was) : RS t (f_No_goOffIfTooMany (f_No_beginFlag z (f_No_isPassive z))) (if (g_M_goesOff y).2 = 0 then (g_M_flag (g_M_goesOff y).1 a (g_M_isPassive (g_M_goesOff y).1)) else (g_M_goesOff y).1) := by
  by_cases c : z.se ≤ 255
  · have hy : g_M_goesOff y = (y, 0) := by unfold g_M_goesOff; rw [← h.1.2.1, if_neg (le255 c)]
    have hz : f_No_goOffIfTooMany (f_No_beginFlag z (f_No_isPassive z)) = f_No_beginFlag z (f_No_isPassive z) := by unfold f_No_goOffIfTooMany; rw [if_pos (show (f_No_beginFlag z (f_No_isPassive z)).se ≤ 255 from c)]
    rw [hy, hz, if_pos rfl, s_passive h]
    exact ⟨h, rfl, Or.inr (Or.inr (Or.inr (Or.inl ⟨rfl, ⟨ha.symm, hW⟩, pass01 y, nar_b (pass01 y), 0, by decide, rfl, rfl⟩)))⟩
  · have hy : g_M_goesOff y = ((((y.s3 7).s9 0).s27 0).s26 0, 1) := by unfold g_M_goesOff; rw [← h.1.2.1, if_pos (nle255 c)]
    have hz : f_No_goOffIfTooMany (f_No_beginFlag z (f_No_isPassive z)) = sNd.mk 7 z.was z.se z.he z.lo z.ma z.va z.sp z.dr (f_No_isPassive z) 0 0 0 (⟨z.w.row, 0⟩ : sFr) z.i z.d z.k z.r := by unfold f_No_goOffIfTooMany; rw [if_neg (show ¬ (f_No_beginFlag z (f_No_isPassive z)).se ≤ 255 from c)]; rfl
    rw [hy, hz, if_neg (show ¬ (1 : Int32) = 0 by decide)]
    exact s_off h rfl
theorem add0 (x : Int32) : x + 0 = x := Int32.add_zero x
theorem RC_he {t : Nat} {z : sNd} {y : sM} (h : RC t z y) (n : Nat) (hn : n ≤ 8) (v : Int32) (hv : v = nI n) (z2 : sNd) (hz : z2 = sNd.mk z2.st z.was z.se (z.he + v) z.lo z.ma z.va z2.sp z2.dr z2.pf z2.ss z2.on z2.ro z.w z.i z2.d z2.k z2.r) : RC (t + 1) z2 (y.s5 (y.r5 + v)) := by
  rw [hz]
  obtain ⟨h1, h2, h3, q, e, l⟩ := h
  refine ⟨⟨h1.1, h1.2.1, (show z.he + v = y.r5 + v by rw [h1.2.2.1]), h1.2.2.2⟩, h2, h3, q + n, (show z.he + v = nI (q + n) by rw [e, hv, nI_add]), by omega⟩
theorem RC_se {t : Nat} {z : sNd} {y : sM} (h : RC t z y) (v : Int32) (z2 : sNd) (hz : z2 = sNd.mk z2.st z.was (z.se + v) z.he z.lo z.ma z.va z2.sp z2.dr z2.pf z2.ss z2.on z2.ro z.w z.i z2.d z2.k z2.r) : RC (t + 1) z2 (y.s4 (y.r4 + v)) := by
  rw [hz]
  obtain ⟨h1, h2, h3, q, e, l⟩ := h
  exact ⟨⟨h1.1, (show z.se + v = y.r4 + v by rw [h1.2.1]), h1.2.2⟩, h2, h3, q, e, by omega⟩
theorem s4_id (y : sM) : y.s4 (y.r4 + 0) = y := by rw [add0]
theorem s5_id (y : sM) : y.s5 (y.r5 + 0) = y := by rw [add0]
theorem s_err2 {t : Nat} {z : sNd} {y : sM} {x : Int32} (h : RC t z y) (ha : z.was = 2) (hx : ¬ x = 6) : RS (t + 1) (f_No_err z x).1 (g_M_err y x 2) := by
  have hg : g_M_err y x 2 = (if (g_M_goesOff (y.s5 (y.r5 + 1))).2 = 0 then (g_M_flag (g_M_goesOff (y.s5 (y.r5 + 1))).1 2 (g_M_isPassive (g_M_goesOff (y.s5 (y.r5 + 1))).1)) else (g_M_goesOff (y.s5 (y.r5 + 1))).1) := by
    unfold g_M_err
    rw [if_neg (show ¬ (2 : Int32) = 1 by decide)]
  have hf : (f_No_err z x).1 = f_No_goOffIfTooMany (f_No_beginFlag (sNd.mk z.st z.was z.se (z.he + 1) z.lo z.ma z.va z.sp z.dr z.pf z.ss z.on z.ro z.w z.i z.d z.k z.r) (f_No_isPassive (sNd.mk z.st z.was z.se (z.he + 1) z.lo z.ma z.va z.sp z.dr z.pf z.ss z.on z.ro z.w z.i z.d z.k z.r))) := by
    unfold f_No_err
    rw [if_neg hx]
    unfold f_No_err_19
    rw [if_pos ha]
    unfold f_No_err_55
    rw [if_neg (show ¬ (1 : Int32) = 0 by decide)]
  rw [hg, hf]
  exact s_flagOff (RC_he h 1 (by decide) 1 rfl _ rfl) ha (Or.inr (Or.inr ha))
theorem s_err1 {t : Nat} {z : sNd} {y : sM} {x : Int32} (h : RC t z y) (ha : z.was = 1) : RS (t + 1) (f_No_err z x).1 (g_M_err y x 1) := by
  have h2 : ¬ z.was = 2 := by rw [ha]; decide
  have hf : ∀ v : Int32, (f_No_err_19 z x v).1 = f_No_goOffIfTooMany (f_No_beginFlag (if v = 0 then z else (sNd.mk z.st z.was (z.se + 8) z.he z.lo z.ma z.va z.sp z.dr z.pf z.ss z.on z.ro z.w z.i z.d z.k z.r)) (f_No_isPassive (if v = 0 then z else (sNd.mk z.st z.was (z.se + 8) z.he z.lo z.ma z.va z.sp z.dr z.pf z.ss z.on z.ro z.w z.i z.d z.k z.r)))) := by
    intro v
    unfold f_No_err_19
    rw [if_neg h2]
    by_cases c : v = 0
    · rw [if_pos c, if_pos c]; unfold f_No_err_55; rw [if_pos c]
    · rw [if_neg c, if_neg c]; unfold f_No_err_55; rw [if_neg c]
  have key8 := s_flagOff (RC_se h 8 (sNd.mk z.st z.was (z.se + 8) z.he z.lo z.ma z.va z.sp z.dr z.pf z.ss z.on z.ro z.w z.i z.d z.k z.r) rfl) ha (Or.inr (Or.inl ha))
  have key0 := s_flagOff (RC_t h) ha (Or.inr (Or.inl ha))
  unfold g_M_err f_No_err
  rw [if_pos rfl, s4_id]
  by_cases c6 : x = 6
  · rw [if_pos c6, if_pos c6, ← s_passive h]
    by_cases cp : f_No_isPassive z = 0
    · rw [if_pos cp, if_pos cp, hf 1, if_neg (show ¬ (1 : Int32) = 0 by decide)]
      exact key8
    · rw [if_neg cp, if_neg cp, hf 0, if_pos rfl]
      exact key0
  · rw [if_neg c6, if_neg c6, hf 1, if_neg (show ¬ (1 : Int32) = 0 by decide)]
    exact key8
/-- eight more, and off or not -/
theorem s_heavy {t : Nat} {z : sNd} {y : sM} (h : RC t z y) (ha : y.r24 = z.was) : (∀ z2 : sNd, True → (g_M_eightMore y).2 = 0 → RC (t + 1) (f_No_countHeavily z) (g_M_eightMore y).1 ∧ f_No_countHeavily z = sNd.mk z.st z.was (f_No_countHeavily z).se (f_No_countHeavily z).he z.lo z.ma z.va z.sp z.dr z.pf z.ss z.on z.ro z.w z.i z.d z.k z.r ∧ (g_M_eightMore y).1 = (y.s4 (g_M_eightMore y).1.r4).s5 (g_M_eightMore y).1.r5) ∧ (¬ (g_M_eightMore y).2 = 0 → RS (t + 1) (f_No_countHeavily z) (g_M_eightMore y).1) := by
  have key : ∀ (z1 : sNd) (y1 : sM), RC (t + 1) z1 y1 → f_No_countHeavily z = f_No_goOffIfTooMany z1 → g_M_eightMore y = g_M_goesOff y1 → z1 = sNd.mk z.st z.was z1.se z1.he z.lo z.ma z.va z.sp z.dr z.pf z.ss z.on z.ro z.w z.i z.d z.k z.r → y1 = (y.s4 y1.r4).s5 y1.r5 → ((∀ z2 : sNd, True → (g_M_eightMore y).2 = 0 → RC (t + 1) (f_No_countHeavily z) (g_M_eightMore y).1 ∧ f_No_countHeavily z = sNd.mk z.st z.was (f_No_countHeavily z).se (f_No_countHeavily z).he z.lo z.ma z.va z.sp z.dr z.pf z.ss z.on z.ro z.w z.i z.d z.k z.r ∧ (g_M_eightMore y).1 = (y.s4 (g_M_eightMore y).1.r4).s5 (g_M_eightMore y).1.r5) ∧ (¬ (g_M_eightMore y).2 = 0 → RS (t + 1) (f_No_countHeavily z) (g_M_eightMore y).1)) := by
    intro z1 y1 h1 e1 e2 e3 e4
    rw [e1, e2]
    by_cases c : z1.se ≤ 255
    · have hy : g_M_goesOff y1 = (y1, 0) := by unfold g_M_goesOff; rw [← h1.1.2.1, if_neg (le255 c)]
      have hz : f_No_goOffIfTooMany z1 = z1 := by unfold f_No_goOffIfTooMany; rw [if_pos c]
      rw [hy, hz]
      exact ⟨fun _ _ _ => ⟨h1, e3, e4⟩, fun h9 => absurd rfl h9⟩
    · have hy : g_M_goesOff y1 = ((((y1.s3 7).s9 0).s27 0).s26 0, 1) := by unfold g_M_goesOff; rw [← h1.1.2.1, if_pos (nle255 c)]
      have hz : f_No_goOffIfTooMany z1 = sNd.mk 7 z1.was z1.se z1.he z1.lo z1.ma z1.va z1.sp z1.dr z1.pf z1.ss 0 0 (⟨z1.w.row, 0⟩ : sFr) z1.i z1.d z1.k z1.r := by unfold f_No_goOffIfTooMany; rw [if_neg c]
      rw [hy, hz]
      exact ⟨fun _ _ h9 => absurd (show (1 : Int32) = 0 from h9) (by decide), fun _ => s_off h1 rfl⟩
  by_cases c1 : z.was = 1
  · refine key (sNd.mk z.st z.was (z.se + 8) z.he z.lo z.ma z.va z.sp z.dr z.pf z.ss z.on z.ro z.w z.i z.d z.k z.r) (y.s4 (y.r4 + 8)) (RC_se h 8 _ rfl) (by unfold f_No_countHeavily; rw [if_pos c1]) ?_ rfl rfl
    unfold g_M_eightMore
    rw [ha, if_pos c1, if_neg (show ¬ z.was = 2 by rw [c1]; decide), add0]
  · by_cases c2 : z.was = 2
    · refine key (sNd.mk z.st z.was z.se (z.he + 8) z.lo z.ma z.va z.sp z.dr z.pf z.ss z.on z.ro z.w z.i z.d z.k z.r) (y.s5 (y.r5 + 8)) (RC_he h 8 (by decide) 8 rfl _ rfl) (by unfold f_No_countHeavily; rw [if_neg c1, if_pos c2]) ?_ rfl rfl
      unfold g_M_eightMore
      rw [ha, if_neg c1, if_pos c2, add0]
    · refine key z y (RC_t h) (by unfold f_No_countHeavily; rw [if_neg c1, if_neg c2]) ?_ rfl rfl
      unfold g_M_eightMore
      rw [ha, if_neg c1, if_neg c2, add0, add0]
