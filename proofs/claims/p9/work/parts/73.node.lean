/-! A node's bit time, side by side. -/
theorem least_g {row wi : Nat → Int32} {k : Nat} (h : ∀ q, q < k → f_Fr_idOf (row q) = wi q) : ∀ d i m : Nat, i + d ≤ k → m < k → leastF row d i m = gbst wi d i m := by
  intro d
  induction d with
  | zero => intro i m _ _; rfl
  | succ d ih =>
    intro i m h1 h2
    show leastF row d (i + 1) (if f_Fr_idOf (row m) ≤ f_Fr_idOf (row i) then m else i) = gbst wi d (i + 1) (if wi m ≤ wi i then m else i)
    rw [h m h2, h i (by omega)]
    by_cases c : wi m ≤ wi i
    · rw [if_pos c]; exact ih (i + 1) m (by omega) h2
    · rw [if_neg c]; exact ih (i + 1) i (by omega) (by omega)
theorem s_begin {t : Nat} {z : sNd} {y : sM} (h : RC t z y) (hk : 0 < z.w.k) : RS t (f_No_beginToSend z) (g_M_begin y) ∧ (f_No_beginToSend z).st = 1 := by
  obtain ⟨b1, ⟨w1, w2, w3⟩, b3, b4⟩ := h
  have hid : ∀ q, q < z.w.k → f_Fr_idOf (z.w.row q) = y.wi q := by
    intro q hq
    obtain ⟨⟨i, b, d, o1, o2, o3, o4, o5, o6⟩, o7⟩ := w3 q hq
    obtain ⟨_, e1, e2, _, _⟩ := pk3 o4 o5 o6
    rw [o7, o1, o2, o3, e1, e2]
  have hle : f_Fr_placeOfLeastId z.w = gbst y.wi (z.w.k - 1) 1 0 := least_g hid (z.w.k - 1) 1 0 (by omega) hk
  have hlt : f_Fr_placeOfLeastId z.w < z.w.k := leastF_lt z.w.row (z.w.k - 1) 1 0 z.w.k hk (by omega)
  have h13 : (gbst y.wi (y.r9.toNatClampNeg - 1) 1 0) = f_Fr_placeOfLeastId z.w := by rw [w1, nI_clamp (by omega), hle]
  obtain ⟨c, hcd⟩ : ∃ c : Nat, f_Fr_placeOfLeastId z.w = c := ⟨_, rfl⟩
  rw [hcd] at hlt h13
  have hat : f_Fr_at z.w (nI c) = z.w.row c := by
    unfold f_Fr_at
    rw [if_neg (nI_pos (by omega)), if_neg (nI_ge hlt (by omega)), nI_clamp (by omega)]
  obtain ⟨⟨i, b, d, o1, o2, o3, o4, o5, o6⟩, o7⟩ := w3 c hlt
  obtain ⟨s1, s2⟩ := core_spec z.k o4 o5 o6
  have hb0 : b / 2 ^ (19 - 0) = 0 := Nat.div_eq_of_lt (Nat.lt_of_lt_of_le (show b < 4 by omega) (by decide))
  have hz : f_No_beginToSend z = sNd.mk 1 1 z.se z.he z.lo z.ma z.va (nI c) z.dr z.pf z.ss z.on z.ro z.w z.i z.d (f_Co_write z.k (f_Fr_packed (nI i) (nI b) (nI d))) (sRe.mk 0 50 1 0 0 0 0 0) := by
    unfold f_No_beginToSend
    rw [hcd, hat, o7, o1, o2, o3]
    rfl
  refine ⟨?_, rfl⟩
  unfold g_M_begin
  rw [h13, hz]
  generalize f_Co_write z.k (f_Fr_packed (nI i) (nI b) (nI d)) = K at *
  exact ⟨⟨⟨rfl, b1.2⟩, ⟨w1, w2, w3⟩, b3, b4⟩, rfl, Or.inr (Or.inl ⟨rfl, rfl, ⟨rfl, rfl, rfl, rfl, 0, 0, 0, rfl, rfl, rfl, rfl, Or.inl ⟨rfl, rfl, by decide, by decide, fun h => absurd h (by decide), Or.inl ⟨by decide, rfl, by decide⟩⟩⟩, c, i, b, d, 0, rfl, rfl, hlt, o1, o2, o3, o4, o5, o6, s1, rfl, by omega, (show (0 : Int32) = nI (b / 2 ^ (19 - 0)) by rw [hb0]; rfl), fun _ => rfl, s2⟩)⟩
theorem s_level {t : Nat} {z : sNd} {y : sM} (h : RS t z y) : f_No_levelToDrive z = g_M_driven y ∧ (∃ n : Nat, n ≤ 1 ∧ f_No_levelToDrive z = nI n) ∧ (z.st = 1 → f_No_levelToDrive z = f_No_nextBit z) := by
  obtain ⟨hC, h3, hM⟩ := h
  have oth : ∀ v : Int32, z.st = v → ¬ v = 1 → ¬ v = 2 → ¬ v = 3 → f_No_levelToDrive z = g_M_driven y ∧ (∃ n : Nat, n ≤ 1 ∧ f_No_levelToDrive z = nI n) ∧ (z.st = 1 → f_No_levelToDrive z = f_No_nextBit z) := by
    intro v hv n1 n2 n3
    have e1 : f_No_levelToDrive z = 1 := by unfold f_No_levelToDrive; rw [hv, if_neg n1, if_neg n2, if_neg n3]
    have e2 : g_M_driven y = 1 := by unfold g_M_driven; rw [← h3, hv, if_neg n1, if_neg n2, if_neg n3]
    exact ⟨by rw [e1, e2], ⟨1, by decide, e1⟩, fun h9 => absurd (hv.symm.trans h9) n1⟩
  rcases hM with h0 | ⟨h1, hw, hR, hX⟩ | ⟨h2, hw, hR⟩ | ⟨hs, hF⟩ | ⟨h4, _⟩ | ⟨h5, _⟩ | ⟨h6, _⟩ | ⟨h7, _⟩
  · exact oth 0 h0 (by decide) (by decide) (by decide)
  · obtain ⟨n1, n2, n3⟩ := s_next hC.2.1.2.1 hR hX (h3.symm.trans h1)
    have e1 : f_No_levelToDrive z = f_No_nextBit z := by unfold f_No_levelToDrive; rw [if_pos h1]
    rw [e1]
    exact ⟨n1, n2, fun _ => rfl⟩
  · have e1 : f_No_levelToDrive z = if f_Re_isAtAnswer z.r = 0 then 1 else if f_Re_isRight z.r = 0 then 1 else 0 := by unfold f_No_levelToDrive; rw [h2, if_neg (show ¬ (2 : Int32) = 1 by decide), if_pos rfl]
    have e2 : g_M_driven y = if y.r16 = 2 then (if y.r20 = 0 then 0 else 1) else 1 := by unfold g_M_driven; rw [← h3, h2, if_neg (show ¬ (2 : Int32) = 1 by decide), if_pos rfl]
    rw [e1, e2]
    obtain ⟨hg, hi, hbb, hd, p, e, b, hp, he, hye, hb, hph⟩ := hR
    rcases hph with ⟨h16, hyp, he5, hep, hl, hph⟩ | ⟨m, m1, m10, h16, hb2, hc, hpm, he4⟩
    · have hb0 : f_Re_isBehindCore z.r = 0 := by
        by_cases c5 : e = 5
        · exact beh_p (pad_1 (by rw [he, c5]))
        · rcases hph with ⟨q1, q2, q3⟩ | ⟨q1, q2, q3, q4⟩
          · exact beh_0 hp (show z.r.c = nI 50 from q2) (by omega) (by decide)
          · exact beh_0 hp q3 (by omega) (by omega)
      have hans : f_Re_isAtAnswer z.r = 0 := by unfold f_Re_isAtAnswer; rw [if_pos hb0]
      rw [if_pos hans, h16, if_neg (show ¬ (0 : Int32) = 2 by decide)]
      exact ⟨rfl, ⟨1, by decide, rfl⟩, fun h9 => absurd (h2.symm.trans h9) (by decide)⟩
    · have hpad := pad_0 he (by omega)
      have hbeh := beh_1 hp hc (by omega) (by omega) hpad
      have hsub : z.r.p - z.r.c = nI (m - 1) := by rw [hp, hc, pk_sub (by omega), show p - (34 + 8 * b) = m - 1 by omega]
      by_cases c2 : m = 2
      · have hans : f_Re_isAtAnswer z.r = 1 := by
          unfold f_Re_isAtAnswer
          rw [hbeh, if_neg (show ¬ (1 : Int32) = 0 by decide), hsub, c2, if_pos (show nI (2 - 1) = 1 from rfl)]
        rw [hans, if_neg (show ¬ (1 : Int32) = 0 by decide), h16, c2, if_pos (show nI 2 = 2 from rfl)]
        unfold f_Re_isRight
        rw [hg]
        by_cases c0 : y.r20 = 0
        · rw [if_pos c0, if_neg (show ¬ (1 : Int32) = 0 by decide), if_pos c0]
          exact ⟨rfl, ⟨0, by decide, rfl⟩, fun h9 => absurd (h2.symm.trans h9) (by decide)⟩
        · rw [if_neg c0, if_pos rfl, if_neg c0]
          exact ⟨rfl, ⟨1, by decide, rfl⟩, fun h9 => absurd (h2.symm.trans h9) (by decide)⟩
      · have hans : f_Re_isAtAnswer z.r = 0 := by
          unfold f_Re_isAtAnswer
          rw [hbeh, if_neg (show ¬ (1 : Int32) = 0 by decide), hsub, if_neg (show ¬ nI (m - 1) = 1 from fun h9 => absurd ((nI_eq (a := m - 1) (b := 1) (by omega) (by decide)).mp h9) (by omega))]
        rw [if_pos hans, h16, if_neg (show ¬ nI m = 2 from fun h9 => c2 ((nI_eq (a := m) (b := 2) (by omega) (by decide)).mp h9))]
        exact ⟨rfl, ⟨1, by decide, rfl⟩, fun h9 => absurd (h2.symm.trans h9) (by decide)⟩
  · obtain ⟨f1, f2, f3, f4⟩ := hF
    have e1 : f_No_levelToDrive z = if z.pf = 0 then 0 else 1 := by unfold f_No_levelToDrive; rw [hs, if_neg (show ¬ (3 : Int32) = 1 by decide), if_neg (show ¬ (3 : Int32) = 2 by decide), if_pos rfl]
    have e2 : g_M_driven y = if z.pf = 0 then 0 else 1 := by unfold g_M_driven; rw [← h3, hs, f3, if_neg (show ¬ (3 : Int32) = 1 by decide), if_neg (show ¬ (3 : Int32) = 2 by decide), if_pos rfl]
    rw [e1, e2]
    refine ⟨rfl, ?_, fun h9 => absurd (hs.symm.trans h9) (by decide)⟩
    by_cases c0 : z.pf = 0
    · rw [if_pos c0]; exact ⟨0, by decide, rfl⟩
    · rw [if_neg c0]; exact ⟨1, by decide, rfl⟩
  · exact oth 4 h4 (by decide) (by decide) (by decide)
  · exact oth 5 h5 (by decide) (by decide) (by decide)
  · exact oth 6 h6 (by decide) (by decide) (by decide)
  · exact oth 7 h7 (by decide) (by decide) (by decide)
def gpre (y : sM) : sM := if y.r3 = 0 then (if y.r9 ≤ 0 then y else g_M_begin y) else y
theorem s_drive21 {t : Nat} {z : sNd} {y : sM} (h : RS t z y) : RS t (f_No_drive_21 z).1 (y.s29 (g_M_driven y)) ∧ (f_No_drive_21 z).2 = g_M_driven y ∧ (∃ n : Nat, n ≤ 1 ∧ g_M_driven y = nI n) ∧ (f_No_drive_21 z).1.dr = g_M_driven y ∧ ((f_No_drive_21 z).1.st = 1 → (f_No_drive_21 z).1.dr = f_No_nextBit (f_No_drive_21 z).1) ∧ (f_No_drive_21 z).1.d = z.d := by
  obtain ⟨e1, ⟨n, e2, e3⟩, e4⟩ := s_level h
  exact ⟨h, e1, ⟨n, e2, e1.symm.trans e3⟩, e1, fun h9 => e4 h9, rfl⟩
theorem s_drive {t : Nat} {z : sNd} {y : sM} (h : RS t z y) : RS t (f_No_drive z).1 ((gpre y).s29 (g_M_driven (gpre y))) ∧ (f_No_drive z).2 = g_M_driven (gpre y) ∧ (∃ n : Nat, n ≤ 1 ∧ g_M_driven (gpre y) = nI n) ∧ (f_No_drive z).1.dr = g_M_driven (gpre y) ∧ ((f_No_drive z).1.st = 1 → (f_No_drive z).1.dr = f_No_nextBit (f_No_drive z).1) ∧ (f_No_drive z).1.d = z.d := by
  unfold f_No_drive gpre
  rw [← h.2.1, h.1.2.1.1]
  by_cases c0 : z.st = 0
  · rw [if_pos c0, if_pos c0]
    by_cases c1 : nI z.w.k ≤ 0
    · rw [if_pos c1, if_pos c1]; exact s_drive21 h
    · rw [if_neg c1, if_neg c1]
      have hk : 0 < z.w.k := by
        rcases Nat.lt_or_ge 0 z.w.k with q | q
        · exact q
        · exact absurd (show nI z.w.k ≤ 0 from nI_le (b := 0) q (by decide)) c1
      exact s_drive21 (s_begin h.1 hk).1
  · rw [if_neg c0, if_neg c0]; exact s_drive21 h
theorem s_see {t : Nat} (ht : t < 2 ^ 25) {z : sNd} {y : sM} {x : Int32} {xn : Nat} (h : RS t z y) (hx : x = nI xn) (hxn : xn ≤ 1) (hdd : z.dr = y.r29) (hdr : z.st = 1 → z.dr = f_No_nextBit z) : RS (t + 2) (f_No_see_18 z x).1 (g_M_see y x) := by
  obtain ⟨hC, h3, hM⟩ := h
  unfold f_No_see_18 g_M_see
  rw [← h3]
  rcases hM with h0 | ⟨h1, hw, hR, hX⟩ | ⟨h2, hw, hR⟩ | ⟨hs, hF⟩ | ⟨h4, hA⟩ | ⟨h5, hP⟩ | ⟨h6, hU⟩ | ⟨h7, hO⟩
  · rw [h0, if_neg (show ¬ (0 : Int32) = 1 by decide), if_neg (show ¬ (0 : Int32) = 2 by decide), if_neg (show ¬ (0 : Int32) = 3 by decide), if_neg (show ¬ (0 : Int32) = 4 by decide), if_neg (show ¬ (0 : Int32) = 5 by decide), if_neg (show ¬ (0 : Int32) = 6 by decide), if_neg (show ¬ (0 : Int32) = 7 by decide), if_neg (show ¬ (0 : Int32) = 1 by decide), if_neg (show ¬ (0 : Int32) = 2 by decide), if_neg (show ¬ (0 : Int32) = 3 by decide), if_neg (show ¬ (0 : Int32) = 4 by decide), if_neg (show ¬ (0 : Int32) = 5 by decide), if_neg (show ¬ (0 : Int32) = 6 by decide), if_neg (show ¬ (0 : Int32) = 7 by decide)]
    by_cases c : x = 0
    · rw [if_pos c, if_pos c]; exact RS_t (RS_t (s_start hC))
    · rw [if_neg c, if_neg c]; exact RS_t (RS_t ⟨hC, h3, Or.inl h0⟩)
  · rw [if_pos h1, if_pos h1]
    exact RS_t (s_sending ht hC h1 h3 hw hx hxn hR hX hdd (hdr h1))
  · rw [if_neg (show ¬ z.st = 1 by rw [h2]; decide), if_neg (show ¬ z.st = 1 by rw [h2]; decide), if_pos h2, if_pos h2]
    exact RS_t (s_hearing ht hC h2 h3 hw hx hxn hR)
  · rw [if_neg (show ¬ z.st = 1 by rw [hs]; decide), if_neg (show ¬ z.st = 1 by rw [hs]; decide), if_neg (show ¬ z.st = 2 by rw [hs]; decide), if_neg (show ¬ z.st = 2 by rw [hs]; decide), if_pos hs, if_pos hs]
    exact RS_t (s_flag hC hs h3 hF hdd)
  · rw [if_neg (show ¬ z.st = 1 by rw [h4]; decide), if_neg (show ¬ z.st = 1 by rw [h4]; decide), if_neg (show ¬ z.st = 2 by rw [h4]; decide), if_neg (show ¬ z.st = 2 by rw [h4]; decide), if_neg (show ¬ z.st = 3 by rw [h4]; decide), if_neg (show ¬ z.st = 3 by rw [h4]; decide), if_pos h4, if_pos h4]
    exact s_after hC h4 h3 hA
  · rw [if_neg (show ¬ z.st = 1 by rw [h5]; decide), if_neg (show ¬ z.st = 1 by rw [h5]; decide), if_neg (show ¬ z.st = 2 by rw [h5]; decide), if_neg (show ¬ z.st = 2 by rw [h5]; decide), if_neg (show ¬ z.st = 3 by rw [h5]; decide), if_neg (show ¬ z.st = 3 by rw [h5]; decide), if_neg (show ¬ z.st = 4 by rw [h5]; decide), if_neg (show ¬ z.st = 4 by rw [h5]; decide), if_pos h5, if_pos h5]
    exact RS_t (RS_t (s_pause hC h5 h3 hP))
  · rw [if_neg (show ¬ z.st = 1 by rw [h6]; decide), if_neg (show ¬ z.st = 1 by rw [h6]; decide), if_neg (show ¬ z.st = 2 by rw [h6]; decide), if_neg (show ¬ z.st = 2 by rw [h6]; decide), if_neg (show ¬ z.st = 3 by rw [h6]; decide), if_neg (show ¬ z.st = 3 by rw [h6]; decide), if_neg (show ¬ z.st = 4 by rw [h6]; decide), if_neg (show ¬ z.st = 4 by rw [h6]; decide), if_neg (show ¬ z.st = 5 by rw [h6]; decide), if_neg (show ¬ z.st = 5 by rw [h6]; decide), if_pos h6, if_pos h6]
    exact RS_t (RS_t (s_susp hC h6 h3 hU))
  · rw [if_neg (show ¬ z.st = 1 by rw [h7]; decide), if_neg (show ¬ z.st = 1 by rw [h7]; decide), if_neg (show ¬ z.st = 2 by rw [h7]; decide), if_neg (show ¬ z.st = 2 by rw [h7]; decide), if_neg (show ¬ z.st = 3 by rw [h7]; decide), if_neg (show ¬ z.st = 3 by rw [h7]; decide), if_neg (show ¬ z.st = 4 by rw [h7]; decide), if_neg (show ¬ z.st = 4 by rw [h7]; decide), if_neg (show ¬ z.st = 5 by rw [h7]; decide), if_neg (show ¬ z.st = 5 by rw [h7]; decide), if_neg (show ¬ z.st = 6 by rw [h7]; decide), if_neg (show ¬ z.st = 6 by rw [h7]; decide), if_pos h7, if_pos h7]
    exact RS_t (RS_t (s_offT hC h7 h3 hO))
