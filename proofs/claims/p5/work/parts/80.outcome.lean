/-! The frames sent, side by side. -/
theorem t1_sent (A : Nat → Nat → Int32) (j : Nat) (hj : j < 4) : f_M_sentFrame A j 0 1 = A 0 1 + 1 := by
  have key : ∀ (d i : Nat) (f4 f9 : Nat → Int32), f_M_rest (sh3 d i (setA (setA (setA A 0 (upd (A 0) 1 (A 0 1 + 1))) 4 f4) 9 f9)) j 0 1 = A 0 1 + 1 := by
    intro d i f4 f9
    refine (t1_M_rest _ j hj).trans ?_
    rw [sh3_o (show (0 : Nat) ≠ 10 ∧ 0 ≠ 11 ∧ 0 ≠ 12 by decide)]
    exact (show upd (A 0) 1 (A 0 1 + 1) 1 = A 0 1 + 1 from pk_us)
  unfold f_M_sentFrame
  by_cases c : A 4 j ≤ 0
  · rw [if_pos c]; exact key _ _ _ _
  · rw [if_neg c]; exact key _ _ _ _
theorem t1_send86 (A : Nat → Nat → Int32) (j : Nat) (hj : j < 4) (x : Int32) : f_M_send_86 A j x 0 1 = if A 16 j = 10 ∧ x = A 29 j then A 0 1 + 1 else A 0 1 := by
  unfold f_M_send_86
  by_cases c2 : A 16 j = 2
  · have n10 : ¬ A 16 j = 10 := by rw [c2]; decide
    have n0 : ¬ A 16 j = 0 := by rw [c2]; decide
    rw [if_pos c2, if_neg (show ¬ (A 16 j = 10 ∧ x = A 29 j) from fun h => n10 h.1)]
    by_cases c1 : x = 1
    · rw [if_pos c1]; exact t1_M_err A j hj 6 1 (by decide)
    · rw [if_neg c1, if_neg n0, if_neg n10]; rfl
  · rw [if_neg c2]
    by_cases cx : x = A 29 j
    · rw [if_pos cx]
      by_cases c0 : A 16 j = 0
      · rw [if_pos c0, if_neg (show ¬ (A 16 j = 10 ∧ x = A 29 j) from fun h => absurd (c0.symm.trans h.1) (by decide))]
        exact t1_M_readCore A j hj x
      · rw [if_neg c0]
        by_cases c10 : A 16 j = 10
        · rw [if_pos c10, if_pos ⟨c10, cx⟩]; exact t1_sent A j hj
        · rw [if_neg c10, if_neg (fun h => c10 h.1)]; rfl
    · rw [if_neg cx, if_neg (fun h => cx h.2)]
      exact t1_M_err A j hj 2 1 (by decide)
theorem t1_send (A : Nat → Nat → Int32) (j : Nat) (hj : j < 4) (x : Int32) : f_M_send A j x 0 1 = if A 16 j = 10 ∧ x = A 29 j then A 0 1 + 1 else A 0 1 := by
  have k := t1_send86 A j hj x
  unfold f_M_send
  by_cases c0 : A 16 j = 0
  · rw [if_pos c0]
    by_cases c1 : 5 ≤ A 18 j
    · rw [if_pos c1]; exact k
    · rw [if_neg c1]
      by_cases c2 : A 17 j ≤ 0
      · rw [if_pos c2]; exact k
      · rw [if_neg c2]
        by_cases c3 : 12 ≤ A 17 j
        · rw [if_pos c3]; exact k
        · rw [if_neg c3]
          by_cases c4 : A 29 j = 1
          · rw [if_pos c4]
            by_cases c5 : x = 0
            · rw [if_pos c5, if_neg (show ¬ (A 16 j = 10 ∧ x = A 29 j) from fun h => absurd (c0.symm.trans h.1) (by decide))]
              exact t1_M_hear _ j hj x
            · rw [if_neg c5]; exact k
          · rw [if_neg c4]; exact k
  · rw [if_neg c0]; exact k
theorem t1_see (A : Nat → Nat → Int32) (j : Nat) (hj : j < 4) (x : Int32) : f_M_see A j x 0 1 = if A 3 j = 1 ∧ A 16 j = 10 ∧ x = A 29 j then A 0 1 + 1 else A 0 1 := by
  unfold f_M_see
  by_cases c1 : A 3 j = 1
  · rw [if_pos c1, t1_send A j hj x]
    by_cases c : A 16 j = 10 ∧ x = A 29 j
    · rw [if_pos c, if_pos ⟨c1, c⟩]
    · rw [if_neg c, if_neg (fun h => c h.2)]
  · rw [if_neg c1, if_neg (show ¬ (A 3 j = 1 ∧ A 16 j = 10 ∧ x = A 29 j) from fun h => c1 h.1)]
    by_cases c2 : A 3 j = 2
    · rw [if_pos c2]; exact t1_M_hear A j hj x
    · rw [if_neg c2]
      by_cases c3 : A 3 j = 3
      · rw [if_pos c3]; exact t1_M_flagging A j hj x
      · rw [if_neg c3]
        by_cases c4 : A 3 j = 4
        · rw [if_pos c4]; exact t1_M_goAfter A j hj x
        · rw [if_neg c4]
          by_cases c5 : A 3 j = 5
          · rw [if_pos c5]; exact t1_M_pausing A j hj x
          · rw [if_neg c5]
            by_cases c6 : A 3 j = 6
            · rw [if_pos c6]
              by_cases c7 : x = 0
              · rw [if_pos c7]; exact t1_M_start A j hj
              · rw [if_neg c7]
                by_cases c8 : A 26 j + 1 = 8
                · rw [if_pos c8]; rfl
                · rw [if_neg c8]; rfl
            · rw [if_neg c6]
              by_cases c7 : A 3 j = 7
              · rw [if_pos c7]; exact t1_M_offTime A j hj x
              · rw [if_neg c7]
                by_cases c8 : x = 0
                · rw [if_pos c8]; exact t1_M_start A j hj
                · rw [if_neg c8]
theorem t1_mlp1 : ∀ (d j : Nat) (A : Nat → Nat → Int32) (a : Int32), j + d ≤ 4 → (mlp1 d j A a).1 0 1 = A 0 1 := by
  intro d
  induction d with
  | zero => intro j A a _; rfl
  | succ d ih =>
    intro j A a h
    refine (ih (j + 1) (st1 A j) _ (by omega)).trans ?_
    show pre1 A j 0 1 = A 0 1
    unfold pre1
    by_cases c : A 3 j = 0
    · rw [if_pos c]
      by_cases c1 : A 9 j ≤ 0
      · rw [if_pos c1]
      · rw [if_neg c1]; exact t1_M_open _ j (by omega) 1
    · rw [if_neg c]
/-! the class's outcome -/
theorem o_err (z : sNd) {e : Int32} (he : ¬ e = 1) : ¬ (f_No_err z e).2 = 1 := by
  have k55 : ∀ (z1 : sNd) (v : Int32), ¬ (f_No_err_55 z1 e v).2 = 1 := by
    intro z1 v
    unfold f_No_err_55
    split
    · exact (show ¬ (0 : Int32) = 1 by decide)
    · exact he
  have k19 : ∀ (v : Int32), ¬ (f_No_err_19 z e v).2 = 1 := by
    intro v
    unfold f_No_err_19
    split
    · exact k55 _ _
    · split
      · exact k55 _ _
      · exact k55 _ _
  unfold f_No_err
  split
  · split
    · exact k19 _
    · exact k19 _
  · exact k19 _
theorem n01 : ¬ (0 : Int32) = 1 := by decide
theorem n71 : ¬ (7 : Int32) = 1 := by decide
theorem o_endH (z : sNd) (x : Int32) : ¬ (f_No_endHearing z x).2 = 1 := by
  have k52 : ∀ z1 : sNd, ¬ (f_No_endHearing_52 z1 x).2 = 1 := by
    intro z1
    unfold f_No_endHearing_52
    split
    · exact n71
    · exact n01
  have k22 : ∀ z1 : sNd, ¬ (f_No_endHearing_22 z1 x).2 = 1 := by
    intro z1
    unfold f_No_endHearing_22
    split
    · exact k52 _
    · exact k52 _
  unfold f_No_endHearing
  split
  · exact k22 _
  · exact k22 _
theorem eo_n1 (r : sRe) (x : Int32) : ¬ f_Re_errorOf r x = 1 := by
  have kb : ∀ a : Int32, ¬ f_Re_errorBehindCore r a x = 1 := by
    intro a
    unfold f_Re_errorBehindCore
    repeat' split
    all_goals decide
  unfold f_Re_errorOf
  split
  · split
    · repeat' split
      all_goals decide
    · exact kb _
  · split
    · decide
    · decide
theorem o_seeH (z : sNd) (x : Int32) : ¬ (f_No_seeHearing z x).2 = 1 := by
  unfold f_No_seeHearing
  split
  · split
    · exact n01
    · exact o_endH _ _
  · exact o_err z (eo_n1 _ _)
theorem o_seeF (z : sNd) (x : Int32) : ¬ (f_No_seeInFlag z x).2 = 1 := by
  unfold f_No_seeInFlag
  repeat' split
  all_goals exact n01
theorem o_seeA (z : sNd) (x : Int32) : ¬ (f_No_seeAfter z x).2 = 1 := by
  unfold f_No_seeAfter
  split
  · split
    · exact n01
    · exact n01
  · split
    · repeat' split
      all_goals exact n01
    · split
      · exact n71
      · exact o_err z (by decide)
theorem o_seeP (z : sNd) (x : Int32) : ¬ (f_No_seeInPause z x).2 = 1 := by
  unfold f_No_seeInPause
  split
  · split
    · exact n01
    · exact n71
  · repeat' split
    all_goals exact n01
theorem o_seeU (z : sNd) (x : Int32) : ¬ (f_No_seeSuspended z x).2 = 1 := by
  unfold f_No_seeSuspended
  repeat' split
  all_goals exact n01
theorem o_seeO (z : sNd) (x : Int32) : ¬ (f_No_seeOff z x).2 = 1 := by
  unfold f_No_seeOff
  repeat' split
  all_goals exact n01
theorem o_endS (z : sNd) : (f_No_endSending z).2 = 1 := by
  unfold f_No_endSending
  split <;> rfl
theorem o_63 {z : sNd} {x : Int32} : ((f_No_seeSending_63 z x).2 = 1) ↔ ¬ f_Re_isAtEnd (f_Re_read z.r x) = 0 := by
  unfold f_No_seeSending_63
  by_cases c : f_Re_isAtEnd (f_Re_read z.r x) = 0
  · rw [if_pos c]; exact ⟨fun h => absurd h n01, fun h => absurd c h⟩
  · rw [if_neg c]; exact ⟨fun _ => c, fun _ => o_endS _⟩
theorem end_core {r : sRe} {x : Int32} {p e b xn : Nat} (hx : x = nI xn) (hxn : xn ≤ 1) (hp : r.p = nI p) (he : r.e = nI e) (he5 : e ≤ 5) (hb : r.b = nI b) (hb8 : b < 8) (hph : (p < 19 ∧ r.c = 50) ∨ (19 ≤ p ∧ r.c = nI (34 + 8 * b) ∧ (p < 34 + 8 * b ∨ (p = 34 + 8 * b ∧ e = 5)))) : f_Re_isAtEnd (f_Re_read r x) = 0 := by
  have hpl : p < 200 := by rcases hph with h | h <;> omega
  by_cases c5 : e = 5
  · have hpad : f_Re_padIsDue r = 1 := pad_1 (by rw [he, c5])
    have hread : f_Re_read r x = sRe.mk r.p r.c x 1 r.g r.i r.b r.d := by unfold f_Re_read; rw [hpad, if_neg (show ¬ (1 : Int32) = 0 by decide)]
    rw [hread]
    rcases hph with ⟨q1, q2⟩ | ⟨q1, q2, q3⟩
    · exact end_0 (r := sRe.mk r.p r.c x 1 r.g r.i r.b r.d) hp (show r.c = nI 50 from q2) (by omega) (by decide)
    · exact end_0 (r := sRe.mk r.p r.c x 1 r.g r.i r.b r.d) hp q2 (by omega) (by omega)
  · have hpad := pad_0 he (by omega)
    have hbeh : f_Re_isBehindCore r = 0 := by
      rcases hph with ⟨q1, q2⟩ | ⟨q1, q2, q3⟩
      · exact beh_0 hp (show r.c = nI 50 from q2) (by omega) (by decide)
      · exact beh_0 hp q2 (by omega) (by omega)
    have hread : f_Re_read r x = f_Re_readCore r x := by unfold f_Re_read; rw [if_pos hpad, if_pos hbeh]
    have e2 := c_rc (x := x) (show p < 1000 by omega) hp he hb (show b < 100 by omega) (x01 hx hxn)
    have e5 := c142 (r := sRe.mk r.p r.c x (nI (nE p e (x = r.l))) (f_Co_registerBehind r.g x) (ni p r.i x) (nb p r.b x) (nd p b r.d x)) (x := x) (show p < 1000 by omega) hp
    rw [hread, e2, e5]
    have eb : nb p r.b x = nI (if 15 ≤ p ∧ p < 19 then 2 * b + xn else b) := by rw [hb, hx]; exact nb_nI
    by_cases c18 : p = 18
    · have hlen : f_Co_lengthFor (nb p r.b x) = nI (34 + 8 * (2 * b + xn)) := by
        rw [eb, if_pos ⟨by omega, by omega⟩]
        unfold f_Co_lengthFor
        rw [show (8 : Int32) * nI (2 * b + xn) = nI (8 * (2 * b + xn)) from pk_mul 8 _, show (19 : Int32) + nI (8 * (2 * b + xn)) = nI (19 + 8 * (2 * b + xn)) from nI_add 19 _, show nI (19 + 8 * (2 * b + xn)) + 15 = nI (19 + 8 * (2 * b + xn) + 15) from nI_add _ 15]
        congr 1
        omega
      refine end_0 (p := p + 1) (c := 34 + 8 * (2 * b + xn)) rfl ?_ (by omega) (by omega)
      show (if p = 18 then f_Co_lengthFor (nb p r.b x) else r.c) = _
      rw [if_pos c18]; exact hlen
    · rcases hph with ⟨q1, q2⟩ | ⟨q1, q2, q3⟩
      · refine end_0 (p := p + 1) (c := 50) rfl ?_ (by omega) (by decide)
        show (if p = 18 then f_Co_lengthFor (nb p r.b x) else r.c) = _
        rw [if_neg c18]; exact q2
      · refine end_0 (p := p + 1) (c := 34 + 8 * b) rfl ?_ (by omega) (by omega)
        show (if p = 18 then f_Co_lengthFor (nb p r.b x) else r.c) = _
        rw [if_neg c18]; exact q2
theorem o_seeS {z : sNd} {y : sM} {x : Int32} {xn : Nat} (hx : x = nI xn) (hxn : xn ≤ 1) (hR : RR z.r y) (hdd : z.dr = y.r29) : ((f_No_seeSending z x).2 = 1) ↔ (y.r16 = 10 ∧ x = y.r29) := by
  obtain ⟨hg, hi, hbb, hd, p, e, b, hp, he, hye, hb, hph⟩ := hR
  rcases hph with ⟨h16, hyp, he5, hep, hl, hph⟩ | ⟨m, m1, m10, h16, hb2, hc, hpm, he4⟩
  · have hb8 : b < 8 := by
      rcases hph with ⟨q1, q2, q3⟩ | ⟨q1, q2, q3, q4⟩
      · exact Nat.lt_of_lt_of_le q3 (p2_le q1)
      · omega
    have hend := end_core hx hxn hp he he5 hb hb8 (by
      rcases hph with ⟨q1, q2, q3⟩ | ⟨q1, q2, q3, q4⟩
      · exact Or.inl ⟨q1, q2⟩
      · exact Or.inr ⟨q1, q3, q4⟩)
    have hb0 : f_Re_isBehindCore z.r = 0 := by
      by_cases c5 : e = 5
      · exact beh_p (pad_1 (by rw [he, c5]))
      · rcases hph with ⟨q1, q2, q3⟩ | ⟨q1, q2, q3, q4⟩
        · exact beh_0 hp (show z.r.c = nI 50 from q2) (by omega) (by decide)
        · exact beh_0 hp q3 (by omega) (by omega)
    have hans : f_Re_isAtAnswer z.r = 0 := by unfold f_Re_isAtAnswer; rw [if_pos hb0]
    have h63 : ∀ z1 : sNd, z1.r = z.r → ¬ (f_No_seeSending_63 z1 x).2 = 1 := fun z1 h1 h9 => (o_63.mp h9) (by rw [h1]; exact hend)
    refine ⟨fun h9 => absurd h9 ?_, fun h9 => absurd (h16.symm.trans h9.1) (by decide)⟩
    unfold f_No_seeSending
    rw [if_pos hans]
    split
    · exact h63 z rfl
    · split
      · exact o_err z (by decide)
      · split
        · exact o_err z (by decide)
        · exact h63 _ rfl
  · have hpad := pad_0 he (by omega)
    have hbeh := beh_1 hp hc (by omega) (by omega) hpad
    have hsub : z.r.p - z.r.c = nI (m - 1) := by rw [hp, hc, pk_sub (by omega), show p - (34 + 8 * b) = m - 1 by omega]
    have hread : f_Re_read z.r x = sRe.mk (z.r.p + 1) z.r.c z.r.l z.r.e z.r.g z.r.i z.r.b z.r.d := by unfold f_Re_read; rw [if_pos hpad, hbeh, if_neg (show ¬ (1 : Int32) = 0 by decide)]
    have hp1 : z.r.p + 1 = nI (p + 1) := by rw [hp, nI_1]
    have h63 : ((f_No_seeSending_63 z x).2 = 1) ↔ m = 10 := by
      rw [o_63, hread]
      by_cases c : m = 10
      · rw [end_1 (r := sRe.mk (z.r.p + 1) z.r.c z.r.l z.r.e z.r.g z.r.i z.r.b z.r.d) hp1 hc (by omega) (by omega)]
        exact ⟨fun _ => c, fun _ => by decide⟩
      · rw [end_0 (r := sRe.mk (z.r.p + 1) z.r.c z.r.l z.r.e z.r.g z.r.i z.r.b z.r.d) hp1 hc (by omega) (by omega)]
        exact ⟨fun h => absurd rfl h, fun h => absurd h c⟩
    have e10 : (y.r16 = 10) = (m = 10) := by rw [h16]; exact propext (nI_eq (b := 10) (by omega) (by decide))
    have hid : f_Re_isInId z.r = 0 := by
      unfold f_Re_isInId
      rw [hp, if_neg (show ¬ nI p < 1 from nI_nlt (b := 1) (by omega) (by omega)), if_pos (show (12 : Int32) ≤ nI p from nI_le (a := 12) (by omega) (by omega))]
    rw [e10]
    unfold f_No_seeSending
    by_cases c2 : m = 2
    · have hans : f_Re_isAtAnswer z.r = 1 := by
        unfold f_Re_isAtAnswer
        rw [hbeh, if_neg (show ¬ (1 : Int32) = 0 by decide), hsub, c2, if_pos (show nI (2 - 1) = 1 from rfl)]
      rw [hans, if_neg (show ¬ (1 : Int32) = 0 by decide)]
      by_cases cx : x = 1
      · rw [if_pos cx]; exact ⟨fun h => absurd h (o_err z (by decide)), fun h => by omega⟩
      · rw [if_neg cx, h63]; exact ⟨fun h => by omega, fun h => by omega⟩
    · have hans : f_Re_isAtAnswer z.r = 0 := by
        unfold f_Re_isAtAnswer
        rw [hbeh, if_neg (show ¬ (1 : Int32) = 0 by decide), hsub, if_neg (show ¬ nI (m - 1) = 1 from fun h9 => absurd ((nI_eq (a := m - 1) (b := 1) (by omega) (by decide)).mp h9) (by omega))]
      rw [if_pos hans, ← hdd]
      by_cases cx : x = z.dr
      · rw [if_pos cx, h63]; exact ⟨fun h => ⟨h, cx⟩, fun h => h.1⟩
      · rw [if_neg cx]
        refine ⟨fun h => absurd h ?_, fun h => absurd h.2 cx⟩
        by_cases c0 : z.dr = 0
        · rw [if_pos c0]; exact o_err z (by decide)
        · rw [if_neg c0, if_pos hid]; exact o_err z (by decide)
theorem o_see {t : Nat} {z : sNd} {y : sM} {x : Int32} {xn : Nat} (h : RS t z y) (hx : x = nI xn) (hxn : xn ≤ 1) (hdd : z.dr = y.r29) : ((f_No_see_18 z x).2 = 1) ↔ (y.r3 = 1 ∧ y.r16 = 10 ∧ x = y.r29) := by
  obtain ⟨hC, h3, hM⟩ := h
  rw [← h3]
  unfold f_No_see_18
  by_cases c1 : z.st = 1
  · rw [if_pos c1]
    have hR : RR z.r y := by
      rcases hM with h0 | ⟨_, _, hR, _⟩ | ⟨h2, _⟩ | ⟨h2, _⟩ | ⟨h2, _⟩ | ⟨h2, _⟩ | ⟨h2, _⟩ | ⟨h2, _⟩
      · exact absurd (c1.symm.trans h0) (by decide)
      · exact hR
      · exact absurd (c1.symm.trans h2) (by decide)
      · exact absurd (c1.symm.trans h2) (by decide)
      · exact absurd (c1.symm.trans h2) (by decide)
      · exact absurd (c1.symm.trans h2) (by decide)
      · exact absurd (c1.symm.trans h2) (by decide)
      · exact absurd (c1.symm.trans h2) (by decide)
    rw [o_seeS hx hxn hR hdd]
    exact ⟨fun h => ⟨c1, h⟩, fun h => h.2⟩
  · rw [if_neg c1]
    refine ⟨fun h9 => absurd h9 ?_, fun h9 => absurd h9.1 c1⟩
    split
    · exact o_seeH _ _
    · split
      · exact o_seeF _ _
      · split
        · exact o_seeA _ _
        · split
          · exact o_seeP _ _
          · split
            · exact o_seeU _ _
            · split
              · exact o_seeO _ _
              · split
                · exact n01
                · exact n01
