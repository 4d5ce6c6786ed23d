/-! The public methods, side by side. -/
theorem okF_rq {a g d : Int32} (h : rq a g d) : okF a g d := by
  obtain ⟨q0, q1, q2, q3, q4⟩ := h
  obtain ⟨a0, a1⟩ := el_iff.mp q0
  obtain ⟨i, hi, ei⟩ := nI_of2 (M := 2047) (n := 2047) (by decide) a0 (Int32.not_lt.mp a1)
  obtain ⟨b, hb, eb⟩ := nI_of2 (M := 2) (n := 2) (by decide) q1 (Int32.not_lt.mp q2)
  obtain ⟨e, he, ee⟩ := nI_of q3
  refine ⟨i, b, e, ei, eb, ee, by omega, hb, ?_⟩
  rw [eb, ee] at q4
  have h3 : b = 0 ∨ b = 1 ∨ b = 2 := by omega
  rcases h3 with rfl | rfl | rfl
  · exact (nI_ltI (a := e) (b := 1) he (by decide)).mp (show nI e < nI 1 from q4)
  · exact (nI_ltI (a := e) (b := 256) he (by decide)).mp (show nI e < nI 256 from q4)
  · exact (nI_ltI (a := e) (b := 65536) he (by decide)).mp (show nI e < nI 65536 from q4)
theorem SB_set {n k j : Nat} {u : sBu} {A B : Nat → Nat → Int32} {z : sNd} (h : SB n k u A) (hB : Ofr j A B) (h1 : j < n → RS (2 * k) z (pj B j)) (hd : z.d = (u.1 j).d) : SB n k (setB u j z) B := by
  obtain ⟨a1, a2⟩ := h
  refine ⟨fun i hi => ?_, by show RL k u.2.1 (B 1); rw [hB.2.2.1]; exact a2⟩
  show RS (2 * k) (if i = j then z else u.1 i) (pj B i) ∧ RD k i (if i = j then z else u.1 i).d (B 2)
  rw [hB.2.2.2]
  by_cases c : i = j
  · subst c; rw [if_pos rfl, hd]; exact ⟨h1 hi, (a1 i hi).2⟩
  · rw [if_neg c]; exact ⟨RS_pE (a1 i hi).1 (pE_of hB c), (a1 i hi).2⟩
theorem RS_add {t : Nat} {z : sNd} {y : sM} {a g d : Int32} (h : RS t z y) (hk : z.w.k < 4) (ho : okF a g d) : RS t (f_X_request z a g d) ((((y.swi (upd y.wi y.r9.toNatClampNeg a)).swb (upd y.wb y.r9.toNatClampNeg g)).swd (upd y.wd y.r9.toNatClampNeg d)).s9 (y.r9 + 1)) := by
  obtain ⟨⟨b1, ⟨w1, w2, w3⟩, b3, b4⟩, h3, hM⟩ := h
  have hadd : f_Fr_add z.w (f_Fr_packed a g d) = (upd z.w.row z.w.k (f_Fr_packed a g d), z.w.k + 1) := by unfold f_Fr_add; rw [if_pos hk]
  have hz : f_X_request z a g d = sNd.mk z.st z.was z.se z.he z.lo z.ma z.va z.sp z.dr z.pf z.ss z.on z.ro (upd z.w.row z.w.k (f_Fr_packed a g d), z.w.k + 1) z.i z.d z.k z.r := by unfold f_X_request; rw [hadd]
  rw [hz, w1, nI_clamp (by omega), nI_1]
  refine ⟨⟨b1, ⟨rfl, (show z.w.k + 1 ≤ 4 by omega), fun q hq => ?_⟩, b3, b4⟩, h3, ?_⟩
  · have hq : q < z.w.k + 1 := hq
    show okF (upd y.wi z.w.k a q) (upd y.wb z.w.k g q) (upd y.wd z.w.k d q) ∧ upd z.w.row z.w.k (f_Fr_packed a g d) q = f_Fr_packed (upd y.wi z.w.k a q) (upd y.wb z.w.k g q) (upd y.wd z.w.k d q)
    by_cases c : q = z.w.k
    · subst c; rw [pk_us, pk_us, pk_us, pk_us]; exact ⟨ho, rfl⟩
    · rw [pk_un c, pk_un c, pk_un c, pk_un c]; exact w3 q (by omega)
  · rcases hM with h0 | ⟨h1, hw, hR, c, i, b, d9, p, x1, x2, x3, x4, x5, x6, x7⟩ | h2 | h2 | h2 | h2 | h2 | h2
    · exact Or.inl h0
    · have hne : c ≠ z.w.k := by omega
      exact Or.inr (Or.inl ⟨h1, hw, hR, c, i, b, d9, p, x1, x2, (show c < z.w.k + 1 by omega), (show upd y.wi z.w.k a c = nI i by rw [pk_un hne]; exact x4), (show upd y.wb z.w.k g c = nI b by rw [pk_un hne]; exact x5), (show upd y.wd z.w.k d c = nI d9 by rw [pk_un hne]; exact x6), x7⟩)
    · exact Or.inr (Or.inr (Or.inl h2))
    · exact Or.inr (Or.inr (Or.inr (Or.inl h2)))
    · exact Or.inr (Or.inr (Or.inr (Or.inr (Or.inl h2))))
    · exact Or.inr (Or.inr (Or.inr (Or.inr (Or.inr (Or.inl h2)))))
    · exact Or.inr (Or.inr (Or.inr (Or.inr (Or.inr (Or.inr (Or.inl h2))))))
    · exact Or.inr (Or.inr (Or.inr (Or.inr (Or.inr (Or.inr (Or.inr h2))))))
theorem q_reqs {n k j : Nat} {u : sBu} {A : Nat → Nat → Int32} {a g d : Int32} (h : SB n k u A) (hj : j < n) (hq : rq a g d) (hb : (u.1 j).st = 7 ∨ (u.1 j).w.k = 4) : f_M_request A j a g d = (A, 2, 0) := by
  obtain ⟨q0, q1, q2, q3, q4⟩ := hq
  obtain ⟨a0, a1⟩ := el_iff.mp q0
  obtain ⟨hR, hD⟩ := h.1 j hj
  have h9 : A 9 j = nI (u.1 j).w.k := hR.1.2.1.1
  have h3 : (u.1 j).st = A 3 j := hR.2.1
  unfold f_M_request
  rw [if_neg a0, if_neg a1, if_neg q1, if_neg q2, if_neg q3, if_pos q4]
  by_cases c : A 9 j = 4
  · rw [if_pos c]
  · rw [if_neg c]
    rcases hb with hb | hb
    · rw [if_pos (h3.symm.trans hb)]
    · exact absurd (show A 9 j = 4 by rw [h9, hb]; rfl) c
theorem q_reqf {A : Nat → Nat → Int32} {j : Nat} {a g d : Int32} (hq : ¬ rq a g d) : f_M_request A j a g d = (A, 1, 0) := by
  unfold f_M_request
  by_cases c0 : a < 0
  · rw [if_pos c0]
  · rw [if_neg c0]
    by_cases c1 : 2047 < a
    · rw [if_pos c1]
    · rw [if_neg c1]
      by_cases c2 : g < 0
      · rw [if_pos c2]
      · rw [if_neg c2]
        by_cases c3 : 2 < g
        · rw [if_pos c3]
        · rw [if_neg c3]
          by_cases c4 : d < 0
          · rw [if_pos c4]
          · rw [if_neg c4]
            by_cases c5 : d < (1 <<< ((8 * g) &&& 31))
            · exact absurd ⟨el_iff.mpr ⟨c0, c1⟩, c2, c3, c4, c5⟩ hq
            · rw [if_neg c5]
theorem q_flt {n k j : Nat} {u : sBu} {A : Nat → Nat → Int32} {a g : Int32} (h : SB n k u A) (hj : j < n) (h1 : ¬ el a = 0) (h2 : ¬ el g = 0) : SB n k (setB u j (f_X_filter (u.1 j) a g)) (f_M_filter A j a g).1 := by
  obtain ⟨q0, q1⟩ := el_iff.mp h1
  obtain ⟨q2, q3⟩ := el_iff.mp h2
  have hf : f_M_filter A j a g = (setA (setA A 6 (upd (A 6) j a)) 7 (upd (A 7) j g), 0) := by
    unfold f_M_filter
    rw [if_neg q0, if_neg q1, if_neg q2, if_pos (Int32.not_lt.mp q3)]
  rw [hf]
  refine SB_set h (ofr_n (k := 7) (B := setA A 6 (upd (A 6) j a)) (by decide) rfl (ofr_n (k := 6) (by decide) rfl ofr_r)) (fun _ => ?_) rfl
  have hpj : pj (setA (setA A 6 (upd (A 6) j a)) 7 (upd (A 7) j g)) j = (((pj A j).s6 a).s7 g) := pjc_7 rfl (pjc_6 rfl rfl)
  rw [hpj]
  obtain ⟨⟨⟨b1, b2, b3, b4, b5, b6⟩, b7⟩, b8⟩ := (h.1 j hj).1
  exact ⟨⟨⟨b1, b2, b3, b4, rfl, rfl⟩, b7⟩, b8⟩
theorem q_fltf {A : Nat → Nat → Int32} {j : Nat} {a g : Int32} (h : ¬ (¬ el a = 0 ∧ ¬ el g = 0)) : f_M_filter A j a g = (A, 1) := by
  unfold f_M_filter
  by_cases c0 : a < 0
  · rw [if_pos c0]
  · rw [if_neg c0]
    by_cases c1 : 2047 < a
    · rw [if_pos c1]
    · rw [if_neg c1]
      by_cases c2 : g < 0
      · rw [if_pos c2]
      · rw [if_neg c2]
        by_cases c3 : g ≤ 2047
        · exact absurd ⟨el_iff.mpr ⟨c0, c1⟩, el_iff.mpr ⟨c2, Int32.not_lt.mpr c3⟩⟩ h
        · rw [if_neg c3]
theorem q_dst {n k j q : Nat} (hn : n ≤ 4) {u : sBu} {A : Nat → Nat → Int32} (h : SB n k u A) (hj : j < n) (hk : A 0 0 = nI k) (hk2 : k < 2 ^ 30) (q1 : 1 ≤ q) (q2 : q ≤ 200) : SB n k (setB u j (f_X_disturb (u.1 j) q)) (f_M_disturb A j (nI q)).1 := by
  have hm : (k + q) % 256 < 256 := Nat.mod_lt _ (by decide)
  have hix : ((256 * (nI j)) + (((A 0 0) + nI q) - ((A 0 0) + nI q) / 256 * 256)).toNatClampNeg = 256 * j + (k + q) % 256 := by
    rw [hk, nI_add, show nI (k + q) - nI (k + q) / 256 * 256 = nI ((k + q) % 256) from pk_rem (d := 256) (by omega) (by decide) (by decide), show (256 : Int32) * nI j = nI (256 * j) from pk_mul 256 j, nI_add, nI_clamp (by omega)]
  have hf : f_M_disturb A j (nI q) = (setA A 2 (upd (A 2) (256 * j + (k + q) % 256) (vp_nar .boolean 1)), 0) := by
    unfold f_M_disturb
    rw [if_neg (show ¬ nI q < 1 from nI_nlt (a := q) (b := 1) q1 (by omega)), if_pos (show nI q ≤ 200 from nI_le (b := 200) q2 (by decide)), hix]
  rw [hf]
  obtain ⟨a1, a2⟩ := h
  refine ⟨fun i hi => ?_, a2⟩
  have hp : pj (setA A 2 (upd (A 2) (256 * j + (k + q) % 256) (vp_nar .boolean 1))) i = pj A i := pjc_2 rfl
  show RS (2 * k) (if i = j then f_X_disturb (u.1 j) q else u.1 i) (pj (setA A 2 (upd (A 2) (256 * j + (k + q) % 256) (vp_nar .boolean 1))) i) ∧ RD k i (if i = j then f_X_disturb (u.1 j) q else u.1 i).d (upd (A 2) (256 * j + (k + q) % 256) (vp_nar .boolean 1))
  rw [hp]
  by_cases c : i = j
  · subst c; rw [if_pos rfl]; exact ⟨(a1 i hi).1, RD_mark (a1 i hi).2 q1 q2⟩
  · rw [if_neg c]; exact ⟨(a1 i hi).1, RD_o (a1 i hi).2 (by omega)⟩
theorem q_dstf {A : Nat → Nat → Int32} {j : Nat} {a : Int32} (h : a < 1 ∨ ¬ a ≤ 200) : f_M_disturb A j a = (A, 1) := by
  unfold f_M_disturb
  by_cases c0 : a < 1
  · rw [if_pos c0]
  · rw [if_neg c0, if_neg (h.resolve_left c0)]
theorem sh1_o {k : Nat} (hk : k ≠ 15) : ∀ (d i : Nat) (B : Nat → Nat → Int32), sh1 d i B k = B k := by
  intro d
  induction d with
  | zero => intro i B; rfl
  | succ d ih =>
    intro i B
    refine (ih (i + 1) _).trans ?_
    rw [setA_ne hk]
theorem sh1_15 : ∀ (d i : Nat) (B : Nat → Nat → Int32), sh1 d i B 15 = shiftF d i (B 15) := by
  intro d
  induction d with
  | zero => intro i B; rfl
  | succ d ih => intro i B; exact ih (i + 1) _
theorem of_sh1 {j : Nat} : ∀ (d c : Nat) (B : Nat → Nat → Int32), c + d ≤ 4 → Ofr j B (sh1 d (4 * j + c) B) := by
  intro d
  induction d with
  | zero => intro c B _; exact ofr_r
  | succ d ih =>
    intro c B h
    exact ofr_t (ofr_w (k := 15) (c := c) (by decide) rfl (by omega) ofr_r) (ih (c + 1) _ (by omega))
theorem pj_sh1 {j : Nat} (d c : Nat) (B : Nat → Nat → Int32) (y : sM) (h : pj B j = y) : pj (sh1 d (4 * j + c) B) j = y.sbx (shiftF d c y.bx) := by
  subst h
  have e3 : sh1 d (4 * j + c) B 3 = B 3 := sh1_o (by decide) _ _ _
  have e4 : sh1 d (4 * j + c) B 4 = B 4 := sh1_o (by decide) _ _ _
  have e5 : sh1 d (4 * j + c) B 5 = B 5 := sh1_o (by decide) _ _ _
  have e6 : sh1 d (4 * j + c) B 6 = B 6 := sh1_o (by decide) _ _ _
  have e7 : sh1 d (4 * j + c) B 7 = B 7 := sh1_o (by decide) _ _ _
  have e8 : sh1 d (4 * j + c) B 8 = B 8 := sh1_o (by decide) _ _ _
  have e9 : sh1 d (4 * j + c) B 9 = B 9 := sh1_o (by decide) _ _ _
  have e13 : sh1 d (4 * j + c) B 13 = B 13 := sh1_o (by decide) _ _ _
  have e14 : sh1 d (4 * j + c) B 14 = B 14 := sh1_o (by decide) _ _ _
  have e16 : sh1 d (4 * j + c) B 16 = B 16 := sh1_o (by decide) _ _ _
  have e17 : sh1 d (4 * j + c) B 17 = B 17 := sh1_o (by decide) _ _ _
  have e18 : sh1 d (4 * j + c) B 18 = B 18 := sh1_o (by decide) _ _ _
  have e19 : sh1 d (4 * j + c) B 19 = B 19 := sh1_o (by decide) _ _ _
  have e20 : sh1 d (4 * j + c) B 20 = B 20 := sh1_o (by decide) _ _ _
  have e21 : sh1 d (4 * j + c) B 21 = B 21 := sh1_o (by decide) _ _ _
  have e22 : sh1 d (4 * j + c) B 22 = B 22 := sh1_o (by decide) _ _ _
  have e23 : sh1 d (4 * j + c) B 23 = B 23 := sh1_o (by decide) _ _ _
  have e24 : sh1 d (4 * j + c) B 24 = B 24 := sh1_o (by decide) _ _ _
  have e25 : sh1 d (4 * j + c) B 25 = B 25 := sh1_o (by decide) _ _ _
  have e26 : sh1 d (4 * j + c) B 26 = B 26 := sh1_o (by decide) _ _ _
  have e27 : sh1 d (4 * j + c) B 27 = B 27 := sh1_o (by decide) _ _ _
  have e28 : sh1 d (4 * j + c) B 28 = B 28 := sh1_o (by decide) _ _ _
  have e29 : sh1 d (4 * j + c) B 29 = B 29 := sh1_o (by decide) _ _ _
  have e10 : sh1 d (4 * j + c) B 10 = B 10 := sh1_o (by decide) _ _ _
  have e11 : sh1 d (4 * j + c) B 11 = B 11 := sh1_o (by decide) _ _ _
  have e12 : sh1 d (4 * j + c) B 12 = B 12 := sh1_o (by decide) _ _ _
  have e15 : (fun q => sh1 d (4 * j + c) B 15 (4 * j + q)) = shiftF d c (fun q => B 15 (4 * j + q)) := by rw [sh1_15]; exact shiftF_off d c _
  show (sh1 d (4 * j + c) B 3 j, sh1 d (4 * j + c) B 4 j, sh1 d (4 * j + c) B 5 j, sh1 d (4 * j + c) B 6 j, sh1 d (4 * j + c) B 7 j, sh1 d (4 * j + c) B 8 j, sh1 d (4 * j + c) B 9 j, sh1 d (4 * j + c) B 13 j, sh1 d (4 * j + c) B 14 j, sh1 d (4 * j + c) B 16 j, sh1 d (4 * j + c) B 17 j, sh1 d (4 * j + c) B 18 j, sh1 d (4 * j + c) B 19 j, sh1 d (4 * j + c) B 20 j, sh1 d (4 * j + c) B 21 j, sh1 d (4 * j + c) B 22 j, sh1 d (4 * j + c) B 23 j, sh1 d (4 * j + c) B 24 j, sh1 d (4 * j + c) B 25 j, sh1 d (4 * j + c) B 26 j, sh1 d (4 * j + c) B 27 j, sh1 d (4 * j + c) B 28 j, sh1 d (4 * j + c) B 29 j, fun q => sh1 d (4 * j + c) B 10 (4 * j + q), fun q => sh1 d (4 * j + c) B 11 (4 * j + q), fun q => sh1 d (4 * j + c) B 12 (4 * j + q), fun q => sh1 d (4 * j + c) B 15 (4 * j + q)) = (B 3 j, B 4 j, B 5 j, B 6 j, B 7 j, B 8 j, B 9 j, B 13 j, B 14 j, B 16 j, B 17 j, B 18 j, B 19 j, B 20 j, B 21 j, B 22 j, B 23 j, B 24 j, B 25 j, B 26 j, B 27 j, B 28 j, B 29 j, fun q => B 10 (4 * j + q), fun q => B 11 (4 * j + q), fun q => B 12 (4 * j + q), shiftF d c (fun q => B 15 (4 * j + q)))
  rw [e15, e3, e4, e5, e6, e7, e8, e9, e13, e14, e16, e17, e18, e19, e20, e21, e22, e23, e24, e25, e26, e27, e28, e29, e10, e11, e12]
theorem q_takee {n k j : Nat} {u : sBu} {A : Nat → Nat → Int32} (h : SB n k u A) (hj : j < n) (hi : (u.1 j).i.k = 0) : f_M_take A j = (A, 2, 0) := by
  have i1 : A 14 j = nI (u.1 j).i.k := (h.1 j hj).1.1.2.2.1.1
  unfold f_M_take
  rw [if_pos (show A 14 j = 0 by rw [i1, hi]; rfl)]
theorem q_state {n k j : Nat} {u : sBu} {A : Nat → Nat → Int32} (h : SB n k u A) (hj : j < n) : f_M_state A j = (A, 0, nOf (u.1 j) 0) := by
  have h3 : (u.1 j).st = A 3 j := (h.1 j hj).1.2.1
  unfold f_M_state
  rw [← h3]
  rfl
theorem q_count {n k j : Nat} {u : sBu} {A : Nat → Nat → Int32} (h : SB n k u A) (hj : j < n) : f_M_count A j (nI 0) = (A, 0, nOf (u.1 j) 2) ∧ f_M_count A j (nI 1) = (A, 0, nOf (u.1 j) 3) ∧ f_M_count A j (nI 2) = (A, 0, nOf (u.1 j) 13) ∧ f_M_count A j (nI 3) = (A, 0, nOf (u.1 j) 14) ∧ f_M_count A j (nI 4) = (A, 0, nOf (u.1 j) 4) := by
  obtain ⟨⟨⟨b1, b2, b3, b4, b5, b6⟩, ⟨w1, _, _⟩, ⟨i1, _, _⟩, _⟩, _⟩ := (h.1 j hj).1
  have b2 : (u.1 j).se = A 4 j := b2
  have b3 : (u.1 j).he = A 5 j := b3
  have b4 : (u.1 j).lo = A 8 j := b4
  have w1 : A 9 j = nI (u.1 j).w.k := w1
  have i1 : A 14 j = nI (u.1 j).i.k := i1
  unfold f_M_count
  rw [← b2, ← b3, ← b4, w1, i1]
  refine ⟨?_, ?_, ?_, ?_, ?_⟩
  · rw [if_neg (show ¬ nI 0 < 0 by decide), if_pos (show nI 0 ≤ 4 by decide), if_pos (show nI 0 = 0 by decide)]; rfl
  · rw [if_neg (show ¬ nI 1 < 0 by decide), if_pos (show nI 1 ≤ 4 by decide), if_neg (show ¬ nI 1 = 0 by decide), if_pos (show nI 1 = 1 by decide)]; rfl
  · rw [if_neg (show ¬ nI 2 < 0 by decide), if_pos (show nI 2 ≤ 4 by decide), if_neg (show ¬ nI 2 = 0 by decide), if_neg (show ¬ nI 2 = 1 by decide), if_pos (show nI 2 = 2 by decide)]; rfl
  · rw [if_neg (show ¬ nI 3 < 0 by decide), if_pos (show nI 3 ≤ 4 by decide), if_neg (show ¬ nI 3 = 0 by decide), if_neg (show ¬ nI 3 = 1 by decide), if_neg (show ¬ nI 3 = 2 by decide), if_pos (show nI 3 = 3 by decide)]; rfl
  · rw [if_neg (show ¬ nI 4 < 0 by decide), if_pos (show nI 4 ≤ 4 by decide), if_neg (show ¬ nI 4 = 0 by decide), if_neg (show ¬ nI 4 = 1 by decide), if_neg (show ¬ nI 4 = 2 by decide), if_neg (show ¬ nI 4 = 3 by decide)]; rfl
theorem q_countf {A : Nat → Nat → Int32} {j : Nat} {a : Int32} (h : a.toInt < 0 ∨ 4 < a.toInt) : f_M_count A j a = (A, 1, 0) := by
  unfold f_M_count
  by_cases c0 : a < 0
  · rw [if_pos c0]
  · rw [if_neg c0, if_neg]
    rw [Int32.le_iff_toInt_le, show (4 : Int32).toInt = 4 from rfl]
    rw [Int32.lt_iff_toInt_lt, show (0 : Int32).toInt = 0 from rfl] at c0
    omega
theorem q_level {n k : Nat} {u : sBu} {A : Nat → Nat → Int32} {a : Int32} (h : SB n k u A) (hk : A 0 0 = nI k) (hk2 : k < 2 ^ 30) : (f_M_level A a).2.2 = f_X_level u k a := by
  unfold f_M_level f_X_level
  rw [hk]
  by_cases c0 : a < 0
  · rw [if_pos c0, if_pos c0]
  · rw [if_neg c0, if_neg c0]
    obtain ⟨q, hq, e⟩ := nI_of c0
    rw [e]
    by_cases c1 : q ≤ 63
    · rw [if_neg (show ¬ (63 : Int32) < nI q from nI_nlt (a := 63) (by omega) (by decide)), if_neg (show ¬ (64 : Int32) ≤ nI q from nI_ge (b := 64) (by omega) (by decide))]
      by_cases c2 : q < k
      · rw [if_pos (nI_lt c2 (by omega)), if_pos (nI_lt c2 (by omega)), pk_sub (by omega), show nI (k - q) - nI (k - q) / 64 * 64 = nI ((k - q) % 64) from pk_rem (d := 64) (by omega) (by decide) (by decide), nI_clamp (Nat.lt_trans (Nat.mod_lt _ (by decide)) (by decide)), nI_clamp (by omega)]
        exact (h.2 q (by omega) c2).symm
      · rw [if_neg (nI_nlt (by omega) (by omega)), if_neg (nI_nlt (by omega) (by omega))]
    · rw [if_pos (show (63 : Int32) < nI q from nI_lt (a := 63) (by omega) hq), if_pos (show (64 : Int32) ≤ nI q from nI_le (a := 64) (by omega) hq)]
theorem SB_new (n : Nat) : SB n 0 u0 (fun _ _ => 0) := by
  refine ⟨fun i _ => ⟨⟨⟨⟨rfl, rfl, rfl, rfl, rfl, rfl⟩, ⟨rfl, Nat.zero_le 4, fun q hq => absurd hq (Nat.not_lt_zero q)⟩, ⟨rfl, Nat.zero_le 4, fun q hq => absurd hq (Nat.not_lt_zero q)⟩, 0, rfl, Nat.zero_le _⟩, rfl, Or.inl rfl⟩, (show (0 : Nat) < 201 by decide), fun _ _ _ => rfl, rfl, fun _ _ _ => rfl⟩, fun i _ hi => absurd hi (Nat.not_lt_zero i)⟩
