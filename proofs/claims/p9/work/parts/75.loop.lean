/-! One bit time and many, side by side. -/
theorem d_goOff (z : sNd) : (f_No_goOffIfTooMany z).d = z.d := by
  unfold f_No_goOffIfTooMany
  split <;> rfl
theorem d_err55 (z : sNd) (a b : Int32) : (f_No_err_55 z a b).1.d = z.d := by
  unfold f_No_err_55
  split
  · exact d_goOff _
  · exact d_goOff _
theorem d_err19 (z : sNd) (a b : Int32) : (f_No_err_19 z a b).1.d = z.d := by
  unfold f_No_err_19
  split
  · exact d_err55 _ _ _
  · split
    · exact d_err55 _ _ _
    · exact d_err55 _ _ _
theorem d_err (z : sNd) (a : Int32) : (f_No_err z a).1.d = z.d := by
  unfold f_No_err
  split
  · split
    · exact d_err19 _ _ _
    · exact d_err19 _ _ _
  · exact d_err19 _ _ _
theorem d_heavy (z : sNd) : (f_No_countHeavily z).d = z.d := by
  unfold f_No_countHeavily
  split
  · exact d_goOff _
  · split
    · exact d_goOff _
    · exact d_goOff _
theorem d_endS (z : sNd) : (f_No_endSending z).1.d = z.d := by
  unfold f_No_endSending
  split <;> rfl
theorem d_keep (z : sNd) (x : Int32) : (f_No_keep z x).d = z.d := by
  unfold f_No_keep
  split <;> rfl
theorem d_eh52 (z : sNd) (x : Int32) : (f_No_endHearing_52 z x).1.d = z.d := by
  unfold f_No_endHearing_52
  split <;> rfl
theorem d_eh22 (z : sNd) (x : Int32) : (f_No_endHearing_22 z x).1.d = z.d := by
  unfold f_No_endHearing_22
  split
  · exact (d_eh52 _ _).trans (d_keep _ _)
  · exact d_eh52 _ _
theorem d_endH (z : sNd) (x : Int32) : (f_No_endHearing z x).1.d = z.d := by
  unfold f_No_endHearing
  split
  · exact d_eh22 _ _
  · exact d_eh22 _ _
theorem d_ss63 (z : sNd) (x : Int32) : (f_No_seeSending_63 z x).1.d = z.d := by
  unfold f_No_seeSending_63
  split
  · rfl
  · exact d_endS _
theorem d_seeS (z : sNd) (x : Int32) : (f_No_seeSending z x).1.d = z.d := by
  unfold f_No_seeSending
  split
  · split
    · exact d_ss63 _ _
    · split
      · exact d_err _ _
      · split
        · exact d_err _ _
        · exact d_ss63 _ _
  · split
    · exact d_err _ _
    · exact d_ss63 _ _
theorem d_seeH (z : sNd) (x : Int32) : (f_No_seeHearing z x).1.d = z.d := by
  unfold f_No_seeHearing
  split
  · split
    · rfl
    · exact d_endH _ _
  · exact d_err _ _
theorem d_seeF (z : sNd) (x : Int32) : (f_No_seeInFlag z x).1.d = z.d := by
  unfold f_No_seeInFlag
  split
  · split
    · split
      · exact d_heavy _
      · rfl
    · rfl
  · split
    · split
      · exact d_heavy _
      · rfl
    · rfl
theorem d_seeA (z : sNd) (x : Int32) : (f_No_seeAfter z x).1.d = z.d := by
  unfold f_No_seeAfter
  split
  · split <;> rfl
  · split
    · split
      · split
        · split
          · exact d_heavy _
          · rfl
        · split
          · exact d_heavy _
          · rfl
      · split
        · exact d_heavy _
        · rfl
    · split
      · rfl
      · exact d_err _ _
theorem d_see (z : sNd) (x : Int32) : (f_No_see_18 z x).1.d = z.d := by
  unfold f_No_see_18
  split
  · exact d_seeS _ _
  · split
    · exact d_seeH _ _
    · split
      · exact d_seeF _ _
      · split
        · exact d_seeA _ _
        · split
          · unfold f_No_seeInPause
            split
            · split <;> rfl
            · split
              · rfl
              · split
                · rfl
                · split <;> rfl
          · split
            · unfold f_No_seeSuspended
              split
              · rfl
              · split <;> rfl
            · split
              · unfold f_No_seeOff
                split
                · split
                  · split <;> rfl
                  · split <;> rfl
                · split <;> rfl
              · split <;> rfl
theorem pj_pre1 {A : Nat → Nat → Int32} {j : Nat} (hj : j < 4) : pj (pre1 A j) j = gpre (pj A j) := by
  unfold pre1 gpre
  by_cases c : A 3 j = 0
  · rw [if_pos c, if_pos (show (pj A j).r3 = 0 from c)]
    by_cases c1 : A 9 j ≤ 0
    · rw [if_pos c1, if_pos (show (pj A j).r9 ≤ 0 from c1)]
    · rw [if_neg c1, if_neg (show ¬ (pj A j).r9 ≤ 0 from c1)]
      exact pj_M_begin A j hj _ rfl
  · rw [if_neg c, if_neg (show ¬ (pj A j).r3 = 0 from c)]
theorem of_pre1 {A : Nat → Nat → Int32} {j : Nat} (hj : j < 4) : Ofr j A (pre1 A j) := by
  unfold pre1
  split
  · split
    · exact ofr_r
    · exact of_M_begin A j hj
  · exact ofr_r
theorem pj_st1 {A : Nat → Nat → Int32} {j : Nat} (hj : j < 4) (ok : okA A) : pj (st1 A j) j = (gpre (pj A j)).s29 (g_M_driven (gpre (pj A j))) ∧ f_M_driven (pre1 A j) j = g_M_driven (gpre (pj A j)) := by
  have h1 := pj_M_driven (pre1 A j) j hj (ok_pre1 hj ok) _ (pj_pre1 hj)
  refine ⟨?_, h1⟩
  unfold st1
  rw [h1]
  exact pjc_29 (v := g_M_driven (gpre (pj A j))) rfl (pj_pre1 hj)
theorem of_st1 {A : Nat → Nat → Int32} {j : Nat} (hj : j < 4) : Ofr j A (st1 A j) := ofr_n (k := 29) (by decide) rfl (of_pre1 hj)
def P1 (t : Nat) (z : sNd) (y : sM) : Prop := RS t (f_No_drive z).1 y ∧ (f_No_drive z).1.dr = y.r29 ∧ ((f_No_drive z).1.st = 1 → (f_No_drive z).1.dr = f_No_nextBit (f_No_drive z).1)
theorem P1_pE {t : Nat} {z : sNd} {y y2 : sM} (h : P1 t z y) (e : pE y y2) : P1 t z y2 := ⟨RS_pE h.1 e, h.2.1.trans (pE_29 e).symm, h.2.2⟩
theorem and01 {a b : Int32} {m n : Nat} (ha : a = nI m) (hm : m ≤ 1) (hb : b = nI n) (hn : n ≤ 1) : ∃ q : Nat, q ≤ 1 ∧ a &&& b = nI q := by
  have h1 : m = 0 ∨ m = 1 := by omega
  have h2 : n = 0 ∨ n = 1 := by omega
  rw [ha, hb]
  rcases h1 with rfl | rfl <;> rcases h2 with rfl | rfl
  · exact ⟨0, by decide, by decide⟩
  · exact ⟨0, by decide, by decide⟩
  · exact ⟨0, by decide, by decide⟩
  · exact ⟨1, by decide, by decide⟩
theorem L1 {n t : Nat} (hn : n ≤ 4) {u : Nat → sNd} : ∀ (d j : Nat) (A : Nat → Nat → Int32) (a : Int32), j + d = n → okA A → (∀ i, i < j → P1 t (u i) (pj A i)) → (∀ i, j ≤ i → i < n → RS t (u i) (pj A i)) → a = drvW u j → (∃ m : Nat, m ≤ 1 ∧ a = nI m) → okA (mlp1 d j A a).1 ∧ (∀ i, i < n → P1 t (u i) (pj (mlp1 d j A a).1 i)) ∧ (mlp1 d j A a).2 = drvW u n ∧ (∃ m : Nat, m ≤ 1 ∧ drvW u n = nI m) ∧ (mlp1 d j A a).1 1 = A 1 ∧ (mlp1 d j A a).1 2 = A 2 := by
  intro d
  induction d with
  | zero =>
    intro j A a hd ok h1 h2 h3 h4
    have hjn : j = n := by omega
    subst hjn
    exact ⟨ok, h1, h3, by rw [← h3]; exact h4, rfl, rfl⟩
  | succ d ih =>
    intro j A a hd ok h1 h2 h3 h4
    have hj : j < 4 := by omega
    obtain ⟨e1, e2⟩ := pj_st1 hj ok
    obtain ⟨k1, k2, ⟨m2, k3, k4⟩, k5, k6, k7⟩ := s_drive (h2 j (Nat.le_refl j) (by omega))
    have hof := of_st1 (A := A) hj
    obtain ⟨m, hm, hma⟩ := h4
    have r9 := ih (j + 1) (st1 A j) (a &&& f_M_driven (pre1 A j) j) (by omega) (ok_st1 hj ok) (fun i hi => by
        by_cases c : i = j
        · subst c
          rw [e1]
          exact ⟨k1, k5, k6⟩
        · exact P1_pE (h1 i (by omega)) (pE_of hof c)) (fun i i1 i2 => RS_pE (h2 i (by omega) i2) (pE_of hof (by omega))) (by
        show _ = drvW u j &&& (f_No_drive (u j)).2
        rw [h3, e2, k2]) (by rw [e2]; exact and01 hma hm k4 k3)
    obtain ⟨q1, q2, q3, q4, q5, q6⟩ := r9
    exact ⟨q1, q2, q3, q4, q5.trans hof.2.2.1, q6.trans hof.2.2.2⟩
