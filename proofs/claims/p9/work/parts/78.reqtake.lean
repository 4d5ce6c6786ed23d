/-! request and take, side by side. -/
theorem pj_req (A : Nat → Nat → Int32) (j i : Nat) (a g d v : Int32) : pj (setA (setA (setA (setA A 10 (upd (A 10) (4 * j + i) a)) 11 (upd (A 11) (4 * j + i) g)) 12 (upd (A 12) (4 * j + i) d)) 9 (upd (A 9) j v)) j = (A 3 j, A 4 j, A 5 j, A 6 j, A 7 j, A 8 j, v, A 13 j, A 14 j, A 16 j, A 17 j, A 18 j, A 19 j, A 20 j, A 21 j, A 22 j, A 23 j, A 24 j, A 25 j, A 26 j, A 27 j, A 28 j, A 29 j, upd (fun q => A 10 (4 * j + q)) i a, upd (fun q => A 11 (4 * j + q)) i g, upd (fun q => A 12 (4 * j + q)) i d, fun q => A 15 (4 * j + q)) := by
  have hu : ∀ (f : Nat → Int32) (w : Int32), (fun q => upd f (4 * j + i) w (4 * j + q)) = upd (fun q => f (4 * j + q)) i w := by
    intro f w
    funext q
    by_cases e : q = i
    · subst e; rw [pk_us, pk_us]
    · rw [pk_un (by omega), pk_un e]
  have h9 : upd (A 9) j v j = v := pk_us
  show (A 3 j, A 4 j, A 5 j, A 6 j, A 7 j, A 8 j, upd (A 9) j v j, A 13 j, A 14 j, A 16 j, A 17 j, A 18 j, A 19 j, A 20 j, A 21 j, A 22 j, A 23 j, A 24 j, A 25 j, A 26 j, A 27 j, A 28 j, A 29 j, fun q => upd (A 10) (4 * j + i) a (4 * j + q), fun q => upd (A 11) (4 * j + i) g (4 * j + q), fun q => upd (A 12) (4 * j + i) d (4 * j + q), fun q => A 15 (4 * j + q)) = _
  rw [h9, hu, hu, hu]
theorem pj_take (A : Nat → Nat → Int32) (j d : Nat) (v : Int32) : pj (sh1 d (4 * j + 0) (setA A 14 (upd (A 14) j v))) j = (A 3 j, A 4 j, A 5 j, A 6 j, A 7 j, A 8 j, A 9 j, A 13 j, v, A 16 j, A 17 j, A 18 j, A 19 j, A 20 j, A 21 j, A 22 j, A 23 j, A 24 j, A 25 j, A 26 j, A 27 j, A 28 j, A 29 j, fun q => A 10 (4 * j + q), fun q => A 11 (4 * j + q), fun q => A 12 (4 * j + q), shiftF d 0 (fun q => A 15 (4 * j + q))) := by
  have h9 : upd (A 14) j v j = v := pk_us
  have e3 : sh1 d (4 * j + 0) (setA A 14 (upd (A 14) j v)) 3 = A 3 := (sh1_o (by decide) _ _ _).trans (setA_ne (by decide))
  have e4 : sh1 d (4 * j + 0) (setA A 14 (upd (A 14) j v)) 4 = A 4 := (sh1_o (by decide) _ _ _).trans (setA_ne (by decide))
  have e5 : sh1 d (4 * j + 0) (setA A 14 (upd (A 14) j v)) 5 = A 5 := (sh1_o (by decide) _ _ _).trans (setA_ne (by decide))
  have e6 : sh1 d (4 * j + 0) (setA A 14 (upd (A 14) j v)) 6 = A 6 := (sh1_o (by decide) _ _ _).trans (setA_ne (by decide))
  have e7 : sh1 d (4 * j + 0) (setA A 14 (upd (A 14) j v)) 7 = A 7 := (sh1_o (by decide) _ _ _).trans (setA_ne (by decide))
  have e8 : sh1 d (4 * j + 0) (setA A 14 (upd (A 14) j v)) 8 = A 8 := (sh1_o (by decide) _ _ _).trans (setA_ne (by decide))
  have e9 : sh1 d (4 * j + 0) (setA A 14 (upd (A 14) j v)) 9 = A 9 := (sh1_o (by decide) _ _ _).trans (setA_ne (by decide))
  have e13 : sh1 d (4 * j + 0) (setA A 14 (upd (A 14) j v)) 13 = A 13 := (sh1_o (by decide) _ _ _).trans (setA_ne (by decide))
  have e14 : sh1 d (4 * j + 0) (setA A 14 (upd (A 14) j v)) 14 = upd (A 14) j v := (sh1_o (by decide) _ _ _).trans (setA_eq A 14 _)
  have e16 : sh1 d (4 * j + 0) (setA A 14 (upd (A 14) j v)) 16 = A 16 := (sh1_o (by decide) _ _ _).trans (setA_ne (by decide))
  have e17 : sh1 d (4 * j + 0) (setA A 14 (upd (A 14) j v)) 17 = A 17 := (sh1_o (by decide) _ _ _).trans (setA_ne (by decide))
  have e18 : sh1 d (4 * j + 0) (setA A 14 (upd (A 14) j v)) 18 = A 18 := (sh1_o (by decide) _ _ _).trans (setA_ne (by decide))
  have e19 : sh1 d (4 * j + 0) (setA A 14 (upd (A 14) j v)) 19 = A 19 := (sh1_o (by decide) _ _ _).trans (setA_ne (by decide))
  have e20 : sh1 d (4 * j + 0) (setA A 14 (upd (A 14) j v)) 20 = A 20 := (sh1_o (by decide) _ _ _).trans (setA_ne (by decide))
  have e21 : sh1 d (4 * j + 0) (setA A 14 (upd (A 14) j v)) 21 = A 21 := (sh1_o (by decide) _ _ _).trans (setA_ne (by decide))
  have e22 : sh1 d (4 * j + 0) (setA A 14 (upd (A 14) j v)) 22 = A 22 := (sh1_o (by decide) _ _ _).trans (setA_ne (by decide))
  have e23 : sh1 d (4 * j + 0) (setA A 14 (upd (A 14) j v)) 23 = A 23 := (sh1_o (by decide) _ _ _).trans (setA_ne (by decide))
  have e24 : sh1 d (4 * j + 0) (setA A 14 (upd (A 14) j v)) 24 = A 24 := (sh1_o (by decide) _ _ _).trans (setA_ne (by decide))
  have e25 : sh1 d (4 * j + 0) (setA A 14 (upd (A 14) j v)) 25 = A 25 := (sh1_o (by decide) _ _ _).trans (setA_ne (by decide))
  have e26 : sh1 d (4 * j + 0) (setA A 14 (upd (A 14) j v)) 26 = A 26 := (sh1_o (by decide) _ _ _).trans (setA_ne (by decide))
  have e27 : sh1 d (4 * j + 0) (setA A 14 (upd (A 14) j v)) 27 = A 27 := (sh1_o (by decide) _ _ _).trans (setA_ne (by decide))
  have e28 : sh1 d (4 * j + 0) (setA A 14 (upd (A 14) j v)) 28 = A 28 := (sh1_o (by decide) _ _ _).trans (setA_ne (by decide))
  have e29 : sh1 d (4 * j + 0) (setA A 14 (upd (A 14) j v)) 29 = A 29 := (sh1_o (by decide) _ _ _).trans (setA_ne (by decide))
  have e10 : sh1 d (4 * j + 0) (setA A 14 (upd (A 14) j v)) 10 = A 10 := (sh1_o (by decide) _ _ _).trans (setA_ne (by decide))
  have e11 : sh1 d (4 * j + 0) (setA A 14 (upd (A 14) j v)) 11 = A 11 := (sh1_o (by decide) _ _ _).trans (setA_ne (by decide))
  have e12 : sh1 d (4 * j + 0) (setA A 14 (upd (A 14) j v)) 12 = A 12 := (sh1_o (by decide) _ _ _).trans (setA_ne (by decide))
  have e15 : (fun q => sh1 d (4 * j + 0) (setA A 14 (upd (A 14) j v)) 15 (4 * j + q)) = shiftF d 0 (fun q => A 15 (4 * j + q)) := by rw [sh1_15, setA_ne (show (15 : Nat) ≠ 14 by decide)]; exact shiftF_off d 0 _
  show (sh1 d (4 * j + 0) (setA A 14 (upd (A 14) j v)) 3 j, sh1 d (4 * j + 0) (setA A 14 (upd (A 14) j v)) 4 j, sh1 d (4 * j + 0) (setA A 14 (upd (A 14) j v)) 5 j, sh1 d (4 * j + 0) (setA A 14 (upd (A 14) j v)) 6 j, sh1 d (4 * j + 0) (setA A 14 (upd (A 14) j v)) 7 j, sh1 d (4 * j + 0) (setA A 14 (upd (A 14) j v)) 8 j, sh1 d (4 * j + 0) (setA A 14 (upd (A 14) j v)) 9 j, sh1 d (4 * j + 0) (setA A 14 (upd (A 14) j v)) 13 j, sh1 d (4 * j + 0) (setA A 14 (upd (A 14) j v)) 14 j, sh1 d (4 * j + 0) (setA A 14 (upd (A 14) j v)) 16 j, sh1 d (4 * j + 0) (setA A 14 (upd (A 14) j v)) 17 j, sh1 d (4 * j + 0) (setA A 14 (upd (A 14) j v)) 18 j, sh1 d (4 * j + 0) (setA A 14 (upd (A 14) j v)) 19 j, sh1 d (4 * j + 0) (setA A 14 (upd (A 14) j v)) 20 j, sh1 d (4 * j + 0) (setA A 14 (upd (A 14) j v)) 21 j, sh1 d (4 * j + 0) (setA A 14 (upd (A 14) j v)) 22 j, sh1 d (4 * j + 0) (setA A 14 (upd (A 14) j v)) 23 j, sh1 d (4 * j + 0) (setA A 14 (upd (A 14) j v)) 24 j, sh1 d (4 * j + 0) (setA A 14 (upd (A 14) j v)) 25 j, sh1 d (4 * j + 0) (setA A 14 (upd (A 14) j v)) 26 j, sh1 d (4 * j + 0) (setA A 14 (upd (A 14) j v)) 27 j, sh1 d (4 * j + 0) (setA A 14 (upd (A 14) j v)) 28 j, sh1 d (4 * j + 0) (setA A 14 (upd (A 14) j v)) 29 j, fun q => sh1 d (4 * j + 0) (setA A 14 (upd (A 14) j v)) 10 (4 * j + q), fun q => sh1 d (4 * j + 0) (setA A 14 (upd (A 14) j v)) 11 (4 * j + q), fun q => sh1 d (4 * j + 0) (setA A 14 (upd (A 14) j v)) 12 (4 * j + q), fun q => sh1 d (4 * j + 0) (setA A 14 (upd (A 14) j v)) 15 (4 * j + q)) = _
  rw [e15, e3, e4, e5, e6, e7, e8, e9, e13, e14, e16, e17, e18, e19, e20, e21, e22, e23, e24, e25, e26, e27, e28, e29, e10, e11, e12, h9]
/-- request: where it is kept -/
theorem q_req {n k j : Nat} (hn : n ≤ 4) {u : sBu} {A : Nat → Nat → Int32} {a g d : Int32} (h : SB n k u A) (hj : j < n) (hq : rq a g d) (hst : ¬ (u.1 j).st = 7) (hk : (u.1 j).w.k < 4) : SB n k (setB u j (f_X_request (u.1 j) a g d)) (f_M_request A j a g d).1 ∧ (f_M_request A j a g d).2.1 = 0 ∧ (f_M_request A j a g d).2.2 = nI ((u.1 j).w.k + 1) := by
  obtain ⟨q0, q1, q2, q3, q4⟩ := hq
  obtain ⟨a0, a1⟩ := el_iff.mp q0
  obtain ⟨hR, hD⟩ := h.1 j hj
  have h9 : A 9 j = nI (u.1 j).w.k := hR.1.2.1.1
  have h3 : (u.1 j).st = A 3 j := hR.2.1
  have n4 : ¬ A 9 j = 4 := by rw [h9]; exact fun e => absurd ((nI_eq (a := (u.1 j).w.k) (b := 4) (by omega) (by decide)).mp e) (by omega)
  have n7 : ¬ A 3 j = 7 := by rw [← h3]; exact hst
  have hr9 : ∃ w : Nat, w ≤ 4 ∧ A 9 j = nI w := ⟨_, by omega, h9⟩
  have hf : f_M_request A j a g d = ((setA (setA (setA (setA A 10 (upd (A 10) ((4 * (nI j)) + (A 9 j)).toNatClampNeg a)) 11 (upd (A 11) ((4 * (nI j)) + (A 9 j)).toNatClampNeg g)) 12 (upd (A 12) ((4 * (nI j)) + (A 9 j)).toNatClampNeg d)) 9 (upd (A 9) j ((A 9 j) + 1))), 0, (A 9 j) + 1) := by
    unfold f_M_request
    rw [if_neg a0, if_neg a1, if_neg q1, if_neg q2, if_neg q3, if_pos q4, if_neg n4, if_neg n7]
  rw [hf]
  have hix := ixn (j := j) hr9 (by omega)
  have hcl : (A 9 j).toNatClampNeg < 4 := by rw [h9, nI_clamp (by omega)]; exact hk
  refine ⟨SB_set h ?_ (fun _ => ?_) rfl, rfl, by rw [h9, nI_1]⟩
  · rw [hix]
    exact ofr_n (k := 9) (B := setA (setA (setA A 10 (upd (A 10) (4 * j + (A 9 j).toNatClampNeg) a)) 11 (upd (A 11) (4 * j + (A 9 j).toNatClampNeg) g)) 12 (upd (A 12) (4 * j + (A 9 j).toNatClampNeg) d)) (by decide) rfl (ofr_w (k := 12) (B := setA (setA A 10 (upd (A 10) (4 * j + (A 9 j).toNatClampNeg) a)) 11 (upd (A 11) (4 * j + (A 9 j).toNatClampNeg) g)) (by decide) rfl hcl (ofr_w (k := 11) (B := setA A 10 (upd (A 10) (4 * j + (A 9 j).toNatClampNeg) a)) (by decide) rfl hcl (ofr_w (k := 10) (by decide) rfl hcl ofr_r)))
  · rw [hix, pj_req A j (A 9 j).toNatClampNeg a g d (A 9 j + 1)]
    exact RS_add hR hk (okF_rq ⟨q0, q1, q2, q3, q4⟩)
theorem RS_take {t : Nat} {z : sNd} {y : sM} (h : RS t z y) (hi : 0 < z.i.k) : RS t (f_X_take z) ((y.s14 (y.r14 - 1)).sbx (shiftF (z.i.k - 1) 0 y.bx)) := by
  obtain ⟨⟨b1, b2, ⟨i1, i2, i3⟩, b4⟩, b5, b6⟩ := h
  have hrem : (f_Fr_remove z.i 0).1 = (shiftF (z.i.k - 1) 0 z.i.row, z.i.k - 1) := by
    unfold f_Fr_remove
    rw [if_neg (show ¬ (0 : Int32) < 0 by decide), if_neg (show ¬ nI z.i.k ≤ 0 from nI_nle hi (by omega))]
    rfl
  have hz : f_X_take z = sNd.mk z.st z.was z.se z.he z.lo z.ma z.va z.sp z.dr z.pf z.ss z.on z.ro z.w (shiftF (z.i.k - 1) 0 z.i.row, z.i.k - 1) z.d z.k z.r := by unfold f_X_take; rw [hrem]
  rw [hz]
  refine ⟨⟨b1, b2, ⟨(show y.r14 - 1 = nI (z.i.k - 1) by rw [i1]; exact fr_pred hi), (show z.i.k - 1 ≤ 4 by omega), fun q hq => ?_⟩, b4⟩, b5, b6⟩
  have hq : q < z.i.k - 1 := hq
  show shiftF (z.i.k - 1) 0 z.i.row q = shiftF (z.i.k - 1) 0 y.bx q
  rw [shiftF_val, shiftF_val, if_pos ⟨by omega, by omega⟩, if_pos ⟨by omega, by omega⟩]
  exact i3 (q + 1) (by omega)
theorem q_take {n k j : Nat} (hn : n ≤ 4) {u : sBu} {A : Nat → Nat → Int32} (h : SB n k u A) (hj : j < n) (hi : 0 < (u.1 j).i.k) : SB n k (setB u j (f_X_take (u.1 j))) (f_M_take A j).1 ∧ (f_M_take A j).2.1 = 0 ∧ (f_M_take A j).2.2 = (f_Fr_remove (u.1 j).i 0).2 := by
  obtain ⟨hR, hD⟩ := h.1 j hj
  have i1 : A 14 j = nI (u.1 j).i.k := hR.1.2.2.1.1
  have i2 : (u.1 j).i.k ≤ 4 := hR.1.2.2.1.2.1
  have i3 : (u.1 j).i.row 0 = A 15 (4 * j + 0) := hR.1.2.2.1.2.2 0 hi
  have hbn : bn A j = (u.1 j).i.k := by unfold bn; rw [i1, nI_clamp (by omega)]
  have h0 : ¬ A 14 j = 0 := by rw [i1]; exact nI_ne0 hi (by omega)
  have hf : f_M_take A j = (sh1 ((u.1 j).i.k - 1) (4 * j + 0) (setA A 14 (upd (A 14) j ((A 14 j) - 1))), 0, A 15 (4 * j + 0)) := by
    unfold f_M_take
    rw [if_neg h0, hbn, Nat.add_zero]
  have hrem : (f_Fr_remove (u.1 j).i 0).2 = (u.1 j).i.row 0 := by
    unfold f_Fr_remove
    rw [if_neg (show ¬ (0 : Int32) < 0 by decide), if_neg (show ¬ nI (u.1 j).i.k ≤ 0 from nI_nle hi (by omega))]
    rfl
  have hof : Ofr j A (sh1 ((u.1 j).i.k - 1) (4 * j + 0) (setA A 14 (upd (A 14) j ((A 14 j) - 1)))) := ofr_t (ofr_n (k := 14) (B := A) (v := A 14 j - 1) (by decide) rfl ofr_r) (of_sh1 ((u.1 j).i.k - 1) 0 _ (by omega))
  rw [hf, hrem]
  refine ⟨SB_set h hof (fun _ => ?_) rfl, rfl, i3.symm⟩
  rw [pj_take]
  exact RS_take hR hi
