/-! The frames sent, side by side: over many bit times. -/
theorem see1_1 {v : Int32} {t : Nat → Int32} (h : o8 v) : see1 v t 1 = if v = 1 then t 1 + 1 else t 1 := by
  unfold see1
  obtain ⟨q, hq, rfl⟩ := h
  by_cases c0 : nI q = 0
  · rw [if_pos c0, if_neg (show ¬ nI q = 1 by rw [c0]; decide)]
  · rw [if_neg c0, nI_clamp (by omega)]
    by_cases c1 : q = 1
    · subst c1; rw [pk_us, if_pos (show nI 1 = 1 from rfl)]
    · rw [pk_un (fun h9 => c1 h9.symm), if_neg (show ¬ nI q = 1 from fun h9 => c1 ((nI_eq (a := q) (b := 1) (by omega) (by decide)).mp h9))]
theorem s_node1 {t k j : Nat} (hj : j < 4) {z : sNd} {A : Nat → Nat → Int32} {w : Int32} {m : Nat} (hw : w = nI m) (hm : m ≤ 1) (h : RS t z (pj A j)) (hdd : z.dr = (pj A j).r29) (hD : RD k j z.d (A 2)) : st2 A j (k + 1) w 0 1 = if (f_No_see z w).2 = 1 then A 0 1 + 1 else A 0 1 := by
  obtain ⟨d1, d2⟩ := RD_next hD
  have hx : ∃ q : Nat, q ≤ 1 ∧ sb2 A j (k + 1) w = nI q := by
    unfold sb2
    split
    · exact ⟨m, hm, hw⟩
    · exact not01 hw hm
  obtain ⟨q, hq, hxq⟩ := hx
  have hsee : f_No_see z w = f_No_see_18 (sNd.mk z.st z.was z.se z.he z.lo z.ma z.va z.sp z.dr z.pf z.ss z.on z.ro z.w z.i (f_Di_next z.d).1 z.k z.r) (sb2 A j (k + 1) w) := by
    unfold f_No_see sb2
    rw [d1]
    split <;> rfl
  have ho := o_see (z := sNd.mk z.st z.was z.se z.he z.lo z.ma z.va z.sp z.dr z.pf z.ss z.on z.ro z.w z.i (f_Di_next z.d).1 z.k z.r) (y := pj A j) h hxq hq hdd
  have h1 := t1_see (setA A 2 (upd (A 2) (256 * j + (k + 1) % 256) (vp_nar .boolean 0))) j hj (sb2 A j (k + 1) w)
  rw [hsee]
  show f_M_see (setA A 2 (upd (A 2) (256 * j + (k + 1) % 256) (vp_nar .boolean 0))) j (sb2 A j (k + 1) w) 0 1 = _
  rw [h1]
  by_cases c : (f_No_see_18 (sNd.mk z.st z.was z.se z.he z.lo z.ma z.va z.sp z.dr z.pf z.ss z.on z.ro z.w z.i (f_Di_next z.d).1 z.k z.r) (sb2 A j (k + 1) w)).2 = 1
  · rw [if_pos c]
    exact if_pos (ho.mp c)
  · rw [if_neg c]
    exact if_neg (fun h9 => c (ho.mpr h9))
theorem L3 {n t k : Nat} (hn : n ≤ 4) (ht : t < 2 ^ 25) {u : Nat → sNd} {w : Int32} {m : Nat} {tot : Nat → Int32} (hw : w = nI m) (hm : m ≤ 1) : ∀ (d j : Nat) (A : Nat → Nat → Int32), j + d = n → okA A → (∀ i, j ≤ i → i < n → P1 t (u i) (pj A i) ∧ RD k i (f_No_drive (u i)).1.d (A 2)) → A 0 1 = seeT (drvZ u n) w tot j 1 → mlp2 (k + 1) w d j A 0 1 = seeT (drvZ u n) w tot n 1 := by
  intro d
  induction d with
  | zero =>
    intro j A hd ok h2 h3
    have hjn : j = n := by omega
    subst hjn
    exact h3
  | succ d ih =>
    intro j A hd ok h2 h3
    have hj : j < 4 := by omega
    obtain ⟨⟨p1, p2, p3⟩, p4⟩ := h2 j (Nat.le_refl j) (by omega)
    obtain ⟨k1, k2, hof⟩ := s_node ht hj ok hw hm p1 p2 p3 p4
    have h1 := s_node1 hj hw hm p1 p2 p4
    have hlt : (k + 1) % 256 < 256 := Nat.mod_lt _ (by decide)
    have hA2 : st2 A j (k + 1) w 2 = upd (A 2) (256 * j + (k + 1) % 256) (vp_nar .boolean 0) := hof.2.2.2
    have hpE : ∀ i, i ≠ j → pE (pj A i) (pj (st2 A j (k + 1) w) i) := fun i c => pE_of (A := setA A 2 (upd (A 2) (256 * j + (k + 1) % 256) (vp_nar .boolean 0))) hof c
    have hdz : drvZ u n j = (f_No_drive (u j)).1 := if_pos (by omega)
    refine ih (j + 1) (st2 A j (k + 1) w) (by omega) (ok_st2 hj ok) (fun i i1 i2 => ?_) ?_
    · obtain ⟨a1, a2⟩ := h2 i (by omega) i2
      refine ⟨P1_pE a1 (hpE i (by omega)), ?_⟩
      rw [hA2]
      exact RD_o a2 (by omega)
    · show _ = see1 (f_No_see (drvZ u n j) w).2 (seeT (drvZ u n) w tot j) 1
      rw [see1_1 (o8_No_see _ _), hdz, h1, h3]
theorem SB_t1 {n k : Nat} (hn : n ≤ 4) (hk : k < 2 ^ 24) {u : sBu} {A : Nat → Nat → Int32} (ok : okA A) (h : SB n k u A) (h1 : u.2.2 1 = A 0 1) : (stepB n k u).2.2 1 = bitM n k A 0 1 := by
  obtain ⟨a1, a2, a3, ⟨m, a4, a5⟩, a6, a7⟩ := L1 (t := 2 * k) hn (u := u.1) n 0 A 1 (by omega) ok (fun i hi => absurd hi (Nat.not_lt_zero i)) (fun i _ hi => (h.1 i hi).1) rfl ⟨1, by decide, rfl⟩
  have k3 := L3 (k := k) hn (show 2 * k < 2 ^ 25 by omega) (u := u.1) (w := drvW u.1 n) (tot := u.2.2) a5 a4 n 0 (mlp1 n 0 A 1).1 (by omega) a1 (fun i _ hi => ⟨a2 i hi, by rw [d_drive, a7]; exact (h.1 i hi).2⟩) ((t1_mlp1 n 0 A 1 (by omega)).trans h1.symm)
  have hbit : bitM n k A = bitE (mlp2 (k + 1) (drvW u.1 n) n 0 (mlp1 n 0 A 1).1) (k + 1) (drvW u.1 n) := by unfold bitM; rw [a3]
  rw [hbit]
  show upd (seeT (drvZ u.1 n) (drvW u.1 n) u.2.2 n) 0 (nI (k + 1)) 1 = upd (mlp2 (k + 1) (drvW u.1 n) n 0 (mlp1 n 0 A 1).1 0) 0 (nI (k + 1)) 1
  rw [pk_un (by decide), pk_un (by decide)]
  exact k3.symm
theorem SB_pass1 {n : Nat} (hn : n ≤ 4) : ∀ (d k : Nat) (u : sBu) (A : Nat → Nat → Int32), k + d < 2 ^ 24 → okA A → SB n k u A → u.2.2 1 = A 0 1 → (passN n d k u).2.2 1 = passM n d k A 0 1 := by
  intro d
  induction d with
  | zero => intro k u A _ _ _ h; exact h
  | succ d ih =>
    intro k u A hk ok h h1
    exact ih (k + 1) (stepB n k u) (bitM n k A) (by omega) (ok_bitM hn ok) (SB_step hn (by omega) ok h) (SB_t1 hn (by omega) ok h h1)
theorem u1_request (A : Nat → Nat → Int32) (j : Nat) (a g d : Int32) : (f_M_request A j a g d).1 0 1 = A 0 1 := by
  unfold f_M_request
  repeat' split
  all_goals rfl
theorem u1_filter (A : Nat → Nat → Int32) (j : Nat) (a g : Int32) : (f_M_filter A j a g).1 0 1 = A 0 1 := by
  unfold f_M_filter
  repeat' split
  all_goals rfl
theorem u1_disturb (A : Nat → Nat → Int32) (j : Nat) (a : Int32) : (f_M_disturb A j a).1 0 1 = A 0 1 := by
  unfold f_M_disturb
  repeat' split
  all_goals rfl
theorem u1_count (A : Nat → Nat → Int32) (j : Nat) (a : Int32) : (f_M_count A j a).1 0 1 = A 0 1 := by
  unfold f_M_count
  repeat' split
  all_goals rfl
theorem u1_take (A : Nat → Nat → Int32) (j : Nat) : (f_M_take A j).1 0 1 = A 0 1 := by
  unfold f_M_take
  split
  · rfl
  · exact congrFun (sh1_o (show (0 : Nat) ≠ 15 by decide) _ _ _) 1
