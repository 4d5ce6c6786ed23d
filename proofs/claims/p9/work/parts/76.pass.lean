/-! One bit time and many, side by side: the whole. -/
theorem not01 {a : Int32} {m : Nat} (ha : a = nI m) (hm : m ≤ 1) : ∃ q : Nat, q ≤ 1 ∧ 1 - a = nI q := by
  have h1 : m = 0 ∨ m = 1 := by omega
  rw [ha]
  rcases h1 with rfl | rfl
  · exact ⟨1, by decide, by decide⟩
  · exact ⟨0, by decide, by decide⟩
/-- one node sees, on both sides -/
theorem s_node {t k j : Nat} (ht : t < 2 ^ 25) (hj : j < 4) {z : sNd} {A : Nat → Nat → Int32} {w : Int32} {m : Nat} (ok : okA A) (hw : w = nI m) (hm : m ≤ 1) (h : RS t z (pj A j)) (hdd : z.dr = (pj A j).r29) (hdr : z.st = 1 → z.dr = f_No_nextBit z) (hD : RD k j z.d (A 2)) : RS (t + 2) (f_No_see z w).1 (pj (st2 A j (k + 1) w) j) ∧ RD (k + 1) j (f_No_see z w).1.d (st2 A j (k + 1) w 2) ∧ Ofr j (setA A 2 (upd (A 2) (256 * j + (k + 1) % 256) (vp_nar .boolean 0))) (st2 A j (k + 1) w) := by
  obtain ⟨d1, d2⟩ := RD_next hD
  have okB9 : okA (setA A 2 (upd (A 2) (256 * j + (k + 1) % 256) (vp_nar .boolean 0))) := okA_o (by decide) ok
  have hof := of_M_see (setA A 2 (upd (A 2) (256 * j + (k + 1) % 256) (vp_nar .boolean 0))) j hj (sb2 A j (k + 1) w) okB9
  have hpj := pj_M_see (setA A 2 (upd (A 2) (256 * j + (k + 1) % 256) (vp_nar .boolean 0))) j hj (sb2 A j (k + 1) w) okB9 (pj A j) (pjc_2 rfl)
  have hx : ∃ q : Nat, q ≤ 1 ∧ sb2 A j (k + 1) w = nI q := by
    unfold sb2
    split
    · exact ⟨m, hm, hw⟩
    · exact not01 hw hm
  obtain ⟨q, hq, hxq⟩ := hx
  have hsee : f_No_see z w = f_No_see_18 (sNd.mk z.st z.was z.se z.he z.lo z.ma z.va z.sp z.dr z.pf z.ss z.on z.ro z.w z.i (f_Di_next z.d).1 z.k z.r) (sb2 A j (k + 1) w) := by
    unfold f_No_see sb2
    rw [d1]
    split <;> rfl
  have key := s_see ht (z := sNd.mk z.st z.was z.se z.he z.lo z.ma z.va z.sp z.dr z.pf z.ss z.on z.ro z.w z.i (f_Di_next z.d).1 z.k z.r) (y := pj A j) h hxq hq hdd hdr
  refine ⟨?_, ?_, hof⟩
  · rw [hsee]
    show RS (t + 2) _ (pj (f_M_see _ j _) j)
    rw [hpj]
    exact key
  · rw [hsee, d_see]
    have h2 : st2 A j (k + 1) w 2 = upd (A 2) (256 * j + (k + 1) % 256) (vp_nar .boolean 0) := hof.2.2.2
    rw [h2]
    exact d2
theorem L2 {n t k : Nat} (hn : n ≤ 4) (ht : t < 2 ^ 25) {u : Nat → sNd} {w : Int32} {m : Nat} (hw : w = nI m) (hm : m ≤ 1) : ∀ (d j : Nat) (A : Nat → Nat → Int32), j + d = n → okA A → (∀ i, i < j → RS (t + 2) (f_No_see (f_No_drive (u i)).1 w).1 (pj A i) ∧ RD (k + 1) i (f_No_see (f_No_drive (u i)).1 w).1.d (A 2)) → (∀ i, j ≤ i → i < n → P1 t (u i) (pj A i) ∧ RD k i (f_No_drive (u i)).1.d (A 2)) → okA (mlp2 (k + 1) w d j A) ∧ (∀ i, i < n → RS (t + 2) (f_No_see (f_No_drive (u i)).1 w).1 (pj (mlp2 (k + 1) w d j A) i) ∧ RD (k + 1) i (f_No_see (f_No_drive (u i)).1 w).1.d (mlp2 (k + 1) w d j A 2)) ∧ mlp2 (k + 1) w d j A 1 = A 1 := by
  intro d
  induction d with
  | zero =>
    intro j A hd ok h1 h2
    have hjn : j = n := by omega
    subst hjn
    exact ⟨ok, h1, rfl⟩
  | succ d ih =>
    intro j A hd ok h1 h2
    have hj : j < 4 := by omega
    obtain ⟨⟨p1, p2, p3⟩, p4⟩ := h2 j (Nat.le_refl j) (by omega)
    obtain ⟨k1, k2, hof⟩ := s_node ht hj ok hw hm p1 p2 p3 p4
    have hlt : (k + 1) % 256 < 256 := Nat.mod_lt _ (by decide)
    have hA2 : st2 A j (k + 1) w 2 = upd (A 2) (256 * j + (k + 1) % 256) (vp_nar .boolean 0) := hof.2.2.2
    have hpE : ∀ i, i ≠ j → pE (pj A i) (pj (st2 A j (k + 1) w) i) := fun i c => pE_of (A := setA A 2 (upd (A 2) (256 * j + (k + 1) % 256) (vp_nar .boolean 0))) hof c
    obtain ⟨q1, q2, q3⟩ := ih (j + 1) (st2 A j (k + 1) w) (by omega) (ok_st2 hj ok) (fun i hi => by
      by_cases c : i = j
      · subst c; exact ⟨k1, k2⟩
      · obtain ⟨a1, a2⟩ := h1 i (by omega)
        refine ⟨RS_pE a1 (hpE i c), ?_⟩
        rw [hA2]
        exact RD_o a2 (by omega)) (fun i i1 i2 => by
      obtain ⟨a1, a2⟩ := h2 i (by omega) i2
      refine ⟨P1_pE a1 (hpE i (by omega)), ?_⟩
      rw [hA2]
      exact RD_o a2 (by omega))
    exact ⟨q1, q2, q3.trans hof.2.2.1⟩
theorem d_drive (z : sNd) : (f_No_drive z).1.d = z.d := by
  unfold f_No_drive
  split
  · split <;> rfl
  · rfl
/-- class and reference, the whole bus, after k bit times -/
def SB (n k : Nat) (u : sBu) (A : Nat → Nat → Int32) : Prop := (∀ i, i < n → RS (2 * k) (u.1 i) (pj A i) ∧ RD k i (u.1 i).d (A 2)) ∧ RL k u.2.1 (A 1)
theorem SB_step {n k : Nat} (hn : n ≤ 4) (hk : k < 2 ^ 24) {u : sBu} {A : Nat → Nat → Int32} (ok : okA A) (h : SB n k u A) : SB n (k + 1) (stepB n k u) (bitM n k A) := by
  obtain ⟨h1, h2⟩ := h
  obtain ⟨a1, a2, a3, ⟨m, a4, a5⟩, a6, a7⟩ := L1 (t := 2 * k) hn (u := u.1) n 0 A 1 (by omega) ok (fun i hi => absurd hi (Nat.not_lt_zero i)) (fun i _ hi => (h1 i hi).1) rfl ⟨1, by decide, rfl⟩
  obtain ⟨b1, b2, b3⟩ := L2 (k := k) hn (show 2 * k < 2 ^ 25 by omega) (u := u.1) (w := drvW u.1 n) a5 a4 n 0 (mlp1 n 0 A 1).1 (by omega) a1 (fun i hi => absurd hi (Nat.not_lt_zero i)) (fun i _ hi => ⟨a2 i hi, by rw [d_drive, a7]; exact (h1 i hi).2⟩)
  have hbit : bitM n k A = bitE (mlp2 (k + 1) (drvW u.1 n) n 0 (mlp1 n 0 A 1).1) (k + 1) (drvW u.1 n) := by unfold bitM; rw [a3]
  rw [hbit]
  refine ⟨fun i hi => ?_, ?_⟩
  · obtain ⟨c1, c2⟩ := b2 i hi
    have hz : (stepB n k u).1 i = (f_No_see (f_No_drive (u.1 i)).1 (drvW u.1 n)).1 := by
      show (if i < n then (f_No_see (if i < n then (f_No_drive (u.1 i)).1 else u.1 i) (drvW u.1 n)).1 else _) = _
      rw [if_pos hi, if_pos hi]
    rw [hz]
    refine ⟨?_, c2⟩
    have hp : pj (bitE (mlp2 (k + 1) (drvW u.1 n) n 0 (mlp1 n 0 A 1).1) (k + 1) (drvW u.1 n)) i = pj (mlp2 (k + 1) (drvW u.1 n) n 0 (mlp1 n 0 A 1).1) i := pjc_0 (pjc_1 rfl)
    rw [hp]
    exact c1
  · show RL (k + 1) (upd u.2.1 (k % 64) (drvW u.1 n)) (upd (mlp2 (k + 1) (drvW u.1 n) n 0 (mlp1 n 0 A 1).1 1) ((k + 1) % 64) (drvW u.1 n))
    rw [b3, a6]
    exact RL_step h2
theorem SB_pass {n : Nat} (hn : n ≤ 4) : ∀ (d k : Nat) (u : sBu) (A : Nat → Nat → Int32), k + d < 2 ^ 24 → okA A → SB n k u A → SB n (k + d) (passN n d k u) (passM n d k A) := by
  intro d
  induction d with
  | zero => intro k u A _ _ h; exact h
  | succ d ih =>
    intro k u A hk ok h
    have h9 := ih (k + 1) (stepB n k u) (bitM n k A) (by omega) (ok_bitM hn ok) (SB_step hn (by omega) ok h)
    rw [show k + 1 + d = k + (d + 1) by omega] at h9
    exact h9
