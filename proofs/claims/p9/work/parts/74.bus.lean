/-! The bus's bit time, side by side. -/
def pE (y y2 : sM) : Prop := ∃ f1 f2 f3 f4 : Nat → Int32, y2 = (((y.swi f1).swb f2).swd f3).sbx f4 ∧ ∀ q : Nat, q < 4 → f1 q = y.wi q ∧ f2 q = y.wb q ∧ f3 q = y.wd q ∧ f4 q = y.bx q
theorem RS_pE {t : Nat} {z : sNd} {y y2 : sM} (h : RS t z y) (e : pE y y2) : RS t z y2 := by
  obtain ⟨f1, f2, f3, f4, rfl, he⟩ := e
  obtain ⟨⟨b1, ⟨w1, w2, w3⟩, ⟨i1, i2, i3⟩, b4⟩, h3, hM⟩ := h
  refine ⟨⟨b1, ⟨w1, w2, fun q hq => ?_⟩, ⟨i1, i2, fun q hq => ?_⟩, b4⟩, h3, ?_⟩
  · show okF (f1 q) (f2 q) (f3 q) ∧ z.w.row q = f_Fr_packed (f1 q) (f2 q) (f3 q)
    obtain ⟨a1, a2, a3, a4⟩ := he q (by omega)
    rw [a1, a2, a3]; exact w3 q hq
  · show z.i.row q = f4 q
    rw [(he q (by omega)).2.2.2]; exact i3 q hq
  · rcases hM with h0 | ⟨h1, hw, hR, c, i, b, d, p, x1, x2, x3, x4, x5, x6, x7⟩ | h2 | h2 | h2 | h2 | h2 | h2
    · exact Or.inl h0
    · obtain ⟨a1, a2, a3, a4⟩ := he c (by omega)
      exact Or.inr (Or.inl ⟨h1, hw, hR, c, i, b, d, p, x1, x2, x3, a1.trans x4, a2.trans x5, a3.trans x6, x7⟩)
    · exact Or.inr (Or.inr (Or.inl h2))
    · exact Or.inr (Or.inr (Or.inr (Or.inl h2)))
    · exact Or.inr (Or.inr (Or.inr (Or.inr (Or.inl h2))))
    · exact Or.inr (Or.inr (Or.inr (Or.inr (Or.inr (Or.inl h2)))))
    · exact Or.inr (Or.inr (Or.inr (Or.inr (Or.inr (Or.inr (Or.inl h2))))))
    · exact Or.inr (Or.inr (Or.inr (Or.inr (Or.inr (Or.inr (Or.inr h2))))))
theorem pE_29 {y y2 : sM} (e : pE y y2) : y2.r29 = y.r29 := by
  obtain ⟨f1, f2, f3, f4, rfl, he⟩ := e
  rfl
theorem pE_of {j i : Nat} {A B : Nat → Nat → Int32} (h : Ofr j A B) (hne : i ≠ j) : pE (pj A i) (pj B i) := by
  refine ⟨fun q => B 10 (4 * i + q), fun q => B 11 (4 * i + q), fun q => B 12 (4 * i + q), fun q => B 15 (4 * i + q), ?_, fun q hq => ⟨h.2.1 10 _ (by decide) (by omega), h.2.1 11 _ (by decide) (by omega), h.2.1 12 _ (by decide) (by omega), h.2.1 15 _ (by decide) (by omega)⟩⟩
  have e3 : B 3 i = A 3 i := h.1 3 i hne (by decide)
  have e4 : B 4 i = A 4 i := h.1 4 i hne (by decide)
  have e5 : B 5 i = A 5 i := h.1 5 i hne (by decide)
  have e6 : B 6 i = A 6 i := h.1 6 i hne (by decide)
  have e7 : B 7 i = A 7 i := h.1 7 i hne (by decide)
  have e8 : B 8 i = A 8 i := h.1 8 i hne (by decide)
  have e9 : B 9 i = A 9 i := h.1 9 i hne (by decide)
  have e13 : B 13 i = A 13 i := h.1 13 i hne (by decide)
  have e14 : B 14 i = A 14 i := h.1 14 i hne (by decide)
  have e16 : B 16 i = A 16 i := h.1 16 i hne (by decide)
  have e17 : B 17 i = A 17 i := h.1 17 i hne (by decide)
  have e18 : B 18 i = A 18 i := h.1 18 i hne (by decide)
  have e19 : B 19 i = A 19 i := h.1 19 i hne (by decide)
  have e20 : B 20 i = A 20 i := h.1 20 i hne (by decide)
  have e21 : B 21 i = A 21 i := h.1 21 i hne (by decide)
  have e22 : B 22 i = A 22 i := h.1 22 i hne (by decide)
  have e23 : B 23 i = A 23 i := h.1 23 i hne (by decide)
  have e24 : B 24 i = A 24 i := h.1 24 i hne (by decide)
  have e25 : B 25 i = A 25 i := h.1 25 i hne (by decide)
  have e26 : B 26 i = A 26 i := h.1 26 i hne (by decide)
  have e27 : B 27 i = A 27 i := h.1 27 i hne (by decide)
  have e28 : B 28 i = A 28 i := h.1 28 i hne (by decide)
  have e29 : B 29 i = A 29 i := h.1 29 i hne (by decide)
  show (B 3 i, B 4 i, B 5 i, B 6 i, B 7 i, B 8 i, B 9 i, B 13 i, B 14 i, B 16 i, B 17 i, B 18 i, B 19 i, B 20 i, B 21 i, B 22 i, B 23 i, B 24 i, B 25 i, B 26 i, B 27 i, B 28 i, B 29 i, fun q => B 10 (4 * i + q), fun q => B 11 (4 * i + q), fun q => B 12 (4 * i + q), fun q => B 15 (4 * i + q)) = (A 3 i, A 4 i, A 5 i, A 6 i, A 7 i, A 8 i, A 9 i, A 13 i, A 14 i, A 16 i, A 17 i, A 18 i, A 19 i, A 20 i, A 21 i, A 22 i, A 23 i, A 24 i, A 25 i, A 26 i, A 27 i, A 28 i, A 29 i, fun q => B 10 (4 * i + q), fun q => B 11 (4 * i + q), fun q => B 12 (4 * i + q), fun q => B 15 (4 * i + q))
  rw [e3, e4, e5, e6, e7, e8, e9, e13, e14, e16, e17, e18, e19, e20, e21, e22, e23, e24, e25, e26, e27, e28, e29]
/-- the disturbances that are to come -/
def RD (k j : Nat) (d : sDi) (A2 : Nat → Int32) : Prop := d.t < 201 ∧ (∀ i : Nat, 1 ≤ i → i ≤ 200 → d.ring ((d.t + i) % 201) = A2 (256 * j + (k + i) % 256)) ∧ d.ring d.t = 0 ∧ ∀ i : Nat, 201 ≤ i → i ≤ 256 → A2 (256 * j + (k + i) % 256) = 0
theorem RD_next {k j : Nat} {d : sDi} {A2 : Nat → Int32} (h : RD k j d A2) : (f_Di_next d).2 = A2 (256 * j + (k + 1) % 256) ∧ RD (k + 1) j (f_Di_next d).1 (upd A2 (256 * j + (k + 1) % 256) (vp_nar .boolean 0)) := by
  obtain ⟨h1, h2, h3, h4⟩ := h
  have hn : vp_nar .boolean 0 = (0 : Int32) := by decide
  refine ⟨h2 1 (by decide) (by decide), ?_⟩
  rw [hn]
  show RD (k + 1) j ((upd d.ring ((d.t + 1) % 201) 0, (d.t + 1) % 201) : sDi) _
  refine ⟨Nat.mod_lt _ (by decide), fun i i1 i2 => ?_, (show upd d.ring ((d.t + 1) % 201) 0 ((d.t + 1) % 201) = 0 from pk_us), fun i i1 i2 => ?_⟩
  · show upd d.ring ((d.t + 1) % 201) 0 (((d.t + 1) % 201 + i) % 201) = _
    rw [pk_un (by omega), pk_un (by omega)]
    by_cases c : i = 200
    · subst c
      rw [show ((d.t + 1) % 201 + 200) % 201 = d.t by omega, h3]
      have := h4 201 (by decide) (by decide)
      rw [show k + 1 + 200 = k + 201 by omega]
      exact this.symm
    · rw [show ((d.t + 1) % 201 + i) % 201 = (d.t + (i + 1)) % 201 by omega, h2 (i + 1) (by omega) (by omega), show k + 1 + i = k + (i + 1) by omega]
  · by_cases c : i = 256
    · subst c
      rw [show (k + 1 + 256) % 256 = (k + 1) % 256 by omega]
      exact pk_us
    · rw [pk_un (by omega), show k + 1 + i = k + (i + 1) by omega]
      exact h4 (i + 1) (by omega) (by omega)
theorem RD_o {k j : Nat} {d : sDi} {A2 : Nat → Int32} {a : Nat} {v : Int32} (h : RD k j d A2) (ha : a < 256 * j ∨ 256 * j + 256 ≤ a) : RD k j d (upd A2 a v) := by
  obtain ⟨h1, h2, h3, h4⟩ := h
  refine ⟨h1, fun i i1 i2 => ?_, h3, fun i i1 i2 => ?_⟩
  · have : (k + i) % 256 < 256 := Nat.mod_lt _ (by decide)
    rw [pk_un (by omega)]; exact h2 i i1 i2
  · have : (k + i) % 256 < 256 := Nat.mod_lt _ (by decide)
    rw [pk_un (by omega)]; exact h4 i i1 i2
theorem RD_mark {k j q : Nat} {d : sDi} {A2 : Nat → Int32} (h : RD k j d A2) (q1 : 1 ≤ q) (q2 : q ≤ 200) : RD k j (f_Di_mark d q) (upd A2 (256 * j + (k + q) % 256) (vp_nar .boolean 1)) := by
  obtain ⟨h1, h2, h3, h4⟩ := h
  have hn : vp_nar .boolean 1 = (1 : Int32) := by decide
  rw [hn]
  show RD k j ((upd d.ring ((d.t + q) % 201) 1, d.t) : sDi) _
  refine ⟨h1, fun i i1 i2 => ?_, ?_, fun i i1 i2 => ?_⟩
  · show upd d.ring ((d.t + q) % 201) 1 ((d.t + i) % 201) = _
    by_cases c : i = q
    · subst c; rw [pk_us, pk_us]
    · rw [pk_un (by omega), pk_un (by omega)]; exact h2 i i1 i2
  · show upd d.ring ((d.t + q) % 201) 1 d.t = 0
    rw [pk_un (by omega)]; exact h3
  · rw [pk_un (by omega)]; exact h4 i i1 i2
/-- the wire's levels -/
def RL (k : Nat) (lev wr : Nat → Int32) : Prop := ∀ i : Nat, i < 64 → i < k → lev ((k - 1 - i) % 64) = wr ((k - i) % 64)
theorem RL_step {k : Nat} {lev wr : Nat → Int32} {v : Int32} (h : RL k lev wr) : RL (k + 1) (upd lev (k % 64) v) (upd wr ((k + 1) % 64) v) := by
  intro i i1 i2
  by_cases c : i = 0
  · subst c
    rw [show k + 1 - 1 - 0 = k by omega, show k + 1 - 0 = k + 1 by omega, pk_us, pk_us]
  · rw [pk_un (by omega), pk_un (by omega)]
    have := h (i - 1) (by omega) (by omega)
    rw [show k - 1 - (i - 1) = k + 1 - 1 - i by omega, show k - (i - 1) = k + 1 - i by omega] at this
    exact this
