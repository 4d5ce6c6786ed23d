/-! What the reference keeps: the sizes at most 4, the chosen place at most 3, and who sends has something to send. -/
def okA (A : Nat → Nat → Int32) : Prop := ∀ j : Nat, j < 4 → (∃ w : Nat, w ≤ 4 ∧ A 9 j = nI w) ∧ (∃ w : Nat, w ≤ 4 ∧ A 14 j = nI w) ∧ (∃ w : Nat, w ≤ 3 ∧ A 13 j = nI w) ∧ (A 3 j = 1 → ¬ A 9 j = 0)
theorem okA_o {A : Nat → Nat → Int32} {k : Nat} {f : Nat → Int32} (h : k ≠ 3 ∧ k ≠ 9 ∧ k ≠ 13 ∧ k ≠ 14) (ok : okA A) : okA (setA A k f) := by
  intro j hj
  have h3 : setA A k f 3 = A 3 := setA_ne h.1.symm
  have h9 : setA A k f 9 = A 9 := setA_ne h.2.1.symm
  have h13 : setA A k f 13 = A 13 := setA_ne h.2.2.1.symm
  have h14 : setA A k f 14 = A 14 := setA_ne h.2.2.2.symm
  rw [h3, h9, h13, h14]
  exact ok j hj
theorem okA_3 {A : Nat → Nat → Int32} {f : Nat → Int32} {j : Nat} {v : Int32} (hf : f = upd (A 3) j v) (hv : v = 1 → ¬ A 9 j = 0) (ok : okA A) : okA (setA A 3 f) := by
  subst hf
  intro q hq
  have h0 := ok q hq
  have h3 : setA A 3 (upd (A 3) j v) 3 = upd (A 3) j v := setA_eq A 3 _
  have h9 : setA A 3 (upd (A 3) j v) 9 = A 9 := setA_ne (by decide)
  have h13 : setA A 3 (upd (A 3) j v) 13 = A 13 := setA_ne (by decide)
  have h14 : setA A 3 (upd (A 3) j v) 14 = A 14 := setA_ne (by decide)
  rw [h3, h9, h13, h14]
  refine ⟨h0.1, h0.2.1, h0.2.2.1, fun h => ?_⟩
  by_cases e : q = j
  · subst e; rw [pk_us] at h; exact hv h
  · rw [pk_un e] at h; exact h0.2.2.2 h
theorem okA_9 {A : Nat → Nat → Int32} {f : Nat → Int32} {j : Nat} {v : Int32} (hf : f = upd (A 9) j v) (hv : ∃ w : Nat, w ≤ 4 ∧ v = nI w) (h1 : A 3 j = 1 → ¬ v = 0) (ok : okA A) : okA (setA A 9 f) := by
  subst hf
  intro q hq
  have h0 := ok q hq
  have h3 : setA A 9 (upd (A 9) j v) 3 = A 3 := setA_ne (by decide)
  have h9 : setA A 9 (upd (A 9) j v) 9 = upd (A 9) j v := setA_eq A 9 _
  have h13 : setA A 9 (upd (A 9) j v) 13 = A 13 := setA_ne (by decide)
  have h14 : setA A 9 (upd (A 9) j v) 14 = A 14 := setA_ne (by decide)
  rw [h3, h9, h13, h14]
  by_cases e : q = j
  · subst e; rw [pk_us]; exact ⟨hv, h0.2.1, h0.2.2.1, h1⟩
  · rw [pk_un e]; exact h0
theorem okA_13 {A : Nat → Nat → Int32} {f : Nat → Int32} {j : Nat} {v : Int32} (hf : f = upd (A 13) j v) (hv : ∃ w : Nat, w ≤ 3 ∧ v = nI w) (ok : okA A) : okA (setA A 13 f) := by
  subst hf
  intro q hq
  have h0 := ok q hq
  have h3 : setA A 13 (upd (A 13) j v) 3 = A 3 := setA_ne (by decide)
  have h9 : setA A 13 (upd (A 13) j v) 9 = A 9 := setA_ne (by decide)
  have h13 : setA A 13 (upd (A 13) j v) 13 = upd (A 13) j v := setA_eq A 13 _
  have h14 : setA A 13 (upd (A 13) j v) 14 = A 14 := setA_ne (by decide)
  rw [h3, h9, h13, h14]
  by_cases e : q = j
  · subst e; rw [pk_us]; exact ⟨h0.1, h0.2.1, hv, h0.2.2.2⟩
  · rw [pk_un e]; exact h0
theorem okA_14 {A : Nat → Nat → Int32} {f : Nat → Int32} {j : Nat} {v : Int32} (hf : f = upd (A 14) j v) (hv : ∃ w : Nat, w ≤ 4 ∧ v = nI w) (ok : okA A) : okA (setA A 14 f) := by
  subst hf
  intro q hq
  have h0 := ok q hq
  have h3 : setA A 14 (upd (A 14) j v) 3 = A 3 := setA_ne (by decide)
  have h9 : setA A 14 (upd (A 14) j v) 9 = A 9 := setA_ne (by decide)
  have h13 : setA A 14 (upd (A 14) j v) 13 = A 13 := setA_ne (by decide)
  have h14 : setA A 14 (upd (A 14) j v) 14 = upd (A 14) j v := setA_eq A 14 _
  rw [h3, h9, h13, h14]
  by_cases e : q = j
  · subst e; rw [pk_us]; exact ⟨h0.1, hv, h0.2.2.1, h0.2.2.2⟩
  · rw [pk_un e]; exact h0
theorem up_1 {x : Int32} (h : ∃ w : Nat, w ≤ 4 ∧ x = nI w) (h4 : ¬ x = 4) : ∃ w : Nat, w ≤ 4 ∧ x + 1 = nI w := by
  obtain ⟨w, hw, e⟩ := h
  have : ¬ w = 4 := fun h9 => h4 (by rw [e, h9]; rfl)
  exact ⟨w + 1, by omega, by rw [e, nI_1]⟩
theorem bx_up {A : Nat → Nat → Int32} {j : Nat} (ok : okA A) (hj : j < 4) (h : ¬ A 14 j = 4) : ∃ w : Nat, w ≤ 4 ∧ A 14 j + 1 = nI w := up_1 (ok j hj).2.1 h
theorem wt_up {A : Nat → Nat → Int32} {j : Nat} (ok : okA A) (hj : j < 4) (h : ¬ A 9 j = 4) : ∃ w : Nat, w ≤ 4 ∧ A 9 j + 1 = nI w := up_1 (ok j hj).1 h
theorem wt_nz {A : Nat → Nat → Int32} {j : Nat} (ok : okA A) (hj : j < 4) : ¬ A 9 j + 1 = 0 := by
  obtain ⟨w, hw, e⟩ := (ok j hj).1
  rw [e, nI_1]
  exact nI_ne0 (by omega) (by omega)
theorem ix4 (j i : Nat) : (4 : Int32) * nI j + nI i = nI (4 * j + i) := by
  rw [show (4 : Int32) * nI j = nI (4 * j) from pk_mul 4 j, nI_add]
theorem in_ch {A : Nat → Nat → Int32} {j : Nat} (ok : okA A) (hj : j < 4) : vp_in ((4 * (nI j)) + (A 13 j)) 16 := by
  obtain ⟨w, hw, e⟩ := (ok j hj).2.2.1
  rw [e, ix4]
  exact vp_in_nI (by omega) (by decide)
theorem in_4 {x : Int32} {j : Nat} (hj : j < 4) (h : ∃ w : Nat, w ≤ 4 ∧ x = nI w) (h4 : ¬ x = 4) : vp_in ((4 * (nI j)) + x) 16 := by
  obtain ⟨w, hw, e⟩ := h
  have : ¬ w = 4 := fun h9 => h4 (by rw [e, h9]; rfl)
  rw [e, ix4]
  exact vp_in_nI (by omega) (by decide)
theorem in_bx {A : Nat → Nat → Int32} {j : Nat} (ok : okA A) (hj : j < 4) (h : ¬ A 14 j = 4) : vp_in ((4 * (nI j)) + (A 14 j)) 16 := in_4 hj (ok j hj).2.1 h
theorem in_wt {A : Nat → Nat → Int32} {j : Nat} (ok : okA A) (hj : j < 4) (h : ¬ A 9 j = 4) : vp_in ((4 * (nI j)) + (A 9 j)) 16 := in_4 hj (ok j hj).1 h
def wn (A : Nat → Nat → Int32) (j : Nat) : Nat := (A 9 j).toNatClampNeg
def cn (A : Nat → Nat → Int32) (j : Nat) : Nat := (A 13 j).toNatClampNeg
def bn (A : Nat → Nat → Int32) (j : Nat) : Nat := (A 14 j).toNatClampNeg
theorem wn_eq {A : Nat → Nat → Int32} {j : Nat} (ok : okA A) (hj : j < 4) : wn A j ≤ 4 ∧ A 9 j = nI (wn A j) := by
  obtain ⟨w, hw, e⟩ := (ok j hj).1
  have h : wn A j = w := by unfold wn; rw [e, nI_clamp (by omega)]
  rw [h]; exact ⟨hw, e⟩
theorem cn_eq {A : Nat → Nat → Int32} {j : Nat} (ok : okA A) (hj : j < 4) : cn A j ≤ 3 ∧ A 13 j = nI (cn A j) := by
  obtain ⟨w, hw, e⟩ := (ok j hj).2.2.1
  have h : cn A j = w := by unfold cn; rw [e, nI_clamp (by omega)]
  rw [h]; exact ⟨hw, e⟩
theorem bn_eq {A : Nat → Nat → Int32} {j : Nat} (ok : okA A) (hj : j < 4) : bn A j ≤ 4 ∧ A 14 j = nI (bn A j) := by
  obtain ⟨w, hw, e⟩ := (ok j hj).2.1
  have h : bn A j = w := by unfold bn; rw [e, nI_clamp (by omega)]
  rw [h]; exact ⟨hw, e⟩
def bst (A : Nat → Nat → Int32) (j : Nat) : Nat → Nat → Nat → Nat
  | 0, _, q => q
  | d + 1, i, q => bst A j d (i + 1) (if A 10 (4 * j + q) ≤ A 10 (4 * j + i) then q else i)
theorem bst_lt (A : Nat → Nat → Int32) (j : Nat) : ∀ d i q n : Nat, q < n → i + d ≤ n → bst A j d i q < n := by
  intro d
  induction d with
  | zero => intro i q n h1 _; exact h1
  | succ d ih =>
    intro i q n h1 h2
    unfold bst
    refine ih (i + 1) _ n ?_ (by omega)
    split
    · exact h1
    · omega
def sh3 : Nat → Nat → (Nat → Nat → Int32) → (Nat → Nat → Int32)
  | 0, _, A => A
  | d + 1, i, A => sh3 d (i + 1) (setA (setA (setA A 10 (upd (A 10) i (A 10 (i + 1)))) 11 (upd (A 11) i (A 11 (i + 1)))) 12 (upd (A 12) i (A 12 (i + 1))))
theorem ok_sh3 : ∀ (d i : Nat) (A : Nat → Nat → Int32), okA A → okA (sh3 d i A) := by
  intro d
  induction d with
  | zero => intro i A h; exact h
  | succ d ih => intro i A h; exact ih (i + 1) _ (okA_o (by decide) (okA_o (by decide) (okA_o (by decide) h)))
def sh1 : Nat → Nat → (Nat → Nat → Int32) → (Nat → Nat → Int32)
  | 0, _, A => A
  | d + 1, i, A => sh1 d (i + 1) (setA A 15 (upd (A 15) i (A 15 (i + 1))))
theorem ok_sh1 : ∀ (d i : Nat) (A : Nat → Nat → Int32), okA A → okA (sh1 d i A) := by
  intro d
  induction d with
  | zero => intro i A h; exact h
  | succ d ih => intro i A h; exact ih (i + 1) _ (okA_o (by decide) h)
