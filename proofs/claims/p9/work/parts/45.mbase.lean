/-! The reference's rows: one row set. -/
def setA (A : Nat → Nat → Int32) (k : Nat) (f : Nat → Int32) : Nat → Nat → Int32 := fun q => if q = k then f else A q
theorem setA_eq (A : Nat → Nat → Int32) (k : Nat) (f : Nat → Int32) : setA A k f k = f := if_pos rfl
theorem setA_ne {A : Nat → Nat → Int32} {k q : Nat} {f : Nat → Int32} (h : q ≠ k) : setA A k f q = A q := if_neg h
theorem md_ne {cI cZ : ClassId} {b k : Nat} {th nn : Int32} {A : Nat → Nat → Int32} {f : Nat → Int32} : ∀ j : Nat, j < 31 → j ≠ k + 1 → mdC cI cZ b th nn (setA A k f) j = mdC cI cZ b th nn A j := by
  intro j hj hne
  match j, hj, hne with
  | 0, _, _ => rfl
  | 1, _, hne => have h9 : setA A k f 0 = A 0 := if_neg (by omega); simp only [mdC, h9]
  | 2, _, hne => have h9 : setA A k f 1 = A 1 := if_neg (by omega); simp only [mdC, h9]
  | 3, _, hne => have h9 : setA A k f 2 = A 2 := if_neg (by omega); simp only [mdC, h9]
  | 4, _, hne => have h9 : setA A k f 3 = A 3 := if_neg (by omega); simp only [mdC, h9]
  | 5, _, hne => have h9 : setA A k f 4 = A 4 := if_neg (by omega); simp only [mdC, h9]
  | 6, _, hne => have h9 : setA A k f 5 = A 5 := if_neg (by omega); simp only [mdC, h9]
  | 7, _, hne => have h9 : setA A k f 6 = A 6 := if_neg (by omega); simp only [mdC, h9]
  | 8, _, hne => have h9 : setA A k f 7 = A 7 := if_neg (by omega); simp only [mdC, h9]
  | 9, _, hne => have h9 : setA A k f 8 = A 8 := if_neg (by omega); simp only [mdC, h9]
  | 10, _, hne => have h9 : setA A k f 9 = A 9 := if_neg (by omega); simp only [mdC, h9]
  | 11, _, hne => have h9 : setA A k f 10 = A 10 := if_neg (by omega); simp only [mdC, h9]
  | 12, _, hne => have h9 : setA A k f 11 = A 11 := if_neg (by omega); simp only [mdC, h9]
  | 13, _, hne => have h9 : setA A k f 12 = A 12 := if_neg (by omega); simp only [mdC, h9]
  | 14, _, hne => have h9 : setA A k f 13 = A 13 := if_neg (by omega); simp only [mdC, h9]
  | 15, _, hne => have h9 : setA A k f 14 = A 14 := if_neg (by omega); simp only [mdC, h9]
  | 16, _, hne => have h9 : setA A k f 15 = A 15 := if_neg (by omega); simp only [mdC, h9]
  | 17, _, hne => have h9 : setA A k f 16 = A 16 := if_neg (by omega); simp only [mdC, h9]
  | 18, _, hne => have h9 : setA A k f 17 = A 17 := if_neg (by omega); simp only [mdC, h9]
  | 19, _, hne => have h9 : setA A k f 18 = A 18 := if_neg (by omega); simp only [mdC, h9]
  | 20, _, hne => have h9 : setA A k f 19 = A 19 := if_neg (by omega); simp only [mdC, h9]
  | 21, _, hne => have h9 : setA A k f 20 = A 20 := if_neg (by omega); simp only [mdC, h9]
  | 22, _, hne => have h9 : setA A k f 21 = A 21 := if_neg (by omega); simp only [mdC, h9]
  | 23, _, hne => have h9 : setA A k f 22 = A 22 := if_neg (by omega); simp only [mdC, h9]
  | 24, _, hne => have h9 : setA A k f 23 = A 23 := if_neg (by omega); simp only [mdC, h9]
  | 25, _, hne => have h9 : setA A k f 24 = A 24 := if_neg (by omega); simp only [mdC, h9]
  | 26, _, hne => have h9 : setA A k f 25 = A 25 := if_neg (by omega); simp only [mdC, h9]
  | 27, _, hne => have h9 : setA A k f 26 = A 26 := if_neg (by omega); simp only [mdC, h9]
  | 28, _, hne => have h9 : setA A k f 27 = A 27 := if_neg (by omega); simp only [mdC, h9]
  | 29, _, hne => have h9 : setA A k f 28 = A 28 := if_neg (by omega); simp only [mdC, h9]
  | 30, _, hne => have h9 : setA A k f 29 = A 29 := if_neg (by omega); simp only [mdC, h9]
  | j + 31, h9, _ => omega
theorem md_set {D : va_G} {cI cZ : ClassId} {b k : Nat} {th nn : Int32} {A : Nat → Nat → Int32} {f : Nat → Int32} {H H1 : Heap} (h : hq_B D vwCl b 31 (mdC cI cZ b th nn A) H) (hu : hq_U D vwCl (b + (k + 1)) (mdC cI cZ b th nn (setA A k f) (k + 1)) H H1) : hq_B D vwCl b 31 (mdC cI cZ b th nn (setA A k f)) H1 := by
  intro j hj
  by_cases hk : j = k + 1
  · subst hk; exact hu.2.2
  · rw [md_ne j hj hk]
    exact hq_au (h j hj) hu (by omega)
theorem md_thn {cI cZ : ClassId} {b : Nat} {th th2 nn : Int32} {A : Nat → Nat → Int32} : ∀ j : Nat, j < 31 → j ≠ 0 → mdC cI cZ b th2 nn A j = mdC cI cZ b th nn A j := by
  intro j hj hne
  match j, hj, hne with
  | 0, _, hne => exact absurd rfl hne
  | 1, _, _ => rfl
  | 2, _, _ => rfl
  | 3, _, _ => rfl
  | 4, _, _ => rfl
  | 5, _, _ => rfl
  | 6, _, _ => rfl
  | 7, _, _ => rfl
  | 8, _, _ => rfl
  | 9, _, _ => rfl
  | 10, _, _ => rfl
  | 11, _, _ => rfl
  | 12, _, _ => rfl
  | 13, _, _ => rfl
  | 14, _, _ => rfl
  | 15, _, _ => rfl
  | 16, _, _ => rfl
  | 17, _, _ => rfl
  | 18, _, _ => rfl
  | 19, _, _ => rfl
  | 20, _, _ => rfl
  | 21, _, _ => rfl
  | 22, _, _ => rfl
  | 23, _, _ => rfl
  | 24, _, _ => rfl
  | 25, _, _ => rfl
  | 26, _, _ => rfl
  | 27, _, _ => rfl
  | 28, _, _ => rfl
  | 29, _, _ => rfl
  | 30, _, _ => rfl
  | j + 31, h9, _ => omega
theorem md_thr {D : va_G} {cI cZ : ClassId} {b : Nat} {th th2 nn : Int32} {A : Nat → Nat → Int32} {H H1 : Heap} (h : hq_B D vwCl b 31 (mdC cI cZ b th nn A) H) (hu : hq_U D vwCl b (mdC cI cZ b th2 nn A 0) H H1) : hq_B D vwCl b 31 (mdC cI cZ b th2 nn A) H1 := by
  intro j hj
  by_cases hk : j = 0
  · subst hk; exact hu.2.2
  · rw [md_thn j hj hk]
    exact hq_au (h j hj) hu (by omega)
