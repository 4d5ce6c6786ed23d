/-! What is another node's, and the wire and the disturbances, stay. -/
def Ofr (j : Nat) (A B : Nat → Nat → Int32) : Prop := (∀ k i : Nat, i ≠ j → (k ≠ 0 ∧ k ≠ 1 ∧ k ≠ 2 ∧ k ≠ 10 ∧ k ≠ 11 ∧ k ≠ 12 ∧ k ≠ 15) → B k i = A k i) ∧ (∀ k i : Nat, (k = 10 ∨ k = 11 ∨ k = 12 ∨ k = 15) → (i < 4 * j ∨ 4 * j + 4 ≤ i) → B k i = A k i) ∧ B 1 = A 1 ∧ B 2 = A 2
theorem ofr_r {j : Nat} {A : Nat → Nat → Int32} : Ofr j A A := ⟨fun _ _ _ _ => rfl, fun _ _ _ _ => rfl, rfl, rfl⟩
theorem ofr_t {j : Nat} {A B C : Nat → Nat → Int32} (h1 : Ofr j A B) (h2 : Ofr j B C) : Ofr j A C := ⟨fun k i a b => (h2.1 k i a b).trans (h1.1 k i a b), fun k i a b => (h2.2.1 k i a b).trans (h1.2.1 k i a b), h2.2.2.1.trans h1.2.2.1, h2.2.2.2.trans h1.2.2.2⟩
theorem ofr_n {j k : Nat} {A B : Nat → Nat → Int32} {f : Nat → Int32} {v : Int32} (hk : k ≠ 1 ∧ k ≠ 2 ∧ k ≠ 10 ∧ k ≠ 11 ∧ k ≠ 12 ∧ k ≠ 15) (hf : f = upd (B k) j v) (h : Ofr j A B) : Ofr j A (setA B k f) := by
  subst hf
  refine ofr_t h ⟨fun q i a b => ?_, fun q i a b => ?_, setA_ne (Ne.symm hk.1), setA_ne (Ne.symm hk.2.1)⟩
  · by_cases e : q = k
    · subst e; rw [setA_eq]; exact pk_un a
    · rw [setA_ne e]
  · rw [setA_ne (by omega)]
theorem ofr_0 {j : Nat} {A B : Nat → Nat → Int32} {f : Nat → Int32} (h : Ofr j A B) : Ofr j A (setA B 0 f) := ofr_t h ⟨fun q i a b => by rw [setA_ne b.1], fun q i a b => by rw [setA_ne (by omega)], setA_ne (by decide), setA_ne (by decide)⟩
theorem ofr_w {j k c : Nat} {A B : Nat → Nat → Int32} {f : Nat → Int32} {v : Int32} (hk : k = 10 ∨ k = 11 ∨ k = 12 ∨ k = 15) (hf : f = upd (B k) (4 * j + c) v) (hc : c < 4) (h : Ofr j A B) : Ofr j A (setA B k f) := by
  subst hf
  refine ofr_t h ⟨fun q i a b => by rw [setA_ne (by omega)], fun q i a b => ?_, setA_ne (by omega), setA_ne (by omega)⟩
  by_cases e : q = k
  · subst e; rw [setA_eq]; exact pk_un (by omega)
  · rw [setA_ne e]
theorem in_c4 {x : Int32} (h : ∃ w : Nat, w ≤ 4 ∧ x = nI w) (h4 : ¬ x = 4) : x.toNatClampNeg < 4 := by
  obtain ⟨w, hw, e⟩ := h
  have : ¬ w = 4 := fun h9 => h4 (by rw [e, h9]; rfl)
  rw [e, nI_clamp (by omega)]
  omega
theorem of_sh3 {j : Nat} : ∀ (d c : Nat) (B : Nat → Nat → Int32), c + d ≤ 4 → Ofr j B (sh3 d (4 * j + c) B) := by
  intro d
  induction d with
  | zero => intro c B _; exact ofr_r
  | succ d ih =>
    intro c B h
    exact ofr_t (ofr_w (c := c) (by decide) rfl (by omega) (ofr_w (c := c) (by decide) rfl (by omega) (ofr_w (c := c) (by decide) rfl (by omega) ofr_r))) (ih (c + 1) _ (by omega))
set_option maxHeartbeats 4000000 in
set_option maxRecDepth 100000 in
theorem of_M_rest (A : Nat → Nat → Int32) (j : Nat) (hj : j < 4) : Ofr j A (f_M_rest A j) := by
  exact (ofr_n (k := 26) (B := (setA A 3 (upd (A 3) j 5))) (v := 0) (by decide) rfl (ofr_n (k := 3) (B := A) (v := 5) (by decide) rfl ofr_r))
set_option maxHeartbeats 4000000 in
set_option maxRecDepth 100000 in
theorem of_M_open (A : Nat → Nat → Int32) (j : Nat) (hj : j < 4) (x : Int32) : Ofr j A (f_M_open A j x) := by
  exact (ofr_n (k := 23) (B := (setA (setA (setA (setA (setA (setA (setA (setA (setA A 3 (upd (A 3) j x)) 28 (upd (A 28) j x)) 16 (upd (A 16) j 0)) 17 (upd (A 17) j 0)) 18 (upd (A 18) j 0)) 19 (upd (A 19) j 0)) 20 (upd (A 20) j 0)) 21 (upd (A 21) j 0)) 22 (upd (A 22) j 0))) (v := 0) (by decide) rfl (ofr_n (k := 22) (B := (setA (setA (setA (setA (setA (setA (setA (setA A 3 (upd (A 3) j x)) 28 (upd (A 28) j x)) 16 (upd (A 16) j 0)) 17 (upd (A 17) j 0)) 18 (upd (A 18) j 0)) 19 (upd (A 19) j 0)) 20 (upd (A 20) j 0)) 21 (upd (A 21) j 0))) (v := 0) (by decide) rfl (ofr_n (k := 21) (B := (setA (setA (setA (setA (setA (setA (setA A 3 (upd (A 3) j x)) 28 (upd (A 28) j x)) 16 (upd (A 16) j 0)) 17 (upd (A 17) j 0)) 18 (upd (A 18) j 0)) 19 (upd (A 19) j 0)) 20 (upd (A 20) j 0))) (v := 0) (by decide) rfl (ofr_n (k := 20) (B := (setA (setA (setA (setA (setA (setA A 3 (upd (A 3) j x)) 28 (upd (A 28) j x)) 16 (upd (A 16) j 0)) 17 (upd (A 17) j 0)) 18 (upd (A 18) j 0)) 19 (upd (A 19) j 0))) (v := 0) (by decide) rfl (ofr_n (k := 19) (B := (setA (setA (setA (setA (setA A 3 (upd (A 3) j x)) 28 (upd (A 28) j x)) 16 (upd (A 16) j 0)) 17 (upd (A 17) j 0)) 18 (upd (A 18) j 0))) (v := 0) (by decide) rfl (ofr_n (k := 18) (B := (setA (setA (setA (setA A 3 (upd (A 3) j x)) 28 (upd (A 28) j x)) 16 (upd (A 16) j 0)) 17 (upd (A 17) j 0))) (v := 0) (by decide) rfl (ofr_n (k := 17) (B := (setA (setA (setA A 3 (upd (A 3) j x)) 28 (upd (A 28) j x)) 16 (upd (A 16) j 0))) (v := 0) (by decide) rfl (ofr_n (k := 16) (B := (setA (setA A 3 (upd (A 3) j x)) 28 (upd (A 28) j x))) (v := 0) (by decide) rfl (ofr_n (k := 28) (B := (setA A 3 (upd (A 3) j x))) (v := x) (by decide) rfl (ofr_n (k := 3) (B := A) (v := x) (by decide) rfl ofr_r))))))))))
set_option maxHeartbeats 4000000 in
set_option maxRecDepth 100000 in
theorem of_M_goesOff (A : Nat → Nat → Int32) (j : Nat) (hj : j < 4) : Ofr j A (f_M_goesOff A j).1 := by
  unfold f_M_goesOff
  by_cases c42 : 256 ≤ (A 4 j)
  · rw [if_pos c42]
    exact (ofr_n (k := 26) (B := (setA (setA (setA A 3 (upd (A 3) j 7)) 9 (upd (A 9) j 0)) 27 (upd (A 27) j 0))) (v := 0) (by decide) rfl (ofr_n (k := 27) (B := (setA (setA A 3 (upd (A 3) j 7)) 9 (upd (A 9) j 0))) (v := 0) (by decide) rfl (ofr_n (k := 9) (B := (setA A 3 (upd (A 3) j 7))) (v := 0) (by decide) rfl (ofr_n (k := 3) (B := A) (v := 7) (by decide) rfl ofr_r))))
  · rw [if_neg c42]
    exact ofr_r
set_option maxHeartbeats 4000000 in
set_option maxRecDepth 100000 in
theorem of_M_flag (A : Nat → Nat → Int32) (j : Nat) (hj : j < 4) (x y : Int32) : Ofr j A (f_M_flag A j x y) := by
  exact (ofr_n (k := 26) (B := (setA (setA (setA A 24 (upd (A 24) j x)) 25 (upd (A 25) j (vp_nar .boolean y))) 3 (upd (A 3) j 3))) (v := 0) (by decide) rfl (ofr_n (k := 3) (B := (setA (setA A 24 (upd (A 24) j x)) 25 (upd (A 25) j (vp_nar .boolean y)))) (v := 3) (by decide) rfl (ofr_n (k := 25) (B := (setA A 24 (upd (A 24) j x))) (v := vp_nar .boolean y) (by decide) rfl (ofr_n (k := 24) (B := A) (v := x) (by decide) rfl ofr_r))))
set_option maxHeartbeats 4000000 in
set_option maxRecDepth 100000 in
theorem of_M_overload (A : Nat → Nat → Int32) (j : Nat) (hj : j < 4) : Ofr j A (f_M_overload A j) := by
  exact (ofr_t (ofr_n (k := 28) (B := (setA A 0 (upd (A 0) 7 ((A 0 7) + 1)))) (v := 0) (by decide) rfl (ofr_0 ofr_r)) (of_M_flag (setA (setA A 0 (upd (A 0) 7 ((A 0 7) + 1))) 28 (upd (A 28) j 0)) j hj 0 0))
set_option maxHeartbeats 4000000 in
set_option maxRecDepth 100000 in
theorem of_M_eightMore (A : Nat → Nat → Int32) (j : Nat) (hj : j < 4) : Ofr j A (f_M_eightMore A j).1 := by
  unfold f_M_eightMore
  by_cases c43 : (A 24 j) = 1
  · rw [if_pos c43]
    by_cases c73 : (A 24 j) = 2
    · rw [if_pos c73]
      exact (ofr_t (ofr_n (k := 5) (B := (setA A 4 (upd (A 4) j ((A 4 j) + 8)))) (v := (A 5 j) + 8) (by decide) rfl (ofr_n (k := 4) (B := A) (v := (A 4 j) + 8) (by decide) rfl ofr_r)) (of_M_goesOff (setA (setA A 4 (upd (A 4) j ((A 4 j) + 8))) 5 (upd (A 5) j ((A 5 j) + 8))) j hj))
    · rw [if_neg c73]
      exact (ofr_t (ofr_n (k := 5) (B := (setA A 4 (upd (A 4) j ((A 4 j) + 8)))) (v := (A 5 j) + 0) (by decide) rfl (ofr_n (k := 4) (B := A) (v := (A 4 j) + 8) (by decide) rfl ofr_r)) (of_M_goesOff (setA (setA A 4 (upd (A 4) j ((A 4 j) + 8))) 5 (upd (A 5) j ((A 5 j) + 0))) j hj))
  · rw [if_neg c43]
    by_cases c50 : (A 24 j) = 2
    · rw [if_pos c50]
      exact (ofr_t (ofr_n (k := 5) (B := (setA A 4 (upd (A 4) j ((A 4 j) + 0)))) (v := (A 5 j) + 8) (by decide) rfl (ofr_n (k := 4) (B := A) (v := (A 4 j) + 0) (by decide) rfl ofr_r)) (of_M_goesOff (setA (setA A 4 (upd (A 4) j ((A 4 j) + 0))) 5 (upd (A 5) j ((A 5 j) + 8))) j hj))
    · rw [if_neg c50]
      exact (ofr_t (ofr_n (k := 5) (B := (setA A 4 (upd (A 4) j ((A 4 j) + 0)))) (v := (A 5 j) + 0) (by decide) rfl (ofr_n (k := 4) (B := A) (v := (A 4 j) + 0) (by decide) rfl ofr_r)) (of_M_goesOff (setA (setA A 4 (upd (A 4) j ((A 4 j) + 0))) 5 (upd (A 5) j ((A 5 j) + 0))) j hj))
set_option maxHeartbeats 4000000 in
set_option maxRecDepth 100000 in
theorem of_M_flagging (A : Nat → Nat → Int32) (j : Nat) (hj : j < 4) (x : Int32) : Ofr j A (f_M_flagging A j x) := by
  unfold f_M_flagging
  by_cases c42 : (A 29 j) = 0
  · rw [if_pos c42]
    by_cases c62 : x = 1
    · rw [if_pos c62]
      by_cases c86 : ((f_M_eightMore A j).2) = 0
      · rw [if_pos c86]
        by_cases c94 : ((((f_M_eightMore A j).1 26) j) + 1) = 6
        · rw [if_pos c94]
          exact (ofr_n (k := 27) (B := (setA (setA (setA (f_M_eightMore A j).1 26 (upd ((f_M_eightMore A j).1 26) j ((((f_M_eightMore A j).1 26) j) + 1))) 3 (upd ((f_M_eightMore A j).1 3) j 4)) 26 (upd (upd ((f_M_eightMore A j).1 26) j ((((f_M_eightMore A j).1 26) j) + 1)) j 0))) (v := 0) (by decide) rfl (ofr_n (k := 26) (B := (setA (setA (f_M_eightMore A j).1 26 (upd ((f_M_eightMore A j).1 26) j ((((f_M_eightMore A j).1 26) j) + 1))) 3 (upd ((f_M_eightMore A j).1 3) j 4))) (v := 0) (by decide) rfl (ofr_n (k := 3) (B := (setA (f_M_eightMore A j).1 26 (upd ((f_M_eightMore A j).1 26) j ((((f_M_eightMore A j).1 26) j) + 1)))) (v := 4) (by decide) rfl (ofr_n (k := 26) (B := (f_M_eightMore A j).1) (v := (((f_M_eightMore A j).1 26) j) + 1) (by decide) rfl (ofr_t ofr_r (of_M_eightMore A j hj))))))
        · rw [if_neg c94]
          exact (ofr_n (k := 26) (B := (f_M_eightMore A j).1) (v := (((f_M_eightMore A j).1 26) j) + 1) (by decide) rfl (ofr_t ofr_r (of_M_eightMore A j hj)))
      · rw [if_neg c86]
        exact (ofr_t ofr_r (of_M_eightMore A j hj))
    · rw [if_neg c62]
      by_cases c69 : ((A 26 j) + 1) = 6
      · rw [if_pos c69]
        exact (ofr_n (k := 27) (B := (setA (setA (setA A 26 (upd (A 26) j ((A 26 j) + 1))) 3 (upd (A 3) j 4)) 26 (upd (upd (A 26) j ((A 26 j) + 1)) j 0))) (v := 0) (by decide) rfl (ofr_n (k := 26) (B := (setA (setA A 26 (upd (A 26) j ((A 26 j) + 1))) 3 (upd (A 3) j 4))) (v := 0) (by decide) rfl (ofr_n (k := 3) (B := (setA A 26 (upd (A 26) j ((A 26 j) + 1)))) (v := 4) (by decide) rfl (ofr_n (k := 26) (B := A) (v := (A 26 j) + 1) (by decide) rfl ofr_r))))
      · rw [if_neg c69]
        exact (ofr_n (k := 26) (B := A) (v := (A 26 j) + 1) (by decide) rfl ofr_r)
  · rw [if_neg c42]
    by_cases c49 : ((A 26 j) + 1) = 6
    · rw [if_pos c49]
      exact (ofr_n (k := 27) (B := (setA (setA (setA A 26 (upd (A 26) j ((A 26 j) + 1))) 3 (upd (A 3) j 4)) 26 (upd (upd (A 26) j ((A 26 j) + 1)) j 0))) (v := 0) (by decide) rfl (ofr_n (k := 26) (B := (setA (setA A 26 (upd (A 26) j ((A 26 j) + 1))) 3 (upd (A 3) j 4))) (v := 0) (by decide) rfl (ofr_n (k := 3) (B := (setA A 26 (upd (A 26) j ((A 26 j) + 1)))) (v := 4) (by decide) rfl (ofr_n (k := 26) (B := A) (v := (A 26 j) + 1) (by decide) rfl ofr_r))))
    · rw [if_neg c49]
      exact (ofr_n (k := 26) (B := A) (v := (A 26 j) + 1) (by decide) rfl ofr_r)
set_option maxHeartbeats 4000000 in
set_option maxRecDepth 100000 in
theorem of_M_offTime (A : Nat → Nat → Int32) (j : Nat) (hj : j < 4) (x : Int32) : Ofr j A (f_M_offTime A j x) := by
  unfold f_M_offTime
  by_cases c41 : x = 1
  · rw [if_pos c41]
    by_cases c71 : ((A 27 j) + 1) = 11
    · rw [if_pos c71]
      by_cases c100 : ((A 26 j) + 1) = 8
      · rw [if_pos c100]
        exact (ofr_n (k := 26) (B := (setA (setA (setA (setA (setA (setA A 27 (upd (A 27) j ((A 27 j) + 1))) 27 (upd (upd (A 27) j ((A 27 j) + 1)) j 0)) 26 (upd (A 26) j ((A 26 j) + 1))) 4 (upd (A 4) j 0)) 5 (upd (A 5) j 0)) 3 (upd (A 3) j 0))) (v := 0) (by decide) rfl (ofr_n (k := 3) (B := (setA (setA (setA (setA (setA A 27 (upd (A 27) j ((A 27 j) + 1))) 27 (upd (upd (A 27) j ((A 27 j) + 1)) j 0)) 26 (upd (A 26) j ((A 26 j) + 1))) 4 (upd (A 4) j 0)) 5 (upd (A 5) j 0))) (v := 0) (by decide) rfl (ofr_n (k := 5) (B := (setA (setA (setA (setA A 27 (upd (A 27) j ((A 27 j) + 1))) 27 (upd (upd (A 27) j ((A 27 j) + 1)) j 0)) 26 (upd (A 26) j ((A 26 j) + 1))) 4 (upd (A 4) j 0))) (v := 0) (by decide) rfl (ofr_n (k := 4) (B := (setA (setA (setA A 27 (upd (A 27) j ((A 27 j) + 1))) 27 (upd (upd (A 27) j ((A 27 j) + 1)) j 0)) 26 (upd (A 26) j ((A 26 j) + 1)))) (v := 0) (by decide) rfl (ofr_n (k := 26) (B := (setA (setA A 27 (upd (A 27) j ((A 27 j) + 1))) 27 (upd (upd (A 27) j ((A 27 j) + 1)) j 0))) (v := (A 26 j) + 1) (by decide) rfl (ofr_n (k := 27) (B := (setA A 27 (upd (A 27) j ((A 27 j) + 1)))) (v := 0) (by decide) rfl (ofr_n (k := 27) (B := A) (v := (A 27 j) + 1) (by decide) rfl ofr_r)))))))
      · rw [if_neg c100]
        exact (ofr_n (k := 26) (B := (setA (setA A 27 (upd (A 27) j ((A 27 j) + 1))) 27 (upd (upd (A 27) j ((A 27 j) + 1)) j 0))) (v := (A 26 j) + 1) (by decide) rfl (ofr_n (k := 27) (B := (setA A 27 (upd (A 27) j ((A 27 j) + 1)))) (v := 0) (by decide) rfl (ofr_n (k := 27) (B := A) (v := (A 27 j) + 1) (by decide) rfl ofr_r)))
    · rw [if_neg c71]
      by_cases c73 : (A 26 j) = 8
      · rw [if_pos c73]
        exact (ofr_n (k := 26) (B := (setA (setA (setA (setA A 27 (upd (A 27) j ((A 27 j) + 1))) 4 (upd (A 4) j 0)) 5 (upd (A 5) j 0)) 3 (upd (A 3) j 0))) (v := 0) (by decide) rfl (ofr_n (k := 3) (B := (setA (setA (setA A 27 (upd (A 27) j ((A 27 j) + 1))) 4 (upd (A 4) j 0)) 5 (upd (A 5) j 0))) (v := 0) (by decide) rfl (ofr_n (k := 5) (B := (setA (setA A 27 (upd (A 27) j ((A 27 j) + 1))) 4 (upd (A 4) j 0))) (v := 0) (by decide) rfl (ofr_n (k := 4) (B := (setA A 27 (upd (A 27) j ((A 27 j) + 1)))) (v := 0) (by decide) rfl (ofr_n (k := 27) (B := A) (v := (A 27 j) + 1) (by decide) rfl ofr_r)))))
      · rw [if_neg c73]
        exact (ofr_n (k := 27) (B := A) (v := (A 27 j) + 1) (by decide) rfl ofr_r)
  · rw [if_neg c41]
    by_cases c48 : (A 26 j) = 8
    · rw [if_pos c48]
      exact (ofr_n (k := 26) (B := (setA (setA (setA (setA A 27 (upd (A 27) j 0)) 4 (upd (A 4) j 0)) 5 (upd (A 5) j 0)) 3 (upd (A 3) j 0))) (v := 0) (by decide) rfl (ofr_n (k := 3) (B := (setA (setA (setA A 27 (upd (A 27) j 0)) 4 (upd (A 4) j 0)) 5 (upd (A 5) j 0))) (v := 0) (by decide) rfl (ofr_n (k := 5) (B := (setA (setA A 27 (upd (A 27) j 0)) 4 (upd (A 4) j 0))) (v := 0) (by decide) rfl (ofr_n (k := 4) (B := (setA A 27 (upd (A 27) j 0))) (v := 0) (by decide) rfl (ofr_n (k := 27) (B := A) (v := 0) (by decide) rfl ofr_r)))))
    · rw [if_neg c48]
      exact (ofr_n (k := 27) (B := A) (v := 0) (by decide) rfl ofr_r)
set_option maxHeartbeats 4000000 in
set_option maxRecDepth 100000 in
theorem of_M_err (A : Nat → Nat → Int32) (j : Nat) (hj : j < 4) (x y : Int32) (hx : vp_in x 8) : Ofr j A (f_M_err A j x y) := by
  unfold f_M_err
  by_cases c46 : y = 1
  · rw [if_pos c46]
    by_cases c64 : x = 6
    · rw [if_pos c64]
      by_cases c82 : ((f_M_isPassive (setA A 0 (upd (A 0) x.toNatClampNeg ((A 0 x.toNatClampNeg) + 1))) j)) = 0
      · rw [if_pos c82]
        by_cases c91 : ((f_M_goesOff (setA (setA A 0 (upd (A 0) x.toNatClampNeg ((A 0 x.toNatClampNeg) + 1))) 4 (upd (A 4) j ((A 4 j) + 8))) j).2) = 0
        · rw [if_pos c91]
          exact (ofr_t (ofr_t (ofr_n (k := 4) (B := (setA A 0 (upd (A 0) x.toNatClampNeg ((A 0 x.toNatClampNeg) + 1)))) (v := (A 4 j) + 8) (by decide) rfl (ofr_0 ofr_r)) (of_M_goesOff (setA (setA A 0 (upd (A 0) x.toNatClampNeg ((A 0 x.toNatClampNeg) + 1))) 4 (upd (A 4) j ((A 4 j) + 8))) j hj)) (of_M_flag (f_M_goesOff (setA (setA A 0 (upd (A 0) x.toNatClampNeg ((A 0 x.toNatClampNeg) + 1))) 4 (upd (A 4) j ((A 4 j) + 8))) j).1 j hj y ((f_M_isPassive (f_M_goesOff (setA (setA A 0 (upd (A 0) x.toNatClampNeg ((A 0 x.toNatClampNeg) + 1))) 4 (upd (A 4) j ((A 4 j) + 8))) j).1 j))))
        · rw [if_neg c91]
          exact (ofr_t (ofr_n (k := 4) (B := (setA A 0 (upd (A 0) x.toNatClampNeg ((A 0 x.toNatClampNeg) + 1)))) (v := (A 4 j) + 8) (by decide) rfl (ofr_0 ofr_r)) (of_M_goesOff (setA (setA A 0 (upd (A 0) x.toNatClampNeg ((A 0 x.toNatClampNeg) + 1))) 4 (upd (A 4) j ((A 4 j) + 8))) j hj))
      · rw [if_neg c82]
        by_cases c106 : ((f_M_goesOff (setA (setA A 0 (upd (A 0) x.toNatClampNeg ((A 0 x.toNatClampNeg) + 1))) 4 (upd (A 4) j ((A 4 j) + 0))) j).2) = 0
        · rw [if_pos c106]
          exact (ofr_t (ofr_t (ofr_n (k := 4) (B := (setA A 0 (upd (A 0) x.toNatClampNeg ((A 0 x.toNatClampNeg) + 1)))) (v := (A 4 j) + 0) (by decide) rfl (ofr_0 ofr_r)) (of_M_goesOff (setA (setA A 0 (upd (A 0) x.toNatClampNeg ((A 0 x.toNatClampNeg) + 1))) 4 (upd (A 4) j ((A 4 j) + 0))) j hj)) (of_M_flag (f_M_goesOff (setA (setA A 0 (upd (A 0) x.toNatClampNeg ((A 0 x.toNatClampNeg) + 1))) 4 (upd (A 4) j ((A 4 j) + 0))) j).1 j hj y ((f_M_isPassive (f_M_goesOff (setA (setA A 0 (upd (A 0) x.toNatClampNeg ((A 0 x.toNatClampNeg) + 1))) 4 (upd (A 4) j ((A 4 j) + 0))) j).1 j))))
        · rw [if_neg c106]
          exact (ofr_t (ofr_n (k := 4) (B := (setA A 0 (upd (A 0) x.toNatClampNeg ((A 0 x.toNatClampNeg) + 1)))) (v := (A 4 j) + 0) (by decide) rfl (ofr_0 ofr_r)) (of_M_goesOff (setA (setA A 0 (upd (A 0) x.toNatClampNeg ((A 0 x.toNatClampNeg) + 1))) 4 (upd (A 4) j ((A 4 j) + 0))) j hj))
    · rw [if_neg c64]
      by_cases c73 : ((f_M_goesOff (setA (setA A 0 (upd (A 0) x.toNatClampNeg ((A 0 x.toNatClampNeg) + 1))) 4 (upd (A 4) j ((A 4 j) + 8))) j).2) = 0
      · rw [if_pos c73]
        exact (ofr_t (ofr_t (ofr_n (k := 4) (B := (setA A 0 (upd (A 0) x.toNatClampNeg ((A 0 x.toNatClampNeg) + 1)))) (v := (A 4 j) + 8) (by decide) rfl (ofr_0 ofr_r)) (of_M_goesOff (setA (setA A 0 (upd (A 0) x.toNatClampNeg ((A 0 x.toNatClampNeg) + 1))) 4 (upd (A 4) j ((A 4 j) + 8))) j hj)) (of_M_flag (f_M_goesOff (setA (setA A 0 (upd (A 0) x.toNatClampNeg ((A 0 x.toNatClampNeg) + 1))) 4 (upd (A 4) j ((A 4 j) + 8))) j).1 j hj y ((f_M_isPassive (f_M_goesOff (setA (setA A 0 (upd (A 0) x.toNatClampNeg ((A 0 x.toNatClampNeg) + 1))) 4 (upd (A 4) j ((A 4 j) + 8))) j).1 j))))
      · rw [if_neg c73]
        exact (ofr_t (ofr_n (k := 4) (B := (setA A 0 (upd (A 0) x.toNatClampNeg ((A 0 x.toNatClampNeg) + 1)))) (v := (A 4 j) + 8) (by decide) rfl (ofr_0 ofr_r)) (of_M_goesOff (setA (setA A 0 (upd (A 0) x.toNatClampNeg ((A 0 x.toNatClampNeg) + 1))) 4 (upd (A 4) j ((A 4 j) + 8))) j hj))
  · rw [if_neg c46]
    by_cases c56 : ((f_M_goesOff (setA (setA A 0 (upd (A 0) x.toNatClampNeg ((A 0 x.toNatClampNeg) + 1))) 5 (upd (A 5) j ((A 5 j) + 1))) j).2) = 0
    · rw [if_pos c56]
      exact (ofr_t (ofr_t (ofr_n (k := 5) (B := (setA A 0 (upd (A 0) x.toNatClampNeg ((A 0 x.toNatClampNeg) + 1)))) (v := (A 5 j) + 1) (by decide) rfl (ofr_0 ofr_r)) (of_M_goesOff (setA (setA A 0 (upd (A 0) x.toNatClampNeg ((A 0 x.toNatClampNeg) + 1))) 5 (upd (A 5) j ((A 5 j) + 1))) j hj)) (of_M_flag (f_M_goesOff (setA (setA A 0 (upd (A 0) x.toNatClampNeg ((A 0 x.toNatClampNeg) + 1))) 5 (upd (A 5) j ((A 5 j) + 1))) j).1 j hj y ((f_M_isPassive (f_M_goesOff (setA (setA A 0 (upd (A 0) x.toNatClampNeg ((A 0 x.toNatClampNeg) + 1))) 5 (upd (A 5) j ((A 5 j) + 1))) j).1 j))))
    · rw [if_neg c56]
      exact (ofr_t (ofr_n (k := 5) (B := (setA A 0 (upd (A 0) x.toNatClampNeg ((A 0 x.toNatClampNeg) + 1)))) (v := (A 5 j) + 1) (by decide) rfl (ofr_0 ofr_r)) (of_M_goesOff (setA (setA A 0 (upd (A 0) x.toNatClampNeg ((A 0 x.toNatClampNeg) + 1))) 5 (upd (A 5) j ((A 5 j) + 1))) j hj))
set_option maxHeartbeats 4000000 in
set_option maxRecDepth 100000 in
theorem of_M_readCore_332 (A : Nat → Nat → Int32) (j : Nat) (hj : j < 4) : Ofr j A (f_M_readCore_332 A j).1 := by
  unfold f_M_readCore_332
  by_cases c64 : (A 17 j) = ((f_M_coreLength A j))
  · rw [if_pos c64]
    by_cases c70 : 5 ≤ (A 18 j)
    · rw [if_pos c70]
      exact (ofr_n (k := 16) (B := A) (v := 0) (by decide) rfl ofr_r)
    · rw [if_neg c70]
      exact (ofr_n (k := 16) (B := A) (v := 1) (by decide) rfl ofr_r)
  · rw [if_neg c64]
    exact (ofr_n (k := 16) (B := A) (v := 0) (by decide) rfl ofr_r)
set_option maxHeartbeats 4000000 in
set_option maxRecDepth 100000 in
theorem of_M_readCore_314 (A : Nat → Nat → Int32) (j : Nat) (hj : j < 4) (v3 : Int32) : Ofr j A (f_M_readCore_314 A j v3).1 := by
  unfold f_M_readCore_314
  by_cases c61 : v3 = 18
  · rw [if_pos c61]
    by_cases c63 : (A 22 j) ≤ 2
    · rw [if_pos c63]
      exact ofr_t ofr_r (of_M_readCore_332 A j hj)
    · rw [if_neg c63]
      exact ofr_r
  · rw [if_neg c61]
    exact ofr_t ofr_r (of_M_readCore_332 A j hj)
set_option maxHeartbeats 4000000 in
set_option maxRecDepth 100000 in
theorem of_M_readCore_287 (A : Nat → Nat → Int32) (j : Nat) (hj : j < 4) (v2 v3 : Int32) : Ofr j A (f_M_readCore_287 A j v2 v3).1 := by
  unfold f_M_readCore_287
  by_cases c66 : v3 ≤ 11
  · rw [if_pos c66]
    exact ofr_t (ofr_n (k := 17) (B := A) (v := (A 17 j) + 1) (by decide) rfl ofr_r) (of_M_readCore_314 (setA A 17 (upd (A 17) j ((A 17 j) + 1))) j hj v3)
  · rw [if_neg c66]
    by_cases c67 : 15 ≤ v3
    · rw [if_pos c67]
      exact ofr_t (ofr_n (k := 17) (B := A) (v := (A 17 j) + 1) (by decide) rfl ofr_r) (of_M_readCore_314 (setA A 17 (upd (A 17) j ((A 17 j) + 1))) j hj v3)
    · rw [if_neg c67]
      by_cases c68 : v2 = 1
      · rw [if_pos c68]
        exact (ofr_n (k := 17) (B := A) (v := (A 17 j) + 1) (by decide) rfl ofr_r)
      · rw [if_neg c68]
        exact ofr_t (ofr_n (k := 17) (B := A) (v := (A 17 j) + 1) (by decide) rfl ofr_r) (of_M_readCore_314 (setA A 17 (upd (A 17) j ((A 17 j) + 1))) j hj v3)
set_option maxHeartbeats 4000000 in
set_option maxRecDepth 100000 in
theorem of_M_readCore_167 (A : Nat → Nat → Int32) (j : Nat) (hj : j < 4) (v2 v3 : Int32) : Ofr j A (f_M_readCore_167 A j v2 v3).1 := by
  unfold f_M_readCore_167
  by_cases c61 : v3 ≤ 0
  · rw [if_pos c61]
    by_cases c62 : v3 ≤ 14
    · rw [if_pos c62]
      by_cases c63 : v3 ≤ 18
      · rw [if_pos c63]
        exact ofr_t ofr_r (of_M_readCore_287 A j hj v2 v3)
      · rw [if_neg c63]
        by_cases c65 : (19 + (8 * (A 22 j))) ≤ v3
        · rw [if_pos c65]
          exact ofr_t ofr_r (of_M_readCore_287 A j hj v2 v3)
        · rw [if_neg c65]
          exact ofr_t (ofr_n (k := 23) (B := A) (v := (A 23 j) ||| (v2 <<< ((((8 * ((v3 - 19) / 8)) + 7) - ((v3 - 19) - (v3 - 19) / 8 * 8)) &&& 31))) (by decide) rfl ofr_r) (of_M_readCore_287 (setA A 23 (upd (A 23) j ((A 23 j) ||| (v2 <<< ((((8 * ((v3 - 19) / 8)) + 7) - ((v3 - 19) - (v3 - 19) / 8 * 8)) &&& 31))))) j hj v2 v3)
    · rw [if_neg c62]
      by_cases c71 : 19 ≤ v3
      · rw [if_pos c71]
        by_cases c72 : v3 ≤ 18
        · rw [if_pos c72]
          exact ofr_t ofr_r (of_M_readCore_287 A j hj v2 v3)
        · rw [if_neg c72]
          by_cases c74 : (19 + (8 * (A 22 j))) ≤ v3
          · rw [if_pos c74]
            exact ofr_t ofr_r (of_M_readCore_287 A j hj v2 v3)
          · rw [if_neg c74]
            exact ofr_t (ofr_n (k := 23) (B := A) (v := (A 23 j) ||| (v2 <<< ((((8 * ((v3 - 19) / 8)) + 7) - ((v3 - 19) - (v3 - 19) / 8 * 8)) &&& 31))) (by decide) rfl ofr_r) (of_M_readCore_287 (setA A 23 (upd (A 23) j ((A 23 j) ||| (v2 <<< ((((8 * ((v3 - 19) / 8)) + 7) - ((v3 - 19) - (v3 - 19) / 8 * 8)) &&& 31))))) j hj v2 v3)
      · rw [if_neg c71]
        exact ofr_t (ofr_n (k := 22) (B := A) (v := (2 * (A 22 j)) + v2) (by decide) rfl ofr_r) (of_M_readCore_287 (setA A 22 (upd (A 22) j ((2 * (A 22 j)) + v2))) j hj v2 v3)
  · rw [if_neg c61]
    by_cases c85 : 12 ≤ v3
    · rw [if_pos c85]
      by_cases c86 : v3 ≤ 14
      · rw [if_pos c86]
        by_cases c87 : v3 ≤ 18
        · rw [if_pos c87]
          exact ofr_t ofr_r (of_M_readCore_287 A j hj v2 v3)
        · rw [if_neg c87]
          by_cases c89 : (19 + (8 * (A 22 j))) ≤ v3
          · rw [if_pos c89]
            exact ofr_t ofr_r (of_M_readCore_287 A j hj v2 v3)
          · rw [if_neg c89]
            exact ofr_t (ofr_n (k := 23) (B := A) (v := (A 23 j) ||| (v2 <<< ((((8 * ((v3 - 19) / 8)) + 7) - ((v3 - 19) - (v3 - 19) / 8 * 8)) &&& 31))) (by decide) rfl ofr_r) (of_M_readCore_287 (setA A 23 (upd (A 23) j ((A 23 j) ||| (v2 <<< ((((8 * ((v3 - 19) / 8)) + 7) - ((v3 - 19) - (v3 - 19) / 8 * 8)) &&& 31))))) j hj v2 v3)
      · rw [if_neg c86]
        by_cases c95 : 19 ≤ v3
        · rw [if_pos c95]
          by_cases c96 : v3 ≤ 18
          · rw [if_pos c96]
            exact ofr_t ofr_r (of_M_readCore_287 A j hj v2 v3)
          · rw [if_neg c96]
            by_cases c98 : (19 + (8 * (A 22 j))) ≤ v3
            · rw [if_pos c98]
              exact ofr_t ofr_r (of_M_readCore_287 A j hj v2 v3)
            · rw [if_neg c98]
              exact ofr_t (ofr_n (k := 23) (B := A) (v := (A 23 j) ||| (v2 <<< ((((8 * ((v3 - 19) / 8)) + 7) - ((v3 - 19) - (v3 - 19) / 8 * 8)) &&& 31))) (by decide) rfl ofr_r) (of_M_readCore_287 (setA A 23 (upd (A 23) j ((A 23 j) ||| (v2 <<< ((((8 * ((v3 - 19) / 8)) + 7) - ((v3 - 19) - (v3 - 19) / 8 * 8)) &&& 31))))) j hj v2 v3)
        · rw [if_neg c95]
          exact ofr_t (ofr_n (k := 22) (B := A) (v := (2 * (A 22 j)) + v2) (by decide) rfl ofr_r) (of_M_readCore_287 (setA A 22 (upd (A 22) j ((2 * (A 22 j)) + v2))) j hj v2 v3)
    · rw [if_neg c85]
      exact ofr_t (ofr_n (k := 21) (B := A) (v := (2 * (A 21 j)) + v2) (by decide) rfl ofr_r) (of_M_readCore_287 (setA A 21 (upd (A 21) j ((2 * (A 21 j)) + v2))) j hj v2 v3)
set_option maxHeartbeats 4000000 in
set_option maxRecDepth 100000 in
theorem of_M_readCore_114 (A : Nat → Nat → Int32) (j : Nat) (hj : j < 4) (v2 v3 : Int32) : Ofr j A (f_M_readCore_114 A j v2 v3).1 := by
  unfold f_M_readCore_114
  by_cases c67 : v2 = (((A 20 j) >>> (14 &&& 31)) &&& 1)
  · rw [if_pos c67]
    exact ofr_t (ofr_n (k := 20) (B := (setA A 19 (upd (A 19) j v2))) (v := ((A 20 j) <<< (1 &&& 31)) &&& 32767) (by decide) rfl (ofr_n (k := 19) (B := A) (v := v2) (by decide) rfl ofr_r)) (of_M_readCore_167 (setA (setA A 19 (upd (A 19) j v2)) 20 (upd (A 20) j (((A 20 j) <<< (1 &&& 31)) &&& 32767))) j hj v2 v3)
  · rw [if_neg c67]
    exact ofr_t (ofr_n (k := 20) (B := (setA A 19 (upd (A 19) j v2))) (v := (((A 20 j) <<< (1 &&& 31)) &&& 32767) ^^^ 17817) (by decide) rfl (ofr_n (k := 19) (B := A) (v := v2) (by decide) rfl ofr_r)) (of_M_readCore_167 (setA (setA A 19 (upd (A 19) j v2)) 20 (upd (A 20) j ((((A 20 j) <<< (1 &&& 31)) &&& 32767) ^^^ 17817))) j hj v2 v3)
set_option maxHeartbeats 4000000 in
set_option maxRecDepth 100000 in
theorem of_M_readCore (A : Nat → Nat → Int32) (j : Nat) (hj : j < 4) (x : Int32) : Ofr j A (f_M_readCore A j x).1 := by
  unfold f_M_readCore
  by_cases c42 : (A 18 j) = 5
  · rw [if_pos c42]
    by_cases c61 : x = (A 19 j)
    · rw [if_pos c61]
      by_cases c93 : (A 17 j) = ((f_M_coreLength (setA (setA A 19 (upd (A 19) j x)) 18 (upd (A 18) j 1)) j))
      · rw [if_pos c93]
        exact (ofr_n (k := 16) (B := (setA (setA A 19 (upd (A 19) j x)) 18 (upd (A 18) j 1))) (v := 1) (by decide) rfl (ofr_n (k := 18) (B := (setA A 19 (upd (A 19) j x))) (v := 1) (by decide) rfl (ofr_n (k := 19) (B := A) (v := x) (by decide) rfl ofr_r)))
      · rw [if_neg c93]
        exact (ofr_n (k := 16) (B := (setA (setA A 19 (upd (A 19) j x)) 18 (upd (A 18) j 1))) (v := 0) (by decide) rfl (ofr_n (k := 18) (B := (setA A 19 (upd (A 19) j x))) (v := 1) (by decide) rfl (ofr_n (k := 19) (B := A) (v := x) (by decide) rfl ofr_r)))
    · rw [if_neg c61]
      by_cases c73 : (A 17 j) = ((f_M_coreLength (setA (setA A 19 (upd (A 19) j x)) 18 (upd (A 18) j 1)) j))
      · rw [if_pos c73]
        exact (ofr_n (k := 16) (B := (setA (setA A 19 (upd (A 19) j x)) 18 (upd (A 18) j 1))) (v := 1) (by decide) rfl (ofr_n (k := 18) (B := (setA A 19 (upd (A 19) j x))) (v := 1) (by decide) rfl (ofr_n (k := 19) (B := A) (v := x) (by decide) rfl ofr_r)))
      · rw [if_neg c73]
        exact (ofr_n (k := 16) (B := (setA (setA A 19 (upd (A 19) j x)) 18 (upd (A 18) j 1))) (v := 0) (by decide) rfl (ofr_n (k := 18) (B := (setA A 19 (upd (A 19) j x))) (v := 1) (by decide) rfl (ofr_n (k := 19) (B := A) (v := x) (by decide) rfl ofr_r)))
  · rw [if_neg c42]
    by_cases c44 : (A 17 j) ≤ 0
    · rw [if_pos c44]
      exact ofr_t (ofr_n (k := 18) (B := A) (v := 1) (by decide) rfl ofr_r) (of_M_readCore_114 (setA A 18 (upd (A 18) j 1)) j hj x (A 17 j))
    · rw [if_neg c44]
      by_cases c50 : x = (A 19 j)
      · rw [if_pos c50]
        exact ofr_t (ofr_n (k := 18) (B := A) (v := (A 18 j) + 1) (by decide) rfl ofr_r) (of_M_readCore_114 (setA A 18 (upd (A 18) j ((A 18 j) + 1))) j hj x (A 17 j))
      · rw [if_neg c50]
        exact ofr_t (ofr_n (k := 18) (B := A) (v := 1) (by decide) rfl ofr_r) (of_M_readCore_114 (setA A 18 (upd (A 18) j 1)) j hj x (A 17 j))
set_option maxHeartbeats 4000000 in
set_option maxRecDepth 100000 in
theorem of_M_goAfter (A : Nat → Nat → Int32) (j : Nat) (hj : j < 4) (x : Int32) : Ofr j A (f_M_goAfter A j x) := by
  unfold f_M_goAfter
  by_cases c41 : x = 1
  · rw [if_pos c41]
    by_cases c104 : ((A 27 j) + 1) = 8
    · rw [if_pos c104]
      exact (ofr_t (ofr_n (k := 27) (B := A) (v := (A 27 j) + 1) (by decide) rfl ofr_r) (of_M_rest (setA A 27 (upd (A 27) j ((A 27 j) + 1))) j hj))
    · rw [if_neg c104]
      exact (ofr_n (k := 27) (B := A) (v := (A 27 j) + 1) (by decide) rfl ofr_r)
  · rw [if_neg c41]
    by_cases c43 : (A 27 j) ≤ 0
    · rw [if_pos c43]
      by_cases c51 : ((A 26 j) + 1) = 1
      · rw [if_pos c51]
        by_cases c64 : (A 24 j) = 2
        · rw [if_pos c64]
          by_cases c81 : (((A 26 j) + 1) - ((A 26 j) + 1) / 8 * 8) = 0
          · rw [if_pos c81]
            by_cases c86 : ((f_M_eightMore (setA (setA A 26 (upd (A 26) j ((A 26 j) + 1))) 5 (upd (A 5) j ((A 5 j) + 8))) j).2) = 0
            · rw [if_pos c86]
              exact (ofr_t (ofr_n (k := 5) (B := (setA A 26 (upd (A 26) j ((A 26 j) + 1)))) (v := (A 5 j) + 8) (by decide) rfl (ofr_n (k := 26) (B := A) (v := (A 26 j) + 1) (by decide) rfl ofr_r)) (of_M_eightMore (setA (setA A 26 (upd (A 26) j ((A 26 j) + 1))) 5 (upd (A 5) j ((A 5 j) + 8))) j hj))
            · rw [if_neg c86]
              exact (ofr_t (ofr_n (k := 5) (B := (setA A 26 (upd (A 26) j ((A 26 j) + 1)))) (v := (A 5 j) + 8) (by decide) rfl (ofr_n (k := 26) (B := A) (v := (A 26 j) + 1) (by decide) rfl ofr_r)) (of_M_eightMore (setA (setA A 26 (upd (A 26) j ((A 26 j) + 1))) 5 (upd (A 5) j ((A 5 j) + 8))) j hj))
          · rw [if_neg c81]
            exact (ofr_n (k := 5) (B := (setA A 26 (upd (A 26) j ((A 26 j) + 1)))) (v := (A 5 j) + 8) (by decide) rfl (ofr_n (k := 26) (B := A) (v := (A 26 j) + 1) (by decide) rfl ofr_r))
        · rw [if_neg c64]
          by_cases c70 : (((A 26 j) + 1) - ((A 26 j) + 1) / 8 * 8) = 0
          · rw [if_pos c70]
            by_cases c75 : ((f_M_eightMore (setA (setA A 26 (upd (A 26) j ((A 26 j) + 1))) 5 (upd (A 5) j ((A 5 j) + 0))) j).2) = 0
            · rw [if_pos c75]
              exact (ofr_t (ofr_n (k := 5) (B := (setA A 26 (upd (A 26) j ((A 26 j) + 1)))) (v := (A 5 j) + 0) (by decide) rfl (ofr_n (k := 26) (B := A) (v := (A 26 j) + 1) (by decide) rfl ofr_r)) (of_M_eightMore (setA (setA A 26 (upd (A 26) j ((A 26 j) + 1))) 5 (upd (A 5) j ((A 5 j) + 0))) j hj))
            · rw [if_neg c75]
              exact (ofr_t (ofr_n (k := 5) (B := (setA A 26 (upd (A 26) j ((A 26 j) + 1)))) (v := (A 5 j) + 0) (by decide) rfl (ofr_n (k := 26) (B := A) (v := (A 26 j) + 1) (by decide) rfl ofr_r)) (of_M_eightMore (setA (setA A 26 (upd (A 26) j ((A 26 j) + 1))) 5 (upd (A 5) j ((A 5 j) + 0))) j hj))
          · rw [if_neg c70]
            exact (ofr_n (k := 5) (B := (setA A 26 (upd (A 26) j ((A 26 j) + 1)))) (v := (A 5 j) + 0) (by decide) rfl (ofr_n (k := 26) (B := A) (v := (A 26 j) + 1) (by decide) rfl ofr_r))
      · rw [if_neg c51]
        by_cases c57 : (((A 26 j) + 1) - ((A 26 j) + 1) / 8 * 8) = 0
        · rw [if_pos c57]
          by_cases c62 : ((f_M_eightMore (setA (setA A 26 (upd (A 26) j ((A 26 j) + 1))) 5 (upd (A 5) j ((A 5 j) + 0))) j).2) = 0
          · rw [if_pos c62]
            exact (ofr_t (ofr_n (k := 5) (B := (setA A 26 (upd (A 26) j ((A 26 j) + 1)))) (v := (A 5 j) + 0) (by decide) rfl (ofr_n (k := 26) (B := A) (v := (A 26 j) + 1) (by decide) rfl ofr_r)) (of_M_eightMore (setA (setA A 26 (upd (A 26) j ((A 26 j) + 1))) 5 (upd (A 5) j ((A 5 j) + 0))) j hj))
          · rw [if_neg c62]
            exact (ofr_t (ofr_n (k := 5) (B := (setA A 26 (upd (A 26) j ((A 26 j) + 1)))) (v := (A 5 j) + 0) (by decide) rfl (ofr_n (k := 26) (B := A) (v := (A 26 j) + 1) (by decide) rfl ofr_r)) (of_M_eightMore (setA (setA A 26 (upd (A 26) j ((A 26 j) + 1))) 5 (upd (A 5) j ((A 5 j) + 0))) j hj))
        · rw [if_neg c57]
          exact (ofr_n (k := 5) (B := (setA A 26 (upd (A 26) j ((A 26 j) + 1)))) (v := (A 5 j) + 0) (by decide) rfl (ofr_n (k := 26) (B := A) (v := (A 26 j) + 1) (by decide) rfl ofr_r))
    · rw [if_neg c43]
      by_cases c88 : (A 24 j) = 0
      · rw [if_pos c88]
        exact (ofr_t ofr_r (of_M_overload A j hj))
      · rw [if_neg c88]
        exact (ofr_t ofr_r (of_M_err A j hj 4 (A 24 j) (show vp_in (nI 4) 8 from vp_in_nI (by decide) (by decide))))
theorem of_M_begin (A : Nat → Nat → Int32) (j : Nat) (hj : j < 4) : Ofr j A (f_M_begin A j) := ofr_t (ofr_n (k := 13) (by decide) rfl ofr_r) (of_M_open _ j hj 1)
theorem of_M_sentFrame (A : Nat → Nat → Int32) (j : Nat) (hj : j < 4) (hw : ¬ A 9 j = 0) (ok : okA A) : Ofr j A (f_M_sentFrame A j) := by
  obtain ⟨hw4, hwe⟩ := wn_eq ok hj
  obtain ⟨hc3, hce⟩ := cn_eq ok hj
  have hs : ∀ B : Nat → Nat → Int32, Ofr j B (sh3 (wn A j - 1 - cn A j) (4 * j + cn A j) B) := fun B => of_sh3 _ _ B (by omega)
  unfold f_M_sentFrame
  by_cases c : A 4 j ≤ 0
  · rw [if_pos c]
    exact ofr_t (ofr_t (ofr_n (k := 9) (by decide) rfl (ofr_n (k := 4) (by decide) rfl (ofr_0 ofr_r))) (hs _)) (of_M_rest _ j hj)
  · rw [if_neg c]
    exact ofr_t (ofr_t (ofr_n (k := 9) (by decide) rfl (ofr_n (k := 4) (by decide) rfl (ofr_0 ofr_r))) (hs _)) (of_M_rest _ j hj)
set_option maxHeartbeats 4000000 in
set_option maxRecDepth 100000 in
theorem of_M_heardFrame (A : Nat → Nat → Int32) (j : Nat) (hj : j < 4) (x : Int32) (ok : okA A) : Ofr j A (f_M_heardFrame A j x) := by
  unfold f_M_heardFrame
  by_cases c42 : (A 5 j) ≤ 127
  · rw [if_pos c42]
    by_cases c44 : (A 5 j) ≤ 0
    · rw [if_pos c44]
      by_cases c52 : ((A 21 j) &&& (A 6 j)) = (A 7 j)
      · rw [if_pos c52]
        by_cases c63 : (A 14 j) = 4
        · rw [if_pos c63]
          by_cases c91 : x = 0
          · rw [if_pos c91]
            exact (ofr_t (ofr_n (k := 8) (B := (setA A 5 (upd (A 5) j 0))) (v := (A 8 j) + 1) (by decide) rfl (ofr_n (k := 5) (B := A) (v := 0) (by decide) rfl ofr_r)) (of_M_overload (setA (setA A 5 (upd (A 5) j 0)) 8 (upd (A 8) j ((A 8 j) + 1))) j hj))
          · rw [if_neg c91]
            exact (ofr_t (ofr_n (k := 8) (B := (setA A 5 (upd (A 5) j 0))) (v := (A 8 j) + 1) (by decide) rfl (ofr_n (k := 5) (B := A) (v := 0) (by decide) rfl ofr_r)) (of_M_rest (setA (setA A 5 (upd (A 5) j 0)) 8 (upd (A 8) j ((A 8 j) + 1))) j hj))
        · rw [if_neg c63]
          by_cases c77 : x = 0
          · rw [if_pos c77]
            exact (ofr_t (ofr_n (k := 14) (B := (setA (setA A 5 (upd (A 5) j 0)) 15 (upd (A 15) ((4 * (nI j)) + (A 14 j)).toNatClampNeg (((A 21 j) + (2048 * (A 22 j))) + (8192 * (A 23 j)))))) (v := (A 14 j) + 1) (by decide) rfl (ofr_w (k := 15) (B := (setA A 5 (upd (A 5) j 0))) (c := (A 14 j).toNatClampNeg) (v := ((A 21 j) + (2048 * (A 22 j))) + (8192 * (A 23 j))) (by decide) (congrArg (fun q9 => upd (A 15) q9 (((A 21 j) + (2048 * (A 22 j))) + (8192 * (A 23 j)))) (ixn (in_r (ok j hj).2.1 (by decide)))) (in_c4 (ok j hj).2.1 c63) (ofr_n (k := 5) (B := A) (v := 0) (by decide) rfl ofr_r))) (of_M_overload (setA (setA (setA A 5 (upd (A 5) j 0)) 15 (upd (A 15) ((4 * (nI j)) + (A 14 j)).toNatClampNeg (((A 21 j) + (2048 * (A 22 j))) + (8192 * (A 23 j))))) 14 (upd (A 14) j ((A 14 j) + 1))) j hj))
          · rw [if_neg c77]
            exact (ofr_t (ofr_n (k := 14) (B := (setA (setA A 5 (upd (A 5) j 0)) 15 (upd (A 15) ((4 * (nI j)) + (A 14 j)).toNatClampNeg (((A 21 j) + (2048 * (A 22 j))) + (8192 * (A 23 j)))))) (v := (A 14 j) + 1) (by decide) rfl (ofr_w (k := 15) (B := (setA A 5 (upd (A 5) j 0))) (c := (A 14 j).toNatClampNeg) (v := ((A 21 j) + (2048 * (A 22 j))) + (8192 * (A 23 j))) (by decide) (congrArg (fun q9 => upd (A 15) q9 (((A 21 j) + (2048 * (A 22 j))) + (8192 * (A 23 j)))) (ixn (in_r (ok j hj).2.1 (by decide)))) (in_c4 (ok j hj).2.1 c63) (ofr_n (k := 5) (B := A) (v := 0) (by decide) rfl ofr_r))) (of_M_rest (setA (setA (setA A 5 (upd (A 5) j 0)) 15 (upd (A 15) ((4 * (nI j)) + (A 14 j)).toNatClampNeg (((A 21 j) + (2048 * (A 22 j))) + (8192 * (A 23 j))))) 14 (upd (A 14) j ((A 14 j) + 1))) j hj))
      · rw [if_neg c52]
        by_cases c53 : x = 0
        · rw [if_pos c53]
          exact (ofr_t (ofr_n (k := 5) (B := A) (v := 0) (by decide) rfl ofr_r) (of_M_overload (setA A 5 (upd (A 5) j 0)) j hj))
        · rw [if_neg c53]
          exact (ofr_t (ofr_n (k := 5) (B := A) (v := 0) (by decide) rfl ofr_r) (of_M_rest (setA A 5 (upd (A 5) j 0)) j hj))
    · rw [if_neg c44]
      by_cases c108 : ((A 21 j) &&& (A 6 j)) = (A 7 j)
      · rw [if_pos c108]
        by_cases c119 : (A 14 j) = 4
        · rw [if_pos c119]
          by_cases c147 : x = 0
          · rw [if_pos c147]
            exact (ofr_t (ofr_n (k := 8) (B := (setA A 5 (upd (A 5) j ((A 5 j) - 1)))) (v := (A 8 j) + 1) (by decide) rfl (ofr_n (k := 5) (B := A) (v := (A 5 j) - 1) (by decide) rfl ofr_r)) (of_M_overload (setA (setA A 5 (upd (A 5) j ((A 5 j) - 1))) 8 (upd (A 8) j ((A 8 j) + 1))) j hj))
          · rw [if_neg c147]
            exact (ofr_t (ofr_n (k := 8) (B := (setA A 5 (upd (A 5) j ((A 5 j) - 1)))) (v := (A 8 j) + 1) (by decide) rfl (ofr_n (k := 5) (B := A) (v := (A 5 j) - 1) (by decide) rfl ofr_r)) (of_M_rest (setA (setA A 5 (upd (A 5) j ((A 5 j) - 1))) 8 (upd (A 8) j ((A 8 j) + 1))) j hj))
        · rw [if_neg c119]
          by_cases c133 : x = 0
          · rw [if_pos c133]
            exact (ofr_t (ofr_n (k := 14) (B := (setA (setA A 5 (upd (A 5) j ((A 5 j) - 1))) 15 (upd (A 15) ((4 * (nI j)) + (A 14 j)).toNatClampNeg (((A 21 j) + (2048 * (A 22 j))) + (8192 * (A 23 j)))))) (v := (A 14 j) + 1) (by decide) rfl (ofr_w (k := 15) (B := (setA A 5 (upd (A 5) j ((A 5 j) - 1)))) (c := (A 14 j).toNatClampNeg) (v := ((A 21 j) + (2048 * (A 22 j))) + (8192 * (A 23 j))) (by decide) (congrArg (fun q9 => upd (A 15) q9 (((A 21 j) + (2048 * (A 22 j))) + (8192 * (A 23 j)))) (ixn (in_r (ok j hj).2.1 (by decide)))) (in_c4 (ok j hj).2.1 c119) (ofr_n (k := 5) (B := A) (v := (A 5 j) - 1) (by decide) rfl ofr_r))) (of_M_overload (setA (setA (setA A 5 (upd (A 5) j ((A 5 j) - 1))) 15 (upd (A 15) ((4 * (nI j)) + (A 14 j)).toNatClampNeg (((A 21 j) + (2048 * (A 22 j))) + (8192 * (A 23 j))))) 14 (upd (A 14) j ((A 14 j) + 1))) j hj))
          · rw [if_neg c133]
            exact (ofr_t (ofr_n (k := 14) (B := (setA (setA A 5 (upd (A 5) j ((A 5 j) - 1))) 15 (upd (A 15) ((4 * (nI j)) + (A 14 j)).toNatClampNeg (((A 21 j) + (2048 * (A 22 j))) + (8192 * (A 23 j)))))) (v := (A 14 j) + 1) (by decide) rfl (ofr_w (k := 15) (B := (setA A 5 (upd (A 5) j ((A 5 j) - 1)))) (c := (A 14 j).toNatClampNeg) (v := ((A 21 j) + (2048 * (A 22 j))) + (8192 * (A 23 j))) (by decide) (congrArg (fun q9 => upd (A 15) q9 (((A 21 j) + (2048 * (A 22 j))) + (8192 * (A 23 j)))) (ixn (in_r (ok j hj).2.1 (by decide)))) (in_c4 (ok j hj).2.1 c119) (ofr_n (k := 5) (B := A) (v := (A 5 j) - 1) (by decide) rfl ofr_r))) (of_M_rest (setA (setA (setA A 5 (upd (A 5) j ((A 5 j) - 1))) 15 (upd (A 15) ((4 * (nI j)) + (A 14 j)).toNatClampNeg (((A 21 j) + (2048 * (A 22 j))) + (8192 * (A 23 j))))) 14 (upd (A 14) j ((A 14 j) + 1))) j hj))
      · rw [if_neg c108]
        by_cases c109 : x = 0
        · rw [if_pos c109]
          exact (ofr_t (ofr_n (k := 5) (B := A) (v := (A 5 j) - 1) (by decide) rfl ofr_r) (of_M_overload (setA A 5 (upd (A 5) j ((A 5 j) - 1))) j hj))
        · rw [if_neg c109]
          exact (ofr_t (ofr_n (k := 5) (B := A) (v := (A 5 j) - 1) (by decide) rfl ofr_r) (of_M_rest (setA A 5 (upd (A 5) j ((A 5 j) - 1))) j hj))
  · rw [if_neg c42]
    by_cases c163 : ((A 21 j) &&& (A 6 j)) = (A 7 j)
    · rw [if_pos c163]
      by_cases c174 : (A 14 j) = 4
      · rw [if_pos c174]
        by_cases c202 : x = 0
        · rw [if_pos c202]
          exact (ofr_t (ofr_n (k := 8) (B := (setA A 5 (upd (A 5) j 127))) (v := (A 8 j) + 1) (by decide) rfl (ofr_n (k := 5) (B := A) (v := 127) (by decide) rfl ofr_r)) (of_M_overload (setA (setA A 5 (upd (A 5) j 127)) 8 (upd (A 8) j ((A 8 j) + 1))) j hj))
        · rw [if_neg c202]
          exact (ofr_t (ofr_n (k := 8) (B := (setA A 5 (upd (A 5) j 127))) (v := (A 8 j) + 1) (by decide) rfl (ofr_n (k := 5) (B := A) (v := 127) (by decide) rfl ofr_r)) (of_M_rest (setA (setA A 5 (upd (A 5) j 127)) 8 (upd (A 8) j ((A 8 j) + 1))) j hj))
      · rw [if_neg c174]
        by_cases c188 : x = 0
        · rw [if_pos c188]
          exact (ofr_t (ofr_n (k := 14) (B := (setA (setA A 5 (upd (A 5) j 127)) 15 (upd (A 15) ((4 * (nI j)) + (A 14 j)).toNatClampNeg (((A 21 j) + (2048 * (A 22 j))) + (8192 * (A 23 j)))))) (v := (A 14 j) + 1) (by decide) rfl (ofr_w (k := 15) (B := (setA A 5 (upd (A 5) j 127))) (c := (A 14 j).toNatClampNeg) (v := ((A 21 j) + (2048 * (A 22 j))) + (8192 * (A 23 j))) (by decide) (congrArg (fun q9 => upd (A 15) q9 (((A 21 j) + (2048 * (A 22 j))) + (8192 * (A 23 j)))) (ixn (in_r (ok j hj).2.1 (by decide)))) (in_c4 (ok j hj).2.1 c174) (ofr_n (k := 5) (B := A) (v := 127) (by decide) rfl ofr_r))) (of_M_overload (setA (setA (setA A 5 (upd (A 5) j 127)) 15 (upd (A 15) ((4 * (nI j)) + (A 14 j)).toNatClampNeg (((A 21 j) + (2048 * (A 22 j))) + (8192 * (A 23 j))))) 14 (upd (A 14) j ((A 14 j) + 1))) j hj))
        · rw [if_neg c188]
          exact (ofr_t (ofr_n (k := 14) (B := (setA (setA A 5 (upd (A 5) j 127)) 15 (upd (A 15) ((4 * (nI j)) + (A 14 j)).toNatClampNeg (((A 21 j) + (2048 * (A 22 j))) + (8192 * (A 23 j)))))) (v := (A 14 j) + 1) (by decide) rfl (ofr_w (k := 15) (B := (setA A 5 (upd (A 5) j 127))) (c := (A 14 j).toNatClampNeg) (v := ((A 21 j) + (2048 * (A 22 j))) + (8192 * (A 23 j))) (by decide) (congrArg (fun q9 => upd (A 15) q9 (((A 21 j) + (2048 * (A 22 j))) + (8192 * (A 23 j)))) (ixn (in_r (ok j hj).2.1 (by decide)))) (in_c4 (ok j hj).2.1 c174) (ofr_n (k := 5) (B := A) (v := 127) (by decide) rfl ofr_r))) (of_M_rest (setA (setA (setA A 5 (upd (A 5) j 127)) 15 (upd (A 15) ((4 * (nI j)) + (A 14 j)).toNatClampNeg (((A 21 j) + (2048 * (A 22 j))) + (8192 * (A 23 j))))) 14 (upd (A 14) j ((A 14 j) + 1))) j hj))
    · rw [if_neg c163]
      by_cases c164 : x = 0
      · rw [if_pos c164]
        exact (ofr_t (ofr_n (k := 5) (B := A) (v := 127) (by decide) rfl ofr_r) (of_M_overload (setA A 5 (upd (A 5) j 127)) j hj))
      · rw [if_neg c164]
        exact (ofr_t (ofr_n (k := 5) (B := A) (v := 127) (by decide) rfl ofr_r) (of_M_rest (setA A 5 (upd (A 5) j 127)) j hj))
set_option maxHeartbeats 4000000 in
set_option maxRecDepth 100000 in
theorem of_M_hear (A : Nat → Nat → Int32) (j : Nat) (hj : j < 4) (x : Int32) (ok : okA A) : Ofr j A (f_M_hear A j x) := by
  unfold f_M_hear
  by_cases c42 : (A 16 j) = 0
  · rw [if_pos c42]
    by_cases c173 : ((f_M_readCore A j x).2) ≤ 0
    · rw [if_pos c173]
      by_cases c174 : (A 16 j) = 10
      · rw [if_pos c174]
        exact (ofr_t (ofr_t ofr_r (of_M_readCore A j hj x)) (of_M_heardFrame (f_M_readCore A j x).1 j hj x (ok_M_readCore A j hj x ok)))
      · rw [if_neg c174]
        exact (ofr_t ofr_r (of_M_readCore A j hj x))
    · rw [if_neg c173]
      exact (ofr_t (ofr_t ofr_r (of_M_readCore A j hj x)) (of_M_err (f_M_readCore A j x).1 j hj ((f_M_readCore A j x).2) 2 (in_M_readCore A j hj x)))
  · rw [if_neg c42]
    by_cases c43 : (A 16 j) = 3
    · rw [if_pos c43]
      by_cases c87 : (A 20 j) = 0
      · rw [if_pos c87]
        by_cases c88 : x = 0
        · rw [if_pos c88]
          by_cases c99 : (A 16 j) = 2
          · rw [if_pos c99]
            by_cases c105 : (A 16 j) = 10
            · rw [if_pos c105]
              exact (ofr_t (ofr_n (k := 16) (B := A) (v := (A 16 j) + 1) (by decide) rfl ofr_r) (of_M_heardFrame (setA A 16 (upd (A 16) j ((A 16 j) + 1))) j hj x (okA_o (by decide) ok)))
            · rw [if_neg c105]
              exact (ofr_n (k := 16) (B := A) (v := (A 16 j) + 1) (by decide) rfl ofr_r)
          · rw [if_neg c99]
            by_cases c110 : 10 ≤ (A 16 j)
            · rw [if_pos c110]
              by_cases c116 : (A 16 j) = 10
              · rw [if_pos c116]
                exact (ofr_t (ofr_n (k := 16) (B := A) (v := (A 16 j) + 1) (by decide) rfl ofr_r) (of_M_heardFrame (setA A 16 (upd (A 16) j ((A 16 j) + 1))) j hj x (okA_o (by decide) ok)))
              · rw [if_neg c116]
                exact (ofr_n (k := 16) (B := A) (v := (A 16 j) + 1) (by decide) rfl ofr_r)
            · rw [if_neg c110]
              exact (ofr_t (ofr_n (k := 16) (B := A) (v := (A 16 j) + 1) (by decide) rfl ofr_r) (of_M_err (setA A 16 (upd (A 16) j ((A 16 j) + 1))) j hj 4 2 (show vp_in (nI 4) 8 from vp_in_nI (by decide) (by decide))))
        · rw [if_neg c88]
          by_cases c94 : (A 16 j) = 10
          · rw [if_pos c94]
            exact (ofr_t (ofr_n (k := 16) (B := A) (v := (A 16 j) + 1) (by decide) rfl ofr_r) (of_M_heardFrame (setA A 16 (upd (A 16) j ((A 16 j) + 1))) j hj x (okA_o (by decide) ok)))
          · rw [if_neg c94]
            exact (ofr_n (k := 16) (B := A) (v := (A 16 j) + 1) (by decide) rfl ofr_r)
      · rw [if_neg c87]
        by_cases c130 : x = 0
        · rw [if_pos c130]
          by_cases c140 : (A 16 j) = 2
          · rw [if_pos c140]
            exact (ofr_t (ofr_n (k := 16) (B := A) (v := (A 16 j) + 1) (by decide) rfl ofr_r) (of_M_err (setA A 16 (upd (A 16) j ((A 16 j) + 1))) j hj 5 2 (show vp_in (nI 5) 8 from vp_in_nI (by decide) (by decide))))
          · rw [if_neg c140]
            by_cases c150 : 10 ≤ (A 16 j)
            · rw [if_pos c150]
              exact (ofr_t (ofr_n (k := 16) (B := A) (v := (A 16 j) + 1) (by decide) rfl ofr_r) (of_M_err (setA A 16 (upd (A 16) j ((A 16 j) + 1))) j hj 5 2 (show vp_in (nI 5) 8 from vp_in_nI (by decide) (by decide))))
            · rw [if_neg c150]
              exact (ofr_t (ofr_n (k := 16) (B := A) (v := (A 16 j) + 1) (by decide) rfl ofr_r) (of_M_err (setA A 16 (upd (A 16) j ((A 16 j) + 1))) j hj 5 2 (show vp_in (nI 5) 8 from vp_in_nI (by decide) (by decide))))
        · rw [if_neg c130]
          exact (ofr_t (ofr_n (k := 16) (B := A) (v := (A 16 j) + 1) (by decide) rfl ofr_r) (of_M_err (setA A 16 (upd (A 16) j ((A 16 j) + 1))) j hj 5 2 (show vp_in (nI 5) 8 from vp_in_nI (by decide) (by decide))))
    · rw [if_neg c43]
      by_cases c44 : x = 0
      · rw [if_pos c44]
        by_cases c55 : (A 16 j) = 2
        · rw [if_pos c55]
          by_cases c61 : (A 16 j) = 10
          · rw [if_pos c61]
            exact (ofr_t (ofr_n (k := 16) (B := A) (v := (A 16 j) + 1) (by decide) rfl ofr_r) (of_M_heardFrame (setA A 16 (upd (A 16) j ((A 16 j) + 1))) j hj x (okA_o (by decide) ok)))
          · rw [if_neg c61]
            exact (ofr_n (k := 16) (B := A) (v := (A 16 j) + 1) (by decide) rfl ofr_r)
        · rw [if_neg c55]
          by_cases c66 : 10 ≤ (A 16 j)
          · rw [if_pos c66]
            by_cases c72 : (A 16 j) = 10
            · rw [if_pos c72]
              exact (ofr_t (ofr_n (k := 16) (B := A) (v := (A 16 j) + 1) (by decide) rfl ofr_r) (of_M_heardFrame (setA A 16 (upd (A 16) j ((A 16 j) + 1))) j hj x (okA_o (by decide) ok)))
            · rw [if_neg c72]
              exact (ofr_n (k := 16) (B := A) (v := (A 16 j) + 1) (by decide) rfl ofr_r)
          · rw [if_neg c66]
            exact (ofr_t (ofr_n (k := 16) (B := A) (v := (A 16 j) + 1) (by decide) rfl ofr_r) (of_M_err (setA A 16 (upd (A 16) j ((A 16 j) + 1))) j hj 4 2 (show vp_in (nI 4) 8 from vp_in_nI (by decide) (by decide))))
      · rw [if_neg c44]
        by_cases c50 : (A 16 j) = 10
        · rw [if_pos c50]
          exact (ofr_t (ofr_n (k := 16) (B := A) (v := (A 16 j) + 1) (by decide) rfl ofr_r) (of_M_heardFrame (setA A 16 (upd (A 16) j ((A 16 j) + 1))) j hj x (okA_o (by decide) ok)))
        · rw [if_neg c50]
          exact (ofr_n (k := 16) (B := A) (v := (A 16 j) + 1) (by decide) rfl ofr_r)
set_option maxHeartbeats 4000000 in
set_option maxRecDepth 100000 in
theorem of_M_send_86 (A : Nat → Nat → Int32) (j : Nat) (hj : j < 4) (v2 : Int32) (hw : ¬ A 9 j = 0) (ok : okA A) : Ofr j A (f_M_send_86 A j v2) := by
  unfold f_M_send_86
  by_cases c62 : (A 16 j) = 2
  · rw [if_pos c62]
    by_cases c87 : v2 = 1
    · rw [if_pos c87]
      exact (ofr_t ofr_r (of_M_err A j hj 6 1 (show vp_in (nI 6) 8 from vp_in_nI (by decide) (by decide))))
    · rw [if_neg c87]
      by_cases c90 : (A 16 j) = 0
      · rw [if_pos c90]
        exact (ofr_t ofr_r (of_M_readCore A j hj v2))
      · rw [if_neg c90]
        by_cases c92 : (A 16 j) = 10
        · rw [if_pos c92]
          exact (ofr_t ofr_r (of_M_sentFrame A j hj hw ok))
        · rw [if_neg c92]
          exact (ofr_n (k := 16) (B := A) (v := (A 16 j) + 1) (by decide) rfl ofr_r)
  · rw [if_neg c62]
    by_cases c65 : v2 = (A 29 j)
    · rw [if_pos c65]
      by_cases c67 : (A 16 j) = 0
      · rw [if_pos c67]
        exact (ofr_t ofr_r (of_M_readCore A j hj v2))
      · rw [if_neg c67]
        by_cases c69 : (A 16 j) = 10
        · rw [if_pos c69]
          exact (ofr_t ofr_r (of_M_sentFrame A j hj hw ok))
        · rw [if_neg c69]
          exact (ofr_n (k := 16) (B := A) (v := (A 16 j) + 1) (by decide) rfl ofr_r)
    · rw [if_neg c65]
      exact (ofr_t ofr_r (of_M_err A j hj 2 1 (show vp_in (nI 2) 8 from vp_in_nI (by decide) (by decide))))
set_option maxHeartbeats 4000000 in
set_option maxRecDepth 100000 in
theorem of_M_send (A : Nat → Nat → Int32) (j : Nat) (hj : j < 4) (x : Int32) (hw : ¬ A 9 j = 0) (ok : okA A) : Ofr j A (f_M_send A j x) := by
  unfold f_M_send
  by_cases c42 : (A 16 j) = 0
  · rw [if_pos c42]
    by_cases c44 : 5 ≤ (A 18 j)
    · rw [if_pos c44]
      exact ofr_t ofr_r (of_M_send_86 A j hj x hw ok)
    · rw [if_neg c44]
      by_cases c46 : (A 17 j) ≤ 0
      · rw [if_pos c46]
        exact ofr_t ofr_r (of_M_send_86 A j hj x hw ok)
      · rw [if_neg c46]
        by_cases c48 : 12 ≤ (A 17 j)
        · rw [if_pos c48]
          exact ofr_t ofr_r (of_M_send_86 A j hj x hw ok)
        · rw [if_neg c48]
          by_cases c50 : (A 29 j) = 1
          · rw [if_pos c50]
            by_cases c51 : x = 0
            · rw [if_pos c51]
              exact (ofr_t (ofr_n (k := 28) (B := (setA A 3 (upd (A 3) j 2))) (v := 2) (by decide) rfl (ofr_n (k := 3) (B := A) (v := 2) (by decide) rfl ofr_r)) (of_M_hear (setA (setA A 3 (upd (A 3) j 2)) 28 (upd (A 28) j 2)) j hj x (okA_o (by decide) (okA_3 (v := 2) rfl (fun h9 => absurd h9 (by decide)) ok))))
            · rw [if_neg c51]
              exact ofr_t ofr_r (of_M_send_86 A j hj x hw ok)
          · rw [if_neg c50]
            exact ofr_t ofr_r (of_M_send_86 A j hj x hw ok)
  · rw [if_neg c42]
    exact ofr_t ofr_r (of_M_send_86 A j hj x hw ok)
set_option maxHeartbeats 4000000 in
set_option maxRecDepth 100000 in
theorem of_M_start (A : Nat → Nat → Int32) (j : Nat) (hj : j < 4) (ok : okA A) : Ofr j A (f_M_start A j) := by
  exact (ofr_t (ofr_t ofr_r (of_M_open A j hj 2)) (of_M_hear (f_M_open A j 2) j hj 0 (ok_M_open A j hj 2 (fun h9 => absurd h9 (by decide)) ok)))
set_option maxHeartbeats 4000000 in
set_option maxRecDepth 100000 in
theorem of_M_pausing (A : Nat → Nat → Int32) (j : Nat) (hj : j < 4) (x : Int32) (ok : okA A) : Ofr j A (f_M_pausing A j x) := by
  unfold f_M_pausing
  by_cases c46 : x = 0
  · rw [if_pos c46]
    by_cases c79 : 3 ≤ ((A 26 j) + 1)
    · rw [if_pos c79]
      exact (ofr_t (ofr_n (k := 26) (B := A) (v := (A 26 j) + 1) (by decide) rfl ofr_r) (of_M_start (setA A 26 (upd (A 26) j ((A 26 j) + 1))) j hj (okA_o (by decide) ok)))
    · rw [if_neg c79]
      exact (ofr_t (ofr_n (k := 26) (B := A) (v := (A 26 j) + 1) (by decide) rfl ofr_r) (of_M_overload (setA A 26 (upd (A 26) j ((A 26 j) + 1))) j hj))
  · rw [if_neg c46]
    by_cases c48 : ((A 26 j) + 1) = 3
    · rw [if_pos c48]
      by_cases c51 : ((f_M_isPassive (setA A 26 (upd (A 26) j ((A 26 j) + 1))) j)) = 0
      · rw [if_pos c51]
        exact (ofr_n (k := 26) (B := (setA (setA A 26 (upd (A 26) j ((A 26 j) + 1))) 3 (upd (A 3) j 0))) (v := 0) (by decide) rfl (ofr_n (k := 3) (B := (setA A 26 (upd (A 26) j ((A 26 j) + 1)))) (v := 0) (by decide) rfl (ofr_n (k := 26) (B := A) (v := (A 26 j) + 1) (by decide) rfl ofr_r)))
      · rw [if_neg c51]
        by_cases c61 : (A 28 j) = 1
        · rw [if_pos c61]
          exact (ofr_n (k := 26) (B := (setA (setA A 26 (upd (A 26) j ((A 26 j) + 1))) 3 (upd (A 3) j 6))) (v := 0) (by decide) rfl (ofr_n (k := 3) (B := (setA A 26 (upd (A 26) j ((A 26 j) + 1)))) (v := 6) (by decide) rfl (ofr_n (k := 26) (B := A) (v := (A 26 j) + 1) (by decide) rfl ofr_r)))
        · rw [if_neg c61]
          exact (ofr_n (k := 26) (B := (setA (setA A 26 (upd (A 26) j ((A 26 j) + 1))) 3 (upd (A 3) j 0))) (v := 0) (by decide) rfl (ofr_n (k := 3) (B := (setA A 26 (upd (A 26) j ((A 26 j) + 1)))) (v := 0) (by decide) rfl (ofr_n (k := 26) (B := A) (v := (A 26 j) + 1) (by decide) rfl ofr_r)))
    · rw [if_neg c48]
      exact (ofr_n (k := 26) (B := A) (v := (A 26 j) + 1) (by decide) rfl ofr_r)
set_option maxHeartbeats 4000000 in
set_option maxRecDepth 100000 in
theorem of_M_see (A : Nat → Nat → Int32) (j : Nat) (hj : j < 4) (x : Int32) (ok : okA A) : Ofr j A (f_M_see A j x) := by
  unfold f_M_see
  by_cases g42 : (A 3 j) = 1
  · rw [if_pos g42]
    exact (ofr_t ofr_r (of_M_send A j hj x ((ok j hj).2.2.2 g42) ok))
  · rw [if_neg g42]
    by_cases g47 : (A 3 j) = 2
    · rw [if_pos g47]
      exact (ofr_t ofr_r (of_M_hear A j hj x ok))
    · rw [if_neg g47]
      by_cases g52 : (A 3 j) = 3
      · rw [if_pos g52]
        exact (ofr_t ofr_r (of_M_flagging A j hj x))
      · rw [if_neg g52]
        by_cases g57 : (A 3 j) = 4
        · rw [if_pos g57]
          exact (ofr_t ofr_r (of_M_goAfter A j hj x))
        · rw [if_neg g57]
          by_cases g62 : (A 3 j) = 5
          · rw [if_pos g62]
            exact (ofr_t ofr_r (of_M_pausing A j hj x ok))
          · rw [if_neg g62]
            by_cases g67 : (A 3 j) = 6
            · rw [if_pos g67]
              by_cases c68 : x = 0
              · rw [if_pos c68]
                exact (ofr_t ofr_r (of_M_start A j hj ok))
              · rw [if_neg c68]
                by_cases c76 : ((A 26 j) + 1) = 8
                · rw [if_pos c76]
                  exact (ofr_n (k := 3) (B := (setA A 26 (upd (A 26) j ((A 26 j) + 1)))) (v := 0) (by decide) rfl (ofr_n (k := 26) (B := A) (v := (A 26 j) + 1) (by decide) rfl ofr_r))
                · rw [if_neg c76]
                  exact (ofr_n (k := 3) (B := (setA A 26 (upd (A 26) j ((A 26 j) + 1)))) (v := 6) (by decide) rfl (ofr_n (k := 26) (B := A) (v := (A 26 j) + 1) (by decide) rfl ofr_r))
            · rw [if_neg g67]
              by_cases g89 : (A 3 j) = 7
              · rw [if_pos g89]
                exact (ofr_t ofr_r (of_M_offTime A j hj x))
              · rw [if_neg g89]
                by_cases c94 : x = 0
                · rw [if_pos c94]
                  exact (ofr_t ofr_r (of_M_start A j hj ok))
                · rw [if_neg c94]
                  exact ofr_r
