/-! Out of the words at a start: the numbers of the classes and of the arrays' classes. -/
theorem hq_arrI {s : State} {args : Array Value} (h : (Cond.arrayClass .int).before args s = true) : ∃ cA : ClassId, ArrOfT s cA .int ∧ va_RA s cA .int := by
  obtain ⟨cA, kA, comp, h1, h2, h3⟩ := Cond.arrayClass_spec h
  exact ⟨cA, fun n z => ⟨(fun k h => by cases h), kA, h2, comp, h3⟩, h1⟩
theorem hq_arrZ {s : State} {args : Array Value} (h : (Cond.arrayClass .boolean).before args s = true) : ∃ cA : ClassId, ArrOfT s cA .boolean ∧ va_RA s cA .boolean := by
  obtain ⟨cA, kA, comp, h1, h2, h3⟩ := Cond.arrayClass_spec h
  exact ⟨cA, fun n z => ⟨(fun k h => by cases h), kA, h2, comp, h3⟩, h1⟩
theorem hq_arrJ {s : State} {args : Array Value} (h : (Cond.arrayClass .long).before args s = true) : ∃ cA : ClassId, ArrOfT s cA .long ∧ va_RA s cA .long := by
  obtain ⟨cA, kA, comp, h1, h2, h3⟩ := Cond.arrayClass_spec h
  exact ⟨cA, fun n z => ⟨(fun k h => by cases h), kA, h2, comp, h3⟩, h1⟩
theorem hq_arrQ {s : State} {args : Array Value} {C : String} (h : (Cond.arrayOver (.object C)).before args s = true) : ∃ cA : ClassId, ArrOfT s cA (.object C) ∧ va_RA s cA (.object C) := by
  obtain ⟨comp, cA, kA, h1, -, h3, h4, h5⟩ := Cond.arrayOver_spec h
  exact ⟨cA, fun n z => ⟨(fun k h => by cases h), kA, h3, comp, h4⟩, kA, comp, h3, h4, h1, h5⟩
theorem hq_cls {s : State} {cl : List vw_C} (h : ∀ (c : Nat) (q : vw_C), cl[c]? = some q → ∃ (cC : ClassId) (iS : Nat → Nat), u_Kn s q.1 q.2.1 q.2.2 cC iS) : ∃ D : va_G, ∀ (c : Nat) (q : vw_C), cl[c]? = some q → u_Kn s q.1 q.2.1 q.2.2 (D.1 c) (D.2 c) := by
  have h' : ∀ c : Nat, ∃ x : ClassId × (Nat → Nat), ∀ q, cl[c]? = some q → u_Kn s q.1 q.2.1 q.2.2 x.1 x.2 := by
    intro c
    cases hc : cl[c]? with
    | none => exact ⟨((0 : Nat), fun _ => 0), fun q h => by cases h⟩
    | some q0 =>
      obtain ⟨a, b, h1⟩ := h c q0 hc
      exact ⟨(a, b), fun q hq => by cases hq; exact h1⟩
  exact ⟨(fun c => (Classical.choose (h' c)).1, fun c => (Classical.choose (h' c)).2), fun c q hq => Classical.choose_spec (h' c) q hq⟩
