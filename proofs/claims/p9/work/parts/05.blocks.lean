/-! Blocks of cells: n cells from b on; what stays outside. -/
def hq_B (D : va_G) (cl : List vw_C) (b n : Nat) (C : Nat → va_E) (H : Heap) : Prop := ∀ j, j < n → va_at D cl (b + j, C j) H
def hq_S (b n : Nat) (H H' : Heap) : Prop := H'.size = H.size ∧ ∀ q : Nat, (q < b ∨ b + n ≤ q) → H'[q]? = H[q]?
def hq_O (b : Nat) (H H' : Heap) : Prop := ∀ q : Nat, q < b → H'[q]? = H[q]?
section HQB
variable {D : va_G} {cl : List vw_C} {a a' b b' n n' : Nat} {e e' : va_E} {C : Nat → va_E} {H0 H H1 : Heap}
theorem hq_S0 : hq_S b n H H := ⟨rfl, fun _ _ => rfl⟩
theorem hq_Sput (h : hq_S b n H0 H) (hU : hq_U D cl a e H H1) (h1 : b ≤ a) (h2 : a < b + n) : hq_S b n H0 H1 := ⟨hU.1.trans h.1, fun q hq => (hU.2.1 q (by omega)).trans (h.2 q hq)⟩
theorem hq_Scall (h : hq_S b n H0 H) (h' : hq_S b' n' H H1) (h1 : b ≤ b') (h2 : b' + n' ≤ b + n) : hq_S b n H0 H1 := ⟨h'.1.trans h.1, fun q hq => (h'.2 q (by omega)).trans (h.2 q hq)⟩
theorem hq_as (h : va_at D cl (a, e) H) (hs : hq_S b n H H1) (hd : a < b ∨ b + n ≤ a) : va_at D cl (a, e) H1 := h.kept (hs.2 a hd)
theorem hq_au (h : va_at D cl (a, e) H) (hU : hq_U D cl a' e' H H1) (hd : a ≠ a') : va_at D cl (a, e) H1 := h.kept (hU.2.1 a hd)
theorem hq_an (h : va_at D cl (a, e) H) (hN : hq_N D cl a' e' H H1) (hd : a < a') : va_at D cl (a, e) H1 := h.kept (hN.2.1 a hd)
theorem hq_ao (h : va_at D cl (a, e) H) (hO : hq_O b H H1) (hd : a < b) : va_at D cl (a, e) H1 := h.kept (hO a hd)
theorem hq_Bs (h : hq_B D cl b n C H) (hs : hq_S b' n' H H1) (hd : b + n ≤ b' ∨ b' + n' ≤ b) : hq_B D cl b n C H1 := fun j hj => hq_as (h j hj) hs (by omega)
theorem hq_Bu (h : hq_B D cl b n C H) (hU : hq_U D cl a e H H1) (hd : a < b ∨ b + n ≤ a) : hq_B D cl b n C H1 := fun j hj => hq_au (h j hj) hU (by omega)
theorem hq_Bn (h : hq_B D cl b n C H) (hN : hq_N D cl a e H H1) (hd : b + n ≤ a) : hq_B D cl b n C H1 := fun j hj => hq_an (h j hj) hN (by omega)
theorem hq_Bo (h : hq_B D cl b n C H) (hO : hq_O a H H1) (hd : b + n ≤ a) : hq_B D cl b n C H1 := fun j hj => hq_ao (h j hj) hO (by omega)
theorem hq_Bm {C' : Nat → va_E} (h : hq_B D cl b n C H) (hc : ∀ j, j < n → C' j = C j) : hq_B D cl b n C' H := fun j hj => by rw [hc j hj]; exact h j hj
theorem hq_O0 : hq_O b H H := fun _ _ => rfl
theorem hq_On (h : hq_O b H0 H) (hN : hq_N D cl a e H H1) (hd : b ≤ a) : hq_O b H0 H1 := fun q hq => (hN.2.1 q (by omega)).trans (h q hq)
theorem hq_Ou (h : hq_O b H0 H) (hU : hq_U D cl a e H H1) (hd : b ≤ a) : hq_O b H0 H1 := fun q hq => (hU.2.1 q (by omega)).trans (h q hq)
theorem hq_Oo (h : hq_O b H0 H) (hO : hq_O b' H H1) (hd : b ≤ b') : hq_O b H0 H1 := fun q hq => (hO q (by omega)).trans (h q hq)
theorem hq_Os (h : hq_O b H0 H) (hs : hq_S b' n' H H1) (hd : b ≤ b') : hq_O b H0 H1 := fun q hq => (hs.2 q (by omega)).trans (h q hq)
theorem hq_B0 : hq_B D cl b 0 C H := fun j hj => absurd hj (Nat.not_lt_zero j)
theorem hq_Ba (h : hq_B D cl b n C H) (hk : va_at D cl (b + n, C n) H) : hq_B D cl b (n + 1) C H := by
  intro j hj
  by_cases hjn : j = n
  · rw [hjn]; exact hk
  · exact h j (by omega)
theorem hq_B2 {k : Nat} {C2 : Nat → va_E} (h : hq_B D cl b n C H) (h2 : hq_B D cl (b + n) k C2 H) (hc : ∀ j, j < k → C (n + j) = C2 j) : hq_B D cl b (n + k) C H := by
  intro j hj
  by_cases hjn : j < n
  · exact h j hjn
  · have h3 := h2 (j - n) (by omega)
    rw [← hc (j - n) (by omega), show b + n + (j - n) = b + j by omega, show n + (j - n) = j by omega] at h3
    exact h3
end HQB
