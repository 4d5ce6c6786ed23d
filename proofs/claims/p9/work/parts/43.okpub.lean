/-! The public methods keep what must be kept. -/
theorem ok_X_request {z : sNd} {a g d : Int32} (ok : okNd z) : okNd (f_X_request z a g d) := ⟨add_len ok.1, ok.2.1, ok.2.2.1, ok.2.2.2⟩
theorem ok_X_filter {z : sNd} {a g : Int32} (ok : okNd z) : okNd (f_X_filter z a g) := ⟨ok.1, ok.2.1, ok.2.2.1, ok.2.2.2⟩
theorem ok_X_disturb {z : sNd} {i : Nat} (ok : okNd z) : okNd (f_X_disturb z i) := ⟨ok.1, ok.2.1, okDi_mark ok.2.2.1, ok.2.2.2⟩
theorem ok_X_take {z : sNd} (ok : okNd z) : okNd (f_X_take z) := ⟨ok.1, rem_len ok.2.1, ok.2.2.1, ok.2.2.2⟩
/-- a cell outside the bus is written: the bus stays -/
theorem BuP_u {D : va_G} {cI cZ cN : ClassId} {x n a : Nat} {e : va_E} {u : sBu} {H H1 : Heap} (h : BuP D cI cZ cN x n u H) (hu : hq_U D vwCl a e H H1) (hd : a < x ∨ x + (4 + 10 * n) ≤ a) : BuP D cI cZ cN x n u H1 := ⟨hq_Bu h.1 hu (by omega), fun i hi => (h.2 i hi).u hu (by omega)⟩
theorem BuP_s {D : va_G} {cI cZ cN : ClassId} {x n a k : Nat} {u : sBu} {H H1 : Heap} (h : BuP D cI cZ cN x n u H) (hs : hq_S a k H H1) (hd : a + k ≤ x ∨ x + (4 + 10 * n) ≤ a) : BuP D cI cZ cN x n u H1 := ⟨hq_Bs h.1 hs (by omega), fun i hi => (h.2 i hi).s hs (by omega)⟩
theorem BuP_o {D : va_G} {cI cZ cN : ClassId} {x n a : Nat} {u : sBu} {H H1 : Heap} (h : BuP D cI cZ cN x n u H) (ho : hq_O a H H1) (hd : x + (4 + 10 * n) ≤ a) : BuP D cI cZ cN x n u H1 :=
  ⟨hq_Bo h.1 ho (by omega), fun i hi => ⟨hq_ao (h.2 i hi).1 ho (by omega), ⟨hq_ao (h.2 i hi).2.1.1 ho (by omega), hq_ao (h.2 i hi).2.1.2 ho (by omega)⟩, ⟨hq_ao (h.2 i hi).2.2.1.1 ho (by omega), hq_ao (h.2 i hi).2.2.1.2 ho (by omega)⟩, ⟨hq_ao (h.2 i hi).2.2.2.1.1 ho (by omega), hq_ao (h.2 i hi).2.2.2.1.2 ho (by omega)⟩, ⟨hq_ao (h.2 i hi).2.2.2.2.1.1 ho (by omega), hq_ao (h.2 i hi).2.2.2.2.1.2 ho (by omega)⟩, hq_ao (h.2 i hi).2.2.2.2.2 ho (by omega)⟩⟩
