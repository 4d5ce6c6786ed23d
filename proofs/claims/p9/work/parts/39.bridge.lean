/-! Between the numbers of a node (ndC) and its state; a new node. -/
def nOf (z : sNd) : Nat → Int32 := fun k => match k with
  | 0 => z.st
  | 1 => z.was
  | 2 => z.se
  | 3 => z.he
  | 4 => z.lo
  | 5 => z.ma
  | 6 => z.va
  | 7 => z.sp
  | 8 => z.dr
  | 9 => z.pf
  | 10 => z.ss
  | 11 => z.on
  | 12 => z.ro
  | 13 => nI z.w.k
  | 14 => nI z.i.k
  | 15 => nI z.d.t
  | 16 => nI z.k.len
  | 17 => z.k.reg
  | 18 => z.r.p
  | 19 => z.r.c
  | 20 => z.r.l
  | 21 => z.r.e
  | 22 => z.r.g
  | 23 => z.r.i
  | 24 => z.r.b
  | _ => z.r.d
def rOf (z : sNd) : Nat → Nat → Int32 := fun k => match k with
  | 0 => z.w.row
  | 1 => z.i.row
  | 2 => z.d.ring
  | _ => z.k.bits
theorem nd_of {D : va_G} {cI cZ : ClassId} {b : Nat} {z : sNd} {H : Heap} (h : hq_B D vwCl b 10 (ndC cI cZ b (nOf z) (rOf z)) H) : NdP D cI cZ b z H := ⟨h 0 (by decide), ⟨h 1 (by decide), h 2 (by decide)⟩, ⟨h 3 (by decide), h 4 (by decide)⟩, ⟨h 5 (by decide), h 6 (by decide)⟩, ⟨h 7 (by decide), h 8 (by decide)⟩, h 9 (by decide)⟩
theorem nd_to {D : va_G} {cI cZ : ClassId} {b : Nat} {z : sNd} {H : Heap} (h : NdP D cI cZ b z H) : hq_B D vwCl b 10 (ndC cI cZ b (nOf z) (rOf z)) H := by
  intro j hj
  match j, hj with
  | 0, _ => exact h.1
  | 1, _ => exact h.2.1.1
  | 2, _ => exact h.2.1.2
  | 3, _ => exact h.2.2.1.1
  | 4, _ => exact h.2.2.1.2
  | 5, _ => exact h.2.2.2.1.1
  | 6, _ => exact h.2.2.2.1.2
  | 7, _ => exact h.2.2.2.2.1.1
  | 8, _ => exact h.2.2.2.2.1.2
  | 9, _ => exact h.2.2.2.2.2
  | k + 10, h9 => omega
theorem bus_to {D : va_G} {cI cZ cN : ClassId} {x n : Nat} {u : sBu} {H : Heap} (h : BuP D cI cZ cN x n u H) : busP D cI cZ cN x n (fun i => nOf (u.1 i)) (fun i => rOf (u.1 i)) u.2.1 u.2.2 H := ⟨h.1, fun i hi => nd_to (h.2 i hi)⟩
theorem bus_of {D : va_G} {cI cZ cN : ClassId} {x n : Nat} {u : sBu} {H : Heap} (h : busP D cI cZ cN x n (fun i => nOf (u.1 i)) (fun i => rOf (u.1 i)) u.2.1 u.2.2 H) : BuP D cI cZ cN x n u H := ⟨h.1, fun i hi => nd_of (h.2 i hi)⟩
def z0 : sNd := sNd.mk 0 0 0 0 0 0 0 0 1 0 0 0 0 (fun _ => 0, 0) (fun _ => 0, 0) (fun _ => 0, 0) (fun _ => 0, 0, 0) (sRe.mk 0 50 1 0 0 0 0 0)
def u0 : sBu := (fun _ => z0, fun _ => 0, fun _ => 0)
theorem nd_new {D : va_G} {cI cZ : ClassId} {b : Nat} {H : Heap} (h : hq_B D vwCl b 10 (ndC cI cZ b N0 R0) H) : NdP D cI cZ b z0 H := ⟨h 0 (by decide), ⟨h 1 (by decide), h 2 (by decide)⟩, ⟨h 3 (by decide), h 4 (by decide)⟩, ⟨h 5 (by decide), h 6 (by decide)⟩, ⟨h 7 (by decide), h 8 (by decide)⟩, h 9 (by decide)⟩
theorem bus_new {D : va_G} {cI cZ cN : ClassId} {x n : Nat} {H : Heap} (h : busP D cI cZ cN x n (fun _ => N0) (fun _ => R0) (fun _ => 0) (fun _ => 0) H) : BuP D cI cZ cN x n u0 H := ⟨h.1, fun i hi => nd_new (h.2 i hi)⟩
theorem ok_new (n : Nat) : okB n 0 u0 := ⟨fun _ _ => ⟨Nat.zero_le 4, Nat.zero_le 4, ⟨(show (0 : Nat) < 201 by decide), fun _ => Or.inl rfl⟩, Nat.zero_le 50⟩, rfl⟩
/-- one node changed -/
def setB (u : sBu) (j : Nat) (z : sNd) : sBu := (fun q => if q = j then z else u.1 q, u.2.1, u.2.2)
theorem okB_set {n k j : Nat} {u : sBu} {z : sNd} (h : okB n k u) (hz : okNd z) : okB n k (setB u j z) := by
  refine ⟨fun q hq => ?_, h.2⟩
  show okNd (if q = j then z else u.1 q)
  by_cases h9 : q = j
  · rw [if_pos h9]; exact hz
  · rw [if_neg h9]; exact h.1 q hq
theorem BuP_set {D : va_G} {cI cZ cN : ClassId} {x n j : Nat} {u : sBu} {z : sNd} {H H1 : Heap} (h : BuP D cI cZ cN x n u H) (hB : NdP D cI cZ (x + 4 + 10 * j) z H1) (hS : hq_S (x + 4 + 10 * j) 10 H H1) : BuP D cI cZ cN x n (setB u j z) H1 := by
  refine busZ_set (i := j) (y' := (setB u j z).1) h ?_ hS (fun q hq => if_neg hq)
  rw [show (setB u j z).1 j = z from if_pos rfl]
  exact hB
