/-! A bit of the core, read on both sides: what comes of it. -/
def nE (p e : Nat) (q : Prop) [Decidable q] : Nat := if p = 0 then 1 else if q then e + 1 else 1
theorem nE_1 {p e : Nat} {q : Prop} [Decidable q] : 1 ≤ nE p e q := by
  unfold nE
  split
  · exact Nat.le_refl 1
  · split
    · omega
    · exact Nat.le_refl 1
theorem nE_le {p e : Nat} {q : Prop} [Decidable q] (h : e ≤ 4) (hp : e ≤ p) : nE p e q ≤ 5 ∧ nE p e q ≤ p + 1 := by
  unfold nE
  split
  · omega
  · split <;> omega
def mY (y : sM) (p b : Nat) (x : Int32) (E : Int32) : sM := (((((y.s18 E).s19 x).s20 (f_Co_registerBehind y.r20 x)).s21 (ni p y.r21 x)).s22 (nb p y.r22 x)).s23 (nd p b y.r23 x)
theorem g_rc {y : sM} {x : Int32} {p e b : Nat} (hpl : p < 1000) (hyp : y.r17 = nI p) (hye : y.r18 = nI e) (he4 : e ≤ 4) (hb : y.r22 = nI b) (hbl : b < 100) : g_M_readCore y x = g_M_readCore_287 (mY y p b x (nI (nE p e (x = y.r19)))) x (nI p) := by
  unfold g_M_readCore nE
  rw [hye, hyp, if_neg (show ¬ nI e = 5 from fun h9 => absurd ((nI_eq (a := e) (b := 5) (by omega) (by decide)).mp h9) (by omega))]
  by_cases h0 : p = 0
  · rw [if_pos h0, if_pos (show nI p ≤ 0 by rw [h0]; decide), g114]
    exact g167 (y := ((y.s18 1).s19 x).s20 (f_Co_registerBehind y.r20 x)) hpl hb hbl
  · rw [if_neg h0, if_neg (show ¬ nI p ≤ 0 from nI_nle (by omega) (by omega))]
    by_cases c : x = y.r19
    · rw [if_pos c, if_pos c, nI_1, g114]; exact g167 (y := ((y.s18 (nI (e + 1))).s19 x).s20 (f_Co_registerBehind y.r20 x)) hpl hb hbl
    · rw [if_neg c, if_neg c, g114]; exact g167 (y := ((y.s18 1).s19 x).s20 (f_Co_registerBehind y.r20 x)) hpl hb hbl
theorem c_rc {r : sRe} {x : Int32} {p e b : Nat} (hpl : p < 1000) (hp : r.p = nI p) (he : r.e = nI e) (hb : r.b = nI b) (hbl : b < 100) (hx : x = 0 ∨ x = 1) : f_Re_readCore r x = f_Re_readCore_142 (sRe.mk r.p r.c x (nI (nE p e (x = r.l))) (f_Co_registerBehind r.g x) (ni p r.i x) (nb p r.b x) (nd p b r.d x)) x := by
  unfold f_Re_readCore nE
  by_cases h0 : p = 0
  · rw [if_pos h0, if_pos (show r.p ≤ 0 by rw [hp, h0]; decide)]
    have k9 := c46 (r := sRe.mk r.p r.c x 1 (f_Co_registerBehind r.g x) r.i r.b r.d) hp hpl hb hbl hx
    by_cases c : x = r.l
    · rw [if_pos c]; exact k9
    · rw [if_neg c]; exact k9
  · rw [if_neg h0, if_neg (show ¬ r.p ≤ 0 by rw [hp]; exact nI_nle (by omega) (by omega))]
    by_cases c : x = r.l
    · rw [if_pos c, if_pos c, he, nI_1]
      exact c46 (r := sRe.mk r.p r.c x (nI (e + 1)) (f_Co_registerBehind r.g x) r.i r.b r.d) hp hpl hb hbl hx
    · rw [if_neg c, if_neg c]
      exact c46 (r := sRe.mk r.p r.c x 1 (f_Co_registerBehind r.g x) r.i r.b r.d) hp hpl hb hbl hx
theorem nb_nI {p b xn : Nat} : nb p (nI b) (nI xn) = nI (if 15 ≤ p ∧ p < 19 then 2 * b + xn else b) := by
  unfold nb
  split
  · rw [show (2 : Int32) * nI b = nI (2 * b) from pk_mul 2 b, nI_add]
  · rfl
theorem x01 {x : Int32} {xn : Nat} (hx : x = nI xn) (h : xn ≤ 1) : x = 0 ∨ x = 1 := by
  have : xn = 0 ∨ xn = 1 := by omega
  rcases this with rfl | rfl
  · exact Or.inl hx
  · exact Or.inr hx
/-- no error of shape: on to the place behind -/
theorem g287 {y : sM} {x : Int32} {p xn : Nat} (hpl : p < 1000) (hx : x = nI xn) (hxn : xn ≤ 1) (hyp : y.r17 = nI p) (hs1 : ¬ (12 ≤ p ∧ p < 15 ∧ xn = 1)) (hs2 : p = 18 → y.r22 ≤ 2) : g_M_readCore_287 y x (nI p) = g_M_readCore_332 (y.s17 (nI (p + 1))) := by
  obtain ⟨a1, a2, a3, a4, a5, a6, a7, a8, a9, a10, a11, a12⟩ := lits hpl
  have k : g_M_readCore_314 (y.s17 (nI (p + 1))) (nI p) = g_M_readCore_332 (y.s17 (nI (p + 1))) := by
    unfold g_M_readCore_314
    simp only [a11]
    by_cases c : p = 18
    · rw [if_pos c, if_pos (show (y.s17 (nI (p + 1))).r22 ≤ 2 from hs2 c)]
    · rw [if_neg c]
  unfold g_M_readCore_287
  rw [hyp, nI_1, k]
  simp only [a10, a6]
  by_cases c1 : p ≤ 11
  · rw [if_pos c1]
  · rw [if_neg c1]
    by_cases c2 : 15 ≤ p
    · rw [if_pos c2]
    · rw [if_neg c2]
      have : ¬ x = 1 := by
        intro h9
        rw [hx] at h9
        exact hs1 ⟨by omega, by omega, (nI_eq (a := xn) (b := 1) (by omega) (by decide)).mp h9⟩
      rw [if_neg this]
/-- an error of shape -/
theorem g287s {y : sM} {x : Int32} {p xn : Nat} (hpl : p < 1000) (hx : x = nI xn) (hyp : y.r17 = nI p) (hs : (12 ≤ p ∧ p < 15 ∧ xn = 1) ∨ (p = 18 ∧ ¬ y.r22 ≤ 2)) : g_M_readCore_287 y x (nI p) = (y.s17 (nI (p + 1)), 4) := by
  obtain ⟨a1, a2, a3, a4, a5, a6, a7, a8, a9, a10, a11, a12⟩ := lits hpl
  unfold g_M_readCore_287
  rw [hyp, nI_1]
  simp only [a10, a6]
  rcases hs with ⟨h1, h2, h3⟩ | ⟨h1, h2⟩
  · rw [if_neg (show ¬ p ≤ 11 by omega), if_neg (show ¬ 15 ≤ p by omega), if_pos (show x = 1 by rw [hx, h3]; rfl)]
  · rw [if_neg (show ¬ p ≤ 11 by omega), if_pos (show 15 ≤ p by omega)]
    unfold g_M_readCore_314
    rw [if_pos (show nI p = 18 by rw [h1]; rfl), if_neg (show ¬ (y.s17 (nI (p + 1))).r22 ≤ 2 from h2)]
theorem g332 {y : sM} {p e b : Nat} (hpl : p < 1000) (hyp : y.r17 = nI p) (hye : y.r18 = nI e) (hel : e ≤ 5) (hb : y.r22 = nI b) (hbl : b < 100) : g_M_readCore_332 y = (y.s16 (if 19 ≤ p ∧ p = 34 + 8 * b ∧ e < 5 then 1 else 0), 0) := by
  have h19 : (((19 : Int32) ≤ nI p) = (19 ≤ p)) := propext (nI_leI (a := 19) (by decide) (by omega))
  have h34 : (34 : Int32) + 8 * nI b = nI (34 + 8 * b) := by rw [show (8 : Int32) * nI b = nI (8 * b) from pk_mul 8 b]; exact nI_add 34 (8 * b)
  unfold g_M_readCore_332 g_M_coreLength
  rw [hyp, hye, hb, h34]
  simp only [h19]
  by_cases c1 : 19 ≤ p
  · rw [if_pos c1]
    by_cases c2 : p = 34 + 8 * b
    · rw [if_pos (show nI p = nI (34 + 8 * b) by rw [c2])]
      by_cases c3 : e < 5
      · rw [if_neg (show ¬ (5 : Int32) ≤ nI e from nI_ge (b := 5) (by omega) (by decide)), if_pos ⟨c1, c2, c3⟩]
      · rw [if_pos (show (5 : Int32) ≤ nI e from nI_le (a := 5) (by omega) (by omega)), if_neg (fun h => c3 h.2.2)]
    · rw [if_neg (fun h9 => c2 ((nI_eq (by omega) (by omega)).mp h9)), if_neg (fun h => c2 h.2.1)]
  · rw [if_neg c1, if_neg (show ¬ nI p = 999 from fun h9 => absurd ((nI_eq (a := p) (b := 999) (by omega) (by decide)).mp h9) (by omega)), if_neg (fun h => c1 h.1)]
theorem c142 {r : sRe} {x : Int32} {p : Nat} (hpl : p < 1000) (hp : r.p = nI p) : f_Re_readCore_142 r x = sRe.mk (nI (p + 1)) (if p = 18 then f_Co_lengthFor r.b else r.c) r.l r.e r.g r.i r.b r.d := by
  unfold f_Re_readCore_142
  rw [hp, nI_1]
  by_cases c : p = 18
  · rw [if_pos (show nI (p + 1) = 19 by rw [c]; rfl), if_pos c]
  · rw [if_neg (show ¬ nI (p + 1) = 19 from fun h9 => absurd ((nI_eq (a := p + 1) (b := 19) (by omega) (by decide)).mp h9) (by omega)), if_neg c]
theorem p2_le {p : Nat} (h : p < 19) : 2 ^ (p - 15) ≤ 8 := Nat.le_trans (Nat.pow_le_pow_right (by decide) (show p - 15 ≤ 3 by omega)) (by decide)
theorem p2_step {p b xn : Nat} (h1 : 15 ≤ p) (hb : b < 2 ^ (p - 15)) (hx : xn ≤ 1) : 2 * b + xn < 2 ^ (p + 1 - 15) := by
  rw [show p + 1 - 15 = (p - 15) + 1 by omega, Nat.pow_succ]
  omega
/-- the bit read: no error -/
theorem rcc {r : sRe} {y : sM} {x : Int32} {p e b xn : Nat} (hx : x = nI xn) (hxn : xn ≤ 1) (hp : r.p = nI p) (hyp : y.r17 = nI p) (he : r.e = nI e) (hye : y.r18 = nI e) (he4 : e ≤ 4) (hep : e ≤ p) (hb : r.b = nI b) (hl : 0 < p → r.l = y.r19) (hg : r.g = y.r20) (hi : r.i = y.r21) (hbb : r.b = y.r22) (hd : r.d = y.r23) (hph : (p < 19 ∧ r.c = 50 ∧ b < 2 ^ (p - 15)) ∨ (19 ≤ p ∧ b ≤ 2 ∧ r.c = nI (34 + 8 * b) ∧ p < 34 + 8 * b)) (hs1 : ¬ (12 ≤ p ∧ p < 15 ∧ xn = 1)) (hs2 : p = 18 → 2 * b + xn ≤ 2) :
    (g_M_readCore y x).2 = 0 ∧ RR (f_Re_readCore r x) (g_M_readCore y x).1 ∧ (∃ a16 a17 a18 a19 a20 a21 a22 a23 : Int32, (g_M_readCore y x).1 = (((((((y.s18 a18).s19 a19).s20 a20).s21 a21).s22 a22).s23 a23).s17 a17).s16 a16) ∧ (f_Re_readCore r x).g = f_Co_registerBehind r.g x ∧ (f_Re_readCore r x).p = nI (p + 1) ∧ (f_Re_readCore r x).b = nI (if 15 ≤ p ∧ p < 19 then 2 * b + xn else b) ∧ ∃ c : Nat, (f_Re_readCore r x).c = nI c ∧ p + 1 ≤ c ∧ c < 1000 := by
  have hb8 : b < 8 := by
    rcases hph with h | h
    · exact Nat.lt_of_lt_of_le h.2.2 (p2_le h.1)
    · omega
  have hpl : p < 50 := by
    rcases hph with h | h <;> omega
  have hy22 : y.r22 = nI b := hbb.symm.trans hb
  have e1 := g_rc (x := x) (show p < 1000 by omega) hyp hye he4 hy22 (show b < 100 by omega)
  have e2 := c_rc (x := x) (show p < 1000 by omega) hp he hb (show b < 100 by omega) (x01 hx hxn)
  have eb : nb p (nI b) x = nI (if 15 ≤ p ∧ p < 19 then 2 * b + xn else b) := by rw [hx]; exact nb_nI
  have eq1 : nE p e (x = r.l) = nE p e (x = y.r19) := by
    unfold nE
    by_cases h0 : p = 0
    · rw [if_pos h0, if_pos h0]
    · rw [if_neg h0, if_neg h0]
      by_cases c : x = y.r19
      · rw [if_pos c, if_pos (show x = r.l by rw [hl (by omega)]; exact c)]
      · rw [if_neg c, if_neg (show ¬ x = r.l by rw [hl (by omega)]; exact c)]
  obtain ⟨n5, np⟩ := nE_le (q := x = y.r19) he4 hep
  have n1 : 1 ≤ nE p e (x = y.r19) := nE_1
  rw [eq1] at e2
  have key : ∀ E b2 : Nat, E = nE p e (x = y.r19) → b2 = (if 15 ≤ p ∧ p < 19 then 2 * b + xn else b) → E ≤ 5 → E ≤ p + 1 → b2 < 100 → (p = 18 → b2 ≤ 2) → True := fun _ _ _ _ _ _ _ _ => trivial
  generalize hE : nE p e (x = y.r19) = E at e1 e2 n5 np n1
  generalize hB : (if 15 ≤ p ∧ p < 19 then 2 * b + xn else b) = b2 at eb
  have hb2 : b2 < 100 := by rw [← hB]; split <;> omega
  have hb2' : p = 18 → b2 ≤ 2 := fun h => by rw [← hB, if_pos ⟨by omega, by omega⟩]; exact hs2 h
  have em : (mY y p b x (nI E)).r22 = nI b2 := by show nb p y.r22 x = nI b2; rw [hy22]; exact eb
  have e3 := g287 (y := mY y p b x (nI E)) (x := x) (show p < 1000 by omega) hx hxn hyp hs1 (fun h => by rw [em]; exact nI_le (b := 2) (hb2' h) (by decide))
  have e4 := g332 (y := (mY y p b x (nI E)).s17 (nI (p + 1))) (show p + 1 < 1000 by omega) rfl rfl n5 em hb2
  have e5 := c142 (r := sRe.mk r.p r.c x (nI E) (f_Co_registerBehind r.g x) (ni p r.i x) (nb p r.b x) (nd p b r.d x)) (x := x) (show p < 1000 by omega) hp
  rw [e3, e4] at e1
  rw [e5] at e2
  have eb2 : nb p r.b x = nI b2 := by rw [hb]; exact eb
  have hlen : f_Co_lengthFor (nI b2) = nI (34 + 8 * b2) := by
    unfold f_Co_lengthFor
    rw [show (8 : Int32) * nI b2 = nI (8 * b2) from pk_mul 8 b2, show (19 : Int32) + nI (8 * b2) = nI (19 + 8 * b2) from nI_add 19 (8 * b2), show nI (19 + 8 * b2) + 15 = nI (19 + 8 * b2 + 15) from nI_add (19 + 8 * b2) 15]
    congr 1
    omega
  rw [e1, e2]
  refine ⟨rfl, ?_, ⟨_, _, _, _, _, _, _, _, rfl⟩, rfl, rfl, eb2, ?_⟩
  · refine ⟨(show f_Co_registerBehind r.g x = f_Co_registerBehind y.r20 x by rw [hg]), (show ni p r.i x = ni p y.r21 x by rw [hi]), (show nb p r.b x = nb p y.r22 x by rw [hbb]), (show nd p b r.d x = nd p b y.r23 x by rw [hd]), p + 1, E, b2, rfl, rfl, rfl, eb2, ?_⟩
    have hlat : 0 < p + 1 → x = x ∧ (x = 0 ∨ x = 1) := fun _ => ⟨rfl, x01 hx hxn⟩
    rcases hph with ⟨q1, q2, q3⟩ | ⟨q1, q2, q3, q4⟩
    · by_cases c18 : p = 18
      · refine Or.inl ⟨(show (if 19 ≤ p + 1 ∧ p + 1 = 34 + 8 * b2 ∧ E < 5 then (1 : Int32) else 0) = 0 from if_neg (by omega)), rfl, n5, np, hlat, Or.inr ⟨by omega, hb2' c18, (show (if p = 18 then f_Co_lengthFor (nb p r.b x) else r.c) = nI (34 + 8 * b2) by rw [if_pos c18, eb2]; exact hlen), Or.inl (by omega)⟩⟩
      · refine Or.inl ⟨(show (if 19 ≤ p + 1 ∧ p + 1 = 34 + 8 * b2 ∧ E < 5 then (1 : Int32) else 0) = 0 from if_neg (by omega)), rfl, n5, np, hlat, Or.inl ⟨by omega, (show (if p = 18 then f_Co_lengthFor (nb p r.b x) else r.c) = 50 by rw [if_neg c18]; exact q2), ?_⟩⟩
        rw [← hB]
        by_cases c15 : 15 ≤ p
        · rw [if_pos ⟨c15, q1⟩]; exact p2_step c15 q3 hxn
        · rw [if_neg (fun h => c15 h.1)]
          rw [show p - 15 = 0 by omega] at q3
          rw [show p + 1 - 15 = 0 by omega]
          exact q3
    · have hbe : b2 = b := by rw [← hB]; exact if_neg (by omega)
      have hc : (if p = 18 then f_Co_lengthFor (nb p r.b x) else r.c) = nI (34 + 8 * b2) := by rw [if_neg (by omega), hbe]; exact q3
      by_cases cl : p + 1 = 34 + 8 * b2
      · by_cases c5 : E < 5
        · exact Or.inr ⟨1, Nat.le_refl 1, by decide, (show (if 19 ≤ p + 1 ∧ p + 1 = 34 + 8 * b2 ∧ E < 5 then (1 : Int32) else 0) = nI 1 from if_pos ⟨by omega, cl, c5⟩), by omega, hc, by omega, c5⟩
        · exact Or.inl ⟨(show (if 19 ≤ p + 1 ∧ p + 1 = 34 + 8 * b2 ∧ E < 5 then (1 : Int32) else 0) = 0 from if_neg (by omega)), rfl, n5, np, hlat, Or.inr ⟨by omega, by omega, hc, Or.inr ⟨cl, by omega⟩⟩⟩
      · exact Or.inl ⟨(show (if 19 ≤ p + 1 ∧ p + 1 = 34 + 8 * b2 ∧ E < 5 then (1 : Int32) else 0) = 0 from if_neg (by omega)), rfl, n5, np, hlat, Or.inr ⟨by omega, by omega, hc, Or.inl (by omega)⟩⟩
  · rcases hph with ⟨q1, q2, q3⟩ | ⟨q1, q2, q3, q4⟩
    · by_cases c18 : p = 18
      · exact ⟨34 + 8 * b2, (show (if p = 18 then f_Co_lengthFor (nb p r.b x) else r.c) = nI (34 + 8 * b2) by rw [if_pos c18, eb2]; exact hlen), by omega, by omega⟩
      · exact ⟨50, (show (if p = 18 then f_Co_lengthFor (nb p r.b x) else r.c) = nI 50 by rw [if_neg c18]; exact q2), by omega, by omega⟩
    · exact ⟨34 + 8 * b, (show (if p = 18 then f_Co_lengthFor (nb p r.b x) else r.c) = nI (34 + 8 * b) by rw [if_neg (by omega)]; exact q3), by omega, by omega⟩
