/-! One bit of a core, read on both sides. -/
theorem sh1or (v x : Int32) (hx : x = 0 ∨ x = 1) : (v <<< (1 &&& 31)) ||| x = 2 * v + x := by
  have hs : ((1 &&& 31 : Int32).toBitVec.smod 32).toNat = 1 := by decide
  have h1 := pk_shl v (1 &&& 31) 1 hs
  apply Int32.toBitVec_inj.mp
  apply BitVec.eq_of_toNat_eq
  have hv : v.toBitVec.toNat < 2 ^ 32 := v.toBitVec.isLt
  rw [show ((v <<< (1 &&& 31)) ||| x).toBitVec = (v <<< (1 &&& 31)).toBitVec ||| x.toBitVec from rfl, BitVec.toNat_or, h1]
  rw [show (2 * v + x).toBitVec = 2 * v.toBitVec + x.toBitVec from rfl, BitVec.toNat_add, BitVec.toNat_mul, show (2 : BitVec 32).toNat = 2 from rfl]
  have h2 : v.toBitVec.toNat * 2 ^ 1 % 2 ^ 32 = (v.toBitVec.toNat % 2 ^ 31) <<< 1 := by rw [Nat.shiftLeft_eq]; omega
  rcases hx with rfl | rfl
  · rw [show (0 : Int32).toBitVec.toNat = 0 from rfl, Nat.or_zero]; omega
  · rw [show (1 : Int32).toBitVec.toNat = 1 from rfl, h2, ← Nat.shiftLeft_add_eq_or_of_lt (show 1 < 2 ^ 1 by decide), Nat.shiftLeft_eq]; omega
def ni (p : Nat) (i x : Int32) : Int32 := if 1 ≤ p ∧ p < 12 then 2 * i + x else i
def nb (p : Nat) (b x : Int32) : Int32 := if 15 ≤ p ∧ p < 19 then 2 * b + x else b
def nd (p bn : Nat) (d x : Int32) : Int32 := if 19 ≤ p ∧ p < 19 + 8 * bn then d ||| (x <<< ((((8 * ((nI p - 19) / 8)) + 7) - ((nI p - 19) - (nI p - 19) / 8 * 8)) &&& 31)) else d
theorem ni_t {p : Nat} (h : 1 ≤ p ∧ p < 12) (i x : Int32) : ni p i x = 2 * i + x := if_pos h
theorem ni_f {p : Nat} (h : ¬ (1 ≤ p ∧ p < 12)) (i x : Int32) : ni p i x = i := if_neg h
theorem nb_t {p : Nat} (h : 15 ≤ p ∧ p < 19) (i x : Int32) : nb p i x = 2 * i + x := if_pos h
theorem nb_f {p : Nat} (h : ¬ (15 ≤ p ∧ p < 19)) (i x : Int32) : nb p i x = i := if_neg h
theorem nd_t {p b : Nat} (h : 19 ≤ p ∧ p < 19 + 8 * b) (d x : Int32) : nd p b d x = d ||| (x <<< ((((8 * ((nI p - 19) / 8)) + 7) - ((nI p - 19) - (nI p - 19) / 8 * 8)) &&& 31)) := if_pos h
theorem nd_f {p b : Nat} (h : ¬ (19 ≤ p ∧ p < 19 + 8 * b)) (d x : Int32) : nd p b d x = d := if_neg h
theorem lits {p : Nat} (h : p < 1000) : ((nI p < 1) = (p < 1)) ∧ ((nI p < 15) = (p < 15)) ∧ ((nI p < 19) = (p < 19)) ∧ (((19 : Int32) ≤ nI p) = (19 ≤ p)) ∧ (((12 : Int32) ≤ nI p) = (12 ≤ p)) ∧ (((15 : Int32) ≤ nI p) = (15 ≤ p)) ∧ ((nI p ≤ 0) = (p ≤ 0)) ∧ ((nI p ≤ 14) = (p ≤ 14)) ∧ ((nI p ≤ 18) = (p ≤ 18)) ∧ ((nI p ≤ 11) = (p ≤ 11)) ∧ ((nI p = 18) = (p = 18)) ∧ ((nI p < 12) = (p < 12)) :=
  ⟨propext (nI_ltI (b := 1) (by omega) (by decide)), propext (nI_ltI (b := 15) (by omega) (by decide)), propext (nI_ltI (b := 19) (by omega) (by decide)), propext (nI_leI (a := 19) (by decide) (by omega)), propext (nI_leI (a := 12) (by decide) (by omega)), propext (nI_leI (a := 15) (by decide) (by omega)), propext (nI_leI (b := 0) (by omega) (by decide)), propext (nI_leI (b := 14) (by omega) (by decide)), propext (nI_leI (b := 18) (by omega) (by decide)), propext (nI_leI (b := 11) (by omega) (by decide)), propext (nI_eq (b := 18) (by omega) (by decide)), propext (nI_ltI (b := 12) (by omega) (by decide))⟩
theorem l19b {p b : Nat} (hp : p < 1000) (hb : b < 100) : ((19 + 8 * nI b : Int32) ≤ nI p) = (19 + 8 * b ≤ p) := by
  rw [show (8 : Int32) * nI b = nI (8 * b) from pk_mul 8 b, show (19 : Int32) + nI (8 * b) = nI (19 + 8 * b) from nI_add 19 (8 * b)]
  exact propext (nI_leI (by omega) (by omega))
theorem c46 {r : sRe} {x : Int32} {p b : Nat} (hp : r.p = nI p) (hpl : p < 1000) (hb : r.b = nI b) (hbl : b < 100) (hx : x = 0 ∨ x = 1) : f_Re_readCore_46 r x = f_Re_readCore_142 (sRe.mk r.p r.c r.l r.e r.g (ni p r.i x) (nb p r.b x) (nd p b r.d x)) x := by
  obtain ⟨a1, a2, a3, a4, a5, a6, a7, a8, a9, a10, a11, a12⟩ := lits hpl
  have a13 := l19b hpl hbl
  unfold f_Re_readCore_46 f_Re_readData
  rw [sh1or _ _ hx, sh1or _ _ hx]
  obtain ⟨rp, rc, rl, re, rg, ri, rb, rd⟩ := r
  have hp : rp = nI p := hp
  have hb : rb = nI b := hb
  subst hp hb
  simp only [a1, a2, a3, a4, a5, a13]
  by_cases h0 : p < 1
  · simp only [h0, show p < 15 by omega, show p < 19 by omega, ni_f (show ¬ (1 ≤ p ∧ p < 12) by omega), nb_f (show ¬ (15 ≤ p ∧ p < 19) by omega), nd_f (show ¬ (19 ≤ p ∧ p < 19 + 8 * b) by omega), if_true, if_false]
  · by_cases h1 : p < 12
    · simp only [h0, show ¬ 12 ≤ p by omega, ni_t (show (1 ≤ p ∧ p < 12) by omega), nb_f (show ¬ (15 ≤ p ∧ p < 19) by omega), nd_f (show ¬ (19 ≤ p ∧ p < 19 + 8 * b) by omega), if_true, if_false]
    · by_cases h2 : p < 15
      · simp only [h0, h2, show 12 ≤ p by omega, show p < 19 by omega, ni_f (show ¬ (1 ≤ p ∧ p < 12) by omega), nb_f (show ¬ (15 ≤ p ∧ p < 19) by omega), nd_f (show ¬ (19 ≤ p ∧ p < 19 + 8 * b) by omega), if_true, if_false]
      · by_cases h3 : p < 19
        · simp only [h0, h2, show 12 ≤ p by omega, show ¬ 19 ≤ p by omega, ni_f (show ¬ (1 ≤ p ∧ p < 12) by omega), nb_t (show (15 ≤ p ∧ p < 19) by omega), nd_f (show ¬ (19 ≤ p ∧ p < 19 + 8 * b) by omega), if_true, if_false]
        · by_cases h4 : 19 + 8 * b ≤ p
          · simp only [h0, h2, h3, h4, show 12 ≤ p by omega, show 19 ≤ p by omega, ni_f (show ¬ (1 ≤ p ∧ p < 12) by omega), nb_f (show ¬ (15 ≤ p ∧ p < 19) by omega), nd_f (show ¬ (19 ≤ p ∧ p < 19 + 8 * b) by omega), if_true, if_false]
          · simp only [h0, h2, h3, h4, show 12 ≤ p by omega, show 19 ≤ p by omega, ni_f (show ¬ (1 ≤ p ∧ p < 12) by omega), nb_f (show ¬ (15 ≤ p ∧ p < 19) by omega), nd_t (show (19 ≤ p ∧ p < 19 + 8 * b) by omega), if_true, if_false]
theorem g167 {y : sM} {x : Int32} {p b : Nat} (hpl : p < 1000) (hb : y.r22 = nI b) (hbl : b < 100) : g_M_readCore_167 y x (nI p) = g_M_readCore_287 (((y.s21 (ni p y.r21 x)).s22 (nb p y.r22 x)).s23 (nd p b y.r23 x)) x (nI p) := by
  obtain ⟨a1, a2, a3, a4, a5, a6, a7, a8, a9, a10, a11, a12⟩ := lits hpl
  have a13 := l19b hpl hbl
  unfold g_M_readCore_167
  rw [hb]
  simp only [a4, a5, a7, a8, a9, a13]
  by_cases h0 : p < 1
  · simp only [show p ≤ 0 by omega, show p ≤ 14 by omega, show p ≤ 18 by omega, ni_f (show ¬ (1 ≤ p ∧ p < 12) by omega), nb_f (show ¬ (15 ≤ p ∧ p < 19) by omega), nd_f (show ¬ (19 ≤ p ∧ p < 19 + 8 * b) by omega), if_true, if_false]
    rw [← hb]
  · by_cases h1 : p < 12
    · simp only [show ¬ p ≤ 0 by omega, show ¬ 12 ≤ p by omega, ni_t (show (1 ≤ p ∧ p < 12) by omega), nb_f (show ¬ (15 ≤ p ∧ p < 19) by omega), nd_f (show ¬ (19 ≤ p ∧ p < 19 + 8 * b) by omega), if_true, if_false]
      rw [← hb]
    · by_cases h2 : p < 15
      · simp only [show ¬ p ≤ 0 by omega, show p ≤ 14 by omega, show 12 ≤ p by omega, show p ≤ 18 by omega, ni_f (show ¬ (1 ≤ p ∧ p < 12) by omega), nb_f (show ¬ (15 ≤ p ∧ p < 19) by omega), nd_f (show ¬ (19 ≤ p ∧ p < 19 + 8 * b) by omega), if_true, if_false]
        rw [← hb]
      · by_cases h3 : p < 19
        · simp only [show ¬ p ≤ 0 by omega, show ¬ p ≤ 14 by omega, show 12 ≤ p by omega, show ¬ 19 ≤ p by omega, ni_f (show ¬ (1 ≤ p ∧ p < 12) by omega), nb_t (show (15 ≤ p ∧ p < 19) by omega), nd_f (show ¬ (19 ≤ p ∧ p < 19 + 8 * b) by omega), if_true, if_false]
        · by_cases h4 : 19 + 8 * b ≤ p
          · simp only [show ¬ p ≤ 0 by omega, show ¬ p ≤ 14 by omega, show ¬ p ≤ 18 by omega, h4, show 12 ≤ p by omega, show 19 ≤ p by omega, ni_f (show ¬ (1 ≤ p ∧ p < 12) by omega), nb_f (show ¬ (15 ≤ p ∧ p < 19) by omega), nd_f (show ¬ (19 ≤ p ∧ p < 19 + 8 * b) by omega), if_true, if_false]
            rw [← hb]
          · simp only [show ¬ p ≤ 0 by omega, show ¬ p ≤ 14 by omega, show ¬ p ≤ 18 by omega, h4, show 12 ≤ p by omega, show 19 ≤ p by omega, ni_f (show ¬ (1 ≤ p ∧ p < 12) by omega), nb_f (show ¬ (15 ≤ p ∧ p < 19) by omega), nd_t (show (19 ≤ p ∧ p < 19 + 8 * b) by omega), if_true, if_false]
            rw [← hb]
theorem g114 {y : sM} {x v3 : Int32} : g_M_readCore_114 y x v3 = g_M_readCore_167 ((y.s19 x).s20 (f_Co_registerBehind y.r20 x)) x v3 := by
  unfold g_M_readCore_114 f_Co_registerBehind
  by_cases c : x = ((y.r20 >>> (14 &&& 31)) &&& 1)
  · rw [if_pos c, if_pos c]
  · rw [if_neg c, if_neg c]
