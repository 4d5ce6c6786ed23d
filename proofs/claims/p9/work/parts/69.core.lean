/-! The core that is sent: its bits, one by one. -/
theorem sm32 : ∀ m : Nat, m < 32 → ((nI m &&& 31 : Int32).toBitVec.smod 32).toNat = m := by decide
theorem shrN {n m : Nat} (hn : n < 2 ^ 31) (hm : m < 32) : nI n >>> (nI m &&& 31) = nI (n / 2 ^ m) := pk_shrN hn (nI m &&& 31) m (sm32 m hm)
theorem bitN {n m : Nat} (hn : n < 2 ^ 31) (hm : m < 32) : (nI n >>> (nI m &&& 31)) &&& 1 = nI (n / 2 ^ m % 2) := by
  rw [shrN hn hm]
  exact pk_andN (Nat.lt_of_le_of_lt (Nat.div_le_self n _) (by omega)) 1 (by decide)
theorem regB_congr {f g : Nat → Int32} : ∀ p : Nat, (∀ q, q < p → f q = g q) → regB f p = regB g p := by
  intro p
  induction p with
  | zero => intro _; rfl
  | succ p ih =>
    intro h
    show f_Co_registerBehind (regB f p) (f p) = f_Co_registerBehind (regB g p) (g p)
    rw [ih (fun q hq => h q (by omega)), h p (by omega)]
theorem rb_lt (x y : Int32) : ∃ n : Nat, n < 32768 ∧ f_Co_registerBehind x y = nI n := by
  have h1 := pk_and (x <<< (1 &&& 31)) (m := 32767) 15 (by decide)
  unfold f_Co_registerBehind
  split
  · exact ⟨_, Nat.mod_lt _ (by decide), h1⟩
  · rw [h1]
    have hl : (x <<< (1 &&& 31)).toBitVec.toNat % 2 ^ 15 < 2 ^ 15 := Nat.mod_lt _ (by decide)
    generalize (x <<< (1 &&& 31)).toBitVec.toNat % 2 ^ 15 = X at hl
    refine ⟨X ^^^ 17817, Nat.xor_lt_two_pow (n := 15) hl (by decide), ?_⟩
    apply Int32.toBitVec_inj.mp
    apply BitVec.eq_of_toNat_eq
    rw [show (nI X ^^^ 17817 : Int32).toBitVec = (nI X).toBitVec ^^^ (17817 : Int32).toBitVec from rfl, BitVec.toNat_xor, pk_tn (by omega), show (17817 : Int32).toBitVec.toNat = 17817 from rfl, pk_tn]
    exact Nat.lt_trans (Nat.xor_lt_two_pow (n := 15) hl (by decide)) (by decide)
theorem regB_lt (f : Nat → Int32) (p : Nat) : ∃ n : Nat, n < 32768 ∧ regB f p = nI n := by
  cases p with
  | zero => exact ⟨0, by decide, rfl⟩
  | succ p => exact rb_lt _ _
theorem app_spec (x : Int32) : ∀ (w : Nat) (k : sCo), k.len + w ≤ 50 → k.reg = regB k.bits k.len → (f_Co_append x w k).len = k.len + w ∧ (f_Co_append x w k).reg = regB (f_Co_append x w k).bits (k.len + w) ∧ (∀ q, q < k.len → (f_Co_append x w k).bits q = k.bits q) ∧ (∀ q, q < w → (f_Co_append x w k).bits (k.len + q) = (x >>> (nI (w - 1 - q) &&& 31)) &&& 1) := by
  intro w
  induction w with
  | zero => intro k h hr; exact ⟨rfl, hr, fun _ _ => rfl, fun q hq => absurd hq (Nat.not_lt_zero q)⟩
  | succ d ih =>
    intro k h hr
    have hk : app1 k ((x >>> (nI d &&& 31)) &&& 1) = (upd k.bits k.len ((x >>> (nI d &&& 31)) &&& 1), k.len + 1, f_Co_registerBehind k.reg ((x >>> (nI d &&& 31)) &&& 1)) := by
      unfold app1
      rw [if_pos (show k.len < 50 by omega)]
    have hreg : f_Co_registerBehind k.reg ((x >>> (nI d &&& 31)) &&& 1) = regB (upd k.bits k.len ((x >>> (nI d &&& 31)) &&& 1)) (k.len + 1) := by
      show _ = f_Co_registerBehind (regB (upd k.bits k.len ((x >>> (nI d &&& 31)) &&& 1)) k.len) (upd k.bits k.len ((x >>> (nI d &&& 31)) &&& 1) k.len)
      rw [pk_us, hr, regB_congr k.len (f := upd k.bits k.len ((x >>> (nI d &&& 31)) &&& 1)) (g := k.bits) (fun q hq => pk_un (by omega))]
    obtain ⟨i1, i2, i3, i4⟩ := ih (upd k.bits k.len ((x >>> (nI d &&& 31)) &&& 1), k.len + 1, f_Co_registerBehind k.reg ((x >>> (nI d &&& 31)) &&& 1)) (show k.len + 1 + d ≤ 50 by omega) hreg
    have hap : f_Co_append x (d + 1) k = f_Co_append x d (upd k.bits k.len ((x >>> (nI d &&& 31)) &&& 1), k.len + 1, f_Co_registerBehind k.reg ((x >>> (nI d &&& 31)) &&& 1)) := by
      show f_Co_append x d (app1 k _) = _
      rw [hk]
    rw [hap]
    refine ⟨i1.trans (show k.len + 1 + d = k.len + (d + 1) by omega), ?_, fun q hq => (i3 q (show q < k.len + 1 by omega)).trans (pk_un (by omega)), fun q hq => ?_⟩
    · rw [show k.len + (d + 1) = k.len + 1 + d by omega]; exact i2
    · cases q with
      | zero => exact (i3 (k.len + 0) (show k.len + 0 < k.len + 1 by omega)).trans pk_us
      | succ q =>
        rw [show k.len + (q + 1) = k.len + 1 + q by omega, show d + 1 - 1 - (q + 1) = d - 1 - q by omega]
        exact i4 q (by omega)
theorem pk3 {i b d : Nat} (hi : i < 2048) (hb : b ≤ 2) (hd : d < 2 ^ (8 * b)) : d < 65536 ∧ f_Fr_packed (nI i) (nI b) (nI d) = nI (i + 2048 * b + 8192 * d) ∧ f_Fr_idOf (nI (i + 2048 * b + 8192 * d)) = nI i ∧ f_Fr_bytesOf (nI (i + 2048 * b + 8192 * d)) = nI b ∧ f_Fr_dataOf (nI (i + 2048 * b + 8192 * d)) = nI d := by
  have hd2 : d < 65536 := Nat.lt_of_lt_of_le hd (Nat.le_trans (Nat.pow_le_pow_right (by decide) (show 8 * b ≤ 16 by omega)) (by decide))
  refine ⟨hd2, ?_, ?_, ?_, ?_⟩
  · unfold f_Fr_packed
    rw [show (2048 : Int32) * nI b = nI (2048 * b) from pk_mul 2048 b, show (8192 : Int32) * nI d = nI (8192 * d) from pk_mul 8192 d, nI_add, nI_add]
  · unfold f_Fr_idOf
    rw [pk_andN (show i + 2048 * b + 8192 * d < 2 ^ 32 by omega) 11 (by decide)]
    congr 1
    omega
  · unfold f_Fr_bytesOf
    rw [pk_shrN (show i + 2048 * b + 8192 * d < 2 ^ 31 by omega) (11 &&& 31) 11 (by decide), pk_andN (Nat.lt_of_le_of_lt (Nat.div_le_self _ _) (by omega)) 2 (by decide)]
    congr 1
    omega
  · unfold f_Fr_dataOf
    rw [pk_shrN (show i + 2048 * b + 8192 * d < 2 ^ 31 by omega) (13 &&& 31) 13 (by decide)]
    congr 1
    omega
theorem bit0 {m : Nat} (hm : m < 32) : ((0 : Int32) >>> (nI m &&& 31)) &&& 1 = 0 := by
  have := bitN (n := 0) (m := m) (by decide) hm
  rw [Nat.zero_div] at this
  exact this
theorem core_head (bits : Nat → Int32) {i b : Nat} (hi : i < 2048) (hb : b ≤ 2) (K : sCo) (hK : K = f_Co_append (nI b) 4 (f_Co_append 0 3 (f_Co_append (nI i) 11 (f_Co_append 0 1 (bits, 0, 0))))) : K.len = 19 ∧ K.reg = regB K.bits 19 ∧ K.bits 0 = 0 ∧ (∀ q : Nat, q < 11 → K.bits (1 + q) = nI (i / 2 ^ (10 - q) % 2)) ∧ (∀ q : Nat, q < 3 → K.bits (12 + q) = 0) ∧ (∀ q : Nat, q < 4 → K.bits (15 + q) = nI (b / 2 ^ (3 - q) % 2)) := by
  obtain ⟨a1, a2, a3, a4⟩ := app_spec 0 1 (bits, 0, 0) (show (0 : Nat) + 1 ≤ 50 by decide) rfl
  generalize f_Co_append 0 1 (bits, 0, 0) = K1 at *
  have a1 : K1.len = 1 := a1
  have a2 : K1.reg = regB K1.bits K1.len := by rw [a1]; exact a2
  obtain ⟨b1, b2, b3, b4⟩ := app_spec (nI i) 11 K1 (by omega) a2
  generalize f_Co_append (nI i) 11 K1 = K2 at *
  rw [a1] at b1 b2 b3 b4
  have b2 : K2.reg = regB K2.bits K2.len := by rw [b1]; exact b2
  obtain ⟨c1, c2, c3, c4⟩ := app_spec 0 3 K2 (by omega) b2
  generalize f_Co_append 0 3 K2 = K3 at *
  rw [b1] at c1 c2 c3 c4
  have c2 : K3.reg = regB K3.bits K3.len := by rw [c1]; exact c2
  obtain ⟨d1, d2, d3, d4⟩ := app_spec (nI b) 4 K3 (by omega) c2
  rw [← hK] at d1 d2 d3 d4
  rw [c1] at d1 d2 d3 d4
  refine ⟨d1, d2, ?_, fun q hq => ?_, fun q hq => ?_, fun q hq => ?_⟩
  · rw [d3 0 (by omega), c3 0 (by omega), b3 0 (by omega)]
    exact (a4 0 (by decide)).trans (bit0 (m := 0) (by decide))
  · rw [d3 (1 + q) (by omega), c3 (1 + q) (by omega), b4 q hq, show 11 - 1 - q = 10 - q by omega]
    exact bitN (by omega) (by omega)
  · rw [d3 (12 + q) (by omega), show 12 + q = 1 + 11 + q by omega, c4 q hq]
    exact bit0 (by omega)
  · rw [show 15 + q = 1 + 11 + 3 + q by omega, d4 q hq, show 4 - 1 - q = 3 - q by omega]
    exact bitN (by omega) (by omega)
/-- eight bits of data more -/
theorem core_byte {K : sCo} {n d s : Nat} (hn : K.len = n) (hnl : n + 8 ≤ 35) (hr : K.reg = regB K.bits n) (hd : d < 65536) (x : Int32) (hx : x = nI (d / 2 ^ s)) : (f_Co_append x 8 K).len = n + 8 ∧ (f_Co_append x 8 K).reg = regB (f_Co_append x 8 K).bits (n + 8) ∧ (∀ q, q < n → (f_Co_append x 8 K).bits q = K.bits q) ∧ (∀ q, q < 8 → (f_Co_append x 8 K).bits (n + q) = nI (d / 2 ^ (s + 7 - q) % 2)) := by
  obtain ⟨a1, a2, a3, a4⟩ := app_spec x 8 K (by omega) (by rw [hn]; exact hr)
  rw [hn] at a1 a2 a3 a4
  refine ⟨a1, a2, a3, fun q hq => ?_⟩
  rw [a4 q hq, hx, show 8 - 1 - q = 7 - q by omega, bitN (Nat.lt_of_le_of_lt (Nat.div_le_self _ _) (by omega)) (by omega), Nat.div_div_eq_div_mul, ← Nat.pow_add, show s + (7 - q) = s + 7 - q by omega]
theorem core_tail {K : sCo} {n : Nat} (hn : K.len = n) (hnl : n ≤ 35) (hr : K.reg = regB K.bits n) : (f_Co_append K.reg 15 K).len = n + 15 ∧ (∀ q, q < n → (f_Co_append K.reg 15 K).bits q = K.bits q) ∧ (∀ q, q < 15 → (f_Co_append K.reg 15 K).bits (n + q) = ((regB (f_Co_append K.reg 15 K).bits n) >>> (nI (14 - q) &&& 31)) &&& 1) := by
  obtain ⟨a1, a2, a3, a4⟩ := app_spec K.reg 15 K (by omega) (by rw [hn]; exact hr)
  rw [hn] at a1 a2 a3 a4
  refine ⟨a1, a3, fun q hq => ?_⟩
  rw [a4 q hq, show 15 - 1 - q = 14 - q by omega, regB_congr n a3, ← hr]
theorem core_spec (k : sCo) {i b d : Nat} (hi : i < 2048) (hb : b ≤ 2) (hd : d < 2 ^ (8 * b)) : (f_Co_write k (f_Fr_packed (nI i) (nI b) (nI d))).len = 34 + 8 * b ∧ CB (f_Co_write k (f_Fr_packed (nI i) (nI b) (nI d))).bits i b d := by
  obtain ⟨hd2, e1, e2, e3, e4⟩ := pk3 hi hb hd
  rw [e1]
  unfold f_Co_write
  rw [e2, e3, e4]
  obtain ⟨h1, h2, h3, h4, h5, h6⟩ := core_head k.bits hi hb _ rfl
  generalize f_Co_append (nI b) 4 (f_Co_append 0 3 (f_Co_append (nI i) 11 (f_Co_append 0 1 (k.bits, 0, 0)))) = K at *
  have hb3 : b = 0 ∨ b = 1 ∨ b = 2 := by omega
  rcases hb3 with rfl | rfl | rfl
  · rw [if_pos (show nI 0 ≤ 0 by decide)]
    obtain ⟨t1, t2, t3⟩ := core_tail h1 (by decide) h2
    generalize f_Co_append K.reg 15 K = K7 at *
    exact ⟨t1, (t2 0 (by decide)).trans h3, fun q hq => (t2 _ (by omega)).trans (h4 q hq), fun q hq => (t2 _ (by omega)).trans (h5 q hq), fun q hq => (t2 _ (by omega)).trans (h6 q hq), fun q hq => absurd hq (by omega), fun q hq => t3 q hq⟩
  · rw [if_neg (show ¬ nI 1 ≤ 0 by decide), if_pos (show nI 1 ≤ 1 by decide)]
    obtain ⟨b1, b2, b3, b4⟩ := core_byte (s := 0) h1 (by decide) h2 hd2 (nI d >>> ((8 * 0) &&& 31)) (pk_shrN (by omega) _ 0 (by decide))
    generalize f_Co_append (nI d >>> ((8 * 0) &&& 31)) 8 K = K5 at *
    obtain ⟨t1, t2, t3⟩ := core_tail b1 (by decide) b2
    generalize f_Co_append K5.reg 15 K5 = K7 at *
    refine ⟨t1, (t2 0 (by decide)).trans ((b3 0 (by decide)).trans h3), fun q hq => (t2 _ (by omega)).trans ((b3 _ (by omega)).trans (h4 q hq)), fun q hq => (t2 _ (by omega)).trans ((b3 _ (by omega)).trans (h5 q hq)), fun q hq => (t2 _ (by omega)).trans ((b3 _ (by omega)).trans (h6 q hq)), fun q hq => (t2 _ (by omega)).trans ((b4 q (by omega)).trans ?_), fun q hq => t3 q hq⟩
    rw [show 8 * (q / 8) + 7 - q % 8 = 0 + 7 - q by omega]
  · rw [if_neg (show ¬ nI 2 ≤ 0 by decide), if_neg (show ¬ nI 2 ≤ 1 by decide)]
    obtain ⟨b1, b2, b3, b4⟩ := core_byte (s := 0) h1 (by decide) h2 hd2 (nI d >>> ((8 * 0) &&& 31)) (pk_shrN (by omega) _ 0 (by decide))
    generalize f_Co_append (nI d >>> ((8 * 0) &&& 31)) 8 K = K5 at *
    obtain ⟨c1, c2, c3, c4⟩ := core_byte (s := 8) b1 (by decide) b2 hd2 (nI d >>> ((8 * 1) &&& 31)) (pk_shrN (by omega) _ 8 (by decide))
    generalize f_Co_append (nI d >>> ((8 * 1) &&& 31)) 8 K5 = K6 at *
    obtain ⟨t1, t2, t3⟩ := core_tail c1 (by decide) c2
    generalize f_Co_append K6.reg 15 K6 = K7 at *
    refine ⟨t1, (t2 0 (by decide)).trans ((c3 0 (by decide)).trans ((b3 0 (by decide)).trans h3)), fun q hq => (t2 _ (by omega)).trans ((c3 _ (by omega)).trans ((b3 _ (by omega)).trans (h4 q hq))), fun q hq => (t2 _ (by omega)).trans ((c3 _ (by omega)).trans ((b3 _ (by omega)).trans (h5 q hq))), fun q hq => (t2 _ (by omega)).trans ((c3 _ (by omega)).trans ((b3 _ (by omega)).trans (h6 q hq))), fun q hq => (t2 _ (by omega)).trans ?_, fun q hq => t3 q hq⟩
    by_cases c8 : q < 8
    · rw [c3 (19 + q) (by omega), b4 q c8, show 8 * (q / 8) + 7 - q % 8 = 0 + 7 - q by omega]
    · rw [show 19 + q = 19 + 8 + (q - 8) by omega, c4 (q - 8) (by omega), show 8 * (q / 8) + 7 - q % 8 = 8 + 7 - (q - 8) by omega]
/-- the register behind the data gives out its own bits -/
theorem crc {f : Nat → Int32} {B X : Nat} (hX : X < 32768) (hr : regB f B = nI X) (hc : ∀ q : Nat, q < 15 → f (B + q) = ((regB f B) >>> (nI (14 - q) &&& 31)) &&& 1) : ∀ q : Nat, q ≤ 15 → regB f (B + q) = nI (X * 2 ^ q % 32768) ∧ (q < 15 → f (B + q) = nI (X / 2 ^ (14 - q) % 2) ∧ ((nI (X * 2 ^ q % 32768)) >>> (14 &&& 31)) &&& 1 = nI (X / 2 ^ (14 - q) % 2)) := by
  have top : ∀ q : Nat, q < 15 → f (B + q) = nI (X / 2 ^ (14 - q) % 2) ∧ ((nI (X * 2 ^ q % 32768)) >>> (14 &&& 31)) &&& 1 = nI (X / 2 ^ (14 - q) % 2) := by
    intro q hq
    refine ⟨?_, ?_⟩
    · rw [hc q hq, hr]; exact bitN (by omega) (by omega)
    · rw [pk_shrN (Nat.lt_trans (Nat.mod_lt _ (by decide)) (by decide)) (14 &&& 31) 14 (by decide), pk_andN (Nat.lt_of_le_of_lt (Nat.div_le_self _ _) (Nat.lt_trans (Nat.mod_lt _ (by decide)) (by decide))) 1 (by decide)]
      congr 1
      have h9 : q = 0 ∨ q = 1 ∨ q = 2 ∨ q = 3 ∨ q = 4 ∨ q = 5 ∨ q = 6 ∨ q = 7 ∨ q = 8 ∨ q = 9 ∨ q = 10 ∨ q = 11 ∨ q = 12 ∨ q = 13 ∨ q = 14 := by omega
      rcases h9 with rfl | rfl | rfl | rfl | rfl | rfl | rfl | rfl | rfl | rfl | rfl | rfl | rfl | rfl | rfl <;> omega
  intro q
  induction q with
  | zero => intro _; exact ⟨by rw [Nat.pow_zero, Nat.mul_one, Nat.mod_eq_of_lt hX]; exact hr, fun h => top 0 h⟩
  | succ q ih =>
    intro hq
    obtain ⟨i1, i2⟩ := ih (by omega)
    obtain ⟨j1, j2⟩ := i2 (by omega)
    refine ⟨?_, fun h => top (q + 1) h⟩
    show f_Co_registerBehind (regB f (B + q)) (f (B + q)) = _
    rw [i1, j1]
    unfold f_Co_registerBehind
    rw [if_pos j2.symm]
    have hm : X * 2 ^ q % 32768 < 32768 := Nat.mod_lt _ (by decide)
    have hX2 : X * 2 ^ (q + 1) = X * 2 ^ q * 2 := by rw [Nat.pow_succ, Nat.mul_assoc]
    rw [hX2]
    generalize X * 2 ^ q = M at hm
    rw [pk_shlN (1 &&& 31) 1 (by decide) (by omega), pk_andN (by omega) 15 (by decide), show (2 : Nat) ^ 1 = 2 from rfl, show (2 : Nat) ^ 15 = 32768 from rfl]
    congr 1
    omega
