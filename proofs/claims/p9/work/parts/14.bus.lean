section HQN
variable {p : Program} {l : Launch} {e : Env} {R : Room} {s : State} {m : MethodId} {args : Array Value} {below : List Frame} {meth : Method} {c : Code} {H : Heap} {locs : List Loc} {cells slots : Nat} {Q : State → Prop}
variable {cc : ByteArray} {pc : Nat} {ls : Array Slot} {rest : List Value} {D : va_G} {cl : List vw_C} {tys : List (ClassId × FieldType)} {own : String} {Ts : List Cond}
theorem hq_newqs (C : hq_C p c s m args own cc Ts D cl tys) {index : Nat} {Cn : String} (hcl : Cond.classLink own index Cn ∈ Ts) (hover : va_AO Cn s) (t0 : Nat) {cA : ClassId} (ht : tys[t0]? = some (cA, .object Cn)) {n : Int32} {N' : Nat} (hn : ¬ n < 0) (hN : n.toNatClampNeg = N') (hbytes : N' * 4 ≤ 536870912) (hcells : cells + 1 ≤ R.cells) (hslots : slots + N' ≤ R.slots) {h : Nat} (hh : H.size = h) (hdg : decode cc pc = .ok (.anewarray index, 3))
    (kk : ∀ H1 : Heap, hq_N D cl h (.inl (cA, N', .inr (.inr (.inr (.inr (fun _ => none)))))) H H1 → W p l e R s m args below meth c H1 locs (cells + 1) (slots + N') Q (F0 m (pc + 3) ls (.ref h :: rest))) : W p l e R s m args below meth c H locs cells slots Q (F0 m pc ls (.int n :: rest)) := by
  obtain ⟨hx, hb, hown, hts, hK⟩ := C
  subst hN
  refine W.anew hx hb hown (hts _ hcl) (va_AO.use hover) rfl hdg rfl hn hbytes hcells hslots fun cB kA comp f1 f2 f3 f4 => ?_
  obtain ⟨kA', comp', k1, k2, k3, k4⟩ := (hK.2 t0 _ ht).2
  have hcc : cB = cA := Option.some.inj (f1.symm.trans k4)
  subst hcc
  generalize hH1 : H.push ({ cls := cB, slots := Array.replicate n.toNatClampNeg .null, vm := .none } : Cell) = H1
  have z1 : H1.size = h + 1 := by rw [← hH1, Array.size_push, hh]
  have e1 : H1[h]? = some (arrV cB n.toNatClampNeg (fun _ => .null)) := by rw [← hH1, ← hh, Array.getElem?_push_size, ← arrV_new]
  have o1 : ∀ q : Nat, q < h → H1[q]? = H[q]? := fun q hq => by rw [← hH1, Array.getElem?_push, if_neg (by omega)]
  rw [hh]
  refine kk H1 ⟨z1, o1, ?_⟩
  show H1[h]? = some (vp_cell _ _)
  rw [vp_cell_q]
  exact e1
end HQN
/-! The bus: an object at x, its levels, totals and row of nodes right behind it, then its nodes, ten cells each. -/
def nref (x k : Nat) : Nat → Option Nat := fun i => if i < k then some (x + 4 + 10 * i) else none
def busC (cI cN : ClassId) (x n : Nat) (lev tot : Nat → Int32) : Nat → va_E := fun j => match j with
  | 0 => .inr (5, [.ref (x + 3), .ref (x + 1), .ref (x + 2)])
  | 1 => .inl (cI, 64, .inl lev)
  | 2 => .inl (cI, 8, .inl tot)
  | _ => .inl (cN, n, .inr (.inr (.inr (.inr (nref x n)))))
/-- the bus at x holds n nodes with the numbers N and the rows R -/
def busP (D : va_G) (cI cZ cN : ClassId) (x n : Nat) (N : Nat → Nat → Int32) (R : Nat → Nat → Nat → Int32) (lev tot : Nat → Int32) (H : Heap) : Prop :=
  hq_B D vwCl x 4 (busC cI cN x n lev tot) H ∧ ∀ i, i < n → hq_B D vwCl (x + 4 + 10 * i) 10 (ndC cI cZ (x + 4 + 10 * i) (N i) (R i)) H
theorem nref_up (x i : Nat) : va_up (nref x i) i (some (x + 4 + 10 * i)) = nref x (i + 1) := by
  funext j
  unfold va_up nref
  by_cases h : j = i
  · subst h
    rw [if_pos rfl, if_pos (Nat.lt_succ_self _)]
  · rw [if_neg h]
    by_cases h2 : j < i
    · rw [if_pos h2, if_pos (by omega)]
    · rw [if_neg h2, if_neg (by omega)]
theorem clip_mm (x : Int32) : (if (2 : Int32) < (if x < 4 then x else 4) then (if x < 4 then x else 4) else 2) = clip x := by
  have e2 : (2 : Int32).toInt = 2 := rfl
  have e4 : (4 : Int32).toInt = 4 := rfl
  unfold clip
  by_cases a : x < 4
  · rw [if_pos a]
    have hn : ¬ (4 : Int32) < x := by rw [Int32.lt_iff_toInt_lt] at a ⊢; omega
    by_cases b : x < 2
    · rw [if_pos b, if_neg (by rw [Int32.lt_iff_toInt_lt] at b ⊢; omega)]
    · rw [if_neg b, if_neg hn]
      by_cases d : (2 : Int32) < x
      · rw [if_pos d]
      · rw [if_neg d]
        apply Int32.toInt_inj.mp
        rw [Int32.lt_iff_toInt_lt] at b d
        omega
  · rw [if_neg a, if_pos (by decide), if_neg (by rw [Int32.lt_iff_toInt_lt] at a ⊢; omega)]
    by_cases d : (4 : Int32) < x
    · rw [if_pos d]
    · rw [if_neg d]
      apply Int32.toInt_inj.mp
      rw [Int32.lt_iff_toInt_lt] at a d
      omega
theorem clip_n (x : Int32) : ∃ n : Nat, 2 ≤ n ∧ n ≤ 4 ∧ clip x = nI n := by
  have e2 : (2 : Int32).toInt = 2 := rfl
  have e4 : (4 : Int32).toInt = 4 := rfl
  unfold clip
  by_cases a : x < 2
  · exact ⟨2, by omega, by omega, by rw [if_pos a]; rfl⟩
  · rw [if_neg a]
    by_cases b : (4 : Int32) < x
    · exact ⟨4, by omega, by omega, by rw [if_pos b]; rfl⟩
    · rw [if_neg b]
      rw [Int32.lt_iff_toInt_lt] at a b
      refine ⟨x.toInt.toNat, by omega, by omega, ?_⟩
      apply Int32.toInt_inj.mp
      rw [nI_toInt (by omega)]
      omega
set_option maxRecDepth 100000 in
theorem cw_min : Cond.code Lib.Math.min.name Lib.Math.min.code 2 (some .int) ∈ TB := tb_at 52 rfl rfl
set_option maxRecDepth 100000 in
theorem cw_max : Cond.code Lib.Math.max.name Lib.Math.max.code 2 (some .int) ∈ TB := tb_at 55 rfl rfl
set_option maxRecDepth 100000 in
theorem mw_min : Cond.methodLink R_X 16 Lib.Math.min.name ∈ TB ∧ Cond.static Lib.Math.min.name ∈ TB ∧ Cond.initialized "java/lang/Math" ∈ TB := ⟨by decide +kernel, by decide +kernel, by decide +kernel⟩
set_option maxRecDepth 100000 in
theorem mw_max : Cond.methodLink R_X 22 Lib.Math.max.name ∈ TB ∧ Cond.static Lib.Math.max.name ∈ TB := ⟨by decide +kernel, by decide +kernel⟩
abbrev xRm : Room := { frames := 3, cells := 43, slots := 1252, locals := 62 }
def xPost (D : va_G) (cI cZ cN : ClassId) (x n : Nat) : Heap → Option Value → Heap → Prop := fun H v H' => v = none ∧ H'.size = x + 4 + 10 * n ∧ busP D cI cZ cN x n (fun _ => N0) (fun _ => R0) (fun _ => 0) (fun _ => 0) H' ∧ hq_O x H H'
def xInv (D : va_G) (cI cZ cN : ClassId) (x n i : Nat) (H0 H : Heap) : Prop := H.size = x + 4 + 10 * i ∧ va_at D vwCl (x, .inr (5, [.ref (x + 3), .ref (x + 1), .ref (x + 2)])) H ∧ va_at D vwCl (x + 1, .inl (cI, 64, .inl (fun _ => 0))) H ∧ va_at D vwCl (x + 2, .inl (cI, 8, .inl (fun _ => 0))) H ∧ va_at D vwCl (x + 3, .inl (cN, n, .inr (.inr (.inr (.inr (nref x i)))))) H ∧ (∀ k, k < i → hq_B D vwCl (x + 4 + 10 * k) 10 (ndC cI cZ (x + 4 + 10 * k) N0 R0) H) ∧ hq_O x H0 H
set_option maxHeartbeats 4000000 in
set_option maxRecDepth 100000 in
theorem x_loop {p : Program} {l : Launch} {e : Env} {s : State} {m : MethodId} {args : Array Value} {below : List Frame} {meth : Method} {c : Code} (D : va_G) (cI cZ cN cJ : ClassId) (lo x n : Nat) (xx : Int32) (hlo : lo ≤ x) (hn4 : n ≤ 4) (C : hq_C p c s m args R_X b_X_init TB D vwCl (TY cI cZ cN cJ)) (hml : c.maxLocals = 3) (hret : meth.sig.returnType = none) (hlk : meth.locks = false) (hNW : hq_NW s) :
    ∀ (d i : Nat) (H : Heap) (locs : List Loc) (ls : Array Slot), i + d = n → xInv D cI cZ cN x n i s.heap H → hq_L lo locs → lv_has ls 3 [(2, .int (nI i)), (0, .ref x), (1, .int xx)] →
      W p l e xRm s m args below meth c H locs (3 + 10 * i) (72 + n + 294 * i) (MQ below (hq_Q (xPost D cI cZ cN x n)) args s xRm.cells xRm.slots (fun q => lo ≤ q)) (F0 m 38 ls []) := by
  intro d
  induction d with
  | zero =>
    -- the end
    intro i H locs ls hd hI hL hl
    obtain ⟨hz, k0, k1, k2, k3, kN, hO⟩ := hI
    refine lv_iload_n C.1 C.2.1 d_X_init_38 rfl (lv_at hl 0 rfl) ?_
    refine lv_aload_n C.1 C.2.1 d_X_init_39 rfl (lv_at hl 1 rfl) ?_
    refine hq_get (v := .ref (x + 3)) C f_X_27 k0 rfl d_X_init_40 ?_
    refine hq_alen C 2 rfl k3 (v := nI n) rfl d_X_init_43 ?_
    have hin : i = n := by omega
    subst hin
    refine lv_icmp_ge (tgt := 66) C.1 C.2.1 d_X_init_44 (by decide) (fun _ => ?_) (fun hn => absurd (Int32.le_refl _) hn)
    refine hq_vret C hret hlk (by show 3 + 10 * i ≤ 43; omega) (by show 72 + i + 294 * i ≤ 1252; omega) hL ⟨rfl, hz, ⟨?_, kN⟩, hO⟩ d_X_init_66
    exact hq_Ba (hq_Ba (hq_Ba (hq_Ba hq_B0 k0) k1) k2) k3
  | succ d ih =>
    intro i H locs ls hd hI hL hl
    obtain ⟨hz, k0, k1, k2, k3, kN, hO⟩ := hI
    refine lv_iload_n C.1 C.2.1 d_X_init_38 rfl (lv_at hl 0 rfl) ?_
    refine lv_aload_n C.1 C.2.1 d_X_init_39 rfl (lv_at hl 1 rfl) ?_
    refine hq_get (v := .ref (x + 3)) C f_X_27 k0 rfl d_X_init_40 ?_
    refine hq_alen C 2 rfl k3 (v := nI n) rfl d_X_init_43 ?_
    have hin : i < n := by omega
    refine lv_icmp_ge (tgt := 66) C.1 C.2.1 d_X_init_44 (by decide) (fun hn => absurd hn (nI_ge hin (by omega))) (fun _ => ?_)
    refine lv_aload_n C.1 C.2.1 d_X_init_47 rfl (lv_at hl 1 rfl) ?_
    refine hq_get (v := .ref (x + 3)) C f_X_27 k0 rfl d_X_init_48 ?_
    refine lv_iload_n C.1 C.2.1 d_X_init_51 rfl (lv_at hl 0 rfl) ?_
    refine hq_new C k_No (by decide +kernel) (by decide +kernel) (by decide +kernel) (fs := [.null, .null, .null, .null, .null, .int (0), .int (0), .int (0), .int (0), .int (0), .int (0), .int (0), .int (0), .int (0), .int (0), .int (0), .int (0), .int (0)]) (by decide +kernel) (by show 3 + 10 * i + 1 ≤ 43; omega) (by show 72 + n + 294 * i + 18 ≤ 1252; omega) (h := x + 4 + 10 * i) hz d_X_init_52 (fun H1 n1 => ?_)
    have k41 : va_at D vwCl (x + 4 + 10 * i, .inr (3, [.null, .null, .null, .null, .null, .int (0), .int (0), .int (0), .int (0), .int (0), .int (0), .int (0), .int (0), .int (0), .int (0), .int (0), .int (0), .int (0)])) H1 := n1.2.2
    refine lv_dup C.1 C.2.1 d_X_init_55 rfl ?_
    refine hq_callIN (lo := lo) (As := []) (rest := [.ref (x + 4 + 10 * i), .int (nI i), .ref (x + 3)]) C tb_good hml Y_X_31 hNW.2.2.2.2 (c_No_init l D cI cZ cN cJ lo (x + 4 + 10 * i) (by omega)) (fun _ _ _ _ h => ⟨hq_NW.call h.1, h.2⟩) (fun U hU hW => ⟨hq_NW.warm hW hNW, by rw [hU]; exact n1.1, by rw [hU]; exact k41⟩) hL hl.1 rfl rfl ⟨⟨Nat.le_of_ble_eq_true rfl, Nat.le_of_ble_eq_true rfl⟩, by show 3 + 10 * i + 1 + 9 ≤ 43; omega, by show 72 + n + 294 * i + 18 + 276 ≤ 1252; omega⟩ (Nat.le_of_ble_eq_true rfl) d_X_init_56 (fun v H2 locs hp hL => ?_)
    obtain ⟨rfl, z2, B2, o2⟩ := hp
    refine W.eq (g2 := F0 m 59 ls [.ref (x + 4 + 10 * i), .int (nI i), .ref (x + 3)]) rfl ?_
    have k42 := hq_ao (hq_an k3 n1 (by omega)) o2 (by omega)
    have k43 := hq_ao (hq_an k0 n1 (by omega)) o2 (by omega)
    have k44 := hq_ao (hq_an k1 n1 (by omega)) o2 (by omega)
    have k45 := hq_ao (hq_an k2 n1 (by omega)) o2 (by omega)
    refine hq_aast (lo := lo) C 2 3 (r := (R_No, T_No, 18)) rfl rfl k42 (B2 0 (by decide)) (vp_in_nI hin (by omega)) hL (by omega) d_X_init_59 (fun H3 locs u3 hL => ?_)
    have kN3 : ∀ k, k < i + 1 → hq_B D vwCl (x + 4 + 10 * k) 10 (ndC cI cZ (x + 4 + 10 * k) N0 R0) H3 := by
      intro k hk
      by_cases hki : k = i
      · subst hki; exact hq_Bu B2 u3 (by omega)
      · exact hq_Bu (hq_Bo (hq_Bn (kN k (by omega)) n1 (by omega)) o2 (by omega)) u3 (by omega)
    have k3n : va_at D vwCl (x + 3, .inl (cN, n, .inr (.inr (.inr (.inr (nref x (i + 1))))))) H3 := by
      have h9 : va_at D vwCl (x + 3, .inl (cN, n, .inr (.inr (.inr (.inr (va_up (nref x i) (nI i).toNatClampNeg (some (x + 4 + 10 * i)))))))) H3 := u3.2.2
      rw [nI_clamp (by omega), nref_up] at h9
      exact h9
    have hI3 : xInv D cI cZ cN x n (i + 1) s.heap H3 := ⟨by have z3 := u3.1; omega, hq_au k43 u3 (by omega), hq_au k44 u3 (by omega), hq_au k45 u3 (by omega), k3n, kN3, hq_Ou (hq_Oo (hq_On hO n1 (by omega)) o2 (by omega)) u3 (by omega)⟩
    refine lv_iinc (k := 0) (v := nI (i + 1)) C.1 C.2.1 d_X_init_60 hl rfl (nI_1 i) (by decide) (lv' := [(2, .int (nI (i + 1))), (0, .ref x), (1, .int xx)]) rfl (fun ls hl => ?_)
    refine lv_goto (tgt := 38) C.1 C.2.1 d_X_init_63 (by decide) ?_
    have hW := ih (i + 1) H3 locs ls (by omega) hI3 hL hl
    refine W.cs (by show 3 + 10 * i + 1 + 9 = 3 + 10 * (i + 1); omega) (by show 72 + n + 294 * i + 18 + 276 = 72 + n + 294 * (i + 1); omega) hW
set_option maxHeartbeats 4000000 in
set_option maxRecDepth 100000 in
theorem c_X_init (l : Launch) (D : va_G) (cI cZ cN cJ : ClassId) (lo : Nat) (x n : Nat) (xx : Int32) (hlo : lo ≤ x) (hn4 : n ≤ 4) (hc : clip xx = nI n) : hq_M l y_X_init b_X_init 3 none TB xRm lo D vwCl (TY cI cZ cN cJ) [.ref x, .int xx] (fun U => hq_NW U ∧ va_AO R_No U ∧ U.heap.size = x + 1 ∧ va_at D vwCl (x, .inr (5, [.null, .null, .null])) U.heap) (xPost D cI cZ cN x n) := by
  refine hq_ofW (by decide) (Nat.le_of_ble_eq_true rfl) ?_
  intro p e s m below meth c ls C hml hret hlk hnm hl hP
  obtain ⟨hNW, hAO, hz, k0⟩ := hP
  have hL : hq_L lo [] := hq_L0
  have hl : lv_has ls 3 [(0, .ref x), (1, .int xx)] := hl
  refine lv_aload_n C.1 C.2.1 d_X_init_0 rfl (lv_at hl 0 rfl) ?_
  refine W.objInit C.1 C.2.1 C.2.2.1 (C.2.2.2.1 _ oi_X) (C.2.2.2.1 _ oi_inst) (C.2.2.2.1 _ oi_code) rfl (by rw [hml]; exact hl.1) rfl d_X_init_1 (Nat.le_of_ble_eq_true rfl) (Nat.le_of_ble_eq_true rfl) ?_
  refine W.eq (g2 := F0 m 4 ls []) rfl ?_
  refine lv_aload_n C.1 C.2.1 d_X_init_4 rfl (lv_at hl 0 rfl) ?_
  refine lv_bipush (v := 64) C.1 C.2.1 d_X_init_5 (by decide) ?_
  refine hq_newa C (by decide +kernel) 0 rfl (a0 := (64, .inl (fun _ => 0))) (N' := 64) (h := x + 1) (by first | rfl | exact vp_cell_i _ _ _) (by decide) (by decide) (by decide) (Nat.le_of_ble_eq_true rfl) (Nat.le_of_ble_eq_true rfl) hz d_X_init_7 (fun H41 n42 => ?_)
  have k43 : va_at D vwCl (x + 1, .inl (cI, 64, .inl (fun _ => 0))) H41 := n42.2.2
  replace hz : H41.size = x + 2 := n42.1
  have k44 := hq_an k0 n42 (by omega)
  refine hq_putF (lo := lo) C f_X_9 hnm (fun r hr => by cases hr; rfl) k44 rfl rfl (Nat.le_of_ble_eq_true rfl) hL (by omega) d_X_init_9 (fun H45 locs u46 hL => ?_)
  have k47 : va_at D vwCl (x, .inr (5, [.null, .ref (x + 1), .null])) H45 := u46.2.2
  replace hz : H45.size = x + 2 := u46.1.trans hz
  refine lv_aload_n C.1 C.2.1 d_X_init_12 rfl (lv_at hl 0 rfl) ?_
  refine lv_bipush (v := 8) C.1 C.2.1 d_X_init_13 (by decide) ?_
  refine hq_newa C (by decide +kernel) 0 rfl (a0 := (8, .inl (fun _ => 0))) (N' := 8) (h := x + 2) (by first | rfl | exact vp_cell_i _ _ _) (by decide) (by decide) (by decide) (Nat.le_of_ble_eq_true rfl) (Nat.le_of_ble_eq_true rfl) hz d_X_init_15 (fun H48 n49 => ?_)
  have k50 : va_at D vwCl (x + 2, .inl (cI, 8, .inl (fun _ => 0))) H48 := n49.2.2
  replace hz : H48.size = x + 3 := n49.1
  have k51 := hq_an k47 n49 (by omega)
  refine hq_putF (lo := lo) C f_X_13 hnm (fun r hr => by cases hr; rfl) k51 rfl rfl (Nat.le_of_ble_eq_true rfl) hL (by omega) d_X_init_17 (fun H52 locs u53 hL => ?_)
  have k54 : va_at D vwCl (x, .inr (5, [.null, .ref (x + 1), .ref (x + 2)])) H52 := u53.2.2
  replace hz : H52.size = x + 3 := u53.1.trans hz
  refine lv_aload_n C.1 C.2.1 d_X_init_20 rfl (lv_at hl 0 rfl) ?_
  refine lv_iconst (v := 2) C.1 C.2.1 d_X_init_21 (by decide) ?_
  refine lv_iconst (v := 4) C.1 C.2.1 d_X_init_22 (by decide) ?_
  refine lv_iload_n C.1 C.2.1 d_X_init_23 rfl (lv_at hl 1 rfl) ?_
  refine va_mmin C.1 C.2.1 (hml.trans hl.1.symm) C.2.2.1 (C.2.2.2.1 _ mw_min.1) (C.2.2.2.1 _ mw_min.2.1) (C.2.2.2.1 _ mw_min.2.2) (C.2.2.2.1 _ cw_min) (Nat.le_of_ble_eq_true rfl) (Nat.le_of_ble_eq_true rfl) (Nat.le_of_ble_eq_true rfl) (Nat.le_of_ble_eq_true rfl) d_X_init_24 ?_
  refine va_mmax C.1 C.2.1 (hml.trans hl.1.symm) C.2.2.1 (C.2.2.2.1 _ mw_max.1) (C.2.2.2.1 _ mw_max.2) (C.2.2.2.1 _ mw_min.2.2) (C.2.2.2.1 _ cw_max) (Nat.le_of_ble_eq_true rfl) (Nat.le_of_ble_eq_true rfl) (Nat.le_of_ble_eq_true rfl) (Nat.le_of_ble_eq_true rfl) d_X_init_27 ?_
  rw [clip_mm, hc]
  refine hq_newqs C (by decide +kernel) hAO 2 rfl (N' := n) (n := nI n) (nI_pos (by omega)) (nI_clamp (by omega)) (by omega) (Nat.le_of_ble_eq_true rfl) (by show 0 + 64 + 8 + n ≤ 1252; omega) (h := x + 3) hz d_X_init_30 (fun Ha na => ?_)
  have k55 : va_at D vwCl (x + 3, .inl (cN, n, .inr (.inr (.inr (.inr (fun _ => none)))))) Ha := na.2.2
  replace hz : Ha.size = x + 4 := na.1
  have k56 := hq_an k54 na (by omega)
  refine hq_putF (lo := lo) C f_X_27 hnm (fun r hr => by cases hr; rfl) k56 rfl rfl (Nat.le_of_ble_eq_true rfl) hL (by omega) d_X_init_33 (fun H57 locs u58 hL => ?_)
  have k59 : va_at D vwCl (x, .inr (5, [.ref (x + 3), .ref (x + 1), .ref (x + 2)])) H57 := u58.2.2
  replace hz : H57.size = x + 4 := u58.1.trans hz
  refine lv_iconst (v := 0) C.1 C.2.1 d_X_init_36 (by decide) ?_
  refine lv_istore_n C.1 C.2.1 d_X_init_37 rfl hl (by decide) rfl (lv' := [(2, .int (0)), (0, .ref (x)), (1, .int (xx))]) (fun ls hl => ?_)
  have hO : hq_O x s.heap H57 := fun q hq => ((u58.2.1 q (by omega)).trans ((na.2.1 q (by omega)).trans ((u53.2.1 q (by omega)).trans ((n49.2.1 q (by omega)).trans ((u46.2.1 q (by omega)).trans (n42.2.1 q (by omega)))))))
  have k60 := hq_au (hq_an (hq_au (hq_an (hq_au k43 u46 (by omega)) n49 (by omega)) u53 (by omega)) na (by omega)) u58 (by omega)
  have k61 := hq_au (hq_an (hq_au k50 u53 (by omega)) na (by omega)) u58 (by omega)
  have k62 := hq_au k55 u58 (by omega)
  have hf : (fun _ => none : Nat → Option Nat) = nref x 0 := by funext j; unfold nref; rw [if_neg (Nat.not_lt_zero j)]
  have k3 : va_at D vwCl (x + 3, .inl (cN, n, .inr (.inr (.inr (.inr (nref x 0)))))) H57 := by rw [← hf]; exact k62
  have hI : xInv D cI cZ cN x n 0 s.heap H57 := ⟨by omega, k59, k60, k61, k3, fun k hk => absurd hk (Nat.not_lt_zero k), hO⟩
  refine W.cs (by show 0 + 1 + 1 + 1 = 3 + 10 * 0; rfl) (by show 0 + 64 + 8 + n = 72 + n + 294 * 0; omega) ?_
  exact x_loop D cI cZ cN cJ lo x n xx hlo hn4 C hml hret hlk hNW n 0 _ _ _ (by omega) hI hL hl
