/-! What a node does by what it sees. -/
def f_No_seeSending_63 (z : sNd) (v1 : Int32) : sNd × Int32 := if ((f_Re_isAtEnd (f_Re_read z.r v1))) = 0 then (((sNd.mk z.st z.was z.se z.he z.lo z.ma z.va z.sp z.dr z.pf z.ss z.on z.ro z.w z.i z.d z.k (f_Re_read z.r v1)), 0)) else ((f_No_endSending (sNd.mk z.st z.was z.se z.he z.lo z.ma z.va z.sp z.dr z.pf z.ss z.on z.ro z.w z.i z.d z.k (f_Re_read z.r v1))))
def f_No_seeSending (z : sNd) (x : Int32) : sNd × Int32 := if ((f_Re_isAtAnswer z.r)) = 0 then (if x = z.dr then (f_No_seeSending_63 z x) else (if z.dr = 0 then ((f_No_err z 2)) else (if ((f_Re_isInId z.r)) = 0 then ((f_No_err z 2)) else (f_No_seeSending_63 (sNd.mk 2 2 z.se z.he z.lo z.ma z.va z.sp z.dr z.pf z.ss z.on z.ro z.w z.i z.d z.k z.r) x)))) else (if x = 1 then ((f_No_err z 6)) else (f_No_seeSending_63 z x))
set_option maxHeartbeats 4000000 in
set_option maxRecDepth 100000 in
theorem s_No_seeSending_63 {p : Program} {l : Launch} {e : Env} {s : State} {m : MethodId} {args : Array Value} {below : List Frame} {meth : Method} {c : Code} {H : Heap} {locs : List Loc} {ls : Array Slot} (D : va_G) (cI cZ cN cJ : ClassId) (lo b : Nat) (hlo : lo ≤ b) (z : sNd) (ok : okNd z) (v1 : Int32) {R9 : sNd × Int32} (hR : f_No_seeSending_63 z v1 = R9) (C : hq_C p c s m args R_No b_No_seeSending TB D vwCl (TY cI cZ cN cJ)) (hml : c.maxLocals = 2) (hret : meth.sig.returnType = (some .int)) (hlk : meth.locks = false) (hL : hq_L lo locs) (kz : NdP D cI cZ b z H) (hS : hq_S b 10 s.heap H) (hl : lv_has ls 2 [(0, .ref (b)), (1, .int (v1))]) : W p l e { frames := 3, cells := 0, slots := 0, locals := 73 } s m args below meth c H locs 0 0 (MQ below (hq_Q (fun H v H' => v = some (.int (R9).2) ∧ NdP D cI cZ b (R9).1 H' ∧ hq_S b 10 H H')) args s 0 0 (fun q => lo ≤ q)) (F0 m 63 ls []) := by
  refine lv_aload_n C.1 C.2.1 d_No_seeSending_63 rfl (lv_at hl 0 rfl) ?_
  refine hq_get (v := .ref (b + 9)) C f_No_38 kz.1 rfl d_No_seeSending_64 ?_
  refine lv_iload_n C.1 C.2.1 d_No_seeSending_67 rfl (lv_at hl 1 rfl) ?_
  refine hq_callV (lo := lo) (As := [.int (v1)]) (rest := []) C tb_good hml Y_No_156 (c_Re_read l D cI cZ cN cJ lo (b + 9) (by omega) z.r v1) kz.2.2.2.2.2 rfl (fun _ _ _ _ h => h) (fun U hU hW => by show va_at D vwCl (b + 9, cRe z.r) U.heap; rw [hU]; exact kz.2.2.2.2.2) hL hl.1 rfl rfl ⟨⟨Nat.le_of_ble_eq_true rfl, Nat.le_of_ble_eq_true rfl⟩, Nat.le_of_ble_eq_true rfl, Nat.le_of_ble_eq_true rfl⟩ (Nat.le_of_ble_eq_true rfl) d_No_seeSending_68 (fun v H63 locs hp hL => ?_)
  obtain ⟨rfl, k62, S61⟩ := hp
  refine W.eq (g2 := F0 m 71 ls []) rfl ?_
  refine lv_aload_n C.1 C.2.1 d_No_seeSending_71 rfl (lv_at hl 0 rfl) ?_
  have k64 := hq_as kz.1 S61 (by omega)
  refine hq_get (v := .ref (b + 9)) C f_No_38 k64 rfl d_No_seeSending_72 ?_
  refine hq_callV (lo := lo) (As := []) (rest := []) C tb_good hml Y_No_165 (c_Re_isAtEnd l D cI cZ cN cJ lo (b + 9) (f_Re_read z.r v1)) k62 rfl (fun _ _ _ _ h => h) (fun U hU hW => by show va_at D vwCl (b + 9, cRe (f_Re_read z.r v1)) U.heap; rw [hU]; exact k62) hL hl.1 rfl rfl ⟨⟨Nat.le_of_ble_eq_true rfl, Nat.le_of_ble_eq_true rfl⟩, Nat.le_of_ble_eq_true rfl, Nat.le_of_ble_eq_true rfl⟩ (Nat.le_of_ble_eq_true rfl) d_No_seeSending_75 (fun v H65 locs hp hL => ?_)
  obtain ⟨rfl, rfl⟩ := hp
  refine W.eq (g2 := F0 m 78 ls [.int ((f_Re_isAtEnd (f_Re_read z.r v1)))]) rfl ?_
  refine lv_if_eq (tgt := 88) C.1 C.2.1 d_No_seeSending_78 (by decide) ?_ ?_
  · intro c66
    refine lv_iconst (v := 0) C.1 C.2.1 d_No_seeSending_88 (by decide) ?_
    have hf : R9 = ((sNd.mk z.st z.was z.se z.he z.lo z.ma z.va z.sp z.dr z.pf z.ss z.on z.ro z.w z.i z.d z.k (f_Re_read z.r v1)), 0) := by rw [← hR]; unfold f_No_seeSending_63; rw [if_pos c66]
    have k67 := hq_as kz.2.1.1 S61 (by omega)
    have k68 := hq_as kz.2.1.2 S61 (by omega)
    have k69 := hq_as kz.2.2.1.1 S61 (by omega)
    have k70 := hq_as kz.2.2.1.2 S61 (by omega)
    have k71 := hq_as kz.2.2.2.1.1 S61 (by omega)
    have k72 := hq_as kz.2.2.2.1.2 S61 (by omega)
    have k73 := hq_as kz.2.2.2.2.1.1 S61 (by omega)
    have k74 := hq_as kz.2.2.2.2.1.2 S61 (by omega)
    exact hq_iret C hret hlk (Nat.le_of_ble_eq_true rfl) (Nat.le_of_ble_eq_true rfl) hL ⟨by rw [hf], by rw [hf]; exact ⟨k64, ⟨k67, k68⟩, ⟨k69, k70⟩, ⟨k71, k72⟩, ⟨k73, k74⟩, k62⟩, hq_Scall (hS) S61 (by omega) (by omega)⟩ d_No_seeSending_89
  · intro c66
    refine lv_aload_n C.1 C.2.1 d_No_seeSending_81 rfl (lv_at hl 0 rfl) ?_
    have k75 := hq_as kz.2.1.1 S61 (by omega)
    have k76 := hq_as kz.2.1.2 S61 (by omega)
    have k77 := hq_as kz.2.2.1.1 S61 (by omega)
    have k78 := hq_as kz.2.2.1.2 S61 (by omega)
    have k79 := hq_as kz.2.2.2.1.1 S61 (by omega)
    have k80 := hq_as kz.2.2.2.1.2 S61 (by omega)
    have k81 := hq_as kz.2.2.2.2.1.1 S61 (by omega)
    have k82 := hq_as kz.2.2.2.2.1.2 S61 (by omega)
    refine hq_callV (lo := lo) (As := []) (rest := []) C tb_good hml Y_No_168 (c_No_endSending l D cI cZ cN cJ lo (b) (by omega) (sNd.mk z.st z.was z.se z.he z.lo z.ma z.va z.sp z.dr z.pf z.ss z.on z.ro z.w z.i z.d z.k (f_Re_read z.r v1)) ⟨ok.1, ok.2.1, ok.2.2.1, ok.2.2.2⟩) k64 rfl (fun _ _ _ _ h => h) (fun U hU hW => by show NdP D cI cZ (b) (sNd.mk z.st z.was z.se z.he z.lo z.ma z.va z.sp z.dr z.pf z.ss z.on z.ro z.w z.i z.d z.k (f_Re_read z.r v1)) U.heap; rw [hU]; exact ⟨k64, ⟨k75, k76⟩, ⟨k77, k78⟩, ⟨k79, k80⟩, ⟨k81, k82⟩, k62⟩) hL hl.1 rfl rfl ⟨⟨Nat.le_of_ble_eq_true rfl, Nat.le_of_ble_eq_true rfl⟩, Nat.le_of_ble_eq_true rfl, Nat.le_of_ble_eq_true rfl⟩ (Nat.le_of_ble_eq_true rfl) d_No_seeSending_82 (fun v H85 locs hp hL => ?_)
    obtain ⟨rfl, k84, S83⟩ := hp
    refine W.eq (g2 := F0 m 85 ls [.int ((f_No_endSending (sNd.mk z.st z.was z.se z.he z.lo z.ma z.va z.sp z.dr z.pf z.ss z.on z.ro z.w z.i z.d z.k (f_Re_read z.r v1))).2)]) rfl ?_
    refine lv_goto (tgt := 89) C.1 C.2.1 d_No_seeSending_85 (by decide) ?_
    have hf : R9 = (f_No_endSending (sNd.mk z.st z.was z.se z.he z.lo z.ma z.va z.sp z.dr z.pf z.ss z.on z.ro z.w z.i z.d z.k (f_Re_read z.r v1))) := by rw [← hR]; unfold f_No_seeSending_63; rw [if_neg c66]
    exact hq_iret C hret hlk (Nat.le_of_ble_eq_true rfl) (Nat.le_of_ble_eq_true rfl) hL ⟨by rw [hf], by rw [hf]; exact k84, hq_Scall (hq_Scall (hS) S61 (by omega) (by omega)) S83 (by omega) (by omega)⟩ d_No_seeSending_89
set_option maxHeartbeats 4000000 in
set_option maxRecDepth 100000 in
theorem c_No_seeSending (l : Launch) (D : va_G) (cI cZ cN cJ : ClassId) (lo : Nat) (b : Nat) (hlo : lo ≤ b) (z : sNd) (ok : okNd z) (x : Int32) : hq_M l y_No_seeSending b_No_seeSending 2 (some .int) TB { frames := 3, cells := 0, slots := 0, locals := 73 } lo D vwCl (TY cI cZ cN cJ) [.ref (b), .int (x)] (fun U => NdP D cI cZ b z U.heap) (fun H v H' => v = some (.int (f_No_seeSending z x).2) ∧ NdP D cI cZ b (f_No_seeSending z x).1 H' ∧ hq_S b 10 H H') := by
  refine hq_ofW (by decide) (Nat.le_of_ble_eq_true rfl) ?_
  intro p e s m below meth c ls C hml hret hlk hnm hl hP
  have hL : hq_L lo [] := hq_L0
  have hl : lv_has ls 2 [(0, .ref (b)), (1, .int (x))] := hl
  have kz := hP
  refine lv_aload_n C.1 C.2.1 d_No_seeSending_0 rfl (lv_at hl 0 rfl) ?_
  refine hq_get (v := .ref (b + 9)) C f_No_38 kz.1 rfl d_No_seeSending_1 ?_
  refine hq_callV (lo := lo) (As := []) (rest := []) C tb_good hml Y_No_96 (c_Re_isAtAnswer l D cI cZ cN cJ lo (b + 9) z.r) kz.2.2.2.2.2 rfl (fun _ _ _ _ h => h) (fun U hU hW => by show va_at D vwCl (b + 9, cRe z.r) U.heap; rw [hU]; exact kz.2.2.2.2.2) hL hl.1 rfl rfl ⟨⟨Nat.le_of_ble_eq_true rfl, Nat.le_of_ble_eq_true rfl⟩, Nat.le_of_ble_eq_true rfl, Nat.le_of_ble_eq_true rfl⟩ (Nat.le_of_ble_eq_true rfl) d_No_seeSending_4 (fun v H41 locs hp hL => ?_)
  obtain ⟨rfl, rfl⟩ := hp
  refine W.eq (g2 := F0 m 7 ls [.int ((f_Re_isAtAnswer z.r))]) rfl ?_
  refine lv_if_eq (tgt := 22) C.1 C.2.1 d_No_seeSending_7 (by decide) ?_ ?_
  · intro c42
    refine lv_iload_n C.1 C.2.1 d_No_seeSending_22 rfl (lv_at hl 1 rfl) ?_
    refine lv_aload_n C.1 C.2.1 d_No_seeSending_23 rfl (lv_at hl 0 rfl) ?_
    refine hq_get (v := .int (z.dr)) C f_No_67 kz.1 rfl d_No_seeSending_24 ?_
    refine lv_icmp_eq (tgt := 63) C.1 C.2.1 d_No_seeSending_27 (by decide) ?_ ?_
    · intro c43
      exact s_No_seeSending_63 D cI cZ cN cJ lo b hlo z ok x ((show f_No_seeSending z x = f_No_seeSending_63 z x from by unfold f_No_seeSending; rw [if_pos c42, if_pos c43]).symm) C hml hret hlk hL kz (hq_S0) (lv_push (lv_push (lv_nil hl) (lv_at hl 1 rfl)) (lv_at hl 0 rfl))
    · intro c43
      refine lv_aload_n C.1 C.2.1 d_No_seeSending_30 rfl (lv_at hl 0 rfl) ?_
      refine hq_get (v := .int (z.dr)) C f_No_67 kz.1 rfl d_No_seeSending_31 ?_
      refine lv_if_eq (tgt := 47) C.1 C.2.1 d_No_seeSending_34 (by decide) ?_ ?_
      · intro c44
        refine lv_aload_n C.1 C.2.1 d_No_seeSending_47 rfl (lv_at hl 0 rfl) ?_
        refine lv_iconst (v := 2) C.1 C.2.1 d_No_seeSending_48 (by decide) ?_
        refine hq_callV (lo := lo) (As := [.int (2)]) (rest := []) C tb_good hml Y_No_159 (c_No_err l D cI cZ cN cJ lo (b) (by omega) z 2) kz.1 rfl (fun _ _ _ _ h => h) (fun U hU hW => by show NdP D cI cZ (b) z U.heap; rw [hU]; exact kz) hL hl.1 rfl rfl ⟨⟨Nat.le_of_ble_eq_true rfl, Nat.le_of_ble_eq_true rfl⟩, Nat.le_of_ble_eq_true rfl, Nat.le_of_ble_eq_true rfl⟩ (Nat.le_of_ble_eq_true rfl) d_No_seeSending_49 (fun v H47 locs hp hL => ?_)
        obtain ⟨rfl, k46, S45⟩ := hp
        refine W.eq (g2 := F0 m 52 ls [.int ((f_No_err z 2).2)]) rfl ?_
        have hf : f_No_seeSending z x = (f_No_err z 2) := by unfold f_No_seeSending; rw [if_pos c42, if_neg c43, if_pos c44]
        exact hq_iret C hret hlk (Nat.le_of_ble_eq_true rfl) (Nat.le_of_ble_eq_true rfl) hL ⟨by rw [hf], by rw [hf]; exact k46, hq_Scall (hq_S0) S45 (by omega) (by omega)⟩ d_No_seeSending_52
      · intro c44
        refine lv_aload_n C.1 C.2.1 d_No_seeSending_37 rfl (lv_at hl 0 rfl) ?_
        refine hq_get (v := .ref (b + 9)) C f_No_38 kz.1 rfl d_No_seeSending_38 ?_
        refine hq_callV (lo := lo) (As := []) (rest := []) C tb_good hml Y_No_162 (c_Re_isInId l D cI cZ cN cJ lo (b + 9) z.r) kz.2.2.2.2.2 rfl (fun _ _ _ _ h => h) (fun U hU hW => by show va_at D vwCl (b + 9, cRe z.r) U.heap; rw [hU]; exact kz.2.2.2.2.2) hL hl.1 rfl rfl ⟨⟨Nat.le_of_ble_eq_true rfl, Nat.le_of_ble_eq_true rfl⟩, Nat.le_of_ble_eq_true rfl, Nat.le_of_ble_eq_true rfl⟩ (Nat.le_of_ble_eq_true rfl) d_No_seeSending_41 (fun v H48 locs hp hL => ?_)
        obtain ⟨rfl, rfl⟩ := hp
        refine W.eq (g2 := F0 m 44 ls [.int ((f_Re_isInId z.r))]) rfl ?_
        refine lv_if_ne (tgt := 53) C.1 C.2.1 d_No_seeSending_44 (by decide) ?_ ?_
        · intro c49
          refine lv_aload_n C.1 C.2.1 d_No_seeSending_53 rfl (lv_at hl 0 rfl) ?_
          refine lv_iconst (v := 2) C.1 C.2.1 d_No_seeSending_54 (by decide) ?_
          refine hq_put (lo := lo) C f_No_42 kz.1 rfl rfl (Nat.le_of_ble_eq_true rfl) hL (by omega) d_No_seeSending_55 (fun H50 locs u51 hL => ?_)
          have k52 : va_at D vwCl (b, .inr (3, [.ref (b + 1), .ref (b + 3), .ref (b + 5), .ref (b + 7), .ref (b + 9), .int (2), .int (z.was), .int (z.se), .int (z.he), .int (z.lo), .int (z.ma), .int (z.va), .int (z.sp), .int (z.dr), .int (z.pf), .int (z.ss), .int (z.on), .int (z.ro)])) H50 := u51.2.2
          refine lv_aload_n C.1 C.2.1 d_No_seeSending_58 rfl (lv_at hl 0 rfl) ?_
          refine lv_iconst (v := 2) C.1 C.2.1 d_No_seeSending_59 (by decide) ?_
          refine hq_put (lo := lo) C f_No_46 k52 rfl rfl (Nat.le_of_ble_eq_true rfl) hL (by omega) d_No_seeSending_60 (fun H53 locs u54 hL => ?_)
          have k55 : va_at D vwCl (b, .inr (3, [.ref (b + 1), .ref (b + 3), .ref (b + 5), .ref (b + 7), .ref (b + 9), .int (2), .int (2), .int (z.se), .int (z.he), .int (z.lo), .int (z.ma), .int (z.va), .int (z.sp), .int (z.dr), .int (z.pf), .int (z.ss), .int (z.on), .int (z.ro)])) H53 := u54.2.2
          have k56 := hq_au (hq_au kz.2.1.1 u51 (by omega)) u54 (by omega)
          have k57 := hq_au (hq_au kz.2.1.2 u51 (by omega)) u54 (by omega)
          have k58 := hq_au (hq_au kz.2.2.1.1 u51 (by omega)) u54 (by omega)
          have k59 := hq_au (hq_au kz.2.2.1.2 u51 (by omega)) u54 (by omega)
          have k60 := hq_au (hq_au kz.2.2.2.1.1 u51 (by omega)) u54 (by omega)
          have k61 := hq_au (hq_au kz.2.2.2.1.2 u51 (by omega)) u54 (by omega)
          have k62 := hq_au (hq_au kz.2.2.2.2.1.1 u51 (by omega)) u54 (by omega)
          have k63 := hq_au (hq_au kz.2.2.2.2.1.2 u51 (by omega)) u54 (by omega)
          have k64 := hq_au (hq_au kz.2.2.2.2.2 u51 (by omega)) u54 (by omega)
          exact s_No_seeSending_63 D cI cZ cN cJ lo b hlo (sNd.mk 2 2 z.se z.he z.lo z.ma z.va z.sp z.dr z.pf z.ss z.on z.ro z.w z.i z.d z.k z.r) ⟨ok.1, ok.2.1, ok.2.2.1, ok.2.2.2⟩ x ((show f_No_seeSending z x = f_No_seeSending_63 (sNd.mk 2 2 z.se z.he z.lo z.ma z.va z.sp z.dr z.pf z.ss z.on z.ro z.w z.i z.d z.k z.r) x from by unfold f_No_seeSending; rw [if_pos c42, if_neg c43, if_neg c44, if_neg c49]).symm) C hml hret hlk hL ⟨k55, ⟨k56, k57⟩, ⟨k58, k59⟩, ⟨k60, k61⟩, ⟨k62, k63⟩, k64⟩ (hq_Sput (hq_Sput (hq_S0) u51 (by omega) (by omega)) u54 (by omega) (by omega)) (lv_push (lv_push (lv_nil hl) (lv_at hl 1 rfl)) (lv_at hl 0 rfl))
        · intro c49
          refine lv_aload_n C.1 C.2.1 d_No_seeSending_47 rfl (lv_at hl 0 rfl) ?_
          refine lv_iconst (v := 2) C.1 C.2.1 d_No_seeSending_48 (by decide) ?_
          refine hq_callV (lo := lo) (As := [.int (2)]) (rest := []) C tb_good hml Y_No_159 (c_No_err l D cI cZ cN cJ lo (b) (by omega) z 2) kz.1 rfl (fun _ _ _ _ h => h) (fun U hU hW => by show NdP D cI cZ (b) z U.heap; rw [hU]; exact kz) hL hl.1 rfl rfl ⟨⟨Nat.le_of_ble_eq_true rfl, Nat.le_of_ble_eq_true rfl⟩, Nat.le_of_ble_eq_true rfl, Nat.le_of_ble_eq_true rfl⟩ (Nat.le_of_ble_eq_true rfl) d_No_seeSending_49 (fun v H67 locs hp hL => ?_)
          obtain ⟨rfl, k66, S65⟩ := hp
          refine W.eq (g2 := F0 m 52 ls [.int ((f_No_err z 2).2)]) rfl ?_
          have hf : f_No_seeSending z x = (f_No_err z 2) := by unfold f_No_seeSending; rw [if_pos c42, if_neg c43, if_neg c44, if_pos c49]
          exact hq_iret C hret hlk (Nat.le_of_ble_eq_true rfl) (Nat.le_of_ble_eq_true rfl) hL ⟨by rw [hf], by rw [hf]; exact k66, hq_Scall (hq_S0) S65 (by omega) (by omega)⟩ d_No_seeSending_52
  · intro c42
    refine lv_iload_n C.1 C.2.1 d_No_seeSending_10 rfl (lv_at hl 1 rfl) ?_
    refine lv_iconst (v := 1) C.1 C.2.1 d_No_seeSending_11 (by decide) ?_
    refine lv_icmp_ne (tgt := 63) C.1 C.2.1 d_No_seeSending_12 (by decide) ?_ ?_
    · intro c68
      exact s_No_seeSending_63 D cI cZ cN cJ lo b hlo z ok x ((show f_No_seeSending z x = f_No_seeSending_63 z x from by unfold f_No_seeSending; rw [if_neg c42, if_neg c68]).symm) C hml hret hlk hL kz (hq_S0) (lv_push (lv_push (lv_nil hl) (lv_at hl 1 rfl)) (lv_at hl 0 rfl))
    · intro c68
      refine lv_aload_n C.1 C.2.1 d_No_seeSending_15 rfl (lv_at hl 0 rfl) ?_
      refine lv_bipush (v := 6) C.1 C.2.1 d_No_seeSending_16 (by decide) ?_
      refine hq_callV (lo := lo) (As := [.int (6)]) (rest := []) C tb_good hml Y_No_159 (c_No_err l D cI cZ cN cJ lo (b) (by omega) z 6) kz.1 rfl (fun _ _ _ _ h => h) (fun U hU hW => by show NdP D cI cZ (b) z U.heap; rw [hU]; exact kz) hL hl.1 rfl rfl ⟨⟨Nat.le_of_ble_eq_true rfl, Nat.le_of_ble_eq_true rfl⟩, Nat.le_of_ble_eq_true rfl, Nat.le_of_ble_eq_true rfl⟩ (Nat.le_of_ble_eq_true rfl) d_No_seeSending_18 (fun v H71 locs hp hL => ?_)
      obtain ⟨rfl, k70, S69⟩ := hp
      refine W.eq (g2 := F0 m 21 ls [.int ((f_No_err z 6).2)]) rfl ?_
      have hf : f_No_seeSending z x = (f_No_err z 6) := by unfold f_No_seeSending; rw [if_neg c42, if_pos c68]
      exact hq_iret C hret hlk (Nat.le_of_ble_eq_true rfl) (Nat.le_of_ble_eq_true rfl) hL ⟨by rw [hf], by rw [hf]; exact k70, hq_Scall (hq_S0) S69 (by omega) (by omega)⟩ d_No_seeSending_21
def f_No_seeHearing (z : sNd) (x : Int32) : sNd × Int32 := if ((f_Re_errorOf z.r x)) = 0 then (if ((f_Re_isAtEnd (f_Re_read z.r x))) = 0 then (((sNd.mk z.st z.was z.se z.he z.lo z.ma z.va z.sp z.dr z.pf z.ss z.on z.ro z.w z.i z.d z.k (f_Re_read z.r x)), 0)) else ((f_No_endHearing (sNd.mk z.st z.was z.se z.he z.lo z.ma z.va z.sp z.dr z.pf z.ss z.on z.ro z.w z.i z.d z.k (f_Re_read z.r x)) x))) else ((f_No_err z ((f_Re_errorOf z.r x))))
set_option maxHeartbeats 4000000 in
set_option maxRecDepth 100000 in
theorem c_No_seeHearing (l : Launch) (D : va_G) (cI cZ cN cJ : ClassId) (lo : Nat) (b : Nat) (hlo : lo ≤ b) (z : sNd) (ok : okNd z) (x : Int32) : hq_M l y_No_seeHearing b_No_seeHearing 3 (some .int) TB { frames := 4, cells := 0, slots := 0, locals := 93 } lo D vwCl (TY cI cZ cN cJ) [.ref (b), .int (x)] (fun U => NdP D cI cZ b z U.heap) (fun H v H' => v = some (.int (f_No_seeHearing z x).2) ∧ NdP D cI cZ b (f_No_seeHearing z x).1 H' ∧ hq_S b 10 H H') := by
  refine hq_ofW (by decide) (Nat.le_of_ble_eq_true rfl) ?_
  intro p e s m below meth c ls C hml hret hlk hnm hl hP
  have hL : hq_L lo [] := hq_L0
  have hl : lv_has ls 3 [(0, .ref (b)), (1, .int (x))] := hl
  have kz := hP
  refine lv_aload_n C.1 C.2.1 d_No_seeHearing_0 rfl (lv_at hl 0 rfl) ?_
  refine hq_get (v := .ref (b + 9)) C f_No_38 kz.1 rfl d_No_seeHearing_1 ?_
  refine lv_iload_n C.1 C.2.1 d_No_seeHearing_4 rfl (lv_at hl 1 rfl) ?_
  refine hq_callV (lo := lo) (As := [.int (x)]) (rest := []) C tb_good hml Y_No_177 (c_Re_errorOf l D cI cZ cN cJ lo (b + 9) z.r x) kz.2.2.2.2.2 rfl (fun _ _ _ _ h => h) (fun U hU hW => by show va_at D vwCl (b + 9, cRe z.r) U.heap; rw [hU]; exact kz.2.2.2.2.2) hL hl.1 rfl rfl ⟨⟨Nat.le_of_ble_eq_true rfl, Nat.le_of_ble_eq_true rfl⟩, Nat.le_of_ble_eq_true rfl, Nat.le_of_ble_eq_true rfl⟩ (Nat.le_of_ble_eq_true rfl) d_No_seeHearing_5 (fun v H41 locs hp hL => ?_)
  obtain ⟨rfl, rfl⟩ := hp
  refine W.eq (g2 := F0 m 8 ls [.int ((f_Re_errorOf z.r x))]) rfl ?_
  refine lv_istore_n C.1 C.2.1 d_No_seeHearing_8 rfl hl (by decide) rfl (lv' := [(2, .int ((f_Re_errorOf z.r x))), (0, .ref (b)), (1, .int (x))]) (fun ls hl => ?_)
  refine lv_iload_n C.1 C.2.1 d_No_seeHearing_9 rfl (lv_at hl 0 rfl) ?_
  refine lv_if_eq (tgt := 19) C.1 C.2.1 d_No_seeHearing_10 (by decide) ?_ ?_
  · intro c42
    refine lv_aload_n C.1 C.2.1 d_No_seeHearing_19 rfl (lv_at hl 1 rfl) ?_
    refine hq_get (v := .ref (b + 9)) C f_No_38 kz.1 rfl d_No_seeHearing_20 ?_
    refine lv_iload_n C.1 C.2.1 d_No_seeHearing_23 rfl (lv_at hl 2 rfl) ?_
    refine hq_callV (lo := lo) (As := [.int (x)]) (rest := []) C tb_good hml Y_No_156 (c_Re_read l D cI cZ cN cJ lo (b + 9) (by omega) z.r x) kz.2.2.2.2.2 rfl (fun _ _ _ _ h => h) (fun U hU hW => by show va_at D vwCl (b + 9, cRe z.r) U.heap; rw [hU]; exact kz.2.2.2.2.2) hL hl.1 rfl rfl ⟨⟨Nat.le_of_ble_eq_true rfl, Nat.le_of_ble_eq_true rfl⟩, Nat.le_of_ble_eq_true rfl, Nat.le_of_ble_eq_true rfl⟩ (Nat.le_of_ble_eq_true rfl) d_No_seeHearing_24 (fun v H45 locs hp hL => ?_)
    obtain ⟨rfl, k44, S43⟩ := hp
    refine W.eq (g2 := F0 m 27 ls []) rfl ?_
    refine lv_aload_n C.1 C.2.1 d_No_seeHearing_27 rfl (lv_at hl 1 rfl) ?_
    have k46 := hq_as kz.1 S43 (by omega)
    refine hq_get (v := .ref (b + 9)) C f_No_38 k46 rfl d_No_seeHearing_28 ?_
    refine hq_callV (lo := lo) (As := []) (rest := []) C tb_good hml Y_No_165 (c_Re_isAtEnd l D cI cZ cN cJ lo (b + 9) (f_Re_read z.r x)) k44 rfl (fun _ _ _ _ h => h) (fun U hU hW => by show va_at D vwCl (b + 9, cRe (f_Re_read z.r x)) U.heap; rw [hU]; exact k44) hL hl.1 rfl rfl ⟨⟨Nat.le_of_ble_eq_true rfl, Nat.le_of_ble_eq_true rfl⟩, Nat.le_of_ble_eq_true rfl, Nat.le_of_ble_eq_true rfl⟩ (Nat.le_of_ble_eq_true rfl) d_No_seeHearing_31 (fun v H47 locs hp hL => ?_)
    obtain ⟨rfl, rfl⟩ := hp
    refine W.eq (g2 := F0 m 34 ls [.int ((f_Re_isAtEnd (f_Re_read z.r x)))]) rfl ?_
    refine lv_if_eq (tgt := 45) C.1 C.2.1 d_No_seeHearing_34 (by decide) ?_ ?_
    · intro c48
      refine lv_iconst (v := 0) C.1 C.2.1 d_No_seeHearing_45 (by decide) ?_
      have hf : f_No_seeHearing z x = ((sNd.mk z.st z.was z.se z.he z.lo z.ma z.va z.sp z.dr z.pf z.ss z.on z.ro z.w z.i z.d z.k (f_Re_read z.r x)), 0) := by unfold f_No_seeHearing; rw [if_pos c42, if_pos c48]
      have k49 := hq_as kz.2.1.1 S43 (by omega)
      have k50 := hq_as kz.2.1.2 S43 (by omega)
      have k51 := hq_as kz.2.2.1.1 S43 (by omega)
      have k52 := hq_as kz.2.2.1.2 S43 (by omega)
      have k53 := hq_as kz.2.2.2.1.1 S43 (by omega)
      have k54 := hq_as kz.2.2.2.1.2 S43 (by omega)
      have k55 := hq_as kz.2.2.2.2.1.1 S43 (by omega)
      have k56 := hq_as kz.2.2.2.2.1.2 S43 (by omega)
      exact hq_iret C hret hlk (Nat.le_of_ble_eq_true rfl) (Nat.le_of_ble_eq_true rfl) hL ⟨by rw [hf], by rw [hf]; exact ⟨k46, ⟨k49, k50⟩, ⟨k51, k52⟩, ⟨k53, k54⟩, ⟨k55, k56⟩, k44⟩, hq_Scall (hq_S0) S43 (by omega) (by omega)⟩ d_No_seeHearing_46
    · intro c48
      refine lv_aload_n C.1 C.2.1 d_No_seeHearing_37 rfl (lv_at hl 1 rfl) ?_
      refine lv_iload_n C.1 C.2.1 d_No_seeHearing_38 rfl (lv_at hl 2 rfl) ?_
      have k57 := hq_as kz.2.1.1 S43 (by omega)
      have k58 := hq_as kz.2.1.2 S43 (by omega)
      have k59 := hq_as kz.2.2.1.1 S43 (by omega)
      have k60 := hq_as kz.2.2.1.2 S43 (by omega)
      have k61 := hq_as kz.2.2.2.1.1 S43 (by omega)
      have k62 := hq_as kz.2.2.2.1.2 S43 (by omega)
      have k63 := hq_as kz.2.2.2.2.1.1 S43 (by omega)
      have k64 := hq_as kz.2.2.2.2.1.2 S43 (by omega)
      refine hq_callV (lo := lo) (As := [.int (x)]) (rest := []) C tb_good hml Y_No_180 (c_No_endHearing l D cI cZ cN cJ lo (b) (by omega) (sNd.mk z.st z.was z.se z.he z.lo z.ma z.va z.sp z.dr z.pf z.ss z.on z.ro z.w z.i z.d z.k (f_Re_read z.r x)) ⟨ok.1, ok.2.1, ok.2.2.1, ok.2.2.2⟩ x) k46 rfl (fun _ _ _ _ h => h) (fun U hU hW => by show NdP D cI cZ (b) (sNd.mk z.st z.was z.se z.he z.lo z.ma z.va z.sp z.dr z.pf z.ss z.on z.ro z.w z.i z.d z.k (f_Re_read z.r x)) U.heap; rw [hU]; exact ⟨k46, ⟨k57, k58⟩, ⟨k59, k60⟩, ⟨k61, k62⟩, ⟨k63, k64⟩, k44⟩) hL hl.1 rfl rfl ⟨⟨Nat.le_of_ble_eq_true rfl, Nat.le_of_ble_eq_true rfl⟩, Nat.le_of_ble_eq_true rfl, Nat.le_of_ble_eq_true rfl⟩ (Nat.le_of_ble_eq_true rfl) d_No_seeHearing_39 (fun v H67 locs hp hL => ?_)
      obtain ⟨rfl, k66, S65⟩ := hp
      refine W.eq (g2 := F0 m 42 ls [.int ((f_No_endHearing (sNd.mk z.st z.was z.se z.he z.lo z.ma z.va z.sp z.dr z.pf z.ss z.on z.ro z.w z.i z.d z.k (f_Re_read z.r x)) x).2)]) rfl ?_
      refine lv_goto (tgt := 46) C.1 C.2.1 d_No_seeHearing_42 (by decide) ?_
      have hf : f_No_seeHearing z x = (f_No_endHearing (sNd.mk z.st z.was z.se z.he z.lo z.ma z.va z.sp z.dr z.pf z.ss z.on z.ro z.w z.i z.d z.k (f_Re_read z.r x)) x) := by unfold f_No_seeHearing; rw [if_pos c42, if_neg c48]
      exact hq_iret C hret hlk (Nat.le_of_ble_eq_true rfl) (Nat.le_of_ble_eq_true rfl) hL ⟨by rw [hf], by rw [hf]; exact k66, hq_Scall (hq_Scall (hq_S0) S43 (by omega) (by omega)) S65 (by omega) (by omega)⟩ d_No_seeHearing_46
  · intro c42
    refine lv_aload_n C.1 C.2.1 d_No_seeHearing_13 rfl (lv_at hl 1 rfl) ?_
    refine lv_iload_n C.1 C.2.1 d_No_seeHearing_14 rfl (lv_at hl 0 rfl) ?_
    refine hq_callV (lo := lo) (As := [.int ((f_Re_errorOf z.r x))]) (rest := []) C tb_good hml Y_No_159 (c_No_err l D cI cZ cN cJ lo (b) (by omega) z ((f_Re_errorOf z.r x))) kz.1 rfl (fun _ _ _ _ h => h) (fun U hU hW => by show NdP D cI cZ (b) z U.heap; rw [hU]; exact kz) hL hl.1 rfl rfl ⟨⟨Nat.le_of_ble_eq_true rfl, Nat.le_of_ble_eq_true rfl⟩, Nat.le_of_ble_eq_true rfl, Nat.le_of_ble_eq_true rfl⟩ (Nat.le_of_ble_eq_true rfl) d_No_seeHearing_15 (fun v H70 locs hp hL => ?_)
    obtain ⟨rfl, k69, S68⟩ := hp
    refine W.eq (g2 := F0 m 18 ls [.int ((f_No_err z ((f_Re_errorOf z.r x))).2)]) rfl ?_
    have hf : f_No_seeHearing z x = (f_No_err z ((f_Re_errorOf z.r x))) := by unfold f_No_seeHearing; rw [if_neg c42]
    exact hq_iret C hret hlk (Nat.le_of_ble_eq_true rfl) (Nat.le_of_ble_eq_true rfl) hL ⟨by rw [hf], by rw [hf]; exact k69, hq_Scall (hq_S0) S68 (by omega) (by omega)⟩ d_No_seeHearing_18
def f_No_seeInFlag (z : sNd) (x : Int32) : sNd × Int32 := if (z.ss + 1) < 6 then (if z.dr = 0 then (if x = 1 then (((f_No_countHeavily (sNd.mk z.st z.was z.se z.he z.lo z.ma z.va z.sp z.dr z.pf (z.ss + 1) z.on z.ro z.w z.i z.d z.k z.r)), 0)) else (((sNd.mk z.st z.was z.se z.he z.lo z.ma z.va z.sp z.dr z.pf (z.ss + 1) z.on z.ro z.w z.i z.d z.k z.r), 0))) else (((sNd.mk z.st z.was z.se z.he z.lo z.ma z.va z.sp z.dr z.pf (z.ss + 1) z.on z.ro z.w z.i z.d z.k z.r), 0))) else (if z.dr = 0 then (if x = 1 then (((f_No_countHeavily (sNd.mk 4 z.was z.se z.he z.lo z.ma z.va z.sp z.dr z.pf 0 0 z.ro z.w z.i z.d z.k z.r)), 0)) else (((sNd.mk 4 z.was z.se z.he z.lo z.ma z.va z.sp z.dr z.pf 0 0 z.ro z.w z.i z.d z.k z.r), 0))) else (((sNd.mk 4 z.was z.se z.he z.lo z.ma z.va z.sp z.dr z.pf 0 0 z.ro z.w z.i z.d z.k z.r), 0)))
set_option maxHeartbeats 4000000 in
set_option maxRecDepth 100000 in
theorem c_No_seeInFlag (l : Launch) (D : va_G) (cI cZ cN cJ : ClassId) (lo : Nat) (b : Nat) (hlo : lo ≤ b) (z : sNd) (x : Int32) : hq_M l y_No_seeInFlag b_No_seeInFlag 2 (some .int) TB { frames := 2, cells := 0, slots := 0, locals := 40 } lo D vwCl (TY cI cZ cN cJ) [.ref (b), .int (x)] (fun U => NdP D cI cZ b z U.heap) (fun H v H' => v = some (.int (f_No_seeInFlag z x).2) ∧ NdP D cI cZ b (f_No_seeInFlag z x).1 H' ∧ hq_S b 10 H H') := by
  refine hq_ofW (by decide) (Nat.le_of_ble_eq_true rfl) ?_
  intro p e s m below meth c ls C hml hret hlk hnm hl hP
  have hL : hq_L lo [] := hq_L0
  have hl : lv_has ls 2 [(0, .ref (b)), (1, .int (x))] := hl
  have kz := hP
  refine lv_aload_n C.1 C.2.1 d_No_seeInFlag_0 rfl (lv_at hl 0 rfl) ?_
  refine lv_dup C.1 C.2.1 d_No_seeInFlag_1 rfl ?_
  refine hq_get (v := .int (z.ss)) C f_No_74 kz.1 rfl d_No_seeInFlag_2 ?_
  refine lv_iconst (v := 1) C.1 C.2.1 d_No_seeInFlag_5 (by decide) ?_
  refine lv_iadd C.1 C.2.1 d_No_seeInFlag_6 ?_
  refine hq_put (lo := lo) C f_No_74 kz.1 rfl rfl (Nat.le_of_ble_eq_true rfl) hL (by omega) d_No_seeInFlag_7 (fun H41 locs u42 hL => ?_)
  have k43 : va_at D vwCl (b, .inr (3, [.ref (b + 1), .ref (b + 3), .ref (b + 5), .ref (b + 7), .ref (b + 9), .int (z.st), .int (z.was), .int (z.se), .int (z.he), .int (z.lo), .int (z.ma), .int (z.va), .int (z.sp), .int (z.dr), .int (z.pf), .int (z.ss + 1), .int (z.on), .int (z.ro)])) H41 := u42.2.2
  refine lv_aload_n C.1 C.2.1 d_No_seeInFlag_10 rfl (lv_at hl 0 rfl) ?_
  refine hq_get (v := .int (z.ss + 1)) C f_No_74 k43 rfl d_No_seeInFlag_11 ?_
  refine lv_bipush (v := 6) C.1 C.2.1 d_No_seeInFlag_14 (by decide) ?_
  refine lv_icmp_lt (tgt := 34) C.1 C.2.1 d_No_seeInFlag_16 (by decide) ?_ ?_
  · intro c44
    refine lv_aload_n C.1 C.2.1 d_No_seeInFlag_34 rfl (lv_at hl 0 rfl) ?_
    refine hq_get (v := .int (z.dr)) C f_No_67 k43 rfl d_No_seeInFlag_35 ?_
    refine lv_if_ne (tgt := 50) C.1 C.2.1 d_No_seeInFlag_38 (by decide) ?_ ?_
    · intro c45
      refine lv_iconst (v := 0) C.1 C.2.1 d_No_seeInFlag_50 (by decide) ?_
      have hf : f_No_seeInFlag z x = ((sNd.mk z.st z.was z.se z.he z.lo z.ma z.va z.sp z.dr z.pf (z.ss + 1) z.on z.ro z.w z.i z.d z.k z.r), 0) := by unfold f_No_seeInFlag; rw [if_pos c44, if_neg c45]
      have k46 := hq_au kz.2.1.1 u42 (by omega)
      have k47 := hq_au kz.2.1.2 u42 (by omega)
      have k48 := hq_au kz.2.2.1.1 u42 (by omega)
      have k49 := hq_au kz.2.2.1.2 u42 (by omega)
      have k50 := hq_au kz.2.2.2.1.1 u42 (by omega)
      have k51 := hq_au kz.2.2.2.1.2 u42 (by omega)
      have k52 := hq_au kz.2.2.2.2.1.1 u42 (by omega)
      have k53 := hq_au kz.2.2.2.2.1.2 u42 (by omega)
      have k54 := hq_au kz.2.2.2.2.2 u42 (by omega)
      exact hq_iret C hret hlk (Nat.le_of_ble_eq_true rfl) (Nat.le_of_ble_eq_true rfl) hL ⟨by rw [hf], by rw [hf]; exact ⟨k43, ⟨k46, k47⟩, ⟨k48, k49⟩, ⟨k50, k51⟩, ⟨k52, k53⟩, k54⟩, hq_Sput (hq_S0) u42 (by omega) (by omega)⟩ d_No_seeInFlag_51
    · intro c45
      refine lv_iload_n C.1 C.2.1 d_No_seeInFlag_41 rfl (lv_at hl 1 rfl) ?_
      refine lv_iconst (v := 1) C.1 C.2.1 d_No_seeInFlag_42 (by decide) ?_
      refine lv_icmp_ne (tgt := 50) C.1 C.2.1 d_No_seeInFlag_43 (by decide) ?_ ?_
      · intro c55
        refine lv_iconst (v := 0) C.1 C.2.1 d_No_seeInFlag_50 (by decide) ?_
        have hf : f_No_seeInFlag z x = ((sNd.mk z.st z.was z.se z.he z.lo z.ma z.va z.sp z.dr z.pf (z.ss + 1) z.on z.ro z.w z.i z.d z.k z.r), 0) := by unfold f_No_seeInFlag; rw [if_pos c44, if_pos c45, if_neg c55]
        have k56 := hq_au kz.2.1.1 u42 (by omega)
        have k57 := hq_au kz.2.1.2 u42 (by omega)
        have k58 := hq_au kz.2.2.1.1 u42 (by omega)
        have k59 := hq_au kz.2.2.1.2 u42 (by omega)
        have k60 := hq_au kz.2.2.2.1.1 u42 (by omega)
        have k61 := hq_au kz.2.2.2.1.2 u42 (by omega)
        have k62 := hq_au kz.2.2.2.2.1.1 u42 (by omega)
        have k63 := hq_au kz.2.2.2.2.1.2 u42 (by omega)
        have k64 := hq_au kz.2.2.2.2.2 u42 (by omega)
        exact hq_iret C hret hlk (Nat.le_of_ble_eq_true rfl) (Nat.le_of_ble_eq_true rfl) hL ⟨by rw [hf], by rw [hf]; exact ⟨k43, ⟨k56, k57⟩, ⟨k58, k59⟩, ⟨k60, k61⟩, ⟨k62, k63⟩, k64⟩, hq_Sput (hq_S0) u42 (by omega) (by omega)⟩ d_No_seeInFlag_51
      · intro c55
        refine lv_aload_n C.1 C.2.1 d_No_seeInFlag_46 rfl (lv_at hl 0 rfl) ?_
        have k65 := hq_au kz.2.1.1 u42 (by omega)
        have k66 := hq_au kz.2.1.2 u42 (by omega)
        have k67 := hq_au kz.2.2.1.1 u42 (by omega)
        have k68 := hq_au kz.2.2.1.2 u42 (by omega)
        have k69 := hq_au kz.2.2.2.1.1 u42 (by omega)
        have k70 := hq_au kz.2.2.2.1.2 u42 (by omega)
        have k71 := hq_au kz.2.2.2.2.1.1 u42 (by omega)
        have k72 := hq_au kz.2.2.2.2.1.2 u42 (by omega)
        have k73 := hq_au kz.2.2.2.2.2 u42 (by omega)
        refine hq_callV (lo := lo) (As := []) (rest := []) C tb_good hml Y_No_217 (c_No_countHeavily l D cI cZ cN cJ lo (b) (by omega) (sNd.mk z.st z.was z.se z.he z.lo z.ma z.va z.sp z.dr z.pf (z.ss + 1) z.on z.ro z.w z.i z.d z.k z.r)) k43 rfl (fun _ _ _ _ h => h) (fun U hU hW => by show NdP D cI cZ (b) (sNd.mk z.st z.was z.se z.he z.lo z.ma z.va z.sp z.dr z.pf (z.ss + 1) z.on z.ro z.w z.i z.d z.k z.r) U.heap; rw [hU]; exact ⟨k43, ⟨k65, k66⟩, ⟨k67, k68⟩, ⟨k69, k70⟩, ⟨k71, k72⟩, k73⟩) hL hl.1 rfl rfl ⟨⟨Nat.le_of_ble_eq_true rfl, Nat.le_of_ble_eq_true rfl⟩, Nat.le_of_ble_eq_true rfl, Nat.le_of_ble_eq_true rfl⟩ (Nat.le_of_ble_eq_true rfl) d_No_seeInFlag_47 (fun v H76 locs hp hL => ?_)
        obtain ⟨rfl, k75, S74⟩ := hp
        refine W.eq (g2 := F0 m 50 ls []) rfl ?_
        refine lv_iconst (v := 0) C.1 C.2.1 d_No_seeInFlag_50 (by decide) ?_
        have hf : f_No_seeInFlag z x = ((f_No_countHeavily (sNd.mk z.st z.was z.se z.he z.lo z.ma z.va z.sp z.dr z.pf (z.ss + 1) z.on z.ro z.w z.i z.d z.k z.r)), 0) := by unfold f_No_seeInFlag; rw [if_pos c44, if_pos c45, if_pos c55]
        exact hq_iret C hret hlk (Nat.le_of_ble_eq_true rfl) (Nat.le_of_ble_eq_true rfl) hL ⟨by rw [hf], by rw [hf]; exact k75, hq_Scall (hq_Sput (hq_S0) u42 (by omega) (by omega)) S74 (by omega) (by omega)⟩ d_No_seeInFlag_51
  · intro c44
    refine lv_aload_n C.1 C.2.1 d_No_seeInFlag_19 rfl (lv_at hl 0 rfl) ?_
    refine lv_iconst (v := 4) C.1 C.2.1 d_No_seeInFlag_20 (by decide) ?_
    refine hq_put (lo := lo) C f_No_42 k43 rfl rfl (Nat.le_of_ble_eq_true rfl) hL (by omega) d_No_seeInFlag_21 (fun H77 locs u78 hL => ?_)
    have k79 : va_at D vwCl (b, .inr (3, [.ref (b + 1), .ref (b + 3), .ref (b + 5), .ref (b + 7), .ref (b + 9), .int (4), .int (z.was), .int (z.se), .int (z.he), .int (z.lo), .int (z.ma), .int (z.va), .int (z.sp), .int (z.dr), .int (z.pf), .int (z.ss + 1), .int (z.on), .int (z.ro)])) H77 := u78.2.2
    refine lv_aload_n C.1 C.2.1 d_No_seeInFlag_24 rfl (lv_at hl 0 rfl) ?_
    refine lv_iconst (v := 0) C.1 C.2.1 d_No_seeInFlag_25 (by decide) ?_
    refine hq_put (lo := lo) C f_No_74 k79 rfl rfl (Nat.le_of_ble_eq_true rfl) hL (by omega) d_No_seeInFlag_26 (fun H80 locs u81 hL => ?_)
    have k82 : va_at D vwCl (b, .inr (3, [.ref (b + 1), .ref (b + 3), .ref (b + 5), .ref (b + 7), .ref (b + 9), .int (4), .int (z.was), .int (z.se), .int (z.he), .int (z.lo), .int (z.ma), .int (z.va), .int (z.sp), .int (z.dr), .int (z.pf), .int (0), .int (z.on), .int (z.ro)])) H80 := u81.2.2
    refine lv_aload_n C.1 C.2.1 d_No_seeInFlag_29 rfl (lv_at hl 0 rfl) ?_
    refine lv_iconst (v := 0) C.1 C.2.1 d_No_seeInFlag_30 (by decide) ?_
    refine hq_put (lo := lo) C f_No_77 k82 rfl rfl (Nat.le_of_ble_eq_true rfl) hL (by omega) d_No_seeInFlag_31 (fun H83 locs u84 hL => ?_)
    have k85 : va_at D vwCl (b, .inr (3, [.ref (b + 1), .ref (b + 3), .ref (b + 5), .ref (b + 7), .ref (b + 9), .int (4), .int (z.was), .int (z.se), .int (z.he), .int (z.lo), .int (z.ma), .int (z.va), .int (z.sp), .int (z.dr), .int (z.pf), .int (0), .int (0), .int (z.ro)])) H83 := u84.2.2
    refine lv_aload_n C.1 C.2.1 d_No_seeInFlag_34 rfl (lv_at hl 0 rfl) ?_
    refine hq_get (v := .int (z.dr)) C f_No_67 k85 rfl d_No_seeInFlag_35 ?_
    refine lv_if_ne (tgt := 50) C.1 C.2.1 d_No_seeInFlag_38 (by decide) ?_ ?_
    · intro c86
      refine lv_iconst (v := 0) C.1 C.2.1 d_No_seeInFlag_50 (by decide) ?_
      have hf : f_No_seeInFlag z x = ((sNd.mk 4 z.was z.se z.he z.lo z.ma z.va z.sp z.dr z.pf 0 0 z.ro z.w z.i z.d z.k z.r), 0) := by unfold f_No_seeInFlag; rw [if_neg c44, if_neg c86]
      have k87 := hq_au (hq_au (hq_au (hq_au kz.2.1.1 u42 (by omega)) u78 (by omega)) u81 (by omega)) u84 (by omega)
      have k88 := hq_au (hq_au (hq_au (hq_au kz.2.1.2 u42 (by omega)) u78 (by omega)) u81 (by omega)) u84 (by omega)
      have k89 := hq_au (hq_au (hq_au (hq_au kz.2.2.1.1 u42 (by omega)) u78 (by omega)) u81 (by omega)) u84 (by omega)
      have k90 := hq_au (hq_au (hq_au (hq_au kz.2.2.1.2 u42 (by omega)) u78 (by omega)) u81 (by omega)) u84 (by omega)
      have k91 := hq_au (hq_au (hq_au (hq_au kz.2.2.2.1.1 u42 (by omega)) u78 (by omega)) u81 (by omega)) u84 (by omega)
      have k92 := hq_au (hq_au (hq_au (hq_au kz.2.2.2.1.2 u42 (by omega)) u78 (by omega)) u81 (by omega)) u84 (by omega)
      have k93 := hq_au (hq_au (hq_au (hq_au kz.2.2.2.2.1.1 u42 (by omega)) u78 (by omega)) u81 (by omega)) u84 (by omega)
      have k94 := hq_au (hq_au (hq_au (hq_au kz.2.2.2.2.1.2 u42 (by omega)) u78 (by omega)) u81 (by omega)) u84 (by omega)
      have k95 := hq_au (hq_au (hq_au (hq_au kz.2.2.2.2.2 u42 (by omega)) u78 (by omega)) u81 (by omega)) u84 (by omega)
      exact hq_iret C hret hlk (Nat.le_of_ble_eq_true rfl) (Nat.le_of_ble_eq_true rfl) hL ⟨by rw [hf], by rw [hf]; exact ⟨k85, ⟨k87, k88⟩, ⟨k89, k90⟩, ⟨k91, k92⟩, ⟨k93, k94⟩, k95⟩, hq_Sput (hq_Sput (hq_Sput (hq_Sput (hq_S0) u42 (by omega) (by omega)) u78 (by omega) (by omega)) u81 (by omega) (by omega)) u84 (by omega) (by omega)⟩ d_No_seeInFlag_51
    · intro c86
      refine lv_iload_n C.1 C.2.1 d_No_seeInFlag_41 rfl (lv_at hl 1 rfl) ?_
      refine lv_iconst (v := 1) C.1 C.2.1 d_No_seeInFlag_42 (by decide) ?_
      refine lv_icmp_ne (tgt := 50) C.1 C.2.1 d_No_seeInFlag_43 (by decide) ?_ ?_
      · intro c96
        refine lv_iconst (v := 0) C.1 C.2.1 d_No_seeInFlag_50 (by decide) ?_
        have hf : f_No_seeInFlag z x = ((sNd.mk 4 z.was z.se z.he z.lo z.ma z.va z.sp z.dr z.pf 0 0 z.ro z.w z.i z.d z.k z.r), 0) := by unfold f_No_seeInFlag; rw [if_neg c44, if_pos c86, if_neg c96]
        have k97 := hq_au (hq_au (hq_au (hq_au kz.2.1.1 u42 (by omega)) u78 (by omega)) u81 (by omega)) u84 (by omega)
        have k98 := hq_au (hq_au (hq_au (hq_au kz.2.1.2 u42 (by omega)) u78 (by omega)) u81 (by omega)) u84 (by omega)
        have k99 := hq_au (hq_au (hq_au (hq_au kz.2.2.1.1 u42 (by omega)) u78 (by omega)) u81 (by omega)) u84 (by omega)
        have k100 := hq_au (hq_au (hq_au (hq_au kz.2.2.1.2 u42 (by omega)) u78 (by omega)) u81 (by omega)) u84 (by omega)
        have k101 := hq_au (hq_au (hq_au (hq_au kz.2.2.2.1.1 u42 (by omega)) u78 (by omega)) u81 (by omega)) u84 (by omega)
        have k102 := hq_au (hq_au (hq_au (hq_au kz.2.2.2.1.2 u42 (by omega)) u78 (by omega)) u81 (by omega)) u84 (by omega)
        have k103 := hq_au (hq_au (hq_au (hq_au kz.2.2.2.2.1.1 u42 (by omega)) u78 (by omega)) u81 (by omega)) u84 (by omega)
        have k104 := hq_au (hq_au (hq_au (hq_au kz.2.2.2.2.1.2 u42 (by omega)) u78 (by omega)) u81 (by omega)) u84 (by omega)
        have k105 := hq_au (hq_au (hq_au (hq_au kz.2.2.2.2.2 u42 (by omega)) u78 (by omega)) u81 (by omega)) u84 (by omega)
        exact hq_iret C hret hlk (Nat.le_of_ble_eq_true rfl) (Nat.le_of_ble_eq_true rfl) hL ⟨by rw [hf], by rw [hf]; exact ⟨k85, ⟨k97, k98⟩, ⟨k99, k100⟩, ⟨k101, k102⟩, ⟨k103, k104⟩, k105⟩, hq_Sput (hq_Sput (hq_Sput (hq_Sput (hq_S0) u42 (by omega) (by omega)) u78 (by omega) (by omega)) u81 (by omega) (by omega)) u84 (by omega) (by omega)⟩ d_No_seeInFlag_51
      · intro c96
        refine lv_aload_n C.1 C.2.1 d_No_seeInFlag_46 rfl (lv_at hl 0 rfl) ?_
        have k106 := hq_au (hq_au (hq_au (hq_au kz.2.1.1 u42 (by omega)) u78 (by omega)) u81 (by omega)) u84 (by omega)
        have k107 := hq_au (hq_au (hq_au (hq_au kz.2.1.2 u42 (by omega)) u78 (by omega)) u81 (by omega)) u84 (by omega)
        have k108 := hq_au (hq_au (hq_au (hq_au kz.2.2.1.1 u42 (by omega)) u78 (by omega)) u81 (by omega)) u84 (by omega)
        have k109 := hq_au (hq_au (hq_au (hq_au kz.2.2.1.2 u42 (by omega)) u78 (by omega)) u81 (by omega)) u84 (by omega)
        have k110 := hq_au (hq_au (hq_au (hq_au kz.2.2.2.1.1 u42 (by omega)) u78 (by omega)) u81 (by omega)) u84 (by omega)
        have k111 := hq_au (hq_au (hq_au (hq_au kz.2.2.2.1.2 u42 (by omega)) u78 (by omega)) u81 (by omega)) u84 (by omega)
        have k112 := hq_au (hq_au (hq_au (hq_au kz.2.2.2.2.1.1 u42 (by omega)) u78 (by omega)) u81 (by omega)) u84 (by omega)
        have k113 := hq_au (hq_au (hq_au (hq_au kz.2.2.2.2.1.2 u42 (by omega)) u78 (by omega)) u81 (by omega)) u84 (by omega)
        have k114 := hq_au (hq_au (hq_au (hq_au kz.2.2.2.2.2 u42 (by omega)) u78 (by omega)) u81 (by omega)) u84 (by omega)
        refine hq_callV (lo := lo) (As := []) (rest := []) C tb_good hml Y_No_217 (c_No_countHeavily l D cI cZ cN cJ lo (b) (by omega) (sNd.mk 4 z.was z.se z.he z.lo z.ma z.va z.sp z.dr z.pf 0 0 z.ro z.w z.i z.d z.k z.r)) k85 rfl (fun _ _ _ _ h => h) (fun U hU hW => by show NdP D cI cZ (b) (sNd.mk 4 z.was z.se z.he z.lo z.ma z.va z.sp z.dr z.pf 0 0 z.ro z.w z.i z.d z.k z.r) U.heap; rw [hU]; exact ⟨k85, ⟨k106, k107⟩, ⟨k108, k109⟩, ⟨k110, k111⟩, ⟨k112, k113⟩, k114⟩) hL hl.1 rfl rfl ⟨⟨Nat.le_of_ble_eq_true rfl, Nat.le_of_ble_eq_true rfl⟩, Nat.le_of_ble_eq_true rfl, Nat.le_of_ble_eq_true rfl⟩ (Nat.le_of_ble_eq_true rfl) d_No_seeInFlag_47 (fun v H117 locs hp hL => ?_)
        obtain ⟨rfl, k116, S115⟩ := hp
        refine W.eq (g2 := F0 m 50 ls []) rfl ?_
        refine lv_iconst (v := 0) C.1 C.2.1 d_No_seeInFlag_50 (by decide) ?_
        have hf : f_No_seeInFlag z x = ((f_No_countHeavily (sNd.mk 4 z.was z.se z.he z.lo z.ma z.va z.sp z.dr z.pf 0 0 z.ro z.w z.i z.d z.k z.r)), 0) := by unfold f_No_seeInFlag; rw [if_neg c44, if_pos c86, if_pos c96]
        exact hq_iret C hret hlk (Nat.le_of_ble_eq_true rfl) (Nat.le_of_ble_eq_true rfl) hL ⟨by rw [hf], by rw [hf]; exact k116, hq_Scall (hq_Sput (hq_Sput (hq_Sput (hq_Sput (hq_S0) u42 (by omega) (by omega)) u78 (by omega) (by omega)) u81 (by omega) (by omega)) u84 (by omega) (by omega)) S115 (by omega) (by omega)⟩ d_No_seeInFlag_51
def f_No_seeAfter (z : sNd) (x : Int32) : sNd × Int32 := if x = 1 then (if (z.on + 1) < 8 then (((sNd.mk z.st z.was z.se z.he z.lo z.ma z.va z.sp z.dr z.pf z.ss (z.on + 1) z.ro z.w z.i z.d z.k z.r), 0)) else (((f_No_beginPause (sNd.mk z.st z.was z.se z.he z.lo z.ma z.va z.sp z.dr z.pf z.ss (z.on + 1) z.ro z.w z.i z.d z.k z.r)), 0))) else (if z.on ≤ 0 then (if (z.ss + 1) = 1 then (if z.was = 2 then (if ((z.ss + 1) - (z.ss + 1) / 8 * 8) = 0 then (((f_No_countHeavily (sNd.mk z.st z.was z.se (z.he + 8) z.lo z.ma z.va z.sp z.dr z.pf (z.ss + 1) z.on z.ro z.w z.i z.d z.k z.r)), 0)) else (((sNd.mk z.st z.was z.se (z.he + 8) z.lo z.ma z.va z.sp z.dr z.pf (z.ss + 1) z.on z.ro z.w z.i z.d z.k z.r), 0))) else (if ((z.ss + 1) - (z.ss + 1) / 8 * 8) = 0 then (((f_No_countHeavily (sNd.mk z.st z.was z.se z.he z.lo z.ma z.va z.sp z.dr z.pf (z.ss + 1) z.on z.ro z.w z.i z.d z.k z.r)), 0)) else (((sNd.mk z.st z.was z.se z.he z.lo z.ma z.va z.sp z.dr z.pf (z.ss + 1) z.on z.ro z.w z.i z.d z.k z.r), 0)))) else (if ((z.ss + 1) - (z.ss + 1) / 8 * 8) = 0 then (((f_No_countHeavily (sNd.mk z.st z.was z.se z.he z.lo z.ma z.va z.sp z.dr z.pf (z.ss + 1) z.on z.ro z.w z.i z.d z.k z.r)), 0)) else (((sNd.mk z.st z.was z.se z.he z.lo z.ma z.va z.sp z.dr z.pf (z.ss + 1) z.on z.ro z.w z.i z.d z.k z.r), 0)))) else (if z.was = 0 then ((f_No_overload z)) else ((f_No_err z 4))))
set_option maxHeartbeats 4000000 in
set_option maxRecDepth 100000 in
theorem c_No_seeAfter (l : Launch) (D : va_G) (cI cZ cN cJ : ClassId) (lo : Nat) (b : Nat) (hlo : lo ≤ b) (z : sNd) (x : Int32) : hq_M l y_No_seeAfter b_No_seeAfter 2 (some .int) TB { frames := 2, cells := 0, slots := 0, locals := 43 } lo D vwCl (TY cI cZ cN cJ) [.ref (b), .int (x)] (fun U => NdP D cI cZ b z U.heap) (fun H v H' => v = some (.int (f_No_seeAfter z x).2) ∧ NdP D cI cZ b (f_No_seeAfter z x).1 H' ∧ hq_S b 10 H H') := by
  refine hq_ofW (by decide) (Nat.le_of_ble_eq_true rfl) ?_
  intro p e s m below meth c ls C hml hret hlk hnm hl hP
  have hL : hq_L lo [] := hq_L0
  have hl : lv_has ls 2 [(0, .ref (b)), (1, .int (x))] := hl
  have kz := hP
  refine lv_iload_n C.1 C.2.1 d_No_seeAfter_0 rfl (lv_at hl 1 rfl) ?_
  refine lv_iconst (v := 1) C.1 C.2.1 d_No_seeAfter_1 (by decide) ?_
  refine lv_icmp_ne (tgt := 30) C.1 C.2.1 d_No_seeAfter_2 (by decide) ?_ ?_
  · intro c41
    refine lv_aload_n C.1 C.2.1 d_No_seeAfter_30 rfl (lv_at hl 0 rfl) ?_
    refine hq_get (v := .int (z.on)) C f_No_77 kz.1 rfl d_No_seeAfter_31 ?_
    refine lv_if_le (tgt := 57) C.1 C.2.1 d_No_seeAfter_34 (by decide) ?_ ?_
    · intro c42
      refine lv_aload_n C.1 C.2.1 d_No_seeAfter_57 rfl (lv_at hl 0 rfl) ?_
      refine lv_dup C.1 C.2.1 d_No_seeAfter_58 rfl ?_
      refine hq_get (v := .int (z.ss)) C f_No_74 kz.1 rfl d_No_seeAfter_59 ?_
      refine lv_iconst (v := 1) C.1 C.2.1 d_No_seeAfter_62 (by decide) ?_
      refine lv_iadd C.1 C.2.1 d_No_seeAfter_63 ?_
      refine hq_put (lo := lo) C f_No_74 kz.1 rfl rfl (Nat.le_of_ble_eq_true rfl) hL (by omega) d_No_seeAfter_64 (fun H43 locs u44 hL => ?_)
      have k45 : va_at D vwCl (b, .inr (3, [.ref (b + 1), .ref (b + 3), .ref (b + 5), .ref (b + 7), .ref (b + 9), .int (z.st), .int (z.was), .int (z.se), .int (z.he), .int (z.lo), .int (z.ma), .int (z.va), .int (z.sp), .int (z.dr), .int (z.pf), .int (z.ss + 1), .int (z.on), .int (z.ro)])) H43 := u44.2.2
      refine lv_aload_n C.1 C.2.1 d_No_seeAfter_67 rfl (lv_at hl 0 rfl) ?_
      refine hq_get (v := .int (z.ss + 1)) C f_No_74 k45 rfl d_No_seeAfter_68 ?_
      refine lv_iconst (v := 1) C.1 C.2.1 d_No_seeAfter_71 (by decide) ?_
      refine lv_icmp_ne (tgt := 94) C.1 C.2.1 d_No_seeAfter_72 (by decide) ?_ ?_
      · intro c46
        refine lv_aload_n C.1 C.2.1 d_No_seeAfter_94 rfl (lv_at hl 0 rfl) ?_
        refine hq_get (v := .int (z.ss + 1)) C f_No_74 k45 rfl d_No_seeAfter_95 ?_
        refine lv_bipush (v := 8) C.1 C.2.1 d_No_seeAfter_98 (by decide) ?_
        refine lv_irem C.1 C.2.1 d_No_seeAfter_100 (by decide) ?_
        refine lv_if_ne (tgt := 108) C.1 C.2.1 d_No_seeAfter_101 (by decide) ?_ ?_
        · intro c47
          refine lv_iconst (v := 0) C.1 C.2.1 d_No_seeAfter_108 (by decide) ?_
          have hf : f_No_seeAfter z x = ((sNd.mk z.st z.was z.se z.he z.lo z.ma z.va z.sp z.dr z.pf (z.ss + 1) z.on z.ro z.w z.i z.d z.k z.r), 0) := by unfold f_No_seeAfter; rw [if_neg c41, if_pos c42, if_neg c46, if_neg c47]
          have k48 := hq_au kz.2.1.1 u44 (by omega)
          have k49 := hq_au kz.2.1.2 u44 (by omega)
          have k50 := hq_au kz.2.2.1.1 u44 (by omega)
          have k51 := hq_au kz.2.2.1.2 u44 (by omega)
          have k52 := hq_au kz.2.2.2.1.1 u44 (by omega)
          have k53 := hq_au kz.2.2.2.1.2 u44 (by omega)
          have k54 := hq_au kz.2.2.2.2.1.1 u44 (by omega)
          have k55 := hq_au kz.2.2.2.2.1.2 u44 (by omega)
          have k56 := hq_au kz.2.2.2.2.2 u44 (by omega)
          exact hq_iret C hret hlk (Nat.le_of_ble_eq_true rfl) (Nat.le_of_ble_eq_true rfl) hL ⟨by rw [hf], by rw [hf]; exact ⟨k45, ⟨k48, k49⟩, ⟨k50, k51⟩, ⟨k52, k53⟩, ⟨k54, k55⟩, k56⟩, hq_Sput (hq_S0) u44 (by omega) (by omega)⟩ d_No_seeAfter_109
        · intro c47
          refine lv_aload_n C.1 C.2.1 d_No_seeAfter_104 rfl (lv_at hl 0 rfl) ?_
          have k57 := hq_au kz.2.1.1 u44 (by omega)
          have k58 := hq_au kz.2.1.2 u44 (by omega)
          have k59 := hq_au kz.2.2.1.1 u44 (by omega)
          have k60 := hq_au kz.2.2.1.2 u44 (by omega)
          have k61 := hq_au kz.2.2.2.1.1 u44 (by omega)
          have k62 := hq_au kz.2.2.2.1.2 u44 (by omega)
          have k63 := hq_au kz.2.2.2.2.1.1 u44 (by omega)
          have k64 := hq_au kz.2.2.2.2.1.2 u44 (by omega)
          have k65 := hq_au kz.2.2.2.2.2 u44 (by omega)
          refine hq_callV (lo := lo) (As := []) (rest := []) C tb_good hml Y_No_217 (c_No_countHeavily l D cI cZ cN cJ lo (b) (by omega) (sNd.mk z.st z.was z.se z.he z.lo z.ma z.va z.sp z.dr z.pf (z.ss + 1) z.on z.ro z.w z.i z.d z.k z.r)) k45 rfl (fun _ _ _ _ h => h) (fun U hU hW => by show NdP D cI cZ (b) (sNd.mk z.st z.was z.se z.he z.lo z.ma z.va z.sp z.dr z.pf (z.ss + 1) z.on z.ro z.w z.i z.d z.k z.r) U.heap; rw [hU]; exact ⟨k45, ⟨k57, k58⟩, ⟨k59, k60⟩, ⟨k61, k62⟩, ⟨k63, k64⟩, k65⟩) hL hl.1 rfl rfl ⟨⟨Nat.le_of_ble_eq_true rfl, Nat.le_of_ble_eq_true rfl⟩, Nat.le_of_ble_eq_true rfl, Nat.le_of_ble_eq_true rfl⟩ (Nat.le_of_ble_eq_true rfl) d_No_seeAfter_105 (fun v H68 locs hp hL => ?_)
          obtain ⟨rfl, k67, S66⟩ := hp
          refine W.eq (g2 := F0 m 108 ls []) rfl ?_
          refine lv_iconst (v := 0) C.1 C.2.1 d_No_seeAfter_108 (by decide) ?_
          have hf : f_No_seeAfter z x = ((f_No_countHeavily (sNd.mk z.st z.was z.se z.he z.lo z.ma z.va z.sp z.dr z.pf (z.ss + 1) z.on z.ro z.w z.i z.d z.k z.r)), 0) := by unfold f_No_seeAfter; rw [if_neg c41, if_pos c42, if_neg c46, if_pos c47]
          exact hq_iret C hret hlk (Nat.le_of_ble_eq_true rfl) (Nat.le_of_ble_eq_true rfl) hL ⟨by rw [hf], by rw [hf]; exact k67, hq_Scall (hq_Sput (hq_S0) u44 (by omega) (by omega)) S66 (by omega) (by omega)⟩ d_No_seeAfter_109
      · intro c46
        refine lv_aload_n C.1 C.2.1 d_No_seeAfter_75 rfl (lv_at hl 0 rfl) ?_
        refine hq_get (v := .int (z.was)) C f_No_46 k45 rfl d_No_seeAfter_76 ?_
        refine lv_iconst (v := 2) C.1 C.2.1 d_No_seeAfter_79 (by decide) ?_
        refine lv_icmp_ne (tgt := 94) C.1 C.2.1 d_No_seeAfter_80 (by decide) ?_ ?_
        · intro c69
          refine lv_aload_n C.1 C.2.1 d_No_seeAfter_94 rfl (lv_at hl 0 rfl) ?_
          refine hq_get (v := .int (z.ss + 1)) C f_No_74 k45 rfl d_No_seeAfter_95 ?_
          refine lv_bipush (v := 8) C.1 C.2.1 d_No_seeAfter_98 (by decide) ?_
          refine lv_irem C.1 C.2.1 d_No_seeAfter_100 (by decide) ?_
          refine lv_if_ne (tgt := 108) C.1 C.2.1 d_No_seeAfter_101 (by decide) ?_ ?_
          · intro c70
            refine lv_iconst (v := 0) C.1 C.2.1 d_No_seeAfter_108 (by decide) ?_
            have hf : f_No_seeAfter z x = ((sNd.mk z.st z.was z.se z.he z.lo z.ma z.va z.sp z.dr z.pf (z.ss + 1) z.on z.ro z.w z.i z.d z.k z.r), 0) := by unfold f_No_seeAfter; rw [if_neg c41, if_pos c42, if_pos c46, if_neg c69, if_neg c70]
            have k71 := hq_au kz.2.1.1 u44 (by omega)
            have k72 := hq_au kz.2.1.2 u44 (by omega)
            have k73 := hq_au kz.2.2.1.1 u44 (by omega)
            have k74 := hq_au kz.2.2.1.2 u44 (by omega)
            have k75 := hq_au kz.2.2.2.1.1 u44 (by omega)
            have k76 := hq_au kz.2.2.2.1.2 u44 (by omega)
            have k77 := hq_au kz.2.2.2.2.1.1 u44 (by omega)
            have k78 := hq_au kz.2.2.2.2.1.2 u44 (by omega)
            have k79 := hq_au kz.2.2.2.2.2 u44 (by omega)
            exact hq_iret C hret hlk (Nat.le_of_ble_eq_true rfl) (Nat.le_of_ble_eq_true rfl) hL ⟨by rw [hf], by rw [hf]; exact ⟨k45, ⟨k71, k72⟩, ⟨k73, k74⟩, ⟨k75, k76⟩, ⟨k77, k78⟩, k79⟩, hq_Sput (hq_S0) u44 (by omega) (by omega)⟩ d_No_seeAfter_109
          · intro c70
            refine lv_aload_n C.1 C.2.1 d_No_seeAfter_104 rfl (lv_at hl 0 rfl) ?_
            have k80 := hq_au kz.2.1.1 u44 (by omega)
            have k81 := hq_au kz.2.1.2 u44 (by omega)
            have k82 := hq_au kz.2.2.1.1 u44 (by omega)
            have k83 := hq_au kz.2.2.1.2 u44 (by omega)
            have k84 := hq_au kz.2.2.2.1.1 u44 (by omega)
            have k85 := hq_au kz.2.2.2.1.2 u44 (by omega)
            have k86 := hq_au kz.2.2.2.2.1.1 u44 (by omega)
            have k87 := hq_au kz.2.2.2.2.1.2 u44 (by omega)
            have k88 := hq_au kz.2.2.2.2.2 u44 (by omega)
            refine hq_callV (lo := lo) (As := []) (rest := []) C tb_good hml Y_No_217 (c_No_countHeavily l D cI cZ cN cJ lo (b) (by omega) (sNd.mk z.st z.was z.se z.he z.lo z.ma z.va z.sp z.dr z.pf (z.ss + 1) z.on z.ro z.w z.i z.d z.k z.r)) k45 rfl (fun _ _ _ _ h => h) (fun U hU hW => by show NdP D cI cZ (b) (sNd.mk z.st z.was z.se z.he z.lo z.ma z.va z.sp z.dr z.pf (z.ss + 1) z.on z.ro z.w z.i z.d z.k z.r) U.heap; rw [hU]; exact ⟨k45, ⟨k80, k81⟩, ⟨k82, k83⟩, ⟨k84, k85⟩, ⟨k86, k87⟩, k88⟩) hL hl.1 rfl rfl ⟨⟨Nat.le_of_ble_eq_true rfl, Nat.le_of_ble_eq_true rfl⟩, Nat.le_of_ble_eq_true rfl, Nat.le_of_ble_eq_true rfl⟩ (Nat.le_of_ble_eq_true rfl) d_No_seeAfter_105 (fun v H91 locs hp hL => ?_)
            obtain ⟨rfl, k90, S89⟩ := hp
            refine W.eq (g2 := F0 m 108 ls []) rfl ?_
            refine lv_iconst (v := 0) C.1 C.2.1 d_No_seeAfter_108 (by decide) ?_
            have hf : f_No_seeAfter z x = ((f_No_countHeavily (sNd.mk z.st z.was z.se z.he z.lo z.ma z.va z.sp z.dr z.pf (z.ss + 1) z.on z.ro z.w z.i z.d z.k z.r)), 0) := by unfold f_No_seeAfter; rw [if_neg c41, if_pos c42, if_pos c46, if_neg c69, if_pos c70]
            exact hq_iret C hret hlk (Nat.le_of_ble_eq_true rfl) (Nat.le_of_ble_eq_true rfl) hL ⟨by rw [hf], by rw [hf]; exact k90, hq_Scall (hq_Sput (hq_S0) u44 (by omega) (by omega)) S89 (by omega) (by omega)⟩ d_No_seeAfter_109
        · intro c69
          refine lv_aload_n C.1 C.2.1 d_No_seeAfter_83 rfl (lv_at hl 0 rfl) ?_
          refine lv_dup C.1 C.2.1 d_No_seeAfter_84 rfl ?_
          refine hq_get (v := .int (z.he)) C f_No_52 k45 rfl d_No_seeAfter_85 ?_
          refine lv_bipush (v := 8) C.1 C.2.1 d_No_seeAfter_88 (by decide) ?_
          refine lv_iadd C.1 C.2.1 d_No_seeAfter_90 ?_
          refine hq_put (lo := lo) C f_No_52 k45 rfl rfl (Nat.le_of_ble_eq_true rfl) hL (by omega) d_No_seeAfter_91 (fun H92 locs u93 hL => ?_)
          have k94 : va_at D vwCl (b, .inr (3, [.ref (b + 1), .ref (b + 3), .ref (b + 5), .ref (b + 7), .ref (b + 9), .int (z.st), .int (z.was), .int (z.se), .int (z.he + 8), .int (z.lo), .int (z.ma), .int (z.va), .int (z.sp), .int (z.dr), .int (z.pf), .int (z.ss + 1), .int (z.on), .int (z.ro)])) H92 := u93.2.2
          refine lv_aload_n C.1 C.2.1 d_No_seeAfter_94 rfl (lv_at hl 0 rfl) ?_
          refine hq_get (v := .int (z.ss + 1)) C f_No_74 k94 rfl d_No_seeAfter_95 ?_
          refine lv_bipush (v := 8) C.1 C.2.1 d_No_seeAfter_98 (by decide) ?_
          refine lv_irem C.1 C.2.1 d_No_seeAfter_100 (by decide) ?_
          refine lv_if_ne (tgt := 108) C.1 C.2.1 d_No_seeAfter_101 (by decide) ?_ ?_
          · intro c95
            refine lv_iconst (v := 0) C.1 C.2.1 d_No_seeAfter_108 (by decide) ?_
            have hf : f_No_seeAfter z x = ((sNd.mk z.st z.was z.se (z.he + 8) z.lo z.ma z.va z.sp z.dr z.pf (z.ss + 1) z.on z.ro z.w z.i z.d z.k z.r), 0) := by unfold f_No_seeAfter; rw [if_neg c41, if_pos c42, if_pos c46, if_pos c69, if_neg c95]
            have k96 := hq_au (hq_au kz.2.1.1 u44 (by omega)) u93 (by omega)
            have k97 := hq_au (hq_au kz.2.1.2 u44 (by omega)) u93 (by omega)
            have k98 := hq_au (hq_au kz.2.2.1.1 u44 (by omega)) u93 (by omega)
            have k99 := hq_au (hq_au kz.2.2.1.2 u44 (by omega)) u93 (by omega)
            have k100 := hq_au (hq_au kz.2.2.2.1.1 u44 (by omega)) u93 (by omega)
            have k101 := hq_au (hq_au kz.2.2.2.1.2 u44 (by omega)) u93 (by omega)
            have k102 := hq_au (hq_au kz.2.2.2.2.1.1 u44 (by omega)) u93 (by omega)
            have k103 := hq_au (hq_au kz.2.2.2.2.1.2 u44 (by omega)) u93 (by omega)
            have k104 := hq_au (hq_au kz.2.2.2.2.2 u44 (by omega)) u93 (by omega)
            exact hq_iret C hret hlk (Nat.le_of_ble_eq_true rfl) (Nat.le_of_ble_eq_true rfl) hL ⟨by rw [hf], by rw [hf]; exact ⟨k94, ⟨k96, k97⟩, ⟨k98, k99⟩, ⟨k100, k101⟩, ⟨k102, k103⟩, k104⟩, hq_Sput (hq_Sput (hq_S0) u44 (by omega) (by omega)) u93 (by omega) (by omega)⟩ d_No_seeAfter_109
          · intro c95
            refine lv_aload_n C.1 C.2.1 d_No_seeAfter_104 rfl (lv_at hl 0 rfl) ?_
            have k105 := hq_au (hq_au kz.2.1.1 u44 (by omega)) u93 (by omega)
            have k106 := hq_au (hq_au kz.2.1.2 u44 (by omega)) u93 (by omega)
            have k107 := hq_au (hq_au kz.2.2.1.1 u44 (by omega)) u93 (by omega)
            have k108 := hq_au (hq_au kz.2.2.1.2 u44 (by omega)) u93 (by omega)
            have k109 := hq_au (hq_au kz.2.2.2.1.1 u44 (by omega)) u93 (by omega)
            have k110 := hq_au (hq_au kz.2.2.2.1.2 u44 (by omega)) u93 (by omega)
            have k111 := hq_au (hq_au kz.2.2.2.2.1.1 u44 (by omega)) u93 (by omega)
            have k112 := hq_au (hq_au kz.2.2.2.2.1.2 u44 (by omega)) u93 (by omega)
            have k113 := hq_au (hq_au kz.2.2.2.2.2 u44 (by omega)) u93 (by omega)
            refine hq_callV (lo := lo) (As := []) (rest := []) C tb_good hml Y_No_217 (c_No_countHeavily l D cI cZ cN cJ lo (b) (by omega) (sNd.mk z.st z.was z.se (z.he + 8) z.lo z.ma z.va z.sp z.dr z.pf (z.ss + 1) z.on z.ro z.w z.i z.d z.k z.r)) k94 rfl (fun _ _ _ _ h => h) (fun U hU hW => by show NdP D cI cZ (b) (sNd.mk z.st z.was z.se (z.he + 8) z.lo z.ma z.va z.sp z.dr z.pf (z.ss + 1) z.on z.ro z.w z.i z.d z.k z.r) U.heap; rw [hU]; exact ⟨k94, ⟨k105, k106⟩, ⟨k107, k108⟩, ⟨k109, k110⟩, ⟨k111, k112⟩, k113⟩) hL hl.1 rfl rfl ⟨⟨Nat.le_of_ble_eq_true rfl, Nat.le_of_ble_eq_true rfl⟩, Nat.le_of_ble_eq_true rfl, Nat.le_of_ble_eq_true rfl⟩ (Nat.le_of_ble_eq_true rfl) d_No_seeAfter_105 (fun v H116 locs hp hL => ?_)
            obtain ⟨rfl, k115, S114⟩ := hp
            refine W.eq (g2 := F0 m 108 ls []) rfl ?_
            refine lv_iconst (v := 0) C.1 C.2.1 d_No_seeAfter_108 (by decide) ?_
            have hf : f_No_seeAfter z x = ((f_No_countHeavily (sNd.mk z.st z.was z.se (z.he + 8) z.lo z.ma z.va z.sp z.dr z.pf (z.ss + 1) z.on z.ro z.w z.i z.d z.k z.r)), 0) := by unfold f_No_seeAfter; rw [if_neg c41, if_pos c42, if_pos c46, if_pos c69, if_pos c95]
            exact hq_iret C hret hlk (Nat.le_of_ble_eq_true rfl) (Nat.le_of_ble_eq_true rfl) hL ⟨by rw [hf], by rw [hf]; exact k115, hq_Scall (hq_Sput (hq_Sput (hq_S0) u44 (by omega) (by omega)) u93 (by omega) (by omega)) S114 (by omega) (by omega)⟩ d_No_seeAfter_109
    · intro c42
      refine lv_aload_n C.1 C.2.1 d_No_seeAfter_37 rfl (lv_at hl 0 rfl) ?_
      refine hq_get (v := .int (z.was)) C f_No_46 kz.1 rfl d_No_seeAfter_38 ?_
      refine lv_if_ne (tgt := 51) C.1 C.2.1 d_No_seeAfter_41 (by decide) ?_ ?_
      · intro c117
        refine lv_aload_n C.1 C.2.1 d_No_seeAfter_51 rfl (lv_at hl 0 rfl) ?_
        refine lv_iconst (v := 4) C.1 C.2.1 d_No_seeAfter_52 (by decide) ?_
        refine hq_callV (lo := lo) (As := [.int (4)]) (rest := []) C tb_good hml Y_No_159 (c_No_err l D cI cZ cN cJ lo (b) (by omega) z 4) kz.1 rfl (fun _ _ _ _ h => h) (fun U hU hW => by show NdP D cI cZ (b) z U.heap; rw [hU]; exact kz) hL hl.1 rfl rfl ⟨⟨Nat.le_of_ble_eq_true rfl, Nat.le_of_ble_eq_true rfl⟩, Nat.le_of_ble_eq_true rfl, Nat.le_of_ble_eq_true rfl⟩ (Nat.le_of_ble_eq_true rfl) d_No_seeAfter_53 (fun v H120 locs hp hL => ?_)
        obtain ⟨rfl, k119, S118⟩ := hp
        refine W.eq (g2 := F0 m 56 ls [.int ((f_No_err z 4).2)]) rfl ?_
        have hf : f_No_seeAfter z x = (f_No_err z 4) := by unfold f_No_seeAfter; rw [if_neg c41, if_neg c42, if_neg c117]
        exact hq_iret C hret hlk (Nat.le_of_ble_eq_true rfl) (Nat.le_of_ble_eq_true rfl) hL ⟨by rw [hf], by rw [hf]; exact k119, hq_Scall (hq_S0) S118 (by omega) (by omega)⟩ d_No_seeAfter_56
      · intro c117
        refine lv_aload_n C.1 C.2.1 d_No_seeAfter_44 rfl (lv_at hl 0 rfl) ?_
        refine hq_callV (lo := lo) (As := []) (rest := []) C tb_good hml Y_No_198 (c_No_overload l D cI cZ cN cJ lo (b) (by omega) z) kz.1 rfl (fun _ _ _ _ h => h) (fun U hU hW => by show NdP D cI cZ (b) z U.heap; rw [hU]; exact kz) hL hl.1 rfl rfl ⟨⟨Nat.le_of_ble_eq_true rfl, Nat.le_of_ble_eq_true rfl⟩, Nat.le_of_ble_eq_true rfl, Nat.le_of_ble_eq_true rfl⟩ (Nat.le_of_ble_eq_true rfl) d_No_seeAfter_45 (fun v H123 locs hp hL => ?_)
        obtain ⟨rfl, k122, S121⟩ := hp
        refine W.eq (g2 := F0 m 48 ls [.int ((f_No_overload z).2)]) rfl ?_
        refine lv_goto (tgt := 56) C.1 C.2.1 d_No_seeAfter_48 (by decide) ?_
        have hf : f_No_seeAfter z x = (f_No_overload z) := by unfold f_No_seeAfter; rw [if_neg c41, if_neg c42, if_pos c117]
        exact hq_iret C hret hlk (Nat.le_of_ble_eq_true rfl) (Nat.le_of_ble_eq_true rfl) hL ⟨by rw [hf], by rw [hf]; exact k122, hq_Scall (hq_S0) S121 (by omega) (by omega)⟩ d_No_seeAfter_56
  · intro c41
    refine lv_aload_n C.1 C.2.1 d_No_seeAfter_5 rfl (lv_at hl 0 rfl) ?_
    refine lv_dup C.1 C.2.1 d_No_seeAfter_6 rfl ?_
    refine hq_get (v := .int (z.on)) C f_No_77 kz.1 rfl d_No_seeAfter_7 ?_
    refine lv_iconst (v := 1) C.1 C.2.1 d_No_seeAfter_10 (by decide) ?_
    refine lv_iadd C.1 C.2.1 d_No_seeAfter_11 ?_
    refine hq_put (lo := lo) C f_No_77 kz.1 rfl rfl (Nat.le_of_ble_eq_true rfl) hL (by omega) d_No_seeAfter_12 (fun H124 locs u125 hL => ?_)
    have k126 : va_at D vwCl (b, .inr (3, [.ref (b + 1), .ref (b + 3), .ref (b + 5), .ref (b + 7), .ref (b + 9), .int (z.st), .int (z.was), .int (z.se), .int (z.he), .int (z.lo), .int (z.ma), .int (z.va), .int (z.sp), .int (z.dr), .int (z.pf), .int (z.ss), .int (z.on + 1), .int (z.ro)])) H124 := u125.2.2
    refine lv_aload_n C.1 C.2.1 d_No_seeAfter_15 rfl (lv_at hl 0 rfl) ?_
    refine hq_get (v := .int (z.on + 1)) C f_No_77 k126 rfl d_No_seeAfter_16 ?_
    refine lv_bipush (v := 8) C.1 C.2.1 d_No_seeAfter_19 (by decide) ?_
    refine lv_icmp_lt (tgt := 28) C.1 C.2.1 d_No_seeAfter_21 (by decide) ?_ ?_
    · intro c127
      refine lv_iconst (v := 0) C.1 C.2.1 d_No_seeAfter_28 (by decide) ?_
      have hf : f_No_seeAfter z x = ((sNd.mk z.st z.was z.se z.he z.lo z.ma z.va z.sp z.dr z.pf z.ss (z.on + 1) z.ro z.w z.i z.d z.k z.r), 0) := by unfold f_No_seeAfter; rw [if_pos c41, if_pos c127]
      have k128 := hq_au kz.2.1.1 u125 (by omega)
      have k129 := hq_au kz.2.1.2 u125 (by omega)
      have k130 := hq_au kz.2.2.1.1 u125 (by omega)
      have k131 := hq_au kz.2.2.1.2 u125 (by omega)
      have k132 := hq_au kz.2.2.2.1.1 u125 (by omega)
      have k133 := hq_au kz.2.2.2.1.2 u125 (by omega)
      have k134 := hq_au kz.2.2.2.2.1.1 u125 (by omega)
      have k135 := hq_au kz.2.2.2.2.1.2 u125 (by omega)
      have k136 := hq_au kz.2.2.2.2.2 u125 (by omega)
      exact hq_iret C hret hlk (Nat.le_of_ble_eq_true rfl) (Nat.le_of_ble_eq_true rfl) hL ⟨by rw [hf], by rw [hf]; exact ⟨k126, ⟨k128, k129⟩, ⟨k130, k131⟩, ⟨k132, k133⟩, ⟨k134, k135⟩, k136⟩, hq_Sput (hq_S0) u125 (by omega) (by omega)⟩ d_No_seeAfter_29
    · intro c127
      refine lv_aload_n C.1 C.2.1 d_No_seeAfter_24 rfl (lv_at hl 0 rfl) ?_
      have k137 := hq_au kz.2.1.1 u125 (by omega)
      have k138 := hq_au kz.2.1.2 u125 (by omega)
      have k139 := hq_au kz.2.2.1.1 u125 (by omega)
      have k140 := hq_au kz.2.2.1.2 u125 (by omega)
      have k141 := hq_au kz.2.2.2.1.1 u125 (by omega)
      have k142 := hq_au kz.2.2.2.1.2 u125 (by omega)
      have k143 := hq_au kz.2.2.2.2.1.1 u125 (by omega)
      have k144 := hq_au kz.2.2.2.2.1.2 u125 (by omega)
      have k145 := hq_au kz.2.2.2.2.2 u125 (by omega)
      refine hq_callV (lo := lo) (As := []) (rest := []) C tb_good hml Y_No_174 (c_No_beginPause l D cI cZ cN cJ lo (b) (by omega) (sNd.mk z.st z.was z.se z.he z.lo z.ma z.va z.sp z.dr z.pf z.ss (z.on + 1) z.ro z.w z.i z.d z.k z.r)) k126 rfl (fun _ _ _ _ h => h) (fun U hU hW => by show NdP D cI cZ (b) (sNd.mk z.st z.was z.se z.he z.lo z.ma z.va z.sp z.dr z.pf z.ss (z.on + 1) z.ro z.w z.i z.d z.k z.r) U.heap; rw [hU]; exact ⟨k126, ⟨k137, k138⟩, ⟨k139, k140⟩, ⟨k141, k142⟩, ⟨k143, k144⟩, k145⟩) hL hl.1 rfl rfl ⟨⟨Nat.le_of_ble_eq_true rfl, Nat.le_of_ble_eq_true rfl⟩, Nat.le_of_ble_eq_true rfl, Nat.le_of_ble_eq_true rfl⟩ (Nat.le_of_ble_eq_true rfl) d_No_seeAfter_25 (fun v H148 locs hp hL => ?_)
      obtain ⟨rfl, k147, S146⟩ := hp
      refine W.eq (g2 := F0 m 28 ls []) rfl ?_
      refine lv_iconst (v := 0) C.1 C.2.1 d_No_seeAfter_28 (by decide) ?_
      have hf : f_No_seeAfter z x = ((f_No_beginPause (sNd.mk z.st z.was z.se z.he z.lo z.ma z.va z.sp z.dr z.pf z.ss (z.on + 1) z.ro z.w z.i z.d z.k z.r)), 0) := by unfold f_No_seeAfter; rw [if_pos c41, if_neg c127]
      exact hq_iret C hret hlk (Nat.le_of_ble_eq_true rfl) (Nat.le_of_ble_eq_true rfl) hL ⟨by rw [hf], by rw [hf]; exact k147, hq_Scall (hq_Sput (hq_S0) u125 (by omega) (by omega)) S146 (by omega) (by omega)⟩ d_No_seeAfter_29
def f_No_seeInPause (z : sNd) (x : Int32) : sNd × Int32 := if x = 0 then (if 3 ≤ (z.ss + 1) then ((f_No_beginToHear (sNd.mk z.st z.was z.se z.he z.lo z.ma z.va z.sp z.dr z.pf (z.ss + 1) z.on z.ro z.w z.i z.d z.k z.r))) else ((f_No_overload (sNd.mk z.st z.was z.se z.he z.lo z.ma z.va z.sp z.dr z.pf (z.ss + 1) z.on z.ro z.w z.i z.d z.k z.r)))) else (if (z.ss + 1) < 3 then (((sNd.mk z.st z.was z.se z.he z.lo z.ma z.va z.sp z.dr z.pf (z.ss + 1) z.on z.ro z.w z.i z.d z.k z.r), 0)) else (if ((f_No_isPassive (sNd.mk z.st z.was z.se z.he z.lo z.ma z.va z.sp z.dr z.pf (z.ss + 1) z.on z.ro z.w z.i z.d z.k z.r))) = 0 then (((sNd.mk 0 z.was z.se z.he z.lo z.ma z.va z.sp z.dr z.pf (z.ss + 1) 0 z.ro z.w z.i z.d z.k z.r), 0)) else (if z.was = 1 then (((sNd.mk 6 z.was z.se z.he z.lo z.ma z.va z.sp z.dr z.pf (z.ss + 1) 0 z.ro z.w z.i z.d z.k z.r), 0)) else (((sNd.mk 0 z.was z.se z.he z.lo z.ma z.va z.sp z.dr z.pf (z.ss + 1) 0 z.ro z.w z.i z.d z.k z.r), 0)))))
set_option maxHeartbeats 4000000 in
set_option maxRecDepth 100000 in
theorem c_No_seeInPause (l : Launch) (D : va_G) (cI cZ cN cJ : ClassId) (lo : Nat) (b : Nat) (hlo : lo ≤ b) (z : sNd) (x : Int32) : hq_M l y_No_seeInPause b_No_seeInPause 2 (some .int) TB { frames := 4, cells := 0, slots := 0, locals := 85 } lo D vwCl (TY cI cZ cN cJ) [.ref (b), .int (x)] (fun U => NdP D cI cZ b z U.heap) (fun H v H' => v = some (.int (f_No_seeInPause z x).2) ∧ NdP D cI cZ b (f_No_seeInPause z x).1 H' ∧ hq_S b 10 H H') := by
  refine hq_ofW (by decide) (Nat.le_of_ble_eq_true rfl) ?_
  intro p e s m below meth c ls C hml hret hlk hnm hl hP
  have hL : hq_L lo [] := hq_L0
  have hl : lv_has ls 2 [(0, .ref (b)), (1, .int (x))] := hl
  have kz := hP
  refine lv_aload_n C.1 C.2.1 d_No_seeInPause_0 rfl (lv_at hl 0 rfl) ?_
  refine lv_dup C.1 C.2.1 d_No_seeInPause_1 rfl ?_
  refine hq_get (v := .int (z.ss)) C f_No_74 kz.1 rfl d_No_seeInPause_2 ?_
  refine lv_iconst (v := 1) C.1 C.2.1 d_No_seeInPause_5 (by decide) ?_
  refine lv_iadd C.1 C.2.1 d_No_seeInPause_6 ?_
  refine hq_put (lo := lo) C f_No_74 kz.1 rfl rfl (Nat.le_of_ble_eq_true rfl) hL (by omega) d_No_seeInPause_7 (fun H41 locs u42 hL => ?_)
  have k43 : va_at D vwCl (b, .inr (3, [.ref (b + 1), .ref (b + 3), .ref (b + 5), .ref (b + 7), .ref (b + 9), .int (z.st), .int (z.was), .int (z.se), .int (z.he), .int (z.lo), .int (z.ma), .int (z.va), .int (z.sp), .int (z.dr), .int (z.pf), .int (z.ss + 1), .int (z.on), .int (z.ro)])) H41 := u42.2.2
  refine lv_iload_n C.1 C.2.1 d_No_seeInPause_10 rfl (lv_at hl 1 rfl) ?_
  refine lv_if_ne (tgt := 34) C.1 C.2.1 d_No_seeInPause_11 (by decide) ?_ ?_
  · intro c44
    refine lv_aload_n C.1 C.2.1 d_No_seeInPause_34 rfl (lv_at hl 0 rfl) ?_
    refine hq_get (v := .int (z.ss + 1)) C f_No_74 k43 rfl d_No_seeInPause_35 ?_
    refine lv_iconst (v := 3) C.1 C.2.1 d_No_seeInPause_38 (by decide) ?_
    refine lv_icmp_lt (tgt := 72) C.1 C.2.1 d_No_seeInPause_39 (by decide) ?_ ?_
    · intro c45
      refine lv_iconst (v := 0) C.1 C.2.1 d_No_seeInPause_72 (by decide) ?_
      have hf : f_No_seeInPause z x = ((sNd.mk z.st z.was z.se z.he z.lo z.ma z.va z.sp z.dr z.pf (z.ss + 1) z.on z.ro z.w z.i z.d z.k z.r), 0) := by unfold f_No_seeInPause; rw [if_neg c44, if_pos c45]
      have k46 := hq_au kz.2.1.1 u42 (by omega)
      have k47 := hq_au kz.2.1.2 u42 (by omega)
      have k48 := hq_au kz.2.2.1.1 u42 (by omega)
      have k49 := hq_au kz.2.2.1.2 u42 (by omega)
      have k50 := hq_au kz.2.2.2.1.1 u42 (by omega)
      have k51 := hq_au kz.2.2.2.1.2 u42 (by omega)
      have k52 := hq_au kz.2.2.2.2.1.1 u42 (by omega)
      have k53 := hq_au kz.2.2.2.2.1.2 u42 (by omega)
      have k54 := hq_au kz.2.2.2.2.2 u42 (by omega)
      exact hq_iret C hret hlk (Nat.le_of_ble_eq_true rfl) (Nat.le_of_ble_eq_true rfl) hL ⟨by rw [hf], by rw [hf]; exact ⟨k43, ⟨k46, k47⟩, ⟨k48, k49⟩, ⟨k50, k51⟩, ⟨k52, k53⟩, k54⟩, hq_Sput (hq_S0) u42 (by omega) (by omega)⟩ d_No_seeInPause_73
    · intro c45
      refine lv_aload_n C.1 C.2.1 d_No_seeInPause_42 rfl (lv_at hl 0 rfl) ?_
      refine lv_aload_n C.1 C.2.1 d_No_seeInPause_43 rfl (lv_at hl 0 rfl) ?_
      have k55 := hq_au kz.2.1.1 u42 (by omega)
      have k56 := hq_au kz.2.1.2 u42 (by omega)
      have k57 := hq_au kz.2.2.1.1 u42 (by omega)
      have k58 := hq_au kz.2.2.1.2 u42 (by omega)
      have k59 := hq_au kz.2.2.2.1.1 u42 (by omega)
      have k60 := hq_au kz.2.2.2.1.2 u42 (by omega)
      have k61 := hq_au kz.2.2.2.2.1.1 u42 (by omega)
      have k62 := hq_au kz.2.2.2.2.1.2 u42 (by omega)
      have k63 := hq_au kz.2.2.2.2.2 u42 (by omega)
      refine hq_callV (lo := lo) (As := []) (rest := [.ref (b)]) C tb_good hml Y_No_207 (c_No_isPassive l D cI cZ cN cJ lo (b) (sNd.mk z.st z.was z.se z.he z.lo z.ma z.va z.sp z.dr z.pf (z.ss + 1) z.on z.ro z.w z.i z.d z.k z.r)) k43 rfl (fun _ _ _ _ h => h) (fun U hU hW => by show NdP D cI cZ (b) (sNd.mk z.st z.was z.se z.he z.lo z.ma z.va z.sp z.dr z.pf (z.ss + 1) z.on z.ro z.w z.i z.d z.k z.r) U.heap; rw [hU]; exact ⟨k43, ⟨k55, k56⟩, ⟨k57, k58⟩, ⟨k59, k60⟩, ⟨k61, k62⟩, k63⟩) hL hl.1 rfl rfl ⟨⟨Nat.le_of_ble_eq_true rfl, Nat.le_of_ble_eq_true rfl⟩, Nat.le_of_ble_eq_true rfl, Nat.le_of_ble_eq_true rfl⟩ (Nat.le_of_ble_eq_true rfl) d_No_seeInPause_44 (fun v H64 locs hp hL => ?_)
      obtain ⟨rfl, rfl⟩ := hp
      refine W.eq (g2 := F0 m 47 ls [.int ((f_No_isPassive (sNd.mk z.st z.was z.se z.he z.lo z.ma z.va z.sp z.dr z.pf (z.ss + 1) z.on z.ro z.w z.i z.d z.k z.r))), .ref (b)]) rfl ?_
      refine lv_if_eq (tgt := 63) C.1 C.2.1 d_No_seeInPause_47 (by decide) ?_ ?_
      · intro c65
        refine lv_iconst (v := 0) C.1 C.2.1 d_No_seeInPause_63 (by decide) ?_
        refine hq_put (lo := lo) C f_No_42 k43 rfl rfl (Nat.le_of_ble_eq_true rfl) hL (by omega) d_No_seeInPause_64 (fun H66 locs u67 hL => ?_)
        have k68 : va_at D vwCl (b, .inr (3, [.ref (b + 1), .ref (b + 3), .ref (b + 5), .ref (b + 7), .ref (b + 9), .int (0), .int (z.was), .int (z.se), .int (z.he), .int (z.lo), .int (z.ma), .int (z.va), .int (z.sp), .int (z.dr), .int (z.pf), .int (z.ss + 1), .int (z.on), .int (z.ro)])) H66 := u67.2.2
        refine lv_aload_n C.1 C.2.1 d_No_seeInPause_67 rfl (lv_at hl 0 rfl) ?_
        refine lv_iconst (v := 0) C.1 C.2.1 d_No_seeInPause_68 (by decide) ?_
        refine hq_put (lo := lo) C f_No_77 k68 rfl rfl (Nat.le_of_ble_eq_true rfl) hL (by omega) d_No_seeInPause_69 (fun H69 locs u70 hL => ?_)
        have k71 : va_at D vwCl (b, .inr (3, [.ref (b + 1), .ref (b + 3), .ref (b + 5), .ref (b + 7), .ref (b + 9), .int (0), .int (z.was), .int (z.se), .int (z.he), .int (z.lo), .int (z.ma), .int (z.va), .int (z.sp), .int (z.dr), .int (z.pf), .int (z.ss + 1), .int (0), .int (z.ro)])) H69 := u70.2.2
        refine lv_iconst (v := 0) C.1 C.2.1 d_No_seeInPause_72 (by decide) ?_
        have hf : f_No_seeInPause z x = ((sNd.mk 0 z.was z.se z.he z.lo z.ma z.va z.sp z.dr z.pf (z.ss + 1) 0 z.ro z.w z.i z.d z.k z.r), 0) := by unfold f_No_seeInPause; rw [if_neg c44, if_neg c45, if_pos c65]
        have k72 := hq_au (hq_au k55 u67 (by omega)) u70 (by omega)
        have k73 := hq_au (hq_au k56 u67 (by omega)) u70 (by omega)
        have k74 := hq_au (hq_au k57 u67 (by omega)) u70 (by omega)
        have k75 := hq_au (hq_au k58 u67 (by omega)) u70 (by omega)
        have k76 := hq_au (hq_au k59 u67 (by omega)) u70 (by omega)
        have k77 := hq_au (hq_au k60 u67 (by omega)) u70 (by omega)
        have k78 := hq_au (hq_au k61 u67 (by omega)) u70 (by omega)
        have k79 := hq_au (hq_au k62 u67 (by omega)) u70 (by omega)
        have k80 := hq_au (hq_au k63 u67 (by omega)) u70 (by omega)
        exact hq_iret C hret hlk (Nat.le_of_ble_eq_true rfl) (Nat.le_of_ble_eq_true rfl) hL ⟨by rw [hf], by rw [hf]; exact ⟨k71, ⟨k72, k73⟩, ⟨k74, k75⟩, ⟨k76, k77⟩, ⟨k78, k79⟩, k80⟩, hq_Sput (hq_Sput (hq_Sput (hq_S0) u42 (by omega) (by omega)) u67 (by omega) (by omega)) u70 (by omega) (by omega)⟩ d_No_seeInPause_73
      · intro c65
        refine lv_aload_n C.1 C.2.1 d_No_seeInPause_50 rfl (lv_at hl 0 rfl) ?_
        refine hq_get (v := .int (z.was)) C f_No_46 k43 rfl d_No_seeInPause_51 ?_
        refine lv_iconst (v := 1) C.1 C.2.1 d_No_seeInPause_54 (by decide) ?_
        refine lv_icmp_ne (tgt := 63) C.1 C.2.1 d_No_seeInPause_55 (by decide) ?_ ?_
        · intro c81
          refine lv_iconst (v := 0) C.1 C.2.1 d_No_seeInPause_63 (by decide) ?_
          refine hq_put (lo := lo) C f_No_42 k43 rfl rfl (Nat.le_of_ble_eq_true rfl) hL (by omega) d_No_seeInPause_64 (fun H82 locs u83 hL => ?_)
          have k84 : va_at D vwCl (b, .inr (3, [.ref (b + 1), .ref (b + 3), .ref (b + 5), .ref (b + 7), .ref (b + 9), .int (0), .int (z.was), .int (z.se), .int (z.he), .int (z.lo), .int (z.ma), .int (z.va), .int (z.sp), .int (z.dr), .int (z.pf), .int (z.ss + 1), .int (z.on), .int (z.ro)])) H82 := u83.2.2
          refine lv_aload_n C.1 C.2.1 d_No_seeInPause_67 rfl (lv_at hl 0 rfl) ?_
          refine lv_iconst (v := 0) C.1 C.2.1 d_No_seeInPause_68 (by decide) ?_
          refine hq_put (lo := lo) C f_No_77 k84 rfl rfl (Nat.le_of_ble_eq_true rfl) hL (by omega) d_No_seeInPause_69 (fun H85 locs u86 hL => ?_)
          have k87 : va_at D vwCl (b, .inr (3, [.ref (b + 1), .ref (b + 3), .ref (b + 5), .ref (b + 7), .ref (b + 9), .int (0), .int (z.was), .int (z.se), .int (z.he), .int (z.lo), .int (z.ma), .int (z.va), .int (z.sp), .int (z.dr), .int (z.pf), .int (z.ss + 1), .int (0), .int (z.ro)])) H85 := u86.2.2
          refine lv_iconst (v := 0) C.1 C.2.1 d_No_seeInPause_72 (by decide) ?_
          have hf : f_No_seeInPause z x = ((sNd.mk 0 z.was z.se z.he z.lo z.ma z.va z.sp z.dr z.pf (z.ss + 1) 0 z.ro z.w z.i z.d z.k z.r), 0) := by unfold f_No_seeInPause; rw [if_neg c44, if_neg c45, if_neg c65, if_neg c81]
          have k88 := hq_au (hq_au k55 u83 (by omega)) u86 (by omega)
          have k89 := hq_au (hq_au k56 u83 (by omega)) u86 (by omega)
          have k90 := hq_au (hq_au k57 u83 (by omega)) u86 (by omega)
          have k91 := hq_au (hq_au k58 u83 (by omega)) u86 (by omega)
          have k92 := hq_au (hq_au k59 u83 (by omega)) u86 (by omega)
          have k93 := hq_au (hq_au k60 u83 (by omega)) u86 (by omega)
          have k94 := hq_au (hq_au k61 u83 (by omega)) u86 (by omega)
          have k95 := hq_au (hq_au k62 u83 (by omega)) u86 (by omega)
          have k96 := hq_au (hq_au k63 u83 (by omega)) u86 (by omega)
          exact hq_iret C hret hlk (Nat.le_of_ble_eq_true rfl) (Nat.le_of_ble_eq_true rfl) hL ⟨by rw [hf], by rw [hf]; exact ⟨k87, ⟨k88, k89⟩, ⟨k90, k91⟩, ⟨k92, k93⟩, ⟨k94, k95⟩, k96⟩, hq_Sput (hq_Sput (hq_Sput (hq_S0) u42 (by omega) (by omega)) u83 (by omega) (by omega)) u86 (by omega) (by omega)⟩ d_No_seeInPause_73
        · intro c81
          refine lv_bipush (v := 6) C.1 C.2.1 d_No_seeInPause_58 (by decide) ?_
          refine lv_goto (tgt := 64) C.1 C.2.1 d_No_seeInPause_60 (by decide) ?_
          refine hq_put (lo := lo) C f_No_42 k43 rfl rfl (Nat.le_of_ble_eq_true rfl) hL (by omega) d_No_seeInPause_64 (fun H97 locs u98 hL => ?_)
          have k99 : va_at D vwCl (b, .inr (3, [.ref (b + 1), .ref (b + 3), .ref (b + 5), .ref (b + 7), .ref (b + 9), .int (6), .int (z.was), .int (z.se), .int (z.he), .int (z.lo), .int (z.ma), .int (z.va), .int (z.sp), .int (z.dr), .int (z.pf), .int (z.ss + 1), .int (z.on), .int (z.ro)])) H97 := u98.2.2
          refine lv_aload_n C.1 C.2.1 d_No_seeInPause_67 rfl (lv_at hl 0 rfl) ?_
          refine lv_iconst (v := 0) C.1 C.2.1 d_No_seeInPause_68 (by decide) ?_
          refine hq_put (lo := lo) C f_No_77 k99 rfl rfl (Nat.le_of_ble_eq_true rfl) hL (by omega) d_No_seeInPause_69 (fun H100 locs u101 hL => ?_)
          have k102 : va_at D vwCl (b, .inr (3, [.ref (b + 1), .ref (b + 3), .ref (b + 5), .ref (b + 7), .ref (b + 9), .int (6), .int (z.was), .int (z.se), .int (z.he), .int (z.lo), .int (z.ma), .int (z.va), .int (z.sp), .int (z.dr), .int (z.pf), .int (z.ss + 1), .int (0), .int (z.ro)])) H100 := u101.2.2
          refine lv_iconst (v := 0) C.1 C.2.1 d_No_seeInPause_72 (by decide) ?_
          have hf : f_No_seeInPause z x = ((sNd.mk 6 z.was z.se z.he z.lo z.ma z.va z.sp z.dr z.pf (z.ss + 1) 0 z.ro z.w z.i z.d z.k z.r), 0) := by unfold f_No_seeInPause; rw [if_neg c44, if_neg c45, if_neg c65, if_pos c81]
          have k103 := hq_au (hq_au k55 u98 (by omega)) u101 (by omega)
          have k104 := hq_au (hq_au k56 u98 (by omega)) u101 (by omega)
          have k105 := hq_au (hq_au k57 u98 (by omega)) u101 (by omega)
          have k106 := hq_au (hq_au k58 u98 (by omega)) u101 (by omega)
          have k107 := hq_au (hq_au k59 u98 (by omega)) u101 (by omega)
          have k108 := hq_au (hq_au k60 u98 (by omega)) u101 (by omega)
          have k109 := hq_au (hq_au k61 u98 (by omega)) u101 (by omega)
          have k110 := hq_au (hq_au k62 u98 (by omega)) u101 (by omega)
          have k111 := hq_au (hq_au k63 u98 (by omega)) u101 (by omega)
          exact hq_iret C hret hlk (Nat.le_of_ble_eq_true rfl) (Nat.le_of_ble_eq_true rfl) hL ⟨by rw [hf], by rw [hf]; exact ⟨k102, ⟨k103, k104⟩, ⟨k105, k106⟩, ⟨k107, k108⟩, ⟨k109, k110⟩, k111⟩, hq_Sput (hq_Sput (hq_Sput (hq_S0) u42 (by omega) (by omega)) u98 (by omega) (by omega)) u101 (by omega) (by omega)⟩ d_No_seeInPause_73
  · intro c44
    refine lv_aload_n C.1 C.2.1 d_No_seeInPause_14 rfl (lv_at hl 0 rfl) ?_
    refine hq_get (v := .int (z.ss + 1)) C f_No_74 k43 rfl d_No_seeInPause_15 ?_
    refine lv_iconst (v := 3) C.1 C.2.1 d_No_seeInPause_18 (by decide) ?_
    refine lv_icmp_ge (tgt := 29) C.1 C.2.1 d_No_seeInPause_19 (by decide) ?_ ?_
    · intro c112
      refine lv_aload_n C.1 C.2.1 d_No_seeInPause_29 rfl (lv_at hl 0 rfl) ?_
      have k113 := hq_au kz.2.1.1 u42 (by omega)
      have k114 := hq_au kz.2.1.2 u42 (by omega)
      have k115 := hq_au kz.2.2.1.1 u42 (by omega)
      have k116 := hq_au kz.2.2.1.2 u42 (by omega)
      have k117 := hq_au kz.2.2.2.1.1 u42 (by omega)
      have k118 := hq_au kz.2.2.2.1.2 u42 (by omega)
      have k119 := hq_au kz.2.2.2.2.1.1 u42 (by omega)
      have k120 := hq_au kz.2.2.2.2.1.2 u42 (by omega)
      have k121 := hq_au kz.2.2.2.2.2 u42 (by omega)
      refine hq_callV (lo := lo) (As := []) (rest := []) C tb_good hml Y_No_140 (c_No_beginToHear l D cI cZ cN cJ lo (b) (by omega) (sNd.mk z.st z.was z.se z.he z.lo z.ma z.va z.sp z.dr z.pf (z.ss + 1) z.on z.ro z.w z.i z.d z.k z.r)) k43 rfl (fun _ _ _ _ h => h) (fun U hU hW => by show NdP D cI cZ (b) (sNd.mk z.st z.was z.se z.he z.lo z.ma z.va z.sp z.dr z.pf (z.ss + 1) z.on z.ro z.w z.i z.d z.k z.r) U.heap; rw [hU]; exact ⟨k43, ⟨k113, k114⟩, ⟨k115, k116⟩, ⟨k117, k118⟩, ⟨k119, k120⟩, k121⟩) hL hl.1 rfl rfl ⟨⟨Nat.le_of_ble_eq_true rfl, Nat.le_of_ble_eq_true rfl⟩, Nat.le_of_ble_eq_true rfl, Nat.le_of_ble_eq_true rfl⟩ (Nat.le_of_ble_eq_true rfl) d_No_seeInPause_30 (fun v H124 locs hp hL => ?_)
      obtain ⟨rfl, k123, S122⟩ := hp
      refine W.eq (g2 := F0 m 33 ls [.int ((f_No_beginToHear (sNd.mk z.st z.was z.se z.he z.lo z.ma z.va z.sp z.dr z.pf (z.ss + 1) z.on z.ro z.w z.i z.d z.k z.r)).2)]) rfl ?_
      have hf : f_No_seeInPause z x = (f_No_beginToHear (sNd.mk z.st z.was z.se z.he z.lo z.ma z.va z.sp z.dr z.pf (z.ss + 1) z.on z.ro z.w z.i z.d z.k z.r)) := by unfold f_No_seeInPause; rw [if_pos c44, if_pos c112]
      exact hq_iret C hret hlk (Nat.le_of_ble_eq_true rfl) (Nat.le_of_ble_eq_true rfl) hL ⟨by rw [hf], by rw [hf]; exact k123, hq_Scall (hq_Sput (hq_S0) u42 (by omega) (by omega)) S122 (by omega) (by omega)⟩ d_No_seeInPause_33
    · intro c112
      refine lv_aload_n C.1 C.2.1 d_No_seeInPause_22 rfl (lv_at hl 0 rfl) ?_
      have k125 := hq_au kz.2.1.1 u42 (by omega)
      have k126 := hq_au kz.2.1.2 u42 (by omega)
      have k127 := hq_au kz.2.2.1.1 u42 (by omega)
      have k128 := hq_au kz.2.2.1.2 u42 (by omega)
      have k129 := hq_au kz.2.2.2.1.1 u42 (by omega)
      have k130 := hq_au kz.2.2.2.1.2 u42 (by omega)
      have k131 := hq_au kz.2.2.2.2.1.1 u42 (by omega)
      have k132 := hq_au kz.2.2.2.2.1.2 u42 (by omega)
      have k133 := hq_au kz.2.2.2.2.2 u42 (by omega)
      refine hq_callV (lo := lo) (As := []) (rest := []) C tb_good hml Y_No_198 (c_No_overload l D cI cZ cN cJ lo (b) (by omega) (sNd.mk z.st z.was z.se z.he z.lo z.ma z.va z.sp z.dr z.pf (z.ss + 1) z.on z.ro z.w z.i z.d z.k z.r)) k43 rfl (fun _ _ _ _ h => h) (fun U hU hW => by show NdP D cI cZ (b) (sNd.mk z.st z.was z.se z.he z.lo z.ma z.va z.sp z.dr z.pf (z.ss + 1) z.on z.ro z.w z.i z.d z.k z.r) U.heap; rw [hU]; exact ⟨k43, ⟨k125, k126⟩, ⟨k127, k128⟩, ⟨k129, k130⟩, ⟨k131, k132⟩, k133⟩) hL hl.1 rfl rfl ⟨⟨Nat.le_of_ble_eq_true rfl, Nat.le_of_ble_eq_true rfl⟩, Nat.le_of_ble_eq_true rfl, Nat.le_of_ble_eq_true rfl⟩ (Nat.le_of_ble_eq_true rfl) d_No_seeInPause_23 (fun v H136 locs hp hL => ?_)
      obtain ⟨rfl, k135, S134⟩ := hp
      refine W.eq (g2 := F0 m 26 ls [.int ((f_No_overload (sNd.mk z.st z.was z.se z.he z.lo z.ma z.va z.sp z.dr z.pf (z.ss + 1) z.on z.ro z.w z.i z.d z.k z.r)).2)]) rfl ?_
      refine lv_goto (tgt := 33) C.1 C.2.1 d_No_seeInPause_26 (by decide) ?_
      have hf : f_No_seeInPause z x = (f_No_overload (sNd.mk z.st z.was z.se z.he z.lo z.ma z.va z.sp z.dr z.pf (z.ss + 1) z.on z.ro z.w z.i z.d z.k z.r)) := by unfold f_No_seeInPause; rw [if_pos c44, if_neg c112]
      exact hq_iret C hret hlk (Nat.le_of_ble_eq_true rfl) (Nat.le_of_ble_eq_true rfl) hL ⟨by rw [hf], by rw [hf]; exact k135, hq_Scall (hq_Sput (hq_S0) u42 (by omega) (by omega)) S134 (by omega) (by omega)⟩ d_No_seeInPause_33
def f_No_seeSuspended (z : sNd) (x : Int32) : sNd × Int32 := if x = 0 then ((f_No_beginToHear z)) else (if (z.on + 1) < 8 then (((sNd.mk z.st z.was z.se z.he z.lo z.ma z.va z.sp z.dr z.pf z.ss (z.on + 1) z.ro z.w z.i z.d z.k z.r), 0)) else (((sNd.mk 0 z.was z.se z.he z.lo z.ma z.va z.sp z.dr z.pf z.ss (z.on + 1) z.ro z.w z.i z.d z.k z.r), 0)))
set_option maxHeartbeats 4000000 in
set_option maxRecDepth 100000 in
theorem c_No_seeSuspended (l : Launch) (D : va_G) (cI cZ cN cJ : ClassId) (lo : Nat) (b : Nat) (hlo : lo ≤ b) (z : sNd) (x : Int32) : hq_M l y_No_seeSuspended b_No_seeSuspended 2 (some .int) TB { frames := 4, cells := 0, slots := 0, locals := 85 } lo D vwCl (TY cI cZ cN cJ) [.ref (b), .int (x)] (fun U => NdP D cI cZ b z U.heap) (fun H v H' => v = some (.int (f_No_seeSuspended z x).2) ∧ NdP D cI cZ b (f_No_seeSuspended z x).1 H' ∧ hq_S b 10 H H') := by
  refine hq_ofW (by decide) (Nat.le_of_ble_eq_true rfl) ?_
  intro p e s m below meth c ls C hml hret hlk hnm hl hP
  have hL : hq_L lo [] := hq_L0
  have hl : lv_has ls 2 [(0, .ref (b)), (1, .int (x))] := hl
  have kz := hP
  refine lv_iload_n C.1 C.2.1 d_No_seeSuspended_0 rfl (lv_at hl 1 rfl) ?_
  refine lv_if_ne (tgt := 9) C.1 C.2.1 d_No_seeSuspended_1 (by decide) ?_ ?_
  · intro c41
    refine lv_aload_n C.1 C.2.1 d_No_seeSuspended_9 rfl (lv_at hl 0 rfl) ?_
    refine lv_dup C.1 C.2.1 d_No_seeSuspended_10 rfl ?_
    refine hq_get (v := .int (z.on)) C f_No_77 kz.1 rfl d_No_seeSuspended_11 ?_
    refine lv_iconst (v := 1) C.1 C.2.1 d_No_seeSuspended_14 (by decide) ?_
    refine lv_iadd C.1 C.2.1 d_No_seeSuspended_15 ?_
    refine hq_put (lo := lo) C f_No_77 kz.1 rfl rfl (Nat.le_of_ble_eq_true rfl) hL (by omega) d_No_seeSuspended_16 (fun H42 locs u43 hL => ?_)
    have k44 : va_at D vwCl (b, .inr (3, [.ref (b + 1), .ref (b + 3), .ref (b + 5), .ref (b + 7), .ref (b + 9), .int (z.st), .int (z.was), .int (z.se), .int (z.he), .int (z.lo), .int (z.ma), .int (z.va), .int (z.sp), .int (z.dr), .int (z.pf), .int (z.ss), .int (z.on + 1), .int (z.ro)])) H42 := u43.2.2
    refine lv_aload_n C.1 C.2.1 d_No_seeSuspended_19 rfl (lv_at hl 0 rfl) ?_
    refine hq_get (v := .int (z.on + 1)) C f_No_77 k44 rfl d_No_seeSuspended_20 ?_
    refine lv_bipush (v := 8) C.1 C.2.1 d_No_seeSuspended_23 (by decide) ?_
    refine lv_icmp_lt (tgt := 33) C.1 C.2.1 d_No_seeSuspended_25 (by decide) ?_ ?_
    · intro c45
      refine lv_iconst (v := 0) C.1 C.2.1 d_No_seeSuspended_33 (by decide) ?_
      have hf : f_No_seeSuspended z x = ((sNd.mk z.st z.was z.se z.he z.lo z.ma z.va z.sp z.dr z.pf z.ss (z.on + 1) z.ro z.w z.i z.d z.k z.r), 0) := by unfold f_No_seeSuspended; rw [if_neg c41, if_pos c45]
      have k46 := hq_au kz.2.1.1 u43 (by omega)
      have k47 := hq_au kz.2.1.2 u43 (by omega)
      have k48 := hq_au kz.2.2.1.1 u43 (by omega)
      have k49 := hq_au kz.2.2.1.2 u43 (by omega)
      have k50 := hq_au kz.2.2.2.1.1 u43 (by omega)
      have k51 := hq_au kz.2.2.2.1.2 u43 (by omega)
      have k52 := hq_au kz.2.2.2.2.1.1 u43 (by omega)
      have k53 := hq_au kz.2.2.2.2.1.2 u43 (by omega)
      have k54 := hq_au kz.2.2.2.2.2 u43 (by omega)
      exact hq_iret C hret hlk (Nat.le_of_ble_eq_true rfl) (Nat.le_of_ble_eq_true rfl) hL ⟨by rw [hf], by rw [hf]; exact ⟨k44, ⟨k46, k47⟩, ⟨k48, k49⟩, ⟨k50, k51⟩, ⟨k52, k53⟩, k54⟩, hq_Sput (hq_S0) u43 (by omega) (by omega)⟩ d_No_seeSuspended_34
    · intro c45
      refine lv_aload_n C.1 C.2.1 d_No_seeSuspended_28 rfl (lv_at hl 0 rfl) ?_
      refine lv_iconst (v := 0) C.1 C.2.1 d_No_seeSuspended_29 (by decide) ?_
      refine hq_put (lo := lo) C f_No_42 k44 rfl rfl (Nat.le_of_ble_eq_true rfl) hL (by omega) d_No_seeSuspended_30 (fun H55 locs u56 hL => ?_)
      have k57 : va_at D vwCl (b, .inr (3, [.ref (b + 1), .ref (b + 3), .ref (b + 5), .ref (b + 7), .ref (b + 9), .int (0), .int (z.was), .int (z.se), .int (z.he), .int (z.lo), .int (z.ma), .int (z.va), .int (z.sp), .int (z.dr), .int (z.pf), .int (z.ss), .int (z.on + 1), .int (z.ro)])) H55 := u56.2.2
      refine lv_iconst (v := 0) C.1 C.2.1 d_No_seeSuspended_33 (by decide) ?_
      have hf : f_No_seeSuspended z x = ((sNd.mk 0 z.was z.se z.he z.lo z.ma z.va z.sp z.dr z.pf z.ss (z.on + 1) z.ro z.w z.i z.d z.k z.r), 0) := by unfold f_No_seeSuspended; rw [if_neg c41, if_neg c45]
      have k58 := hq_au (hq_au kz.2.1.1 u43 (by omega)) u56 (by omega)
      have k59 := hq_au (hq_au kz.2.1.2 u43 (by omega)) u56 (by omega)
      have k60 := hq_au (hq_au kz.2.2.1.1 u43 (by omega)) u56 (by omega)
      have k61 := hq_au (hq_au kz.2.2.1.2 u43 (by omega)) u56 (by omega)
      have k62 := hq_au (hq_au kz.2.2.2.1.1 u43 (by omega)) u56 (by omega)
      have k63 := hq_au (hq_au kz.2.2.2.1.2 u43 (by omega)) u56 (by omega)
      have k64 := hq_au (hq_au kz.2.2.2.2.1.1 u43 (by omega)) u56 (by omega)
      have k65 := hq_au (hq_au kz.2.2.2.2.1.2 u43 (by omega)) u56 (by omega)
      have k66 := hq_au (hq_au kz.2.2.2.2.2 u43 (by omega)) u56 (by omega)
      exact hq_iret C hret hlk (Nat.le_of_ble_eq_true rfl) (Nat.le_of_ble_eq_true rfl) hL ⟨by rw [hf], by rw [hf]; exact ⟨k57, ⟨k58, k59⟩, ⟨k60, k61⟩, ⟨k62, k63⟩, ⟨k64, k65⟩, k66⟩, hq_Sput (hq_Sput (hq_S0) u43 (by omega) (by omega)) u56 (by omega) (by omega)⟩ d_No_seeSuspended_34
  · intro c41
    refine lv_aload_n C.1 C.2.1 d_No_seeSuspended_4 rfl (lv_at hl 0 rfl) ?_
    refine hq_callV (lo := lo) (As := []) (rest := []) C tb_good hml Y_No_140 (c_No_beginToHear l D cI cZ cN cJ lo (b) (by omega) z) kz.1 rfl (fun _ _ _ _ h => h) (fun U hU hW => by show NdP D cI cZ (b) z U.heap; rw [hU]; exact kz) hL hl.1 rfl rfl ⟨⟨Nat.le_of_ble_eq_true rfl, Nat.le_of_ble_eq_true rfl⟩, Nat.le_of_ble_eq_true rfl, Nat.le_of_ble_eq_true rfl⟩ (Nat.le_of_ble_eq_true rfl) d_No_seeSuspended_5 (fun v H69 locs hp hL => ?_)
    obtain ⟨rfl, k68, S67⟩ := hp
    refine W.eq (g2 := F0 m 8 ls [.int ((f_No_beginToHear z).2)]) rfl ?_
    have hf : f_No_seeSuspended z x = (f_No_beginToHear z) := by unfold f_No_seeSuspended; rw [if_pos c41]
    exact hq_iret C hret hlk (Nat.le_of_ble_eq_true rfl) (Nat.le_of_ble_eq_true rfl) hL ⟨by rw [hf], by rw [hf]; exact k68, hq_Scall (hq_S0) S67 (by omega) (by omega)⟩ d_No_seeSuspended_8
def f_No_seeOff (z : sNd) (x : Int32) : sNd × Int32 := if x = 1 then (if (z.on + 1) < 11 then (if z.ro < 8 then (((sNd.mk z.st z.was z.se z.he z.lo z.ma z.va z.sp z.dr z.pf z.ss (z.on + 1) z.ro z.w z.i z.d z.k z.r), 0)) else (((sNd.mk 0 z.was 0 0 z.lo z.ma z.va z.sp z.dr z.pf z.ss (z.on + 1) z.ro z.w z.i z.d z.k z.r), 0))) else (if (z.ro + 1) < 8 then (((sNd.mk z.st z.was z.se z.he z.lo z.ma z.va z.sp z.dr z.pf z.ss 0 (z.ro + 1) z.w z.i z.d z.k z.r), 0)) else (((sNd.mk 0 z.was 0 0 z.lo z.ma z.va z.sp z.dr z.pf z.ss 0 (z.ro + 1) z.w z.i z.d z.k z.r), 0)))) else (if z.ro < 8 then (((sNd.mk z.st z.was z.se z.he z.lo z.ma z.va z.sp z.dr z.pf z.ss 0 z.ro z.w z.i z.d z.k z.r), 0)) else (((sNd.mk 0 z.was 0 0 z.lo z.ma z.va z.sp z.dr z.pf z.ss 0 z.ro z.w z.i z.d z.k z.r), 0)))
set_option maxHeartbeats 4000000 in
set_option maxRecDepth 100000 in
theorem c_No_seeOff (l : Launch) (D : va_G) (cI cZ cN cJ : ClassId) (lo : Nat) (b : Nat) (hlo : lo ≤ b) (z : sNd) (x : Int32) : hq_M l y_No_seeOff b_No_seeOff 2 (some .int) TB { frames := 0, cells := 0, slots := 0, locals := 0 } lo D vwCl (TY cI cZ cN cJ) [.ref (b), .int (x)] (fun U => NdP D cI cZ b z U.heap) (fun H v H' => v = some (.int (f_No_seeOff z x).2) ∧ NdP D cI cZ b (f_No_seeOff z x).1 H' ∧ hq_S b 10 H H') := by
  refine hq_ofW (by decide) (Nat.le_of_ble_eq_true rfl) ?_
  intro p e s m below meth c ls C hml hret hlk hnm hl hP
  have hL : hq_L lo [] := hq_L0
  have hl : lv_has ls 2 [(0, .ref (b)), (1, .int (x))] := hl
  have kz := hP
  refine lv_aload_n C.1 C.2.1 d_No_seeOff_0 rfl (lv_at hl 0 rfl) ?_
  refine lv_iload_n C.1 C.2.1 d_No_seeOff_1 rfl (lv_at hl 1 rfl) ?_
  refine lv_iconst (v := 1) C.1 C.2.1 d_No_seeOff_2 (by decide) ?_
  refine lv_icmp_ne (tgt := 15) C.1 C.2.1 d_No_seeOff_3 (by decide) ?_ ?_
  · intro c41
    refine lv_iconst (v := 0) C.1 C.2.1 d_No_seeOff_15 (by decide) ?_
    refine hq_put (lo := lo) C f_No_77 kz.1 rfl rfl (Nat.le_of_ble_eq_true rfl) hL (by omega) d_No_seeOff_16 (fun H42 locs u43 hL => ?_)
    have k44 : va_at D vwCl (b, .inr (3, [.ref (b + 1), .ref (b + 3), .ref (b + 5), .ref (b + 7), .ref (b + 9), .int (z.st), .int (z.was), .int (z.se), .int (z.he), .int (z.lo), .int (z.ma), .int (z.va), .int (z.sp), .int (z.dr), .int (z.pf), .int (z.ss), .int (0), .int (z.ro)])) H42 := u43.2.2
    refine lv_aload_n C.1 C.2.1 d_No_seeOff_19 rfl (lv_at hl 0 rfl) ?_
    refine hq_get (v := .int (0)) C f_No_77 k44 rfl d_No_seeOff_20 ?_
    refine lv_bipush (v := 11) C.1 C.2.1 d_No_seeOff_23 (by decide) ?_
    refine lv_icmp_lt (tgt := 43) C.1 C.2.1 d_No_seeOff_25 (by decide) (fun _ => ?_) (fun hn => absurd (by decide) hn)
    refine lv_aload_n C.1 C.2.1 d_No_seeOff_43 rfl (lv_at hl 0 rfl) ?_
    refine hq_get (v := .int (z.ro)) C f_No_80 k44 rfl d_No_seeOff_44 ?_
    refine lv_bipush (v := 8) C.1 C.2.1 d_No_seeOff_47 (by decide) ?_
    refine lv_icmp_lt (tgt := 67) C.1 C.2.1 d_No_seeOff_49 (by decide) ?_ ?_
    · intro c45
      refine lv_iconst (v := 0) C.1 C.2.1 d_No_seeOff_67 (by decide) ?_
      have hf : f_No_seeOff z x = ((sNd.mk z.st z.was z.se z.he z.lo z.ma z.va z.sp z.dr z.pf z.ss 0 z.ro z.w z.i z.d z.k z.r), 0) := by unfold f_No_seeOff; rw [if_neg c41, if_pos c45]
      have k46 := hq_au kz.2.1.1 u43 (by omega)
      have k47 := hq_au kz.2.1.2 u43 (by omega)
      have k48 := hq_au kz.2.2.1.1 u43 (by omega)
      have k49 := hq_au kz.2.2.1.2 u43 (by omega)
      have k50 := hq_au kz.2.2.2.1.1 u43 (by omega)
      have k51 := hq_au kz.2.2.2.1.2 u43 (by omega)
      have k52 := hq_au kz.2.2.2.2.1.1 u43 (by omega)
      have k53 := hq_au kz.2.2.2.2.1.2 u43 (by omega)
      have k54 := hq_au kz.2.2.2.2.2 u43 (by omega)
      exact hq_iret C hret hlk (Nat.le_of_ble_eq_true rfl) (Nat.le_of_ble_eq_true rfl) hL ⟨by rw [hf], by rw [hf]; exact ⟨k44, ⟨k46, k47⟩, ⟨k48, k49⟩, ⟨k50, k51⟩, ⟨k52, k53⟩, k54⟩, hq_Sput (hq_S0) u43 (by omega) (by omega)⟩ d_No_seeOff_68
    · intro c45
      refine lv_aload_n C.1 C.2.1 d_No_seeOff_52 rfl (lv_at hl 0 rfl) ?_
      refine lv_iconst (v := 0) C.1 C.2.1 d_No_seeOff_53 (by decide) ?_
      refine hq_put (lo := lo) C f_No_49 k44 rfl rfl (Nat.le_of_ble_eq_true rfl) hL (by omega) d_No_seeOff_54 (fun H55 locs u56 hL => ?_)
      have k57 : va_at D vwCl (b, .inr (3, [.ref (b + 1), .ref (b + 3), .ref (b + 5), .ref (b + 7), .ref (b + 9), .int (z.st), .int (z.was), .int (0), .int (z.he), .int (z.lo), .int (z.ma), .int (z.va), .int (z.sp), .int (z.dr), .int (z.pf), .int (z.ss), .int (0), .int (z.ro)])) H55 := u56.2.2
      refine lv_aload_n C.1 C.2.1 d_No_seeOff_57 rfl (lv_at hl 0 rfl) ?_
      refine lv_iconst (v := 0) C.1 C.2.1 d_No_seeOff_58 (by decide) ?_
      refine hq_put (lo := lo) C f_No_52 k57 rfl rfl (Nat.le_of_ble_eq_true rfl) hL (by omega) d_No_seeOff_59 (fun H58 locs u59 hL => ?_)
      have k60 : va_at D vwCl (b, .inr (3, [.ref (b + 1), .ref (b + 3), .ref (b + 5), .ref (b + 7), .ref (b + 9), .int (z.st), .int (z.was), .int (0), .int (0), .int (z.lo), .int (z.ma), .int (z.va), .int (z.sp), .int (z.dr), .int (z.pf), .int (z.ss), .int (0), .int (z.ro)])) H58 := u59.2.2
      refine lv_aload_n C.1 C.2.1 d_No_seeOff_62 rfl (lv_at hl 0 rfl) ?_
      refine lv_iconst (v := 0) C.1 C.2.1 d_No_seeOff_63 (by decide) ?_
      refine hq_put (lo := lo) C f_No_42 k60 rfl rfl (Nat.le_of_ble_eq_true rfl) hL (by omega) d_No_seeOff_64 (fun H61 locs u62 hL => ?_)
      have k63 : va_at D vwCl (b, .inr (3, [.ref (b + 1), .ref (b + 3), .ref (b + 5), .ref (b + 7), .ref (b + 9), .int (0), .int (z.was), .int (0), .int (0), .int (z.lo), .int (z.ma), .int (z.va), .int (z.sp), .int (z.dr), .int (z.pf), .int (z.ss), .int (0), .int (z.ro)])) H61 := u62.2.2
      refine lv_iconst (v := 0) C.1 C.2.1 d_No_seeOff_67 (by decide) ?_
      have hf : f_No_seeOff z x = ((sNd.mk 0 z.was 0 0 z.lo z.ma z.va z.sp z.dr z.pf z.ss 0 z.ro z.w z.i z.d z.k z.r), 0) := by unfold f_No_seeOff; rw [if_neg c41, if_neg c45]
      have k64 := hq_au (hq_au (hq_au (hq_au kz.2.1.1 u43 (by omega)) u56 (by omega)) u59 (by omega)) u62 (by omega)
      have k65 := hq_au (hq_au (hq_au (hq_au kz.2.1.2 u43 (by omega)) u56 (by omega)) u59 (by omega)) u62 (by omega)
      have k66 := hq_au (hq_au (hq_au (hq_au kz.2.2.1.1 u43 (by omega)) u56 (by omega)) u59 (by omega)) u62 (by omega)
      have k67 := hq_au (hq_au (hq_au (hq_au kz.2.2.1.2 u43 (by omega)) u56 (by omega)) u59 (by omega)) u62 (by omega)
      have k68 := hq_au (hq_au (hq_au (hq_au kz.2.2.2.1.1 u43 (by omega)) u56 (by omega)) u59 (by omega)) u62 (by omega)
      have k69 := hq_au (hq_au (hq_au (hq_au kz.2.2.2.1.2 u43 (by omega)) u56 (by omega)) u59 (by omega)) u62 (by omega)
      have k70 := hq_au (hq_au (hq_au (hq_au kz.2.2.2.2.1.1 u43 (by omega)) u56 (by omega)) u59 (by omega)) u62 (by omega)
      have k71 := hq_au (hq_au (hq_au (hq_au kz.2.2.2.2.1.2 u43 (by omega)) u56 (by omega)) u59 (by omega)) u62 (by omega)
      have k72 := hq_au (hq_au (hq_au (hq_au kz.2.2.2.2.2 u43 (by omega)) u56 (by omega)) u59 (by omega)) u62 (by omega)
      exact hq_iret C hret hlk (Nat.le_of_ble_eq_true rfl) (Nat.le_of_ble_eq_true rfl) hL ⟨by rw [hf], by rw [hf]; exact ⟨k63, ⟨k64, k65⟩, ⟨k66, k67⟩, ⟨k68, k69⟩, ⟨k70, k71⟩, k72⟩, hq_Sput (hq_Sput (hq_Sput (hq_Sput (hq_S0) u43 (by omega) (by omega)) u56 (by omega) (by omega)) u59 (by omega) (by omega)) u62 (by omega) (by omega)⟩ d_No_seeOff_68
  · intro c41
    refine lv_aload_n C.1 C.2.1 d_No_seeOff_6 rfl (lv_at hl 0 rfl) ?_
    refine hq_get (v := .int (z.on)) C f_No_77 kz.1 rfl d_No_seeOff_7 ?_
    refine lv_iconst (v := 1) C.1 C.2.1 d_No_seeOff_10 (by decide) ?_
    refine lv_iadd C.1 C.2.1 d_No_seeOff_11 ?_
    refine lv_goto (tgt := 16) C.1 C.2.1 d_No_seeOff_12 (by decide) ?_
    refine hq_put (lo := lo) C f_No_77 kz.1 rfl rfl (Nat.le_of_ble_eq_true rfl) hL (by omega) d_No_seeOff_16 (fun H73 locs u74 hL => ?_)
    have k75 : va_at D vwCl (b, .inr (3, [.ref (b + 1), .ref (b + 3), .ref (b + 5), .ref (b + 7), .ref (b + 9), .int (z.st), .int (z.was), .int (z.se), .int (z.he), .int (z.lo), .int (z.ma), .int (z.va), .int (z.sp), .int (z.dr), .int (z.pf), .int (z.ss), .int (z.on + 1), .int (z.ro)])) H73 := u74.2.2
    refine lv_aload_n C.1 C.2.1 d_No_seeOff_19 rfl (lv_at hl 0 rfl) ?_
    refine hq_get (v := .int (z.on + 1)) C f_No_77 k75 rfl d_No_seeOff_20 ?_
    refine lv_bipush (v := 11) C.1 C.2.1 d_No_seeOff_23 (by decide) ?_
    refine lv_icmp_lt (tgt := 43) C.1 C.2.1 d_No_seeOff_25 (by decide) ?_ ?_
    · intro c76
      refine lv_aload_n C.1 C.2.1 d_No_seeOff_43 rfl (lv_at hl 0 rfl) ?_
      refine hq_get (v := .int (z.ro)) C f_No_80 k75 rfl d_No_seeOff_44 ?_
      refine lv_bipush (v := 8) C.1 C.2.1 d_No_seeOff_47 (by decide) ?_
      refine lv_icmp_lt (tgt := 67) C.1 C.2.1 d_No_seeOff_49 (by decide) ?_ ?_
      · intro c77
        refine lv_iconst (v := 0) C.1 C.2.1 d_No_seeOff_67 (by decide) ?_
        have hf : f_No_seeOff z x = ((sNd.mk z.st z.was z.se z.he z.lo z.ma z.va z.sp z.dr z.pf z.ss (z.on + 1) z.ro z.w z.i z.d z.k z.r), 0) := by unfold f_No_seeOff; rw [if_pos c41, if_pos c76, if_pos c77]
        have k78 := hq_au kz.2.1.1 u74 (by omega)
        have k79 := hq_au kz.2.1.2 u74 (by omega)
        have k80 := hq_au kz.2.2.1.1 u74 (by omega)
        have k81 := hq_au kz.2.2.1.2 u74 (by omega)
        have k82 := hq_au kz.2.2.2.1.1 u74 (by omega)
        have k83 := hq_au kz.2.2.2.1.2 u74 (by omega)
        have k84 := hq_au kz.2.2.2.2.1.1 u74 (by omega)
        have k85 := hq_au kz.2.2.2.2.1.2 u74 (by omega)
        have k86 := hq_au kz.2.2.2.2.2 u74 (by omega)
        exact hq_iret C hret hlk (Nat.le_of_ble_eq_true rfl) (Nat.le_of_ble_eq_true rfl) hL ⟨by rw [hf], by rw [hf]; exact ⟨k75, ⟨k78, k79⟩, ⟨k80, k81⟩, ⟨k82, k83⟩, ⟨k84, k85⟩, k86⟩, hq_Sput (hq_S0) u74 (by omega) (by omega)⟩ d_No_seeOff_68
      · intro c77
        refine lv_aload_n C.1 C.2.1 d_No_seeOff_52 rfl (lv_at hl 0 rfl) ?_
        refine lv_iconst (v := 0) C.1 C.2.1 d_No_seeOff_53 (by decide) ?_
        refine hq_put (lo := lo) C f_No_49 k75 rfl rfl (Nat.le_of_ble_eq_true rfl) hL (by omega) d_No_seeOff_54 (fun H87 locs u88 hL => ?_)
        have k89 : va_at D vwCl (b, .inr (3, [.ref (b + 1), .ref (b + 3), .ref (b + 5), .ref (b + 7), .ref (b + 9), .int (z.st), .int (z.was), .int (0), .int (z.he), .int (z.lo), .int (z.ma), .int (z.va), .int (z.sp), .int (z.dr), .int (z.pf), .int (z.ss), .int (z.on + 1), .int (z.ro)])) H87 := u88.2.2
        refine lv_aload_n C.1 C.2.1 d_No_seeOff_57 rfl (lv_at hl 0 rfl) ?_
        refine lv_iconst (v := 0) C.1 C.2.1 d_No_seeOff_58 (by decide) ?_
        refine hq_put (lo := lo) C f_No_52 k89 rfl rfl (Nat.le_of_ble_eq_true rfl) hL (by omega) d_No_seeOff_59 (fun H90 locs u91 hL => ?_)
        have k92 : va_at D vwCl (b, .inr (3, [.ref (b + 1), .ref (b + 3), .ref (b + 5), .ref (b + 7), .ref (b + 9), .int (z.st), .int (z.was), .int (0), .int (0), .int (z.lo), .int (z.ma), .int (z.va), .int (z.sp), .int (z.dr), .int (z.pf), .int (z.ss), .int (z.on + 1), .int (z.ro)])) H90 := u91.2.2
        refine lv_aload_n C.1 C.2.1 d_No_seeOff_62 rfl (lv_at hl 0 rfl) ?_
        refine lv_iconst (v := 0) C.1 C.2.1 d_No_seeOff_63 (by decide) ?_
        refine hq_put (lo := lo) C f_No_42 k92 rfl rfl (Nat.le_of_ble_eq_true rfl) hL (by omega) d_No_seeOff_64 (fun H93 locs u94 hL => ?_)
        have k95 : va_at D vwCl (b, .inr (3, [.ref (b + 1), .ref (b + 3), .ref (b + 5), .ref (b + 7), .ref (b + 9), .int (0), .int (z.was), .int (0), .int (0), .int (z.lo), .int (z.ma), .int (z.va), .int (z.sp), .int (z.dr), .int (z.pf), .int (z.ss), .int (z.on + 1), .int (z.ro)])) H93 := u94.2.2
        refine lv_iconst (v := 0) C.1 C.2.1 d_No_seeOff_67 (by decide) ?_
        have hf : f_No_seeOff z x = ((sNd.mk 0 z.was 0 0 z.lo z.ma z.va z.sp z.dr z.pf z.ss (z.on + 1) z.ro z.w z.i z.d z.k z.r), 0) := by unfold f_No_seeOff; rw [if_pos c41, if_pos c76, if_neg c77]
        have k96 := hq_au (hq_au (hq_au (hq_au kz.2.1.1 u74 (by omega)) u88 (by omega)) u91 (by omega)) u94 (by omega)
        have k97 := hq_au (hq_au (hq_au (hq_au kz.2.1.2 u74 (by omega)) u88 (by omega)) u91 (by omega)) u94 (by omega)
        have k98 := hq_au (hq_au (hq_au (hq_au kz.2.2.1.1 u74 (by omega)) u88 (by omega)) u91 (by omega)) u94 (by omega)
        have k99 := hq_au (hq_au (hq_au (hq_au kz.2.2.1.2 u74 (by omega)) u88 (by omega)) u91 (by omega)) u94 (by omega)
        have k100 := hq_au (hq_au (hq_au (hq_au kz.2.2.2.1.1 u74 (by omega)) u88 (by omega)) u91 (by omega)) u94 (by omega)
        have k101 := hq_au (hq_au (hq_au (hq_au kz.2.2.2.1.2 u74 (by omega)) u88 (by omega)) u91 (by omega)) u94 (by omega)
        have k102 := hq_au (hq_au (hq_au (hq_au kz.2.2.2.2.1.1 u74 (by omega)) u88 (by omega)) u91 (by omega)) u94 (by omega)
        have k103 := hq_au (hq_au (hq_au (hq_au kz.2.2.2.2.1.2 u74 (by omega)) u88 (by omega)) u91 (by omega)) u94 (by omega)
        have k104 := hq_au (hq_au (hq_au (hq_au kz.2.2.2.2.2 u74 (by omega)) u88 (by omega)) u91 (by omega)) u94 (by omega)
        exact hq_iret C hret hlk (Nat.le_of_ble_eq_true rfl) (Nat.le_of_ble_eq_true rfl) hL ⟨by rw [hf], by rw [hf]; exact ⟨k95, ⟨k96, k97⟩, ⟨k98, k99⟩, ⟨k100, k101⟩, ⟨k102, k103⟩, k104⟩, hq_Sput (hq_Sput (hq_Sput (hq_Sput (hq_S0) u74 (by omega) (by omega)) u88 (by omega) (by omega)) u91 (by omega) (by omega)) u94 (by omega) (by omega)⟩ d_No_seeOff_68
    · intro c76
      refine lv_aload_n C.1 C.2.1 d_No_seeOff_28 rfl (lv_at hl 0 rfl) ?_
      refine lv_iconst (v := 0) C.1 C.2.1 d_No_seeOff_29 (by decide) ?_
      refine hq_put (lo := lo) C f_No_77 k75 rfl rfl (Nat.le_of_ble_eq_true rfl) hL (by omega) d_No_seeOff_30 (fun H105 locs u106 hL => ?_)
      have k107 : va_at D vwCl (b, .inr (3, [.ref (b + 1), .ref (b + 3), .ref (b + 5), .ref (b + 7), .ref (b + 9), .int (z.st), .int (z.was), .int (z.se), .int (z.he), .int (z.lo), .int (z.ma), .int (z.va), .int (z.sp), .int (z.dr), .int (z.pf), .int (z.ss), .int (0), .int (z.ro)])) H105 := u106.2.2
      refine lv_aload_n C.1 C.2.1 d_No_seeOff_33 rfl (lv_at hl 0 rfl) ?_
      refine lv_dup C.1 C.2.1 d_No_seeOff_34 rfl ?_
      refine hq_get (v := .int (z.ro)) C f_No_80 k107 rfl d_No_seeOff_35 ?_
      refine lv_iconst (v := 1) C.1 C.2.1 d_No_seeOff_38 (by decide) ?_
      refine lv_iadd C.1 C.2.1 d_No_seeOff_39 ?_
      refine hq_put (lo := lo) C f_No_80 k107 rfl rfl (Nat.le_of_ble_eq_true rfl) hL (by omega) d_No_seeOff_40 (fun H108 locs u109 hL => ?_)
      have k110 : va_at D vwCl (b, .inr (3, [.ref (b + 1), .ref (b + 3), .ref (b + 5), .ref (b + 7), .ref (b + 9), .int (z.st), .int (z.was), .int (z.se), .int (z.he), .int (z.lo), .int (z.ma), .int (z.va), .int (z.sp), .int (z.dr), .int (z.pf), .int (z.ss), .int (0), .int (z.ro + 1)])) H108 := u109.2.2
      refine lv_aload_n C.1 C.2.1 d_No_seeOff_43 rfl (lv_at hl 0 rfl) ?_
      refine hq_get (v := .int (z.ro + 1)) C f_No_80 k110 rfl d_No_seeOff_44 ?_
      refine lv_bipush (v := 8) C.1 C.2.1 d_No_seeOff_47 (by decide) ?_
      refine lv_icmp_lt (tgt := 67) C.1 C.2.1 d_No_seeOff_49 (by decide) ?_ ?_
      · intro c111
        refine lv_iconst (v := 0) C.1 C.2.1 d_No_seeOff_67 (by decide) ?_
        have hf : f_No_seeOff z x = ((sNd.mk z.st z.was z.se z.he z.lo z.ma z.va z.sp z.dr z.pf z.ss 0 (z.ro + 1) z.w z.i z.d z.k z.r), 0) := by unfold f_No_seeOff; rw [if_pos c41, if_neg c76, if_pos c111]
        have k112 := hq_au (hq_au (hq_au kz.2.1.1 u74 (by omega)) u106 (by omega)) u109 (by omega)
        have k113 := hq_au (hq_au (hq_au kz.2.1.2 u74 (by omega)) u106 (by omega)) u109 (by omega)
        have k114 := hq_au (hq_au (hq_au kz.2.2.1.1 u74 (by omega)) u106 (by omega)) u109 (by omega)
        have k115 := hq_au (hq_au (hq_au kz.2.2.1.2 u74 (by omega)) u106 (by omega)) u109 (by omega)
        have k116 := hq_au (hq_au (hq_au kz.2.2.2.1.1 u74 (by omega)) u106 (by omega)) u109 (by omega)
        have k117 := hq_au (hq_au (hq_au kz.2.2.2.1.2 u74 (by omega)) u106 (by omega)) u109 (by omega)
        have k118 := hq_au (hq_au (hq_au kz.2.2.2.2.1.1 u74 (by omega)) u106 (by omega)) u109 (by omega)
        have k119 := hq_au (hq_au (hq_au kz.2.2.2.2.1.2 u74 (by omega)) u106 (by omega)) u109 (by omega)
        have k120 := hq_au (hq_au (hq_au kz.2.2.2.2.2 u74 (by omega)) u106 (by omega)) u109 (by omega)
        exact hq_iret C hret hlk (Nat.le_of_ble_eq_true rfl) (Nat.le_of_ble_eq_true rfl) hL ⟨by rw [hf], by rw [hf]; exact ⟨k110, ⟨k112, k113⟩, ⟨k114, k115⟩, ⟨k116, k117⟩, ⟨k118, k119⟩, k120⟩, hq_Sput (hq_Sput (hq_Sput (hq_S0) u74 (by omega) (by omega)) u106 (by omega) (by omega)) u109 (by omega) (by omega)⟩ d_No_seeOff_68
      · intro c111
        refine lv_aload_n C.1 C.2.1 d_No_seeOff_52 rfl (lv_at hl 0 rfl) ?_
        refine lv_iconst (v := 0) C.1 C.2.1 d_No_seeOff_53 (by decide) ?_
        refine hq_put (lo := lo) C f_No_49 k110 rfl rfl (Nat.le_of_ble_eq_true rfl) hL (by omega) d_No_seeOff_54 (fun H121 locs u122 hL => ?_)
        have k123 : va_at D vwCl (b, .inr (3, [.ref (b + 1), .ref (b + 3), .ref (b + 5), .ref (b + 7), .ref (b + 9), .int (z.st), .int (z.was), .int (0), .int (z.he), .int (z.lo), .int (z.ma), .int (z.va), .int (z.sp), .int (z.dr), .int (z.pf), .int (z.ss), .int (0), .int (z.ro + 1)])) H121 := u122.2.2
        refine lv_aload_n C.1 C.2.1 d_No_seeOff_57 rfl (lv_at hl 0 rfl) ?_
        refine lv_iconst (v := 0) C.1 C.2.1 d_No_seeOff_58 (by decide) ?_
        refine hq_put (lo := lo) C f_No_52 k123 rfl rfl (Nat.le_of_ble_eq_true rfl) hL (by omega) d_No_seeOff_59 (fun H124 locs u125 hL => ?_)
        have k126 : va_at D vwCl (b, .inr (3, [.ref (b + 1), .ref (b + 3), .ref (b + 5), .ref (b + 7), .ref (b + 9), .int (z.st), .int (z.was), .int (0), .int (0), .int (z.lo), .int (z.ma), .int (z.va), .int (z.sp), .int (z.dr), .int (z.pf), .int (z.ss), .int (0), .int (z.ro + 1)])) H124 := u125.2.2
        refine lv_aload_n C.1 C.2.1 d_No_seeOff_62 rfl (lv_at hl 0 rfl) ?_
        refine lv_iconst (v := 0) C.1 C.2.1 d_No_seeOff_63 (by decide) ?_
        refine hq_put (lo := lo) C f_No_42 k126 rfl rfl (Nat.le_of_ble_eq_true rfl) hL (by omega) d_No_seeOff_64 (fun H127 locs u128 hL => ?_)
        have k129 : va_at D vwCl (b, .inr (3, [.ref (b + 1), .ref (b + 3), .ref (b + 5), .ref (b + 7), .ref (b + 9), .int (0), .int (z.was), .int (0), .int (0), .int (z.lo), .int (z.ma), .int (z.va), .int (z.sp), .int (z.dr), .int (z.pf), .int (z.ss), .int (0), .int (z.ro + 1)])) H127 := u128.2.2
        refine lv_iconst (v := 0) C.1 C.2.1 d_No_seeOff_67 (by decide) ?_
        have hf : f_No_seeOff z x = ((sNd.mk 0 z.was 0 0 z.lo z.ma z.va z.sp z.dr z.pf z.ss 0 (z.ro + 1) z.w z.i z.d z.k z.r), 0) := by unfold f_No_seeOff; rw [if_pos c41, if_neg c76, if_neg c111]
        have k130 := hq_au (hq_au (hq_au (hq_au (hq_au (hq_au kz.2.1.1 u74 (by omega)) u106 (by omega)) u109 (by omega)) u122 (by omega)) u125 (by omega)) u128 (by omega)
        have k131 := hq_au (hq_au (hq_au (hq_au (hq_au (hq_au kz.2.1.2 u74 (by omega)) u106 (by omega)) u109 (by omega)) u122 (by omega)) u125 (by omega)) u128 (by omega)
        have k132 := hq_au (hq_au (hq_au (hq_au (hq_au (hq_au kz.2.2.1.1 u74 (by omega)) u106 (by omega)) u109 (by omega)) u122 (by omega)) u125 (by omega)) u128 (by omega)
        have k133 := hq_au (hq_au (hq_au (hq_au (hq_au (hq_au kz.2.2.1.2 u74 (by omega)) u106 (by omega)) u109 (by omega)) u122 (by omega)) u125 (by omega)) u128 (by omega)
        have k134 := hq_au (hq_au (hq_au (hq_au (hq_au (hq_au kz.2.2.2.1.1 u74 (by omega)) u106 (by omega)) u109 (by omega)) u122 (by omega)) u125 (by omega)) u128 (by omega)
        have k135 := hq_au (hq_au (hq_au (hq_au (hq_au (hq_au kz.2.2.2.1.2 u74 (by omega)) u106 (by omega)) u109 (by omega)) u122 (by omega)) u125 (by omega)) u128 (by omega)
        have k136 := hq_au (hq_au (hq_au (hq_au (hq_au (hq_au kz.2.2.2.2.1.1 u74 (by omega)) u106 (by omega)) u109 (by omega)) u122 (by omega)) u125 (by omega)) u128 (by omega)
        have k137 := hq_au (hq_au (hq_au (hq_au (hq_au (hq_au kz.2.2.2.2.1.2 u74 (by omega)) u106 (by omega)) u109 (by omega)) u122 (by omega)) u125 (by omega)) u128 (by omega)
        have k138 := hq_au (hq_au (hq_au (hq_au (hq_au (hq_au kz.2.2.2.2.2 u74 (by omega)) u106 (by omega)) u109 (by omega)) u122 (by omega)) u125 (by omega)) u128 (by omega)
        exact hq_iret C hret hlk (Nat.le_of_ble_eq_true rfl) (Nat.le_of_ble_eq_true rfl) hL ⟨by rw [hf], by rw [hf]; exact ⟨k129, ⟨k130, k131⟩, ⟨k132, k133⟩, ⟨k134, k135⟩, ⟨k136, k137⟩, k138⟩, hq_Sput (hq_Sput (hq_Sput (hq_Sput (hq_Sput (hq_Sput (hq_S0) u74 (by omega) (by omega)) u106 (by omega) (by omega)) u109 (by omega) (by omega)) u122 (by omega) (by omega)) u125 (by omega) (by omega)) u128 (by omega) (by omega)⟩ d_No_seeOff_68
def f_No_see_18 (z : sNd) (v2 : Int32) : sNd × Int32 := if z.st = 1 then ((f_No_seeSending z v2)) else (if z.st = 2 then ((f_No_seeHearing z v2)) else (if z.st = 3 then ((f_No_seeInFlag z v2)) else (if z.st = 4 then ((f_No_seeAfter z v2)) else (if z.st = 5 then ((f_No_seeInPause z v2)) else (if z.st = 6 then ((f_No_seeSuspended z v2)) else (if z.st = 7 then ((f_No_seeOff z v2)) else (if v2 = 0 then ((f_No_beginToHear z)) else ((z, 0)))))))))
def f_No_see (z : sNd) (x : Int32) : sNd × Int32 := if ((f_Di_next z.d).2) = 0 then (f_No_see_18 (sNd.mk z.st z.was z.se z.he z.lo z.ma z.va z.sp z.dr z.pf z.ss z.on z.ro z.w z.i (f_Di_next z.d).1 z.k z.r) x) else (f_No_see_18 (sNd.mk z.st z.was z.se z.he z.lo z.ma z.va z.sp z.dr z.pf z.ss z.on z.ro z.w z.i (f_Di_next z.d).1 z.k z.r) (1 - x))
set_option maxHeartbeats 4000000 in
set_option maxRecDepth 100000 in
theorem s_No_see_18 {p : Program} {l : Launch} {e : Env} {s : State} {m : MethodId} {args : Array Value} {below : List Frame} {meth : Method} {c : Code} {H : Heap} {locs : List Loc} {ls : Array Slot} (D : va_G) (cI cZ cN cJ : ClassId) (lo b : Nat) (hlo : lo ≤ b) (z : sNd) (ok : okNd z) (v2 : Int32) {R9 : sNd × Int32} (hR : f_No_see_18 z v2 = R9) (C : hq_C p c s m args R_No b_No_see TB D vwCl (TY cI cZ cN cJ)) (hml : c.maxLocals = 3) (hret : meth.sig.returnType = (some .int)) (hlk : meth.locks = false) (hL : hq_L lo locs) (kz : NdP D cI cZ b z H) (hS : hq_S b 10 s.heap H) (hl : lv_has ls 3 [(0, .ref (b)), (2, .int (v2))]) : W p l e { frames := 5, cells := 0, slots := 0, locals := 115 } s m args below meth c H locs 0 0 (MQ below (hq_Q (fun H v H' => v = some (.int (R9).2) ∧ NdP D cI cZ b (R9).1 H' ∧ hq_S b 10 H H')) args s 0 0 (fun q => lo ≤ q)) (F0 m 18 ls []) := by
  refine lv_aload_n C.1 C.2.1 d_No_see_18 rfl (lv_at hl 0 rfl) ?_
  refine hq_get (v := .int (z.st)) C f_No_42 kz.1 rfl d_No_see_19 ?_
  by_cases g61 : z.st = 1
  · refine lv_tableIn (tgt := 64) C.1 C.2.1 d_No_see_22 (by rw [g61]; decide) (by rw [g61]; decide) (off := 42) (by rw [g61]; decide) (by decide) ?_
    refine lv_aload_n C.1 C.2.1 d_No_see_64 rfl (lv_at hl 0 rfl) ?_
    refine lv_iload_n C.1 C.2.1 d_No_see_65 rfl (lv_at hl 1 rfl) ?_
    refine hq_callV (lo := lo) (As := [.int (v2)]) (rest := []) C tb_good hml Y_No_119 (c_No_seeSending l D cI cZ cN cJ lo (b) (by omega) z ok v2) kz.1 rfl (fun _ _ _ _ h => h) (fun U hU hW => by show NdP D cI cZ (b) z U.heap; rw [hU]; exact kz) hL hl.1 rfl rfl ⟨⟨Nat.le_of_ble_eq_true rfl, Nat.le_of_ble_eq_true rfl⟩, Nat.le_of_ble_eq_true rfl, Nat.le_of_ble_eq_true rfl⟩ (Nat.le_of_ble_eq_true rfl) d_No_see_66 (fun v H64 locs hp hL => ?_)
    obtain ⟨rfl, k63, S62⟩ := hp
    refine W.eq (g2 := F0 m 69 ls [.int ((f_No_seeSending z v2).2)]) rfl ?_
    have hf : R9 = (f_No_seeSending z v2) := by rw [← hR]; unfold f_No_see_18; rw [if_pos g61]
    exact hq_iret C hret hlk (Nat.le_of_ble_eq_true rfl) (Nat.le_of_ble_eq_true rfl) hL ⟨by rw [hf], by rw [hf]; exact k63, hq_Scall (hS) S62 (by omega) (by omega)⟩ d_No_see_69
  · skip
    by_cases g65 : z.st = 2
    · refine lv_tableIn (tgt := 70) C.1 C.2.1 d_No_see_22 (by rw [g65]; decide) (by rw [g65]; decide) (off := 48) (by rw [g65]; decide) (by decide) ?_
      refine lv_aload_n C.1 C.2.1 d_No_see_70 rfl (lv_at hl 0 rfl) ?_
      refine lv_iload_n C.1 C.2.1 d_No_see_71 rfl (lv_at hl 1 rfl) ?_
      refine hq_callV (lo := lo) (As := [.int (v2)]) (rest := []) C tb_good hml Y_No_122 (c_No_seeHearing l D cI cZ cN cJ lo (b) (by omega) z ok v2) kz.1 rfl (fun _ _ _ _ h => h) (fun U hU hW => by show NdP D cI cZ (b) z U.heap; rw [hU]; exact kz) hL hl.1 rfl rfl ⟨⟨Nat.le_of_ble_eq_true rfl, Nat.le_of_ble_eq_true rfl⟩, Nat.le_of_ble_eq_true rfl, Nat.le_of_ble_eq_true rfl⟩ (Nat.le_of_ble_eq_true rfl) d_No_see_72 (fun v H68 locs hp hL => ?_)
      obtain ⟨rfl, k67, S66⟩ := hp
      refine W.eq (g2 := F0 m 75 ls [.int ((f_No_seeHearing z v2).2)]) rfl ?_
      have hf : R9 = (f_No_seeHearing z v2) := by rw [← hR]; unfold f_No_see_18; rw [if_neg g61, if_pos g65]
      exact hq_iret C hret hlk (Nat.le_of_ble_eq_true rfl) (Nat.le_of_ble_eq_true rfl) hL ⟨by rw [hf], by rw [hf]; exact k67, hq_Scall (hS) S66 (by omega) (by omega)⟩ d_No_see_75
    · skip
      by_cases g69 : z.st = 3
      · refine lv_tableIn (tgt := 76) C.1 C.2.1 d_No_see_22 (by rw [g69]; decide) (by rw [g69]; decide) (off := 54) (by rw [g69]; decide) (by decide) ?_
        refine lv_aload_n C.1 C.2.1 d_No_see_76 rfl (lv_at hl 0 rfl) ?_
        refine lv_iload_n C.1 C.2.1 d_No_see_77 rfl (lv_at hl 1 rfl) ?_
        refine hq_callV (lo := lo) (As := [.int (v2)]) (rest := []) C tb_good hml Y_No_125 (c_No_seeInFlag l D cI cZ cN cJ lo (b) (by omega) z v2) kz.1 rfl (fun _ _ _ _ h => h) (fun U hU hW => by show NdP D cI cZ (b) z U.heap; rw [hU]; exact kz) hL hl.1 rfl rfl ⟨⟨Nat.le_of_ble_eq_true rfl, Nat.le_of_ble_eq_true rfl⟩, Nat.le_of_ble_eq_true rfl, Nat.le_of_ble_eq_true rfl⟩ (Nat.le_of_ble_eq_true rfl) d_No_see_78 (fun v H72 locs hp hL => ?_)
        obtain ⟨rfl, k71, S70⟩ := hp
        refine W.eq (g2 := F0 m 81 ls [.int ((f_No_seeInFlag z v2).2)]) rfl ?_
        have hf : R9 = (f_No_seeInFlag z v2) := by rw [← hR]; unfold f_No_see_18; rw [if_neg g61, if_neg g65, if_pos g69]
        exact hq_iret C hret hlk (Nat.le_of_ble_eq_true rfl) (Nat.le_of_ble_eq_true rfl) hL ⟨by rw [hf], by rw [hf]; exact k71, hq_Scall (hS) S70 (by omega) (by omega)⟩ d_No_see_81
      · skip
        by_cases g73 : z.st = 4
        · refine lv_tableIn (tgt := 82) C.1 C.2.1 d_No_see_22 (by rw [g73]; decide) (by rw [g73]; decide) (off := 60) (by rw [g73]; decide) (by decide) ?_
          refine lv_aload_n C.1 C.2.1 d_No_see_82 rfl (lv_at hl 0 rfl) ?_
          refine lv_iload_n C.1 C.2.1 d_No_see_83 rfl (lv_at hl 1 rfl) ?_
          refine hq_callV (lo := lo) (As := [.int (v2)]) (rest := []) C tb_good hml Y_No_128 (c_No_seeAfter l D cI cZ cN cJ lo (b) (by omega) z v2) kz.1 rfl (fun _ _ _ _ h => h) (fun U hU hW => by show NdP D cI cZ (b) z U.heap; rw [hU]; exact kz) hL hl.1 rfl rfl ⟨⟨Nat.le_of_ble_eq_true rfl, Nat.le_of_ble_eq_true rfl⟩, Nat.le_of_ble_eq_true rfl, Nat.le_of_ble_eq_true rfl⟩ (Nat.le_of_ble_eq_true rfl) d_No_see_84 (fun v H76 locs hp hL => ?_)
          obtain ⟨rfl, k75, S74⟩ := hp
          refine W.eq (g2 := F0 m 87 ls [.int ((f_No_seeAfter z v2).2)]) rfl ?_
          have hf : R9 = (f_No_seeAfter z v2) := by rw [← hR]; unfold f_No_see_18; rw [if_neg g61, if_neg g65, if_neg g69, if_pos g73]
          exact hq_iret C hret hlk (Nat.le_of_ble_eq_true rfl) (Nat.le_of_ble_eq_true rfl) hL ⟨by rw [hf], by rw [hf]; exact k75, hq_Scall (hS) S74 (by omega) (by omega)⟩ d_No_see_87
        · skip
          by_cases g77 : z.st = 5
          · refine lv_tableIn (tgt := 88) C.1 C.2.1 d_No_see_22 (by rw [g77]; decide) (by rw [g77]; decide) (off := 66) (by rw [g77]; decide) (by decide) ?_
            refine lv_aload_n C.1 C.2.1 d_No_see_88 rfl (lv_at hl 0 rfl) ?_
            refine lv_iload_n C.1 C.2.1 d_No_see_89 rfl (lv_at hl 1 rfl) ?_
            refine hq_callV (lo := lo) (As := [.int (v2)]) (rest := []) C tb_good hml Y_No_131 (c_No_seeInPause l D cI cZ cN cJ lo (b) (by omega) z v2) kz.1 rfl (fun _ _ _ _ h => h) (fun U hU hW => by show NdP D cI cZ (b) z U.heap; rw [hU]; exact kz) hL hl.1 rfl rfl ⟨⟨Nat.le_of_ble_eq_true rfl, Nat.le_of_ble_eq_true rfl⟩, Nat.le_of_ble_eq_true rfl, Nat.le_of_ble_eq_true rfl⟩ (Nat.le_of_ble_eq_true rfl) d_No_see_90 (fun v H80 locs hp hL => ?_)
            obtain ⟨rfl, k79, S78⟩ := hp
            refine W.eq (g2 := F0 m 93 ls [.int ((f_No_seeInPause z v2).2)]) rfl ?_
            have hf : R9 = (f_No_seeInPause z v2) := by rw [← hR]; unfold f_No_see_18; rw [if_neg g61, if_neg g65, if_neg g69, if_neg g73, if_pos g77]
            exact hq_iret C hret hlk (Nat.le_of_ble_eq_true rfl) (Nat.le_of_ble_eq_true rfl) hL ⟨by rw [hf], by rw [hf]; exact k79, hq_Scall (hS) S78 (by omega) (by omega)⟩ d_No_see_93
          · skip
            by_cases g81 : z.st = 6
            · refine lv_tableIn (tgt := 94) C.1 C.2.1 d_No_see_22 (by rw [g81]; decide) (by rw [g81]; decide) (off := 72) (by rw [g81]; decide) (by decide) ?_
              refine lv_aload_n C.1 C.2.1 d_No_see_94 rfl (lv_at hl 0 rfl) ?_
              refine lv_iload_n C.1 C.2.1 d_No_see_95 rfl (lv_at hl 1 rfl) ?_
              refine hq_callV (lo := lo) (As := [.int (v2)]) (rest := []) C tb_good hml Y_No_134 (c_No_seeSuspended l D cI cZ cN cJ lo (b) (by omega) z v2) kz.1 rfl (fun _ _ _ _ h => h) (fun U hU hW => by show NdP D cI cZ (b) z U.heap; rw [hU]; exact kz) hL hl.1 rfl rfl ⟨⟨Nat.le_of_ble_eq_true rfl, Nat.le_of_ble_eq_true rfl⟩, Nat.le_of_ble_eq_true rfl, Nat.le_of_ble_eq_true rfl⟩ (Nat.le_of_ble_eq_true rfl) d_No_see_96 (fun v H84 locs hp hL => ?_)
              obtain ⟨rfl, k83, S82⟩ := hp
              refine W.eq (g2 := F0 m 99 ls [.int ((f_No_seeSuspended z v2).2)]) rfl ?_
              have hf : R9 = (f_No_seeSuspended z v2) := by rw [← hR]; unfold f_No_see_18; rw [if_neg g61, if_neg g65, if_neg g69, if_neg g73, if_neg g77, if_pos g81]
              exact hq_iret C hret hlk (Nat.le_of_ble_eq_true rfl) (Nat.le_of_ble_eq_true rfl) hL ⟨by rw [hf], by rw [hf]; exact k83, hq_Scall (hS) S82 (by omega) (by omega)⟩ d_No_see_99
            · skip
              by_cases g85 : z.st = 7
              · refine lv_tableIn (tgt := 100) C.1 C.2.1 d_No_see_22 (by rw [g85]; decide) (by rw [g85]; decide) (off := 78) (by rw [g85]; decide) (by decide) ?_
                refine lv_aload_n C.1 C.2.1 d_No_see_100 rfl (lv_at hl 0 rfl) ?_
                refine lv_iload_n C.1 C.2.1 d_No_see_101 rfl (lv_at hl 1 rfl) ?_
                refine hq_callV (lo := lo) (As := [.int (v2)]) (rest := []) C tb_good hml Y_No_137 (c_No_seeOff l D cI cZ cN cJ lo (b) (by omega) z v2) kz.1 rfl (fun _ _ _ _ h => h) (fun U hU hW => by show NdP D cI cZ (b) z U.heap; rw [hU]; exact kz) hL hl.1 rfl rfl ⟨⟨Nat.le_of_ble_eq_true rfl, Nat.le_of_ble_eq_true rfl⟩, Nat.le_of_ble_eq_true rfl, Nat.le_of_ble_eq_true rfl⟩ (Nat.le_of_ble_eq_true rfl) d_No_see_102 (fun v H88 locs hp hL => ?_)
                obtain ⟨rfl, k87, S86⟩ := hp
                refine W.eq (g2 := F0 m 105 ls [.int ((f_No_seeOff z v2).2)]) rfl ?_
                have hf : R9 = (f_No_seeOff z v2) := by rw [← hR]; unfold f_No_see_18; rw [if_neg g61, if_neg g65, if_neg g69, if_neg g73, if_neg g77, if_neg g81, if_pos g85]
                exact hq_iret C hret hlk (Nat.le_of_ble_eq_true rfl) (Nat.le_of_ble_eq_true rfl) hL ⟨by rw [hf], by rw [hf]; exact k87, hq_Scall (hS) S86 (by omega) (by omega)⟩ d_No_see_105
              · skip
                have hout : (z.st).toInt < 1 ∨ 7 < (z.st).toInt := by
                  have y0 := lv_neT g61 (a := 1) rfl
                  have y1 := lv_neT g65 (a := 2) rfl
                  have y2 := lv_neT g69 (a := 3) rfl
                  have y3 := lv_neT g73 (a := 4) rfl
                  have y4 := lv_neT g77 (a := 5) rfl
                  have y5 := lv_neT g81 (a := 6) rfl
                  have y6 := lv_neT g85 (a := 7) rfl
                  omega
                refine lv_tableOut (tgt := 106) C.1 C.2.1 d_No_see_22 hout (by decide) ?_
                refine lv_iload_n C.1 C.2.1 d_No_see_106 rfl (lv_at hl 1 rfl) ?_
                refine lv_if_ne (tgt := 117) C.1 C.2.1 d_No_see_107 (by decide) ?_ ?_
                · intro c89
                  refine lv_iconst (v := 0) C.1 C.2.1 d_No_see_117 (by decide) ?_
                  have hf : R9 = (z, 0) := by rw [← hR]; unfold f_No_see_18; rw [if_neg g61, if_neg g65, if_neg g69, if_neg g73, if_neg g77, if_neg g81, if_neg g85, if_neg c89]
                  exact hq_iret C hret hlk (Nat.le_of_ble_eq_true rfl) (Nat.le_of_ble_eq_true rfl) hL ⟨by rw [hf], by rw [hf]; exact kz, hS⟩ d_No_see_118
                · intro c89
                  refine lv_aload_n C.1 C.2.1 d_No_see_110 rfl (lv_at hl 0 rfl) ?_
                  refine hq_callV (lo := lo) (As := []) (rest := []) C tb_good hml Y_No_140 (c_No_beginToHear l D cI cZ cN cJ lo (b) (by omega) z) kz.1 rfl (fun _ _ _ _ h => h) (fun U hU hW => by show NdP D cI cZ (b) z U.heap; rw [hU]; exact kz) hL hl.1 rfl rfl ⟨⟨Nat.le_of_ble_eq_true rfl, Nat.le_of_ble_eq_true rfl⟩, Nat.le_of_ble_eq_true rfl, Nat.le_of_ble_eq_true rfl⟩ (Nat.le_of_ble_eq_true rfl) d_No_see_111 (fun v H92 locs hp hL => ?_)
                  obtain ⟨rfl, k91, S90⟩ := hp
                  refine W.eq (g2 := F0 m 114 ls [.int ((f_No_beginToHear z).2)]) rfl ?_
                  refine lv_goto (tgt := 118) C.1 C.2.1 d_No_see_114 (by decide) ?_
                  have hf : R9 = (f_No_beginToHear z) := by rw [← hR]; unfold f_No_see_18; rw [if_neg g61, if_neg g65, if_neg g69, if_neg g73, if_neg g77, if_neg g81, if_neg g85, if_pos c89]
                  exact hq_iret C hret hlk (Nat.le_of_ble_eq_true rfl) (Nat.le_of_ble_eq_true rfl) hL ⟨by rw [hf], by rw [hf]; exact k91, hq_Scall (hS) S90 (by omega) (by omega)⟩ d_No_see_118
set_option maxHeartbeats 4000000 in
set_option maxRecDepth 100000 in
theorem c_No_see (l : Launch) (D : va_G) (cI cZ cN cJ : ClassId) (lo : Nat) (b : Nat) (hlo : lo ≤ b) (z : sNd) (ok : okNd z) (x : Int32) : hq_M l y_No_see b_No_see 3 (some .int) TB { frames := 5, cells := 0, slots := 0, locals := 115 } lo D vwCl (TY cI cZ cN cJ) [.ref (b), .int (x)] (fun U => NdP D cI cZ b z U.heap) (fun H v H' => v = some (.int (f_No_see z x).2) ∧ NdP D cI cZ b (f_No_see z x).1 H' ∧ hq_S b 10 H H') := by
  refine hq_ofW (by decide) (Nat.le_of_ble_eq_true rfl) ?_
  intro p e s m below meth c ls C hml hret hlk hnm hl hP
  have hL : hq_L lo [] := hq_L0
  have hl : lv_has ls 3 [(0, .ref (b)), (1, .int (x))] := hl
  have kz := hP
  refine lv_aload_n C.1 C.2.1 d_No_see_0 rfl (lv_at hl 0 rfl) ?_
  refine hq_get (v := .ref (b + 5)) C f_No_24 kz.1 rfl d_No_see_1 ?_
  refine hq_callV (lo := lo) (As := []) (rest := []) C tb_good hml Y_No_116 (c_Di_next l D cI cZ cN cJ lo (b + 5) (by omega) z.d ok.2.2.1) kz.2.2.2.1.1 rfl (fun _ _ _ _ h => h) (fun U hU hW => by show DiP D cZ (b + 5) z.d U.heap; rw [hU]; exact ⟨kz.2.2.2.1.1, kz.2.2.2.1.2⟩) hL hl.1 rfl rfl ⟨⟨Nat.le_of_ble_eq_true rfl, Nat.le_of_ble_eq_true rfl⟩, Nat.le_of_ble_eq_true rfl, Nat.le_of_ble_eq_true rfl⟩ (Nat.le_of_ble_eq_true rfl) d_No_see_4 (fun v H43 locs hp hL => ?_)
  obtain ⟨rfl, k42, S41⟩ := hp
  refine W.eq (g2 := F0 m 7 ls [.int ((f_Di_next z.d).2)]) rfl ?_
  refine lv_if_eq (tgt := 16) C.1 C.2.1 d_No_see_7 (by decide) ?_ ?_
  · intro c44
    refine lv_iload_n C.1 C.2.1 d_No_see_16 rfl (lv_at hl 1 rfl) ?_
    refine lv_istore_n C.1 C.2.1 d_No_see_17 rfl hl (by decide) rfl (lv' := [(2, .int (x)), (0, .ref (b)), (1, .int (x))]) (fun ls hl => ?_)
    have k45 := hq_as kz.1 S41 (by omega)
    have k46 := hq_as kz.2.1.1 S41 (by omega)
    have k47 := hq_as kz.2.1.2 S41 (by omega)
    have k48 := hq_as kz.2.2.1.1 S41 (by omega)
    have k49 := hq_as kz.2.2.1.2 S41 (by omega)
    have k50 := hq_as kz.2.2.2.2.1.1 S41 (by omega)
    have k51 := hq_as kz.2.2.2.2.1.2 S41 (by omega)
    have k52 := hq_as kz.2.2.2.2.2 S41 (by omega)
    exact s_No_see_18 D cI cZ cN cJ lo b hlo (sNd.mk z.st z.was z.se z.he z.lo z.ma z.va z.sp z.dr z.pf z.ss z.on z.ro z.w z.i (f_Di_next z.d).1 z.k z.r) ⟨ok.1, ok.2.1, (okDi_next ok.2.2.1), ok.2.2.2⟩ x ((show f_No_see z x = f_No_see_18 (sNd.mk z.st z.was z.se z.he z.lo z.ma z.va z.sp z.dr z.pf z.ss z.on z.ro z.w z.i (f_Di_next z.d).1 z.k z.r) x from by unfold f_No_see; rw [if_pos c44]).symm) C hml hret hlk hL ⟨k45, ⟨k46, k47⟩, ⟨k48, k49⟩, ⟨k42.1, k42.2⟩, ⟨k50, k51⟩, k52⟩ (hq_Scall (hq_S0) S41 (by omega) (by omega)) (lv_push (lv_push (lv_nil hl) (lv_at hl 0 rfl)) (lv_at hl 1 rfl))
  · intro c44
    refine lv_iconst (v := 1) C.1 C.2.1 d_No_see_10 (by decide) ?_
    refine lv_iload_n C.1 C.2.1 d_No_see_11 rfl (lv_at hl 1 rfl) ?_
    refine lv_isub C.1 C.2.1 d_No_see_12 ?_
    refine lv_goto (tgt := 17) C.1 C.2.1 d_No_see_13 (by decide) ?_
    refine lv_istore_n C.1 C.2.1 d_No_see_17 rfl hl (by decide) rfl (lv' := [(2, .int (1 - x)), (0, .ref (b)), (1, .int (x))]) (fun ls hl => ?_)
    have k53 := hq_as kz.1 S41 (by omega)
    have k54 := hq_as kz.2.1.1 S41 (by omega)
    have k55 := hq_as kz.2.1.2 S41 (by omega)
    have k56 := hq_as kz.2.2.1.1 S41 (by omega)
    have k57 := hq_as kz.2.2.1.2 S41 (by omega)
    have k58 := hq_as kz.2.2.2.2.1.1 S41 (by omega)
    have k59 := hq_as kz.2.2.2.2.1.2 S41 (by omega)
    have k60 := hq_as kz.2.2.2.2.2 S41 (by omega)
    exact s_No_see_18 D cI cZ cN cJ lo b hlo (sNd.mk z.st z.was z.se z.he z.lo z.ma z.va z.sp z.dr z.pf z.ss z.on z.ro z.w z.i (f_Di_next z.d).1 z.k z.r) ⟨ok.1, ok.2.1, (okDi_next ok.2.2.1), ok.2.2.2⟩ (1 - x) ((show f_No_see z x = f_No_see_18 (sNd.mk z.st z.was z.se z.he z.lo z.ma z.va z.sp z.dr z.pf z.ss z.on z.ro z.w z.i (f_Di_next z.d).1 z.k z.r) (1 - x) from by unfold f_No_see; rw [if_neg c44]).symm) C hml hret hlk hL ⟨k53, ⟨k54, k55⟩, ⟨k56, k57⟩, ⟨k42.1, k42.2⟩, ⟨k58, k59⟩, k60⟩ (hq_Scall (hq_S0) S41 (by omega) (by omega)) (lv_push (lv_push (lv_nil hl) (lv_at hl 0 rfl)) (lv_at hl 1 rfl))
