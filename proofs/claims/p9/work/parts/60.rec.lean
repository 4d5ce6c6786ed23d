/-! A node of the reference alone. -/
abbrev sM := Int32 × Int32 × Int32 × Int32 × Int32 × Int32 × Int32 × Int32 × Int32 × Int32 × Int32 × Int32 × Int32 × Int32 × Int32 × Int32 × Int32 × Int32 × Int32 × Int32 × Int32 × Int32 × Int32 × (Nat → Int32) × (Nat → Int32) × (Nat → Int32) × (Nat → Int32)
abbrev sM.r3 (y : sM) : Int32 := y.1
abbrev sM.s3 (y : sM) (v : Int32) : sM := (v, y.2)
abbrev sM.r4 (y : sM) : Int32 := y.2.1
abbrev sM.s4 (y : sM) (v : Int32) : sM := (y.1, v, y.2.2)
abbrev sM.r5 (y : sM) : Int32 := y.2.2.1
abbrev sM.s5 (y : sM) (v : Int32) : sM := (y.1, y.2.1, v, y.2.2.2)
abbrev sM.r6 (y : sM) : Int32 := y.2.2.2.1
abbrev sM.s6 (y : sM) (v : Int32) : sM := (y.1, y.2.1, y.2.2.1, v, y.2.2.2.2)
abbrev sM.r7 (y : sM) : Int32 := y.2.2.2.2.1
abbrev sM.s7 (y : sM) (v : Int32) : sM := (y.1, y.2.1, y.2.2.1, y.2.2.2.1, v, y.2.2.2.2.2)
abbrev sM.r8 (y : sM) : Int32 := y.2.2.2.2.2.1
abbrev sM.s8 (y : sM) (v : Int32) : sM := (y.1, y.2.1, y.2.2.1, y.2.2.2.1, y.2.2.2.2.1, v, y.2.2.2.2.2.2)
abbrev sM.r9 (y : sM) : Int32 := y.2.2.2.2.2.2.1
abbrev sM.s9 (y : sM) (v : Int32) : sM := (y.1, y.2.1, y.2.2.1, y.2.2.2.1, y.2.2.2.2.1, y.2.2.2.2.2.1, v, y.2.2.2.2.2.2.2)
abbrev sM.r13 (y : sM) : Int32 := y.2.2.2.2.2.2.2.1
abbrev sM.s13 (y : sM) (v : Int32) : sM := (y.1, y.2.1, y.2.2.1, y.2.2.2.1, y.2.2.2.2.1, y.2.2.2.2.2.1, y.2.2.2.2.2.2.1, v, y.2.2.2.2.2.2.2.2)
abbrev sM.r14 (y : sM) : Int32 := y.2.2.2.2.2.2.2.2.1
abbrev sM.s14 (y : sM) (v : Int32) : sM := (y.1, y.2.1, y.2.2.1, y.2.2.2.1, y.2.2.2.2.1, y.2.2.2.2.2.1, y.2.2.2.2.2.2.1, y.2.2.2.2.2.2.2.1, v, y.2.2.2.2.2.2.2.2.2)
abbrev sM.r16 (y : sM) : Int32 := y.2.2.2.2.2.2.2.2.2.1
abbrev sM.s16 (y : sM) (v : Int32) : sM := (y.1, y.2.1, y.2.2.1, y.2.2.2.1, y.2.2.2.2.1, y.2.2.2.2.2.1, y.2.2.2.2.2.2.1, y.2.2.2.2.2.2.2.1, y.2.2.2.2.2.2.2.2.1, v, y.2.2.2.2.2.2.2.2.2.2)
abbrev sM.r17 (y : sM) : Int32 := y.2.2.2.2.2.2.2.2.2.2.1
abbrev sM.s17 (y : sM) (v : Int32) : sM := (y.1, y.2.1, y.2.2.1, y.2.2.2.1, y.2.2.2.2.1, y.2.2.2.2.2.1, y.2.2.2.2.2.2.1, y.2.2.2.2.2.2.2.1, y.2.2.2.2.2.2.2.2.1, y.2.2.2.2.2.2.2.2.2.1, v, y.2.2.2.2.2.2.2.2.2.2.2)
abbrev sM.r18 (y : sM) : Int32 := y.2.2.2.2.2.2.2.2.2.2.2.1
abbrev sM.s18 (y : sM) (v : Int32) : sM := (y.1, y.2.1, y.2.2.1, y.2.2.2.1, y.2.2.2.2.1, y.2.2.2.2.2.1, y.2.2.2.2.2.2.1, y.2.2.2.2.2.2.2.1, y.2.2.2.2.2.2.2.2.1, y.2.2.2.2.2.2.2.2.2.1, y.2.2.2.2.2.2.2.2.2.2.1, v, y.2.2.2.2.2.2.2.2.2.2.2.2)
abbrev sM.r19 (y : sM) : Int32 := y.2.2.2.2.2.2.2.2.2.2.2.2.1
abbrev sM.s19 (y : sM) (v : Int32) : sM := (y.1, y.2.1, y.2.2.1, y.2.2.2.1, y.2.2.2.2.1, y.2.2.2.2.2.1, y.2.2.2.2.2.2.1, y.2.2.2.2.2.2.2.1, y.2.2.2.2.2.2.2.2.1, y.2.2.2.2.2.2.2.2.2.1, y.2.2.2.2.2.2.2.2.2.2.1, y.2.2.2.2.2.2.2.2.2.2.2.1, v, y.2.2.2.2.2.2.2.2.2.2.2.2.2)
abbrev sM.r20 (y : sM) : Int32 := y.2.2.2.2.2.2.2.2.2.2.2.2.2.1
abbrev sM.s20 (y : sM) (v : Int32) : sM := (y.1, y.2.1, y.2.2.1, y.2.2.2.1, y.2.2.2.2.1, y.2.2.2.2.2.1, y.2.2.2.2.2.2.1, y.2.2.2.2.2.2.2.1, y.2.2.2.2.2.2.2.2.1, y.2.2.2.2.2.2.2.2.2.1, y.2.2.2.2.2.2.2.2.2.2.1, y.2.2.2.2.2.2.2.2.2.2.2.1, y.2.2.2.2.2.2.2.2.2.2.2.2.1, v, y.2.2.2.2.2.2.2.2.2.2.2.2.2.2)
abbrev sM.r21 (y : sM) : Int32 := y.2.2.2.2.2.2.2.2.2.2.2.2.2.2.1
abbrev sM.s21 (y : sM) (v : Int32) : sM := (y.1, y.2.1, y.2.2.1, y.2.2.2.1, y.2.2.2.2.1, y.2.2.2.2.2.1, y.2.2.2.2.2.2.1, y.2.2.2.2.2.2.2.1, y.2.2.2.2.2.2.2.2.1, y.2.2.2.2.2.2.2.2.2.1, y.2.2.2.2.2.2.2.2.2.2.1, y.2.2.2.2.2.2.2.2.2.2.2.1, y.2.2.2.2.2.2.2.2.2.2.2.2.1, y.2.2.2.2.2.2.2.2.2.2.2.2.2.1, v, y.2.2.2.2.2.2.2.2.2.2.2.2.2.2.2)
abbrev sM.r22 (y : sM) : Int32 := y.2.2.2.2.2.2.2.2.2.2.2.2.2.2.2.1
abbrev sM.s22 (y : sM) (v : Int32) : sM := (y.1, y.2.1, y.2.2.1, y.2.2.2.1, y.2.2.2.2.1, y.2.2.2.2.2.1, y.2.2.2.2.2.2.1, y.2.2.2.2.2.2.2.1, y.2.2.2.2.2.2.2.2.1, y.2.2.2.2.2.2.2.2.2.1, y.2.2.2.2.2.2.2.2.2.2.1, y.2.2.2.2.2.2.2.2.2.2.2.1, y.2.2.2.2.2.2.2.2.2.2.2.2.1, y.2.2.2.2.2.2.2.2.2.2.2.2.2.1, y.2.2.2.2.2.2.2.2.2.2.2.2.2.2.1, v, y.2.2.2.2.2.2.2.2.2.2.2.2.2.2.2.2)
abbrev sM.r23 (y : sM) : Int32 := y.2.2.2.2.2.2.2.2.2.2.2.2.2.2.2.2.1
abbrev sM.s23 (y : sM) (v : Int32) : sM := (y.1, y.2.1, y.2.2.1, y.2.2.2.1, y.2.2.2.2.1, y.2.2.2.2.2.1, y.2.2.2.2.2.2.1, y.2.2.2.2.2.2.2.1, y.2.2.2.2.2.2.2.2.1, y.2.2.2.2.2.2.2.2.2.1, y.2.2.2.2.2.2.2.2.2.2.1, y.2.2.2.2.2.2.2.2.2.2.2.1, y.2.2.2.2.2.2.2.2.2.2.2.2.1, y.2.2.2.2.2.2.2.2.2.2.2.2.2.1, y.2.2.2.2.2.2.2.2.2.2.2.2.2.2.1, y.2.2.2.2.2.2.2.2.2.2.2.2.2.2.2.1, v, y.2.2.2.2.2.2.2.2.2.2.2.2.2.2.2.2.2)
abbrev sM.r24 (y : sM) : Int32 := y.2.2.2.2.2.2.2.2.2.2.2.2.2.2.2.2.2.1
abbrev sM.s24 (y : sM) (v : Int32) : sM := (y.1, y.2.1, y.2.2.1, y.2.2.2.1, y.2.2.2.2.1, y.2.2.2.2.2.1, y.2.2.2.2.2.2.1, y.2.2.2.2.2.2.2.1, y.2.2.2.2.2.2.2.2.1, y.2.2.2.2.2.2.2.2.2.1, y.2.2.2.2.2.2.2.2.2.2.1, y.2.2.2.2.2.2.2.2.2.2.2.1, y.2.2.2.2.2.2.2.2.2.2.2.2.1, y.2.2.2.2.2.2.2.2.2.2.2.2.2.1, y.2.2.2.2.2.2.2.2.2.2.2.2.2.2.1, y.2.2.2.2.2.2.2.2.2.2.2.2.2.2.2.1, y.2.2.2.2.2.2.2.2.2.2.2.2.2.2.2.2.1, v, y.2.2.2.2.2.2.2.2.2.2.2.2.2.2.2.2.2.2)
abbrev sM.r25 (y : sM) : Int32 := y.2.2.2.2.2.2.2.2.2.2.2.2.2.2.2.2.2.2.1
abbrev sM.s25 (y : sM) (v : Int32) : sM := (y.1, y.2.1, y.2.2.1, y.2.2.2.1, y.2.2.2.2.1, y.2.2.2.2.2.1, y.2.2.2.2.2.2.1, y.2.2.2.2.2.2.2.1, y.2.2.2.2.2.2.2.2.1, y.2.2.2.2.2.2.2.2.2.1, y.2.2.2.2.2.2.2.2.2.2.1, y.2.2.2.2.2.2.2.2.2.2.2.1, y.2.2.2.2.2.2.2.2.2.2.2.2.1, y.2.2.2.2.2.2.2.2.2.2.2.2.2.1, y.2.2.2.2.2.2.2.2.2.2.2.2.2.2.1, y.2.2.2.2.2.2.2.2.2.2.2.2.2.2.2.1, y.2.2.2.2.2.2.2.2.2.2.2.2.2.2.2.2.1, y.2.2.2.2.2.2.2.2.2.2.2.2.2.2.2.2.2.1, v, y.2.2.2.2.2.2.2.2.2.2.2.2.2.2.2.2.2.2.2)
abbrev sM.r26 (y : sM) : Int32 := y.2.2.2.2.2.2.2.2.2.2.2.2.2.2.2.2.2.2.2.1
abbrev sM.s26 (y : sM) (v : Int32) : sM := (y.1, y.2.1, y.2.2.1, y.2.2.2.1, y.2.2.2.2.1, y.2.2.2.2.2.1, y.2.2.2.2.2.2.1, y.2.2.2.2.2.2.2.1, y.2.2.2.2.2.2.2.2.1, y.2.2.2.2.2.2.2.2.2.1, y.2.2.2.2.2.2.2.2.2.2.1, y.2.2.2.2.2.2.2.2.2.2.2.1, y.2.2.2.2.2.2.2.2.2.2.2.2.1, y.2.2.2.2.2.2.2.2.2.2.2.2.2.1, y.2.2.2.2.2.2.2.2.2.2.2.2.2.2.1, y.2.2.2.2.2.2.2.2.2.2.2.2.2.2.2.1, y.2.2.2.2.2.2.2.2.2.2.2.2.2.2.2.2.1, y.2.2.2.2.2.2.2.2.2.2.2.2.2.2.2.2.2.1, y.2.2.2.2.2.2.2.2.2.2.2.2.2.2.2.2.2.2.1, v, y.2.2.2.2.2.2.2.2.2.2.2.2.2.2.2.2.2.2.2.2)
abbrev sM.r27 (y : sM) : Int32 := y.2.2.2.2.2.2.2.2.2.2.2.2.2.2.2.2.2.2.2.2.1
abbrev sM.s27 (y : sM) (v : Int32) : sM := (y.1, y.2.1, y.2.2.1, y.2.2.2.1, y.2.2.2.2.1, y.2.2.2.2.2.1, y.2.2.2.2.2.2.1, y.2.2.2.2.2.2.2.1, y.2.2.2.2.2.2.2.2.1, y.2.2.2.2.2.2.2.2.2.1, y.2.2.2.2.2.2.2.2.2.2.1, y.2.2.2.2.2.2.2.2.2.2.2.1, y.2.2.2.2.2.2.2.2.2.2.2.2.1, y.2.2.2.2.2.2.2.2.2.2.2.2.2.1, y.2.2.2.2.2.2.2.2.2.2.2.2.2.2.1, y.2.2.2.2.2.2.2.2.2.2.2.2.2.2.2.1, y.2.2.2.2.2.2.2.2.2.2.2.2.2.2.2.2.1, y.2.2.2.2.2.2.2.2.2.2.2.2.2.2.2.2.2.1, y.2.2.2.2.2.2.2.2.2.2.2.2.2.2.2.2.2.2.1, y.2.2.2.2.2.2.2.2.2.2.2.2.2.2.2.2.2.2.2.1, v, y.2.2.2.2.2.2.2.2.2.2.2.2.2.2.2.2.2.2.2.2.2)
abbrev sM.r28 (y : sM) : Int32 := y.2.2.2.2.2.2.2.2.2.2.2.2.2.2.2.2.2.2.2.2.2.1
abbrev sM.s28 (y : sM) (v : Int32) : sM := (y.1, y.2.1, y.2.2.1, y.2.2.2.1, y.2.2.2.2.1, y.2.2.2.2.2.1, y.2.2.2.2.2.2.1, y.2.2.2.2.2.2.2.1, y.2.2.2.2.2.2.2.2.1, y.2.2.2.2.2.2.2.2.2.1, y.2.2.2.2.2.2.2.2.2.2.1, y.2.2.2.2.2.2.2.2.2.2.2.1, y.2.2.2.2.2.2.2.2.2.2.2.2.1, y.2.2.2.2.2.2.2.2.2.2.2.2.2.1, y.2.2.2.2.2.2.2.2.2.2.2.2.2.2.1, y.2.2.2.2.2.2.2.2.2.2.2.2.2.2.2.1, y.2.2.2.2.2.2.2.2.2.2.2.2.2.2.2.2.1, y.2.2.2.2.2.2.2.2.2.2.2.2.2.2.2.2.2.1, y.2.2.2.2.2.2.2.2.2.2.2.2.2.2.2.2.2.2.1, y.2.2.2.2.2.2.2.2.2.2.2.2.2.2.2.2.2.2.2.1, y.2.2.2.2.2.2.2.2.2.2.2.2.2.2.2.2.2.2.2.2.1, v, y.2.2.2.2.2.2.2.2.2.2.2.2.2.2.2.2.2.2.2.2.2.2)
abbrev sM.r29 (y : sM) : Int32 := y.2.2.2.2.2.2.2.2.2.2.2.2.2.2.2.2.2.2.2.2.2.2.1
abbrev sM.s29 (y : sM) (v : Int32) : sM := (y.1, y.2.1, y.2.2.1, y.2.2.2.1, y.2.2.2.2.1, y.2.2.2.2.2.1, y.2.2.2.2.2.2.1, y.2.2.2.2.2.2.2.1, y.2.2.2.2.2.2.2.2.1, y.2.2.2.2.2.2.2.2.2.1, y.2.2.2.2.2.2.2.2.2.2.1, y.2.2.2.2.2.2.2.2.2.2.2.1, y.2.2.2.2.2.2.2.2.2.2.2.2.1, y.2.2.2.2.2.2.2.2.2.2.2.2.2.1, y.2.2.2.2.2.2.2.2.2.2.2.2.2.2.1, y.2.2.2.2.2.2.2.2.2.2.2.2.2.2.2.1, y.2.2.2.2.2.2.2.2.2.2.2.2.2.2.2.2.1, y.2.2.2.2.2.2.2.2.2.2.2.2.2.2.2.2.2.1, y.2.2.2.2.2.2.2.2.2.2.2.2.2.2.2.2.2.2.1, y.2.2.2.2.2.2.2.2.2.2.2.2.2.2.2.2.2.2.2.1, y.2.2.2.2.2.2.2.2.2.2.2.2.2.2.2.2.2.2.2.2.1, y.2.2.2.2.2.2.2.2.2.2.2.2.2.2.2.2.2.2.2.2.2.1, v, y.2.2.2.2.2.2.2.2.2.2.2.2.2.2.2.2.2.2.2.2.2.2.2)
abbrev sM.wi (y : sM) : Nat → Int32 := y.2.2.2.2.2.2.2.2.2.2.2.2.2.2.2.2.2.2.2.2.2.2.2.1
abbrev sM.swi (y : sM) (v : Nat → Int32) : sM := (y.1, y.2.1, y.2.2.1, y.2.2.2.1, y.2.2.2.2.1, y.2.2.2.2.2.1, y.2.2.2.2.2.2.1, y.2.2.2.2.2.2.2.1, y.2.2.2.2.2.2.2.2.1, y.2.2.2.2.2.2.2.2.2.1, y.2.2.2.2.2.2.2.2.2.2.1, y.2.2.2.2.2.2.2.2.2.2.2.1, y.2.2.2.2.2.2.2.2.2.2.2.2.1, y.2.2.2.2.2.2.2.2.2.2.2.2.2.1, y.2.2.2.2.2.2.2.2.2.2.2.2.2.2.1, y.2.2.2.2.2.2.2.2.2.2.2.2.2.2.2.1, y.2.2.2.2.2.2.2.2.2.2.2.2.2.2.2.2.1, y.2.2.2.2.2.2.2.2.2.2.2.2.2.2.2.2.2.1, y.2.2.2.2.2.2.2.2.2.2.2.2.2.2.2.2.2.2.1, y.2.2.2.2.2.2.2.2.2.2.2.2.2.2.2.2.2.2.2.1, y.2.2.2.2.2.2.2.2.2.2.2.2.2.2.2.2.2.2.2.2.1, y.2.2.2.2.2.2.2.2.2.2.2.2.2.2.2.2.2.2.2.2.2.1, y.2.2.2.2.2.2.2.2.2.2.2.2.2.2.2.2.2.2.2.2.2.2.1, v, y.2.2.2.2.2.2.2.2.2.2.2.2.2.2.2.2.2.2.2.2.2.2.2.2)
abbrev sM.wb (y : sM) : Nat → Int32 := y.2.2.2.2.2.2.2.2.2.2.2.2.2.2.2.2.2.2.2.2.2.2.2.2.1
abbrev sM.swb (y : sM) (v : Nat → Int32) : sM := (y.1, y.2.1, y.2.2.1, y.2.2.2.1, y.2.2.2.2.1, y.2.2.2.2.2.1, y.2.2.2.2.2.2.1, y.2.2.2.2.2.2.2.1, y.2.2.2.2.2.2.2.2.1, y.2.2.2.2.2.2.2.2.2.1, y.2.2.2.2.2.2.2.2.2.2.1, y.2.2.2.2.2.2.2.2.2.2.2.1, y.2.2.2.2.2.2.2.2.2.2.2.2.1, y.2.2.2.2.2.2.2.2.2.2.2.2.2.1, y.2.2.2.2.2.2.2.2.2.2.2.2.2.2.1, y.2.2.2.2.2.2.2.2.2.2.2.2.2.2.2.1, y.2.2.2.2.2.2.2.2.2.2.2.2.2.2.2.2.1, y.2.2.2.2.2.2.2.2.2.2.2.2.2.2.2.2.2.1, y.2.2.2.2.2.2.2.2.2.2.2.2.2.2.2.2.2.2.1, y.2.2.2.2.2.2.2.2.2.2.2.2.2.2.2.2.2.2.2.1, y.2.2.2.2.2.2.2.2.2.2.2.2.2.2.2.2.2.2.2.2.1, y.2.2.2.2.2.2.2.2.2.2.2.2.2.2.2.2.2.2.2.2.2.1, y.2.2.2.2.2.2.2.2.2.2.2.2.2.2.2.2.2.2.2.2.2.2.1, y.2.2.2.2.2.2.2.2.2.2.2.2.2.2.2.2.2.2.2.2.2.2.2.1, v, y.2.2.2.2.2.2.2.2.2.2.2.2.2.2.2.2.2.2.2.2.2.2.2.2.2)
abbrev sM.wd (y : sM) : Nat → Int32 := y.2.2.2.2.2.2.2.2.2.2.2.2.2.2.2.2.2.2.2.2.2.2.2.2.2.1
abbrev sM.swd (y : sM) (v : Nat → Int32) : sM := (y.1, y.2.1, y.2.2.1, y.2.2.2.1, y.2.2.2.2.1, y.2.2.2.2.2.1, y.2.2.2.2.2.2.1, y.2.2.2.2.2.2.2.1, y.2.2.2.2.2.2.2.2.1, y.2.2.2.2.2.2.2.2.2.1, y.2.2.2.2.2.2.2.2.2.2.1, y.2.2.2.2.2.2.2.2.2.2.2.1, y.2.2.2.2.2.2.2.2.2.2.2.2.1, y.2.2.2.2.2.2.2.2.2.2.2.2.2.1, y.2.2.2.2.2.2.2.2.2.2.2.2.2.2.1, y.2.2.2.2.2.2.2.2.2.2.2.2.2.2.2.1, y.2.2.2.2.2.2.2.2.2.2.2.2.2.2.2.2.1, y.2.2.2.2.2.2.2.2.2.2.2.2.2.2.2.2.2.1, y.2.2.2.2.2.2.2.2.2.2.2.2.2.2.2.2.2.2.1, y.2.2.2.2.2.2.2.2.2.2.2.2.2.2.2.2.2.2.2.1, y.2.2.2.2.2.2.2.2.2.2.2.2.2.2.2.2.2.2.2.2.1, y.2.2.2.2.2.2.2.2.2.2.2.2.2.2.2.2.2.2.2.2.2.1, y.2.2.2.2.2.2.2.2.2.2.2.2.2.2.2.2.2.2.2.2.2.2.1, y.2.2.2.2.2.2.2.2.2.2.2.2.2.2.2.2.2.2.2.2.2.2.2.1, y.2.2.2.2.2.2.2.2.2.2.2.2.2.2.2.2.2.2.2.2.2.2.2.2.1, v, y.2.2.2.2.2.2.2.2.2.2.2.2.2.2.2.2.2.2.2.2.2.2.2.2.2.2)
abbrev sM.bx (y : sM) : Nat → Int32 := y.2.2.2.2.2.2.2.2.2.2.2.2.2.2.2.2.2.2.2.2.2.2.2.2.2.2
abbrev sM.sbx (y : sM) (v : Nat → Int32) : sM := (y.1, y.2.1, y.2.2.1, y.2.2.2.1, y.2.2.2.2.1, y.2.2.2.2.2.1, y.2.2.2.2.2.2.1, y.2.2.2.2.2.2.2.1, y.2.2.2.2.2.2.2.2.1, y.2.2.2.2.2.2.2.2.2.1, y.2.2.2.2.2.2.2.2.2.2.1, y.2.2.2.2.2.2.2.2.2.2.2.1, y.2.2.2.2.2.2.2.2.2.2.2.2.1, y.2.2.2.2.2.2.2.2.2.2.2.2.2.1, y.2.2.2.2.2.2.2.2.2.2.2.2.2.2.1, y.2.2.2.2.2.2.2.2.2.2.2.2.2.2.2.1, y.2.2.2.2.2.2.2.2.2.2.2.2.2.2.2.2.1, y.2.2.2.2.2.2.2.2.2.2.2.2.2.2.2.2.2.1, y.2.2.2.2.2.2.2.2.2.2.2.2.2.2.2.2.2.2.1, y.2.2.2.2.2.2.2.2.2.2.2.2.2.2.2.2.2.2.2.1, y.2.2.2.2.2.2.2.2.2.2.2.2.2.2.2.2.2.2.2.2.1, y.2.2.2.2.2.2.2.2.2.2.2.2.2.2.2.2.2.2.2.2.2.1, y.2.2.2.2.2.2.2.2.2.2.2.2.2.2.2.2.2.2.2.2.2.2.1, y.2.2.2.2.2.2.2.2.2.2.2.2.2.2.2.2.2.2.2.2.2.2.2.1, y.2.2.2.2.2.2.2.2.2.2.2.2.2.2.2.2.2.2.2.2.2.2.2.2.1, y.2.2.2.2.2.2.2.2.2.2.2.2.2.2.2.2.2.2.2.2.2.2.2.2.2.1, v)
abbrev pj (A : Nat → Nat → Int32) (j : Nat) : sM := (A 3 j, A 4 j, A 5 j, A 6 j, A 7 j, A 8 j, A 9 j, A 13 j, A 14 j, A 16 j, A 17 j, A 18 j, A 19 j, A 20 j, A 21 j, A 22 j, A 23 j, A 24 j, A 25 j, A 26 j, A 27 j, A 28 j, A 29 j, fun q => A 10 (4 * j + q), fun q => A 11 (4 * j + q), fun q => A 12 (4 * j + q), fun q => A 15 (4 * j + q))
theorem pjc_3 {B : Nat → Nat → Int32} {y : sM} {f : Nat → Int32} {j : Nat} {v : Int32} (hf : f = upd (B 3) j v) (h : pj B j = y) : pj (setA B 3 f) j = y.s3 v := by
  subst h
  subst hf
  have h9 : upd (B 3) j v j = v := pk_us
  show (upd (B 3) j v j, B 4 j, B 5 j, B 6 j, B 7 j, B 8 j, B 9 j, B 13 j, B 14 j, B 16 j, B 17 j, B 18 j, B 19 j, B 20 j, B 21 j, B 22 j, B 23 j, B 24 j, B 25 j, B 26 j, B 27 j, B 28 j, B 29 j, fun q => B 10 (4 * j + q), fun q => B 11 (4 * j + q), fun q => B 12 (4 * j + q), fun q => B 15 (4 * j + q)) = (v, B 4 j, B 5 j, B 6 j, B 7 j, B 8 j, B 9 j, B 13 j, B 14 j, B 16 j, B 17 j, B 18 j, B 19 j, B 20 j, B 21 j, B 22 j, B 23 j, B 24 j, B 25 j, B 26 j, B 27 j, B 28 j, B 29 j, fun q => B 10 (4 * j + q), fun q => B 11 (4 * j + q), fun q => B 12 (4 * j + q), fun q => B 15 (4 * j + q))
  rw [h9]
theorem pjc_4 {B : Nat → Nat → Int32} {y : sM} {f : Nat → Int32} {j : Nat} {v : Int32} (hf : f = upd (B 4) j v) (h : pj B j = y) : pj (setA B 4 f) j = y.s4 v := by
  subst h
  subst hf
  have h9 : upd (B 4) j v j = v := pk_us
  show (B 3 j, upd (B 4) j v j, B 5 j, B 6 j, B 7 j, B 8 j, B 9 j, B 13 j, B 14 j, B 16 j, B 17 j, B 18 j, B 19 j, B 20 j, B 21 j, B 22 j, B 23 j, B 24 j, B 25 j, B 26 j, B 27 j, B 28 j, B 29 j, fun q => B 10 (4 * j + q), fun q => B 11 (4 * j + q), fun q => B 12 (4 * j + q), fun q => B 15 (4 * j + q)) = (B 3 j, v, B 5 j, B 6 j, B 7 j, B 8 j, B 9 j, B 13 j, B 14 j, B 16 j, B 17 j, B 18 j, B 19 j, B 20 j, B 21 j, B 22 j, B 23 j, B 24 j, B 25 j, B 26 j, B 27 j, B 28 j, B 29 j, fun q => B 10 (4 * j + q), fun q => B 11 (4 * j + q), fun q => B 12 (4 * j + q), fun q => B 15 (4 * j + q))
  rw [h9]
theorem pjc_5 {B : Nat → Nat → Int32} {y : sM} {f : Nat → Int32} {j : Nat} {v : Int32} (hf : f = upd (B 5) j v) (h : pj B j = y) : pj (setA B 5 f) j = y.s5 v := by
  subst h
  subst hf
  have h9 : upd (B 5) j v j = v := pk_us
  show (B 3 j, B 4 j, upd (B 5) j v j, B 6 j, B 7 j, B 8 j, B 9 j, B 13 j, B 14 j, B 16 j, B 17 j, B 18 j, B 19 j, B 20 j, B 21 j, B 22 j, B 23 j, B 24 j, B 25 j, B 26 j, B 27 j, B 28 j, B 29 j, fun q => B 10 (4 * j + q), fun q => B 11 (4 * j + q), fun q => B 12 (4 * j + q), fun q => B 15 (4 * j + q)) = (B 3 j, B 4 j, v, B 6 j, B 7 j, B 8 j, B 9 j, B 13 j, B 14 j, B 16 j, B 17 j, B 18 j, B 19 j, B 20 j, B 21 j, B 22 j, B 23 j, B 24 j, B 25 j, B 26 j, B 27 j, B 28 j, B 29 j, fun q => B 10 (4 * j + q), fun q => B 11 (4 * j + q), fun q => B 12 (4 * j + q), fun q => B 15 (4 * j + q))
  rw [h9]
theorem pjc_6 {B : Nat → Nat → Int32} {y : sM} {f : Nat → Int32} {j : Nat} {v : Int32} (hf : f = upd (B 6) j v) (h : pj B j = y) : pj (setA B 6 f) j = y.s6 v := by
  subst h
  subst hf
  have h9 : upd (B 6) j v j = v := pk_us
  show (B 3 j, B 4 j, B 5 j, upd (B 6) j v j, B 7 j, B 8 j, B 9 j, B 13 j, B 14 j, B 16 j, B 17 j, B 18 j, B 19 j, B 20 j, B 21 j, B 22 j, B 23 j, B 24 j, B 25 j, B 26 j, B 27 j, B 28 j, B 29 j, fun q => B 10 (4 * j + q), fun q => B 11 (4 * j + q), fun q => B 12 (4 * j + q), fun q => B 15 (4 * j + q)) = (B 3 j, B 4 j, B 5 j, v, B 7 j, B 8 j, B 9 j, B 13 j, B 14 j, B 16 j, B 17 j, B 18 j, B 19 j, B 20 j, B 21 j, B 22 j, B 23 j, B 24 j, B 25 j, B 26 j, B 27 j, B 28 j, B 29 j, fun q => B 10 (4 * j + q), fun q => B 11 (4 * j + q), fun q => B 12 (4 * j + q), fun q => B 15 (4 * j + q))
  rw [h9]
theorem pjc_7 {B : Nat → Nat → Int32} {y : sM} {f : Nat → Int32} {j : Nat} {v : Int32} (hf : f = upd (B 7) j v) (h : pj B j = y) : pj (setA B 7 f) j = y.s7 v := by
  subst h
  subst hf
  have h9 : upd (B 7) j v j = v := pk_us
  show (B 3 j, B 4 j, B 5 j, B 6 j, upd (B 7) j v j, B 8 j, B 9 j, B 13 j, B 14 j, B 16 j, B 17 j, B 18 j, B 19 j, B 20 j, B 21 j, B 22 j, B 23 j, B 24 j, B 25 j, B 26 j, B 27 j, B 28 j, B 29 j, fun q => B 10 (4 * j + q), fun q => B 11 (4 * j + q), fun q => B 12 (4 * j + q), fun q => B 15 (4 * j + q)) = (B 3 j, B 4 j, B 5 j, B 6 j, v, B 8 j, B 9 j, B 13 j, B 14 j, B 16 j, B 17 j, B 18 j, B 19 j, B 20 j, B 21 j, B 22 j, B 23 j, B 24 j, B 25 j, B 26 j, B 27 j, B 28 j, B 29 j, fun q => B 10 (4 * j + q), fun q => B 11 (4 * j + q), fun q => B 12 (4 * j + q), fun q => B 15 (4 * j + q))
  rw [h9]
theorem pjc_8 {B : Nat → Nat → Int32} {y : sM} {f : Nat → Int32} {j : Nat} {v : Int32} (hf : f = upd (B 8) j v) (h : pj B j = y) : pj (setA B 8 f) j = y.s8 v := by
  subst h
  subst hf
  have h9 : upd (B 8) j v j = v := pk_us
  show (B 3 j, B 4 j, B 5 j, B 6 j, B 7 j, upd (B 8) j v j, B 9 j, B 13 j, B 14 j, B 16 j, B 17 j, B 18 j, B 19 j, B 20 j, B 21 j, B 22 j, B 23 j, B 24 j, B 25 j, B 26 j, B 27 j, B 28 j, B 29 j, fun q => B 10 (4 * j + q), fun q => B 11 (4 * j + q), fun q => B 12 (4 * j + q), fun q => B 15 (4 * j + q)) = (B 3 j, B 4 j, B 5 j, B 6 j, B 7 j, v, B 9 j, B 13 j, B 14 j, B 16 j, B 17 j, B 18 j, B 19 j, B 20 j, B 21 j, B 22 j, B 23 j, B 24 j, B 25 j, B 26 j, B 27 j, B 28 j, B 29 j, fun q => B 10 (4 * j + q), fun q => B 11 (4 * j + q), fun q => B 12 (4 * j + q), fun q => B 15 (4 * j + q))
  rw [h9]
theorem pjc_9 {B : Nat → Nat → Int32} {y : sM} {f : Nat → Int32} {j : Nat} {v : Int32} (hf : f = upd (B 9) j v) (h : pj B j = y) : pj (setA B 9 f) j = y.s9 v := by
  subst h
  subst hf
  have h9 : upd (B 9) j v j = v := pk_us
  show (B 3 j, B 4 j, B 5 j, B 6 j, B 7 j, B 8 j, upd (B 9) j v j, B 13 j, B 14 j, B 16 j, B 17 j, B 18 j, B 19 j, B 20 j, B 21 j, B 22 j, B 23 j, B 24 j, B 25 j, B 26 j, B 27 j, B 28 j, B 29 j, fun q => B 10 (4 * j + q), fun q => B 11 (4 * j + q), fun q => B 12 (4 * j + q), fun q => B 15 (4 * j + q)) = (B 3 j, B 4 j, B 5 j, B 6 j, B 7 j, B 8 j, v, B 13 j, B 14 j, B 16 j, B 17 j, B 18 j, B 19 j, B 20 j, B 21 j, B 22 j, B 23 j, B 24 j, B 25 j, B 26 j, B 27 j, B 28 j, B 29 j, fun q => B 10 (4 * j + q), fun q => B 11 (4 * j + q), fun q => B 12 (4 * j + q), fun q => B 15 (4 * j + q))
  rw [h9]
theorem pjc_13 {B : Nat → Nat → Int32} {y : sM} {f : Nat → Int32} {j : Nat} {v : Int32} (hf : f = upd (B 13) j v) (h : pj B j = y) : pj (setA B 13 f) j = y.s13 v := by
  subst h
  subst hf
  have h9 : upd (B 13) j v j = v := pk_us
  show (B 3 j, B 4 j, B 5 j, B 6 j, B 7 j, B 8 j, B 9 j, upd (B 13) j v j, B 14 j, B 16 j, B 17 j, B 18 j, B 19 j, B 20 j, B 21 j, B 22 j, B 23 j, B 24 j, B 25 j, B 26 j, B 27 j, B 28 j, B 29 j, fun q => B 10 (4 * j + q), fun q => B 11 (4 * j + q), fun q => B 12 (4 * j + q), fun q => B 15 (4 * j + q)) = (B 3 j, B 4 j, B 5 j, B 6 j, B 7 j, B 8 j, B 9 j, v, B 14 j, B 16 j, B 17 j, B 18 j, B 19 j, B 20 j, B 21 j, B 22 j, B 23 j, B 24 j, B 25 j, B 26 j, B 27 j, B 28 j, B 29 j, fun q => B 10 (4 * j + q), fun q => B 11 (4 * j + q), fun q => B 12 (4 * j + q), fun q => B 15 (4 * j + q))
  rw [h9]
theorem pjc_14 {B : Nat → Nat → Int32} {y : sM} {f : Nat → Int32} {j : Nat} {v : Int32} (hf : f = upd (B 14) j v) (h : pj B j = y) : pj (setA B 14 f) j = y.s14 v := by
  subst h
  subst hf
  have h9 : upd (B 14) j v j = v := pk_us
  show (B 3 j, B 4 j, B 5 j, B 6 j, B 7 j, B 8 j, B 9 j, B 13 j, upd (B 14) j v j, B 16 j, B 17 j, B 18 j, B 19 j, B 20 j, B 21 j, B 22 j, B 23 j, B 24 j, B 25 j, B 26 j, B 27 j, B 28 j, B 29 j, fun q => B 10 (4 * j + q), fun q => B 11 (4 * j + q), fun q => B 12 (4 * j + q), fun q => B 15 (4 * j + q)) = (B 3 j, B 4 j, B 5 j, B 6 j, B 7 j, B 8 j, B 9 j, B 13 j, v, B 16 j, B 17 j, B 18 j, B 19 j, B 20 j, B 21 j, B 22 j, B 23 j, B 24 j, B 25 j, B 26 j, B 27 j, B 28 j, B 29 j, fun q => B 10 (4 * j + q), fun q => B 11 (4 * j + q), fun q => B 12 (4 * j + q), fun q => B 15 (4 * j + q))
  rw [h9]
theorem pjc_16 {B : Nat → Nat → Int32} {y : sM} {f : Nat → Int32} {j : Nat} {v : Int32} (hf : f = upd (B 16) j v) (h : pj B j = y) : pj (setA B 16 f) j = y.s16 v := by
  subst h
  subst hf
  have h9 : upd (B 16) j v j = v := pk_us
  show (B 3 j, B 4 j, B 5 j, B 6 j, B 7 j, B 8 j, B 9 j, B 13 j, B 14 j, upd (B 16) j v j, B 17 j, B 18 j, B 19 j, B 20 j, B 21 j, B 22 j, B 23 j, B 24 j, B 25 j, B 26 j, B 27 j, B 28 j, B 29 j, fun q => B 10 (4 * j + q), fun q => B 11 (4 * j + q), fun q => B 12 (4 * j + q), fun q => B 15 (4 * j + q)) = (B 3 j, B 4 j, B 5 j, B 6 j, B 7 j, B 8 j, B 9 j, B 13 j, B 14 j, v, B 17 j, B 18 j, B 19 j, B 20 j, B 21 j, B 22 j, B 23 j, B 24 j, B 25 j, B 26 j, B 27 j, B 28 j, B 29 j, fun q => B 10 (4 * j + q), fun q => B 11 (4 * j + q), fun q => B 12 (4 * j + q), fun q => B 15 (4 * j + q))
  rw [h9]
theorem pjc_17 {B : Nat → Nat → Int32} {y : sM} {f : Nat → Int32} {j : Nat} {v : Int32} (hf : f = upd (B 17) j v) (h : pj B j = y) : pj (setA B 17 f) j = y.s17 v := by
  subst h
  subst hf
  have h9 : upd (B 17) j v j = v := pk_us
  show (B 3 j, B 4 j, B 5 j, B 6 j, B 7 j, B 8 j, B 9 j, B 13 j, B 14 j, B 16 j, upd (B 17) j v j, B 18 j, B 19 j, B 20 j, B 21 j, B 22 j, B 23 j, B 24 j, B 25 j, B 26 j, B 27 j, B 28 j, B 29 j, fun q => B 10 (4 * j + q), fun q => B 11 (4 * j + q), fun q => B 12 (4 * j + q), fun q => B 15 (4 * j + q)) = (B 3 j, B 4 j, B 5 j, B 6 j, B 7 j, B 8 j, B 9 j, B 13 j, B 14 j, B 16 j, v, B 18 j, B 19 j, B 20 j, B 21 j, B 22 j, B 23 j, B 24 j, B 25 j, B 26 j, B 27 j, B 28 j, B 29 j, fun q => B 10 (4 * j + q), fun q => B 11 (4 * j + q), fun q => B 12 (4 * j + q), fun q => B 15 (4 * j + q))
  rw [h9]
theorem pjc_18 {B : Nat → Nat → Int32} {y : sM} {f : Nat → Int32} {j : Nat} {v : Int32} (hf : f = upd (B 18) j v) (h : pj B j = y) : pj (setA B 18 f) j = y.s18 v := by
  subst h
  subst hf
  have h9 : upd (B 18) j v j = v := pk_us
  show (B 3 j, B 4 j, B 5 j, B 6 j, B 7 j, B 8 j, B 9 j, B 13 j, B 14 j, B 16 j, B 17 j, upd (B 18) j v j, B 19 j, B 20 j, B 21 j, B 22 j, B 23 j, B 24 j, B 25 j, B 26 j, B 27 j, B 28 j, B 29 j, fun q => B 10 (4 * j + q), fun q => B 11 (4 * j + q), fun q => B 12 (4 * j + q), fun q => B 15 (4 * j + q)) = (B 3 j, B 4 j, B 5 j, B 6 j, B 7 j, B 8 j, B 9 j, B 13 j, B 14 j, B 16 j, B 17 j, v, B 19 j, B 20 j, B 21 j, B 22 j, B 23 j, B 24 j, B 25 j, B 26 j, B 27 j, B 28 j, B 29 j, fun q => B 10 (4 * j + q), fun q => B 11 (4 * j + q), fun q => B 12 (4 * j + q), fun q => B 15 (4 * j + q))
  rw [h9]
theorem pjc_19 {B : Nat → Nat → Int32} {y : sM} {f : Nat → Int32} {j : Nat} {v : Int32} (hf : f = upd (B 19) j v) (h : pj B j = y) : pj (setA B 19 f) j = y.s19 v := by
  subst h
  subst hf
  have h9 : upd (B 19) j v j = v := pk_us
  show (B 3 j, B 4 j, B 5 j, B 6 j, B 7 j, B 8 j, B 9 j, B 13 j, B 14 j, B 16 j, B 17 j, B 18 j, upd (B 19) j v j, B 20 j, B 21 j, B 22 j, B 23 j, B 24 j, B 25 j, B 26 j, B 27 j, B 28 j, B 29 j, fun q => B 10 (4 * j + q), fun q => B 11 (4 * j + q), fun q => B 12 (4 * j + q), fun q => B 15 (4 * j + q)) = (B 3 j, B 4 j, B 5 j, B 6 j, B 7 j, B 8 j, B 9 j, B 13 j, B 14 j, B 16 j, B 17 j, B 18 j, v, B 20 j, B 21 j, B 22 j, B 23 j, B 24 j, B 25 j, B 26 j, B 27 j, B 28 j, B 29 j, fun q => B 10 (4 * j + q), fun q => B 11 (4 * j + q), fun q => B 12 (4 * j + q), fun q => B 15 (4 * j + q))
  rw [h9]
theorem pjc_20 {B : Nat → Nat → Int32} {y : sM} {f : Nat → Int32} {j : Nat} {v : Int32} (hf : f = upd (B 20) j v) (h : pj B j = y) : pj (setA B 20 f) j = y.s20 v := by
  subst h
  subst hf
  have h9 : upd (B 20) j v j = v := pk_us
  show (B 3 j, B 4 j, B 5 j, B 6 j, B 7 j, B 8 j, B 9 j, B 13 j, B 14 j, B 16 j, B 17 j, B 18 j, B 19 j, upd (B 20) j v j, B 21 j, B 22 j, B 23 j, B 24 j, B 25 j, B 26 j, B 27 j, B 28 j, B 29 j, fun q => B 10 (4 * j + q), fun q => B 11 (4 * j + q), fun q => B 12 (4 * j + q), fun q => B 15 (4 * j + q)) = (B 3 j, B 4 j, B 5 j, B 6 j, B 7 j, B 8 j, B 9 j, B 13 j, B 14 j, B 16 j, B 17 j, B 18 j, B 19 j, v, B 21 j, B 22 j, B 23 j, B 24 j, B 25 j, B 26 j, B 27 j, B 28 j, B 29 j, fun q => B 10 (4 * j + q), fun q => B 11 (4 * j + q), fun q => B 12 (4 * j + q), fun q => B 15 (4 * j + q))
  rw [h9]
theorem pjc_21 {B : Nat → Nat → Int32} {y : sM} {f : Nat → Int32} {j : Nat} {v : Int32} (hf : f = upd (B 21) j v) (h : pj B j = y) : pj (setA B 21 f) j = y.s21 v := by
  subst h
  subst hf
  have h9 : upd (B 21) j v j = v := pk_us
  show (B 3 j, B 4 j, B 5 j, B 6 j, B 7 j, B 8 j, B 9 j, B 13 j, B 14 j, B 16 j, B 17 j, B 18 j, B 19 j, B 20 j, upd (B 21) j v j, B 22 j, B 23 j, B 24 j, B 25 j, B 26 j, B 27 j, B 28 j, B 29 j, fun q => B 10 (4 * j + q), fun q => B 11 (4 * j + q), fun q => B 12 (4 * j + q), fun q => B 15 (4 * j + q)) = (B 3 j, B 4 j, B 5 j, B 6 j, B 7 j, B 8 j, B 9 j, B 13 j, B 14 j, B 16 j, B 17 j, B 18 j, B 19 j, B 20 j, v, B 22 j, B 23 j, B 24 j, B 25 j, B 26 j, B 27 j, B 28 j, B 29 j, fun q => B 10 (4 * j + q), fun q => B 11 (4 * j + q), fun q => B 12 (4 * j + q), fun q => B 15 (4 * j + q))
  rw [h9]
theorem pjc_22 {B : Nat → Nat → Int32} {y : sM} {f : Nat → Int32} {j : Nat} {v : Int32} (hf : f = upd (B 22) j v) (h : pj B j = y) : pj (setA B 22 f) j = y.s22 v := by
  subst h
  subst hf
  have h9 : upd (B 22) j v j = v := pk_us
  show (B 3 j, B 4 j, B 5 j, B 6 j, B 7 j, B 8 j, B 9 j, B 13 j, B 14 j, B 16 j, B 17 j, B 18 j, B 19 j, B 20 j, B 21 j, upd (B 22) j v j, B 23 j, B 24 j, B 25 j, B 26 j, B 27 j, B 28 j, B 29 j, fun q => B 10 (4 * j + q), fun q => B 11 (4 * j + q), fun q => B 12 (4 * j + q), fun q => B 15 (4 * j + q)) = (B 3 j, B 4 j, B 5 j, B 6 j, B 7 j, B 8 j, B 9 j, B 13 j, B 14 j, B 16 j, B 17 j, B 18 j, B 19 j, B 20 j, B 21 j, v, B 23 j, B 24 j, B 25 j, B 26 j, B 27 j, B 28 j, B 29 j, fun q => B 10 (4 * j + q), fun q => B 11 (4 * j + q), fun q => B 12 (4 * j + q), fun q => B 15 (4 * j + q))
  rw [h9]
theorem pjc_23 {B : Nat → Nat → Int32} {y : sM} {f : Nat → Int32} {j : Nat} {v : Int32} (hf : f = upd (B 23) j v) (h : pj B j = y) : pj (setA B 23 f) j = y.s23 v := by
  subst h
  subst hf
  have h9 : upd (B 23) j v j = v := pk_us
  show (B 3 j, B 4 j, B 5 j, B 6 j, B 7 j, B 8 j, B 9 j, B 13 j, B 14 j, B 16 j, B 17 j, B 18 j, B 19 j, B 20 j, B 21 j, B 22 j, upd (B 23) j v j, B 24 j, B 25 j, B 26 j, B 27 j, B 28 j, B 29 j, fun q => B 10 (4 * j + q), fun q => B 11 (4 * j + q), fun q => B 12 (4 * j + q), fun q => B 15 (4 * j + q)) = (B 3 j, B 4 j, B 5 j, B 6 j, B 7 j, B 8 j, B 9 j, B 13 j, B 14 j, B 16 j, B 17 j, B 18 j, B 19 j, B 20 j, B 21 j, B 22 j, v, B 24 j, B 25 j, B 26 j, B 27 j, B 28 j, B 29 j, fun q => B 10 (4 * j + q), fun q => B 11 (4 * j + q), fun q => B 12 (4 * j + q), fun q => B 15 (4 * j + q))
  rw [h9]
theorem pjc_24 {B : Nat → Nat → Int32} {y : sM} {f : Nat → Int32} {j : Nat} {v : Int32} (hf : f = upd (B 24) j v) (h : pj B j = y) : pj (setA B 24 f) j = y.s24 v := by
  subst h
  subst hf
  have h9 : upd (B 24) j v j = v := pk_us
  show (B 3 j, B 4 j, B 5 j, B 6 j, B 7 j, B 8 j, B 9 j, B 13 j, B 14 j, B 16 j, B 17 j, B 18 j, B 19 j, B 20 j, B 21 j, B 22 j, B 23 j, upd (B 24) j v j, B 25 j, B 26 j, B 27 j, B 28 j, B 29 j, fun q => B 10 (4 * j + q), fun q => B 11 (4 * j + q), fun q => B 12 (4 * j + q), fun q => B 15 (4 * j + q)) = (B 3 j, B 4 j, B 5 j, B 6 j, B 7 j, B 8 j, B 9 j, B 13 j, B 14 j, B 16 j, B 17 j, B 18 j, B 19 j, B 20 j, B 21 j, B 22 j, B 23 j, v, B 25 j, B 26 j, B 27 j, B 28 j, B 29 j, fun q => B 10 (4 * j + q), fun q => B 11 (4 * j + q), fun q => B 12 (4 * j + q), fun q => B 15 (4 * j + q))
  rw [h9]
theorem pjc_25 {B : Nat → Nat → Int32} {y : sM} {f : Nat → Int32} {j : Nat} {v : Int32} (hf : f = upd (B 25) j v) (h : pj B j = y) : pj (setA B 25 f) j = y.s25 v := by
  subst h
  subst hf
  have h9 : upd (B 25) j v j = v := pk_us
  show (B 3 j, B 4 j, B 5 j, B 6 j, B 7 j, B 8 j, B 9 j, B 13 j, B 14 j, B 16 j, B 17 j, B 18 j, B 19 j, B 20 j, B 21 j, B 22 j, B 23 j, B 24 j, upd (B 25) j v j, B 26 j, B 27 j, B 28 j, B 29 j, fun q => B 10 (4 * j + q), fun q => B 11 (4 * j + q), fun q => B 12 (4 * j + q), fun q => B 15 (4 * j + q)) = (B 3 j, B 4 j, B 5 j, B 6 j, B 7 j, B 8 j, B 9 j, B 13 j, B 14 j, B 16 j, B 17 j, B 18 j, B 19 j, B 20 j, B 21 j, B 22 j, B 23 j, B 24 j, v, B 26 j, B 27 j, B 28 j, B 29 j, fun q => B 10 (4 * j + q), fun q => B 11 (4 * j + q), fun q => B 12 (4 * j + q), fun q => B 15 (4 * j + q))
  rw [h9]
theorem pjc_26 {B : Nat → Nat → Int32} {y : sM} {f : Nat → Int32} {j : Nat} {v : Int32} (hf : f = upd (B 26) j v) (h : pj B j = y) : pj (setA B 26 f) j = y.s26 v := by
  subst h
  subst hf
  have h9 : upd (B 26) j v j = v := pk_us
  show (B 3 j, B 4 j, B 5 j, B 6 j, B 7 j, B 8 j, B 9 j, B 13 j, B 14 j, B 16 j, B 17 j, B 18 j, B 19 j, B 20 j, B 21 j, B 22 j, B 23 j, B 24 j, B 25 j, upd (B 26) j v j, B 27 j, B 28 j, B 29 j, fun q => B 10 (4 * j + q), fun q => B 11 (4 * j + q), fun q => B 12 (4 * j + q), fun q => B 15 (4 * j + q)) = (B 3 j, B 4 j, B 5 j, B 6 j, B 7 j, B 8 j, B 9 j, B 13 j, B 14 j, B 16 j, B 17 j, B 18 j, B 19 j, B 20 j, B 21 j, B 22 j, B 23 j, B 24 j, B 25 j, v, B 27 j, B 28 j, B 29 j, fun q => B 10 (4 * j + q), fun q => B 11 (4 * j + q), fun q => B 12 (4 * j + q), fun q => B 15 (4 * j + q))
  rw [h9]
theorem pjc_27 {B : Nat → Nat → Int32} {y : sM} {f : Nat → Int32} {j : Nat} {v : Int32} (hf : f = upd (B 27) j v) (h : pj B j = y) : pj (setA B 27 f) j = y.s27 v := by
  subst h
  subst hf
  have h9 : upd (B 27) j v j = v := pk_us
  show (B 3 j, B 4 j, B 5 j, B 6 j, B 7 j, B 8 j, B 9 j, B 13 j, B 14 j, B 16 j, B 17 j, B 18 j, B 19 j, B 20 j, B 21 j, B 22 j, B 23 j, B 24 j, B 25 j, B 26 j, upd (B 27) j v j, B 28 j, B 29 j, fun q => B 10 (4 * j + q), fun q => B 11 (4 * j + q), fun q => B 12 (4 * j + q), fun q => B 15 (4 * j + q)) = (B 3 j, B 4 j, B 5 j, B 6 j, B 7 j, B 8 j, B 9 j, B 13 j, B 14 j, B 16 j, B 17 j, B 18 j, B 19 j, B 20 j, B 21 j, B 22 j, B 23 j, B 24 j, B 25 j, B 26 j, v, B 28 j, B 29 j, fun q => B 10 (4 * j + q), fun q => B 11 (4 * j + q), fun q => B 12 (4 * j + q), fun q => B 15 (4 * j + q))
  rw [h9]
theorem pjc_28 {B : Nat → Nat → Int32} {y : sM} {f : Nat → Int32} {j : Nat} {v : Int32} (hf : f = upd (B 28) j v) (h : pj B j = y) : pj (setA B 28 f) j = y.s28 v := by
  subst h
  subst hf
  have h9 : upd (B 28) j v j = v := pk_us
  show (B 3 j, B 4 j, B 5 j, B 6 j, B 7 j, B 8 j, B 9 j, B 13 j, B 14 j, B 16 j, B 17 j, B 18 j, B 19 j, B 20 j, B 21 j, B 22 j, B 23 j, B 24 j, B 25 j, B 26 j, B 27 j, upd (B 28) j v j, B 29 j, fun q => B 10 (4 * j + q), fun q => B 11 (4 * j + q), fun q => B 12 (4 * j + q), fun q => B 15 (4 * j + q)) = (B 3 j, B 4 j, B 5 j, B 6 j, B 7 j, B 8 j, B 9 j, B 13 j, B 14 j, B 16 j, B 17 j, B 18 j, B 19 j, B 20 j, B 21 j, B 22 j, B 23 j, B 24 j, B 25 j, B 26 j, B 27 j, v, B 29 j, fun q => B 10 (4 * j + q), fun q => B 11 (4 * j + q), fun q => B 12 (4 * j + q), fun q => B 15 (4 * j + q))
  rw [h9]
theorem pjc_29 {B : Nat → Nat → Int32} {y : sM} {f : Nat → Int32} {j : Nat} {v : Int32} (hf : f = upd (B 29) j v) (h : pj B j = y) : pj (setA B 29 f) j = y.s29 v := by
  subst h
  subst hf
  have h9 : upd (B 29) j v j = v := pk_us
  show (B 3 j, B 4 j, B 5 j, B 6 j, B 7 j, B 8 j, B 9 j, B 13 j, B 14 j, B 16 j, B 17 j, B 18 j, B 19 j, B 20 j, B 21 j, B 22 j, B 23 j, B 24 j, B 25 j, B 26 j, B 27 j, B 28 j, upd (B 29) j v j, fun q => B 10 (4 * j + q), fun q => B 11 (4 * j + q), fun q => B 12 (4 * j + q), fun q => B 15 (4 * j + q)) = (B 3 j, B 4 j, B 5 j, B 6 j, B 7 j, B 8 j, B 9 j, B 13 j, B 14 j, B 16 j, B 17 j, B 18 j, B 19 j, B 20 j, B 21 j, B 22 j, B 23 j, B 24 j, B 25 j, B 26 j, B 27 j, B 28 j, v, fun q => B 10 (4 * j + q), fun q => B 11 (4 * j + q), fun q => B 12 (4 * j + q), fun q => B 15 (4 * j + q))
  rw [h9]
theorem pjc_0 {B : Nat → Nat → Int32} {y : sM} {f : Nat → Int32} {j : Nat} (h : pj B j = y) : pj (setA B 0 f) j = y := by
  subst h
  rfl
theorem pjc_1 {B : Nat → Nat → Int32} {y : sM} {f : Nat → Int32} {j : Nat} (h : pj B j = y) : pj (setA B 1 f) j = y := by
  subst h
  rfl
theorem pjc_2 {B : Nat → Nat → Int32} {y : sM} {f : Nat → Int32} {j : Nat} (h : pj B j = y) : pj (setA B 2 f) j = y := by
  subst h
  rfl
theorem pjc_10 {B : Nat → Nat → Int32} {y : sM} {f : Nat → Int32} {j i : Nat} {v : Int32} (hf : f = upd (B 10) (4 * j + i) v) (h : pj B j = y) : pj (setA B 10 f) j = y.swi (upd y.wi i v) := by
  subst h
  subst hf
  have h9 : (fun q => upd (B 10) (4 * j + i) v (4 * j + q)) = upd (fun q => B 10 (4 * j + q)) i v := by
    funext q
    by_cases e : q = i
    · subst e; rw [pk_us, pk_us]
    · rw [pk_un (by omega), pk_un e]
  show (B 3 j, B 4 j, B 5 j, B 6 j, B 7 j, B 8 j, B 9 j, B 13 j, B 14 j, B 16 j, B 17 j, B 18 j, B 19 j, B 20 j, B 21 j, B 22 j, B 23 j, B 24 j, B 25 j, B 26 j, B 27 j, B 28 j, B 29 j, fun q => upd (B 10) (4 * j + i) v (4 * j + q), fun q => B 11 (4 * j + q), fun q => B 12 (4 * j + q), fun q => B 15 (4 * j + q)) = (B 3 j, B 4 j, B 5 j, B 6 j, B 7 j, B 8 j, B 9 j, B 13 j, B 14 j, B 16 j, B 17 j, B 18 j, B 19 j, B 20 j, B 21 j, B 22 j, B 23 j, B 24 j, B 25 j, B 26 j, B 27 j, B 28 j, B 29 j, upd (fun q => B 10 (4 * j + q)) i v, fun q => B 11 (4 * j + q), fun q => B 12 (4 * j + q), fun q => B 15 (4 * j + q))
  rw [h9]
theorem pjc_11 {B : Nat → Nat → Int32} {y : sM} {f : Nat → Int32} {j i : Nat} {v : Int32} (hf : f = upd (B 11) (4 * j + i) v) (h : pj B j = y) : pj (setA B 11 f) j = y.swb (upd y.wb i v) := by
  subst h
  subst hf
  have h9 : (fun q => upd (B 11) (4 * j + i) v (4 * j + q)) = upd (fun q => B 11 (4 * j + q)) i v := by
    funext q
    by_cases e : q = i
    · subst e; rw [pk_us, pk_us]
    · rw [pk_un (by omega), pk_un e]
  show (B 3 j, B 4 j, B 5 j, B 6 j, B 7 j, B 8 j, B 9 j, B 13 j, B 14 j, B 16 j, B 17 j, B 18 j, B 19 j, B 20 j, B 21 j, B 22 j, B 23 j, B 24 j, B 25 j, B 26 j, B 27 j, B 28 j, B 29 j, fun q => B 10 (4 * j + q), fun q => upd (B 11) (4 * j + i) v (4 * j + q), fun q => B 12 (4 * j + q), fun q => B 15 (4 * j + q)) = (B 3 j, B 4 j, B 5 j, B 6 j, B 7 j, B 8 j, B 9 j, B 13 j, B 14 j, B 16 j, B 17 j, B 18 j, B 19 j, B 20 j, B 21 j, B 22 j, B 23 j, B 24 j, B 25 j, B 26 j, B 27 j, B 28 j, B 29 j, fun q => B 10 (4 * j + q), upd (fun q => B 11 (4 * j + q)) i v, fun q => B 12 (4 * j + q), fun q => B 15 (4 * j + q))
  rw [h9]
theorem pjc_12 {B : Nat → Nat → Int32} {y : sM} {f : Nat → Int32} {j i : Nat} {v : Int32} (hf : f = upd (B 12) (4 * j + i) v) (h : pj B j = y) : pj (setA B 12 f) j = y.swd (upd y.wd i v) := by
  subst h
  subst hf
  have h9 : (fun q => upd (B 12) (4 * j + i) v (4 * j + q)) = upd (fun q => B 12 (4 * j + q)) i v := by
    funext q
    by_cases e : q = i
    · subst e; rw [pk_us, pk_us]
    · rw [pk_un (by omega), pk_un e]
  show (B 3 j, B 4 j, B 5 j, B 6 j, B 7 j, B 8 j, B 9 j, B 13 j, B 14 j, B 16 j, B 17 j, B 18 j, B 19 j, B 20 j, B 21 j, B 22 j, B 23 j, B 24 j, B 25 j, B 26 j, B 27 j, B 28 j, B 29 j, fun q => B 10 (4 * j + q), fun q => B 11 (4 * j + q), fun q => upd (B 12) (4 * j + i) v (4 * j + q), fun q => B 15 (4 * j + q)) = (B 3 j, B 4 j, B 5 j, B 6 j, B 7 j, B 8 j, B 9 j, B 13 j, B 14 j, B 16 j, B 17 j, B 18 j, B 19 j, B 20 j, B 21 j, B 22 j, B 23 j, B 24 j, B 25 j, B 26 j, B 27 j, B 28 j, B 29 j, fun q => B 10 (4 * j + q), fun q => B 11 (4 * j + q), upd (fun q => B 12 (4 * j + q)) i v, fun q => B 15 (4 * j + q))
  rw [h9]
theorem pjc_15 {B : Nat → Nat → Int32} {y : sM} {f : Nat → Int32} {j i : Nat} {v : Int32} (hf : f = upd (B 15) (4 * j + i) v) (h : pj B j = y) : pj (setA B 15 f) j = y.sbx (upd y.bx i v) := by
  subst h
  subst hf
  have h9 : (fun q => upd (B 15) (4 * j + i) v (4 * j + q)) = upd (fun q => B 15 (4 * j + q)) i v := by
    funext q
    by_cases e : q = i
    · subst e; rw [pk_us, pk_us]
    · rw [pk_un (by omega), pk_un e]
  show (B 3 j, B 4 j, B 5 j, B 6 j, B 7 j, B 8 j, B 9 j, B 13 j, B 14 j, B 16 j, B 17 j, B 18 j, B 19 j, B 20 j, B 21 j, B 22 j, B 23 j, B 24 j, B 25 j, B 26 j, B 27 j, B 28 j, B 29 j, fun q => B 10 (4 * j + q), fun q => B 11 (4 * j + q), fun q => B 12 (4 * j + q), fun q => upd (B 15) (4 * j + i) v (4 * j + q)) = (B 3 j, B 4 j, B 5 j, B 6 j, B 7 j, B 8 j, B 9 j, B 13 j, B 14 j, B 16 j, B 17 j, B 18 j, B 19 j, B 20 j, B 21 j, B 22 j, B 23 j, B 24 j, B 25 j, B 26 j, B 27 j, B 28 j, B 29 j, fun q => B 10 (4 * j + q), fun q => B 11 (4 * j + q), fun q => B 12 (4 * j + q), upd (fun q => B 15 (4 * j + q)) i v)
  rw [h9]
theorem in_r {x : Int32} {m : Nat} (h : ∃ w : Nat, w ≤ m ∧ x = nI w) (hm : m ≤ 4) : ∃ w : Nat, w ≤ 4 ∧ x = nI w := by
  obtain ⟨w, hw, e⟩ := h
  exact ⟨w, by omega, e⟩
theorem ixn {x : Int32} {j : Nat} (h : ∃ w : Nat, w ≤ 4 ∧ x = nI w) (hj : j < 4 := by omega) : ((4 * (nI j)) + x).toNatClampNeg = 4 * j + x.toNatClampNeg := by
  obtain ⟨w, hw, e⟩ := h
  rw [e, ix4, nI_clamp (by omega), nI_clamp (by omega)]
def g_M_coreLength (yy : sM) : Int32 := if 19 ≤ (yy.r17) then (34 + (8 * (yy.r22))) else ((999 : Int32))
set_option maxHeartbeats 4000000 in
set_option maxRecDepth 100000 in
theorem pj_M_coreLength (A : Nat → Nat → Int32) (j : Nat) (hj : j < 4) (yy : sM) (h : pj A j = yy) : f_M_coreLength A j = g_M_coreLength yy := by
  subst h
  by_cases c42 : 19 ≤ (A 17 j)
  · skip
    have hf : f_M_coreLength A j = 34 + (8 * (A 22 j)) := by unfold f_M_coreLength; rw [if_pos c42]
    have hg : g_M_coreLength (pj A j) = 34 + (8 * ((pj A j).r22)) := by unfold g_M_coreLength; rw [if_pos (show 19 ≤ ((pj A j).r17) from c42)]
    rw [hf, hg]
    all_goals rfl
  · skip
    have hf : f_M_coreLength A j = (999 : Int32) := by unfold f_M_coreLength; rw [if_neg c42]
    have hg : g_M_coreLength (pj A j) = (999 : Int32) := by unfold g_M_coreLength; rw [if_neg (show ¬ (19 ≤ ((pj A j).r17)) from c42)]
    rw [hf, hg]
    all_goals rfl
def g_M_isPassive (yy : sM) : Int32 := if 127 < (yy.r4) then ((1 : Int32)) else (if (yy.r5) ≤ 127 then ((0 : Int32)) else ((1 : Int32)))
set_option maxHeartbeats 4000000 in
set_option maxRecDepth 100000 in
theorem pj_M_isPassive (A : Nat → Nat → Int32) (j : Nat) (hj : j < 4) (yy : sM) (h : pj A j = yy) : f_M_isPassive A j = g_M_isPassive yy := by
  subst h
  by_cases c42 : 127 < (A 4 j)
  · skip
    have hf : f_M_isPassive A j = (1 : Int32) := by unfold f_M_isPassive; rw [if_pos c42]
    have hg : g_M_isPassive (pj A j) = (1 : Int32) := by unfold g_M_isPassive; rw [if_pos (show 127 < ((pj A j).r4) from c42)]
    rw [hf, hg]
    all_goals rfl
  · skip
    by_cases c44 : (A 5 j) ≤ 127
    · skip
      have hf : f_M_isPassive A j = (0 : Int32) := by unfold f_M_isPassive; rw [if_neg c42, if_pos c44]
      have hg : g_M_isPassive (pj A j) = (0 : Int32) := by unfold g_M_isPassive; rw [if_neg (show ¬ (127 < ((pj A j).r4)) from c42), if_pos (show ((pj A j).r5) ≤ 127 from c44)]
      rw [hf, hg]
      all_goals rfl
    · skip
      have hf : f_M_isPassive A j = (1 : Int32) := by unfold f_M_isPassive; rw [if_neg c42, if_neg c44]
      have hg : g_M_isPassive (pj A j) = (1 : Int32) := by unfold g_M_isPassive; rw [if_neg (show ¬ (127 < ((pj A j).r4)) from c42), if_neg (show ¬ (((pj A j).r5) ≤ 127) from c44)]
      rw [hf, hg]
      all_goals rfl
def g_M_rest (yy : sM) : sM := ((yy.s3 5).s26 0)
set_option maxHeartbeats 4000000 in
set_option maxRecDepth 100000 in
theorem pj_M_rest (A : Nat → Nat → Int32) (j : Nat) (hj : j < 4) (yy : sM) (h : pj A j = yy) : pj (f_M_rest A j) j = g_M_rest yy := by
  subst h
  have hf : f_M_rest A j = (setA (setA A 3 (upd (A 3) j 5)) 26 (upd (A 26) j 0)) := rfl
  have hg : g_M_rest (pj A j) = (((pj A j).s3 5).s26 0) := rfl
  rw [hf, hg]
  exact (pjc_26 (v := 0) rfl (pjc_3 (v := 5) rfl rfl))
def g_M_open (yy : sM) (x : Int32) : sM := ((((((((((yy.s3 x).s28 x).s16 0).s17 0).s18 0).s19 0).s20 0).s21 0).s22 0).s23 0)
set_option maxHeartbeats 4000000 in
set_option maxRecDepth 100000 in
theorem pj_M_open (A : Nat → Nat → Int32) (j : Nat) (hj : j < 4) (x : Int32) (yy : sM) (h : pj A j = yy) : pj (f_M_open A j x) j = g_M_open yy x := by
  subst h
  have hf : f_M_open A j x = (setA (setA (setA (setA (setA (setA (setA (setA (setA (setA A 3 (upd (A 3) j x)) 28 (upd (A 28) j x)) 16 (upd (A 16) j 0)) 17 (upd (A 17) j 0)) 18 (upd (A 18) j 0)) 19 (upd (A 19) j 0)) 20 (upd (A 20) j 0)) 21 (upd (A 21) j 0)) 22 (upd (A 22) j 0)) 23 (upd (A 23) j 0)) := rfl
  have hg : g_M_open (pj A j) x = (((((((((((pj A j).s3 x).s28 x).s16 0).s17 0).s18 0).s19 0).s20 0).s21 0).s22 0).s23 0) := rfl
  rw [hf, hg]
  exact (pjc_23 (v := 0) rfl (pjc_22 (v := 0) rfl (pjc_21 (v := 0) rfl (pjc_20 (v := 0) rfl (pjc_19 (v := 0) rfl (pjc_18 (v := 0) rfl (pjc_17 (v := 0) rfl (pjc_16 (v := 0) rfl (pjc_28 (v := x) rfl (pjc_3 (v := x) rfl rfl))))))))))
def g_M_goesOff (yy : sM) : sM × Int32 := if 256 ≤ (yy.r4) then ((((((yy.s3 7).s9 0).s27 0).s26 0), 1)) else ((yy, 0))
set_option maxHeartbeats 4000000 in
set_option maxRecDepth 100000 in
theorem pj_M_goesOff (A : Nat → Nat → Int32) (j : Nat) (hj : j < 4) (yy : sM) (h : pj A j = yy) : pj (f_M_goesOff A j).1 j = (g_M_goesOff yy).1 ∧ (f_M_goesOff A j).2 = (g_M_goesOff yy).2 := by
  subst h
  by_cases c42 : 256 ≤ (A 4 j)
  · skip
    have hf : f_M_goesOff A j = ((setA (setA (setA (setA A 3 (upd (A 3) j 7)) 9 (upd (A 9) j 0)) 27 (upd (A 27) j 0)) 26 (upd (A 26) j 0)), 1) := by unfold f_M_goesOff; rw [if_pos c42]
    have hg : g_M_goesOff (pj A j) = ((((((pj A j).s3 7).s9 0).s27 0).s26 0), 1) := by unfold g_M_goesOff; rw [if_pos (show 256 ≤ ((pj A j).r4) from c42)]
    rw [hf, hg]
    exact ⟨(pjc_26 (v := 0) rfl (pjc_27 (v := 0) rfl (pjc_9 (v := 0) rfl (pjc_3 (v := 7) rfl rfl)))), rfl⟩
  · skip
    have hf : f_M_goesOff A j = (A, 0) := by unfold f_M_goesOff; rw [if_neg c42]
    have hg : g_M_goesOff (pj A j) = ((pj A j), 0) := by unfold g_M_goesOff; rw [if_neg (show ¬ (256 ≤ ((pj A j).r4)) from c42)]
    rw [hf, hg]
    exact ⟨rfl, rfl⟩
def g_M_flag (yy : sM) (x y : Int32) : sM := ((((yy.s24 x).s25 (vp_nar .boolean y)).s3 3).s26 0)
set_option maxHeartbeats 4000000 in
set_option maxRecDepth 100000 in
theorem pj_M_flag (A : Nat → Nat → Int32) (j : Nat) (hj : j < 4) (x y : Int32) (yy : sM) (h : pj A j = yy) : pj (f_M_flag A j x y) j = g_M_flag yy x y := by
  subst h
  have hf : f_M_flag A j x y = (setA (setA (setA (setA A 24 (upd (A 24) j x)) 25 (upd (A 25) j (vp_nar .boolean y))) 3 (upd (A 3) j 3)) 26 (upd (A 26) j 0)) := rfl
  have hg : g_M_flag (pj A j) x y = (((((pj A j).s24 x).s25 (vp_nar .boolean y)).s3 3).s26 0) := rfl
  rw [hf, hg]
  exact (pjc_26 (v := 0) rfl (pjc_3 (v := 3) rfl (pjc_25 (v := vp_nar .boolean y) rfl (pjc_24 (v := x) rfl rfl))))
def g_M_overload (yy : sM) : sM := (g_M_flag (yy.s28 0) 0 0)
set_option maxHeartbeats 4000000 in
set_option maxRecDepth 100000 in
theorem pj_M_overload (A : Nat → Nat → Int32) (j : Nat) (hj : j < 4) (yy : sM) (h : pj A j = yy) : pj (f_M_overload A j) j = g_M_overload yy := by
  subst h
  have e53 : pj (f_M_flag (setA (setA A 0 (upd (A 0) 7 ((A 0 7) + 1))) 28 (upd (A 28) j 0)) j 0 0) j = (g_M_flag ((pj A j).s28 0) 0 0) := (pj_M_flag (setA (setA A 0 (upd (A 0) 7 ((A 0 7) + 1))) 28 (upd (A 28) j 0)) j hj 0 0 _ (pjc_28 (v := 0) rfl (pjc_0 rfl)))
  have hf : f_M_overload A j = (f_M_flag (setA (setA A 0 (upd (A 0) 7 ((A 0 7) + 1))) 28 (upd (A 28) j 0)) j 0 0) := rfl
  have hg : g_M_overload (pj A j) = (g_M_flag ((pj A j).s28 0) 0 0) := rfl
  rw [hf, hg]
  exact e53
def g_M_eightMore (yy : sM) : sM × Int32 := if (yy.r24) = 1 then (if (yy.r24) = 2 then (((g_M_goesOff ((yy.s4 ((yy.r4) + 8)).s5 ((yy.r5) + 8))).1, (g_M_goesOff ((yy.s4 ((yy.r4) + 8)).s5 ((yy.r5) + 8))).2)) else (((g_M_goesOff ((yy.s4 ((yy.r4) + 8)).s5 ((yy.r5) + 0))).1, (g_M_goesOff ((yy.s4 ((yy.r4) + 8)).s5 ((yy.r5) + 0))).2))) else (if (yy.r24) = 2 then (((g_M_goesOff ((yy.s4 ((yy.r4) + 0)).s5 ((yy.r5) + 8))).1, (g_M_goesOff ((yy.s4 ((yy.r4) + 0)).s5 ((yy.r5) + 8))).2)) else (((g_M_goesOff ((yy.s4 ((yy.r4) + 0)).s5 ((yy.r5) + 0))).1, (g_M_goesOff ((yy.s4 ((yy.r4) + 0)).s5 ((yy.r5) + 0))).2)))
set_option maxHeartbeats 4000000 in
set_option maxRecDepth 100000 in
theorem pj_M_eightMore (A : Nat → Nat → Int32) (j : Nat) (hj : j < 4) (yy : sM) (h : pj A j = yy) : pj (f_M_eightMore A j).1 j = (g_M_eightMore yy).1 ∧ (f_M_eightMore A j).2 = (g_M_eightMore yy).2 := by
  subst h
  by_cases c43 : (A 24 j) = 1
  · skip
    by_cases c73 : (A 24 j) = 2
    · skip
      have e89 : pj (f_M_goesOff (setA (setA A 4 (upd (A 4) j ((A 4 j) + 8))) 5 (upd (A 5) j ((A 5 j) + 8))) j).1 j = (g_M_goesOff (((pj A j).s4 (((pj A j).r4) + 8)).s5 (((pj A j).r5) + 8))).1 ∧ (f_M_goesOff (setA (setA A 4 (upd (A 4) j ((A 4 j) + 8))) 5 (upd (A 5) j ((A 5 j) + 8))) j).2 = (g_M_goesOff (((pj A j).s4 (((pj A j).r4) + 8)).s5 (((pj A j).r5) + 8))).2 := (pj_M_goesOff (setA (setA A 4 (upd (A 4) j ((A 4 j) + 8))) 5 (upd (A 5) j ((A 5 j) + 8))) j hj _ (pjc_5 (v := (A 5 j) + 8) rfl (pjc_4 (v := (A 4 j) + 8) rfl rfl)))
      have hf : f_M_eightMore A j = ((f_M_goesOff (setA (setA A 4 (upd (A 4) j ((A 4 j) + 8))) 5 (upd (A 5) j ((A 5 j) + 8))) j).1, (f_M_goesOff (setA (setA A 4 (upd (A 4) j ((A 4 j) + 8))) 5 (upd (A 5) j ((A 5 j) + 8))) j).2) := by unfold f_M_eightMore; rw [if_pos c43, if_pos c73]
      have hg : g_M_eightMore (pj A j) = ((g_M_goesOff (((pj A j).s4 (((pj A j).r4) + 8)).s5 (((pj A j).r5) + 8))).1, (g_M_goesOff (((pj A j).s4 (((pj A j).r4) + 8)).s5 (((pj A j).r5) + 8))).2) := by unfold g_M_eightMore; rw [if_pos (show ((pj A j).r24) = 1 from c43), if_pos (show ((pj A j).r24) = 2 from c73)]
      rw [hf, hg]
      rw [← e89.2]
      exact ⟨e89.1, rfl⟩
    · skip
      have e81 : pj (f_M_goesOff (setA (setA A 4 (upd (A 4) j ((A 4 j) + 8))) 5 (upd (A 5) j ((A 5 j) + 0))) j).1 j = (g_M_goesOff (((pj A j).s4 (((pj A j).r4) + 8)).s5 (((pj A j).r5) + 0))).1 ∧ (f_M_goesOff (setA (setA A 4 (upd (A 4) j ((A 4 j) + 8))) 5 (upd (A 5) j ((A 5 j) + 0))) j).2 = (g_M_goesOff (((pj A j).s4 (((pj A j).r4) + 8)).s5 (((pj A j).r5) + 0))).2 := (pj_M_goesOff (setA (setA A 4 (upd (A 4) j ((A 4 j) + 8))) 5 (upd (A 5) j ((A 5 j) + 0))) j hj _ (pjc_5 (v := (A 5 j) + 0) rfl (pjc_4 (v := (A 4 j) + 8) rfl rfl)))
      have hf : f_M_eightMore A j = ((f_M_goesOff (setA (setA A 4 (upd (A 4) j ((A 4 j) + 8))) 5 (upd (A 5) j ((A 5 j) + 0))) j).1, (f_M_goesOff (setA (setA A 4 (upd (A 4) j ((A 4 j) + 8))) 5 (upd (A 5) j ((A 5 j) + 0))) j).2) := by unfold f_M_eightMore; rw [if_pos c43, if_neg c73]
      have hg : g_M_eightMore (pj A j) = ((g_M_goesOff (((pj A j).s4 (((pj A j).r4) + 8)).s5 (((pj A j).r5) + 0))).1, (g_M_goesOff (((pj A j).s4 (((pj A j).r4) + 8)).s5 (((pj A j).r5) + 0))).2) := by unfold g_M_eightMore; rw [if_pos (show ((pj A j).r24) = 1 from c43), if_neg (show ¬ (((pj A j).r24) = 2) from c73)]
      rw [hf, hg]
      rw [← e81.2]
      exact ⟨e81.1, rfl⟩
  · skip
    by_cases c50 : (A 24 j) = 2
    · skip
      have e66 : pj (f_M_goesOff (setA (setA A 4 (upd (A 4) j ((A 4 j) + 0))) 5 (upd (A 5) j ((A 5 j) + 8))) j).1 j = (g_M_goesOff (((pj A j).s4 (((pj A j).r4) + 0)).s5 (((pj A j).r5) + 8))).1 ∧ (f_M_goesOff (setA (setA A 4 (upd (A 4) j ((A 4 j) + 0))) 5 (upd (A 5) j ((A 5 j) + 8))) j).2 = (g_M_goesOff (((pj A j).s4 (((pj A j).r4) + 0)).s5 (((pj A j).r5) + 8))).2 := (pj_M_goesOff (setA (setA A 4 (upd (A 4) j ((A 4 j) + 0))) 5 (upd (A 5) j ((A 5 j) + 8))) j hj _ (pjc_5 (v := (A 5 j) + 8) rfl (pjc_4 (v := (A 4 j) + 0) rfl rfl)))
      have hf : f_M_eightMore A j = ((f_M_goesOff (setA (setA A 4 (upd (A 4) j ((A 4 j) + 0))) 5 (upd (A 5) j ((A 5 j) + 8))) j).1, (f_M_goesOff (setA (setA A 4 (upd (A 4) j ((A 4 j) + 0))) 5 (upd (A 5) j ((A 5 j) + 8))) j).2) := by unfold f_M_eightMore; rw [if_neg c43, if_pos c50]
      have hg : g_M_eightMore (pj A j) = ((g_M_goesOff (((pj A j).s4 (((pj A j).r4) + 0)).s5 (((pj A j).r5) + 8))).1, (g_M_goesOff (((pj A j).s4 (((pj A j).r4) + 0)).s5 (((pj A j).r5) + 8))).2) := by unfold g_M_eightMore; rw [if_neg (show ¬ (((pj A j).r24) = 1) from c43), if_pos (show ((pj A j).r24) = 2 from c50)]
      rw [hf, hg]
      rw [← e66.2]
      exact ⟨e66.1, rfl⟩
    · skip
      have e58 : pj (f_M_goesOff (setA (setA A 4 (upd (A 4) j ((A 4 j) + 0))) 5 (upd (A 5) j ((A 5 j) + 0))) j).1 j = (g_M_goesOff (((pj A j).s4 (((pj A j).r4) + 0)).s5 (((pj A j).r5) + 0))).1 ∧ (f_M_goesOff (setA (setA A 4 (upd (A 4) j ((A 4 j) + 0))) 5 (upd (A 5) j ((A 5 j) + 0))) j).2 = (g_M_goesOff (((pj A j).s4 (((pj A j).r4) + 0)).s5 (((pj A j).r5) + 0))).2 := (pj_M_goesOff (setA (setA A 4 (upd (A 4) j ((A 4 j) + 0))) 5 (upd (A 5) j ((A 5 j) + 0))) j hj _ (pjc_5 (v := (A 5 j) + 0) rfl (pjc_4 (v := (A 4 j) + 0) rfl rfl)))
      have hf : f_M_eightMore A j = ((f_M_goesOff (setA (setA A 4 (upd (A 4) j ((A 4 j) + 0))) 5 (upd (A 5) j ((A 5 j) + 0))) j).1, (f_M_goesOff (setA (setA A 4 (upd (A 4) j ((A 4 j) + 0))) 5 (upd (A 5) j ((A 5 j) + 0))) j).2) := by unfold f_M_eightMore; rw [if_neg c43, if_neg c50]
      have hg : g_M_eightMore (pj A j) = ((g_M_goesOff (((pj A j).s4 (((pj A j).r4) + 0)).s5 (((pj A j).r5) + 0))).1, (g_M_goesOff (((pj A j).s4 (((pj A j).r4) + 0)).s5 (((pj A j).r5) + 0))).2) := by unfold g_M_eightMore; rw [if_neg (show ¬ (((pj A j).r24) = 1) from c43), if_neg (show ¬ (((pj A j).r24) = 2) from c50)]
      rw [hf, hg]
      rw [← e58.2]
      exact ⟨e58.1, rfl⟩
def g_M_flagging (yy : sM) (x : Int32) : sM := if (yy.r29) = 0 then (if x = 1 then (if ((g_M_eightMore yy).2) = 0 then (if (((g_M_eightMore yy).1.r26) + 1) = 6 then ((((((g_M_eightMore yy).1.s26 (((g_M_eightMore yy).1.r26) + 1)).s3 4).s26 0).s27 0)) else (((g_M_eightMore yy).1.s26 (((g_M_eightMore yy).1.r26) + 1)))) else ((g_M_eightMore yy).1)) else (if ((yy.r26) + 1) = 6 then (((((yy.s26 ((yy.r26) + 1)).s3 4).s26 0).s27 0)) else ((yy.s26 ((yy.r26) + 1))))) else (if ((yy.r26) + 1) = 6 then (((((yy.s26 ((yy.r26) + 1)).s3 4).s26 0).s27 0)) else ((yy.s26 ((yy.r26) + 1))))
set_option maxHeartbeats 4000000 in
set_option maxRecDepth 100000 in
theorem pj_M_flagging (A : Nat → Nat → Int32) (j : Nat) (hj : j < 4) (x : Int32) (yy : sM) (h : pj A j = yy) : pj (f_M_flagging A j x) j = g_M_flagging yy x := by
  subst h
  by_cases c42 : (A 29 j) = 0
  · skip
    by_cases c62 : x = 1
    · skip
      by_cases c86 : ((f_M_eightMore A j).2) = 0
      · skip
        by_cases c94 : ((((f_M_eightMore A j).1 26) j) + 1) = 6
        · skip
          have e85 : pj (f_M_eightMore A j).1 j = (g_M_eightMore (pj A j)).1 ∧ (f_M_eightMore A j).2 = (g_M_eightMore (pj A j)).2 := (pj_M_eightMore A j hj _ rfl)
          have e88 : ((f_M_eightMore A j).1 26) j = (g_M_eightMore (pj A j)).1.r26 := congrArg (fun q : sM => q.r26) e85.1
          have hf : f_M_flagging A j x = (setA (setA (setA (setA (f_M_eightMore A j).1 26 (upd ((f_M_eightMore A j).1 26) j ((((f_M_eightMore A j).1 26) j) + 1))) 3 (upd ((f_M_eightMore A j).1 3) j 4)) 26 (upd (upd ((f_M_eightMore A j).1 26) j ((((f_M_eightMore A j).1 26) j) + 1)) j 0)) 27 (upd ((f_M_eightMore A j).1 27) j 0)) := by unfold f_M_flagging; rw [if_pos c42, if_pos c62, if_pos c86, if_pos c94]
          have hg : g_M_flagging (pj A j) x = (((((g_M_eightMore (pj A j)).1.s26 (((g_M_eightMore (pj A j)).1.r26) + 1)).s3 4).s26 0).s27 0) := by unfold g_M_flagging; rw [if_pos (show ((pj A j).r29) = 0 from c42), if_pos (show x = 1 from c62), if_pos (show ((g_M_eightMore (pj A j)).2) = 0 from by rw [← e85.2]; exact c86), if_pos (show (((g_M_eightMore (pj A j)).1.r26) + 1) = 6 from by rw [← e88]; exact c94)]
          rw [hf, hg]
          rw [← e88]
          exact (pjc_27 (v := 0) rfl (pjc_26 (v := 0) rfl (pjc_3 (v := 4) rfl (pjc_26 (v := (((f_M_eightMore A j).1 26) j) + 1) rfl e85.1))))
        · skip
          have e85 : pj (f_M_eightMore A j).1 j = (g_M_eightMore (pj A j)).1 ∧ (f_M_eightMore A j).2 = (g_M_eightMore (pj A j)).2 := (pj_M_eightMore A j hj _ rfl)
          have e88 : ((f_M_eightMore A j).1 26) j = (g_M_eightMore (pj A j)).1.r26 := congrArg (fun q : sM => q.r26) e85.1
          have hf : f_M_flagging A j x = (setA (f_M_eightMore A j).1 26 (upd ((f_M_eightMore A j).1 26) j ((((f_M_eightMore A j).1 26) j) + 1))) := by unfold f_M_flagging; rw [if_pos c42, if_pos c62, if_pos c86, if_neg c94]
          have hg : g_M_flagging (pj A j) x = ((g_M_eightMore (pj A j)).1.s26 (((g_M_eightMore (pj A j)).1.r26) + 1)) := by unfold g_M_flagging; rw [if_pos (show ((pj A j).r29) = 0 from c42), if_pos (show x = 1 from c62), if_pos (show ((g_M_eightMore (pj A j)).2) = 0 from by rw [← e85.2]; exact c86), if_neg (show ¬ ((((g_M_eightMore (pj A j)).1.r26) + 1) = 6) from by rw [← e88]; exact c94)]
          rw [hf, hg]
          rw [← e88]
          exact (pjc_26 (v := (((f_M_eightMore A j).1 26) j) + 1) rfl e85.1)
      · skip
        have e85 : pj (f_M_eightMore A j).1 j = (g_M_eightMore (pj A j)).1 ∧ (f_M_eightMore A j).2 = (g_M_eightMore (pj A j)).2 := (pj_M_eightMore A j hj _ rfl)
        have hf : f_M_flagging A j x = (f_M_eightMore A j).1 := by unfold f_M_flagging; rw [if_pos c42, if_pos c62, if_neg c86]
        have hg : g_M_flagging (pj A j) x = (g_M_eightMore (pj A j)).1 := by unfold g_M_flagging; rw [if_pos (show ((pj A j).r29) = 0 from c42), if_pos (show x = 1 from c62), if_neg (show ¬ (((g_M_eightMore (pj A j)).2) = 0) from by rw [← e85.2]; exact c86)]
        rw [hf, hg]
        exact e85.1
    · skip
      by_cases c69 : ((A 26 j) + 1) = 6
      · skip
        have hf : f_M_flagging A j x = (setA (setA (setA (setA A 26 (upd (A 26) j ((A 26 j) + 1))) 3 (upd (A 3) j 4)) 26 (upd (upd (A 26) j ((A 26 j) + 1)) j 0)) 27 (upd (A 27) j 0)) := by unfold f_M_flagging; rw [if_pos c42, if_neg c62, if_pos c69]
        have hg : g_M_flagging (pj A j) x = (((((pj A j).s26 (((pj A j).r26) + 1)).s3 4).s26 0).s27 0) := by unfold g_M_flagging; rw [if_pos (show ((pj A j).r29) = 0 from c42), if_neg (show ¬ (x = 1) from c62), if_pos (show (((pj A j).r26) + 1) = 6 from c69)]
        rw [hf, hg]
        exact (pjc_27 (v := 0) rfl (pjc_26 (v := 0) rfl (pjc_3 (v := 4) rfl (pjc_26 (v := (A 26 j) + 1) rfl rfl))))
      · skip
        have hf : f_M_flagging A j x = (setA A 26 (upd (A 26) j ((A 26 j) + 1))) := by unfold f_M_flagging; rw [if_pos c42, if_neg c62, if_neg c69]
        have hg : g_M_flagging (pj A j) x = ((pj A j).s26 (((pj A j).r26) + 1)) := by unfold g_M_flagging; rw [if_pos (show ((pj A j).r29) = 0 from c42), if_neg (show ¬ (x = 1) from c62), if_neg (show ¬ ((((pj A j).r26) + 1) = 6) from c69)]
        rw [hf, hg]
        exact (pjc_26 (v := (A 26 j) + 1) rfl rfl)
  · skip
    by_cases c49 : ((A 26 j) + 1) = 6
    · skip
      have hf : f_M_flagging A j x = (setA (setA (setA (setA A 26 (upd (A 26) j ((A 26 j) + 1))) 3 (upd (A 3) j 4)) 26 (upd (upd (A 26) j ((A 26 j) + 1)) j 0)) 27 (upd (A 27) j 0)) := by unfold f_M_flagging; rw [if_neg c42, if_pos c49]
      have hg : g_M_flagging (pj A j) x = (((((pj A j).s26 (((pj A j).r26) + 1)).s3 4).s26 0).s27 0) := by unfold g_M_flagging; rw [if_neg (show ¬ (((pj A j).r29) = 0) from c42), if_pos (show (((pj A j).r26) + 1) = 6 from c49)]
      rw [hf, hg]
      exact (pjc_27 (v := 0) rfl (pjc_26 (v := 0) rfl (pjc_3 (v := 4) rfl (pjc_26 (v := (A 26 j) + 1) rfl rfl))))
    · skip
      have hf : f_M_flagging A j x = (setA A 26 (upd (A 26) j ((A 26 j) + 1))) := by unfold f_M_flagging; rw [if_neg c42, if_neg c49]
      have hg : g_M_flagging (pj A j) x = ((pj A j).s26 (((pj A j).r26) + 1)) := by unfold g_M_flagging; rw [if_neg (show ¬ (((pj A j).r29) = 0) from c42), if_neg (show ¬ ((((pj A j).r26) + 1) = 6) from c49)]
      rw [hf, hg]
      exact (pjc_26 (v := (A 26 j) + 1) rfl rfl)
def g_M_offTime (yy : sM) (x : Int32) : sM := if x = 1 then (if ((yy.r27) + 1) = 11 then (if ((yy.r26) + 1) = 8 then ((((((((yy.s27 ((yy.r27) + 1)).s27 0).s26 ((yy.r26) + 1)).s4 0).s5 0).s3 0).s26 0)) else ((((yy.s27 ((yy.r27) + 1)).s27 0).s26 ((yy.r26) + 1)))) else (if (yy.r26) = 8 then ((((((yy.s27 ((yy.r27) + 1)).s4 0).s5 0).s3 0).s26 0)) else ((yy.s27 ((yy.r27) + 1))))) else (if (yy.r26) = 8 then ((((((yy.s27 0).s4 0).s5 0).s3 0).s26 0)) else ((yy.s27 0)))
set_option maxHeartbeats 4000000 in
set_option maxRecDepth 100000 in
theorem pj_M_offTime (A : Nat → Nat → Int32) (j : Nat) (hj : j < 4) (x : Int32) (yy : sM) (h : pj A j = yy) : pj (f_M_offTime A j x) j = g_M_offTime yy x := by
  subst h
  by_cases c41 : x = 1
  · skip
    by_cases c71 : ((A 27 j) + 1) = 11
    · skip
      by_cases c100 : ((A 26 j) + 1) = 8
      · skip
        have hf : f_M_offTime A j x = (setA (setA (setA (setA (setA (setA (setA A 27 (upd (A 27) j ((A 27 j) + 1))) 27 (upd (upd (A 27) j ((A 27 j) + 1)) j 0)) 26 (upd (A 26) j ((A 26 j) + 1))) 4 (upd (A 4) j 0)) 5 (upd (A 5) j 0)) 3 (upd (A 3) j 0)) 26 (upd (upd (A 26) j ((A 26 j) + 1)) j 0)) := by unfold f_M_offTime; rw [if_pos c41, if_pos c71, if_pos c100]
        have hg : g_M_offTime (pj A j) x = ((((((((pj A j).s27 (((pj A j).r27) + 1)).s27 0).s26 (((pj A j).r26) + 1)).s4 0).s5 0).s3 0).s26 0) := by unfold g_M_offTime; rw [if_pos (show x = 1 from c41), if_pos (show (((pj A j).r27) + 1) = 11 from c71), if_pos (show (((pj A j).r26) + 1) = 8 from c100)]
        rw [hf, hg]
        exact (pjc_26 (v := 0) rfl (pjc_3 (v := 0) rfl (pjc_5 (v := 0) rfl (pjc_4 (v := 0) rfl (pjc_26 (v := (A 26 j) + 1) rfl (pjc_27 (v := 0) rfl (pjc_27 (v := (A 27 j) + 1) rfl rfl)))))))
      · skip
        have hf : f_M_offTime A j x = (setA (setA (setA A 27 (upd (A 27) j ((A 27 j) + 1))) 27 (upd (upd (A 27) j ((A 27 j) + 1)) j 0)) 26 (upd (A 26) j ((A 26 j) + 1))) := by unfold f_M_offTime; rw [if_pos c41, if_pos c71, if_neg c100]
        have hg : g_M_offTime (pj A j) x = ((((pj A j).s27 (((pj A j).r27) + 1)).s27 0).s26 (((pj A j).r26) + 1)) := by unfold g_M_offTime; rw [if_pos (show x = 1 from c41), if_pos (show (((pj A j).r27) + 1) = 11 from c71), if_neg (show ¬ ((((pj A j).r26) + 1) = 8) from c100)]
        rw [hf, hg]
        exact (pjc_26 (v := (A 26 j) + 1) rfl (pjc_27 (v := 0) rfl (pjc_27 (v := (A 27 j) + 1) rfl rfl)))
    · skip
      by_cases c73 : (A 26 j) = 8
      · skip
        have hf : f_M_offTime A j x = (setA (setA (setA (setA (setA A 27 (upd (A 27) j ((A 27 j) + 1))) 4 (upd (A 4) j 0)) 5 (upd (A 5) j 0)) 3 (upd (A 3) j 0)) 26 (upd (A 26) j 0)) := by unfold f_M_offTime; rw [if_pos c41, if_neg c71, if_pos c73]
        have hg : g_M_offTime (pj A j) x = ((((((pj A j).s27 (((pj A j).r27) + 1)).s4 0).s5 0).s3 0).s26 0) := by unfold g_M_offTime; rw [if_pos (show x = 1 from c41), if_neg (show ¬ ((((pj A j).r27) + 1) = 11) from c71), if_pos (show ((pj A j).r26) = 8 from c73)]
        rw [hf, hg]
        exact (pjc_26 (v := 0) rfl (pjc_3 (v := 0) rfl (pjc_5 (v := 0) rfl (pjc_4 (v := 0) rfl (pjc_27 (v := (A 27 j) + 1) rfl rfl)))))
      · skip
        have hf : f_M_offTime A j x = (setA A 27 (upd (A 27) j ((A 27 j) + 1))) := by unfold f_M_offTime; rw [if_pos c41, if_neg c71, if_neg c73]
        have hg : g_M_offTime (pj A j) x = ((pj A j).s27 (((pj A j).r27) + 1)) := by unfold g_M_offTime; rw [if_pos (show x = 1 from c41), if_neg (show ¬ ((((pj A j).r27) + 1) = 11) from c71), if_neg (show ¬ (((pj A j).r26) = 8) from c73)]
        rw [hf, hg]
        exact (pjc_27 (v := (A 27 j) + 1) rfl rfl)
  · skip
    by_cases c48 : (A 26 j) = 8
    · skip
      have hf : f_M_offTime A j x = (setA (setA (setA (setA (setA A 27 (upd (A 27) j 0)) 4 (upd (A 4) j 0)) 5 (upd (A 5) j 0)) 3 (upd (A 3) j 0)) 26 (upd (A 26) j 0)) := by unfold f_M_offTime; rw [if_neg c41, if_pos c48]
      have hg : g_M_offTime (pj A j) x = ((((((pj A j).s27 0).s4 0).s5 0).s3 0).s26 0) := by unfold g_M_offTime; rw [if_neg (show ¬ (x = 1) from c41), if_pos (show ((pj A j).r26) = 8 from c48)]
      rw [hf, hg]
      exact (pjc_26 (v := 0) rfl (pjc_3 (v := 0) rfl (pjc_5 (v := 0) rfl (pjc_4 (v := 0) rfl (pjc_27 (v := 0) rfl rfl)))))
    · skip
      have hf : f_M_offTime A j x = (setA A 27 (upd (A 27) j 0)) := by unfold f_M_offTime; rw [if_neg c41, if_neg c48]
      have hg : g_M_offTime (pj A j) x = ((pj A j).s27 0) := by unfold g_M_offTime; rw [if_neg (show ¬ (x = 1) from c41), if_neg (show ¬ (((pj A j).r26) = 8) from c48)]
      rw [hf, hg]
      exact (pjc_27 (v := 0) rfl rfl)
def g_M_err (yy : sM) (x y : Int32) : sM := if y = 1 then (if x = 6 then (if ((g_M_isPassive yy)) = 0 then (if ((g_M_goesOff (yy.s4 ((yy.r4) + 8))).2) = 0 then ((g_M_flag (g_M_goesOff (yy.s4 ((yy.r4) + 8))).1 y ((g_M_isPassive (g_M_goesOff (yy.s4 ((yy.r4) + 8))).1)))) else ((g_M_goesOff (yy.s4 ((yy.r4) + 8))).1)) else (if ((g_M_goesOff (yy.s4 ((yy.r4) + 0))).2) = 0 then ((g_M_flag (g_M_goesOff (yy.s4 ((yy.r4) + 0))).1 y ((g_M_isPassive (g_M_goesOff (yy.s4 ((yy.r4) + 0))).1)))) else ((g_M_goesOff (yy.s4 ((yy.r4) + 0))).1))) else (if ((g_M_goesOff (yy.s4 ((yy.r4) + 8))).2) = 0 then ((g_M_flag (g_M_goesOff (yy.s4 ((yy.r4) + 8))).1 y ((g_M_isPassive (g_M_goesOff (yy.s4 ((yy.r4) + 8))).1)))) else ((g_M_goesOff (yy.s4 ((yy.r4) + 8))).1))) else (if ((g_M_goesOff (yy.s5 ((yy.r5) + 1))).2) = 0 then ((g_M_flag (g_M_goesOff (yy.s5 ((yy.r5) + 1))).1 y ((g_M_isPassive (g_M_goesOff (yy.s5 ((yy.r5) + 1))).1)))) else ((g_M_goesOff (yy.s5 ((yy.r5) + 1))).1))
set_option maxHeartbeats 4000000 in
set_option maxRecDepth 100000 in
theorem pj_M_err (A : Nat → Nat → Int32) (j : Nat) (hj : j < 4) (x y : Int32) (hx : vp_in x 8) (yy : sM) (h : pj A j = yy) : pj (f_M_err A j x y) j = g_M_err yy x y := by
  subst h
  by_cases c46 : y = 1
  · skip
    by_cases c64 : x = 6
    · skip
      by_cases c82 : ((f_M_isPassive (setA A 0 (upd (A 0) x.toNatClampNeg ((A 0 x.toNatClampNeg) + 1))) j)) = 0
      · skip
        by_cases c91 : ((f_M_goesOff (setA (setA A 0 (upd (A 0) x.toNatClampNeg ((A 0 x.toNatClampNeg) + 1))) 4 (upd (A 4) j ((A 4 j) + 8))) j).2) = 0
        · skip
          have e81 : (f_M_isPassive (setA A 0 (upd (A 0) x.toNatClampNeg ((A 0 x.toNatClampNeg) + 1))) j) = (g_M_isPassive (pj A j)) := (pj_M_isPassive (setA A 0 (upd (A 0) x.toNatClampNeg ((A 0 x.toNatClampNeg) + 1))) j hj _ (pjc_0 rfl))
          have e90 : pj (f_M_goesOff (setA (setA A 0 (upd (A 0) x.toNatClampNeg ((A 0 x.toNatClampNeg) + 1))) 4 (upd (A 4) j ((A 4 j) + 8))) j).1 j = (g_M_goesOff ((pj A j).s4 (((pj A j).r4) + 8))).1 ∧ (f_M_goesOff (setA (setA A 0 (upd (A 0) x.toNatClampNeg ((A 0 x.toNatClampNeg) + 1))) 4 (upd (A 4) j ((A 4 j) + 8))) j).2 = (g_M_goesOff ((pj A j).s4 (((pj A j).r4) + 8))).2 := (pj_M_goesOff (setA (setA A 0 (upd (A 0) x.toNatClampNeg ((A 0 x.toNatClampNeg) + 1))) 4 (upd (A 4) j ((A 4 j) + 8))) j hj _ (pjc_4 (v := (A 4 j) + 8) rfl (pjc_0 rfl)))
          have e93 : (f_M_isPassive (f_M_goesOff (setA (setA A 0 (upd (A 0) x.toNatClampNeg ((A 0 x.toNatClampNeg) + 1))) 4 (upd (A 4) j ((A 4 j) + 8))) j).1 j) = (g_M_isPassive (g_M_goesOff ((pj A j).s4 (((pj A j).r4) + 8))).1) := (pj_M_isPassive (f_M_goesOff (setA (setA A 0 (upd (A 0) x.toNatClampNeg ((A 0 x.toNatClampNeg) + 1))) 4 (upd (A 4) j ((A 4 j) + 8))) j).1 j hj _ e90.1)
          have e97 : pj (f_M_flag (f_M_goesOff (setA (setA A 0 (upd (A 0) x.toNatClampNeg ((A 0 x.toNatClampNeg) + 1))) 4 (upd (A 4) j ((A 4 j) + 8))) j).1 j y ((f_M_isPassive (f_M_goesOff (setA (setA A 0 (upd (A 0) x.toNatClampNeg ((A 0 x.toNatClampNeg) + 1))) 4 (upd (A 4) j ((A 4 j) + 8))) j).1 j))) j = (g_M_flag (g_M_goesOff ((pj A j).s4 (((pj A j).r4) + 8))).1 y ((g_M_isPassive (g_M_goesOff ((pj A j).s4 (((pj A j).r4) + 8))).1))) := (by rw [← e93]; exact (pj_M_flag (f_M_goesOff (setA (setA A 0 (upd (A 0) x.toNatClampNeg ((A 0 x.toNatClampNeg) + 1))) 4 (upd (A 4) j ((A 4 j) + 8))) j).1 j hj y ((f_M_isPassive (f_M_goesOff (setA (setA A 0 (upd (A 0) x.toNatClampNeg ((A 0 x.toNatClampNeg) + 1))) 4 (upd (A 4) j ((A 4 j) + 8))) j).1 j)) _ e90.1))
          have hf : f_M_err A j x y = (f_M_flag (f_M_goesOff (setA (setA A 0 (upd (A 0) x.toNatClampNeg ((A 0 x.toNatClampNeg) + 1))) 4 (upd (A 4) j ((A 4 j) + 8))) j).1 j y ((f_M_isPassive (f_M_goesOff (setA (setA A 0 (upd (A 0) x.toNatClampNeg ((A 0 x.toNatClampNeg) + 1))) 4 (upd (A 4) j ((A 4 j) + 8))) j).1 j))) := by unfold f_M_err; rw [if_pos c46, if_pos c64, if_pos c82, if_pos c91]
          have hg : g_M_err (pj A j) x y = (g_M_flag (g_M_goesOff ((pj A j).s4 (((pj A j).r4) + 8))).1 y ((g_M_isPassive (g_M_goesOff ((pj A j).s4 (((pj A j).r4) + 8))).1))) := by unfold g_M_err; rw [if_pos (show y = 1 from c46), if_pos (show x = 6 from c64), if_pos (show ((g_M_isPassive (pj A j))) = 0 from by rw [← e81]; exact c82), if_pos (show ((g_M_goesOff ((pj A j).s4 (((pj A j).r4) + 8))).2) = 0 from by rw [← e90.2]; exact c91)]
          rw [hf, hg]
          exact e97
        · skip
          have e81 : (f_M_isPassive (setA A 0 (upd (A 0) x.toNatClampNeg ((A 0 x.toNatClampNeg) + 1))) j) = (g_M_isPassive (pj A j)) := (pj_M_isPassive (setA A 0 (upd (A 0) x.toNatClampNeg ((A 0 x.toNatClampNeg) + 1))) j hj _ (pjc_0 rfl))
          have e90 : pj (f_M_goesOff (setA (setA A 0 (upd (A 0) x.toNatClampNeg ((A 0 x.toNatClampNeg) + 1))) 4 (upd (A 4) j ((A 4 j) + 8))) j).1 j = (g_M_goesOff ((pj A j).s4 (((pj A j).r4) + 8))).1 ∧ (f_M_goesOff (setA (setA A 0 (upd (A 0) x.toNatClampNeg ((A 0 x.toNatClampNeg) + 1))) 4 (upd (A 4) j ((A 4 j) + 8))) j).2 = (g_M_goesOff ((pj A j).s4 (((pj A j).r4) + 8))).2 := (pj_M_goesOff (setA (setA A 0 (upd (A 0) x.toNatClampNeg ((A 0 x.toNatClampNeg) + 1))) 4 (upd (A 4) j ((A 4 j) + 8))) j hj _ (pjc_4 (v := (A 4 j) + 8) rfl (pjc_0 rfl)))
          have hf : f_M_err A j x y = (f_M_goesOff (setA (setA A 0 (upd (A 0) x.toNatClampNeg ((A 0 x.toNatClampNeg) + 1))) 4 (upd (A 4) j ((A 4 j) + 8))) j).1 := by unfold f_M_err; rw [if_pos c46, if_pos c64, if_pos c82, if_neg c91]
          have hg : g_M_err (pj A j) x y = (g_M_goesOff ((pj A j).s4 (((pj A j).r4) + 8))).1 := by unfold g_M_err; rw [if_pos (show y = 1 from c46), if_pos (show x = 6 from c64), if_pos (show ((g_M_isPassive (pj A j))) = 0 from by rw [← e81]; exact c82), if_neg (show ¬ (((g_M_goesOff ((pj A j).s4 (((pj A j).r4) + 8))).2) = 0) from by rw [← e90.2]; exact c91)]
          rw [hf, hg]
          exact e90.1
      · skip
        by_cases c106 : ((f_M_goesOff (setA (setA A 0 (upd (A 0) x.toNatClampNeg ((A 0 x.toNatClampNeg) + 1))) 4 (upd (A 4) j ((A 4 j) + 0))) j).2) = 0
        · skip
          have e81 : (f_M_isPassive (setA A 0 (upd (A 0) x.toNatClampNeg ((A 0 x.toNatClampNeg) + 1))) j) = (g_M_isPassive (pj A j)) := (pj_M_isPassive (setA A 0 (upd (A 0) x.toNatClampNeg ((A 0 x.toNatClampNeg) + 1))) j hj _ (pjc_0 rfl))
          have e105 : pj (f_M_goesOff (setA (setA A 0 (upd (A 0) x.toNatClampNeg ((A 0 x.toNatClampNeg) + 1))) 4 (upd (A 4) j ((A 4 j) + 0))) j).1 j = (g_M_goesOff ((pj A j).s4 (((pj A j).r4) + 0))).1 ∧ (f_M_goesOff (setA (setA A 0 (upd (A 0) x.toNatClampNeg ((A 0 x.toNatClampNeg) + 1))) 4 (upd (A 4) j ((A 4 j) + 0))) j).2 = (g_M_goesOff ((pj A j).s4 (((pj A j).r4) + 0))).2 := (pj_M_goesOff (setA (setA A 0 (upd (A 0) x.toNatClampNeg ((A 0 x.toNatClampNeg) + 1))) 4 (upd (A 4) j ((A 4 j) + 0))) j hj _ (pjc_4 (v := (A 4 j) + 0) rfl (pjc_0 rfl)))
          have e108 : (f_M_isPassive (f_M_goesOff (setA (setA A 0 (upd (A 0) x.toNatClampNeg ((A 0 x.toNatClampNeg) + 1))) 4 (upd (A 4) j ((A 4 j) + 0))) j).1 j) = (g_M_isPassive (g_M_goesOff ((pj A j).s4 (((pj A j).r4) + 0))).1) := (pj_M_isPassive (f_M_goesOff (setA (setA A 0 (upd (A 0) x.toNatClampNeg ((A 0 x.toNatClampNeg) + 1))) 4 (upd (A 4) j ((A 4 j) + 0))) j).1 j hj _ e105.1)
          have e112 : pj (f_M_flag (f_M_goesOff (setA (setA A 0 (upd (A 0) x.toNatClampNeg ((A 0 x.toNatClampNeg) + 1))) 4 (upd (A 4) j ((A 4 j) + 0))) j).1 j y ((f_M_isPassive (f_M_goesOff (setA (setA A 0 (upd (A 0) x.toNatClampNeg ((A 0 x.toNatClampNeg) + 1))) 4 (upd (A 4) j ((A 4 j) + 0))) j).1 j))) j = (g_M_flag (g_M_goesOff ((pj A j).s4 (((pj A j).r4) + 0))).1 y ((g_M_isPassive (g_M_goesOff ((pj A j).s4 (((pj A j).r4) + 0))).1))) := (by rw [← e108]; exact (pj_M_flag (f_M_goesOff (setA (setA A 0 (upd (A 0) x.toNatClampNeg ((A 0 x.toNatClampNeg) + 1))) 4 (upd (A 4) j ((A 4 j) + 0))) j).1 j hj y ((f_M_isPassive (f_M_goesOff (setA (setA A 0 (upd (A 0) x.toNatClampNeg ((A 0 x.toNatClampNeg) + 1))) 4 (upd (A 4) j ((A 4 j) + 0))) j).1 j)) _ e105.1))
          have hf : f_M_err A j x y = (f_M_flag (f_M_goesOff (setA (setA A 0 (upd (A 0) x.toNatClampNeg ((A 0 x.toNatClampNeg) + 1))) 4 (upd (A 4) j ((A 4 j) + 0))) j).1 j y ((f_M_isPassive (f_M_goesOff (setA (setA A 0 (upd (A 0) x.toNatClampNeg ((A 0 x.toNatClampNeg) + 1))) 4 (upd (A 4) j ((A 4 j) + 0))) j).1 j))) := by unfold f_M_err; rw [if_pos c46, if_pos c64, if_neg c82, if_pos c106]
          have hg : g_M_err (pj A j) x y = (g_M_flag (g_M_goesOff ((pj A j).s4 (((pj A j).r4) + 0))).1 y ((g_M_isPassive (g_M_goesOff ((pj A j).s4 (((pj A j).r4) + 0))).1))) := by unfold g_M_err; rw [if_pos (show y = 1 from c46), if_pos (show x = 6 from c64), if_neg (show ¬ (((g_M_isPassive (pj A j))) = 0) from by rw [← e81]; exact c82), if_pos (show ((g_M_goesOff ((pj A j).s4 (((pj A j).r4) + 0))).2) = 0 from by rw [← e105.2]; exact c106)]
          rw [hf, hg]
          exact e112
        · skip
          have e81 : (f_M_isPassive (setA A 0 (upd (A 0) x.toNatClampNeg ((A 0 x.toNatClampNeg) + 1))) j) = (g_M_isPassive (pj A j)) := (pj_M_isPassive (setA A 0 (upd (A 0) x.toNatClampNeg ((A 0 x.toNatClampNeg) + 1))) j hj _ (pjc_0 rfl))
          have e105 : pj (f_M_goesOff (setA (setA A 0 (upd (A 0) x.toNatClampNeg ((A 0 x.toNatClampNeg) + 1))) 4 (upd (A 4) j ((A 4 j) + 0))) j).1 j = (g_M_goesOff ((pj A j).s4 (((pj A j).r4) + 0))).1 ∧ (f_M_goesOff (setA (setA A 0 (upd (A 0) x.toNatClampNeg ((A 0 x.toNatClampNeg) + 1))) 4 (upd (A 4) j ((A 4 j) + 0))) j).2 = (g_M_goesOff ((pj A j).s4 (((pj A j).r4) + 0))).2 := (pj_M_goesOff (setA (setA A 0 (upd (A 0) x.toNatClampNeg ((A 0 x.toNatClampNeg) + 1))) 4 (upd (A 4) j ((A 4 j) + 0))) j hj _ (pjc_4 (v := (A 4 j) + 0) rfl (pjc_0 rfl)))
          have hf : f_M_err A j x y = (f_M_goesOff (setA (setA A 0 (upd (A 0) x.toNatClampNeg ((A 0 x.toNatClampNeg) + 1))) 4 (upd (A 4) j ((A 4 j) + 0))) j).1 := by unfold f_M_err; rw [if_pos c46, if_pos c64, if_neg c82, if_neg c106]
          have hg : g_M_err (pj A j) x y = (g_M_goesOff ((pj A j).s4 (((pj A j).r4) + 0))).1 := by unfold g_M_err; rw [if_pos (show y = 1 from c46), if_pos (show x = 6 from c64), if_neg (show ¬ (((g_M_isPassive (pj A j))) = 0) from by rw [← e81]; exact c82), if_neg (show ¬ (((g_M_goesOff ((pj A j).s4 (((pj A j).r4) + 0))).2) = 0) from by rw [← e105.2]; exact c106)]
          rw [hf, hg]
          exact e105.1
    · skip
      by_cases c73 : ((f_M_goesOff (setA (setA A 0 (upd (A 0) x.toNatClampNeg ((A 0 x.toNatClampNeg) + 1))) 4 (upd (A 4) j ((A 4 j) + 8))) j).2) = 0
      · skip
        have e72 : pj (f_M_goesOff (setA (setA A 0 (upd (A 0) x.toNatClampNeg ((A 0 x.toNatClampNeg) + 1))) 4 (upd (A 4) j ((A 4 j) + 8))) j).1 j = (g_M_goesOff ((pj A j).s4 (((pj A j).r4) + 8))).1 ∧ (f_M_goesOff (setA (setA A 0 (upd (A 0) x.toNatClampNeg ((A 0 x.toNatClampNeg) + 1))) 4 (upd (A 4) j ((A 4 j) + 8))) j).2 = (g_M_goesOff ((pj A j).s4 (((pj A j).r4) + 8))).2 := (pj_M_goesOff (setA (setA A 0 (upd (A 0) x.toNatClampNeg ((A 0 x.toNatClampNeg) + 1))) 4 (upd (A 4) j ((A 4 j) + 8))) j hj _ (pjc_4 (v := (A 4 j) + 8) rfl (pjc_0 rfl)))
        have e75 : (f_M_isPassive (f_M_goesOff (setA (setA A 0 (upd (A 0) x.toNatClampNeg ((A 0 x.toNatClampNeg) + 1))) 4 (upd (A 4) j ((A 4 j) + 8))) j).1 j) = (g_M_isPassive (g_M_goesOff ((pj A j).s4 (((pj A j).r4) + 8))).1) := (pj_M_isPassive (f_M_goesOff (setA (setA A 0 (upd (A 0) x.toNatClampNeg ((A 0 x.toNatClampNeg) + 1))) 4 (upd (A 4) j ((A 4 j) + 8))) j).1 j hj _ e72.1)
        have e79 : pj (f_M_flag (f_M_goesOff (setA (setA A 0 (upd (A 0) x.toNatClampNeg ((A 0 x.toNatClampNeg) + 1))) 4 (upd (A 4) j ((A 4 j) + 8))) j).1 j y ((f_M_isPassive (f_M_goesOff (setA (setA A 0 (upd (A 0) x.toNatClampNeg ((A 0 x.toNatClampNeg) + 1))) 4 (upd (A 4) j ((A 4 j) + 8))) j).1 j))) j = (g_M_flag (g_M_goesOff ((pj A j).s4 (((pj A j).r4) + 8))).1 y ((g_M_isPassive (g_M_goesOff ((pj A j).s4 (((pj A j).r4) + 8))).1))) := (by rw [← e75]; exact (pj_M_flag (f_M_goesOff (setA (setA A 0 (upd (A 0) x.toNatClampNeg ((A 0 x.toNatClampNeg) + 1))) 4 (upd (A 4) j ((A 4 j) + 8))) j).1 j hj y ((f_M_isPassive (f_M_goesOff (setA (setA A 0 (upd (A 0) x.toNatClampNeg ((A 0 x.toNatClampNeg) + 1))) 4 (upd (A 4) j ((A 4 j) + 8))) j).1 j)) _ e72.1))
        have hf : f_M_err A j x y = (f_M_flag (f_M_goesOff (setA (setA A 0 (upd (A 0) x.toNatClampNeg ((A 0 x.toNatClampNeg) + 1))) 4 (upd (A 4) j ((A 4 j) + 8))) j).1 j y ((f_M_isPassive (f_M_goesOff (setA (setA A 0 (upd (A 0) x.toNatClampNeg ((A 0 x.toNatClampNeg) + 1))) 4 (upd (A 4) j ((A 4 j) + 8))) j).1 j))) := by unfold f_M_err; rw [if_pos c46, if_neg c64, if_pos c73]
        have hg : g_M_err (pj A j) x y = (g_M_flag (g_M_goesOff ((pj A j).s4 (((pj A j).r4) + 8))).1 y ((g_M_isPassive (g_M_goesOff ((pj A j).s4 (((pj A j).r4) + 8))).1))) := by unfold g_M_err; rw [if_pos (show y = 1 from c46), if_neg (show ¬ (x = 6) from c64), if_pos (show ((g_M_goesOff ((pj A j).s4 (((pj A j).r4) + 8))).2) = 0 from by rw [← e72.2]; exact c73)]
        rw [hf, hg]
        exact e79
      · skip
        have e72 : pj (f_M_goesOff (setA (setA A 0 (upd (A 0) x.toNatClampNeg ((A 0 x.toNatClampNeg) + 1))) 4 (upd (A 4) j ((A 4 j) + 8))) j).1 j = (g_M_goesOff ((pj A j).s4 (((pj A j).r4) + 8))).1 ∧ (f_M_goesOff (setA (setA A 0 (upd (A 0) x.toNatClampNeg ((A 0 x.toNatClampNeg) + 1))) 4 (upd (A 4) j ((A 4 j) + 8))) j).2 = (g_M_goesOff ((pj A j).s4 (((pj A j).r4) + 8))).2 := (pj_M_goesOff (setA (setA A 0 (upd (A 0) x.toNatClampNeg ((A 0 x.toNatClampNeg) + 1))) 4 (upd (A 4) j ((A 4 j) + 8))) j hj _ (pjc_4 (v := (A 4 j) + 8) rfl (pjc_0 rfl)))
        have hf : f_M_err A j x y = (f_M_goesOff (setA (setA A 0 (upd (A 0) x.toNatClampNeg ((A 0 x.toNatClampNeg) + 1))) 4 (upd (A 4) j ((A 4 j) + 8))) j).1 := by unfold f_M_err; rw [if_pos c46, if_neg c64, if_neg c73]
        have hg : g_M_err (pj A j) x y = (g_M_goesOff ((pj A j).s4 (((pj A j).r4) + 8))).1 := by unfold g_M_err; rw [if_pos (show y = 1 from c46), if_neg (show ¬ (x = 6) from c64), if_neg (show ¬ (((g_M_goesOff ((pj A j).s4 (((pj A j).r4) + 8))).2) = 0) from by rw [← e72.2]; exact c73)]
        rw [hf, hg]
        exact e72.1
  · skip
    by_cases c56 : ((f_M_goesOff (setA (setA A 0 (upd (A 0) x.toNatClampNeg ((A 0 x.toNatClampNeg) + 1))) 5 (upd (A 5) j ((A 5 j) + 1))) j).2) = 0
    · skip
      have e55 : pj (f_M_goesOff (setA (setA A 0 (upd (A 0) x.toNatClampNeg ((A 0 x.toNatClampNeg) + 1))) 5 (upd (A 5) j ((A 5 j) + 1))) j).1 j = (g_M_goesOff ((pj A j).s5 (((pj A j).r5) + 1))).1 ∧ (f_M_goesOff (setA (setA A 0 (upd (A 0) x.toNatClampNeg ((A 0 x.toNatClampNeg) + 1))) 5 (upd (A 5) j ((A 5 j) + 1))) j).2 = (g_M_goesOff ((pj A j).s5 (((pj A j).r5) + 1))).2 := (pj_M_goesOff (setA (setA A 0 (upd (A 0) x.toNatClampNeg ((A 0 x.toNatClampNeg) + 1))) 5 (upd (A 5) j ((A 5 j) + 1))) j hj _ (pjc_5 (v := (A 5 j) + 1) rfl (pjc_0 rfl)))
      have e58 : (f_M_isPassive (f_M_goesOff (setA (setA A 0 (upd (A 0) x.toNatClampNeg ((A 0 x.toNatClampNeg) + 1))) 5 (upd (A 5) j ((A 5 j) + 1))) j).1 j) = (g_M_isPassive (g_M_goesOff ((pj A j).s5 (((pj A j).r5) + 1))).1) := (pj_M_isPassive (f_M_goesOff (setA (setA A 0 (upd (A 0) x.toNatClampNeg ((A 0 x.toNatClampNeg) + 1))) 5 (upd (A 5) j ((A 5 j) + 1))) j).1 j hj _ e55.1)
      have e62 : pj (f_M_flag (f_M_goesOff (setA (setA A 0 (upd (A 0) x.toNatClampNeg ((A 0 x.toNatClampNeg) + 1))) 5 (upd (A 5) j ((A 5 j) + 1))) j).1 j y ((f_M_isPassive (f_M_goesOff (setA (setA A 0 (upd (A 0) x.toNatClampNeg ((A 0 x.toNatClampNeg) + 1))) 5 (upd (A 5) j ((A 5 j) + 1))) j).1 j))) j = (g_M_flag (g_M_goesOff ((pj A j).s5 (((pj A j).r5) + 1))).1 y ((g_M_isPassive (g_M_goesOff ((pj A j).s5 (((pj A j).r5) + 1))).1))) := (by rw [← e58]; exact (pj_M_flag (f_M_goesOff (setA (setA A 0 (upd (A 0) x.toNatClampNeg ((A 0 x.toNatClampNeg) + 1))) 5 (upd (A 5) j ((A 5 j) + 1))) j).1 j hj y ((f_M_isPassive (f_M_goesOff (setA (setA A 0 (upd (A 0) x.toNatClampNeg ((A 0 x.toNatClampNeg) + 1))) 5 (upd (A 5) j ((A 5 j) + 1))) j).1 j)) _ e55.1))
      have hf : f_M_err A j x y = (f_M_flag (f_M_goesOff (setA (setA A 0 (upd (A 0) x.toNatClampNeg ((A 0 x.toNatClampNeg) + 1))) 5 (upd (A 5) j ((A 5 j) + 1))) j).1 j y ((f_M_isPassive (f_M_goesOff (setA (setA A 0 (upd (A 0) x.toNatClampNeg ((A 0 x.toNatClampNeg) + 1))) 5 (upd (A 5) j ((A 5 j) + 1))) j).1 j))) := by unfold f_M_err; rw [if_neg c46, if_pos c56]
      have hg : g_M_err (pj A j) x y = (g_M_flag (g_M_goesOff ((pj A j).s5 (((pj A j).r5) + 1))).1 y ((g_M_isPassive (g_M_goesOff ((pj A j).s5 (((pj A j).r5) + 1))).1))) := by unfold g_M_err; rw [if_neg (show ¬ (y = 1) from c46), if_pos (show ((g_M_goesOff ((pj A j).s5 (((pj A j).r5) + 1))).2) = 0 from by rw [← e55.2]; exact c56)]
      rw [hf, hg]
      exact e62
    · skip
      have e55 : pj (f_M_goesOff (setA (setA A 0 (upd (A 0) x.toNatClampNeg ((A 0 x.toNatClampNeg) + 1))) 5 (upd (A 5) j ((A 5 j) + 1))) j).1 j = (g_M_goesOff ((pj A j).s5 (((pj A j).r5) + 1))).1 ∧ (f_M_goesOff (setA (setA A 0 (upd (A 0) x.toNatClampNeg ((A 0 x.toNatClampNeg) + 1))) 5 (upd (A 5) j ((A 5 j) + 1))) j).2 = (g_M_goesOff ((pj A j).s5 (((pj A j).r5) + 1))).2 := (pj_M_goesOff (setA (setA A 0 (upd (A 0) x.toNatClampNeg ((A 0 x.toNatClampNeg) + 1))) 5 (upd (A 5) j ((A 5 j) + 1))) j hj _ (pjc_5 (v := (A 5 j) + 1) rfl (pjc_0 rfl)))
      have hf : f_M_err A j x y = (f_M_goesOff (setA (setA A 0 (upd (A 0) x.toNatClampNeg ((A 0 x.toNatClampNeg) + 1))) 5 (upd (A 5) j ((A 5 j) + 1))) j).1 := by unfold f_M_err; rw [if_neg c46, if_neg c56]
      have hg : g_M_err (pj A j) x y = (g_M_goesOff ((pj A j).s5 (((pj A j).r5) + 1))).1 := by unfold g_M_err; rw [if_neg (show ¬ (y = 1) from c46), if_neg (show ¬ (((g_M_goesOff ((pj A j).s5 (((pj A j).r5) + 1))).2) = 0) from by rw [← e55.2]; exact c56)]
      rw [hf, hg]
      exact e55.1
def g_M_readCore_332 (yy : sM) : sM × Int32 := if (yy.r17) = ((g_M_coreLength yy)) then (if 5 ≤ (yy.r18) then (((yy.s16 0), 0)) else (((yy.s16 1), 0))) else (((yy.s16 0), 0))
def g_M_readCore_314 (yy : sM) (v3 : Int32) : sM × Int32 := if v3 = 18 then (if (yy.r22) ≤ 2 then (g_M_readCore_332 yy) else ((yy, 4))) else (g_M_readCore_332 yy)
def g_M_readCore_287 (yy : sM) (v2 v3 : Int32) : sM × Int32 := if v3 ≤ 11 then (g_M_readCore_314 (yy.s17 ((yy.r17) + 1)) v3) else (if 15 ≤ v3 then (g_M_readCore_314 (yy.s17 ((yy.r17) + 1)) v3) else (if v2 = 1 then (((yy.s17 ((yy.r17) + 1)), 4)) else (g_M_readCore_314 (yy.s17 ((yy.r17) + 1)) v3)))
def g_M_readCore_167 (yy : sM) (v2 v3 : Int32) : sM × Int32 := if v3 ≤ 0 then (if v3 ≤ 14 then (if v3 ≤ 18 then (g_M_readCore_287 yy v2 v3) else (if (19 + (8 * (yy.r22))) ≤ v3 then (g_M_readCore_287 yy v2 v3) else (g_M_readCore_287 (yy.s23 ((yy.r23) ||| (v2 <<< ((((8 * ((v3 - 19) / 8)) + 7) - ((v3 - 19) - (v3 - 19) / 8 * 8)) &&& 31)))) v2 v3))) else (if 19 ≤ v3 then (if v3 ≤ 18 then (g_M_readCore_287 yy v2 v3) else (if (19 + (8 * (yy.r22))) ≤ v3 then (g_M_readCore_287 yy v2 v3) else (g_M_readCore_287 (yy.s23 ((yy.r23) ||| (v2 <<< ((((8 * ((v3 - 19) / 8)) + 7) - ((v3 - 19) - (v3 - 19) / 8 * 8)) &&& 31)))) v2 v3))) else (g_M_readCore_287 (yy.s22 ((2 * (yy.r22)) + v2)) v2 v3))) else (if 12 ≤ v3 then (if v3 ≤ 14 then (if v3 ≤ 18 then (g_M_readCore_287 yy v2 v3) else (if (19 + (8 * (yy.r22))) ≤ v3 then (g_M_readCore_287 yy v2 v3) else (g_M_readCore_287 (yy.s23 ((yy.r23) ||| (v2 <<< ((((8 * ((v3 - 19) / 8)) + 7) - ((v3 - 19) - (v3 - 19) / 8 * 8)) &&& 31)))) v2 v3))) else (if 19 ≤ v3 then (if v3 ≤ 18 then (g_M_readCore_287 yy v2 v3) else (if (19 + (8 * (yy.r22))) ≤ v3 then (g_M_readCore_287 yy v2 v3) else (g_M_readCore_287 (yy.s23 ((yy.r23) ||| (v2 <<< ((((8 * ((v3 - 19) / 8)) + 7) - ((v3 - 19) - (v3 - 19) / 8 * 8)) &&& 31)))) v2 v3))) else (g_M_readCore_287 (yy.s22 ((2 * (yy.r22)) + v2)) v2 v3))) else (g_M_readCore_287 (yy.s21 ((2 * (yy.r21)) + v2)) v2 v3))
def g_M_readCore_114 (yy : sM) (v2 v3 : Int32) : sM × Int32 := if v2 = (((yy.r20) >>> (14 &&& 31)) &&& 1) then (g_M_readCore_167 ((yy.s19 v2).s20 (((yy.r20) <<< (1 &&& 31)) &&& 32767)) v2 v3) else (g_M_readCore_167 ((yy.s19 v2).s20 ((((yy.r20) <<< (1 &&& 31)) &&& 32767) ^^^ 17817)) v2 v3)
def g_M_readCore (yy : sM) (x : Int32) : sM × Int32 := if (yy.r18) = 5 then (if x = (yy.r19) then (if (yy.r17) = ((g_M_coreLength ((yy.s19 x).s18 1))) then (((((yy.s19 x).s18 1).s16 1), 3)) else (((((yy.s19 x).s18 1).s16 0), 3))) else (if (yy.r17) = ((g_M_coreLength ((yy.s19 x).s18 1))) then (((((yy.s19 x).s18 1).s16 1), 0)) else (((((yy.s19 x).s18 1).s16 0), 0)))) else (if (yy.r17) ≤ 0 then (g_M_readCore_114 (yy.s18 1) x yy.r17) else (if x = (yy.r19) then (g_M_readCore_114 (yy.s18 ((yy.r18) + 1)) x yy.r17) else (g_M_readCore_114 (yy.s18 1) x yy.r17)))
set_option maxHeartbeats 4000000 in
set_option maxRecDepth 100000 in
theorem pj_M_readCore_332 (A : Nat → Nat → Int32) (j : Nat) (hj : j < 4) (yy : sM) (h : pj A j = yy) : pj (f_M_readCore_332 A j).1 j = (g_M_readCore_332 yy).1 ∧ (f_M_readCore_332 A j).2 = (g_M_readCore_332 yy).2 := by
  subst h
  by_cases c64 : (A 17 j) = ((f_M_coreLength A j))
  · skip
    by_cases c70 : 5 ≤ (A 18 j)
    · skip
      have e63 : (f_M_coreLength A j) = (g_M_coreLength (pj A j)) := (pj_M_coreLength A j hj _ rfl)
      have hf : f_M_readCore_332 A j = ((setA A 16 (upd (A 16) j 0)), 0) := by unfold f_M_readCore_332; rw [if_pos c64, if_pos c70]
      have hg : g_M_readCore_332 (pj A j) = (((pj A j).s16 0), 0) := by unfold g_M_readCore_332; rw [if_pos (show ((pj A j).r17) = ((g_M_coreLength (pj A j))) from by rw [← e63]; exact c64), if_pos (show 5 ≤ ((pj A j).r18) from c70)]
      rw [hf, hg]
      exact ⟨(pjc_16 (v := 0) rfl rfl), rfl⟩
    · skip
      have e63 : (f_M_coreLength A j) = (g_M_coreLength (pj A j)) := (pj_M_coreLength A j hj _ rfl)
      have hf : f_M_readCore_332 A j = ((setA A 16 (upd (A 16) j 1)), 0) := by unfold f_M_readCore_332; rw [if_pos c64, if_neg c70]
      have hg : g_M_readCore_332 (pj A j) = (((pj A j).s16 1), 0) := by unfold g_M_readCore_332; rw [if_pos (show ((pj A j).r17) = ((g_M_coreLength (pj A j))) from by rw [← e63]; exact c64), if_neg (show ¬ (5 ≤ ((pj A j).r18)) from c70)]
      rw [hf, hg]
      exact ⟨(pjc_16 (v := 1) rfl rfl), rfl⟩
  · skip
    have e63 : (f_M_coreLength A j) = (g_M_coreLength (pj A j)) := (pj_M_coreLength A j hj _ rfl)
    have hf : f_M_readCore_332 A j = ((setA A 16 (upd (A 16) j 0)), 0) := by unfold f_M_readCore_332; rw [if_neg c64]
    have hg : g_M_readCore_332 (pj A j) = (((pj A j).s16 0), 0) := by unfold g_M_readCore_332; rw [if_neg (show ¬ (((pj A j).r17) = ((g_M_coreLength (pj A j)))) from by rw [← e63]; exact c64)]
    rw [hf, hg]
    exact ⟨(pjc_16 (v := 0) rfl rfl), rfl⟩
set_option maxHeartbeats 4000000 in
set_option maxRecDepth 100000 in
theorem pj_M_readCore_314 (A : Nat → Nat → Int32) (j : Nat) (hj : j < 4) (v3 : Int32) (yy : sM) (h : pj A j = yy) : pj (f_M_readCore_314 A j v3).1 j = (g_M_readCore_314 yy v3).1 ∧ (f_M_readCore_314 A j v3).2 = (g_M_readCore_314 yy v3).2 := by
  subst h
  by_cases c61 : v3 = 18
  · skip
    by_cases c63 : (A 22 j) ≤ 2
    · skip
      have hf : f_M_readCore_314 A j v3 = f_M_readCore_332 A j := by unfold f_M_readCore_314; rw [if_pos c61, if_pos c63]
      have hg : g_M_readCore_314 (pj A j) v3 = g_M_readCore_332 (pj A j) := by unfold g_M_readCore_314; rw [if_pos (show v3 = 18 from c61), if_pos (show ((pj A j).r22) ≤ 2 from c63)]
      rw [hf, hg]
      exact pj_M_readCore_332 A j hj _ rfl
    · skip
      have hf : f_M_readCore_314 A j v3 = (A, 4) := by unfold f_M_readCore_314; rw [if_pos c61, if_neg c63]
      have hg : g_M_readCore_314 (pj A j) v3 = ((pj A j), 4) := by unfold g_M_readCore_314; rw [if_pos (show v3 = 18 from c61), if_neg (show ¬ (((pj A j).r22) ≤ 2) from c63)]
      rw [hf, hg]
      exact ⟨rfl, rfl⟩
  · skip
    have hf : f_M_readCore_314 A j v3 = f_M_readCore_332 A j := by unfold f_M_readCore_314; rw [if_neg c61]
    have hg : g_M_readCore_314 (pj A j) v3 = g_M_readCore_332 (pj A j) := by unfold g_M_readCore_314; rw [if_neg (show ¬ (v3 = 18) from c61)]
    rw [hf, hg]
    exact pj_M_readCore_332 A j hj _ rfl
set_option maxHeartbeats 4000000 in
set_option maxRecDepth 100000 in
theorem pj_M_readCore_287 (A : Nat → Nat → Int32) (j : Nat) (hj : j < 4) (v2 v3 : Int32) (yy : sM) (h : pj A j = yy) : pj (f_M_readCore_287 A j v2 v3).1 j = (g_M_readCore_287 yy v2 v3).1 ∧ (f_M_readCore_287 A j v2 v3).2 = (g_M_readCore_287 yy v2 v3).2 := by
  subst h
  by_cases c66 : v3 ≤ 11
  · skip
    have hf : f_M_readCore_287 A j v2 v3 = f_M_readCore_314 (setA A 17 (upd (A 17) j ((A 17 j) + 1))) j v3 := by unfold f_M_readCore_287; rw [if_pos c66]
    have hg : g_M_readCore_287 (pj A j) v2 v3 = g_M_readCore_314 ((pj A j).s17 (((pj A j).r17) + 1)) v3 := by unfold g_M_readCore_287; rw [if_pos (show v3 ≤ 11 from c66)]
    rw [hf, hg]
    exact pj_M_readCore_314 (setA A 17 (upd (A 17) j ((A 17 j) + 1))) j hj v3 _ (pjc_17 (v := (A 17 j) + 1) rfl rfl)
  · skip
    by_cases c67 : 15 ≤ v3
    · skip
      have hf : f_M_readCore_287 A j v2 v3 = f_M_readCore_314 (setA A 17 (upd (A 17) j ((A 17 j) + 1))) j v3 := by unfold f_M_readCore_287; rw [if_neg c66, if_pos c67]
      have hg : g_M_readCore_287 (pj A j) v2 v3 = g_M_readCore_314 ((pj A j).s17 (((pj A j).r17) + 1)) v3 := by unfold g_M_readCore_287; rw [if_neg (show ¬ (v3 ≤ 11) from c66), if_pos (show 15 ≤ v3 from c67)]
      rw [hf, hg]
      exact pj_M_readCore_314 (setA A 17 (upd (A 17) j ((A 17 j) + 1))) j hj v3 _ (pjc_17 (v := (A 17 j) + 1) rfl rfl)
    · skip
      by_cases c68 : v2 = 1
      · skip
        have hf : f_M_readCore_287 A j v2 v3 = ((setA A 17 (upd (A 17) j ((A 17 j) + 1))), 4) := by unfold f_M_readCore_287; rw [if_neg c66, if_neg c67, if_pos c68]
        have hg : g_M_readCore_287 (pj A j) v2 v3 = (((pj A j).s17 (((pj A j).r17) + 1)), 4) := by unfold g_M_readCore_287; rw [if_neg (show ¬ (v3 ≤ 11) from c66), if_neg (show ¬ (15 ≤ v3) from c67), if_pos (show v2 = 1 from c68)]
        rw [hf, hg]
        exact ⟨(pjc_17 (v := (A 17 j) + 1) rfl rfl), rfl⟩
      · skip
        have hf : f_M_readCore_287 A j v2 v3 = f_M_readCore_314 (setA A 17 (upd (A 17) j ((A 17 j) + 1))) j v3 := by unfold f_M_readCore_287; rw [if_neg c66, if_neg c67, if_neg c68]
        have hg : g_M_readCore_287 (pj A j) v2 v3 = g_M_readCore_314 ((pj A j).s17 (((pj A j).r17) + 1)) v3 := by unfold g_M_readCore_287; rw [if_neg (show ¬ (v3 ≤ 11) from c66), if_neg (show ¬ (15 ≤ v3) from c67), if_neg (show ¬ (v2 = 1) from c68)]
        rw [hf, hg]
        exact pj_M_readCore_314 (setA A 17 (upd (A 17) j ((A 17 j) + 1))) j hj v3 _ (pjc_17 (v := (A 17 j) + 1) rfl rfl)
set_option maxHeartbeats 4000000 in
set_option maxRecDepth 100000 in
theorem pj_M_readCore_167 (A : Nat → Nat → Int32) (j : Nat) (hj : j < 4) (v2 v3 : Int32) (yy : sM) (h : pj A j = yy) : pj (f_M_readCore_167 A j v2 v3).1 j = (g_M_readCore_167 yy v2 v3).1 ∧ (f_M_readCore_167 A j v2 v3).2 = (g_M_readCore_167 yy v2 v3).2 := by
  subst h
  by_cases c61 : v3 ≤ 0
  · skip
    by_cases c62 : v3 ≤ 14
    · skip
      by_cases c63 : v3 ≤ 18
      · skip
        have hf : f_M_readCore_167 A j v2 v3 = f_M_readCore_287 A j v2 v3 := by unfold f_M_readCore_167; rw [if_pos c61, if_pos c62, if_pos c63]
        have hg : g_M_readCore_167 (pj A j) v2 v3 = g_M_readCore_287 (pj A j) v2 v3 := by unfold g_M_readCore_167; rw [if_pos (show v3 ≤ 0 from c61), if_pos (show v3 ≤ 14 from c62), if_pos (show v3 ≤ 18 from c63)]
        rw [hf, hg]
        exact pj_M_readCore_287 A j hj v2 v3 _ rfl
      · skip
        by_cases c65 : (19 + (8 * (A 22 j))) ≤ v3
        · skip
          have hf : f_M_readCore_167 A j v2 v3 = f_M_readCore_287 A j v2 v3 := by unfold f_M_readCore_167; rw [if_pos c61, if_pos c62, if_neg c63, if_pos c65]
          have hg : g_M_readCore_167 (pj A j) v2 v3 = g_M_readCore_287 (pj A j) v2 v3 := by unfold g_M_readCore_167; rw [if_pos (show v3 ≤ 0 from c61), if_pos (show v3 ≤ 14 from c62), if_neg (show ¬ (v3 ≤ 18) from c63), if_pos (show (19 + (8 * ((pj A j).r22))) ≤ v3 from c65)]
          rw [hf, hg]
          exact pj_M_readCore_287 A j hj v2 v3 _ rfl
        · skip
          have hf : f_M_readCore_167 A j v2 v3 = f_M_readCore_287 (setA A 23 (upd (A 23) j ((A 23 j) ||| (v2 <<< ((((8 * ((v3 - 19) / 8)) + 7) - ((v3 - 19) - (v3 - 19) / 8 * 8)) &&& 31))))) j v2 v3 := by unfold f_M_readCore_167; rw [if_pos c61, if_pos c62, if_neg c63, if_neg c65]
          have hg : g_M_readCore_167 (pj A j) v2 v3 = g_M_readCore_287 ((pj A j).s23 (((pj A j).r23) ||| (v2 <<< ((((8 * ((v3 - 19) / 8)) + 7) - ((v3 - 19) - (v3 - 19) / 8 * 8)) &&& 31)))) v2 v3 := by unfold g_M_readCore_167; rw [if_pos (show v3 ≤ 0 from c61), if_pos (show v3 ≤ 14 from c62), if_neg (show ¬ (v3 ≤ 18) from c63), if_neg (show ¬ ((19 + (8 * ((pj A j).r22))) ≤ v3) from c65)]
          rw [hf, hg]
          exact pj_M_readCore_287 (setA A 23 (upd (A 23) j ((A 23 j) ||| (v2 <<< ((((8 * ((v3 - 19) / 8)) + 7) - ((v3 - 19) - (v3 - 19) / 8 * 8)) &&& 31))))) j hj v2 v3 _ (pjc_23 (v := (A 23 j) ||| (v2 <<< ((((8 * ((v3 - 19) / 8)) + 7) - ((v3 - 19) - (v3 - 19) / 8 * 8)) &&& 31))) rfl rfl)
    · skip
      by_cases c71 : 19 ≤ v3
      · skip
        by_cases c72 : v3 ≤ 18
        · skip
          have hf : f_M_readCore_167 A j v2 v3 = f_M_readCore_287 A j v2 v3 := by unfold f_M_readCore_167; rw [if_pos c61, if_neg c62, if_pos c71, if_pos c72]
          have hg : g_M_readCore_167 (pj A j) v2 v3 = g_M_readCore_287 (pj A j) v2 v3 := by unfold g_M_readCore_167; rw [if_pos (show v3 ≤ 0 from c61), if_neg (show ¬ (v3 ≤ 14) from c62), if_pos (show 19 ≤ v3 from c71), if_pos (show v3 ≤ 18 from c72)]
          rw [hf, hg]
          exact pj_M_readCore_287 A j hj v2 v3 _ rfl
        · skip
          by_cases c74 : (19 + (8 * (A 22 j))) ≤ v3
          · skip
            have hf : f_M_readCore_167 A j v2 v3 = f_M_readCore_287 A j v2 v3 := by unfold f_M_readCore_167; rw [if_pos c61, if_neg c62, if_pos c71, if_neg c72, if_pos c74]
            have hg : g_M_readCore_167 (pj A j) v2 v3 = g_M_readCore_287 (pj A j) v2 v3 := by unfold g_M_readCore_167; rw [if_pos (show v3 ≤ 0 from c61), if_neg (show ¬ (v3 ≤ 14) from c62), if_pos (show 19 ≤ v3 from c71), if_neg (show ¬ (v3 ≤ 18) from c72), if_pos (show (19 + (8 * ((pj A j).r22))) ≤ v3 from c74)]
            rw [hf, hg]
            exact pj_M_readCore_287 A j hj v2 v3 _ rfl
          · skip
            have hf : f_M_readCore_167 A j v2 v3 = f_M_readCore_287 (setA A 23 (upd (A 23) j ((A 23 j) ||| (v2 <<< ((((8 * ((v3 - 19) / 8)) + 7) - ((v3 - 19) - (v3 - 19) / 8 * 8)) &&& 31))))) j v2 v3 := by unfold f_M_readCore_167; rw [if_pos c61, if_neg c62, if_pos c71, if_neg c72, if_neg c74]
            have hg : g_M_readCore_167 (pj A j) v2 v3 = g_M_readCore_287 ((pj A j).s23 (((pj A j).r23) ||| (v2 <<< ((((8 * ((v3 - 19) / 8)) + 7) - ((v3 - 19) - (v3 - 19) / 8 * 8)) &&& 31)))) v2 v3 := by unfold g_M_readCore_167; rw [if_pos (show v3 ≤ 0 from c61), if_neg (show ¬ (v3 ≤ 14) from c62), if_pos (show 19 ≤ v3 from c71), if_neg (show ¬ (v3 ≤ 18) from c72), if_neg (show ¬ ((19 + (8 * ((pj A j).r22))) ≤ v3) from c74)]
            rw [hf, hg]
            exact pj_M_readCore_287 (setA A 23 (upd (A 23) j ((A 23 j) ||| (v2 <<< ((((8 * ((v3 - 19) / 8)) + 7) - ((v3 - 19) - (v3 - 19) / 8 * 8)) &&& 31))))) j hj v2 v3 _ (pjc_23 (v := (A 23 j) ||| (v2 <<< ((((8 * ((v3 - 19) / 8)) + 7) - ((v3 - 19) - (v3 - 19) / 8 * 8)) &&& 31))) rfl rfl)
      · skip
        have hf : f_M_readCore_167 A j v2 v3 = f_M_readCore_287 (setA A 22 (upd (A 22) j ((2 * (A 22 j)) + v2))) j v2 v3 := by unfold f_M_readCore_167; rw [if_pos c61, if_neg c62, if_neg c71]
        have hg : g_M_readCore_167 (pj A j) v2 v3 = g_M_readCore_287 ((pj A j).s22 ((2 * ((pj A j).r22)) + v2)) v2 v3 := by unfold g_M_readCore_167; rw [if_pos (show v3 ≤ 0 from c61), if_neg (show ¬ (v3 ≤ 14) from c62), if_neg (show ¬ (19 ≤ v3) from c71)]
        rw [hf, hg]
        exact pj_M_readCore_287 (setA A 22 (upd (A 22) j ((2 * (A 22 j)) + v2))) j hj v2 v3 _ (pjc_22 (v := (2 * (A 22 j)) + v2) rfl rfl)
  · skip
    by_cases c85 : 12 ≤ v3
    · skip
      by_cases c86 : v3 ≤ 14
      · skip
        by_cases c87 : v3 ≤ 18
        · skip
          have hf : f_M_readCore_167 A j v2 v3 = f_M_readCore_287 A j v2 v3 := by unfold f_M_readCore_167; rw [if_neg c61, if_pos c85, if_pos c86, if_pos c87]
          have hg : g_M_readCore_167 (pj A j) v2 v3 = g_M_readCore_287 (pj A j) v2 v3 := by unfold g_M_readCore_167; rw [if_neg (show ¬ (v3 ≤ 0) from c61), if_pos (show 12 ≤ v3 from c85), if_pos (show v3 ≤ 14 from c86), if_pos (show v3 ≤ 18 from c87)]
          rw [hf, hg]
          exact pj_M_readCore_287 A j hj v2 v3 _ rfl
        · skip
          by_cases c89 : (19 + (8 * (A 22 j))) ≤ v3
          · skip
            have hf : f_M_readCore_167 A j v2 v3 = f_M_readCore_287 A j v2 v3 := by unfold f_M_readCore_167; rw [if_neg c61, if_pos c85, if_pos c86, if_neg c87, if_pos c89]
            have hg : g_M_readCore_167 (pj A j) v2 v3 = g_M_readCore_287 (pj A j) v2 v3 := by unfold g_M_readCore_167; rw [if_neg (show ¬ (v3 ≤ 0) from c61), if_pos (show 12 ≤ v3 from c85), if_pos (show v3 ≤ 14 from c86), if_neg (show ¬ (v3 ≤ 18) from c87), if_pos (show (19 + (8 * ((pj A j).r22))) ≤ v3 from c89)]
            rw [hf, hg]
            exact pj_M_readCore_287 A j hj v2 v3 _ rfl
          · skip
            have hf : f_M_readCore_167 A j v2 v3 = f_M_readCore_287 (setA A 23 (upd (A 23) j ((A 23 j) ||| (v2 <<< ((((8 * ((v3 - 19) / 8)) + 7) - ((v3 - 19) - (v3 - 19) / 8 * 8)) &&& 31))))) j v2 v3 := by unfold f_M_readCore_167; rw [if_neg c61, if_pos c85, if_pos c86, if_neg c87, if_neg c89]
            have hg : g_M_readCore_167 (pj A j) v2 v3 = g_M_readCore_287 ((pj A j).s23 (((pj A j).r23) ||| (v2 <<< ((((8 * ((v3 - 19) / 8)) + 7) - ((v3 - 19) - (v3 - 19) / 8 * 8)) &&& 31)))) v2 v3 := by unfold g_M_readCore_167; rw [if_neg (show ¬ (v3 ≤ 0) from c61), if_pos (show 12 ≤ v3 from c85), if_pos (show v3 ≤ 14 from c86), if_neg (show ¬ (v3 ≤ 18) from c87), if_neg (show ¬ ((19 + (8 * ((pj A j).r22))) ≤ v3) from c89)]
            rw [hf, hg]
            exact pj_M_readCore_287 (setA A 23 (upd (A 23) j ((A 23 j) ||| (v2 <<< ((((8 * ((v3 - 19) / 8)) + 7) - ((v3 - 19) - (v3 - 19) / 8 * 8)) &&& 31))))) j hj v2 v3 _ (pjc_23 (v := (A 23 j) ||| (v2 <<< ((((8 * ((v3 - 19) / 8)) + 7) - ((v3 - 19) - (v3 - 19) / 8 * 8)) &&& 31))) rfl rfl)
      · skip
        by_cases c95 : 19 ≤ v3
        · skip
          by_cases c96 : v3 ≤ 18
          · skip
            have hf : f_M_readCore_167 A j v2 v3 = f_M_readCore_287 A j v2 v3 := by unfold f_M_readCore_167; rw [if_neg c61, if_pos c85, if_neg c86, if_pos c95, if_pos c96]
            have hg : g_M_readCore_167 (pj A j) v2 v3 = g_M_readCore_287 (pj A j) v2 v3 := by unfold g_M_readCore_167; rw [if_neg (show ¬ (v3 ≤ 0) from c61), if_pos (show 12 ≤ v3 from c85), if_neg (show ¬ (v3 ≤ 14) from c86), if_pos (show 19 ≤ v3 from c95), if_pos (show v3 ≤ 18 from c96)]
            rw [hf, hg]
            exact pj_M_readCore_287 A j hj v2 v3 _ rfl
          · skip
            by_cases c98 : (19 + (8 * (A 22 j))) ≤ v3
            · skip
              have hf : f_M_readCore_167 A j v2 v3 = f_M_readCore_287 A j v2 v3 := by unfold f_M_readCore_167; rw [if_neg c61, if_pos c85, if_neg c86, if_pos c95, if_neg c96, if_pos c98]
              have hg : g_M_readCore_167 (pj A j) v2 v3 = g_M_readCore_287 (pj A j) v2 v3 := by unfold g_M_readCore_167; rw [if_neg (show ¬ (v3 ≤ 0) from c61), if_pos (show 12 ≤ v3 from c85), if_neg (show ¬ (v3 ≤ 14) from c86), if_pos (show 19 ≤ v3 from c95), if_neg (show ¬ (v3 ≤ 18) from c96), if_pos (show (19 + (8 * ((pj A j).r22))) ≤ v3 from c98)]
              rw [hf, hg]
              exact pj_M_readCore_287 A j hj v2 v3 _ rfl
            · skip
              have hf : f_M_readCore_167 A j v2 v3 = f_M_readCore_287 (setA A 23 (upd (A 23) j ((A 23 j) ||| (v2 <<< ((((8 * ((v3 - 19) / 8)) + 7) - ((v3 - 19) - (v3 - 19) / 8 * 8)) &&& 31))))) j v2 v3 := by unfold f_M_readCore_167; rw [if_neg c61, if_pos c85, if_neg c86, if_pos c95, if_neg c96, if_neg c98]
              have hg : g_M_readCore_167 (pj A j) v2 v3 = g_M_readCore_287 ((pj A j).s23 (((pj A j).r23) ||| (v2 <<< ((((8 * ((v3 - 19) / 8)) + 7) - ((v3 - 19) - (v3 - 19) / 8 * 8)) &&& 31)))) v2 v3 := by unfold g_M_readCore_167; rw [if_neg (show ¬ (v3 ≤ 0) from c61), if_pos (show 12 ≤ v3 from c85), if_neg (show ¬ (v3 ≤ 14) from c86), if_pos (show 19 ≤ v3 from c95), if_neg (show ¬ (v3 ≤ 18) from c96), if_neg (show ¬ ((19 + (8 * ((pj A j).r22))) ≤ v3) from c98)]
              rw [hf, hg]
              exact pj_M_readCore_287 (setA A 23 (upd (A 23) j ((A 23 j) ||| (v2 <<< ((((8 * ((v3 - 19) / 8)) + 7) - ((v3 - 19) - (v3 - 19) / 8 * 8)) &&& 31))))) j hj v2 v3 _ (pjc_23 (v := (A 23 j) ||| (v2 <<< ((((8 * ((v3 - 19) / 8)) + 7) - ((v3 - 19) - (v3 - 19) / 8 * 8)) &&& 31))) rfl rfl)
        · skip
          have hf : f_M_readCore_167 A j v2 v3 = f_M_readCore_287 (setA A 22 (upd (A 22) j ((2 * (A 22 j)) + v2))) j v2 v3 := by unfold f_M_readCore_167; rw [if_neg c61, if_pos c85, if_neg c86, if_neg c95]
          have hg : g_M_readCore_167 (pj A j) v2 v3 = g_M_readCore_287 ((pj A j).s22 ((2 * ((pj A j).r22)) + v2)) v2 v3 := by unfold g_M_readCore_167; rw [if_neg (show ¬ (v3 ≤ 0) from c61), if_pos (show 12 ≤ v3 from c85), if_neg (show ¬ (v3 ≤ 14) from c86), if_neg (show ¬ (19 ≤ v3) from c95)]
          rw [hf, hg]
          exact pj_M_readCore_287 (setA A 22 (upd (A 22) j ((2 * (A 22 j)) + v2))) j hj v2 v3 _ (pjc_22 (v := (2 * (A 22 j)) + v2) rfl rfl)
    · skip
      have hf : f_M_readCore_167 A j v2 v3 = f_M_readCore_287 (setA A 21 (upd (A 21) j ((2 * (A 21 j)) + v2))) j v2 v3 := by unfold f_M_readCore_167; rw [if_neg c61, if_neg c85]
      have hg : g_M_readCore_167 (pj A j) v2 v3 = g_M_readCore_287 ((pj A j).s21 ((2 * ((pj A j).r21)) + v2)) v2 v3 := by unfold g_M_readCore_167; rw [if_neg (show ¬ (v3 ≤ 0) from c61), if_neg (show ¬ (12 ≤ v3) from c85)]
      rw [hf, hg]
      exact pj_M_readCore_287 (setA A 21 (upd (A 21) j ((2 * (A 21 j)) + v2))) j hj v2 v3 _ (pjc_21 (v := (2 * (A 21 j)) + v2) rfl rfl)
set_option maxHeartbeats 4000000 in
set_option maxRecDepth 100000 in
theorem pj_M_readCore_114 (A : Nat → Nat → Int32) (j : Nat) (hj : j < 4) (v2 v3 : Int32) (yy : sM) (h : pj A j = yy) : pj (f_M_readCore_114 A j v2 v3).1 j = (g_M_readCore_114 yy v2 v3).1 ∧ (f_M_readCore_114 A j v2 v3).2 = (g_M_readCore_114 yy v2 v3).2 := by
  subst h
  by_cases c67 : v2 = (((A 20 j) >>> (14 &&& 31)) &&& 1)
  · skip
    have hf : f_M_readCore_114 A j v2 v3 = f_M_readCore_167 (setA (setA A 19 (upd (A 19) j v2)) 20 (upd (A 20) j (((A 20 j) <<< (1 &&& 31)) &&& 32767))) j v2 v3 := by unfold f_M_readCore_114; rw [if_pos c67]
    have hg : g_M_readCore_114 (pj A j) v2 v3 = g_M_readCore_167 (((pj A j).s19 v2).s20 ((((pj A j).r20) <<< (1 &&& 31)) &&& 32767)) v2 v3 := by unfold g_M_readCore_114; rw [if_pos (show v2 = ((((pj A j).r20) >>> (14 &&& 31)) &&& 1) from c67)]
    rw [hf, hg]
    exact pj_M_readCore_167 (setA (setA A 19 (upd (A 19) j v2)) 20 (upd (A 20) j (((A 20 j) <<< (1 &&& 31)) &&& 32767))) j hj v2 v3 _ (pjc_20 (v := ((A 20 j) <<< (1 &&& 31)) &&& 32767) rfl (pjc_19 (v := v2) rfl rfl))
  · skip
    have hf : f_M_readCore_114 A j v2 v3 = f_M_readCore_167 (setA (setA A 19 (upd (A 19) j v2)) 20 (upd (A 20) j ((((A 20 j) <<< (1 &&& 31)) &&& 32767) ^^^ 17817))) j v2 v3 := by unfold f_M_readCore_114; rw [if_neg c67]
    have hg : g_M_readCore_114 (pj A j) v2 v3 = g_M_readCore_167 (((pj A j).s19 v2).s20 (((((pj A j).r20) <<< (1 &&& 31)) &&& 32767) ^^^ 17817)) v2 v3 := by unfold g_M_readCore_114; rw [if_neg (show ¬ (v2 = ((((pj A j).r20) >>> (14 &&& 31)) &&& 1)) from c67)]
    rw [hf, hg]
    exact pj_M_readCore_167 (setA (setA A 19 (upd (A 19) j v2)) 20 (upd (A 20) j ((((A 20 j) <<< (1 &&& 31)) &&& 32767) ^^^ 17817))) j hj v2 v3 _ (pjc_20 (v := (((A 20 j) <<< (1 &&& 31)) &&& 32767) ^^^ 17817) rfl (pjc_19 (v := v2) rfl rfl))
set_option maxHeartbeats 4000000 in
set_option maxRecDepth 100000 in
theorem pj_M_readCore (A : Nat → Nat → Int32) (j : Nat) (hj : j < 4) (x : Int32) (yy : sM) (h : pj A j = yy) : pj (f_M_readCore A j x).1 j = (g_M_readCore yy x).1 ∧ (f_M_readCore A j x).2 = (g_M_readCore yy x).2 := by
  subst h
  by_cases c42 : (A 18 j) = 5
  · skip
    by_cases c61 : x = (A 19 j)
    · skip
      by_cases c93 : (A 17 j) = ((f_M_coreLength (setA (setA A 19 (upd (A 19) j x)) 18 (upd (A 18) j 1)) j))
      · skip
        have e92 : (f_M_coreLength (setA (setA A 19 (upd (A 19) j x)) 18 (upd (A 18) j 1)) j) = (g_M_coreLength (((pj A j).s19 x).s18 1)) := (pj_M_coreLength (setA (setA A 19 (upd (A 19) j x)) 18 (upd (A 18) j 1)) j hj _ (pjc_18 (v := 1) rfl (pjc_19 (v := x) rfl rfl)))
        have hf : f_M_readCore A j x = ((setA (setA (setA A 19 (upd (A 19) j x)) 18 (upd (A 18) j 1)) 16 (upd (A 16) j 1)), 3) := by unfold f_M_readCore; rw [if_pos c42, if_pos c61, if_pos c93]
        have hg : g_M_readCore (pj A j) x = (((((pj A j).s19 x).s18 1).s16 1), 3) := by unfold g_M_readCore; rw [if_pos (show ((pj A j).r18) = 5 from c42), if_pos (show x = ((pj A j).r19) from c61), if_pos (show ((pj A j).r17) = ((g_M_coreLength (((pj A j).s19 x).s18 1))) from by rw [← e92]; exact c93)]
        rw [hf, hg]
        exact ⟨(pjc_16 (v := 1) rfl (pjc_18 (v := 1) rfl (pjc_19 (v := x) rfl rfl))), rfl⟩
      · skip
        have e92 : (f_M_coreLength (setA (setA A 19 (upd (A 19) j x)) 18 (upd (A 18) j 1)) j) = (g_M_coreLength (((pj A j).s19 x).s18 1)) := (pj_M_coreLength (setA (setA A 19 (upd (A 19) j x)) 18 (upd (A 18) j 1)) j hj _ (pjc_18 (v := 1) rfl (pjc_19 (v := x) rfl rfl)))
        have hf : f_M_readCore A j x = ((setA (setA (setA A 19 (upd (A 19) j x)) 18 (upd (A 18) j 1)) 16 (upd (A 16) j 0)), 3) := by unfold f_M_readCore; rw [if_pos c42, if_pos c61, if_neg c93]
        have hg : g_M_readCore (pj A j) x = (((((pj A j).s19 x).s18 1).s16 0), 3) := by unfold g_M_readCore; rw [if_pos (show ((pj A j).r18) = 5 from c42), if_pos (show x = ((pj A j).r19) from c61), if_neg (show ¬ (((pj A j).r17) = ((g_M_coreLength (((pj A j).s19 x).s18 1)))) from by rw [← e92]; exact c93)]
        rw [hf, hg]
        exact ⟨(pjc_16 (v := 0) rfl (pjc_18 (v := 1) rfl (pjc_19 (v := x) rfl rfl))), rfl⟩
    · skip
      by_cases c73 : (A 17 j) = ((f_M_coreLength (setA (setA A 19 (upd (A 19) j x)) 18 (upd (A 18) j 1)) j))
      · skip
        have e72 : (f_M_coreLength (setA (setA A 19 (upd (A 19) j x)) 18 (upd (A 18) j 1)) j) = (g_M_coreLength (((pj A j).s19 x).s18 1)) := (pj_M_coreLength (setA (setA A 19 (upd (A 19) j x)) 18 (upd (A 18) j 1)) j hj _ (pjc_18 (v := 1) rfl (pjc_19 (v := x) rfl rfl)))
        have hf : f_M_readCore A j x = ((setA (setA (setA A 19 (upd (A 19) j x)) 18 (upd (A 18) j 1)) 16 (upd (A 16) j 1)), 0) := by unfold f_M_readCore; rw [if_pos c42, if_neg c61, if_pos c73]
        have hg : g_M_readCore (pj A j) x = (((((pj A j).s19 x).s18 1).s16 1), 0) := by unfold g_M_readCore; rw [if_pos (show ((pj A j).r18) = 5 from c42), if_neg (show ¬ (x = ((pj A j).r19)) from c61), if_pos (show ((pj A j).r17) = ((g_M_coreLength (((pj A j).s19 x).s18 1))) from by rw [← e72]; exact c73)]
        rw [hf, hg]
        exact ⟨(pjc_16 (v := 1) rfl (pjc_18 (v := 1) rfl (pjc_19 (v := x) rfl rfl))), rfl⟩
      · skip
        have e72 : (f_M_coreLength (setA (setA A 19 (upd (A 19) j x)) 18 (upd (A 18) j 1)) j) = (g_M_coreLength (((pj A j).s19 x).s18 1)) := (pj_M_coreLength (setA (setA A 19 (upd (A 19) j x)) 18 (upd (A 18) j 1)) j hj _ (pjc_18 (v := 1) rfl (pjc_19 (v := x) rfl rfl)))
        have hf : f_M_readCore A j x = ((setA (setA (setA A 19 (upd (A 19) j x)) 18 (upd (A 18) j 1)) 16 (upd (A 16) j 0)), 0) := by unfold f_M_readCore; rw [if_pos c42, if_neg c61, if_neg c73]
        have hg : g_M_readCore (pj A j) x = (((((pj A j).s19 x).s18 1).s16 0), 0) := by unfold g_M_readCore; rw [if_pos (show ((pj A j).r18) = 5 from c42), if_neg (show ¬ (x = ((pj A j).r19)) from c61), if_neg (show ¬ (((pj A j).r17) = ((g_M_coreLength (((pj A j).s19 x).s18 1)))) from by rw [← e72]; exact c73)]
        rw [hf, hg]
        exact ⟨(pjc_16 (v := 0) rfl (pjc_18 (v := 1) rfl (pjc_19 (v := x) rfl rfl))), rfl⟩
  · skip
    by_cases c44 : (A 17 j) ≤ 0
    · skip
      have hf : f_M_readCore A j x = f_M_readCore_114 (setA A 18 (upd (A 18) j 1)) j x (A 17 j) := by unfold f_M_readCore; rw [if_neg c42, if_pos c44]
      have hg : g_M_readCore (pj A j) x = g_M_readCore_114 ((pj A j).s18 1) x (pj A j).r17 := by unfold g_M_readCore; rw [if_neg (show ¬ (((pj A j).r18) = 5) from c42), if_pos (show ((pj A j).r17) ≤ 0 from c44)]
      rw [hf, hg]
      exact pj_M_readCore_114 (setA A 18 (upd (A 18) j 1)) j hj x (A 17 j) _ (pjc_18 (v := 1) rfl rfl)
    · skip
      by_cases c50 : x = (A 19 j)
      · skip
        have hf : f_M_readCore A j x = f_M_readCore_114 (setA A 18 (upd (A 18) j ((A 18 j) + 1))) j x (A 17 j) := by unfold f_M_readCore; rw [if_neg c42, if_neg c44, if_pos c50]
        have hg : g_M_readCore (pj A j) x = g_M_readCore_114 ((pj A j).s18 (((pj A j).r18) + 1)) x (pj A j).r17 := by unfold g_M_readCore; rw [if_neg (show ¬ (((pj A j).r18) = 5) from c42), if_neg (show ¬ (((pj A j).r17) ≤ 0) from c44), if_pos (show x = ((pj A j).r19) from c50)]
        rw [hf, hg]
        exact pj_M_readCore_114 (setA A 18 (upd (A 18) j ((A 18 j) + 1))) j hj x (A 17 j) _ (pjc_18 (v := (A 18 j) + 1) rfl rfl)
      · skip
        have hf : f_M_readCore A j x = f_M_readCore_114 (setA A 18 (upd (A 18) j 1)) j x (A 17 j) := by unfold f_M_readCore; rw [if_neg c42, if_neg c44, if_neg c50]
        have hg : g_M_readCore (pj A j) x = g_M_readCore_114 ((pj A j).s18 1) x (pj A j).r17 := by unfold g_M_readCore; rw [if_neg (show ¬ (((pj A j).r18) = 5) from c42), if_neg (show ¬ (((pj A j).r17) ≤ 0) from c44), if_neg (show ¬ (x = ((pj A j).r19)) from c50)]
        rw [hf, hg]
        exact pj_M_readCore_114 (setA A 18 (upd (A 18) j 1)) j hj x (A 17 j) _ (pjc_18 (v := 1) rfl rfl)
def g_M_goAfter (yy : sM) (x : Int32) : sM := if x = 1 then (if ((yy.r27) + 1) = 8 then ((g_M_rest (yy.s27 ((yy.r27) + 1)))) else ((yy.s27 ((yy.r27) + 1)))) else (if (yy.r27) ≤ 0 then (if ((yy.r26) + 1) = 1 then (if (yy.r24) = 2 then (if (((yy.r26) + 1) - ((yy.r26) + 1) / 8 * 8) = 0 then (if ((g_M_eightMore ((yy.s26 ((yy.r26) + 1)).s5 ((yy.r5) + 8))).2) = 0 then ((g_M_eightMore ((yy.s26 ((yy.r26) + 1)).s5 ((yy.r5) + 8))).1) else ((g_M_eightMore ((yy.s26 ((yy.r26) + 1)).s5 ((yy.r5) + 8))).1)) else (((yy.s26 ((yy.r26) + 1)).s5 ((yy.r5) + 8)))) else (if (((yy.r26) + 1) - ((yy.r26) + 1) / 8 * 8) = 0 then (if ((g_M_eightMore ((yy.s26 ((yy.r26) + 1)).s5 ((yy.r5) + 0))).2) = 0 then ((g_M_eightMore ((yy.s26 ((yy.r26) + 1)).s5 ((yy.r5) + 0))).1) else ((g_M_eightMore ((yy.s26 ((yy.r26) + 1)).s5 ((yy.r5) + 0))).1)) else (((yy.s26 ((yy.r26) + 1)).s5 ((yy.r5) + 0))))) else (if (((yy.r26) + 1) - ((yy.r26) + 1) / 8 * 8) = 0 then (if ((g_M_eightMore ((yy.s26 ((yy.r26) + 1)).s5 ((yy.r5) + 0))).2) = 0 then ((g_M_eightMore ((yy.s26 ((yy.r26) + 1)).s5 ((yy.r5) + 0))).1) else ((g_M_eightMore ((yy.s26 ((yy.r26) + 1)).s5 ((yy.r5) + 0))).1)) else (((yy.s26 ((yy.r26) + 1)).s5 ((yy.r5) + 0))))) else (if (yy.r24) = 0 then ((g_M_overload yy)) else ((g_M_err yy 4 yy.r24))))
set_option maxHeartbeats 4000000 in
set_option maxRecDepth 100000 in
theorem pj_M_goAfter (A : Nat → Nat → Int32) (j : Nat) (hj : j < 4) (x : Int32) (yy : sM) (h : pj A j = yy) : pj (f_M_goAfter A j x) j = g_M_goAfter yy x := by
  subst h
  by_cases c41 : x = 1
  · skip
    by_cases c104 : ((A 27 j) + 1) = 8
    · skip
      have e108 : pj (f_M_rest (setA A 27 (upd (A 27) j ((A 27 j) + 1))) j) j = (g_M_rest ((pj A j).s27 (((pj A j).r27) + 1))) := (pj_M_rest (setA A 27 (upd (A 27) j ((A 27 j) + 1))) j hj _ (pjc_27 (v := (A 27 j) + 1) rfl rfl))
      have hf : f_M_goAfter A j x = (f_M_rest (setA A 27 (upd (A 27) j ((A 27 j) + 1))) j) := by unfold f_M_goAfter; rw [if_pos c41, if_pos c104]
      have hg : g_M_goAfter (pj A j) x = (g_M_rest ((pj A j).s27 (((pj A j).r27) + 1))) := by unfold g_M_goAfter; rw [if_pos (show x = 1 from c41), if_pos (show (((pj A j).r27) + 1) = 8 from c104)]
      rw [hf, hg]
      exact e108
    · skip
      have hf : f_M_goAfter A j x = (setA A 27 (upd (A 27) j ((A 27 j) + 1))) := by unfold f_M_goAfter; rw [if_pos c41, if_neg c104]
      have hg : g_M_goAfter (pj A j) x = ((pj A j).s27 (((pj A j).r27) + 1)) := by unfold g_M_goAfter; rw [if_pos (show x = 1 from c41), if_neg (show ¬ ((((pj A j).r27) + 1) = 8) from c104)]
      rw [hf, hg]
      exact (pjc_27 (v := (A 27 j) + 1) rfl rfl)
  · skip
    by_cases c43 : (A 27 j) ≤ 0
    · skip
      by_cases c51 : ((A 26 j) + 1) = 1
      · skip
        by_cases c64 : (A 24 j) = 2
        · skip
          by_cases c81 : (((A 26 j) + 1) - ((A 26 j) + 1) / 8 * 8) = 0
          · skip
            by_cases c86 : ((f_M_eightMore (setA (setA A 26 (upd (A 26) j ((A 26 j) + 1))) 5 (upd (A 5) j ((A 5 j) + 8))) j).2) = 0
            · skip
              have e85 : pj (f_M_eightMore (setA (setA A 26 (upd (A 26) j ((A 26 j) + 1))) 5 (upd (A 5) j ((A 5 j) + 8))) j).1 j = (g_M_eightMore (((pj A j).s26 (((pj A j).r26) + 1)).s5 (((pj A j).r5) + 8))).1 ∧ (f_M_eightMore (setA (setA A 26 (upd (A 26) j ((A 26 j) + 1))) 5 (upd (A 5) j ((A 5 j) + 8))) j).2 = (g_M_eightMore (((pj A j).s26 (((pj A j).r26) + 1)).s5 (((pj A j).r5) + 8))).2 := (pj_M_eightMore (setA (setA A 26 (upd (A 26) j ((A 26 j) + 1))) 5 (upd (A 5) j ((A 5 j) + 8))) j hj _ (pjc_5 (v := (A 5 j) + 8) rfl (pjc_26 (v := (A 26 j) + 1) rfl rfl)))
              have hf : f_M_goAfter A j x = (f_M_eightMore (setA (setA A 26 (upd (A 26) j ((A 26 j) + 1))) 5 (upd (A 5) j ((A 5 j) + 8))) j).1 := by unfold f_M_goAfter; rw [if_neg c41, if_pos c43, if_pos c51, if_pos c64, if_pos c81, if_pos c86]
              have hg : g_M_goAfter (pj A j) x = (g_M_eightMore (((pj A j).s26 (((pj A j).r26) + 1)).s5 (((pj A j).r5) + 8))).1 := by unfold g_M_goAfter; rw [if_neg (show ¬ (x = 1) from c41), if_pos (show ((pj A j).r27) ≤ 0 from c43), if_pos (show (((pj A j).r26) + 1) = 1 from c51), if_pos (show ((pj A j).r24) = 2 from c64), if_pos (show ((((pj A j).r26) + 1) - (((pj A j).r26) + 1) / 8 * 8) = 0 from c81), if_pos (show ((g_M_eightMore (((pj A j).s26 (((pj A j).r26) + 1)).s5 (((pj A j).r5) + 8))).2) = 0 from by rw [← e85.2]; exact c86)]
              rw [hf, hg]
              exact e85.1
            · skip
              have e85 : pj (f_M_eightMore (setA (setA A 26 (upd (A 26) j ((A 26 j) + 1))) 5 (upd (A 5) j ((A 5 j) + 8))) j).1 j = (g_M_eightMore (((pj A j).s26 (((pj A j).r26) + 1)).s5 (((pj A j).r5) + 8))).1 ∧ (f_M_eightMore (setA (setA A 26 (upd (A 26) j ((A 26 j) + 1))) 5 (upd (A 5) j ((A 5 j) + 8))) j).2 = (g_M_eightMore (((pj A j).s26 (((pj A j).r26) + 1)).s5 (((pj A j).r5) + 8))).2 := (pj_M_eightMore (setA (setA A 26 (upd (A 26) j ((A 26 j) + 1))) 5 (upd (A 5) j ((A 5 j) + 8))) j hj _ (pjc_5 (v := (A 5 j) + 8) rfl (pjc_26 (v := (A 26 j) + 1) rfl rfl)))
              have hf : f_M_goAfter A j x = (f_M_eightMore (setA (setA A 26 (upd (A 26) j ((A 26 j) + 1))) 5 (upd (A 5) j ((A 5 j) + 8))) j).1 := by unfold f_M_goAfter; rw [if_neg c41, if_pos c43, if_pos c51, if_pos c64, if_pos c81, if_neg c86]
              have hg : g_M_goAfter (pj A j) x = (g_M_eightMore (((pj A j).s26 (((pj A j).r26) + 1)).s5 (((pj A j).r5) + 8))).1 := by unfold g_M_goAfter; rw [if_neg (show ¬ (x = 1) from c41), if_pos (show ((pj A j).r27) ≤ 0 from c43), if_pos (show (((pj A j).r26) + 1) = 1 from c51), if_pos (show ((pj A j).r24) = 2 from c64), if_pos (show ((((pj A j).r26) + 1) - (((pj A j).r26) + 1) / 8 * 8) = 0 from c81), if_neg (show ¬ (((g_M_eightMore (((pj A j).s26 (((pj A j).r26) + 1)).s5 (((pj A j).r5) + 8))).2) = 0) from by rw [← e85.2]; exact c86)]
              rw [hf, hg]
              exact e85.1
          · skip
            have hf : f_M_goAfter A j x = (setA (setA A 26 (upd (A 26) j ((A 26 j) + 1))) 5 (upd (A 5) j ((A 5 j) + 8))) := by unfold f_M_goAfter; rw [if_neg c41, if_pos c43, if_pos c51, if_pos c64, if_neg c81]
            have hg : g_M_goAfter (pj A j) x = (((pj A j).s26 (((pj A j).r26) + 1)).s5 (((pj A j).r5) + 8)) := by unfold g_M_goAfter; rw [if_neg (show ¬ (x = 1) from c41), if_pos (show ((pj A j).r27) ≤ 0 from c43), if_pos (show (((pj A j).r26) + 1) = 1 from c51), if_pos (show ((pj A j).r24) = 2 from c64), if_neg (show ¬ (((((pj A j).r26) + 1) - (((pj A j).r26) + 1) / 8 * 8) = 0) from c81)]
            rw [hf, hg]
            exact (pjc_5 (v := (A 5 j) + 8) rfl (pjc_26 (v := (A 26 j) + 1) rfl rfl))
        · skip
          by_cases c70 : (((A 26 j) + 1) - ((A 26 j) + 1) / 8 * 8) = 0
          · skip
            by_cases c75 : ((f_M_eightMore (setA (setA A 26 (upd (A 26) j ((A 26 j) + 1))) 5 (upd (A 5) j ((A 5 j) + 0))) j).2) = 0
            · skip
              have e74 : pj (f_M_eightMore (setA (setA A 26 (upd (A 26) j ((A 26 j) + 1))) 5 (upd (A 5) j ((A 5 j) + 0))) j).1 j = (g_M_eightMore (((pj A j).s26 (((pj A j).r26) + 1)).s5 (((pj A j).r5) + 0))).1 ∧ (f_M_eightMore (setA (setA A 26 (upd (A 26) j ((A 26 j) + 1))) 5 (upd (A 5) j ((A 5 j) + 0))) j).2 = (g_M_eightMore (((pj A j).s26 (((pj A j).r26) + 1)).s5 (((pj A j).r5) + 0))).2 := (pj_M_eightMore (setA (setA A 26 (upd (A 26) j ((A 26 j) + 1))) 5 (upd (A 5) j ((A 5 j) + 0))) j hj _ (pjc_5 (v := (A 5 j) + 0) rfl (pjc_26 (v := (A 26 j) + 1) rfl rfl)))
              have hf : f_M_goAfter A j x = (f_M_eightMore (setA (setA A 26 (upd (A 26) j ((A 26 j) + 1))) 5 (upd (A 5) j ((A 5 j) + 0))) j).1 := by unfold f_M_goAfter; rw [if_neg c41, if_pos c43, if_pos c51, if_neg c64, if_pos c70, if_pos c75]
              have hg : g_M_goAfter (pj A j) x = (g_M_eightMore (((pj A j).s26 (((pj A j).r26) + 1)).s5 (((pj A j).r5) + 0))).1 := by unfold g_M_goAfter; rw [if_neg (show ¬ (x = 1) from c41), if_pos (show ((pj A j).r27) ≤ 0 from c43), if_pos (show (((pj A j).r26) + 1) = 1 from c51), if_neg (show ¬ (((pj A j).r24) = 2) from c64), if_pos (show ((((pj A j).r26) + 1) - (((pj A j).r26) + 1) / 8 * 8) = 0 from c70), if_pos (show ((g_M_eightMore (((pj A j).s26 (((pj A j).r26) + 1)).s5 (((pj A j).r5) + 0))).2) = 0 from by rw [← e74.2]; exact c75)]
              rw [hf, hg]
              exact e74.1
            · skip
              have e74 : pj (f_M_eightMore (setA (setA A 26 (upd (A 26) j ((A 26 j) + 1))) 5 (upd (A 5) j ((A 5 j) + 0))) j).1 j = (g_M_eightMore (((pj A j).s26 (((pj A j).r26) + 1)).s5 (((pj A j).r5) + 0))).1 ∧ (f_M_eightMore (setA (setA A 26 (upd (A 26) j ((A 26 j) + 1))) 5 (upd (A 5) j ((A 5 j) + 0))) j).2 = (g_M_eightMore (((pj A j).s26 (((pj A j).r26) + 1)).s5 (((pj A j).r5) + 0))).2 := (pj_M_eightMore (setA (setA A 26 (upd (A 26) j ((A 26 j) + 1))) 5 (upd (A 5) j ((A 5 j) + 0))) j hj _ (pjc_5 (v := (A 5 j) + 0) rfl (pjc_26 (v := (A 26 j) + 1) rfl rfl)))
              have hf : f_M_goAfter A j x = (f_M_eightMore (setA (setA A 26 (upd (A 26) j ((A 26 j) + 1))) 5 (upd (A 5) j ((A 5 j) + 0))) j).1 := by unfold f_M_goAfter; rw [if_neg c41, if_pos c43, if_pos c51, if_neg c64, if_pos c70, if_neg c75]
              have hg : g_M_goAfter (pj A j) x = (g_M_eightMore (((pj A j).s26 (((pj A j).r26) + 1)).s5 (((pj A j).r5) + 0))).1 := by unfold g_M_goAfter; rw [if_neg (show ¬ (x = 1) from c41), if_pos (show ((pj A j).r27) ≤ 0 from c43), if_pos (show (((pj A j).r26) + 1) = 1 from c51), if_neg (show ¬ (((pj A j).r24) = 2) from c64), if_pos (show ((((pj A j).r26) + 1) - (((pj A j).r26) + 1) / 8 * 8) = 0 from c70), if_neg (show ¬ (((g_M_eightMore (((pj A j).s26 (((pj A j).r26) + 1)).s5 (((pj A j).r5) + 0))).2) = 0) from by rw [← e74.2]; exact c75)]
              rw [hf, hg]
              exact e74.1
          · skip
            have hf : f_M_goAfter A j x = (setA (setA A 26 (upd (A 26) j ((A 26 j) + 1))) 5 (upd (A 5) j ((A 5 j) + 0))) := by unfold f_M_goAfter; rw [if_neg c41, if_pos c43, if_pos c51, if_neg c64, if_neg c70]
            have hg : g_M_goAfter (pj A j) x = (((pj A j).s26 (((pj A j).r26) + 1)).s5 (((pj A j).r5) + 0)) := by unfold g_M_goAfter; rw [if_neg (show ¬ (x = 1) from c41), if_pos (show ((pj A j).r27) ≤ 0 from c43), if_pos (show (((pj A j).r26) + 1) = 1 from c51), if_neg (show ¬ (((pj A j).r24) = 2) from c64), if_neg (show ¬ (((((pj A j).r26) + 1) - (((pj A j).r26) + 1) / 8 * 8) = 0) from c70)]
            rw [hf, hg]
            exact (pjc_5 (v := (A 5 j) + 0) rfl (pjc_26 (v := (A 26 j) + 1) rfl rfl))
      · skip
        by_cases c57 : (((A 26 j) + 1) - ((A 26 j) + 1) / 8 * 8) = 0
        · skip
          by_cases c62 : ((f_M_eightMore (setA (setA A 26 (upd (A 26) j ((A 26 j) + 1))) 5 (upd (A 5) j ((A 5 j) + 0))) j).2) = 0
          · skip
            have e61 : pj (f_M_eightMore (setA (setA A 26 (upd (A 26) j ((A 26 j) + 1))) 5 (upd (A 5) j ((A 5 j) + 0))) j).1 j = (g_M_eightMore (((pj A j).s26 (((pj A j).r26) + 1)).s5 (((pj A j).r5) + 0))).1 ∧ (f_M_eightMore (setA (setA A 26 (upd (A 26) j ((A 26 j) + 1))) 5 (upd (A 5) j ((A 5 j) + 0))) j).2 = (g_M_eightMore (((pj A j).s26 (((pj A j).r26) + 1)).s5 (((pj A j).r5) + 0))).2 := (pj_M_eightMore (setA (setA A 26 (upd (A 26) j ((A 26 j) + 1))) 5 (upd (A 5) j ((A 5 j) + 0))) j hj _ (pjc_5 (v := (A 5 j) + 0) rfl (pjc_26 (v := (A 26 j) + 1) rfl rfl)))
            have hf : f_M_goAfter A j x = (f_M_eightMore (setA (setA A 26 (upd (A 26) j ((A 26 j) + 1))) 5 (upd (A 5) j ((A 5 j) + 0))) j).1 := by unfold f_M_goAfter; rw [if_neg c41, if_pos c43, if_neg c51, if_pos c57, if_pos c62]
            have hg : g_M_goAfter (pj A j) x = (g_M_eightMore (((pj A j).s26 (((pj A j).r26) + 1)).s5 (((pj A j).r5) + 0))).1 := by unfold g_M_goAfter; rw [if_neg (show ¬ (x = 1) from c41), if_pos (show ((pj A j).r27) ≤ 0 from c43), if_neg (show ¬ ((((pj A j).r26) + 1) = 1) from c51), if_pos (show ((((pj A j).r26) + 1) - (((pj A j).r26) + 1) / 8 * 8) = 0 from c57), if_pos (show ((g_M_eightMore (((pj A j).s26 (((pj A j).r26) + 1)).s5 (((pj A j).r5) + 0))).2) = 0 from by rw [← e61.2]; exact c62)]
            rw [hf, hg]
            exact e61.1
          · skip
            have e61 : pj (f_M_eightMore (setA (setA A 26 (upd (A 26) j ((A 26 j) + 1))) 5 (upd (A 5) j ((A 5 j) + 0))) j).1 j = (g_M_eightMore (((pj A j).s26 (((pj A j).r26) + 1)).s5 (((pj A j).r5) + 0))).1 ∧ (f_M_eightMore (setA (setA A 26 (upd (A 26) j ((A 26 j) + 1))) 5 (upd (A 5) j ((A 5 j) + 0))) j).2 = (g_M_eightMore (((pj A j).s26 (((pj A j).r26) + 1)).s5 (((pj A j).r5) + 0))).2 := (pj_M_eightMore (setA (setA A 26 (upd (A 26) j ((A 26 j) + 1))) 5 (upd (A 5) j ((A 5 j) + 0))) j hj _ (pjc_5 (v := (A 5 j) + 0) rfl (pjc_26 (v := (A 26 j) + 1) rfl rfl)))
            have hf : f_M_goAfter A j x = (f_M_eightMore (setA (setA A 26 (upd (A 26) j ((A 26 j) + 1))) 5 (upd (A 5) j ((A 5 j) + 0))) j).1 := by unfold f_M_goAfter; rw [if_neg c41, if_pos c43, if_neg c51, if_pos c57, if_neg c62]
            have hg : g_M_goAfter (pj A j) x = (g_M_eightMore (((pj A j).s26 (((pj A j).r26) + 1)).s5 (((pj A j).r5) + 0))).1 := by unfold g_M_goAfter; rw [if_neg (show ¬ (x = 1) from c41), if_pos (show ((pj A j).r27) ≤ 0 from c43), if_neg (show ¬ ((((pj A j).r26) + 1) = 1) from c51), if_pos (show ((((pj A j).r26) + 1) - (((pj A j).r26) + 1) / 8 * 8) = 0 from c57), if_neg (show ¬ (((g_M_eightMore (((pj A j).s26 (((pj A j).r26) + 1)).s5 (((pj A j).r5) + 0))).2) = 0) from by rw [← e61.2]; exact c62)]
            rw [hf, hg]
            exact e61.1
        · skip
          have hf : f_M_goAfter A j x = (setA (setA A 26 (upd (A 26) j ((A 26 j) + 1))) 5 (upd (A 5) j ((A 5 j) + 0))) := by unfold f_M_goAfter; rw [if_neg c41, if_pos c43, if_neg c51, if_neg c57]
          have hg : g_M_goAfter (pj A j) x = (((pj A j).s26 (((pj A j).r26) + 1)).s5 (((pj A j).r5) + 0)) := by unfold g_M_goAfter; rw [if_neg (show ¬ (x = 1) from c41), if_pos (show ((pj A j).r27) ≤ 0 from c43), if_neg (show ¬ ((((pj A j).r26) + 1) = 1) from c51), if_neg (show ¬ (((((pj A j).r26) + 1) - (((pj A j).r26) + 1) / 8 * 8) = 0) from c57)]
          rw [hf, hg]
          exact (pjc_5 (v := (A 5 j) + 0) rfl (pjc_26 (v := (A 26 j) + 1) rfl rfl))
    · skip
      by_cases c88 : (A 24 j) = 0
      · skip
        have e97 : pj (f_M_overload A j) j = (g_M_overload (pj A j)) := (pj_M_overload A j hj _ rfl)
        have hf : f_M_goAfter A j x = (f_M_overload A j) := by unfold f_M_goAfter; rw [if_neg c41, if_neg c43, if_pos c88]
        have hg : g_M_goAfter (pj A j) x = (g_M_overload (pj A j)) := by unfold g_M_goAfter; rw [if_neg (show ¬ (x = 1) from c41), if_neg (show ¬ (((pj A j).r27) ≤ 0) from c43), if_pos (show ((pj A j).r24) = 0 from c88)]
        rw [hf, hg]
        exact e97
      · skip
        have e93 : pj (f_M_err A j 4 (A 24 j)) j = (g_M_err (pj A j) 4 (pj A j).r24) := (pj_M_err A j hj 4 (A 24 j) (show vp_in (nI 4) 8 from vp_in_nI (by decide) (by decide)) _ rfl)
        have hf : f_M_goAfter A j x = (f_M_err A j 4 (A 24 j)) := by unfold f_M_goAfter; rw [if_neg c41, if_neg c43, if_neg c88]
        have hg : g_M_goAfter (pj A j) x = (g_M_err (pj A j) 4 (pj A j).r24) := by unfold g_M_goAfter; rw [if_neg (show ¬ (x = 1) from c41), if_neg (show ¬ (((pj A j).r27) ≤ 0) from c43), if_neg (show ¬ (((pj A j).r24) = 0) from c88)]
        rw [hf, hg]
        exact e93
