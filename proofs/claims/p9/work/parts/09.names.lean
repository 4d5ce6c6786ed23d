def R_X : String := "StrongBus"
def R_Co : String := "StrongBus$Core"
def R_Di : String := "StrongBus$Disturbances"
def R_Fr : String := "StrongBus$Frames"
def R_No : String := "StrongBus$Node"
def R_Re : String := "StrongBus$Reader"
def R_M : String := "StrongBusModel"
def R_L : String := "StrongBusLaw"
def R_Ma : String := "java/lang/Math"
def T_Co : u_T := fun k => match k with
  | 0 => ("StrongBus$Core", "bits", "[I", true)
  | 1 => ("StrongBus$Core", "length", "I", false)
  | _ => ("StrongBus$Core", "register", "I", false)
def t_Co : Nat → FieldType := fun k => match k with
  | 0 => .array .int
  | 1 => .int
  | _ => .int
def T_Di : u_T := fun k => match k with
  | 0 => ("StrongBus$Disturbances", "ring", "[Z", true)
  | _ => ("StrongBus$Disturbances", "latest", "I", false)
def t_Di : Nat → FieldType := fun k => match k with
  | 0 => .array .boolean
  | _ => .int
def T_Fr : u_T := fun k => match k with
  | 0 => ("StrongBus$Frames", "row", "[I", true)
  | _ => ("StrongBus$Frames", "size", "I", false)
def t_Fr : Nat → FieldType := fun k => match k with
  | 0 => .array .int
  | _ => .int
def T_No : u_T := fun k => match k with
  | 0 => ("StrongBus$Node", "waiting", "LStrongBus$Frames;", true)
  | 1 => ("StrongBus$Node", "inbox", "LStrongBus$Frames;", true)
  | 2 => ("StrongBus$Node", "disturbances", "LStrongBus$Disturbances;", true)
  | 3 => ("StrongBus$Node", "core", "LStrongBus$Core;", true)
  | 4 => ("StrongBus$Node", "reader", "LStrongBus$Reader;", true)
  | 5 => ("StrongBus$Node", "state", "I", false)
  | 6 => ("StrongBus$Node", "was", "I", false)
  | 7 => ("StrongBus$Node", "sendErrors", "I", false)
  | 8 => ("StrongBus$Node", "hearErrors", "I", false)
  | 9 => ("StrongBus$Node", "lost", "I", false)
  | 10 => ("StrongBus$Node", "mask", "I", false)
  | 11 => ("StrongBus$Node", "value", "I", false)
  | 12 => ("StrongBus$Node", "sendingPlace", "I", false)
  | 13 => ("StrongBus$Node", "driven", "I", false)
  | 14 => ("StrongBus$Node", "passiveFlag", "Z", false)
  | 15 => ("StrongBus$Node", "steps", "I", false)
  | 16 => ("StrongBus$Node", "ones", "I", false)
  | _ => ("StrongBus$Node", "rowsOfOnes", "I", false)
def t_No : Nat → FieldType := fun k => match k with
  | 0 => .object "StrongBus$Frames"
  | 1 => .object "StrongBus$Frames"
  | 2 => .object "StrongBus$Disturbances"
  | 3 => .object "StrongBus$Core"
  | 4 => .object "StrongBus$Reader"
  | 5 => .int
  | 6 => .int
  | 7 => .int
  | 8 => .int
  | 9 => .int
  | 10 => .int
  | 11 => .int
  | 12 => .int
  | 13 => .int
  | 14 => .boolean
  | 15 => .int
  | 16 => .int
  | _ => .int
def T_Re : u_T := fun k => match k with
  | 0 => ("StrongBus$Reader", "place", "I", false)
  | 1 => ("StrongBus$Reader", "coreLength", "I", false)
  | 2 => ("StrongBus$Reader", "latest", "I", false)
  | 3 => ("StrongBus$Reader", "equal", "I", false)
  | 4 => ("StrongBus$Reader", "register", "I", false)
  | 5 => ("StrongBus$Reader", "id", "I", false)
  | 6 => ("StrongBus$Reader", "bytes", "I", false)
  | _ => ("StrongBus$Reader", "data", "I", false)
def t_Re : Nat → FieldType := fun k => match k with
  | 0 => .int
  | 1 => .int
  | 2 => .int
  | 3 => .int
  | 4 => .int
  | 5 => .int
  | 6 => .int
  | _ => .int
def T_X : u_T := fun k => match k with
  | 0 => ("StrongBus", "nodes", "[LStrongBus$Node;", true)
  | 1 => ("StrongBus", "levels", "[I", true)
  | _ => ("StrongBus", "totals", "[I", true)
def t_X : Nat → FieldType := fun k => match k with
  | 0 => .array (.object "StrongBus$Node")
  | 1 => .array .int
  | _ => .array .int
def T_M : u_T := fun k => match k with
  | 0 => ("StrongBusModel", "thrown", "I", false)
  | 1 => ("StrongBusModel", "nodes", "I", false)
  | 2 => ("StrongBusModel", "totals", "[I", false)
  | 3 => ("StrongBusModel", "wire", "[I", false)
  | 4 => ("StrongBusModel", "disturbed", "[Z", false)
  | 5 => ("StrongBusModel", "state", "[I", false)
  | 6 => ("StrongBusModel", "sendErrors", "[I", false)
  | 7 => ("StrongBusModel", "hearErrors", "[I", false)
  | 8 => ("StrongBusModel", "masks", "[I", false)
  | 9 => ("StrongBusModel", "values", "[I", false)
  | 10 => ("StrongBusModel", "lost", "[I", false)
  | 11 => ("StrongBusModel", "waits", "[I", false)
  | 12 => ("StrongBusModel", "waitId", "[I", false)
  | 13 => ("StrongBusModel", "waitBytes", "[I", false)
  | 14 => ("StrongBusModel", "waitData", "[I", false)
  | 15 => ("StrongBusModel", "chosen", "[I", false)
  | 16 => ("StrongBusModel", "boxed", "[I", false)
  | 17 => ("StrongBusModel", "box", "[I", false)
  | 18 => ("StrongBusModel", "part", "[I", false)
  | 19 => ("StrongBusModel", "read", "[I", false)
  | 20 => ("StrongBusModel", "run", "[I", false)
  | 21 => ("StrongBusModel", "latest", "[I", false)
  | 22 => ("StrongBusModel", "register", "[I", false)
  | 23 => ("StrongBusModel", "id", "[I", false)
  | 24 => ("StrongBusModel", "bytes", "[I", false)
  | 25 => ("StrongBusModel", "data", "[I", false)
  | 26 => ("StrongBusModel", "was", "[I", false)
  | 27 => ("StrongBusModel", "quiet", "[Z", false)
  | 28 => ("StrongBusModel", "time", "[I", false)
  | 29 => ("StrongBusModel", "ones", "[I", false)
  | 30 => ("StrongBusModel", "role", "[I", false)
  | _ => ("StrongBusModel", "drive", "[I", false)
def t_M : Nat → FieldType := fun k => match k with
  | 0 => .int
  | 1 => .int
  | 2 => .array .int
  | 3 => .array .int
  | 4 => .array .boolean
  | 5 => .array .int
  | 6 => .array .int
  | 7 => .array .int
  | 8 => .array .int
  | 9 => .array .int
  | 10 => .array .int
  | 11 => .array .int
  | 12 => .array .int
  | 13 => .array .int
  | 14 => .array .int
  | 15 => .array .int
  | 16 => .array .int
  | 17 => .array .int
  | 18 => .array .int
  | 19 => .array .int
  | 20 => .array .int
  | 21 => .array .int
  | 22 => .array .int
  | 23 => .array .int
  | 24 => .array .int
  | 25 => .array .int
  | 26 => .array .int
  | 27 => .array .boolean
  | 28 => .array .int
  | 29 => .array .int
  | 30 => .array .int
  | _ => .array .int
abbrev vwCl : List vw_C := [(R_Co, T_Co, 3), (R_Di, T_Di, 2), (R_Fr, T_Fr, 2), (R_No, T_No, 18), (R_Re, T_Re, 8), (R_X, T_X, 3), (R_M, T_M, 32)]
set_option maxRecDepth 20000 in
theorem k_Co : hq_K TB vwCl 0 R_Co T_Co 3 t_Co := ⟨rfl, by decide +kernel, by decide +kernel, by decide +kernel⟩
set_option maxRecDepth 20000 in
theorem k_Di : hq_K TB vwCl 1 R_Di T_Di 2 t_Di := ⟨rfl, by decide +kernel, by decide +kernel, by decide +kernel⟩
set_option maxRecDepth 20000 in
theorem k_Fr : hq_K TB vwCl 2 R_Fr T_Fr 2 t_Fr := ⟨rfl, by decide +kernel, by decide +kernel, by decide +kernel⟩
set_option maxRecDepth 20000 in
theorem k_No : hq_K TB vwCl 3 R_No T_No 18 t_No := ⟨rfl, by decide +kernel, by decide +kernel, by decide +kernel⟩
set_option maxRecDepth 20000 in
theorem k_Re : hq_K TB vwCl 4 R_Re T_Re 8 t_Re := ⟨rfl, by decide +kernel, by decide +kernel, by decide +kernel⟩
set_option maxRecDepth 20000 in
theorem k_X : hq_K TB vwCl 5 R_X T_X 3 t_X := ⟨rfl, by decide +kernel, by decide +kernel, by decide +kernel⟩
set_option maxRecDepth 20000 in
theorem k_M : hq_K TB vwCl 6 R_M T_M 32 t_M := ⟨rfl, by decide +kernel, by decide +kernel, by decide +kernel⟩
abbrev b_X_init : ByteArray := prog_1_method_1_code
def y_X_init : MethodName := ⟨R_X, "<init>", "(I)V"⟩
set_option maxRecDepth 100000 in
theorem cw_X_init : Cond.code y_X_init b_X_init 3 none ∈ TB := tb_at 46 rfl rfl
abbrev b_Ma_min : ByteArray := prog_12_method_69_code
def y_Ma_min : MethodName := ⟨R_Ma, "min", "(II)I"⟩
set_option maxRecDepth 100000 in
theorem cw_Ma_min : Cond.code y_Ma_min b_Ma_min 2 (some .int) ∈ TB := tb_at 52 rfl rfl
abbrev b_Ma_max : ByteArray := prog_12_method_65_code
def y_Ma_max : MethodName := ⟨R_Ma, "max", "(II)I"⟩
set_option maxRecDepth 100000 in
theorem cw_Ma_max : Cond.code y_Ma_max b_Ma_max 2 (some .int) ∈ TB := tb_at 55 rfl rfl
abbrev b_No_init : ByteArray := prog_5_method_1_code
def y_No_init : MethodName := ⟨R_No, "<init>", "()V"⟩
set_option maxRecDepth 100000 in
theorem cw_No_init : Cond.code y_No_init b_No_init 1 none ∈ TB := tb_at 61 rfl rfl
abbrev b_Fr_init : ByteArray := prog_4_method_1_code
def y_Fr_init : MethodName := ⟨R_Fr, "<init>", "()V"⟩
set_option maxRecDepth 100000 in
theorem cw_Fr_init : Cond.code y_Fr_init b_Fr_init 1 none ∈ TB := tb_at 67 rfl rfl
abbrev b_Di_init : ByteArray := prog_3_method_1_code
def y_Di_init : MethodName := ⟨R_Di, "<init>", "()V"⟩
set_option maxRecDepth 100000 in
theorem cw_Di_init : Cond.code y_Di_init b_Di_init 1 none ∈ TB := tb_at 83 rfl rfl
abbrev b_Co_init : ByteArray := prog_2_method_1_code
def y_Co_init : MethodName := ⟨R_Co, "<init>", "()V"⟩
set_option maxRecDepth 100000 in
theorem cw_Co_init : Cond.code y_Co_init b_Co_init 1 none ∈ TB := tb_at 97 rfl rfl
abbrev b_Re_init : ByteArray := prog_6_method_1_code
def y_Re_init : MethodName := ⟨R_Re, "<init>", "()V"⟩
set_option maxRecDepth 100000 in
theorem cw_Re_init : Cond.code y_Re_init b_Re_init 1 none ∈ TB := tb_at 113 rfl rfl
abbrev b_X_level : ByteArray := prog_1_method_6_code
def y_X_level : MethodName := ⟨R_X, "level", "(I)I"⟩
set_option maxRecDepth 100000 in
theorem cw_X_level : Cond.code y_X_level b_X_level 2 (some .int) ∈ TB := tb_at 220 rfl rfl
abbrev b_L_cell : ByteArray := method_2_code
def y_L_cell : MethodName := ⟨R_L, "cell", "([II)I"⟩
set_option maxRecDepth 100000 in
theorem cw_L_cell : Cond.code y_L_cell b_L_cell 2 (some .int) ∈ TB := tb_at 223 rfl rfl
abbrev b_L_request : ByteArray := method_3_code
def y_L_request : MethodName := ⟨R_L, "request", "(LStrongBus;IIII[J)I"⟩
abbrev b_X_request : ByteArray := prog_1_method_2_code
def y_X_request : MethodName := ⟨R_X, "request", "(IIII)I"⟩
set_option maxRecDepth 100000 in
theorem cw_X_request : Cond.code y_X_request b_X_request 6 (some .int) ∈ TB := tb_at 232 rfl rfl
abbrev b_X_nodeOf : ByteArray := prog_1_method_11_code
def y_X_nodeOf : MethodName := ⟨R_X, "nodeOf", "(I)LStrongBus$Node;"⟩
set_option maxRecDepth 100000 in
theorem cw_X_nodeOf : Cond.code y_X_nodeOf b_X_nodeOf 2 (some (.object "StrongBus$Node")) ∈ TB := tb_at 236 rfl rfl
abbrev b_X_isEleven : ByteArray := prog_1_method_12_code
def y_X_isEleven : MethodName := ⟨R_X, "isEleven", "(I)Z"⟩
set_option maxRecDepth 100000 in
theorem cw_X_isEleven : Cond.code y_X_isEleven b_X_isEleven 1 (some .boolean) ∈ TB := tb_at 306 rfl rfl
abbrev b_Fr_isFull : ByteArray := prog_4_method_6_code
def y_Fr_isFull : MethodName := ⟨R_Fr, "isFull", "()Z"⟩
set_option maxRecDepth 100000 in
theorem cw_Fr_isFull : Cond.code y_Fr_isFull b_Fr_isFull 1 (some .boolean) ∈ TB := tb_at 311 rfl rfl
abbrev b_Fr_packed : ByteArray := prog_4_method_2_code
def y_Fr_packed : MethodName := ⟨R_Fr, "packed", "(III)I"⟩
set_option maxRecDepth 100000 in
theorem cw_Fr_packed : Cond.code y_Fr_packed b_Fr_packed 3 (some .int) ∈ TB := tb_at 330 rfl rfl
abbrev b_Fr_add : ByteArray := prog_4_method_7_code
def y_Fr_add : MethodName := ⟨R_Fr, "add", "(I)V"⟩
set_option maxRecDepth 100000 in
theorem cw_Fr_add : Cond.code y_Fr_add b_Fr_add 2 none ∈ TB := tb_at 334 rfl rfl
abbrev b_L_filter : ByteArray := method_4_code
def y_L_filter : MethodName := ⟨R_L, "filter", "(LStrongBus;III)I"⟩
abbrev b_X_filter : ByteArray := prog_1_method_3_code
def y_X_filter : MethodName := ⟨R_X, "filter", "(III)V"⟩
set_option maxRecDepth 100000 in
theorem cw_X_filter : Cond.code y_X_filter b_X_filter 5 none ∈ TB := tb_at 342 rfl rfl
abbrev b_L_disturb : ByteArray := method_5_code
def y_L_disturb : MethodName := ⟨R_L, "disturb", "(LStrongBus;II)I"⟩
abbrev b_X_disturb : ByteArray := prog_1_method_4_code
def y_X_disturb : MethodName := ⟨R_X, "disturb", "(II)V"⟩
set_option maxRecDepth 100000 in
theorem cw_X_disturb : Cond.code y_X_disturb b_X_disturb 4 none ∈ TB := tb_at 350 rfl rfl
abbrev b_X_checkBitTimes : ByteArray := prog_1_method_13_code
def y_X_checkBitTimes : MethodName := ⟨R_X, "checkBitTimes", "(I)V"⟩
set_option maxRecDepth 100000 in
theorem cw_X_checkBitTimes : Cond.code y_X_checkBitTimes b_X_checkBitTimes 1 none ∈ TB := tb_at 353 rfl rfl
abbrev b_Di_mark : ByteArray := prog_3_method_2_code
def y_Di_mark : MethodName := ⟨R_Di, "mark", "(I)V"⟩
set_option maxRecDepth 100000 in
theorem cw_Di_mark : Cond.code y_Di_mark b_Di_mark 2 none ∈ TB := tb_at 358 rfl rfl
abbrev b_Ma_floorMod : ByteArray := prog_12_method_50_code
def y_Ma_floorMod : MethodName := ⟨R_Ma, "floorMod", "(II)I"⟩
set_option maxRecDepth 100000 in
theorem cw_Ma_floorMod : Cond.code y_Ma_floorMod b_Ma_floorMod 3 (some .int) ∈ TB := tb_at 361 rfl rfl
abbrev b_L_pass : ByteArray := method_6_code
def y_L_pass : MethodName := ⟨R_L, "pass", "(LStrongBus;I[J)I"⟩
abbrev b_X_pass : ByteArray := prog_1_method_5_code
def y_X_pass : MethodName := ⟨R_X, "pass", "(I)I"⟩
set_option maxRecDepth 100000 in
theorem cw_X_pass : Cond.code y_X_pass b_X_pass 4 (some .int) ∈ TB := tb_at 368 rfl rfl
abbrev b_X_passOne : ByteArray := prog_1_method_14_code
def y_X_passOne : MethodName := ⟨R_X, "passOne", "()V"⟩
set_option maxRecDepth 100000 in
theorem cw_X_passOne : Cond.code y_X_passOne b_X_passOne 4 none ∈ TB := tb_at 372 rfl rfl
abbrev b_No_drive : ByteArray := prog_5_method_3_code
def y_No_drive : MethodName := ⟨R_No, "drive", "()I"⟩
set_option maxRecDepth 100000 in
theorem cw_No_drive : Cond.code y_No_drive b_No_drive 1 (some .int) ∈ TB := tb_at 376 rfl rfl
abbrev b_No_beginToSend : ByteArray := prog_5_method_7_code
def y_No_beginToSend : MethodName := ⟨R_No, "beginToSend", "()V"⟩
set_option maxRecDepth 100000 in
theorem cw_No_beginToSend : Cond.code y_No_beginToSend b_No_beginToSend 1 none ∈ TB := tb_at 380 rfl rfl
abbrev b_Fr_placeOfLeastId : ByteArray := prog_4_method_9_code
def y_Fr_placeOfLeastId : MethodName := ⟨R_Fr, "placeOfLeastId", "()I"⟩
set_option maxRecDepth 100000 in
theorem cw_Fr_placeOfLeastId : Cond.code y_Fr_placeOfLeastId b_Fr_placeOfLeastId 3 (some .int) ∈ TB := tb_at 384 rfl rfl
abbrev b_Fr_idOf : ByteArray := prog_4_method_3_code
def y_Fr_idOf : MethodName := ⟨R_Fr, "idOf", "(I)I"⟩
set_option maxRecDepth 100000 in
theorem cw_Fr_idOf : Cond.code y_Fr_idOf b_Fr_idOf 1 (some .int) ∈ TB := tb_at 387 rfl rfl
abbrev b_Fr_at : ByteArray := prog_4_method_8_code
def y_Fr_at : MethodName := ⟨R_Fr, "at", "(I)I"⟩
set_option maxRecDepth 100000 in
theorem cw_Fr_at : Cond.code y_Fr_at b_Fr_at 2 (some .int) ∈ TB := tb_at 391 rfl rfl
abbrev b_Co_write : ByteArray := prog_2_method_4_code
def y_Co_write : MethodName := ⟨R_Co, "write", "(I)V"⟩
set_option maxRecDepth 100000 in
theorem cw_Co_write : Cond.code y_Co_write b_Co_write 5 none ∈ TB := tb_at 395 rfl rfl
abbrev b_Fr_dataOf : ByteArray := prog_4_method_5_code
def y_Fr_dataOf : MethodName := ⟨R_Fr, "dataOf", "(I)I"⟩
set_option maxRecDepth 100000 in
theorem cw_Fr_dataOf : Cond.code y_Fr_dataOf b_Fr_dataOf 1 (some .int) ∈ TB := tb_at 398 rfl rfl
abbrev b_Fr_bytesOf : ByteArray := prog_4_method_4_code
def y_Fr_bytesOf : MethodName := ⟨R_Fr, "bytesOf", "(I)I"⟩
set_option maxRecDepth 100000 in
theorem cw_Fr_bytesOf : Cond.code y_Fr_bytesOf b_Fr_bytesOf 1 (some .int) ∈ TB := tb_at 401 rfl rfl
abbrev b_Co_append : ByteArray := prog_2_method_5_code
def y_Co_append : MethodName := ⟨R_Co, "append", "(II)V"⟩
set_option maxRecDepth 100000 in
theorem cw_Co_append : Cond.code y_Co_append b_Co_append 5 none ∈ TB := tb_at 405 rfl rfl
abbrev b_Co_registerBehind : ByteArray := prog_2_method_3_code
def y_Co_registerBehind : MethodName := ⟨R_Co, "registerBehind", "(II)I"⟩
set_option maxRecDepth 100000 in
theorem cw_Co_registerBehind : Cond.code y_Co_registerBehind b_Co_registerBehind 3 (some .int) ∈ TB := tb_at 408 rfl rfl
abbrev b_Re_begin : ByteArray := prog_6_method_2_code
def y_Re_begin : MethodName := ⟨R_Re, "begin", "()V"⟩
set_option maxRecDepth 100000 in
theorem cw_Re_begin : Cond.code y_Re_begin b_Re_begin 1 none ∈ TB := tb_at 413 rfl rfl
abbrev b_No_levelToDrive : ByteArray := prog_5_method_4_code
def y_No_levelToDrive : MethodName := ⟨R_No, "levelToDrive", "()I"⟩
set_option maxRecDepth 100000 in
theorem cw_No_levelToDrive : Cond.code y_No_levelToDrive b_No_levelToDrive 1 (some .int) ∈ TB := tb_at 417 rfl rfl
abbrev b_No_nextBit : ByteArray := prog_5_method_5_code
def y_No_nextBit : MethodName := ⟨R_No, "nextBit", "()I"⟩
set_option maxRecDepth 100000 in
theorem cw_No_nextBit : Cond.code y_No_nextBit b_No_nextBit 1 (some .int) ∈ TB := tb_at 421 rfl rfl
abbrev b_Re_padIsDue : ByteArray := prog_6_method_3_code
def y_Re_padIsDue : MethodName := ⟨R_Re, "padIsDue", "()Z"⟩
set_option maxRecDepth 100000 in
theorem cw_Re_padIsDue : Cond.code y_Re_padIsDue b_Re_padIsDue 1 (some .boolean) ∈ TB := tb_at 425 rfl rfl
abbrev b_Co_bitAt : ByteArray := prog_2_method_6_code
def y_Co_bitAt : MethodName := ⟨R_Co, "bitAt", "(I)I"⟩
set_option maxRecDepth 100000 in
theorem cw_Co_bitAt : Cond.code y_Co_bitAt b_Co_bitAt 2 (some .int) ∈ TB := tb_at 429 rfl rfl
abbrev b_Re_isAtAnswer : ByteArray := prog_6_method_6_code
def y_Re_isAtAnswer : MethodName := ⟨R_Re, "isAtAnswer", "()Z"⟩
set_option maxRecDepth 100000 in
theorem cw_Re_isAtAnswer : Cond.code y_Re_isAtAnswer b_Re_isAtAnswer 1 (some .boolean) ∈ TB := tb_at 433 rfl rfl
abbrev b_Re_isBehindCore : ByteArray := prog_6_method_4_code
def y_Re_isBehindCore : MethodName := ⟨R_Re, "isBehindCore", "()Z"⟩
set_option maxRecDepth 100000 in
theorem cw_Re_isBehindCore : Cond.code y_Re_isBehindCore b_Re_isBehindCore 1 (some .boolean) ∈ TB := tb_at 437 rfl rfl
abbrev b_Re_isRight : ByteArray := prog_6_method_8_code
def y_Re_isRight : MethodName := ⟨R_Re, "isRight", "()Z"⟩
set_option maxRecDepth 100000 in
theorem cw_Re_isRight : Cond.code y_Re_isRight b_Re_isRight 1 (some .boolean) ∈ TB := tb_at 442 rfl rfl
abbrev b_No_see : ByteArray := prog_5_method_6_code
def y_No_see : MethodName := ⟨R_No, "see", "(I)I"⟩
set_option maxRecDepth 100000 in
theorem cw_No_see : Cond.code y_No_see b_No_see 3 (some .int) ∈ TB := tb_at 446 rfl rfl
abbrev b_Di_next : ByteArray := prog_3_method_3_code
def y_Di_next : MethodName := ⟨R_Di, "next", "()Z"⟩
set_option maxRecDepth 100000 in
theorem cw_Di_next : Cond.code y_Di_next b_Di_next 2 (some .boolean) ∈ TB := tb_at 450 rfl rfl
abbrev b_No_seeSending : ByteArray := prog_5_method_9_code
def y_No_seeSending : MethodName := ⟨R_No, "seeSending", "(I)I"⟩
set_option maxRecDepth 100000 in
theorem cw_No_seeSending : Cond.code y_No_seeSending b_No_seeSending 2 (some .int) ∈ TB := tb_at 454 rfl rfl
abbrev b_No_err : ByteArray := prog_5_method_14_code
def y_No_err : MethodName := ⟨R_No, "err", "(I)I"⟩
set_option maxRecDepth 100000 in
theorem cw_No_err : Cond.code y_No_err b_No_err 3 (some .int) ∈ TB := tb_at 458 rfl rfl
abbrev b_No_isPassive : ByteArray := prog_5_method_2_code
def y_No_isPassive : MethodName := ⟨R_No, "isPassive", "()Z"⟩
set_option maxRecDepth 100000 in
theorem cw_No_isPassive : Cond.code y_No_isPassive b_No_isPassive 1 (some .boolean) ∈ TB := tb_at 462 rfl rfl
abbrev b_No_beginFlag : ByteArray := prog_5_method_16_code
def y_No_beginFlag : MethodName := ⟨R_No, "beginFlag", "(Z)V"⟩
set_option maxRecDepth 100000 in
theorem cw_No_beginFlag : Cond.code y_No_beginFlag b_No_beginFlag 2 none ∈ TB := tb_at 466 rfl rfl
abbrev b_No_goOffIfTooMany : ByteArray := prog_5_method_23_code
def y_No_goOffIfTooMany : MethodName := ⟨R_No, "goOffIfTooMany", "()V"⟩
set_option maxRecDepth 100000 in
theorem cw_No_goOffIfTooMany : Cond.code y_No_goOffIfTooMany b_No_goOffIfTooMany 1 none ∈ TB := tb_at 470 rfl rfl
abbrev b_Re_isInId : ByteArray := prog_6_method_5_code
def y_Re_isInId : MethodName := ⟨R_Re, "isInId", "()Z"⟩
set_option maxRecDepth 100000 in
theorem cw_Re_isInId : Cond.code y_Re_isInId b_Re_isInId 1 (some .boolean) ∈ TB := tb_at 474 rfl rfl
abbrev b_Re_read : ByteArray := prog_6_method_10_code
def y_Re_read : MethodName := ⟨R_Re, "read", "(I)V"⟩
set_option maxRecDepth 100000 in
theorem cw_Re_read : Cond.code y_Re_read b_Re_read 2 none ∈ TB := tb_at 478 rfl rfl
abbrev b_Re_readCore : ByteArray := prog_6_method_11_code
def y_Re_readCore : MethodName := ⟨R_Re, "readCore", "(I)V"⟩
set_option maxRecDepth 100000 in
theorem cw_Re_readCore : Cond.code y_Re_readCore b_Re_readCore 2 none ∈ TB := tb_at 482 rfl rfl
abbrev b_Re_readData : ByteArray := prog_6_method_12_code
def y_Re_readData : MethodName := ⟨R_Re, "readData", "(I)V"⟩
set_option maxRecDepth 100000 in
theorem cw_Re_readData : Cond.code y_Re_readData b_Re_readData 4 none ∈ TB := tb_at 487 rfl rfl
abbrev b_Co_lengthFor : ByteArray := prog_2_method_2_code
def y_Co_lengthFor : MethodName := ⟨R_Co, "lengthFor", "(I)I"⟩
set_option maxRecDepth 100000 in
theorem cw_Co_lengthFor : Cond.code y_Co_lengthFor b_Co_lengthFor 1 (some .int) ∈ TB := tb_at 490 rfl rfl
abbrev b_Re_isAtEnd : ByteArray := prog_6_method_7_code
def y_Re_isAtEnd : MethodName := ⟨R_Re, "isAtEnd", "()Z"⟩
set_option maxRecDepth 100000 in
theorem cw_Re_isAtEnd : Cond.code y_Re_isAtEnd b_Re_isAtEnd 1 (some .boolean) ∈ TB := tb_at 494 rfl rfl
abbrev b_No_endSending : ByteArray := prog_5_method_10_code
def y_No_endSending : MethodName := ⟨R_No, "endSending", "()I"⟩
set_option maxRecDepth 100000 in
theorem cw_No_endSending : Cond.code y_No_endSending b_No_endSending 1 (some .int) ∈ TB := tb_at 498 rfl rfl
abbrev b_Fr_remove : ByteArray := prog_4_method_10_code
def y_Fr_remove : MethodName := ⟨R_Fr, "remove", "(I)I"⟩
set_option maxRecDepth 100000 in
theorem cw_Fr_remove : Cond.code y_Fr_remove b_Fr_remove 4 (some .int) ∈ TB := tb_at 502 rfl rfl
abbrev b_No_beginPause : ByteArray := prog_5_method_20_code
def y_No_beginPause : MethodName := ⟨R_No, "beginPause", "()V"⟩
set_option maxRecDepth 100000 in
theorem cw_No_beginPause : Cond.code y_No_beginPause b_No_beginPause 1 none ∈ TB := tb_at 507 rfl rfl
abbrev b_No_seeHearing : ByteArray := prog_5_method_11_code
def y_No_seeHearing : MethodName := ⟨R_No, "seeHearing", "(I)I"⟩
set_option maxRecDepth 100000 in
theorem cw_No_seeHearing : Cond.code y_No_seeHearing b_No_seeHearing 3 (some .int) ∈ TB := tb_at 511 rfl rfl
abbrev b_Re_errorOf : ByteArray := prog_6_method_13_code
def y_Re_errorOf : MethodName := ⟨R_Re, "errorOf", "(I)I"⟩
set_option maxRecDepth 100000 in
theorem cw_Re_errorOf : Cond.code y_Re_errorOf b_Re_errorOf 4 (some .int) ∈ TB := tb_at 515 rfl rfl
abbrev b_Re_errorBehindCore : ByteArray := prog_6_method_14_code
def y_Re_errorBehindCore : MethodName := ⟨R_Re, "errorBehindCore", "(II)I"⟩
set_option maxRecDepth 100000 in
theorem cw_Re_errorBehindCore : Cond.code y_Re_errorBehindCore b_Re_errorBehindCore 4 (some .int) ∈ TB := tb_at 519 rfl rfl
abbrev b_No_endHearing : ByteArray := prog_5_method_12_code
def y_No_endHearing : MethodName := ⟨R_No, "endHearing", "(I)I"⟩
set_option maxRecDepth 100000 in
theorem cw_No_endHearing : Cond.code y_No_endHearing b_No_endHearing 2 (some .int) ∈ TB := tb_at 524 rfl rfl
abbrev b_Re_frame : ByteArray := prog_6_method_9_code
def y_Re_frame : MethodName := ⟨R_Re, "frame", "()I"⟩
set_option maxRecDepth 100000 in
theorem cw_Re_frame : Cond.code y_Re_frame b_Re_frame 1 (some .int) ∈ TB := tb_at 529 rfl rfl
abbrev b_No_keep : ByteArray := prog_5_method_13_code
def y_No_keep : MethodName := ⟨R_No, "keep", "(I)V"⟩
set_option maxRecDepth 100000 in
theorem cw_No_keep : Cond.code y_No_keep b_No_keep 2 none ∈ TB := tb_at 534 rfl rfl
abbrev b_No_overload : ByteArray := prog_5_method_15_code
def y_No_overload : MethodName := ⟨R_No, "overload", "()I"⟩
set_option maxRecDepth 100000 in
theorem cw_No_overload : Cond.code y_No_overload b_No_overload 1 (some .int) ∈ TB := tb_at 540 rfl rfl
abbrev b_No_seeInFlag : ByteArray := prog_5_method_17_code
def y_No_seeInFlag : MethodName := ⟨R_No, "seeInFlag", "(I)I"⟩
set_option maxRecDepth 100000 in
theorem cw_No_seeInFlag : Cond.code y_No_seeInFlag b_No_seeInFlag 2 (some .int) ∈ TB := tb_at 544 rfl rfl
abbrev b_No_countHeavily : ByteArray := prog_5_method_18_code
def y_No_countHeavily : MethodName := ⟨R_No, "countHeavily", "()V"⟩
set_option maxRecDepth 100000 in
theorem cw_No_countHeavily : Cond.code y_No_countHeavily b_No_countHeavily 1 none ∈ TB := tb_at 548 rfl rfl
abbrev b_No_seeAfter : ByteArray := prog_5_method_19_code
def y_No_seeAfter : MethodName := ⟨R_No, "seeAfter", "(I)I"⟩
set_option maxRecDepth 100000 in
theorem cw_No_seeAfter : Cond.code y_No_seeAfter b_No_seeAfter 2 (some .int) ∈ TB := tb_at 552 rfl rfl
abbrev b_No_seeInPause : ByteArray := prog_5_method_21_code
def y_No_seeInPause : MethodName := ⟨R_No, "seeInPause", "(I)I"⟩
set_option maxRecDepth 100000 in
theorem cw_No_seeInPause : Cond.code y_No_seeInPause b_No_seeInPause 2 (some .int) ∈ TB := tb_at 556 rfl rfl
abbrev b_No_beginToHear : ByteArray := prog_5_method_8_code
def y_No_beginToHear : MethodName := ⟨R_No, "beginToHear", "()I"⟩
set_option maxRecDepth 100000 in
theorem cw_No_beginToHear : Cond.code y_No_beginToHear b_No_beginToHear 1 (some .int) ∈ TB := tb_at 560 rfl rfl
abbrev b_No_seeSuspended : ByteArray := prog_5_method_22_code
def y_No_seeSuspended : MethodName := ⟨R_No, "seeSuspended", "(I)I"⟩
set_option maxRecDepth 100000 in
theorem cw_No_seeSuspended : Cond.code y_No_seeSuspended b_No_seeSuspended 2 (some .int) ∈ TB := tb_at 564 rfl rfl
abbrev b_No_seeOff : ByteArray := prog_5_method_24_code
def y_No_seeOff : MethodName := ⟨R_No, "seeOff", "(I)I"⟩
set_option maxRecDepth 100000 in
theorem cw_No_seeOff : Cond.code y_No_seeOff b_No_seeOff 2 (some .int) ∈ TB := tb_at 568 rfl rfl
abbrev b_L_state : ByteArray := method_7_code
def y_L_state : MethodName := ⟨R_L, "state", "(LStrongBus;I[J)I"⟩
abbrev b_X_state : ByteArray := prog_1_method_7_code
def y_X_state : MethodName := ⟨R_X, "state", "(I)I"⟩
set_option maxRecDepth 100000 in
theorem cw_X_state : Cond.code y_X_state b_X_state 2 (some .int) ∈ TB := tb_at 576 rfl rfl
abbrev b_L_count : ByteArray := method_8_code
def y_L_count : MethodName := ⟨R_L, "count", "(LStrongBus;II[J)I"⟩
abbrev b_X_count : ByteArray := prog_1_method_8_code
def y_X_count : MethodName := ⟨R_X, "count", "(II)I"⟩
set_option maxRecDepth 100000 in
theorem cw_X_count : Cond.code y_X_count b_X_count 4 (some .int) ∈ TB := tb_at 583 rfl rfl
abbrev b_L_take : ByteArray := method_9_code
def y_L_take : MethodName := ⟨R_L, "take", "(LStrongBus;I[J)I"⟩
abbrev b_X_take : ByteArray := prog_1_method_9_code
def y_X_take : MethodName := ⟨R_X, "take", "(I)I"⟩
set_option maxRecDepth 100000 in
theorem cw_X_take : Cond.code y_X_take b_X_take 3 (some .int) ∈ TB := tb_at 591 rfl rfl
abbrev b_L_total : ByteArray := method_10_code
def y_L_total : MethodName := ⟨R_L, "total", "(LStrongBus;I[J)I"⟩
abbrev b_X_total : ByteArray := prog_1_method_10_code
def y_X_total : MethodName := ⟨R_X, "total", "(I)I"⟩
set_option maxRecDepth 100000 in
theorem cw_X_total : Cond.code y_X_total b_X_total 2 (some .int) ∈ TB := tb_at 600 rfl rfl
abbrev b_M_init : ByteArray := prog_8_method_1_code
def y_M_init : MethodName := ⟨R_M, "<init>", "(I)V"⟩
set_option maxRecDepth 100000 in
theorem cw_M_init : Cond.code y_M_init b_M_init 2 none ∈ TB := tb_at 606 rfl rfl
abbrev b_M_thrown : ByteArray := prog_8_method_2_code
def y_M_thrown : MethodName := ⟨R_M, "thrown", "()I"⟩
set_option maxRecDepth 100000 in
theorem cw_M_thrown : Cond.code y_M_thrown b_M_thrown 1 (some .int) ∈ TB := tb_at 708 rfl rfl
abbrev b_M_request : ByteArray := prog_8_method_4_code
def y_M_request : MethodName := ⟨R_M, "request", "(IIII)I"⟩
set_option maxRecDepth 100000 in
theorem cw_M_request : Cond.code y_M_request b_M_request 7 (some .int) ∈ TB := tb_at 712 rfl rfl
abbrev b_M_noNode : ByteArray := prog_8_method_3_code
def y_M_noNode : MethodName := ⟨R_M, "noNode", "(I)Z"⟩
set_option maxRecDepth 100000 in
theorem cw_M_noNode : Cond.code y_M_noNode b_M_noNode 2 (some .boolean) ∈ TB := tb_at 716 rfl rfl
abbrev b_M_filter : ByteArray := prog_8_method_5_code
def y_M_filter : MethodName := ⟨R_M, "filter", "(III)V"⟩
set_option maxRecDepth 100000 in
theorem cw_M_filter : Cond.code y_M_filter b_M_filter 4 none ∈ TB := tb_at 720 rfl rfl
abbrev b_M_disturb : ByteArray := prog_8_method_6_code
def y_M_disturb : MethodName := ⟨R_M, "disturb", "(II)V"⟩
set_option maxRecDepth 100000 in
theorem cw_M_disturb : Cond.code y_M_disturb b_M_disturb 3 none ∈ TB := tb_at 724 rfl rfl
abbrev b_M_pass : ByteArray := prog_8_method_31_code
def y_M_pass : MethodName := ⟨R_M, "pass", "(I)I"⟩
set_option maxRecDepth 100000 in
theorem cw_M_pass : Cond.code y_M_pass b_M_pass 4 (some .int) ∈ TB := tb_at 728 rfl rfl
abbrev b_M_bitTime : ByteArray := prog_8_method_30_code
def y_M_bitTime : MethodName := ⟨R_M, "bitTime", "()V"⟩
set_option maxRecDepth 100000 in
theorem cw_M_bitTime : Cond.code y_M_bitTime b_M_bitTime 6 none ∈ TB := tb_at 732 rfl rfl
abbrev b_M_begin : ByteArray := prog_8_method_8_code
def y_M_begin : MethodName := ⟨R_M, "begin", "(I)V"⟩
set_option maxRecDepth 100000 in
theorem cw_M_begin : Cond.code y_M_begin b_M_begin 4 none ∈ TB := tb_at 736 rfl rfl
abbrev b_M_open : ByteArray := prog_8_method_7_code
def y_M_open : MethodName := ⟨R_M, "open", "(II)V"⟩
set_option maxRecDepth 100000 in
theorem cw_M_open : Cond.code y_M_open b_M_open 3 none ∈ TB := tb_at 740 rfl rfl
abbrev b_M_driven : ByteArray := prog_8_method_11_code
def y_M_driven : MethodName := ⟨R_M, "driven", "(I)I"⟩
set_option maxRecDepth 100000 in
theorem cw_M_driven : Cond.code y_M_driven b_M_driven 2 (some .int) ∈ TB := tb_at 744 rfl rfl
abbrev b_M_coreBit : ByteArray := prog_8_method_10_code
def y_M_coreBit : MethodName := ⟨R_M, "coreBit", "(I)I"⟩
set_option maxRecDepth 100000 in
theorem cw_M_coreBit : Cond.code y_M_coreBit b_M_coreBit 5 (some .int) ∈ TB := tb_at 748 rfl rfl
abbrev b_M_see : ByteArray := prog_8_method_29_code
def y_M_see : MethodName := ⟨R_M, "see", "(II)V"⟩
set_option maxRecDepth 100000 in
theorem cw_M_see : Cond.code y_M_see b_M_see 3 none ∈ TB := tb_at 752 rfl rfl
abbrev b_M_send : ByteArray := prog_8_method_22_code
def y_M_send : MethodName := ⟨R_M, "send", "(II)V"⟩
set_option maxRecDepth 100000 in
theorem cw_M_send : Cond.code y_M_send b_M_send 5 none ∈ TB := tb_at 756 rfl rfl
abbrev b_M_hear : ByteArray := prog_8_method_23_code
def y_M_hear : MethodName := ⟨R_M, "hear", "(II)V"⟩
set_option maxRecDepth 100000 in
theorem cw_M_hear : Cond.code y_M_hear b_M_hear 7 none ∈ TB := tb_at 760 rfl rfl
abbrev b_M_readCore : ByteArray := prog_8_method_12_code
def y_M_readCore : MethodName := ⟨R_M, "readCore", "(II)I"⟩
set_option maxRecDepth 100000 in
theorem cw_M_readCore : Cond.code y_M_readCore b_M_readCore 6 (some .int) ∈ TB := tb_at 764 rfl rfl
abbrev b_M_coreLength : ByteArray := prog_8_method_9_code
def y_M_coreLength : MethodName := ⟨R_M, "coreLength", "(I)I"⟩
set_option maxRecDepth 100000 in
theorem cw_M_coreLength : Cond.code y_M_coreLength b_M_coreLength 2 (some .int) ∈ TB := tb_at 768 rfl rfl
abbrev b_M_err : ByteArray := prog_8_method_16_code
def y_M_err : MethodName := ⟨R_M, "err", "(III)V"⟩
set_option maxRecDepth 100000 in
theorem cw_M_err : Cond.code y_M_err b_M_err 4 none ∈ TB := tb_at 772 rfl rfl
abbrev b_M_isPassive : ByteArray := prog_8_method_13_code
def y_M_isPassive : MethodName := ⟨R_M, "isPassive", "(I)Z"⟩
set_option maxRecDepth 100000 in
theorem cw_M_isPassive : Cond.code y_M_isPassive b_M_isPassive 2 (some .boolean) ∈ TB := tb_at 776 rfl rfl
abbrev b_M_goesOff : ByteArray := prog_8_method_14_code
def y_M_goesOff : MethodName := ⟨R_M, "goesOff", "(I)Z"⟩
set_option maxRecDepth 100000 in
theorem cw_M_goesOff : Cond.code y_M_goesOff b_M_goesOff 2 (some .boolean) ∈ TB := tb_at 780 rfl rfl
abbrev b_M_flag : ByteArray := prog_8_method_15_code
def y_M_flag : MethodName := ⟨R_M, "flag", "(IIZ)V"⟩
set_option maxRecDepth 100000 in
theorem cw_M_flag : Cond.code y_M_flag b_M_flag 4 none ∈ TB := tb_at 784 rfl rfl
abbrev b_M_heardFrame : ByteArray := prog_8_method_21_code
def y_M_heardFrame : MethodName := ⟨R_M, "heardFrame", "(II)V"⟩
set_option maxRecDepth 100000 in
theorem cw_M_heardFrame : Cond.code y_M_heardFrame b_M_heardFrame 3 none ∈ TB := tb_at 788 rfl rfl
abbrev b_M_overload : ByteArray := prog_8_method_17_code
def y_M_overload : MethodName := ⟨R_M, "overload", "(I)V"⟩
set_option maxRecDepth 100000 in
theorem cw_M_overload : Cond.code y_M_overload b_M_overload 2 none ∈ TB := tb_at 792 rfl rfl
abbrev b_M_rest : ByteArray := prog_8_method_19_code
def y_M_rest : MethodName := ⟨R_M, "rest", "(I)V"⟩
set_option maxRecDepth 100000 in
theorem cw_M_rest : Cond.code y_M_rest b_M_rest 2 none ∈ TB := tb_at 796 rfl rfl
abbrev b_M_sentFrame : ByteArray := prog_8_method_20_code
def y_M_sentFrame : MethodName := ⟨R_M, "sentFrame", "(I)V"⟩
set_option maxRecDepth 100000 in
theorem cw_M_sentFrame : Cond.code y_M_sentFrame b_M_sentFrame 3 none ∈ TB := tb_at 800 rfl rfl
abbrev b_M_flagging : ByteArray := prog_8_method_25_code
def y_M_flagging : MethodName := ⟨R_M, "flagging", "(II)V"⟩
set_option maxRecDepth 100000 in
theorem cw_M_flagging : Cond.code y_M_flagging b_M_flagging 3 none ∈ TB := tb_at 804 rfl rfl
abbrev b_M_eightMore : ByteArray := prog_8_method_18_code
def y_M_eightMore : MethodName := ⟨R_M, "eightMore", "(I)Z"⟩
set_option maxRecDepth 100000 in
theorem cw_M_eightMore : Cond.code y_M_eightMore b_M_eightMore 2 (some .boolean) ∈ TB := tb_at 808 rfl rfl
abbrev b_M_goAfter : ByteArray := prog_8_method_26_code
def y_M_goAfter : MethodName := ⟨R_M, "goAfter", "(II)V"⟩
set_option maxRecDepth 100000 in
theorem cw_M_goAfter : Cond.code y_M_goAfter b_M_goAfter 4 none ∈ TB := tb_at 812 rfl rfl
abbrev b_M_pausing : ByteArray := prog_8_method_27_code
def y_M_pausing : MethodName := ⟨R_M, "pausing", "(II)V"⟩
set_option maxRecDepth 100000 in
theorem cw_M_pausing : Cond.code y_M_pausing b_M_pausing 3 none ∈ TB := tb_at 816 rfl rfl
abbrev b_M_start : ByteArray := prog_8_method_24_code
def y_M_start : MethodName := ⟨R_M, "start", "(I)V"⟩
set_option maxRecDepth 100000 in
theorem cw_M_start : Cond.code y_M_start b_M_start 2 none ∈ TB := tb_at 820 rfl rfl
abbrev b_M_offTime : ByteArray := prog_8_method_28_code
def y_M_offTime : MethodName := ⟨R_M, "offTime", "(II)V"⟩
set_option maxRecDepth 100000 in
theorem cw_M_offTime : Cond.code y_M_offTime b_M_offTime 3 none ∈ TB := tb_at 824 rfl rfl
abbrev b_M_level : ByteArray := prog_8_method_32_code
def y_M_level : MethodName := ⟨R_M, "level", "(I)I"⟩
set_option maxRecDepth 100000 in
theorem cw_M_level : Cond.code y_M_level b_M_level 2 (some .int) ∈ TB := tb_at 828 rfl rfl
abbrev b_M_state : ByteArray := prog_8_method_33_code
def y_M_state : MethodName := ⟨R_M, "state", "(I)I"⟩
set_option maxRecDepth 100000 in
theorem cw_M_state : Cond.code y_M_state b_M_state 2 (some .int) ∈ TB := tb_at 832 rfl rfl
abbrev b_M_count : ByteArray := prog_8_method_34_code
def y_M_count : MethodName := ⟨R_M, "count", "(II)I"⟩
set_option maxRecDepth 100000 in
theorem cw_M_count : Cond.code y_M_count b_M_count 3 (some .int) ∈ TB := tb_at 836 rfl rfl
abbrev b_M_take : ByteArray := prog_8_method_35_code
def y_M_take : MethodName := ⟨R_M, "take", "(I)I"⟩
set_option maxRecDepth 100000 in
theorem cw_M_take : Cond.code y_M_take b_M_take 4 (some .int) ∈ TB := tb_at 840 rfl rfl
abbrev b_M_total : ByteArray := prog_8_method_36_code
def y_M_total : MethodName := ⟨R_M, "total", "(I)I"⟩
set_option maxRecDepth 100000 in
theorem cw_M_total : Cond.code y_M_total b_M_total 2 (some .int) ∈ TB := tb_at 844 rfl rfl
set_option maxRecDepth 20000 in
theorem f_X_9 : hq_F TB vwCl R_X 9 5 1 (.array .int) true := ⟨_, _, _, _, k_X, by decide, by decide +kernel, rfl, by decide +kernel, rfl⟩
set_option maxRecDepth 20000 in
theorem f_X_13 : hq_F TB vwCl R_X 13 5 2 (.array .int) true := ⟨_, _, _, _, k_X, by decide, by decide +kernel, rfl, by decide +kernel, rfl⟩
set_option maxRecDepth 20000 in
theorem Y_X_16 : hq_YS TB R_X 16 y_Ma_min b_Ma_min 2 (some .int) 2 := ⟨⟨cw_Ma_min, by decide +kernel, by decide +kernel, by decide +kernel, by decide +kernel, by decide +kernel⟩, by decide +kernel⟩
set_option maxRecDepth 20000 in
theorem Y_X_22 : hq_YS TB R_X 22 y_Ma_max b_Ma_max 2 (some .int) 2 := ⟨⟨cw_Ma_max, by decide +kernel, by decide +kernel, by decide +kernel, by decide +kernel, by decide +kernel⟩, by decide +kernel⟩
set_option maxRecDepth 20000 in
theorem f_X_27 : hq_F TB vwCl R_X 27 5 0 (.array (.object "StrongBus$Node")) true := ⟨_, _, _, _, k_X, by decide, by decide +kernel, rfl, by decide +kernel, rfl⟩
set_option maxRecDepth 20000 in
theorem Y_X_31 : hq_YN TB R_X 31 R_X y_No_init b_No_init 1 0 := ⟨cw_No_init, by decide +kernel, by decide +kernel, by decide +kernel, by decide +kernel, by decide +kernel, by decide +kernel, by decide +kernel⟩
set_option maxRecDepth 20000 in
theorem Y_X_32 : hq_YV TB R_X 32 y_X_nodeOf b_X_nodeOf 2 (some (.object "StrongBus$Node")) 1 := ⟨⟨cw_X_nodeOf, by decide +kernel, by decide +kernel, by decide +kernel, by decide +kernel, by decide +kernel⟩, by decide +kernel, by decide +kernel⟩
set_option maxRecDepth 20000 in
theorem Y_X_36 : hq_YS TB R_X 36 y_X_isEleven b_X_isEleven 1 (some .boolean) 1 := ⟨⟨cw_X_isEleven, by decide +kernel, by decide +kernel, by decide +kernel, by decide +kernel, by decide +kernel⟩, by decide +kernel⟩
set_option maxRecDepth 20000 in
theorem f_X_47 : hq_F TB vwCl R_X 47 3 5 (.int) false := ⟨_, _, _, _, k_No, by decide, by decide +kernel, rfl, by decide +kernel, rfl⟩
set_option maxRecDepth 20000 in
theorem f_X_51 : hq_F TB vwCl R_X 51 3 0 (.object "StrongBus$Frames") true := ⟨_, _, _, _, k_No, by decide, by decide +kernel, rfl, by decide +kernel, rfl⟩
set_option maxRecDepth 20000 in
theorem Y_X_55 : hq_YV TB R_X 55 y_Fr_isFull b_Fr_isFull 1 (some .boolean) 0 := ⟨⟨cw_Fr_isFull, by decide +kernel, by decide +kernel, by decide +kernel, by decide +kernel, by decide +kernel⟩, by decide +kernel, by decide +kernel⟩
set_option maxRecDepth 20000 in
theorem Y_X_66 : hq_YS TB R_X 66 y_Fr_packed b_Fr_packed 3 (some .int) 3 := ⟨⟨cw_Fr_packed, by decide +kernel, by decide +kernel, by decide +kernel, by decide +kernel, by decide +kernel⟩, by decide +kernel⟩
set_option maxRecDepth 20000 in
theorem Y_X_70 : hq_YV TB R_X 70 y_Fr_add b_Fr_add 2 none 1 := ⟨⟨cw_Fr_add, by decide +kernel, by decide +kernel, by decide +kernel, by decide +kernel, by decide +kernel⟩, by decide +kernel, by decide +kernel⟩
set_option maxRecDepth 20000 in
theorem f_X_74 : hq_F TB vwCl R_X 74 2 1 (.int) false := ⟨_, _, _, _, k_Fr, by decide, by decide +kernel, rfl, by decide +kernel, rfl⟩
set_option maxRecDepth 20000 in
theorem f_X_79 : hq_F TB vwCl R_X 79 3 10 (.int) false := ⟨_, _, _, _, k_No, by decide, by decide +kernel, rfl, by decide +kernel, rfl⟩
set_option maxRecDepth 20000 in
theorem f_X_82 : hq_F TB vwCl R_X 82 3 11 (.int) false := ⟨_, _, _, _, k_No, by decide, by decide +kernel, rfl, by decide +kernel, rfl⟩
set_option maxRecDepth 20000 in
theorem Y_X_85 : hq_YS TB R_X 85 y_X_checkBitTimes b_X_checkBitTimes 1 none 1 := ⟨⟨cw_X_checkBitTimes, by decide +kernel, by decide +kernel, by decide +kernel, by decide +kernel, by decide +kernel⟩, by decide +kernel⟩
set_option maxRecDepth 20000 in
theorem f_X_88 : hq_F TB vwCl R_X 88 3 2 (.object "StrongBus$Disturbances") true := ⟨_, _, _, _, k_No, by decide, by decide +kernel, rfl, by decide +kernel, rfl⟩
set_option maxRecDepth 20000 in
theorem Y_X_92 : hq_YV TB R_X 92 y_Di_mark b_Di_mark 2 none 1 := ⟨⟨cw_Di_mark, by decide +kernel, by decide +kernel, by decide +kernel, by decide +kernel, by decide +kernel⟩, by decide +kernel, by decide +kernel⟩
set_option maxRecDepth 20000 in
theorem Y_X_97 : hq_YV TB R_X 97 y_X_passOne b_X_passOne 4 none 0 := ⟨⟨cw_X_passOne, by decide +kernel, by decide +kernel, by decide +kernel, by decide +kernel, by decide +kernel⟩, by decide +kernel, by decide +kernel⟩
set_option maxRecDepth 20000 in
theorem f_X_100 : hq_F TB vwCl R_X 100 3 7 (.int) false := ⟨_, _, _, _, k_No, by decide, by decide +kernel, rfl, by decide +kernel, rfl⟩
set_option maxRecDepth 20000 in
theorem f_X_103 : hq_F TB vwCl R_X 103 3 8 (.int) false := ⟨_, _, _, _, k_No, by decide, by decide +kernel, rfl, by decide +kernel, rfl⟩
set_option maxRecDepth 20000 in
theorem f_X_106 : hq_F TB vwCl R_X 106 3 1 (.object "StrongBus$Frames") true := ⟨_, _, _, _, k_No, by decide, by decide +kernel, rfl, by decide +kernel, rfl⟩
set_option maxRecDepth 20000 in
theorem f_X_109 : hq_F TB vwCl R_X 109 3 9 (.int) false := ⟨_, _, _, _, k_No, by decide, by decide +kernel, rfl, by decide +kernel, rfl⟩
set_option maxRecDepth 20000 in
theorem Y_X_116 : hq_YV TB R_X 116 y_Fr_remove b_Fr_remove 4 (some .int) 1 := ⟨⟨cw_Fr_remove, by decide +kernel, by decide +kernel, by decide +kernel, by decide +kernel, by decide +kernel⟩, by decide +kernel, by decide +kernel⟩
set_option maxRecDepth 20000 in
theorem Y_X_126 : hq_YV TB R_X 126 y_No_drive b_No_drive 1 (some .int) 0 := ⟨⟨cw_No_drive, by decide +kernel, by decide +kernel, by decide +kernel, by decide +kernel, by decide +kernel⟩, by decide +kernel, by decide +kernel⟩
set_option maxRecDepth 20000 in
theorem Y_X_130 : hq_YV TB R_X 130 y_No_see b_No_see 3 (some .int) 1 := ⟨⟨cw_No_see, by decide +kernel, by decide +kernel, by decide +kernel, by decide +kernel, by decide +kernel⟩, by decide +kernel, by decide +kernel⟩
set_option maxRecDepth 20000 in
theorem Y_X_133 : hq_YS TB R_X 133 y_Ma_floorMod b_Ma_floorMod 3 (some .int) 2 := ⟨⟨cw_Ma_floorMod, by decide +kernel, by decide +kernel, by decide +kernel, by decide +kernel, by decide +kernel⟩, by decide +kernel⟩
set_option maxRecDepth 20000 in
theorem f_Co_11 : hq_F TB vwCl R_Co 11 0 0 (.array .int) true := ⟨_, _, _, _, k_Co, by decide, by decide +kernel, rfl, by decide +kernel, rfl⟩
set_option maxRecDepth 20000 in
theorem f_Co_15 : hq_F TB vwCl R_Co 15 0 1 (.int) false := ⟨_, _, _, _, k_Co, by decide, by decide +kernel, rfl, by decide +kernel, rfl⟩
set_option maxRecDepth 20000 in
theorem f_Co_19 : hq_F TB vwCl R_Co 19 0 2 (.int) false := ⟨_, _, _, _, k_Co, by decide, by decide +kernel, rfl, by decide +kernel, rfl⟩
set_option maxRecDepth 20000 in
theorem Y_Co_22 : hq_YS TB R_Co 22 y_Fr_dataOf b_Fr_dataOf 1 (some .int) 1 := ⟨⟨cw_Fr_dataOf, by decide +kernel, by decide +kernel, by decide +kernel, by decide +kernel, by decide +kernel⟩, by decide +kernel⟩
set_option maxRecDepth 20000 in
theorem Y_Co_28 : hq_YS TB R_Co 28 y_Fr_bytesOf b_Fr_bytesOf 1 (some .int) 1 := ⟨⟨cw_Fr_bytesOf, by decide +kernel, by decide +kernel, by decide +kernel, by decide +kernel, by decide +kernel⟩, by decide +kernel⟩
set_option maxRecDepth 20000 in
theorem Y_Co_31 : hq_YV TB R_Co 31 y_Co_append b_Co_append 5 none 2 := ⟨⟨cw_Co_append, by decide +kernel, by decide +kernel, by decide +kernel, by decide +kernel, by decide +kernel⟩, by decide +kernel, by decide +kernel⟩
set_option maxRecDepth 20000 in
theorem Y_Co_35 : hq_YS TB R_Co 35 y_Fr_idOf b_Fr_idOf 1 (some .int) 1 := ⟨⟨cw_Fr_idOf, by decide +kernel, by decide +kernel, by decide +kernel, by decide +kernel, by decide +kernel⟩, by decide +kernel⟩
set_option maxRecDepth 20000 in
theorem Y_Co_38 : hq_YS TB R_Co 38 y_Co_registerBehind b_Co_registerBehind 3 (some .int) 2 := ⟨⟨cw_Co_registerBehind, by decide +kernel, by decide +kernel, by decide +kernel, by decide +kernel, by decide +kernel⟩, by decide +kernel⟩
set_option maxRecDepth 20000 in
theorem f_Di_9 : hq_F TB vwCl R_Di 9 1 0 (.array .boolean) true := ⟨_, _, _, _, k_Di, by decide, by decide +kernel, rfl, by decide +kernel, rfl⟩
set_option maxRecDepth 20000 in
theorem f_Di_15 : hq_F TB vwCl R_Di 15 1 1 (.int) false := ⟨_, _, _, _, k_Di, by decide, by decide +kernel, rfl, by decide +kernel, rfl⟩
set_option maxRecDepth 20000 in
theorem Y_Di_19 : hq_YS TB R_Di 19 y_Ma_floorMod b_Ma_floorMod 3 (some .int) 2 := ⟨⟨cw_Ma_floorMod, by decide +kernel, by decide +kernel, by decide +kernel, by decide +kernel, by decide +kernel⟩, by decide +kernel⟩
set_option maxRecDepth 20000 in
theorem f_Fr_9 : hq_F TB vwCl R_Fr 9 2 0 (.array .int) true := ⟨_, _, _, _, k_Fr, by decide, by decide +kernel, rfl, by decide +kernel, rfl⟩
set_option maxRecDepth 20000 in
theorem f_Fr_15 : hq_F TB vwCl R_Fr 15 2 1 (.int) false := ⟨_, _, _, _, k_Fr, by decide, by decide +kernel, rfl, by decide +kernel, rfl⟩
set_option maxRecDepth 20000 in
theorem Y_Fr_19 : hq_YV TB R_Fr 19 y_Fr_isFull b_Fr_isFull 1 (some .boolean) 0 := ⟨⟨cw_Fr_isFull, by decide +kernel, by decide +kernel, by decide +kernel, by decide +kernel, by decide +kernel⟩, by decide +kernel, by decide +kernel⟩
set_option maxRecDepth 20000 in
theorem Y_Fr_23 : hq_YS TB R_Fr 23 y_Fr_idOf b_Fr_idOf 1 (some .int) 1 := ⟨⟨cw_Fr_idOf, by decide +kernel, by decide +kernel, by decide +kernel, by decide +kernel, by decide +kernel⟩, by decide +kernel⟩
set_option maxRecDepth 20000 in
theorem Y_Fr_27 : hq_YV TB R_Fr 27 y_Fr_at b_Fr_at 2 (some .int) 1 := ⟨⟨cw_Fr_at, by decide +kernel, by decide +kernel, by decide +kernel, by decide +kernel, by decide +kernel⟩, by decide +kernel, by decide +kernel⟩
set_option maxRecDepth 20000 in
theorem Y_No_11 : hq_YN TB R_No 11 R_X y_Fr_init b_Fr_init 1 0 := ⟨cw_Fr_init, by decide +kernel, by decide +kernel, by decide +kernel, by decide +kernel, by decide +kernel, by decide +kernel, by decide +kernel⟩
set_option maxRecDepth 20000 in
theorem f_No_12 : hq_F TB vwCl R_No 12 3 0 (.object "StrongBus$Frames") true := ⟨_, _, _, _, k_No, by decide, by decide +kernel, rfl, by decide +kernel, rfl⟩
set_option maxRecDepth 20000 in
theorem f_No_18 : hq_F TB vwCl R_No 18 3 1 (.object "StrongBus$Frames") true := ⟨_, _, _, _, k_No, by decide, by decide +kernel, rfl, by decide +kernel, rfl⟩
set_option maxRecDepth 20000 in
theorem Y_No_23 : hq_YN TB R_No 23 R_X y_Di_init b_Di_init 1 0 := ⟨cw_Di_init, by decide +kernel, by decide +kernel, by decide +kernel, by decide +kernel, by decide +kernel, by decide +kernel, by decide +kernel⟩
set_option maxRecDepth 20000 in
theorem f_No_24 : hq_F TB vwCl R_No 24 3 2 (.object "StrongBus$Disturbances") true := ⟨_, _, _, _, k_No, by decide, by decide +kernel, rfl, by decide +kernel, rfl⟩
set_option maxRecDepth 20000 in
theorem Y_No_30 : hq_YN TB R_No 30 R_X y_Co_init b_Co_init 1 0 := ⟨cw_Co_init, by decide +kernel, by decide +kernel, by decide +kernel, by decide +kernel, by decide +kernel, by decide +kernel, by decide +kernel⟩
set_option maxRecDepth 20000 in
theorem f_No_31 : hq_F TB vwCl R_No 31 3 3 (.object "StrongBus$Core") true := ⟨_, _, _, _, k_No, by decide, by decide +kernel, rfl, by decide +kernel, rfl⟩
set_option maxRecDepth 20000 in
theorem Y_No_37 : hq_YN TB R_No 37 R_X y_Re_init b_Re_init 1 0 := ⟨cw_Re_init, by decide +kernel, by decide +kernel, by decide +kernel, by decide +kernel, by decide +kernel, by decide +kernel, by decide +kernel⟩
set_option maxRecDepth 20000 in
theorem f_No_38 : hq_F TB vwCl R_No 38 3 4 (.object "StrongBus$Reader") true := ⟨_, _, _, _, k_No, by decide, by decide +kernel, rfl, by decide +kernel, rfl⟩
set_option maxRecDepth 20000 in
theorem f_No_42 : hq_F TB vwCl R_No 42 3 5 (.int) false := ⟨_, _, _, _, k_No, by decide, by decide +kernel, rfl, by decide +kernel, rfl⟩
set_option maxRecDepth 20000 in
theorem f_No_46 : hq_F TB vwCl R_No 46 3 6 (.int) false := ⟨_, _, _, _, k_No, by decide, by decide +kernel, rfl, by decide +kernel, rfl⟩
set_option maxRecDepth 20000 in
theorem f_No_49 : hq_F TB vwCl R_No 49 3 7 (.int) false := ⟨_, _, _, _, k_No, by decide, by decide +kernel, rfl, by decide +kernel, rfl⟩
set_option maxRecDepth 20000 in
theorem f_No_52 : hq_F TB vwCl R_No 52 3 8 (.int) false := ⟨_, _, _, _, k_No, by decide, by decide +kernel, rfl, by decide +kernel, rfl⟩
set_option maxRecDepth 20000 in
theorem f_No_55 : hq_F TB vwCl R_No 55 3 9 (.int) false := ⟨_, _, _, _, k_No, by decide, by decide +kernel, rfl, by decide +kernel, rfl⟩
set_option maxRecDepth 20000 in
theorem f_No_58 : hq_F TB vwCl R_No 58 3 10 (.int) false := ⟨_, _, _, _, k_No, by decide, by decide +kernel, rfl, by decide +kernel, rfl⟩
set_option maxRecDepth 20000 in
theorem f_No_61 : hq_F TB vwCl R_No 61 3 11 (.int) false := ⟨_, _, _, _, k_No, by decide, by decide +kernel, rfl, by decide +kernel, rfl⟩
set_option maxRecDepth 20000 in
theorem f_No_64 : hq_F TB vwCl R_No 64 3 12 (.int) false := ⟨_, _, _, _, k_No, by decide, by decide +kernel, rfl, by decide +kernel, rfl⟩
set_option maxRecDepth 20000 in
theorem f_No_67 : hq_F TB vwCl R_No 67 3 13 (.int) false := ⟨_, _, _, _, k_No, by decide, by decide +kernel, rfl, by decide +kernel, rfl⟩
set_option maxRecDepth 20000 in
theorem f_No_70 : hq_F TB vwCl R_No 70 3 14 (.boolean) false := ⟨_, _, _, _, k_No, by decide, by decide +kernel, rfl, by decide +kernel, rfl⟩
set_option maxRecDepth 20000 in
theorem f_No_74 : hq_F TB vwCl R_No 74 3 15 (.int) false := ⟨_, _, _, _, k_No, by decide, by decide +kernel, rfl, by decide +kernel, rfl⟩
set_option maxRecDepth 20000 in
theorem f_No_77 : hq_F TB vwCl R_No 77 3 16 (.int) false := ⟨_, _, _, _, k_No, by decide, by decide +kernel, rfl, by decide +kernel, rfl⟩
set_option maxRecDepth 20000 in
theorem f_No_80 : hq_F TB vwCl R_No 80 3 17 (.int) false := ⟨_, _, _, _, k_No, by decide, by decide +kernel, rfl, by decide +kernel, rfl⟩
set_option maxRecDepth 20000 in
theorem f_No_83 : hq_F TB vwCl R_No 83 2 1 (.int) false := ⟨_, _, _, _, k_Fr, by decide, by decide +kernel, rfl, by decide +kernel, rfl⟩
set_option maxRecDepth 20000 in
theorem Y_No_86 : hq_YV TB R_No 86 y_No_beginToSend b_No_beginToSend 1 none 0 := ⟨⟨cw_No_beginToSend, by decide +kernel, by decide +kernel, by decide +kernel, by decide +kernel, by decide +kernel⟩, by decide +kernel, by decide +kernel⟩
set_option maxRecDepth 20000 in
theorem Y_No_89 : hq_YV TB R_No 89 y_No_levelToDrive b_No_levelToDrive 1 (some .int) 0 := ⟨⟨cw_No_levelToDrive, by decide +kernel, by decide +kernel, by decide +kernel, by decide +kernel, by decide +kernel⟩, by decide +kernel, by decide +kernel⟩
set_option maxRecDepth 20000 in
theorem Y_No_93 : hq_YV TB R_No 93 y_No_nextBit b_No_nextBit 1 (some .int) 0 := ⟨⟨cw_No_nextBit, by decide +kernel, by decide +kernel, by decide +kernel, by decide +kernel, by decide +kernel⟩, by decide +kernel, by decide +kernel⟩
set_option maxRecDepth 20000 in
theorem Y_No_96 : hq_YV TB R_No 96 y_Re_isAtAnswer b_Re_isAtAnswer 1 (some .boolean) 0 := ⟨⟨cw_Re_isAtAnswer, by decide +kernel, by decide +kernel, by decide +kernel, by decide +kernel, by decide +kernel⟩, by decide +kernel, by decide +kernel⟩
set_option maxRecDepth 20000 in
theorem Y_No_100 : hq_YV TB R_No 100 y_Re_isRight b_Re_isRight 1 (some .boolean) 0 := ⟨⟨cw_Re_isRight, by decide +kernel, by decide +kernel, by decide +kernel, by decide +kernel, by decide +kernel⟩, by decide +kernel, by decide +kernel⟩
set_option maxRecDepth 20000 in
theorem Y_No_103 : hq_YV TB R_No 103 y_Re_padIsDue b_Re_padIsDue 1 (some .boolean) 0 := ⟨⟨cw_Re_padIsDue, by decide +kernel, by decide +kernel, by decide +kernel, by decide +kernel, by decide +kernel⟩, by decide +kernel, by decide +kernel⟩
set_option maxRecDepth 20000 in
theorem f_No_106 : hq_F TB vwCl R_No 106 4 2 (.int) false := ⟨_, _, _, _, k_Re, by decide, by decide +kernel, rfl, by decide +kernel, rfl⟩
set_option maxRecDepth 20000 in
theorem f_No_109 : hq_F TB vwCl R_No 109 4 0 (.int) false := ⟨_, _, _, _, k_Re, by decide, by decide +kernel, rfl, by decide +kernel, rfl⟩
set_option maxRecDepth 20000 in
theorem Y_No_112 : hq_YV TB R_No 112 y_Co_bitAt b_Co_bitAt 2 (some .int) 1 := ⟨⟨cw_Co_bitAt, by decide +kernel, by decide +kernel, by decide +kernel, by decide +kernel, by decide +kernel⟩, by decide +kernel, by decide +kernel⟩
set_option maxRecDepth 20000 in
theorem Y_No_116 : hq_YV TB R_No 116 y_Di_next b_Di_next 2 (some .boolean) 0 := ⟨⟨cw_Di_next, by decide +kernel, by decide +kernel, by decide +kernel, by decide +kernel, by decide +kernel⟩, by decide +kernel, by decide +kernel⟩
set_option maxRecDepth 20000 in
theorem Y_No_119 : hq_YV TB R_No 119 y_No_seeSending b_No_seeSending 2 (some .int) 1 := ⟨⟨cw_No_seeSending, by decide +kernel, by decide +kernel, by decide +kernel, by decide +kernel, by decide +kernel⟩, by decide +kernel, by decide +kernel⟩
set_option maxRecDepth 20000 in
theorem Y_No_122 : hq_YV TB R_No 122 y_No_seeHearing b_No_seeHearing 3 (some .int) 1 := ⟨⟨cw_No_seeHearing, by decide +kernel, by decide +kernel, by decide +kernel, by decide +kernel, by decide +kernel⟩, by decide +kernel, by decide +kernel⟩
set_option maxRecDepth 20000 in
theorem Y_No_125 : hq_YV TB R_No 125 y_No_seeInFlag b_No_seeInFlag 2 (some .int) 1 := ⟨⟨cw_No_seeInFlag, by decide +kernel, by decide +kernel, by decide +kernel, by decide +kernel, by decide +kernel⟩, by decide +kernel, by decide +kernel⟩
set_option maxRecDepth 20000 in
theorem Y_No_128 : hq_YV TB R_No 128 y_No_seeAfter b_No_seeAfter 2 (some .int) 1 := ⟨⟨cw_No_seeAfter, by decide +kernel, by decide +kernel, by decide +kernel, by decide +kernel, by decide +kernel⟩, by decide +kernel, by decide +kernel⟩
set_option maxRecDepth 20000 in
theorem Y_No_131 : hq_YV TB R_No 131 y_No_seeInPause b_No_seeInPause 2 (some .int) 1 := ⟨⟨cw_No_seeInPause, by decide +kernel, by decide +kernel, by decide +kernel, by decide +kernel, by decide +kernel⟩, by decide +kernel, by decide +kernel⟩
set_option maxRecDepth 20000 in
theorem Y_No_134 : hq_YV TB R_No 134 y_No_seeSuspended b_No_seeSuspended 2 (some .int) 1 := ⟨⟨cw_No_seeSuspended, by decide +kernel, by decide +kernel, by decide +kernel, by decide +kernel, by decide +kernel⟩, by decide +kernel, by decide +kernel⟩
set_option maxRecDepth 20000 in
theorem Y_No_137 : hq_YV TB R_No 137 y_No_seeOff b_No_seeOff 2 (some .int) 1 := ⟨⟨cw_No_seeOff, by decide +kernel, by decide +kernel, by decide +kernel, by decide +kernel, by decide +kernel⟩, by decide +kernel, by decide +kernel⟩
set_option maxRecDepth 20000 in
theorem Y_No_140 : hq_YV TB R_No 140 y_No_beginToHear b_No_beginToHear 1 (some .int) 0 := ⟨⟨cw_No_beginToHear, by decide +kernel, by decide +kernel, by decide +kernel, by decide +kernel, by decide +kernel⟩, by decide +kernel, by decide +kernel⟩
set_option maxRecDepth 20000 in
theorem Y_No_143 : hq_YV TB R_No 143 y_Fr_placeOfLeastId b_Fr_placeOfLeastId 3 (some .int) 0 := ⟨⟨cw_Fr_placeOfLeastId, by decide +kernel, by decide +kernel, by decide +kernel, by decide +kernel, by decide +kernel⟩, by decide +kernel, by decide +kernel⟩
set_option maxRecDepth 20000 in
theorem Y_No_146 : hq_YV TB R_No 146 y_Fr_at b_Fr_at 2 (some .int) 1 := ⟨⟨cw_Fr_at, by decide +kernel, by decide +kernel, by decide +kernel, by decide +kernel, by decide +kernel⟩, by decide +kernel, by decide +kernel⟩
set_option maxRecDepth 20000 in
theorem Y_No_149 : hq_YV TB R_No 149 y_Co_write b_Co_write 5 none 1 := ⟨⟨cw_Co_write, by decide +kernel, by decide +kernel, by decide +kernel, by decide +kernel, by decide +kernel⟩, by decide +kernel, by decide +kernel⟩
set_option maxRecDepth 20000 in
theorem Y_No_153 : hq_YV TB R_No 153 y_Re_begin b_Re_begin 1 none 0 := ⟨⟨cw_Re_begin, by decide +kernel, by decide +kernel, by decide +kernel, by decide +kernel, by decide +kernel⟩, by decide +kernel, by decide +kernel⟩
set_option maxRecDepth 20000 in
theorem Y_No_156 : hq_YV TB R_No 156 y_Re_read b_Re_read 2 none 1 := ⟨⟨cw_Re_read, by decide +kernel, by decide +kernel, by decide +kernel, by decide +kernel, by decide +kernel⟩, by decide +kernel, by decide +kernel⟩
set_option maxRecDepth 20000 in
theorem Y_No_159 : hq_YV TB R_No 159 y_No_err b_No_err 3 (some .int) 1 := ⟨⟨cw_No_err, by decide +kernel, by decide +kernel, by decide +kernel, by decide +kernel, by decide +kernel⟩, by decide +kernel, by decide +kernel⟩
set_option maxRecDepth 20000 in
theorem Y_No_162 : hq_YV TB R_No 162 y_Re_isInId b_Re_isInId 1 (some .boolean) 0 := ⟨⟨cw_Re_isInId, by decide +kernel, by decide +kernel, by decide +kernel, by decide +kernel, by decide +kernel⟩, by decide +kernel, by decide +kernel⟩
set_option maxRecDepth 20000 in
theorem Y_No_165 : hq_YV TB R_No 165 y_Re_isAtEnd b_Re_isAtEnd 1 (some .boolean) 0 := ⟨⟨cw_Re_isAtEnd, by decide +kernel, by decide +kernel, by decide +kernel, by decide +kernel, by decide +kernel⟩, by decide +kernel, by decide +kernel⟩
set_option maxRecDepth 20000 in
theorem Y_No_168 : hq_YV TB R_No 168 y_No_endSending b_No_endSending 1 (some .int) 0 := ⟨⟨cw_No_endSending, by decide +kernel, by decide +kernel, by decide +kernel, by decide +kernel, by decide +kernel⟩, by decide +kernel, by decide +kernel⟩
set_option maxRecDepth 20000 in
theorem Y_No_171 : hq_YV TB R_No 171 y_Fr_remove b_Fr_remove 4 (some .int) 1 := ⟨⟨cw_Fr_remove, by decide +kernel, by decide +kernel, by decide +kernel, by decide +kernel, by decide +kernel⟩, by decide +kernel, by decide +kernel⟩
set_option maxRecDepth 20000 in
theorem Y_No_174 : hq_YV TB R_No 174 y_No_beginPause b_No_beginPause 1 none 0 := ⟨⟨cw_No_beginPause, by decide +kernel, by decide +kernel, by decide +kernel, by decide +kernel, by decide +kernel⟩, by decide +kernel, by decide +kernel⟩
set_option maxRecDepth 20000 in
theorem Y_No_177 : hq_YV TB R_No 177 y_Re_errorOf b_Re_errorOf 4 (some .int) 1 := ⟨⟨cw_Re_errorOf, by decide +kernel, by decide +kernel, by decide +kernel, by decide +kernel, by decide +kernel⟩, by decide +kernel, by decide +kernel⟩
set_option maxRecDepth 20000 in
theorem Y_No_180 : hq_YV TB R_No 180 y_No_endHearing b_No_endHearing 2 (some .int) 1 := ⟨⟨cw_No_endHearing, by decide +kernel, by decide +kernel, by decide +kernel, by decide +kernel, by decide +kernel⟩, by decide +kernel, by decide +kernel⟩
set_option maxRecDepth 20000 in
theorem Y_No_183 : hq_YS TB R_No 183 y_Ma_min b_Ma_min 2 (some .int) 2 := ⟨⟨cw_Ma_min, by decide +kernel, by decide +kernel, by decide +kernel, by decide +kernel, by decide +kernel⟩, by decide +kernel⟩
set_option maxRecDepth 20000 in
theorem f_No_189 : hq_F TB vwCl R_No 189 4 5 (.int) false := ⟨_, _, _, _, k_Re, by decide, by decide +kernel, rfl, by decide +kernel, rfl⟩
set_option maxRecDepth 20000 in
theorem Y_No_192 : hq_YV TB R_No 192 y_Re_frame b_Re_frame 1 (some .int) 0 := ⟨⟨cw_Re_frame, by decide +kernel, by decide +kernel, by decide +kernel, by decide +kernel, by decide +kernel⟩, by decide +kernel, by decide +kernel⟩
set_option maxRecDepth 20000 in
theorem Y_No_195 : hq_YV TB R_No 195 y_No_keep b_No_keep 2 none 1 := ⟨⟨cw_No_keep, by decide +kernel, by decide +kernel, by decide +kernel, by decide +kernel, by decide +kernel⟩, by decide +kernel, by decide +kernel⟩
set_option maxRecDepth 20000 in
theorem Y_No_198 : hq_YV TB R_No 198 y_No_overload b_No_overload 1 (some .int) 0 := ⟨⟨cw_No_overload, by decide +kernel, by decide +kernel, by decide +kernel, by decide +kernel, by decide +kernel⟩, by decide +kernel, by decide +kernel⟩
set_option maxRecDepth 20000 in
theorem Y_No_201 : hq_YV TB R_No 201 y_Fr_isFull b_Fr_isFull 1 (some .boolean) 0 := ⟨⟨cw_Fr_isFull, by decide +kernel, by decide +kernel, by decide +kernel, by decide +kernel, by decide +kernel⟩, by decide +kernel, by decide +kernel⟩
set_option maxRecDepth 20000 in
theorem Y_No_204 : hq_YV TB R_No 204 y_Fr_add b_Fr_add 2 none 1 := ⟨⟨cw_Fr_add, by decide +kernel, by decide +kernel, by decide +kernel, by decide +kernel, by decide +kernel⟩, by decide +kernel, by decide +kernel⟩
set_option maxRecDepth 20000 in
theorem Y_No_207 : hq_YV TB R_No 207 y_No_isPassive b_No_isPassive 1 (some .boolean) 0 := ⟨⟨cw_No_isPassive, by decide +kernel, by decide +kernel, by decide +kernel, by decide +kernel, by decide +kernel⟩, by decide +kernel, by decide +kernel⟩
set_option maxRecDepth 20000 in
theorem Y_No_210 : hq_YV TB R_No 210 y_No_beginFlag b_No_beginFlag 2 none 1 := ⟨⟨cw_No_beginFlag, by decide +kernel, by decide +kernel, by decide +kernel, by decide +kernel, by decide +kernel⟩, by decide +kernel, by decide +kernel⟩
set_option maxRecDepth 20000 in
theorem Y_No_214 : hq_YV TB R_No 214 y_No_goOffIfTooMany b_No_goOffIfTooMany 1 none 0 := ⟨⟨cw_No_goOffIfTooMany, by decide +kernel, by decide +kernel, by decide +kernel, by decide +kernel, by decide +kernel⟩, by decide +kernel, by decide +kernel⟩
set_option maxRecDepth 20000 in
theorem Y_No_217 : hq_YV TB R_No 217 y_No_countHeavily b_No_countHeavily 1 none 0 := ⟨⟨cw_No_countHeavily, by decide +kernel, by decide +kernel, by decide +kernel, by decide +kernel, by decide +kernel⟩, by decide +kernel, by decide +kernel⟩
set_option maxRecDepth 20000 in
theorem f_Re_9 : hq_F TB vwCl R_Re 9 4 0 (.int) false := ⟨_, _, _, _, k_Re, by decide, by decide +kernel, rfl, by decide +kernel, rfl⟩
set_option maxRecDepth 20000 in
theorem f_Re_17 : hq_F TB vwCl R_Re 17 4 1 (.int) false := ⟨_, _, _, _, k_Re, by decide, by decide +kernel, rfl, by decide +kernel, rfl⟩
set_option maxRecDepth 20000 in
theorem f_Re_20 : hq_F TB vwCl R_Re 20 4 2 (.int) false := ⟨_, _, _, _, k_Re, by decide, by decide +kernel, rfl, by decide +kernel, rfl⟩
set_option maxRecDepth 20000 in
theorem f_Re_23 : hq_F TB vwCl R_Re 23 4 3 (.int) false := ⟨_, _, _, _, k_Re, by decide, by decide +kernel, rfl, by decide +kernel, rfl⟩
set_option maxRecDepth 20000 in
theorem f_Re_26 : hq_F TB vwCl R_Re 26 4 4 (.int) false := ⟨_, _, _, _, k_Re, by decide, by decide +kernel, rfl, by decide +kernel, rfl⟩
set_option maxRecDepth 20000 in
theorem f_Re_29 : hq_F TB vwCl R_Re 29 4 5 (.int) false := ⟨_, _, _, _, k_Re, by decide, by decide +kernel, rfl, by decide +kernel, rfl⟩
set_option maxRecDepth 20000 in
theorem f_Re_32 : hq_F TB vwCl R_Re 32 4 6 (.int) false := ⟨_, _, _, _, k_Re, by decide, by decide +kernel, rfl, by decide +kernel, rfl⟩
set_option maxRecDepth 20000 in
theorem f_Re_35 : hq_F TB vwCl R_Re 35 4 7 (.int) false := ⟨_, _, _, _, k_Re, by decide, by decide +kernel, rfl, by decide +kernel, rfl⟩
set_option maxRecDepth 20000 in
theorem Y_Re_38 : hq_YV TB R_Re 38 y_Re_padIsDue b_Re_padIsDue 1 (some .boolean) 0 := ⟨⟨cw_Re_padIsDue, by decide +kernel, by decide +kernel, by decide +kernel, by decide +kernel, by decide +kernel⟩, by decide +kernel, by decide +kernel⟩
set_option maxRecDepth 20000 in
theorem Y_Re_42 : hq_YV TB R_Re 42 y_Re_isBehindCore b_Re_isBehindCore 1 (some .boolean) 0 := ⟨⟨cw_Re_isBehindCore, by decide +kernel, by decide +kernel, by decide +kernel, by decide +kernel, by decide +kernel⟩, by decide +kernel, by decide +kernel⟩
set_option maxRecDepth 20000 in
theorem Y_Re_45 : hq_YS TB R_Re 45 y_Fr_packed b_Fr_packed 3 (some .int) 3 := ⟨⟨cw_Fr_packed, by decide +kernel, by decide +kernel, by decide +kernel, by decide +kernel, by decide +kernel⟩, by decide +kernel⟩
set_option maxRecDepth 20000 in
theorem Y_Re_51 : hq_YV TB R_Re 51 y_Re_readCore b_Re_readCore 2 none 1 := ⟨⟨cw_Re_readCore, by decide +kernel, by decide +kernel, by decide +kernel, by decide +kernel, by decide +kernel⟩, by decide +kernel, by decide +kernel⟩
set_option maxRecDepth 20000 in
theorem Y_Re_55 : hq_YS TB R_Re 55 y_Co_registerBehind b_Co_registerBehind 3 (some .int) 2 := ⟨⟨cw_Co_registerBehind, by decide +kernel, by decide +kernel, by decide +kernel, by decide +kernel, by decide +kernel⟩, by decide +kernel⟩
set_option maxRecDepth 20000 in
theorem Y_Re_59 : hq_YV TB R_Re 59 y_Re_readData b_Re_readData 4 none 1 := ⟨⟨cw_Re_readData, by decide +kernel, by decide +kernel, by decide +kernel, by decide +kernel, by decide +kernel⟩, by decide +kernel, by decide +kernel⟩
set_option maxRecDepth 20000 in
theorem Y_Re_62 : hq_YS TB R_Re 62 y_Co_lengthFor b_Co_lengthFor 1 (some .int) 1 := ⟨⟨cw_Co_lengthFor, by decide +kernel, by decide +kernel, by decide +kernel, by decide +kernel, by decide +kernel⟩, by decide +kernel⟩
set_option maxRecDepth 20000 in
theorem Y_Re_66 : hq_YV TB R_Re 66 y_Re_errorBehindCore b_Re_errorBehindCore 4 (some .int) 2 := ⟨⟨cw_Re_errorBehindCore, by decide +kernel, by decide +kernel, by decide +kernel, by decide +kernel, by decide +kernel⟩, by decide +kernel, by decide +kernel⟩
set_option maxRecDepth 20000 in
theorem Y_Re_69 : hq_YV TB R_Re 69 y_Re_isRight b_Re_isRight 1 (some .boolean) 0 := ⟨⟨cw_Re_isRight, by decide +kernel, by decide +kernel, by decide +kernel, by decide +kernel, by decide +kernel⟩, by decide +kernel, by decide +kernel⟩
set_option maxRecDepth 20000 in
theorem Y_L_7 : hq_YV TB R_L 7 y_X_request b_X_request 6 (some .int) 4 := ⟨⟨cw_X_request, by decide +kernel, by decide +kernel, by decide +kernel, by decide +kernel, by decide +kernel⟩, by decide +kernel, by decide +kernel⟩
set_option maxRecDepth 20000 in
theorem Y_L_17 : hq_YV TB R_L 17 y_X_filter b_X_filter 5 none 3 := ⟨⟨cw_X_filter, by decide +kernel, by decide +kernel, by decide +kernel, by decide +kernel, by decide +kernel⟩, by decide +kernel, by decide +kernel⟩
set_option maxRecDepth 20000 in
theorem Y_L_21 : hq_YV TB R_L 21 y_X_disturb b_X_disturb 4 none 2 := ⟨⟨cw_X_disturb, by decide +kernel, by decide +kernel, by decide +kernel, by decide +kernel, by decide +kernel⟩, by decide +kernel, by decide +kernel⟩
set_option maxRecDepth 20000 in
theorem Y_L_25 : hq_YV TB R_L 25 y_X_pass b_X_pass 4 (some .int) 1 := ⟨⟨cw_X_pass, by decide +kernel, by decide +kernel, by decide +kernel, by decide +kernel, by decide +kernel⟩, by decide +kernel, by decide +kernel⟩
set_option maxRecDepth 20000 in
theorem Y_L_29 : hq_YV TB R_L 29 y_X_state b_X_state 2 (some .int) 1 := ⟨⟨cw_X_state, by decide +kernel, by decide +kernel, by decide +kernel, by decide +kernel, by decide +kernel⟩, by decide +kernel, by decide +kernel⟩
set_option maxRecDepth 20000 in
theorem Y_L_32 : hq_YV TB R_L 32 y_X_count b_X_count 4 (some .int) 2 := ⟨⟨cw_X_count, by decide +kernel, by decide +kernel, by decide +kernel, by decide +kernel, by decide +kernel⟩, by decide +kernel, by decide +kernel⟩
set_option maxRecDepth 20000 in
theorem Y_L_36 : hq_YV TB R_L 36 y_X_take b_X_take 3 (some .int) 1 := ⟨⟨cw_X_take, by decide +kernel, by decide +kernel, by decide +kernel, by decide +kernel, by decide +kernel⟩, by decide +kernel, by decide +kernel⟩
set_option maxRecDepth 20000 in
theorem Y_L_39 : hq_YV TB R_L 39 y_X_total b_X_total 2 (some .int) 1 := ⟨⟨cw_X_total, by decide +kernel, by decide +kernel, by decide +kernel, by decide +kernel, by decide +kernel⟩, by decide +kernel, by decide +kernel⟩
set_option maxRecDepth 20000 in
theorem f_M_7 : hq_F TB vwCl R_M 7 6 2 (.array .int) false := ⟨_, _, _, _, k_M, by decide, by decide +kernel, rfl, by decide +kernel, rfl⟩
set_option maxRecDepth 20000 in
theorem f_M_13 : hq_F TB vwCl R_M 13 6 3 (.array .int) false := ⟨_, _, _, _, k_M, by decide, by decide +kernel, rfl, by decide +kernel, rfl⟩
set_option maxRecDepth 20000 in
theorem f_M_16 : hq_F TB vwCl R_M 16 6 4 (.array .boolean) false := ⟨_, _, _, _, k_M, by decide, by decide +kernel, rfl, by decide +kernel, rfl⟩
set_option maxRecDepth 20000 in
theorem f_M_20 : hq_F TB vwCl R_M 20 6 5 (.array .int) false := ⟨_, _, _, _, k_M, by decide, by decide +kernel, rfl, by decide +kernel, rfl⟩
set_option maxRecDepth 20000 in
theorem f_M_23 : hq_F TB vwCl R_M 23 6 6 (.array .int) false := ⟨_, _, _, _, k_M, by decide, by decide +kernel, rfl, by decide +kernel, rfl⟩
set_option maxRecDepth 20000 in
theorem f_M_26 : hq_F TB vwCl R_M 26 6 7 (.array .int) false := ⟨_, _, _, _, k_M, by decide, by decide +kernel, rfl, by decide +kernel, rfl⟩
set_option maxRecDepth 20000 in
theorem f_M_29 : hq_F TB vwCl R_M 29 6 8 (.array .int) false := ⟨_, _, _, _, k_M, by decide, by decide +kernel, rfl, by decide +kernel, rfl⟩
set_option maxRecDepth 20000 in
theorem f_M_32 : hq_F TB vwCl R_M 32 6 9 (.array .int) false := ⟨_, _, _, _, k_M, by decide, by decide +kernel, rfl, by decide +kernel, rfl⟩
set_option maxRecDepth 20000 in
theorem f_M_35 : hq_F TB vwCl R_M 35 6 10 (.array .int) false := ⟨_, _, _, _, k_M, by decide, by decide +kernel, rfl, by decide +kernel, rfl⟩
set_option maxRecDepth 20000 in
theorem f_M_38 : hq_F TB vwCl R_M 38 6 11 (.array .int) false := ⟨_, _, _, _, k_M, by decide, by decide +kernel, rfl, by decide +kernel, rfl⟩
set_option maxRecDepth 20000 in
theorem f_M_41 : hq_F TB vwCl R_M 41 6 12 (.array .int) false := ⟨_, _, _, _, k_M, by decide, by decide +kernel, rfl, by decide +kernel, rfl⟩
set_option maxRecDepth 20000 in
theorem f_M_44 : hq_F TB vwCl R_M 44 6 13 (.array .int) false := ⟨_, _, _, _, k_M, by decide, by decide +kernel, rfl, by decide +kernel, rfl⟩
set_option maxRecDepth 20000 in
theorem f_M_47 : hq_F TB vwCl R_M 47 6 14 (.array .int) false := ⟨_, _, _, _, k_M, by decide, by decide +kernel, rfl, by decide +kernel, rfl⟩
set_option maxRecDepth 20000 in
theorem f_M_50 : hq_F TB vwCl R_M 50 6 15 (.array .int) false := ⟨_, _, _, _, k_M, by decide, by decide +kernel, rfl, by decide +kernel, rfl⟩
set_option maxRecDepth 20000 in
theorem f_M_53 : hq_F TB vwCl R_M 53 6 16 (.array .int) false := ⟨_, _, _, _, k_M, by decide, by decide +kernel, rfl, by decide +kernel, rfl⟩
set_option maxRecDepth 20000 in
theorem f_M_56 : hq_F TB vwCl R_M 56 6 17 (.array .int) false := ⟨_, _, _, _, k_M, by decide, by decide +kernel, rfl, by decide +kernel, rfl⟩
set_option maxRecDepth 20000 in
theorem f_M_59 : hq_F TB vwCl R_M 59 6 18 (.array .int) false := ⟨_, _, _, _, k_M, by decide, by decide +kernel, rfl, by decide +kernel, rfl⟩
set_option maxRecDepth 20000 in
theorem f_M_62 : hq_F TB vwCl R_M 62 6 19 (.array .int) false := ⟨_, _, _, _, k_M, by decide, by decide +kernel, rfl, by decide +kernel, rfl⟩
set_option maxRecDepth 20000 in
theorem f_M_65 : hq_F TB vwCl R_M 65 6 20 (.array .int) false := ⟨_, _, _, _, k_M, by decide, by decide +kernel, rfl, by decide +kernel, rfl⟩
set_option maxRecDepth 20000 in
theorem f_M_68 : hq_F TB vwCl R_M 68 6 21 (.array .int) false := ⟨_, _, _, _, k_M, by decide, by decide +kernel, rfl, by decide +kernel, rfl⟩
set_option maxRecDepth 20000 in
theorem f_M_71 : hq_F TB vwCl R_M 71 6 22 (.array .int) false := ⟨_, _, _, _, k_M, by decide, by decide +kernel, rfl, by decide +kernel, rfl⟩
set_option maxRecDepth 20000 in
theorem f_M_74 : hq_F TB vwCl R_M 74 6 23 (.array .int) false := ⟨_, _, _, _, k_M, by decide, by decide +kernel, rfl, by decide +kernel, rfl⟩
set_option maxRecDepth 20000 in
theorem f_M_77 : hq_F TB vwCl R_M 77 6 24 (.array .int) false := ⟨_, _, _, _, k_M, by decide, by decide +kernel, rfl, by decide +kernel, rfl⟩
set_option maxRecDepth 20000 in
theorem f_M_80 : hq_F TB vwCl R_M 80 6 25 (.array .int) false := ⟨_, _, _, _, k_M, by decide, by decide +kernel, rfl, by decide +kernel, rfl⟩
set_option maxRecDepth 20000 in
theorem f_M_83 : hq_F TB vwCl R_M 83 6 26 (.array .int) false := ⟨_, _, _, _, k_M, by decide, by decide +kernel, rfl, by decide +kernel, rfl⟩
set_option maxRecDepth 20000 in
theorem f_M_86 : hq_F TB vwCl R_M 86 6 27 (.array .boolean) false := ⟨_, _, _, _, k_M, by decide, by decide +kernel, rfl, by decide +kernel, rfl⟩
set_option maxRecDepth 20000 in
theorem f_M_89 : hq_F TB vwCl R_M 89 6 28 (.array .int) false := ⟨_, _, _, _, k_M, by decide, by decide +kernel, rfl, by decide +kernel, rfl⟩
set_option maxRecDepth 20000 in
theorem f_M_92 : hq_F TB vwCl R_M 92 6 29 (.array .int) false := ⟨_, _, _, _, k_M, by decide, by decide +kernel, rfl, by decide +kernel, rfl⟩
set_option maxRecDepth 20000 in
theorem f_M_95 : hq_F TB vwCl R_M 95 6 30 (.array .int) false := ⟨_, _, _, _, k_M, by decide, by decide +kernel, rfl, by decide +kernel, rfl⟩
set_option maxRecDepth 20000 in
theorem f_M_98 : hq_F TB vwCl R_M 98 6 31 (.array .int) false := ⟨_, _, _, _, k_M, by decide, by decide +kernel, rfl, by decide +kernel, rfl⟩
set_option maxRecDepth 20000 in
theorem f_M_101 : hq_F TB vwCl R_M 101 6 1 (.int) false := ⟨_, _, _, _, k_M, by decide, by decide +kernel, rfl, by decide +kernel, rfl⟩
set_option maxRecDepth 20000 in
theorem f_M_105 : hq_F TB vwCl R_M 105 6 0 (.int) false := ⟨_, _, _, _, k_M, by decide, by decide +kernel, rfl, by decide +kernel, rfl⟩
set_option maxRecDepth 20000 in
theorem Y_M_108 : hq_YV TB R_M 108 y_M_noNode b_M_noNode 2 (some .boolean) 1 := ⟨⟨cw_M_noNode, by decide +kernel, by decide +kernel, by decide +kernel, by decide +kernel, by decide +kernel⟩, by decide +kernel, by decide +kernel⟩
set_option maxRecDepth 20000 in
theorem Y_M_112 : hq_YV TB R_M 112 y_M_open b_M_open 3 none 2 := ⟨⟨cw_M_open, by decide +kernel, by decide +kernel, by decide +kernel, by decide +kernel, by decide +kernel⟩, by decide +kernel, by decide +kernel⟩
set_option maxRecDepth 20000 in
theorem Y_M_116 : hq_YV TB R_M 116 y_M_coreBit b_M_coreBit 5 (some .int) 1 := ⟨⟨cw_M_coreBit, by decide +kernel, by decide +kernel, by decide +kernel, by decide +kernel, by decide +kernel⟩, by decide +kernel, by decide +kernel⟩
set_option maxRecDepth 20000 in
theorem Y_M_120 : hq_YV TB R_M 120 y_M_coreLength b_M_coreLength 2 (some .int) 1 := ⟨⟨cw_M_coreLength, by decide +kernel, by decide +kernel, by decide +kernel, by decide +kernel, by decide +kernel⟩, by decide +kernel, by decide +kernel⟩
set_option maxRecDepth 20000 in
theorem Y_M_123 : hq_YV TB R_M 123 y_M_isPassive b_M_isPassive 2 (some .boolean) 1 := ⟨⟨cw_M_isPassive, by decide +kernel, by decide +kernel, by decide +kernel, by decide +kernel, by decide +kernel⟩, by decide +kernel, by decide +kernel⟩
set_option maxRecDepth 20000 in
theorem Y_M_126 : hq_YV TB R_M 126 y_M_goesOff b_M_goesOff 2 (some .boolean) 1 := ⟨⟨cw_M_goesOff, by decide +kernel, by decide +kernel, by decide +kernel, by decide +kernel, by decide +kernel⟩, by decide +kernel, by decide +kernel⟩
set_option maxRecDepth 20000 in
theorem Y_M_129 : hq_YV TB R_M 129 y_M_flag b_M_flag 4 none 3 := ⟨⟨cw_M_flag, by decide +kernel, by decide +kernel, by decide +kernel, by decide +kernel, by decide +kernel⟩, by decide +kernel, by decide +kernel⟩
set_option maxRecDepth 20000 in
theorem Y_M_133 : hq_YV TB R_M 133 y_M_rest b_M_rest 2 none 1 := ⟨⟨cw_M_rest, by decide +kernel, by decide +kernel, by decide +kernel, by decide +kernel, by decide +kernel⟩, by decide +kernel, by decide +kernel⟩
set_option maxRecDepth 20000 in
theorem Y_M_137 : hq_YV TB R_M 137 y_M_overload b_M_overload 2 none 1 := ⟨⟨cw_M_overload, by decide +kernel, by decide +kernel, by decide +kernel, by decide +kernel, by decide +kernel⟩, by decide +kernel, by decide +kernel⟩
set_option maxRecDepth 20000 in
theorem Y_M_140 : hq_YV TB R_M 140 y_M_hear b_M_hear 7 none 2 := ⟨⟨cw_M_hear, by decide +kernel, by decide +kernel, by decide +kernel, by decide +kernel, by decide +kernel⟩, by decide +kernel, by decide +kernel⟩
set_option maxRecDepth 20000 in
theorem Y_M_143 : hq_YV TB R_M 143 y_M_err b_M_err 4 none 3 := ⟨⟨cw_M_err, by decide +kernel, by decide +kernel, by decide +kernel, by decide +kernel, by decide +kernel⟩, by decide +kernel, by decide +kernel⟩
set_option maxRecDepth 20000 in
theorem Y_M_147 : hq_YV TB R_M 147 y_M_readCore b_M_readCore 6 (some .int) 2 := ⟨⟨cw_M_readCore, by decide +kernel, by decide +kernel, by decide +kernel, by decide +kernel, by decide +kernel⟩, by decide +kernel, by decide +kernel⟩
set_option maxRecDepth 20000 in
theorem Y_M_151 : hq_YV TB R_M 151 y_M_sentFrame b_M_sentFrame 3 none 1 := ⟨⟨cw_M_sentFrame, by decide +kernel, by decide +kernel, by decide +kernel, by decide +kernel, by decide +kernel⟩, by decide +kernel, by decide +kernel⟩
set_option maxRecDepth 20000 in
theorem Y_M_154 : hq_YV TB R_M 154 y_M_heardFrame b_M_heardFrame 3 none 2 := ⟨⟨cw_M_heardFrame, by decide +kernel, by decide +kernel, by decide +kernel, by decide +kernel, by decide +kernel⟩, by decide +kernel, by decide +kernel⟩
set_option maxRecDepth 20000 in
theorem Y_M_157 : hq_YV TB R_M 157 y_M_eightMore b_M_eightMore 2 (some .boolean) 1 := ⟨⟨cw_M_eightMore, by decide +kernel, by decide +kernel, by decide +kernel, by decide +kernel, by decide +kernel⟩, by decide +kernel, by decide +kernel⟩
set_option maxRecDepth 20000 in
theorem Y_M_160 : hq_YV TB R_M 160 y_M_start b_M_start 2 none 1 := ⟨⟨cw_M_start, by decide +kernel, by decide +kernel, by decide +kernel, by decide +kernel, by decide +kernel⟩, by decide +kernel, by decide +kernel⟩
set_option maxRecDepth 20000 in
theorem Y_M_163 : hq_YV TB R_M 163 y_M_send b_M_send 5 none 2 := ⟨⟨cw_M_send, by decide +kernel, by decide +kernel, by decide +kernel, by decide +kernel, by decide +kernel⟩, by decide +kernel, by decide +kernel⟩
set_option maxRecDepth 20000 in
theorem Y_M_166 : hq_YV TB R_M 166 y_M_flagging b_M_flagging 3 none 2 := ⟨⟨cw_M_flagging, by decide +kernel, by decide +kernel, by decide +kernel, by decide +kernel, by decide +kernel⟩, by decide +kernel, by decide +kernel⟩
set_option maxRecDepth 20000 in
theorem Y_M_169 : hq_YV TB R_M 169 y_M_goAfter b_M_goAfter 4 none 2 := ⟨⟨cw_M_goAfter, by decide +kernel, by decide +kernel, by decide +kernel, by decide +kernel, by decide +kernel⟩, by decide +kernel, by decide +kernel⟩
set_option maxRecDepth 20000 in
theorem Y_M_172 : hq_YV TB R_M 172 y_M_pausing b_M_pausing 3 none 2 := ⟨⟨cw_M_pausing, by decide +kernel, by decide +kernel, by decide +kernel, by decide +kernel, by decide +kernel⟩, by decide +kernel, by decide +kernel⟩
set_option maxRecDepth 20000 in
theorem Y_M_175 : hq_YV TB R_M 175 y_M_offTime b_M_offTime 3 none 2 := ⟨⟨cw_M_offTime, by decide +kernel, by decide +kernel, by decide +kernel, by decide +kernel, by decide +kernel⟩, by decide +kernel, by decide +kernel⟩
set_option maxRecDepth 20000 in
theorem Y_M_178 : hq_YV TB R_M 178 y_M_begin b_M_begin 4 none 1 := ⟨⟨cw_M_begin, by decide +kernel, by decide +kernel, by decide +kernel, by decide +kernel, by decide +kernel⟩, by decide +kernel, by decide +kernel⟩
set_option maxRecDepth 20000 in
theorem Y_M_181 : hq_YV TB R_M 181 y_M_driven b_M_driven 2 (some .int) 1 := ⟨⟨cw_M_driven, by decide +kernel, by decide +kernel, by decide +kernel, by decide +kernel, by decide +kernel⟩, by decide +kernel, by decide +kernel⟩
set_option maxRecDepth 20000 in
theorem Y_M_184 : hq_YV TB R_M 184 y_M_see b_M_see 3 none 2 := ⟨⟨cw_M_see, by decide +kernel, by decide +kernel, by decide +kernel, by decide +kernel, by decide +kernel⟩, by decide +kernel, by decide +kernel⟩
set_option maxRecDepth 20000 in
theorem Y_M_187 : hq_YV TB R_M 187 y_M_bitTime b_M_bitTime 6 none 0 := ⟨⟨cw_M_bitTime, by decide +kernel, by decide +kernel, by decide +kernel, by decide +kernel, by decide +kernel⟩, by decide +kernel, by decide +kernel⟩
