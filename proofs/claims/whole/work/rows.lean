section
-- ===== PART A: goes FIRST, ahead of the names: the tables' words, and 'selects' of the private methods out of them =====
/-- a private method of a class that the tables say can be made, by its rows of tables_1 -/
def lw_okq (q : MethodName × Nat) : Prop := (q.1.cls ≠ "java/lang/invoke/MethodHandle" ∧ q.1.cls ≠ "java/lang/invoke/VarHandle") ∧ Cond.instantiable q.1.cls q.2 ∈ tables_1 ∧ Cond.privateMethod q.1 ∈ tables_1 ∧ Cond.instanceMethod q.1 ∈ tables_1
theorem lw_p0 : lw_okq (⟨"EdgeRaster", "isCovered", "(II)Z"⟩, 12) := ⟨⟨by decide +kernel, by decide +kernel⟩, List.mem_of_getElem? (i := 11) (by decide +kernel), List.mem_of_getElem? (i := 107) (by decide +kernel), List.mem_of_getElem? (i := 108) (by decide +kernel)⟩
theorem lw_p1 : lw_okq (⟨"EdgeRaster$Corner", "admits", "(II)Z"⟩, 10) := ⟨⟨by decide +kernel, by decide +kernel⟩, List.mem_of_getElem? (i := 19) (by decide +kernel), List.mem_of_getElem? (i := 111) (by decide +kernel), List.mem_of_getElem? (i := 112) (by decide +kernel)⟩
theorem lw_p2 : lw_okq (⟨"EdgeRaster$Corner", "weightAt", "(II)J"⟩, 10) := ⟨⟨by decide +kernel, by decide +kernel⟩, List.mem_of_getElem? (i := 19) (by decide +kernel), List.mem_of_getElem? (i := 115) (by decide +kernel), List.mem_of_getElem? (i := 116) (by decide +kernel)⟩
theorem lw_p3 : lw_okq (⟨"java/lang/Throwable", "fillInStackTrace", "(I)Ljava/lang/Throwable;"⟩, 6) := ⟨⟨by decide +kernel, by decide +kernel⟩, List.mem_of_getElem? (i := 174) (by decide +kernel), List.mem_of_getElem? (i := 172) (by decide +kernel), List.mem_of_getElem? (i := 173) (by decide +kernel)⟩
theorem lw_p4 : lw_okq (⟨"EdgeRaster", "cornerOf", "(I)LEdgeRaster$Corner;"⟩, 12) := ⟨⟨by decide +kernel, by decide +kernel⟩, List.mem_of_getElem? (i := 11) (by decide +kernel), List.mem_of_getElem? (i := 209) (by decide +kernel), List.mem_of_getElem? (i := 210) (by decide +kernel)⟩
theorem lw_p5 : lw_okq (⟨"EdgeRaster", "layTriangle", "()V"⟩, 12) := ⟨⟨by decide +kernel, by decide +kernel⟩, List.mem_of_getElem? (i := 11) (by decide +kernel), List.mem_of_getElem? (i := 213) (by decide +kernel), List.mem_of_getElem? (i := 214) (by decide +kernel)⟩
theorem lw_p6 : lw_okq (⟨"EdgeRaster$Corner", "layEdge", "(LEdgeRaster$Corner;LEdgeRaster$Corner;)V"⟩, 10) := ⟨⟨by decide +kernel, by decide +kernel⟩, List.mem_of_getElem? (i := 19) (by decide +kernel), List.mem_of_getElem? (i := 217) (by decide +kernel), List.mem_of_getElem? (i := 218) (by decide +kernel)⟩
theorem lw_p7 : lw_okq (⟨"EdgeRaster", "endWalk", "()V"⟩, 12) := ⟨⟨by decide +kernel, by decide +kernel⟩, List.mem_of_getElem? (i := 11) (by decide +kernel), List.mem_of_getElem? (i := 221) (by decide +kernel), List.mem_of_getElem? (i := 222) (by decide +kernel)⟩
theorem lw_p8 : lw_okq (⟨"EdgeRaster", "firstCovered", "(II)I"⟩, 12) := ⟨⟨by decide +kernel, by decide +kernel⟩, List.mem_of_getElem? (i := 11) (by decide +kernel), List.mem_of_getElem? (i := 277) (by decide +kernel), List.mem_of_getElem? (i := 278) (by decide +kernel)⟩
theorem lw_p9 : lw_okq (⟨"EdgeRaster$Corner", "nearWeightAt", "(II)J"⟩, 10) := ⟨⟨by decide +kernel, by decide +kernel⟩, List.mem_of_getElem? (i := 19) (by decide +kernel), List.mem_of_getElem? (i := 315) (by decide +kernel), List.mem_of_getElem? (i := 316) (by decide +kernel)⟩
theorem lw_p10 : lw_okq (⟨"EdgeRasterModel", "refuse", "(ZZ)Z"⟩, 15) := ⟨⟨by decide +kernel, by decide +kernel⟩, List.mem_of_getElem? (i := 326) (by decide +kernel), List.mem_of_getElem? (i := 391) (by decide +kernel), List.mem_of_getElem? (i := 392) (by decide +kernel)⟩
theorem lw_p11 : lw_okq (⟨"EdgeRasterModel", "whole", "()J"⟩, 15) := ⟨⟨by decide +kernel, by decide +kernel⟩, List.mem_of_getElem? (i := 326) (by decide +kernel), List.mem_of_getElem? (i := 407) (by decide +kernel), List.mem_of_getElem? (i := 408) (by decide +kernel)⟩
theorem lw_p12 : lw_okq (⟨"EdgeRasterModel", "room", "(IIII)J"⟩, 15) := ⟨⟨by decide +kernel, by decide +kernel⟩, List.mem_of_getElem? (i := 326) (by decide +kernel), List.mem_of_getElem? (i := 411) (by decide +kernel), List.mem_of_getElem? (i := 412) (by decide +kernel)⟩
theorem lw_p13 : lw_okq (⟨"EdgeRasterModel", "isCovered", "(II)Z"⟩, 15) := ⟨⟨by decide +kernel, by decide +kernel⟩, List.mem_of_getElem? (i := 326) (by decide +kernel), List.mem_of_getElem? (i := 419) (by decide +kernel), List.mem_of_getElem? (i := 420) (by decide +kernel)⟩
theorem lw_p14 : lw_okq (⟨"EdgeRasterModel", "weightOf", "(III)J"⟩, 15) := ⟨⟨by decide +kernel, by decide +kernel⟩, List.mem_of_getElem? (i := 326) (by decide +kernel), List.mem_of_getElem? (i := 423) (by decide +kernel), List.mem_of_getElem? (i := 424) (by decide +kernel)⟩
theorem lw_p15 : lw_okq (⟨"EdgeRasterModel", "from", "(I)I"⟩, 15) := ⟨⟨by decide +kernel, by decide +kernel⟩, List.mem_of_getElem? (i := 326) (by decide +kernel), List.mem_of_getElem? (i := 427) (by decide +kernel), List.mem_of_getElem? (i := 428) (by decide +kernel)⟩
def lw_privs_1 : List (MethodName × Nat) := [(⟨"EdgeRaster", "isCovered", "(II)Z"⟩, 12), (⟨"EdgeRaster$Corner", "admits", "(II)Z"⟩, 10), (⟨"EdgeRaster$Corner", "weightAt", "(II)J"⟩, 10), (⟨"java/lang/Throwable", "fillInStackTrace", "(I)Ljava/lang/Throwable;"⟩, 6), (⟨"EdgeRaster", "cornerOf", "(I)LEdgeRaster$Corner;"⟩, 12), (⟨"EdgeRaster", "layTriangle", "()V"⟩, 12), (⟨"EdgeRaster$Corner", "layEdge", "(LEdgeRaster$Corner;LEdgeRaster$Corner;)V"⟩, 10), (⟨"EdgeRaster", "endWalk", "()V"⟩, 12), (⟨"EdgeRaster", "firstCovered", "(II)I"⟩, 12), (⟨"EdgeRaster$Corner", "nearWeightAt", "(II)J"⟩, 10), (⟨"EdgeRasterModel", "refuse", "(ZZ)Z"⟩, 15), (⟨"EdgeRasterModel", "whole", "()J"⟩, 15), (⟨"EdgeRasterModel", "room", "(IIII)J"⟩, 15), (⟨"EdgeRasterModel", "isCovered", "(II)Z"⟩, 15), (⟨"EdgeRasterModel", "weightOf", "(III)J"⟩, 15), (⟨"EdgeRasterModel", "from", "(I)I"⟩, 15)]
theorem lw_r1 : ∀ q ∈ lw_privs_1, lw_okq q := List.forall_mem_cons.mpr ⟨lw_p0, List.forall_mem_cons.mpr ⟨lw_p1, List.forall_mem_cons.mpr ⟨lw_p2, List.forall_mem_cons.mpr ⟨lw_p3, List.forall_mem_cons.mpr ⟨lw_p4, List.forall_mem_cons.mpr ⟨lw_p5, List.forall_mem_cons.mpr ⟨lw_p6, List.forall_mem_cons.mpr ⟨lw_p7, List.forall_mem_cons.mpr ⟨lw_p8, List.forall_mem_cons.mpr ⟨lw_p9, List.forall_mem_cons.mpr ⟨lw_p10, List.forall_mem_cons.mpr ⟨lw_p11, List.forall_mem_cons.mpr ⟨lw_p12, List.forall_mem_cons.mpr ⟨lw_p13, List.forall_mem_cons.mpr ⟨lw_p14, List.forall_mem_cons.mpr ⟨lw_p15, fun _ h => absurd h List.not_mem_nil⟩⟩⟩⟩⟩⟩⟩⟩⟩⟩⟩⟩⟩⟩⟩⟩
theorem lw_p16 : lw_okq (⟨"EdgeRasterModel", "to", "(I)I"⟩, 15) := ⟨⟨by decide +kernel, by decide +kernel⟩, List.mem_of_getElem? (i := 326) (by decide +kernel), List.mem_of_getElem? (i := 431) (by decide +kernel), List.mem_of_getElem? (i := 432) (by decide +kernel)⟩
def lw_privs_2 : List (MethodName × Nat) := [(⟨"EdgeRasterModel", "to", "(I)I"⟩, 15)]
theorem lw_r2 : ∀ q ∈ lw_privs_2, lw_okq q := List.forall_mem_cons.mpr ⟨lw_p16, fun _ h => absurd h List.not_mem_nil⟩
def lw_privs : List (MethodName × Nat) := lw_privs_1 ++ (lw_privs_2)
def lw_tbl : List Cond := k2_sels lw_privs ++ tables_1
theorem lw_privs_ok : ∀ q ∈ lw_privs, lw_okq q := by
  show ∀ q ∈ lw_privs_1 ++ (lw_privs_2), lw_okq q
  exact List.forall_mem_append.mpr ⟨lw_r1, lw_r2⟩
-- NAMES: classes, fields in the order of the slots, types
def R_C : String := "EdgeRaster$Corner"
def R_E : String := "EdgeRaster"
def R_M : String := "EdgeRasterModel"
def R_L : String := "EdgeRasterLaw"
def R_J : String := "java/lang/Math"
def F_C : u_T := fun k => match k with
  | 0 => ("EdgeRaster$Corner", "x", "I", false)
  | 1 => ("EdgeRaster$Corner", "y", "I", false)
  | 2 => ("EdgeRaster$Corner", "deep", "I", false)
  | 3 => ("EdgeRaster$Corner", "nearness", "I", false)
  | 4 => ("EdgeRaster$Corner", "values", "[I", true)
  | 5 => ("EdgeRaster$Corner", "edgeX", "I", false)
  | 6 => ("EdgeRaster$Corner", "edgeY", "I", false)
  | 7 => ("EdgeRaster$Corner", "edgeAcross", "I", false)
  | 8 => ("EdgeRaster$Corner", "edgeDown", "I", false)
  | _ => ("EdgeRaster$Corner", "leastWeight", "I", false)
def t_C : Nat → FieldType := fun k => match k with
  | 0 => .int
  | 1 => .int
  | 2 => .int
  | 3 => .int
  | 4 => .array .int
  | 5 => .int
  | 6 => .int
  | 7 => .int
  | 8 => .int
  | _ => .int
def F_E : u_T := fun k => match k with
  | 0 => ("EdgeRaster", "corner0", "LEdgeRaster$Corner;", true)
  | 1 => ("EdgeRaster", "corner1", "LEdgeRaster$Corner;", true)
  | 2 => ("EdgeRaster", "corner2", "LEdgeRaster$Corner;", true)
  | 3 => ("EdgeRaster", "signedArea", "J", false)
  | 4 => ("EdgeRaster", "windowX", "I", false)
  | 5 => ("EdgeRaster", "windowY", "I", false)
  | 6 => ("EdgeRaster", "windowWide", "I", false)
  | 7 => ("EdgeRaster", "windowHigh", "I", false)
  | 8 => ("EdgeRaster", "walking", "Z", false)
  | 9 => ("EdgeRaster", "onPlace", "Z", false)
  | 10 => ("EdgeRaster", "lastX", "I", false)
  | _ => ("EdgeRaster", "lastY", "I", false)
def t_E : Nat → FieldType := fun k => match k with
  | 0 => .object "EdgeRaster$Corner"
  | 1 => .object "EdgeRaster$Corner"
  | 2 => .object "EdgeRaster$Corner"
  | 3 => .long
  | 4 => .int
  | 5 => .int
  | 6 => .int
  | 7 => .int
  | 8 => .boolean
  | 9 => .boolean
  | 10 => .int
  | _ => .int
def F_M : u_T := fun k => match k with
  | 0 => ("EdgeRasterModel", "thrown", "I", false)
  | 1 => ("EdgeRasterModel", "cornerX", "[I", true)
  | 2 => ("EdgeRasterModel", "cornerY", "[I", true)
  | 3 => ("EdgeRasterModel", "depths", "[I", true)
  | 4 => ("EdgeRasterModel", "nearness", "[I", true)
  | 5 => ("EdgeRasterModel", "values", "[I", true)
  | 6 => ("EdgeRasterModel", "left", "I", false)
  | 7 => ("EdgeRasterModel", "top", "I", false)
  | 8 => ("EdgeRasterModel", "wide", "I", false)
  | 9 => ("EdgeRasterModel", "high", "I", false)
  | 10 => ("EdgeRasterModel", "walks", "Z", false)
  | 11 => ("EdgeRasterModel", "looked", "I", false)
  | 12 => ("EdgeRasterModel", "came", "Z", false)
  | 13 => ("EdgeRasterModel", "lastX", "I", false)
  | _ => ("EdgeRasterModel", "lastY", "I", false)
def t_M : Nat → FieldType := fun k => match k with
  | 0 => .int
  | 1 => .array .int
  | 2 => .array .int
  | 3 => .array .int
  | 4 => .array .int
  | 5 => .array .int
  | 6 => .int
  | 7 => .int
  | 8 => .int
  | 9 => .int
  | 10 => .boolean
  | 11 => .int
  | 12 => .boolean
  | 13 => .int
  | _ => .int
abbrev classes : List vw_C := [(R_C, F_C, 10), (R_E, F_E, 12), (R_M, F_M, 15)]
abbrev b_C_init : ByteArray := prog_2_method_1_code
def y_C_init : MethodName := ⟨R_C, "<init>", "()V"⟩
abbrev b_C_layEdge : ByteArray := prog_2_method_2_code
def y_C_layEdge : MethodName := ⟨R_C, "layEdge", "(LEdgeRaster$Corner;LEdgeRaster$Corner;)V"⟩
abbrev b_C_weightAt : ByteArray := prog_2_method_3_code
def y_C_weightAt : MethodName := ⟨R_C, "weightAt", "(II)J"⟩
abbrev b_C_nearWeightAt : ByteArray := prog_2_method_4_code
def y_C_nearWeightAt : MethodName := ⟨R_C, "nearWeightAt", "(II)J"⟩
abbrev b_C_admits : ByteArray := prog_2_method_5_code
def y_C_admits : MethodName := ⟨R_C, "admits", "(II)Z"⟩
abbrev b_E_init : ByteArray := prog_1_method_1_code
def y_E_init : MethodName := ⟨R_E, "<init>", "()V"⟩
abbrev b_E_corner : ByteArray := prog_1_method_2_code
def y_E_corner : MethodName := ⟨R_E, "corner", "(IIIII)V"⟩
abbrev b_E_value : ByteArray := prog_1_method_3_code
def y_E_value : MethodName := ⟨R_E, "value", "(III)V"⟩
abbrev b_E_window : ByteArray := prog_1_method_4_code
def y_E_window : MethodName := ⟨R_E, "window", "(IIII)V"⟩
abbrev b_E_area : ByteArray := prog_1_method_5_code
def y_E_area : MethodName := ⟨R_E, "area", "()J"⟩
abbrev b_E_covers : ByteArray := prog_1_method_6_code
def y_E_covers : MethodName := ⟨R_E, "covers", "(II)Z"⟩
abbrev b_E_many : ByteArray := prog_1_method_7_code
def y_E_many : MethodName := ⟨R_E, "many", "()I"⟩
abbrev b_E_walk : ByteArray := prog_1_method_8_code
def y_E_walk : MethodName := ⟨R_E, "walk", "()V"⟩
abbrev b_E_next : ByteArray := prog_1_method_9_code
def y_E_next : MethodName := ⟨R_E, "next", "()I"⟩
abbrev b_E_weight : ByteArray := prog_1_method_10_code
def y_E_weight : MethodName := ⟨R_E, "weight", "(I)J"⟩
abbrev b_E_depth : ByteArray := prog_1_method_11_code
def y_E_depth : MethodName := ⟨R_E, "depth", "()I"⟩
abbrev b_E_at : ByteArray := prog_1_method_12_code
def y_E_at : MethodName := ⟨R_E, "at", "(I)I"⟩
abbrev b_E_within : ByteArray := prog_1_method_13_code
def y_E_within : MethodName := ⟨R_E, "within", "(III)Z"⟩
abbrev b_E_isCorner : ByteArray := prog_1_method_14_code
def y_E_isCorner : MethodName := ⟨R_E, "isCorner", "(I)Z"⟩
abbrev b_E_isValue : ByteArray := prog_1_method_15_code
def y_E_isValue : MethodName := ⟨R_E, "isValue", "(I)Z"⟩
abbrev b_E_cornerOf : ByteArray := prog_1_method_16_code
def y_E_cornerOf : MethodName := ⟨R_E, "cornerOf", "(I)LEdgeRaster$Corner;"⟩
abbrev b_E_endWalk : ByteArray := prog_1_method_17_code
def y_E_endWalk : MethodName := ⟨R_E, "endWalk", "()V"⟩
abbrev b_E_layTriangle : ByteArray := prog_1_method_18_code
def y_E_layTriangle : MethodName := ⟨R_E, "layTriangle", "()V"⟩
abbrev b_E_isCovered : ByteArray := prog_1_method_19_code
def y_E_isCovered : MethodName := ⟨R_E, "isCovered", "(II)Z"⟩
abbrev b_E_firstCovered : ByteArray := prog_1_method_20_code
def y_E_firstCovered : MethodName := ⟨R_E, "firstCovered", "(II)I"⟩
abbrev b_E_shareShift : ByteArray := prog_1_method_21_code
def y_E_shareShift : MethodName := ⟨R_E, "shareShift", "(J)I"⟩
abbrev b_E_dividedDown : ByteArray := prog_1_method_22_code
def y_E_dividedDown : MethodName := ⟨R_E, "dividedDown", "(JJ)J"⟩
abbrev b_M_init : ByteArray := prog_4_method_1_code
def y_M_init : MethodName := ⟨R_M, "<init>", "()V"⟩
abbrev b_M_thrown : ByteArray := prog_4_method_2_code
def y_M_thrown : MethodName := ⟨R_M, "thrown", "()I"⟩
abbrev b_M_refuse : ByteArray := prog_4_method_3_code
def y_M_refuse : MethodName := ⟨R_M, "refuse", "(ZZ)Z"⟩
abbrev b_M_in_ : ByteArray := prog_4_method_4_code
def y_M_in_ : MethodName := ⟨R_M, "in", "(III)Z"⟩
abbrev b_M_corner : ByteArray := prog_4_method_5_code
def y_M_corner : MethodName := ⟨R_M, "corner", "(IIIII)V"⟩
abbrev b_M_value : ByteArray := prog_4_method_6_code
def y_M_value : MethodName := ⟨R_M, "value", "(III)V"⟩
abbrev b_M_window : ByteArray := prog_4_method_7_code
def y_M_window : MethodName := ⟨R_M, "window", "(IIII)V"⟩
abbrev b_M_room : ByteArray := prog_4_method_8_code
def y_M_room : MethodName := ⟨R_M, "room", "(IIII)J"⟩
abbrev b_M_whole : ByteArray := prog_4_method_9_code
def y_M_whole : MethodName := ⟨R_M, "whole", "()J"⟩
abbrev b_M_area : ByteArray := prog_4_method_10_code
def y_M_area : MethodName := ⟨R_M, "area", "()J"⟩
abbrev b_M_from : ByteArray := prog_4_method_11_code
def y_M_from : MethodName := ⟨R_M, "from", "(I)I"⟩
abbrev b_M_to : ByteArray := prog_4_method_12_code
def y_M_to : MethodName := ⟨R_M, "to", "(I)I"⟩
abbrev b_M_weightOf : ByteArray := prog_4_method_13_code
def y_M_weightOf : MethodName := ⟨R_M, "weightOf", "(III)J"⟩
abbrev b_M_isCovered : ByteArray := prog_4_method_14_code
def y_M_isCovered : MethodName := ⟨R_M, "isCovered", "(II)Z"⟩
abbrev b_M_covers : ByteArray := prog_4_method_15_code
def y_M_covers : MethodName := ⟨R_M, "covers", "(II)Z"⟩
abbrev b_M_many : ByteArray := prog_4_method_16_code
def y_M_many : MethodName := ⟨R_M, "many", "()I"⟩
abbrev b_M_walk : ByteArray := prog_4_method_17_code
def y_M_walk : MethodName := ⟨R_M, "walk", "()V"⟩
abbrev b_M_next : ByteArray := prog_4_method_18_code
def y_M_next : MethodName := ⟨R_M, "next", "()I"⟩
abbrev b_M_weight : ByteArray := prog_4_method_19_code
def y_M_weight : MethodName := ⟨R_M, "weight", "(I)J"⟩
abbrev b_M_down : ByteArray := prog_4_method_20_code
def y_M_down : MethodName := ⟨R_M, "down", "(JJ)J"⟩
abbrev b_M_depth : ByteArray := prog_4_method_21_code
def y_M_depth : MethodName := ⟨R_M, "depth", "()I"⟩
abbrev b_M_at : ByteArray := prog_4_method_22_code
def y_M_at : MethodName := ⟨R_M, "at", "(I)I"⟩
abbrev b_L_corner : ByteArray := method_3_code
def y_L_corner : MethodName := ⟨R_L, "corner", "(LEdgeRaster;IIIII)I"⟩
abbrev b_L_value : ByteArray := method_4_code
def y_L_value : MethodName := ⟨R_L, "value", "(LEdgeRaster;III)I"⟩
abbrev b_L_window : ByteArray := method_5_code
def y_L_window : MethodName := ⟨R_L, "window", "(LEdgeRaster;IIII)I"⟩
abbrev b_L_covers : ByteArray := method_6_code
def y_L_covers : MethodName := ⟨R_L, "covers", "(LEdgeRaster;II[J)I"⟩
abbrev b_L_next : ByteArray := method_7_code
def y_L_next : MethodName := ⟨R_L, "next", "(LEdgeRaster;[J)I"⟩
abbrev b_L_weight : ByteArray := method_8_code
def y_L_weight : MethodName := ⟨R_L, "weight", "(LEdgeRaster;I[J)I"⟩
abbrev b_L_depth : ByteArray := method_9_code
def y_L_depth : MethodName := ⟨R_L, "depth", "(LEdgeRaster;[J)I"⟩
abbrev b_L_at : ByteArray := method_10_code
def y_L_at : MethodName := ⟨R_L, "at", "(LEdgeRaster;I[J)I"⟩
abbrev b_L_law : ByteArray := code
def y_L_law : MethodName := ⟨R_L, "law", "([I)Z"⟩
abbrev b_J_floorDiv : ByteArray := prog_8_method_49_code
def y_J_floorDiv : MethodName := ⟨R_J, "floorDiv", "(JJ)J"⟩
def er_big_0 : List Cond := [.selects R_E y_E_isCovered y_E_isCovered, .selects R_C y_C_admits y_C_admits, .selects R_C y_C_weightAt y_C_weightAt, .selects "java/lang/Throwable" ⟨"java/lang/Throwable", "fillInStackTrace", "(I)Ljava/lang/Throwable;"⟩ ⟨"java/lang/Throwable", "fillInStackTrace", "(I)Ljava/lang/Throwable;"⟩, .selects R_E y_E_cornerOf y_E_cornerOf, .selects R_E y_E_layTriangle y_E_layTriangle, .selects R_C y_C_layEdge y_C_layEdge, .selects R_E y_E_endWalk y_E_endWalk, .selects R_E y_E_firstCovered y_E_firstCovered, .selects R_C y_C_nearWeightAt y_C_nearWeightAt, .selects R_M y_M_refuse y_M_refuse, .selects R_M y_M_whole y_M_whole, .selects R_M y_M_room y_M_room, .selects R_M y_M_isCovered y_M_isCovered, .selects R_M y_M_weightOf y_M_weightOf, .selects R_M y_M_from y_M_from]
def er_big_1 : List Cond := [.selects R_M y_M_to y_M_to, .initialized R_L, .initialized R_E, .initialized R_C, .initialized R_M, .initialized "java/lang/Throwable", .initialized "java/lang/Exception", .initialized "java/lang/RuntimeException", .initialized "java/lang/IllegalArgumentException", .initialized "java/lang/IllegalStateException", .initialized "java/lang/Math", .classLink R_L 8 R_E, .instantiable R_E 12, .methodLink R_L 44 y_E_init, .instanceMethod y_E_init, .code y_E_init b_E_init 1 none]
def er_big_2 : List Cond := [.methodLink R_E 1 objectInit, .instanceMethod objectInit, .code objectInit ⟨#[0xb1]⟩ 1 none, .classLink R_E 7 R_C, .instantiable R_C 10, .instanceMethod y_C_init, .code y_C_init b_C_init 1 none, .methodLink R_C 3 objectInit, .fieldLink R_C 9 "EdgeRaster$Corner" "x" "I", .fieldLink R_C 15 "EdgeRaster$Corner" "y" "I", .fieldLink R_C 18 "EdgeRaster$Corner" "deep" "I", .fieldLink R_C 21 "EdgeRaster$Corner" "nearness" "I", .fieldLink R_C 24 "EdgeRaster$Corner" "values" "[I", .fieldLink R_C 28 "EdgeRaster$Corner" "edgeX" "I", .fieldLink R_C 31 "EdgeRaster$Corner" "edgeY" "I", .fieldLink R_C 34 "EdgeRaster$Corner" "edgeAcross" "I"]
def er_big_3 : List Cond := [.fieldLink R_C 37 "EdgeRaster$Corner" "edgeDown" "I", .fieldLink R_C 40 "EdgeRaster$Corner" "leastWeight" "I", .lays R_C "EdgeRaster$Corner" "x" "I", .soleField R_C "x", .lays R_C "EdgeRaster$Corner" "y" "I", .soleField R_C "y", .lays R_C "EdgeRaster$Corner" "deep" "I", .soleField R_C "deep", .lays R_C "EdgeRaster$Corner" "nearness" "I", .soleField R_C "nearness", .laysFinal R_C "EdgeRaster$Corner" "values" "[I", .soleField R_C "values", .lays R_C "EdgeRaster$Corner" "edgeX" "I", .soleField R_C "edgeX", .lays R_C "EdgeRaster$Corner" "edgeY" "I", .soleField R_C "edgeY"]
def er_big_4 : List Cond := [.lays R_C "EdgeRaster$Corner" "edgeAcross" "I", .soleField R_C "edgeAcross", .lays R_C "EdgeRaster$Corner" "edgeDown" "I", .soleField R_C "edgeDown", .lays R_C "EdgeRaster$Corner" "leastWeight" "I", .soleField R_C "leastWeight", .superclass R_C "java/lang/Object", .arrayClass .int, .fieldLink R_E 10 "EdgeRaster" "corner0" "LEdgeRaster$Corner;", .fieldLink R_E 16 "EdgeRaster" "corner1" "LEdgeRaster$Corner;", .fieldLink R_E 19 "EdgeRaster" "corner2" "LEdgeRaster$Corner;", .fieldLink R_E 22 "EdgeRaster" "signedArea" "J", .fieldLink R_E 26 "EdgeRaster" "windowX" "I", .fieldLink R_E 30 "EdgeRaster" "windowY" "I", .fieldLink R_E 33 "EdgeRaster" "windowWide" "I", .fieldLink R_E 36 "EdgeRaster" "windowHigh" "I"]
def er_big_5 : List Cond := [.fieldLink R_E 39 "EdgeRaster" "walking" "Z", .fieldLink R_E 43 "EdgeRaster" "onPlace" "Z", .fieldLink R_E 46 "EdgeRaster" "lastX" "I", .fieldLink R_E 49 "EdgeRaster" "lastY" "I", .laysFinal R_E "EdgeRaster" "corner0" "LEdgeRaster$Corner;", .soleField R_E "corner0", .laysFinal R_E "EdgeRaster" "corner1" "LEdgeRaster$Corner;", .soleField R_E "corner1", .laysFinal R_E "EdgeRaster" "corner2" "LEdgeRaster$Corner;", .soleField R_E "corner2", .lays R_E "EdgeRaster" "signedArea" "J", .soleField R_E "signedArea", .lays R_E "EdgeRaster" "windowX" "I", .soleField R_E "windowX", .lays R_E "EdgeRaster" "windowY" "I", .soleField R_E "windowY"]
def er_big_6 : List Cond := [.lays R_E "EdgeRaster" "windowWide" "I", .soleField R_E "windowWide", .lays R_E "EdgeRaster" "windowHigh" "I", .soleField R_E "windowHigh", .lays R_E "EdgeRaster" "walking" "Z", .soleField R_E "walking", .lays R_E "EdgeRaster" "onPlace" "Z", .soleField R_E "onPlace", .lays R_E "EdgeRaster" "lastX" "I", .soleField R_E "lastX", .lays R_E "EdgeRaster" "lastY" "I", .soleField R_E "lastY", .superclass R_E "java/lang/Object", .methodLink R_L 65 y_E_area, .instanceMethod y_E_area, .selects R_E y_E_area y_E_area]
def er_big_7 : List Cond := [.code y_E_area b_E_area 1 (some .long), .methodLink R_L 74 y_E_many, .instanceMethod y_E_many, .selects R_E y_E_many y_E_many, .code y_E_many b_E_many 4 (some .int), .methodLink R_E 112 y_E_isCovered, .instanceMethod y_E_isCovered, .code y_E_isCovered b_E_isCovered 3 (some .boolean), .instanceMethod y_C_admits, .code y_C_admits b_C_admits 3 (some .boolean), .methodLink R_C 43 y_C_weightAt, .instanceMethod y_C_weightAt, .code y_C_weightAt b_C_weightAt 5 (some .long), .methodLink R_L 78 y_E_walk, .instanceMethod y_E_walk, .selects R_E y_E_walk y_E_walk]
def er_big_8 : List Cond := [.code y_E_walk b_E_walk 1 none, .methodLink R_L 48 y_L_corner, .static y_L_corner, .codeWith y_L_corner b_L_corner 7 (some .int) [(0, 11, 14, 13)], .classLink R_L 13 "java/lang/IllegalArgumentException", .methodLink R_L 7 y_E_corner, .instanceMethod y_E_corner, .selects R_E y_E_corner y_E_corner, .code y_E_corner b_E_corner 7 none, .methodLink R_E 52 y_E_isCorner, .static y_E_isCorner, .code y_E_isCorner b_E_isCorner 1 (some .boolean), .methodLink R_E 63 y_E_within, .static y_E_within, .code y_E_within b_E_within 3 (some .boolean), .classLink R_E 56 "java/lang/IllegalArgumentException"]
def er_big_9 : List Cond := [.instantiable "java/lang/IllegalArgumentException" 6, .selects "java/lang/IllegalArgumentException" ⟨"java/lang/Throwable", "fillInStackTrace", "(I)Ljava/lang/Throwable;"⟩ ⟨"java/lang/Throwable", "fillInStackTrace", "(I)Ljava/lang/Throwable;"⟩, .selects "java/lang/IllegalArgumentException" ⟨"java/lang/Throwable", "fillInStackTrace", "()Ljava/lang/Throwable;"⟩ ⟨"java/lang/Throwable", "fillInStackTrace", "()Ljava/lang/Throwable;"⟩, .lays "java/lang/IllegalArgumentException" "java/lang/Throwable" "cause" "Ljava/lang/Throwable;", .lays "java/lang/Throwable" "java/lang/Throwable" "cause" "Ljava/lang/Throwable;", .lays "java/lang/IllegalArgumentException" "java/lang/Throwable" "stackTrace" "[Ljava/lang/StackTraceElement;", .lays "java/lang/Throwable" "java/lang/Throwable" "stackTrace" "[Ljava/lang/StackTraceElement;", .lays "java/lang/IllegalArgumentException" "java/lang/Throwable" "suppressedExceptions" "Ljava/util/List;", .lays "java/lang/Throwable" "java/lang/Throwable" "suppressedExceptions" "Ljava/util/List;", .lays "java/lang/IllegalArgumentException" "java/lang/Throwable" "detailMessage" "Ljava/lang/String;", .lays "java/lang/Throwable" "java/lang/Throwable" "detailMessage" "Ljava/lang/String;", .lays "java/lang/IllegalArgumentException" "java/lang/Throwable" "backtrace" "Ljava/lang/Object;", .lays "java/lang/Throwable" "java/lang/Throwable" "backtrace" "Ljava/lang/Object;", .fieldLink "java/lang/Throwable" 198 "java/lang/Throwable" "backtrace" "Ljava/lang/Object;", .superclass "java/lang/Throwable" "java/lang/Object", .instanceMethod ⟨"java/lang/Throwable", "<init>", "()V"⟩]
def er_big_10 : List Cond := [.code ⟨"java/lang/Throwable", "<init>", "()V"⟩ prog_11_method_1_code 1 none, .methodLink "java/lang/Throwable" 1 objectInit, .fieldLink "java/lang/Throwable" 13 "java/lang/Throwable" "UNASSIGNED_STACK" "[Ljava/lang/StackTraceElement;", .fieldLink "java/lang/Throwable" 20 "java/lang/Throwable" "SUPPRESSED_SENTINEL" "Ljava/util/List;", .methodLink "java/lang/Throwable" 27 ⟨"java/lang/Throwable", "fillInStackTrace", "()Ljava/lang/Throwable;"⟩, .instanceMethod ⟨"java/lang/Throwable", "fillInStackTrace", "()Ljava/lang/Throwable;"⟩, .sameMethod "java/lang/Throwable" "java/lang/Throwable" "fillInStackTrace" "()Ljava/lang/Throwable;", .selects "java/lang/IllegalStateException" ⟨"java/lang/Throwable", "fillInStackTrace", "()Ljava/lang/Throwable;"⟩ ⟨"java/lang/Throwable", "fillInStackTrace", "()Ljava/lang/Throwable;"⟩, .codeSync ⟨"java/lang/Throwable", "fillInStackTrace", "()Ljava/lang/Throwable;"⟩ prog_11_method_18_code 1 (some (.object "java/lang/Throwable")), .methodLink "java/lang/Throwable" 202 ⟨"java/lang/Throwable", "fillInStackTrace", "(I)Ljava/lang/Throwable;"⟩, .instanceMethod ⟨"java/lang/Throwable", "fillInStackTrace", "(I)Ljava/lang/Throwable;"⟩, .instantiable "java/lang/Throwable" 6, .native ⟨"java/lang/Throwable", "fillInStackTrace", "(I)Ljava/lang/Throwable;"⟩, .methodLink R_E 60 ⟨"java/lang/IllegalArgumentException", "<init>", "(Ljava/lang/String;)V"⟩, .instanceMethod ⟨"java/lang/IllegalArgumentException", "<init>", "(Ljava/lang/String;)V"⟩, .code ⟨"java/lang/IllegalArgumentException", "<init>", "(Ljava/lang/String;)V"⟩ prog_6_method_2_code 2 none]
def er_big_11 : List Cond := [.methodLink "java/lang/IllegalArgumentException" 7 ⟨"java/lang/RuntimeException", "<init>", "(Ljava/lang/String;)V"⟩, .instanceMethod ⟨"java/lang/RuntimeException", "<init>", "(Ljava/lang/String;)V"⟩, .code ⟨"java/lang/RuntimeException", "<init>", "(Ljava/lang/String;)V"⟩ prog_9_method_2_code 2 none, .methodLink "java/lang/RuntimeException" 7 ⟨"java/lang/Exception", "<init>", "(Ljava/lang/String;)V"⟩, .instanceMethod ⟨"java/lang/Exception", "<init>", "(Ljava/lang/String;)V"⟩, .code ⟨"java/lang/Exception", "<init>", "(Ljava/lang/String;)V"⟩ prog_5_method_2_code 2 none, .methodLink "java/lang/Exception" 7 ⟨"java/lang/Throwable", "<init>", "(Ljava/lang/String;)V"⟩, .instanceMethod ⟨"java/lang/Throwable", "<init>", "(Ljava/lang/String;)V"⟩, .code ⟨"java/lang/Throwable", "<init>", "(Ljava/lang/String;)V"⟩ prog_11_method_2_code 2 none, .fieldLink "java/lang/Throwable" 31 "java/lang/Throwable" "detailMessage" "Ljava/lang/String;", .fieldLink "java/lang/Throwable" 7 "java/lang/Throwable" "cause" "Ljava/lang/Throwable;", .fieldLink "java/lang/Throwable" 17 "java/lang/Throwable" "stackTrace" "[Ljava/lang/StackTraceElement;", .fieldLink "java/lang/Throwable" 24 "java/lang/Throwable" "suppressedExceptions" "Ljava/util/List;", .soleField "java/lang/Throwable" "backtrace", .soleField "java/lang/Throwable" "detailMessage", .soleField "java/lang/Throwable" "cause"]
def er_big_12 : List Cond := [.soleField "java/lang/Throwable" "stackTrace", .lays "java/lang/IllegalArgumentException" "java/lang/Throwable" "depth" "I", .soleField "java/lang/Throwable" "depth", .soleField "java/lang/Throwable" "suppressedExceptions", .superclass "java/lang/IllegalArgumentException" "java/lang/RuntimeException", .arrayClass .byte, .constant R_E 69 16777215, .constant R_E 72 8388608, .methodLink R_E 75 y_E_cornerOf, .instanceMethod y_E_cornerOf, .code y_E_cornerOf b_E_cornerOf 2 (some (.object "EdgeRaster$Corner")), .methodLink R_E 91 y_E_layTriangle, .instanceMethod y_E_layTriangle, .code y_E_layTriangle b_E_layTriangle 1 none, .instanceMethod y_C_layEdge, .code y_C_layEdge b_C_layEdge 5 none]
def er_big_13 : List Cond := [.methodLink R_E 94 y_E_endWalk, .instanceMethod y_E_endWalk, .code y_E_endWalk b_E_endWalk 1 none, .methodLink R_L 57 y_L_value, .static y_L_value, .codeWith y_L_value b_L_value 5 (some .int) [(0, 7, 10, 13)], .methodLink R_L 15 y_E_value, .instanceMethod y_E_value, .selects R_E y_E_value y_E_value, .code y_E_value b_E_value 4 none, .methodLink R_E 97 y_E_isValue, .static y_E_isValue, .code y_E_isValue b_E_isValue 1 (some .boolean), .methodLink R_L 61 y_L_window, .static y_L_window, .codeWith y_L_window b_L_window 6 (some .int) [(0, 9, 12, 13)]]
def er_big_14 : List Cond := [.methodLink R_L 19 y_E_window, .instanceMethod y_E_window, .selects R_E y_E_window y_E_window, .code y_E_window b_E_window 5 none, .methodLink R_L 70 y_L_covers, .static y_L_covers, .codeWith y_L_covers b_L_covers 5 (some .int) [(0, 17, 20, 13)], .methodLink R_L 23 y_E_covers, .instanceMethod y_E_covers, .selects R_E y_E_covers y_E_covers, .code y_E_covers b_E_covers 3 (some .boolean), .methodLink R_L 82 y_L_next, .static y_L_next, .codeWith y_L_next b_L_next 3 (some .int) [(0, 8, 11, 31)], .classLink R_L 31 "java/lang/IllegalStateException", .methodLink R_L 27 y_E_next]
def er_big_15 : List Cond := [.instanceMethod y_E_next, .selects R_E y_E_next y_E_next, .code y_E_next b_E_next 4 (some .int), .classLink R_E 116 "java/lang/IllegalStateException", .instantiable "java/lang/IllegalStateException" 6, .selects "java/lang/IllegalStateException" ⟨"java/lang/Throwable", "fillInStackTrace", "(I)Ljava/lang/Throwable;"⟩ ⟨"java/lang/Throwable", "fillInStackTrace", "(I)Ljava/lang/Throwable;"⟩, .lays "java/lang/IllegalStateException" "java/lang/Throwable" "cause" "Ljava/lang/Throwable;", .lays "java/lang/IllegalStateException" "java/lang/Throwable" "stackTrace" "[Ljava/lang/StackTraceElement;", .lays "java/lang/IllegalStateException" "java/lang/Throwable" "suppressedExceptions" "Ljava/util/List;", .lays "java/lang/IllegalStateException" "java/lang/Throwable" "detailMessage" "Ljava/lang/String;", .lays "java/lang/IllegalStateException" "java/lang/Throwable" "backtrace" "Ljava/lang/Object;", .methodLink R_E 120 ⟨"java/lang/IllegalStateException", "<init>", "(Ljava/lang/String;)V"⟩, .instanceMethod ⟨"java/lang/IllegalStateException", "<init>", "(Ljava/lang/String;)V"⟩, .code ⟨"java/lang/IllegalStateException", "<init>", "(Ljava/lang/String;)V"⟩ prog_7_method_2_code 2 none, .methodLink "java/lang/IllegalStateException" 7 ⟨"java/lang/RuntimeException", "<init>", "(Ljava/lang/String;)V"⟩, .lays "java/lang/IllegalStateException" "java/lang/Throwable" "depth" "I"]
def er_big_16 : List Cond := [.superclass "java/lang/IllegalStateException" "java/lang/RuntimeException", .methodLink R_E 121 y_E_firstCovered, .instanceMethod y_E_firstCovered, .code y_E_firstCovered b_E_firstCovered 4 (some .int), .constant R_E 125 65536, .methodLink R_L 86 y_L_weight, .static y_L_weight, .codeWith y_L_weight b_L_weight 4 (some .int) [(0, 8, 11, 13), (0, 8, 14, 31)], .methodLink R_L 33 y_E_weight, .instanceMethod y_E_weight, .selects R_E y_E_weight y_E_weight, .code y_E_weight b_E_weight 2 (some .long), .methodLink R_L 90 y_L_depth, .static y_L_depth, .codeWith y_L_depth b_L_depth 3 (some .int) [(0, 8, 11, 31)], .methodLink R_L 37 y_E_depth]
def er_big_17 : List Cond := [.instanceMethod y_E_depth, .selects R_E y_E_depth y_E_depth, .code y_E_depth b_E_depth 3 (some .int), .methodLink R_E 132 ⟨"java/lang/Math", "abs", "(J)J"⟩, .static ⟨"java/lang/Math", "abs", "(J)J"⟩, .code ⟨"java/lang/Math", "abs", "(J)J"⟩ prog_8_method_61_code 2 (some .long), .methodLink R_E 138 y_E_dividedDown, .static y_E_dividedDown, .code y_E_dividedDown b_E_dividedDown 4 (some .long), .methodLink R_E 163 y_J_floorDiv, .static y_J_floorDiv, .code y_J_floorDiv b_J_floorDiv 6 (some .long), .methodLink R_L 93 y_L_at, .static y_L_at, .codeWith y_L_at b_L_at 4 (some .int) [(0, 9, 12, 13), (0, 9, 15, 31)], .methodLink R_L 40 y_E_at]
def er_big_18 : List Cond := [.instanceMethod y_E_at, .selects R_E y_E_at y_E_at, .code y_E_at b_E_at 17 (some .int), .instanceMethod y_C_nearWeightAt, .code y_C_nearWeightAt b_C_nearWeightAt 3 (some .long), .methodLink R_E 147 ⟨"java/lang/Math", "max", "(JJ)J"⟩, .static ⟨"java/lang/Math", "max", "(JJ)J"⟩, .code ⟨"java/lang/Math", "max", "(JJ)J"⟩ prog_8_method_66_code 4 (some .long), .methodLink R_E 150 y_E_shareShift, .static y_E_shareShift, .code y_E_shareShift b_E_shareShift 3 (some .int), .constantLong R_E 161 536870912, .classLink R_L 45 R_M, .instantiable R_M 15, .methodLink R_L 47 y_M_init, .instanceMethod y_M_init]
def er_big_19 : List Cond := [.code y_M_init b_M_init 2 none, .methodLink R_M 1 objectInit, .fieldLink R_M 32 "EdgeRasterModel" "thrown" "I", .fieldLink R_M 7 "EdgeRasterModel" "cornerX" "[I", .fieldLink R_M 13 "EdgeRasterModel" "cornerY" "[I", .fieldLink R_M 16 "EdgeRasterModel" "depths" "[I", .fieldLink R_M 19 "EdgeRasterModel" "nearness" "[I", .fieldLink R_M 22 "EdgeRasterModel" "values" "[I", .fieldLink R_M 49 "EdgeRasterModel" "left" "I", .fieldLink R_M 52 "EdgeRasterModel" "top" "I", .fieldLink R_M 25 "EdgeRasterModel" "wide" "I", .fieldLink R_M 29 "EdgeRasterModel" "high" "I", .fieldLink R_M 45 "EdgeRasterModel" "walks" "Z", .fieldLink R_M 78 "EdgeRasterModel" "looked" "I", .fieldLink R_M 81 "EdgeRasterModel" "came" "Z", .fieldLink R_M 84 "EdgeRasterModel" "lastX" "I"]
def er_big_20 : List Cond := [.fieldLink R_M 87 "EdgeRasterModel" "lastY" "I", .lays R_M "EdgeRasterModel" "thrown" "I", .soleField R_M "thrown", .laysFinal R_M "EdgeRasterModel" "cornerX" "[I", .soleField R_M "cornerX", .laysFinal R_M "EdgeRasterModel" "cornerY" "[I", .soleField R_M "cornerY", .laysFinal R_M "EdgeRasterModel" "depths" "[I", .soleField R_M "depths", .laysFinal R_M "EdgeRasterModel" "nearness" "[I", .soleField R_M "nearness", .laysFinal R_M "EdgeRasterModel" "values" "[I", .soleField R_M "values", .lays R_M "EdgeRasterModel" "left" "I", .soleField R_M "left", .lays R_M "EdgeRasterModel" "top" "I"]
def er_big_21 : List Cond := [.soleField R_M "top", .lays R_M "EdgeRasterModel" "wide" "I", .soleField R_M "wide", .lays R_M "EdgeRasterModel" "high" "I", .soleField R_M "high", .lays R_M "EdgeRasterModel" "walks" "Z", .soleField R_M "walks", .lays R_M "EdgeRasterModel" "looked" "I", .soleField R_M "looked", .lays R_M "EdgeRasterModel" "came" "Z", .soleField R_M "came", .lays R_M "EdgeRasterModel" "lastX" "I", .soleField R_M "lastX", .lays R_M "EdgeRasterModel" "lastY" "I", .soleField R_M "lastY", .superclass R_M "java/lang/Object"]
def er_big_22 : List Cond := [.methodLink R_L 54 y_M_thrown, .instanceMethod y_M_thrown, .selects R_M y_M_thrown y_M_thrown, .code y_M_thrown b_M_thrown 1 (some .int), .methodLink R_L 53 y_M_corner, .instanceMethod y_M_corner, .selects R_M y_M_corner y_M_corner, .code y_M_corner b_M_corner 7 none, .methodLink R_M 35 y_M_in_, .static y_M_in_, .code y_M_in_ b_M_in_ 3 (some .boolean), .constant R_M 39 16777215, .constant R_M 40 8388608, .methodLink R_M 41 y_M_refuse, .instanceMethod y_M_refuse, .code y_M_refuse b_M_refuse 3 (some .boolean)]
def er_big_23 : List Cond := [.methodLink R_L 60 y_M_value, .instanceMethod y_M_value, .selects R_M y_M_value y_M_value, .code y_M_value b_M_value 4 none, .methodLink R_L 64 y_M_window, .instanceMethod y_M_window, .selects R_M y_M_window y_M_window, .code y_M_window b_M_window 5 none, .methodLink R_L 69 y_M_area, .instanceMethod y_M_area, .selects R_M y_M_area y_M_area, .code y_M_area b_M_area 1 (some .long), .methodLink R_M 59 y_M_whole, .instanceMethod y_M_whole, .code y_M_whole b_M_whole 1 (some .long), .methodLink R_M 55 y_M_room]
def er_big_24 : List Cond := [.instanceMethod y_M_room, .code y_M_room b_M_room 9 (some .long), .methodLink R_L 73 y_M_covers, .instanceMethod y_M_covers, .selects R_M y_M_covers y_M_covers, .code y_M_covers b_M_covers 3 (some .boolean), .methodLink R_M 74 y_M_isCovered, .instanceMethod y_M_isCovered, .code y_M_isCovered b_M_isCovered 10 (some .boolean), .methodLink R_M 70 y_M_weightOf, .instanceMethod y_M_weightOf, .code y_M_weightOf b_M_weightOf 4 (some .long), .methodLink R_M 63 y_M_from, .instanceMethod y_M_from, .code y_M_from b_M_from 2 (some .int), .methodLink R_M 67 y_M_to]
def er_big_25 : List Cond := [.instanceMethod y_M_to, .code y_M_to b_M_to 2 (some .int), .methodLink R_L 77 y_M_many, .instanceMethod y_M_many, .selects R_M y_M_many y_M_many, .code y_M_many b_M_many 3 (some .int), .methodLink R_L 81 y_M_walk, .instanceMethod y_M_walk, .selects R_M y_M_walk y_M_walk, .code y_M_walk b_M_walk 1 none, .methodLink R_L 85 y_M_next, .instanceMethod y_M_next, .selects R_M y_M_next y_M_next, .code y_M_next b_M_next 1 (some .int), .constant R_M 90 65536, .methodLink R_L 89 y_M_weight]
def er_big_26 : List Cond := [.instanceMethod y_M_weight, .selects R_M y_M_weight y_M_weight, .code y_M_weight b_M_weight 2 (some .long), .methodLink R_L 92 y_M_depth, .instanceMethod y_M_depth, .selects R_M y_M_depth y_M_depth, .code y_M_depth b_M_depth 5 (some .int), .methodLink R_M 91 y_M_down, .static y_M_down, .code y_M_down b_M_down 4 (some .long), .methodLink R_L 95 y_M_at, .instanceMethod y_M_at, .selects R_M y_M_at y_M_at, .code y_M_at b_M_at 10 (some .int), .constantLong R_M 95 536870912, .arrayClass .long]
def er_big_27 : List Cond := [.sameMethod "java/lang/Throwable" "java/lang/Throwable" "fillInStackTrace" "(I)Ljava/lang/Throwable;"]
def er_big : List Cond := er_big_0 ++ (er_big_1 ++ (er_big_2 ++ (er_big_3 ++ (er_big_4 ++ (er_big_5 ++ (er_big_6 ++ (er_big_7 ++ (er_big_8 ++ (er_big_9 ++ (er_big_10 ++ (er_big_11 ++ (er_big_12 ++ (er_big_13 ++ (er_big_14 ++ (er_big_15 ++ (er_big_16 ++ (er_big_17 ++ (er_big_18 ++ (er_big_19 ++ (er_big_20 ++ (er_big_21 ++ (er_big_22 ++ (er_big_23 ++ (er_big_24 ++ (er_big_25 ++ (er_big_26 ++ (er_big_27)))))))))))))))))))))))))))
def er_nest : List Cond := [.methodLinkNest R_E 9 y_C_init "EdgeRaster", .fieldLinkNest R_E 79 "EdgeRaster$Corner" "x" "I" "EdgeRaster", .fieldLinkNest R_E 82 "EdgeRaster$Corner" "y" "I" "EdgeRaster", .fieldLinkNest R_E 85 "EdgeRaster$Corner" "deep" "I" "EdgeRaster", .fieldLinkNest R_E 88 "EdgeRaster$Corner" "nearness" "I" "EdgeRaster", .fieldLinkNest R_E 102 "EdgeRaster$Corner" "values" "[I" "EdgeRaster", .methodLinkNest R_E 158 y_C_admits "EdgeRaster", .methodLinkNest R_E 154 y_C_layEdge "EdgeRaster", .methodLinkNest R_E 128 y_C_weightAt "EdgeRaster", .methodLinkNest R_E 144 y_C_nearWeightAt "EdgeRaster"]
def w_C_init : List Cond := .code y_C_init b_C_init 1 none :: er_big
def w_C_layEdge : List Cond := .code y_C_layEdge b_C_layEdge 5 none :: er_big
def w_C_weightAt : List Cond := .code y_C_weightAt b_C_weightAt 5 (some .long) :: er_big
def w_C_nearWeightAt : List Cond := .code y_C_nearWeightAt b_C_nearWeightAt 3 (some .long) :: er_big
def w_C_admits : List Cond := .code y_C_admits b_C_admits 3 (some .boolean) :: er_big
def w_E_init : List Cond := .code y_E_init b_E_init 1 none :: er_big
def w_E_corner : List Cond := .code y_E_corner b_E_corner 7 none :: er_big
def w_E_value : List Cond := .code y_E_value b_E_value 4 none :: er_big
def w_E_window : List Cond := .code y_E_window b_E_window 5 none :: er_big
def w_E_area : List Cond := .code y_E_area b_E_area 1 (some .long) :: er_big
def w_E_covers : List Cond := .code y_E_covers b_E_covers 3 (some .boolean) :: er_big
def w_E_many : List Cond := .code y_E_many b_E_many 4 (some .int) :: er_big
def w_E_walk : List Cond := .code y_E_walk b_E_walk 1 none :: er_big
def w_E_next : List Cond := .code y_E_next b_E_next 4 (some .int) :: er_big
def w_E_weight : List Cond := .code y_E_weight b_E_weight 2 (some .long) :: er_big
def w_E_depth : List Cond := .code y_E_depth b_E_depth 3 (some .int) :: er_big
def w_E_at : List Cond := .code y_E_at b_E_at 17 (some .int) :: er_big
def w_E_within : List Cond := .code y_E_within b_E_within 3 (some .boolean) :: er_big
def w_E_isCorner : List Cond := .code y_E_isCorner b_E_isCorner 1 (some .boolean) :: er_big
def w_E_isValue : List Cond := .code y_E_isValue b_E_isValue 1 (some .boolean) :: er_big
def w_E_cornerOf : List Cond := .code y_E_cornerOf b_E_cornerOf 2 (some (.object "EdgeRaster$Corner")) :: er_big
def w_E_endWalk : List Cond := .code y_E_endWalk b_E_endWalk 1 none :: er_big
def w_E_layTriangle : List Cond := .code y_E_layTriangle b_E_layTriangle 1 none :: er_big
def w_E_isCovered : List Cond := .code y_E_isCovered b_E_isCovered 3 (some .boolean) :: er_big
def w_E_firstCovered : List Cond := .code y_E_firstCovered b_E_firstCovered 4 (some .int) :: er_big
def w_E_shareShift : List Cond := .code y_E_shareShift b_E_shareShift 3 (some .int) :: er_big
def w_E_dividedDown : List Cond := .code y_E_dividedDown b_E_dividedDown 4 (some .long) :: er_big
def w_M_init : List Cond := .code y_M_init b_M_init 2 none :: er_big
def w_M_thrown : List Cond := .code y_M_thrown b_M_thrown 1 (some .int) :: er_big
def w_M_refuse : List Cond := .code y_M_refuse b_M_refuse 3 (some .boolean) :: er_big
def w_M_in_ : List Cond := .code y_M_in_ b_M_in_ 3 (some .boolean) :: er_big
def w_M_corner : List Cond := .code y_M_corner b_M_corner 7 none :: er_big
def w_M_value : List Cond := .code y_M_value b_M_value 4 none :: er_big
def w_M_window : List Cond := .code y_M_window b_M_window 5 none :: er_big
def w_M_room : List Cond := .code y_M_room b_M_room 9 (some .long) :: er_big
def w_M_whole : List Cond := .code y_M_whole b_M_whole 1 (some .long) :: er_big
def w_M_area : List Cond := .code y_M_area b_M_area 1 (some .long) :: er_big
def w_M_from : List Cond := .code y_M_from b_M_from 2 (some .int) :: er_big
def w_M_to : List Cond := .code y_M_to b_M_to 2 (some .int) :: er_big
def w_M_weightOf : List Cond := .code y_M_weightOf b_M_weightOf 4 (some .long) :: er_big
def w_M_isCovered : List Cond := .code y_M_isCovered b_M_isCovered 10 (some .boolean) :: er_big
def w_M_covers : List Cond := .code y_M_covers b_M_covers 3 (some .boolean) :: er_big
def w_M_many : List Cond := .code y_M_many b_M_many 3 (some .int) :: er_big
def w_M_walk : List Cond := .code y_M_walk b_M_walk 1 none :: er_big
def w_M_next : List Cond := .code y_M_next b_M_next 1 (some .int) :: er_big
def w_M_weight : List Cond := .code y_M_weight b_M_weight 2 (some .long) :: er_big
def w_M_down : List Cond := .code y_M_down b_M_down 4 (some .long) :: er_big
def w_M_depth : List Cond := .code y_M_depth b_M_depth 5 (some .int) :: er_big
def w_M_at : List Cond := .code y_M_at b_M_at 10 (some .int) :: er_big
def w_L_corner : List Cond := .codeWith y_L_corner b_L_corner 7 (some .int) [(0, 11, 14, 13)] :: er_big
def w_L_value : List Cond := .codeWith y_L_value b_L_value 5 (some .int) [(0, 7, 10, 13)] :: er_big
def w_L_window : List Cond := .codeWith y_L_window b_L_window 6 (some .int) [(0, 9, 12, 13)] :: er_big
def w_L_covers : List Cond := .codeWith y_L_covers b_L_covers 5 (some .int) [(0, 17, 20, 13)] :: er_big
def w_L_next : List Cond := .codeWith y_L_next b_L_next 3 (some .int) [(0, 8, 11, 31)] :: er_big
def w_L_weight : List Cond := .codeWith y_L_weight b_L_weight 4 (some .int) [(0, 8, 11, 13), (0, 8, 14, 31)] :: er_big
def w_L_depth : List Cond := .codeWith y_L_depth b_L_depth 3 (some .int) [(0, 8, 11, 31)] :: er_big
def w_L_at : List Cond := .codeWith y_L_at b_L_at 4 (some .int) [(0, 9, 12, 13), (0, 9, 15, 31)] :: er_big
def w_J_floorDiv : List Cond := .code y_J_floorDiv b_J_floorDiv 6 (some .long) :: er_big
end
section
-- ROWS THAT A PROGRAM DECIDES
theorem n_C : ∀ a, a < 10 → ∀ b, b < 10 → a ≠ b → (F_C a).2.1 ≠ (F_C b).2.1 := by decide +kernel
theorem t_C_ok : ∀ k, k < 10 → parseFieldDescriptor (F_C k).2.2.1 = some (t_C k) := by decide +kernel
theorem n_E : ∀ a, a < 12 → ∀ b, b < 12 → a ≠ b → (F_E a).2.1 ≠ (F_E b).2.1 := by decide +kernel
theorem t_E_ok : ∀ k, k < 12 → parseFieldDescriptor (F_E k).2.2.1 = some (t_E k) := by decide +kernel
theorem n_M : ∀ a, a < 15 → ∀ b, b < 15 → a ≠ b → (F_M a).2.1 ≠ (F_M b).2.1 := by decide +kernel
theorem t_M_ok : ∀ k, k < 15 → parseFieldDescriptor (F_M k).2.2.1 = some (t_M k) := by decide +kernel
theorem er_i0 {w : Cond} (h : w ∈ er_big_0) : w ∈ er_big := List.mem_append_left _ h
theorem er_i1 {w : Cond} (h : w ∈ er_big_1) : w ∈ er_big := List.mem_append_right _ (List.mem_append_left _ h)
theorem er_i2 {w : Cond} (h : w ∈ er_big_2) : w ∈ er_big := List.mem_append_right _ (List.mem_append_right _ (List.mem_append_left _ h))
theorem er_i3 {w : Cond} (h : w ∈ er_big_3) : w ∈ er_big := List.mem_append_right _ (List.mem_append_right _ (List.mem_append_right _ (List.mem_append_left _ h)))
theorem er_i4 {w : Cond} (h : w ∈ er_big_4) : w ∈ er_big := List.mem_append_right _ (List.mem_append_right _ (List.mem_append_right _ (List.mem_append_right _ (List.mem_append_left _ h))))
theorem er_i5 {w : Cond} (h : w ∈ er_big_5) : w ∈ er_big := List.mem_append_right _ (List.mem_append_right _ (List.mem_append_right _ (List.mem_append_right _ (List.mem_append_right _ (List.mem_append_left _ h)))))
theorem er_i6 {w : Cond} (h : w ∈ er_big_6) : w ∈ er_big := List.mem_append_right _ (List.mem_append_right _ (List.mem_append_right _ (List.mem_append_right _ (List.mem_append_right _ (List.mem_append_right _ (List.mem_append_left _ h))))))
theorem er_i7 {w : Cond} (h : w ∈ er_big_7) : w ∈ er_big := List.mem_append_right _ (List.mem_append_right _ (List.mem_append_right _ (List.mem_append_right _ (List.mem_append_right _ (List.mem_append_right _ (List.mem_append_right _ (List.mem_append_left _ h)))))))
theorem er_i8 {w : Cond} (h : w ∈ er_big_8) : w ∈ er_big := List.mem_append_right _ (List.mem_append_right _ (List.mem_append_right _ (List.mem_append_right _ (List.mem_append_right _ (List.mem_append_right _ (List.mem_append_right _ (List.mem_append_right _ (List.mem_append_left _ h))))))))
theorem er_i9 {w : Cond} (h : w ∈ er_big_9) : w ∈ er_big := List.mem_append_right _ (List.mem_append_right _ (List.mem_append_right _ (List.mem_append_right _ (List.mem_append_right _ (List.mem_append_right _ (List.mem_append_right _ (List.mem_append_right _ (List.mem_append_right _ (List.mem_append_left _ h)))))))))
theorem er_i10 {w : Cond} (h : w ∈ er_big_10) : w ∈ er_big := List.mem_append_right _ (List.mem_append_right _ (List.mem_append_right _ (List.mem_append_right _ (List.mem_append_right _ (List.mem_append_right _ (List.mem_append_right _ (List.mem_append_right _ (List.mem_append_right _ (List.mem_append_right _ (List.mem_append_left _ h))))))))))
theorem er_i11 {w : Cond} (h : w ∈ er_big_11) : w ∈ er_big := List.mem_append_right _ (List.mem_append_right _ (List.mem_append_right _ (List.mem_append_right _ (List.mem_append_right _ (List.mem_append_right _ (List.mem_append_right _ (List.mem_append_right _ (List.mem_append_right _ (List.mem_append_right _ (List.mem_append_right _ (List.mem_append_left _ h)))))))))))
theorem er_i12 {w : Cond} (h : w ∈ er_big_12) : w ∈ er_big := List.mem_append_right _ (List.mem_append_right _ (List.mem_append_right _ (List.mem_append_right _ (List.mem_append_right _ (List.mem_append_right _ (List.mem_append_right _ (List.mem_append_right _ (List.mem_append_right _ (List.mem_append_right _ (List.mem_append_right _ (List.mem_append_right _ (List.mem_append_left _ h))))))))))))
theorem er_i13 {w : Cond} (h : w ∈ er_big_13) : w ∈ er_big := List.mem_append_right _ (List.mem_append_right _ (List.mem_append_right _ (List.mem_append_right _ (List.mem_append_right _ (List.mem_append_right _ (List.mem_append_right _ (List.mem_append_right _ (List.mem_append_right _ (List.mem_append_right _ (List.mem_append_right _ (List.mem_append_right _ (List.mem_append_right _ (List.mem_append_left _ h)))))))))))))
theorem er_i14 {w : Cond} (h : w ∈ er_big_14) : w ∈ er_big := List.mem_append_right _ (List.mem_append_right _ (List.mem_append_right _ (List.mem_append_right _ (List.mem_append_right _ (List.mem_append_right _ (List.mem_append_right _ (List.mem_append_right _ (List.mem_append_right _ (List.mem_append_right _ (List.mem_append_right _ (List.mem_append_right _ (List.mem_append_right _ (List.mem_append_right _ (List.mem_append_left _ h))))))))))))))
theorem er_i15 {w : Cond} (h : w ∈ er_big_15) : w ∈ er_big := List.mem_append_right _ (List.mem_append_right _ (List.mem_append_right _ (List.mem_append_right _ (List.mem_append_right _ (List.mem_append_right _ (List.mem_append_right _ (List.mem_append_right _ (List.mem_append_right _ (List.mem_append_right _ (List.mem_append_right _ (List.mem_append_right _ (List.mem_append_right _ (List.mem_append_right _ (List.mem_append_right _ (List.mem_append_left _ h)))))))))))))))
theorem er_i16 {w : Cond} (h : w ∈ er_big_16) : w ∈ er_big := List.mem_append_right _ (List.mem_append_right _ (List.mem_append_right _ (List.mem_append_right _ (List.mem_append_right _ (List.mem_append_right _ (List.mem_append_right _ (List.mem_append_right _ (List.mem_append_right _ (List.mem_append_right _ (List.mem_append_right _ (List.mem_append_right _ (List.mem_append_right _ (List.mem_append_right _ (List.mem_append_right _ (List.mem_append_right _ (List.mem_append_left _ h))))))))))))))))
theorem er_i17 {w : Cond} (h : w ∈ er_big_17) : w ∈ er_big := List.mem_append_right _ (List.mem_append_right _ (List.mem_append_right _ (List.mem_append_right _ (List.mem_append_right _ (List.mem_append_right _ (List.mem_append_right _ (List.mem_append_right _ (List.mem_append_right _ (List.mem_append_right _ (List.mem_append_right _ (List.mem_append_right _ (List.mem_append_right _ (List.mem_append_right _ (List.mem_append_right _ (List.mem_append_right _ (List.mem_append_right _ (List.mem_append_left _ h)))))))))))))))))
theorem er_i18 {w : Cond} (h : w ∈ er_big_18) : w ∈ er_big := List.mem_append_right _ (List.mem_append_right _ (List.mem_append_right _ (List.mem_append_right _ (List.mem_append_right _ (List.mem_append_right _ (List.mem_append_right _ (List.mem_append_right _ (List.mem_append_right _ (List.mem_append_right _ (List.mem_append_right _ (List.mem_append_right _ (List.mem_append_right _ (List.mem_append_right _ (List.mem_append_right _ (List.mem_append_right _ (List.mem_append_right _ (List.mem_append_right _ (List.mem_append_left _ h))))))))))))))))))
theorem er_i19 {w : Cond} (h : w ∈ er_big_19) : w ∈ er_big := List.mem_append_right _ (List.mem_append_right _ (List.mem_append_right _ (List.mem_append_right _ (List.mem_append_right _ (List.mem_append_right _ (List.mem_append_right _ (List.mem_append_right _ (List.mem_append_right _ (List.mem_append_right _ (List.mem_append_right _ (List.mem_append_right _ (List.mem_append_right _ (List.mem_append_right _ (List.mem_append_right _ (List.mem_append_right _ (List.mem_append_right _ (List.mem_append_right _ (List.mem_append_right _ (List.mem_append_left _ h)))))))))))))))))))
theorem er_i20 {w : Cond} (h : w ∈ er_big_20) : w ∈ er_big := List.mem_append_right _ (List.mem_append_right _ (List.mem_append_right _ (List.mem_append_right _ (List.mem_append_right _ (List.mem_append_right _ (List.mem_append_right _ (List.mem_append_right _ (List.mem_append_right _ (List.mem_append_right _ (List.mem_append_right _ (List.mem_append_right _ (List.mem_append_right _ (List.mem_append_right _ (List.mem_append_right _ (List.mem_append_right _ (List.mem_append_right _ (List.mem_append_right _ (List.mem_append_right _ (List.mem_append_right _ (List.mem_append_left _ h))))))))))))))))))))
theorem er_i21 {w : Cond} (h : w ∈ er_big_21) : w ∈ er_big := List.mem_append_right _ (List.mem_append_right _ (List.mem_append_right _ (List.mem_append_right _ (List.mem_append_right _ (List.mem_append_right _ (List.mem_append_right _ (List.mem_append_right _ (List.mem_append_right _ (List.mem_append_right _ (List.mem_append_right _ (List.mem_append_right _ (List.mem_append_right _ (List.mem_append_right _ (List.mem_append_right _ (List.mem_append_right _ (List.mem_append_right _ (List.mem_append_right _ (List.mem_append_right _ (List.mem_append_right _ (List.mem_append_right _ (List.mem_append_left _ h)))))))))))))))))))))
theorem er_i22 {w : Cond} (h : w ∈ er_big_22) : w ∈ er_big := List.mem_append_right _ (List.mem_append_right _ (List.mem_append_right _ (List.mem_append_right _ (List.mem_append_right _ (List.mem_append_right _ (List.mem_append_right _ (List.mem_append_right _ (List.mem_append_right _ (List.mem_append_right _ (List.mem_append_right _ (List.mem_append_right _ (List.mem_append_right _ (List.mem_append_right _ (List.mem_append_right _ (List.mem_append_right _ (List.mem_append_right _ (List.mem_append_right _ (List.mem_append_right _ (List.mem_append_right _ (List.mem_append_right _ (List.mem_append_right _ (List.mem_append_left _ h))))))))))))))))))))))
theorem er_i23 {w : Cond} (h : w ∈ er_big_23) : w ∈ er_big := List.mem_append_right _ (List.mem_append_right _ (List.mem_append_right _ (List.mem_append_right _ (List.mem_append_right _ (List.mem_append_right _ (List.mem_append_right _ (List.mem_append_right _ (List.mem_append_right _ (List.mem_append_right _ (List.mem_append_right _ (List.mem_append_right _ (List.mem_append_right _ (List.mem_append_right _ (List.mem_append_right _ (List.mem_append_right _ (List.mem_append_right _ (List.mem_append_right _ (List.mem_append_right _ (List.mem_append_right _ (List.mem_append_right _ (List.mem_append_right _ (List.mem_append_right _ (List.mem_append_left _ h)))))))))))))))))))))))
theorem er_i24 {w : Cond} (h : w ∈ er_big_24) : w ∈ er_big := List.mem_append_right _ (List.mem_append_right _ (List.mem_append_right _ (List.mem_append_right _ (List.mem_append_right _ (List.mem_append_right _ (List.mem_append_right _ (List.mem_append_right _ (List.mem_append_right _ (List.mem_append_right _ (List.mem_append_right _ (List.mem_append_right _ (List.mem_append_right _ (List.mem_append_right _ (List.mem_append_right _ (List.mem_append_right _ (List.mem_append_right _ (List.mem_append_right _ (List.mem_append_right _ (List.mem_append_right _ (List.mem_append_right _ (List.mem_append_right _ (List.mem_append_right _ (List.mem_append_right _ (List.mem_append_left _ h))))))))))))))))))))))))
theorem er_i25 {w : Cond} (h : w ∈ er_big_25) : w ∈ er_big := List.mem_append_right _ (List.mem_append_right _ (List.mem_append_right _ (List.mem_append_right _ (List.mem_append_right _ (List.mem_append_right _ (List.mem_append_right _ (List.mem_append_right _ (List.mem_append_right _ (List.mem_append_right _ (List.mem_append_right _ (List.mem_append_right _ (List.mem_append_right _ (List.mem_append_right _ (List.mem_append_right _ (List.mem_append_right _ (List.mem_append_right _ (List.mem_append_right _ (List.mem_append_right _ (List.mem_append_right _ (List.mem_append_right _ (List.mem_append_right _ (List.mem_append_right _ (List.mem_append_right _ (List.mem_append_right _ (List.mem_append_left _ h)))))))))))))))))))))))))
theorem er_i26 {w : Cond} (h : w ∈ er_big_26) : w ∈ er_big := List.mem_append_right _ (List.mem_append_right _ (List.mem_append_right _ (List.mem_append_right _ (List.mem_append_right _ (List.mem_append_right _ (List.mem_append_right _ (List.mem_append_right _ (List.mem_append_right _ (List.mem_append_right _ (List.mem_append_right _ (List.mem_append_right _ (List.mem_append_right _ (List.mem_append_right _ (List.mem_append_right _ (List.mem_append_right _ (List.mem_append_right _ (List.mem_append_right _ (List.mem_append_right _ (List.mem_append_right _ (List.mem_append_right _ (List.mem_append_right _ (List.mem_append_right _ (List.mem_append_right _ (List.mem_append_right _ (List.mem_append_right _ (List.mem_append_left _ h))))))))))))))))))))))))))
theorem er_i27 {w : Cond} (h : w ∈ er_big_27) : w ∈ er_big := List.mem_append_right _ (List.mem_append_right _ (List.mem_append_right _ (List.mem_append_right _ (List.mem_append_right _ (List.mem_append_right _ (List.mem_append_right _ (List.mem_append_right _ (List.mem_append_right _ (List.mem_append_right _ (List.mem_append_right _ (List.mem_append_right _ (List.mem_append_right _ (List.mem_append_right _ (List.mem_append_right _ (List.mem_append_right _ (List.mem_append_right _ (List.mem_append_right _ (List.mem_append_right _ (List.mem_append_right _ (List.mem_append_right _ (List.mem_append_right _ (List.mem_append_right _ (List.mem_append_right _ (List.mem_append_right _ (List.mem_append_right _ (List.mem_append_right _ (h)))))))))))))))))))))))))))
theorem k_0 : Cond.selects R_E y_E_isCovered y_E_isCovered ∈ er_big := er_i0 (List.mem_of_getElem? (i := 0) rfl)
theorem k_1 : Cond.selects R_C y_C_admits y_C_admits ∈ er_big := er_i0 (List.mem_of_getElem? (i := 1) rfl)
theorem k_2 : Cond.selects R_C y_C_weightAt y_C_weightAt ∈ er_big := er_i0 (List.mem_of_getElem? (i := 2) rfl)
theorem k_3 : Cond.selects "java/lang/Throwable" ⟨"java/lang/Throwable", "fillInStackTrace", "(I)Ljava/lang/Throwable;"⟩ ⟨"java/lang/Throwable", "fillInStackTrace", "(I)Ljava/lang/Throwable;"⟩ ∈ er_big := er_i0 (List.mem_of_getElem? (i := 3) rfl)
theorem k_4 : Cond.selects R_E y_E_cornerOf y_E_cornerOf ∈ er_big := er_i0 (List.mem_of_getElem? (i := 4) rfl)
theorem k_5 : Cond.selects R_E y_E_layTriangle y_E_layTriangle ∈ er_big := er_i0 (List.mem_of_getElem? (i := 5) rfl)
theorem k_6 : Cond.selects R_C y_C_layEdge y_C_layEdge ∈ er_big := er_i0 (List.mem_of_getElem? (i := 6) rfl)
theorem k_7 : Cond.selects R_E y_E_endWalk y_E_endWalk ∈ er_big := er_i0 (List.mem_of_getElem? (i := 7) rfl)
theorem k_8 : Cond.selects R_E y_E_firstCovered y_E_firstCovered ∈ er_big := er_i0 (List.mem_of_getElem? (i := 8) rfl)
theorem k_9 : Cond.selects R_C y_C_nearWeightAt y_C_nearWeightAt ∈ er_big := er_i0 (List.mem_of_getElem? (i := 9) rfl)
theorem k_10 : Cond.selects R_M y_M_refuse y_M_refuse ∈ er_big := er_i0 (List.mem_of_getElem? (i := 10) rfl)
theorem k_11 : Cond.selects R_M y_M_whole y_M_whole ∈ er_big := er_i0 (List.mem_of_getElem? (i := 11) rfl)
theorem k_12 : Cond.selects R_M y_M_room y_M_room ∈ er_big := er_i0 (List.mem_of_getElem? (i := 12) rfl)
theorem k_13 : Cond.selects R_M y_M_isCovered y_M_isCovered ∈ er_big := er_i0 (List.mem_of_getElem? (i := 13) rfl)
theorem k_14 : Cond.selects R_M y_M_weightOf y_M_weightOf ∈ er_big := er_i0 (List.mem_of_getElem? (i := 14) rfl)
theorem k_15 : Cond.selects R_M y_M_from y_M_from ∈ er_big := er_i0 (List.mem_of_getElem? (i := 15) rfl)
theorem k_16 : Cond.selects R_M y_M_to y_M_to ∈ er_big := er_i1 (List.mem_of_getElem? (i := 0) rfl)
theorem k_17 : Cond.initialized R_L ∈ er_big := er_i1 (List.mem_of_getElem? (i := 1) rfl)
theorem k_18 : Cond.initialized R_E ∈ er_big := er_i1 (List.mem_of_getElem? (i := 2) rfl)
theorem k_19 : Cond.initialized R_C ∈ er_big := er_i1 (List.mem_of_getElem? (i := 3) rfl)
theorem k_20 : Cond.initialized R_M ∈ er_big := er_i1 (List.mem_of_getElem? (i := 4) rfl)
theorem k_21 : Cond.initialized "java/lang/Throwable" ∈ er_big := er_i1 (List.mem_of_getElem? (i := 5) rfl)
theorem k_22 : Cond.initialized "java/lang/Exception" ∈ er_big := er_i1 (List.mem_of_getElem? (i := 6) rfl)
theorem k_23 : Cond.initialized "java/lang/RuntimeException" ∈ er_big := er_i1 (List.mem_of_getElem? (i := 7) rfl)
theorem k_24 : Cond.initialized "java/lang/IllegalArgumentException" ∈ er_big := er_i1 (List.mem_of_getElem? (i := 8) rfl)
theorem k_25 : Cond.initialized "java/lang/IllegalStateException" ∈ er_big := er_i1 (List.mem_of_getElem? (i := 9) rfl)
theorem k_26 : Cond.initialized "java/lang/Math" ∈ er_big := er_i1 (List.mem_of_getElem? (i := 10) rfl)
theorem k_27 : Cond.classLink R_L 8 R_E ∈ er_big := er_i1 (List.mem_of_getElem? (i := 11) rfl)
theorem k_28 : Cond.instantiable R_E 12 ∈ er_big := er_i1 (List.mem_of_getElem? (i := 12) rfl)
theorem k_29 : Cond.methodLink R_L 44 y_E_init ∈ er_big := er_i1 (List.mem_of_getElem? (i := 13) rfl)
theorem k_30 : Cond.instanceMethod y_E_init ∈ er_big := er_i1 (List.mem_of_getElem? (i := 14) rfl)
theorem k_31 : Cond.code y_E_init b_E_init 1 none ∈ er_big := er_i1 (List.mem_of_getElem? (i := 15) rfl)
theorem k_32 : Cond.methodLink R_E 1 objectInit ∈ er_big := er_i2 (List.mem_of_getElem? (i := 0) rfl)
theorem k_33 : Cond.instanceMethod objectInit ∈ er_big := er_i2 (List.mem_of_getElem? (i := 1) rfl)
theorem k_34 : Cond.code objectInit ⟨#[0xb1]⟩ 1 none ∈ er_big := er_i2 (List.mem_of_getElem? (i := 2) rfl)
theorem k_35 : Cond.classLink R_E 7 R_C ∈ er_big := er_i2 (List.mem_of_getElem? (i := 3) rfl)
theorem k_36 : Cond.instantiable R_C 10 ∈ er_big := er_i2 (List.mem_of_getElem? (i := 4) rfl)
theorem k_37 : Cond.instanceMethod y_C_init ∈ er_big := er_i2 (List.mem_of_getElem? (i := 5) rfl)
theorem k_38 : Cond.code y_C_init b_C_init 1 none ∈ er_big := er_i2 (List.mem_of_getElem? (i := 6) rfl)
theorem k_39 : Cond.methodLink R_C 3 objectInit ∈ er_big := er_i2 (List.mem_of_getElem? (i := 7) rfl)
theorem k_40 : Cond.fieldLink R_C 9 "EdgeRaster$Corner" "x" "I" ∈ er_big := er_i2 (List.mem_of_getElem? (i := 8) rfl)
theorem k_41 : Cond.fieldLink R_C 15 "EdgeRaster$Corner" "y" "I" ∈ er_big := er_i2 (List.mem_of_getElem? (i := 9) rfl)
theorem k_42 : Cond.fieldLink R_C 18 "EdgeRaster$Corner" "deep" "I" ∈ er_big := er_i2 (List.mem_of_getElem? (i := 10) rfl)
theorem k_43 : Cond.fieldLink R_C 21 "EdgeRaster$Corner" "nearness" "I" ∈ er_big := er_i2 (List.mem_of_getElem? (i := 11) rfl)
theorem k_44 : Cond.fieldLink R_C 24 "EdgeRaster$Corner" "values" "[I" ∈ er_big := er_i2 (List.mem_of_getElem? (i := 12) rfl)
theorem k_45 : Cond.fieldLink R_C 28 "EdgeRaster$Corner" "edgeX" "I" ∈ er_big := er_i2 (List.mem_of_getElem? (i := 13) rfl)
theorem k_46 : Cond.fieldLink R_C 31 "EdgeRaster$Corner" "edgeY" "I" ∈ er_big := er_i2 (List.mem_of_getElem? (i := 14) rfl)
theorem k_47 : Cond.fieldLink R_C 34 "EdgeRaster$Corner" "edgeAcross" "I" ∈ er_big := er_i2 (List.mem_of_getElem? (i := 15) rfl)
theorem k_48 : Cond.fieldLink R_C 37 "EdgeRaster$Corner" "edgeDown" "I" ∈ er_big := er_i3 (List.mem_of_getElem? (i := 0) rfl)
theorem k_49 : Cond.fieldLink R_C 40 "EdgeRaster$Corner" "leastWeight" "I" ∈ er_big := er_i3 (List.mem_of_getElem? (i := 1) rfl)
theorem k_50 : Cond.lays R_C "EdgeRaster$Corner" "x" "I" ∈ er_big := er_i3 (List.mem_of_getElem? (i := 2) rfl)
theorem k_51 : Cond.soleField R_C "x" ∈ er_big := er_i3 (List.mem_of_getElem? (i := 3) rfl)
theorem k_52 : Cond.lays R_C "EdgeRaster$Corner" "y" "I" ∈ er_big := er_i3 (List.mem_of_getElem? (i := 4) rfl)
theorem k_53 : Cond.soleField R_C "y" ∈ er_big := er_i3 (List.mem_of_getElem? (i := 5) rfl)
theorem k_54 : Cond.lays R_C "EdgeRaster$Corner" "deep" "I" ∈ er_big := er_i3 (List.mem_of_getElem? (i := 6) rfl)
theorem k_55 : Cond.soleField R_C "deep" ∈ er_big := er_i3 (List.mem_of_getElem? (i := 7) rfl)
theorem k_56 : Cond.lays R_C "EdgeRaster$Corner" "nearness" "I" ∈ er_big := er_i3 (List.mem_of_getElem? (i := 8) rfl)
theorem k_57 : Cond.soleField R_C "nearness" ∈ er_big := er_i3 (List.mem_of_getElem? (i := 9) rfl)
theorem k_58 : Cond.laysFinal R_C "EdgeRaster$Corner" "values" "[I" ∈ er_big := er_i3 (List.mem_of_getElem? (i := 10) rfl)
theorem k_59 : Cond.soleField R_C "values" ∈ er_big := er_i3 (List.mem_of_getElem? (i := 11) rfl)
theorem k_60 : Cond.lays R_C "EdgeRaster$Corner" "edgeX" "I" ∈ er_big := er_i3 (List.mem_of_getElem? (i := 12) rfl)
theorem k_61 : Cond.soleField R_C "edgeX" ∈ er_big := er_i3 (List.mem_of_getElem? (i := 13) rfl)
theorem k_62 : Cond.lays R_C "EdgeRaster$Corner" "edgeY" "I" ∈ er_big := er_i3 (List.mem_of_getElem? (i := 14) rfl)
theorem k_63 : Cond.soleField R_C "edgeY" ∈ er_big := er_i3 (List.mem_of_getElem? (i := 15) rfl)
theorem k_64 : Cond.lays R_C "EdgeRaster$Corner" "edgeAcross" "I" ∈ er_big := er_i4 (List.mem_of_getElem? (i := 0) rfl)
theorem k_65 : Cond.soleField R_C "edgeAcross" ∈ er_big := er_i4 (List.mem_of_getElem? (i := 1) rfl)
theorem k_66 : Cond.lays R_C "EdgeRaster$Corner" "edgeDown" "I" ∈ er_big := er_i4 (List.mem_of_getElem? (i := 2) rfl)
theorem k_67 : Cond.soleField R_C "edgeDown" ∈ er_big := er_i4 (List.mem_of_getElem? (i := 3) rfl)
theorem k_68 : Cond.lays R_C "EdgeRaster$Corner" "leastWeight" "I" ∈ er_big := er_i4 (List.mem_of_getElem? (i := 4) rfl)
theorem k_69 : Cond.soleField R_C "leastWeight" ∈ er_big := er_i4 (List.mem_of_getElem? (i := 5) rfl)
theorem k_70 : Cond.superclass R_C "java/lang/Object" ∈ er_big := er_i4 (List.mem_of_getElem? (i := 6) rfl)
theorem k_71 : Cond.arrayClass .int ∈ er_big := er_i4 (List.mem_of_getElem? (i := 7) rfl)
theorem k_72 : Cond.fieldLink R_E 10 "EdgeRaster" "corner0" "LEdgeRaster$Corner;" ∈ er_big := er_i4 (List.mem_of_getElem? (i := 8) rfl)
theorem k_73 : Cond.fieldLink R_E 16 "EdgeRaster" "corner1" "LEdgeRaster$Corner;" ∈ er_big := er_i4 (List.mem_of_getElem? (i := 9) rfl)
theorem k_74 : Cond.fieldLink R_E 19 "EdgeRaster" "corner2" "LEdgeRaster$Corner;" ∈ er_big := er_i4 (List.mem_of_getElem? (i := 10) rfl)
theorem k_75 : Cond.fieldLink R_E 22 "EdgeRaster" "signedArea" "J" ∈ er_big := er_i4 (List.mem_of_getElem? (i := 11) rfl)
theorem k_76 : Cond.fieldLink R_E 26 "EdgeRaster" "windowX" "I" ∈ er_big := er_i4 (List.mem_of_getElem? (i := 12) rfl)
theorem k_77 : Cond.fieldLink R_E 30 "EdgeRaster" "windowY" "I" ∈ er_big := er_i4 (List.mem_of_getElem? (i := 13) rfl)
theorem k_78 : Cond.fieldLink R_E 33 "EdgeRaster" "windowWide" "I" ∈ er_big := er_i4 (List.mem_of_getElem? (i := 14) rfl)
theorem k_79 : Cond.fieldLink R_E 36 "EdgeRaster" "windowHigh" "I" ∈ er_big := er_i4 (List.mem_of_getElem? (i := 15) rfl)
theorem k_80 : Cond.fieldLink R_E 39 "EdgeRaster" "walking" "Z" ∈ er_big := er_i5 (List.mem_of_getElem? (i := 0) rfl)
theorem k_81 : Cond.fieldLink R_E 43 "EdgeRaster" "onPlace" "Z" ∈ er_big := er_i5 (List.mem_of_getElem? (i := 1) rfl)
theorem k_82 : Cond.fieldLink R_E 46 "EdgeRaster" "lastX" "I" ∈ er_big := er_i5 (List.mem_of_getElem? (i := 2) rfl)
theorem k_83 : Cond.fieldLink R_E 49 "EdgeRaster" "lastY" "I" ∈ er_big := er_i5 (List.mem_of_getElem? (i := 3) rfl)
theorem k_84 : Cond.laysFinal R_E "EdgeRaster" "corner0" "LEdgeRaster$Corner;" ∈ er_big := er_i5 (List.mem_of_getElem? (i := 4) rfl)
theorem k_85 : Cond.soleField R_E "corner0" ∈ er_big := er_i5 (List.mem_of_getElem? (i := 5) rfl)
theorem k_86 : Cond.laysFinal R_E "EdgeRaster" "corner1" "LEdgeRaster$Corner;" ∈ er_big := er_i5 (List.mem_of_getElem? (i := 6) rfl)
theorem k_87 : Cond.soleField R_E "corner1" ∈ er_big := er_i5 (List.mem_of_getElem? (i := 7) rfl)
theorem k_88 : Cond.laysFinal R_E "EdgeRaster" "corner2" "LEdgeRaster$Corner;" ∈ er_big := er_i5 (List.mem_of_getElem? (i := 8) rfl)
theorem k_89 : Cond.soleField R_E "corner2" ∈ er_big := er_i5 (List.mem_of_getElem? (i := 9) rfl)
theorem k_90 : Cond.lays R_E "EdgeRaster" "signedArea" "J" ∈ er_big := er_i5 (List.mem_of_getElem? (i := 10) rfl)
theorem k_91 : Cond.soleField R_E "signedArea" ∈ er_big := er_i5 (List.mem_of_getElem? (i := 11) rfl)
theorem k_92 : Cond.lays R_E "EdgeRaster" "windowX" "I" ∈ er_big := er_i5 (List.mem_of_getElem? (i := 12) rfl)
theorem k_93 : Cond.soleField R_E "windowX" ∈ er_big := er_i5 (List.mem_of_getElem? (i := 13) rfl)
theorem k_94 : Cond.lays R_E "EdgeRaster" "windowY" "I" ∈ er_big := er_i5 (List.mem_of_getElem? (i := 14) rfl)
theorem k_95 : Cond.soleField R_E "windowY" ∈ er_big := er_i5 (List.mem_of_getElem? (i := 15) rfl)
theorem k_96 : Cond.lays R_E "EdgeRaster" "windowWide" "I" ∈ er_big := er_i6 (List.mem_of_getElem? (i := 0) rfl)
theorem k_97 : Cond.soleField R_E "windowWide" ∈ er_big := er_i6 (List.mem_of_getElem? (i := 1) rfl)
theorem k_98 : Cond.lays R_E "EdgeRaster" "windowHigh" "I" ∈ er_big := er_i6 (List.mem_of_getElem? (i := 2) rfl)
theorem k_99 : Cond.soleField R_E "windowHigh" ∈ er_big := er_i6 (List.mem_of_getElem? (i := 3) rfl)
theorem k_100 : Cond.lays R_E "EdgeRaster" "walking" "Z" ∈ er_big := er_i6 (List.mem_of_getElem? (i := 4) rfl)
theorem k_101 : Cond.soleField R_E "walking" ∈ er_big := er_i6 (List.mem_of_getElem? (i := 5) rfl)
theorem k_102 : Cond.lays R_E "EdgeRaster" "onPlace" "Z" ∈ er_big := er_i6 (List.mem_of_getElem? (i := 6) rfl)
theorem k_103 : Cond.soleField R_E "onPlace" ∈ er_big := er_i6 (List.mem_of_getElem? (i := 7) rfl)
theorem k_104 : Cond.lays R_E "EdgeRaster" "lastX" "I" ∈ er_big := er_i6 (List.mem_of_getElem? (i := 8) rfl)
theorem k_105 : Cond.soleField R_E "lastX" ∈ er_big := er_i6 (List.mem_of_getElem? (i := 9) rfl)
theorem k_106 : Cond.lays R_E "EdgeRaster" "lastY" "I" ∈ er_big := er_i6 (List.mem_of_getElem? (i := 10) rfl)
theorem k_107 : Cond.soleField R_E "lastY" ∈ er_big := er_i6 (List.mem_of_getElem? (i := 11) rfl)
theorem k_108 : Cond.superclass R_E "java/lang/Object" ∈ er_big := er_i6 (List.mem_of_getElem? (i := 12) rfl)
theorem k_109 : Cond.methodLink R_L 65 y_E_area ∈ er_big := er_i6 (List.mem_of_getElem? (i := 13) rfl)
theorem k_110 : Cond.instanceMethod y_E_area ∈ er_big := er_i6 (List.mem_of_getElem? (i := 14) rfl)
theorem k_111 : Cond.selects R_E y_E_area y_E_area ∈ er_big := er_i6 (List.mem_of_getElem? (i := 15) rfl)
theorem k_112 : Cond.code y_E_area b_E_area 1 (some .long) ∈ er_big := er_i7 (List.mem_of_getElem? (i := 0) rfl)
theorem k_113 : Cond.methodLink R_L 74 y_E_many ∈ er_big := er_i7 (List.mem_of_getElem? (i := 1) rfl)
theorem k_114 : Cond.instanceMethod y_E_many ∈ er_big := er_i7 (List.mem_of_getElem? (i := 2) rfl)
theorem k_115 : Cond.selects R_E y_E_many y_E_many ∈ er_big := er_i7 (List.mem_of_getElem? (i := 3) rfl)
theorem k_116 : Cond.code y_E_many b_E_many 4 (some .int) ∈ er_big := er_i7 (List.mem_of_getElem? (i := 4) rfl)
theorem k_117 : Cond.methodLink R_E 112 y_E_isCovered ∈ er_big := er_i7 (List.mem_of_getElem? (i := 5) rfl)
theorem k_118 : Cond.instanceMethod y_E_isCovered ∈ er_big := er_i7 (List.mem_of_getElem? (i := 6) rfl)
theorem k_119 : Cond.code y_E_isCovered b_E_isCovered 3 (some .boolean) ∈ er_big := er_i7 (List.mem_of_getElem? (i := 7) rfl)
theorem k_120 : Cond.instanceMethod y_C_admits ∈ er_big := er_i7 (List.mem_of_getElem? (i := 8) rfl)
theorem k_121 : Cond.code y_C_admits b_C_admits 3 (some .boolean) ∈ er_big := er_i7 (List.mem_of_getElem? (i := 9) rfl)
theorem k_122 : Cond.methodLink R_C 43 y_C_weightAt ∈ er_big := er_i7 (List.mem_of_getElem? (i := 10) rfl)
theorem k_123 : Cond.instanceMethod y_C_weightAt ∈ er_big := er_i7 (List.mem_of_getElem? (i := 11) rfl)
theorem k_124 : Cond.code y_C_weightAt b_C_weightAt 5 (some .long) ∈ er_big := er_i7 (List.mem_of_getElem? (i := 12) rfl)
theorem k_125 : Cond.methodLink R_L 78 y_E_walk ∈ er_big := er_i7 (List.mem_of_getElem? (i := 13) rfl)
theorem k_126 : Cond.instanceMethod y_E_walk ∈ er_big := er_i7 (List.mem_of_getElem? (i := 14) rfl)
theorem k_127 : Cond.selects R_E y_E_walk y_E_walk ∈ er_big := er_i7 (List.mem_of_getElem? (i := 15) rfl)
theorem k_128 : Cond.code y_E_walk b_E_walk 1 none ∈ er_big := er_i8 (List.mem_of_getElem? (i := 0) rfl)
theorem k_129 : Cond.methodLink R_L 48 y_L_corner ∈ er_big := er_i8 (List.mem_of_getElem? (i := 1) rfl)
theorem k_130 : Cond.static y_L_corner ∈ er_big := er_i8 (List.mem_of_getElem? (i := 2) rfl)
theorem k_131 : Cond.codeWith y_L_corner b_L_corner 7 (some .int) [(0, 11, 14, 13)] ∈ er_big := er_i8 (List.mem_of_getElem? (i := 3) rfl)
theorem k_132 : Cond.classLink R_L 13 "java/lang/IllegalArgumentException" ∈ er_big := er_i8 (List.mem_of_getElem? (i := 4) rfl)
theorem k_133 : Cond.methodLink R_L 7 y_E_corner ∈ er_big := er_i8 (List.mem_of_getElem? (i := 5) rfl)
theorem k_134 : Cond.instanceMethod y_E_corner ∈ er_big := er_i8 (List.mem_of_getElem? (i := 6) rfl)
theorem k_135 : Cond.selects R_E y_E_corner y_E_corner ∈ er_big := er_i8 (List.mem_of_getElem? (i := 7) rfl)
theorem k_136 : Cond.code y_E_corner b_E_corner 7 none ∈ er_big := er_i8 (List.mem_of_getElem? (i := 8) rfl)
theorem k_137 : Cond.methodLink R_E 52 y_E_isCorner ∈ er_big := er_i8 (List.mem_of_getElem? (i := 9) rfl)
theorem k_138 : Cond.static y_E_isCorner ∈ er_big := er_i8 (List.mem_of_getElem? (i := 10) rfl)
theorem k_139 : Cond.code y_E_isCorner b_E_isCorner 1 (some .boolean) ∈ er_big := er_i8 (List.mem_of_getElem? (i := 11) rfl)
theorem k_140 : Cond.methodLink R_E 63 y_E_within ∈ er_big := er_i8 (List.mem_of_getElem? (i := 12) rfl)
theorem k_141 : Cond.static y_E_within ∈ er_big := er_i8 (List.mem_of_getElem? (i := 13) rfl)
theorem k_142 : Cond.code y_E_within b_E_within 3 (some .boolean) ∈ er_big := er_i8 (List.mem_of_getElem? (i := 14) rfl)
theorem k_143 : Cond.classLink R_E 56 "java/lang/IllegalArgumentException" ∈ er_big := er_i8 (List.mem_of_getElem? (i := 15) rfl)
theorem k_144 : Cond.instantiable "java/lang/IllegalArgumentException" 6 ∈ er_big := er_i9 (List.mem_of_getElem? (i := 0) rfl)
theorem k_145 : Cond.selects "java/lang/IllegalArgumentException" ⟨"java/lang/Throwable", "fillInStackTrace", "(I)Ljava/lang/Throwable;"⟩ ⟨"java/lang/Throwable", "fillInStackTrace", "(I)Ljava/lang/Throwable;"⟩ ∈ er_big := er_i9 (List.mem_of_getElem? (i := 1) rfl)
theorem k_146 : Cond.selects "java/lang/IllegalArgumentException" ⟨"java/lang/Throwable", "fillInStackTrace", "()Ljava/lang/Throwable;"⟩ ⟨"java/lang/Throwable", "fillInStackTrace", "()Ljava/lang/Throwable;"⟩ ∈ er_big := er_i9 (List.mem_of_getElem? (i := 2) rfl)
theorem k_147 : Cond.lays "java/lang/IllegalArgumentException" "java/lang/Throwable" "cause" "Ljava/lang/Throwable;" ∈ er_big := er_i9 (List.mem_of_getElem? (i := 3) rfl)
theorem k_148 : Cond.lays "java/lang/Throwable" "java/lang/Throwable" "cause" "Ljava/lang/Throwable;" ∈ er_big := er_i9 (List.mem_of_getElem? (i := 4) rfl)
theorem k_149 : Cond.lays "java/lang/IllegalArgumentException" "java/lang/Throwable" "stackTrace" "[Ljava/lang/StackTraceElement;" ∈ er_big := er_i9 (List.mem_of_getElem? (i := 5) rfl)
theorem k_150 : Cond.lays "java/lang/Throwable" "java/lang/Throwable" "stackTrace" "[Ljava/lang/StackTraceElement;" ∈ er_big := er_i9 (List.mem_of_getElem? (i := 6) rfl)
theorem k_151 : Cond.lays "java/lang/IllegalArgumentException" "java/lang/Throwable" "suppressedExceptions" "Ljava/util/List;" ∈ er_big := er_i9 (List.mem_of_getElem? (i := 7) rfl)
theorem k_152 : Cond.lays "java/lang/Throwable" "java/lang/Throwable" "suppressedExceptions" "Ljava/util/List;" ∈ er_big := er_i9 (List.mem_of_getElem? (i := 8) rfl)
theorem k_153 : Cond.lays "java/lang/IllegalArgumentException" "java/lang/Throwable" "detailMessage" "Ljava/lang/String;" ∈ er_big := er_i9 (List.mem_of_getElem? (i := 9) rfl)
theorem k_154 : Cond.lays "java/lang/Throwable" "java/lang/Throwable" "detailMessage" "Ljava/lang/String;" ∈ er_big := er_i9 (List.mem_of_getElem? (i := 10) rfl)
theorem k_155 : Cond.lays "java/lang/IllegalArgumentException" "java/lang/Throwable" "backtrace" "Ljava/lang/Object;" ∈ er_big := er_i9 (List.mem_of_getElem? (i := 11) rfl)
theorem k_156 : Cond.lays "java/lang/Throwable" "java/lang/Throwable" "backtrace" "Ljava/lang/Object;" ∈ er_big := er_i9 (List.mem_of_getElem? (i := 12) rfl)
theorem k_157 : Cond.fieldLink "java/lang/Throwable" 198 "java/lang/Throwable" "backtrace" "Ljava/lang/Object;" ∈ er_big := er_i9 (List.mem_of_getElem? (i := 13) rfl)
theorem k_158 : Cond.superclass "java/lang/Throwable" "java/lang/Object" ∈ er_big := er_i9 (List.mem_of_getElem? (i := 14) rfl)
theorem k_159 : Cond.instanceMethod ⟨"java/lang/Throwable", "<init>", "()V"⟩ ∈ er_big := er_i9 (List.mem_of_getElem? (i := 15) rfl)
theorem k_160 : Cond.code ⟨"java/lang/Throwable", "<init>", "()V"⟩ prog_11_method_1_code 1 none ∈ er_big := er_i10 (List.mem_of_getElem? (i := 0) rfl)
theorem k_161 : Cond.methodLink "java/lang/Throwable" 1 objectInit ∈ er_big := er_i10 (List.mem_of_getElem? (i := 1) rfl)
theorem k_162 : Cond.fieldLink "java/lang/Throwable" 13 "java/lang/Throwable" "UNASSIGNED_STACK" "[Ljava/lang/StackTraceElement;" ∈ er_big := er_i10 (List.mem_of_getElem? (i := 2) rfl)
theorem k_163 : Cond.fieldLink "java/lang/Throwable" 20 "java/lang/Throwable" "SUPPRESSED_SENTINEL" "Ljava/util/List;" ∈ er_big := er_i10 (List.mem_of_getElem? (i := 3) rfl)
theorem k_164 : Cond.methodLink "java/lang/Throwable" 27 ⟨"java/lang/Throwable", "fillInStackTrace", "()Ljava/lang/Throwable;"⟩ ∈ er_big := er_i10 (List.mem_of_getElem? (i := 4) rfl)
theorem k_165 : Cond.instanceMethod ⟨"java/lang/Throwable", "fillInStackTrace", "()Ljava/lang/Throwable;"⟩ ∈ er_big := er_i10 (List.mem_of_getElem? (i := 5) rfl)
theorem k_166 : Cond.sameMethod "java/lang/Throwable" "java/lang/Throwable" "fillInStackTrace" "()Ljava/lang/Throwable;" ∈ er_big := er_i10 (List.mem_of_getElem? (i := 6) rfl)
theorem k_167 : Cond.selects "java/lang/IllegalStateException" ⟨"java/lang/Throwable", "fillInStackTrace", "()Ljava/lang/Throwable;"⟩ ⟨"java/lang/Throwable", "fillInStackTrace", "()Ljava/lang/Throwable;"⟩ ∈ er_big := er_i10 (List.mem_of_getElem? (i := 7) rfl)
theorem k_168 : Cond.codeSync ⟨"java/lang/Throwable", "fillInStackTrace", "()Ljava/lang/Throwable;"⟩ prog_11_method_18_code 1 (some (.object "java/lang/Throwable")) ∈ er_big := er_i10 (List.mem_of_getElem? (i := 8) rfl)
theorem k_169 : Cond.methodLink "java/lang/Throwable" 202 ⟨"java/lang/Throwable", "fillInStackTrace", "(I)Ljava/lang/Throwable;"⟩ ∈ er_big := er_i10 (List.mem_of_getElem? (i := 9) rfl)
theorem k_170 : Cond.instanceMethod ⟨"java/lang/Throwable", "fillInStackTrace", "(I)Ljava/lang/Throwable;"⟩ ∈ er_big := er_i10 (List.mem_of_getElem? (i := 10) rfl)
theorem k_171 : Cond.instantiable "java/lang/Throwable" 6 ∈ er_big := er_i10 (List.mem_of_getElem? (i := 11) rfl)
theorem k_172 : Cond.native ⟨"java/lang/Throwable", "fillInStackTrace", "(I)Ljava/lang/Throwable;"⟩ ∈ er_big := er_i10 (List.mem_of_getElem? (i := 12) rfl)
theorem k_173 : Cond.methodLink R_E 60 ⟨"java/lang/IllegalArgumentException", "<init>", "(Ljava/lang/String;)V"⟩ ∈ er_big := er_i10 (List.mem_of_getElem? (i := 13) rfl)
theorem k_174 : Cond.instanceMethod ⟨"java/lang/IllegalArgumentException", "<init>", "(Ljava/lang/String;)V"⟩ ∈ er_big := er_i10 (List.mem_of_getElem? (i := 14) rfl)
theorem k_175 : Cond.code ⟨"java/lang/IllegalArgumentException", "<init>", "(Ljava/lang/String;)V"⟩ prog_6_method_2_code 2 none ∈ er_big := er_i10 (List.mem_of_getElem? (i := 15) rfl)
theorem k_176 : Cond.methodLink "java/lang/IllegalArgumentException" 7 ⟨"java/lang/RuntimeException", "<init>", "(Ljava/lang/String;)V"⟩ ∈ er_big := er_i11 (List.mem_of_getElem? (i := 0) rfl)
theorem k_177 : Cond.instanceMethod ⟨"java/lang/RuntimeException", "<init>", "(Ljava/lang/String;)V"⟩ ∈ er_big := er_i11 (List.mem_of_getElem? (i := 1) rfl)
theorem k_178 : Cond.code ⟨"java/lang/RuntimeException", "<init>", "(Ljava/lang/String;)V"⟩ prog_9_method_2_code 2 none ∈ er_big := er_i11 (List.mem_of_getElem? (i := 2) rfl)
theorem k_179 : Cond.methodLink "java/lang/RuntimeException" 7 ⟨"java/lang/Exception", "<init>", "(Ljava/lang/String;)V"⟩ ∈ er_big := er_i11 (List.mem_of_getElem? (i := 3) rfl)
theorem k_180 : Cond.instanceMethod ⟨"java/lang/Exception", "<init>", "(Ljava/lang/String;)V"⟩ ∈ er_big := er_i11 (List.mem_of_getElem? (i := 4) rfl)
theorem k_181 : Cond.code ⟨"java/lang/Exception", "<init>", "(Ljava/lang/String;)V"⟩ prog_5_method_2_code 2 none ∈ er_big := er_i11 (List.mem_of_getElem? (i := 5) rfl)
theorem k_182 : Cond.methodLink "java/lang/Exception" 7 ⟨"java/lang/Throwable", "<init>", "(Ljava/lang/String;)V"⟩ ∈ er_big := er_i11 (List.mem_of_getElem? (i := 6) rfl)
theorem k_183 : Cond.instanceMethod ⟨"java/lang/Throwable", "<init>", "(Ljava/lang/String;)V"⟩ ∈ er_big := er_i11 (List.mem_of_getElem? (i := 7) rfl)
theorem k_184 : Cond.code ⟨"java/lang/Throwable", "<init>", "(Ljava/lang/String;)V"⟩ prog_11_method_2_code 2 none ∈ er_big := er_i11 (List.mem_of_getElem? (i := 8) rfl)
theorem k_185 : Cond.fieldLink "java/lang/Throwable" 31 "java/lang/Throwable" "detailMessage" "Ljava/lang/String;" ∈ er_big := er_i11 (List.mem_of_getElem? (i := 9) rfl)
theorem k_186 : Cond.fieldLink "java/lang/Throwable" 7 "java/lang/Throwable" "cause" "Ljava/lang/Throwable;" ∈ er_big := er_i11 (List.mem_of_getElem? (i := 10) rfl)
theorem k_187 : Cond.fieldLink "java/lang/Throwable" 17 "java/lang/Throwable" "stackTrace" "[Ljava/lang/StackTraceElement;" ∈ er_big := er_i11 (List.mem_of_getElem? (i := 11) rfl)
theorem k_188 : Cond.fieldLink "java/lang/Throwable" 24 "java/lang/Throwable" "suppressedExceptions" "Ljava/util/List;" ∈ er_big := er_i11 (List.mem_of_getElem? (i := 12) rfl)
theorem k_189 : Cond.soleField "java/lang/Throwable" "backtrace" ∈ er_big := er_i11 (List.mem_of_getElem? (i := 13) rfl)
theorem k_190 : Cond.soleField "java/lang/Throwable" "detailMessage" ∈ er_big := er_i11 (List.mem_of_getElem? (i := 14) rfl)
theorem k_191 : Cond.soleField "java/lang/Throwable" "cause" ∈ er_big := er_i11 (List.mem_of_getElem? (i := 15) rfl)
theorem k_192 : Cond.soleField "java/lang/Throwable" "stackTrace" ∈ er_big := er_i12 (List.mem_of_getElem? (i := 0) rfl)
theorem k_193 : Cond.lays "java/lang/IllegalArgumentException" "java/lang/Throwable" "depth" "I" ∈ er_big := er_i12 (List.mem_of_getElem? (i := 1) rfl)
theorem k_194 : Cond.soleField "java/lang/Throwable" "depth" ∈ er_big := er_i12 (List.mem_of_getElem? (i := 2) rfl)
theorem k_195 : Cond.soleField "java/lang/Throwable" "suppressedExceptions" ∈ er_big := er_i12 (List.mem_of_getElem? (i := 3) rfl)
theorem k_196 : Cond.superclass "java/lang/IllegalArgumentException" "java/lang/RuntimeException" ∈ er_big := er_i12 (List.mem_of_getElem? (i := 4) rfl)
theorem k_197 : Cond.arrayClass .byte ∈ er_big := er_i12 (List.mem_of_getElem? (i := 5) rfl)
theorem k_198 : Cond.constant R_E 69 16777215 ∈ er_big := er_i12 (List.mem_of_getElem? (i := 6) rfl)
theorem k_199 : Cond.constant R_E 72 8388608 ∈ er_big := er_i12 (List.mem_of_getElem? (i := 7) rfl)
theorem k_200 : Cond.methodLink R_E 75 y_E_cornerOf ∈ er_big := er_i12 (List.mem_of_getElem? (i := 8) rfl)
theorem k_201 : Cond.instanceMethod y_E_cornerOf ∈ er_big := er_i12 (List.mem_of_getElem? (i := 9) rfl)
theorem k_202 : Cond.code y_E_cornerOf b_E_cornerOf 2 (some (.object "EdgeRaster$Corner")) ∈ er_big := er_i12 (List.mem_of_getElem? (i := 10) rfl)
theorem k_203 : Cond.methodLink R_E 91 y_E_layTriangle ∈ er_big := er_i12 (List.mem_of_getElem? (i := 11) rfl)
theorem k_204 : Cond.instanceMethod y_E_layTriangle ∈ er_big := er_i12 (List.mem_of_getElem? (i := 12) rfl)
theorem k_205 : Cond.code y_E_layTriangle b_E_layTriangle 1 none ∈ er_big := er_i12 (List.mem_of_getElem? (i := 13) rfl)
theorem k_206 : Cond.instanceMethod y_C_layEdge ∈ er_big := er_i12 (List.mem_of_getElem? (i := 14) rfl)
theorem k_207 : Cond.code y_C_layEdge b_C_layEdge 5 none ∈ er_big := er_i12 (List.mem_of_getElem? (i := 15) rfl)
theorem k_208 : Cond.methodLink R_E 94 y_E_endWalk ∈ er_big := er_i13 (List.mem_of_getElem? (i := 0) rfl)
theorem k_209 : Cond.instanceMethod y_E_endWalk ∈ er_big := er_i13 (List.mem_of_getElem? (i := 1) rfl)
theorem k_210 : Cond.code y_E_endWalk b_E_endWalk 1 none ∈ er_big := er_i13 (List.mem_of_getElem? (i := 2) rfl)
theorem k_211 : Cond.methodLink R_L 57 y_L_value ∈ er_big := er_i13 (List.mem_of_getElem? (i := 3) rfl)
theorem k_212 : Cond.static y_L_value ∈ er_big := er_i13 (List.mem_of_getElem? (i := 4) rfl)
theorem k_213 : Cond.codeWith y_L_value b_L_value 5 (some .int) [(0, 7, 10, 13)] ∈ er_big := er_i13 (List.mem_of_getElem? (i := 5) rfl)
theorem k_214 : Cond.methodLink R_L 15 y_E_value ∈ er_big := er_i13 (List.mem_of_getElem? (i := 6) rfl)
theorem k_215 : Cond.instanceMethod y_E_value ∈ er_big := er_i13 (List.mem_of_getElem? (i := 7) rfl)
theorem k_216 : Cond.selects R_E y_E_value y_E_value ∈ er_big := er_i13 (List.mem_of_getElem? (i := 8) rfl)
theorem k_217 : Cond.code y_E_value b_E_value 4 none ∈ er_big := er_i13 (List.mem_of_getElem? (i := 9) rfl)
theorem k_218 : Cond.methodLink R_E 97 y_E_isValue ∈ er_big := er_i13 (List.mem_of_getElem? (i := 10) rfl)
theorem k_219 : Cond.static y_E_isValue ∈ er_big := er_i13 (List.mem_of_getElem? (i := 11) rfl)
theorem k_220 : Cond.code y_E_isValue b_E_isValue 1 (some .boolean) ∈ er_big := er_i13 (List.mem_of_getElem? (i := 12) rfl)
theorem k_221 : Cond.methodLink R_L 61 y_L_window ∈ er_big := er_i13 (List.mem_of_getElem? (i := 13) rfl)
theorem k_222 : Cond.static y_L_window ∈ er_big := er_i13 (List.mem_of_getElem? (i := 14) rfl)
theorem k_223 : Cond.codeWith y_L_window b_L_window 6 (some .int) [(0, 9, 12, 13)] ∈ er_big := er_i13 (List.mem_of_getElem? (i := 15) rfl)
theorem k_224 : Cond.methodLink R_L 19 y_E_window ∈ er_big := er_i14 (List.mem_of_getElem? (i := 0) rfl)
theorem k_225 : Cond.instanceMethod y_E_window ∈ er_big := er_i14 (List.mem_of_getElem? (i := 1) rfl)
theorem k_226 : Cond.selects R_E y_E_window y_E_window ∈ er_big := er_i14 (List.mem_of_getElem? (i := 2) rfl)
theorem k_227 : Cond.code y_E_window b_E_window 5 none ∈ er_big := er_i14 (List.mem_of_getElem? (i := 3) rfl)
theorem k_228 : Cond.methodLink R_L 70 y_L_covers ∈ er_big := er_i14 (List.mem_of_getElem? (i := 4) rfl)
theorem k_229 : Cond.static y_L_covers ∈ er_big := er_i14 (List.mem_of_getElem? (i := 5) rfl)
theorem k_230 : Cond.codeWith y_L_covers b_L_covers 5 (some .int) [(0, 17, 20, 13)] ∈ er_big := er_i14 (List.mem_of_getElem? (i := 6) rfl)
theorem k_231 : Cond.methodLink R_L 23 y_E_covers ∈ er_big := er_i14 (List.mem_of_getElem? (i := 7) rfl)
theorem k_232 : Cond.instanceMethod y_E_covers ∈ er_big := er_i14 (List.mem_of_getElem? (i := 8) rfl)
theorem k_233 : Cond.selects R_E y_E_covers y_E_covers ∈ er_big := er_i14 (List.mem_of_getElem? (i := 9) rfl)
theorem k_234 : Cond.code y_E_covers b_E_covers 3 (some .boolean) ∈ er_big := er_i14 (List.mem_of_getElem? (i := 10) rfl)
theorem k_235 : Cond.methodLink R_L 82 y_L_next ∈ er_big := er_i14 (List.mem_of_getElem? (i := 11) rfl)
theorem k_236 : Cond.static y_L_next ∈ er_big := er_i14 (List.mem_of_getElem? (i := 12) rfl)
theorem k_237 : Cond.codeWith y_L_next b_L_next 3 (some .int) [(0, 8, 11, 31)] ∈ er_big := er_i14 (List.mem_of_getElem? (i := 13) rfl)
theorem k_238 : Cond.classLink R_L 31 "java/lang/IllegalStateException" ∈ er_big := er_i14 (List.mem_of_getElem? (i := 14) rfl)
theorem k_239 : Cond.methodLink R_L 27 y_E_next ∈ er_big := er_i14 (List.mem_of_getElem? (i := 15) rfl)
theorem k_240 : Cond.instanceMethod y_E_next ∈ er_big := er_i15 (List.mem_of_getElem? (i := 0) rfl)
theorem k_241 : Cond.selects R_E y_E_next y_E_next ∈ er_big := er_i15 (List.mem_of_getElem? (i := 1) rfl)
theorem k_242 : Cond.code y_E_next b_E_next 4 (some .int) ∈ er_big := er_i15 (List.mem_of_getElem? (i := 2) rfl)
theorem k_243 : Cond.classLink R_E 116 "java/lang/IllegalStateException" ∈ er_big := er_i15 (List.mem_of_getElem? (i := 3) rfl)
theorem k_244 : Cond.instantiable "java/lang/IllegalStateException" 6 ∈ er_big := er_i15 (List.mem_of_getElem? (i := 4) rfl)
theorem k_245 : Cond.selects "java/lang/IllegalStateException" ⟨"java/lang/Throwable", "fillInStackTrace", "(I)Ljava/lang/Throwable;"⟩ ⟨"java/lang/Throwable", "fillInStackTrace", "(I)Ljava/lang/Throwable;"⟩ ∈ er_big := er_i15 (List.mem_of_getElem? (i := 5) rfl)
theorem k_246 : Cond.lays "java/lang/IllegalStateException" "java/lang/Throwable" "cause" "Ljava/lang/Throwable;" ∈ er_big := er_i15 (List.mem_of_getElem? (i := 6) rfl)
theorem k_247 : Cond.lays "java/lang/IllegalStateException" "java/lang/Throwable" "stackTrace" "[Ljava/lang/StackTraceElement;" ∈ er_big := er_i15 (List.mem_of_getElem? (i := 7) rfl)
theorem k_248 : Cond.lays "java/lang/IllegalStateException" "java/lang/Throwable" "suppressedExceptions" "Ljava/util/List;" ∈ er_big := er_i15 (List.mem_of_getElem? (i := 8) rfl)
theorem k_249 : Cond.lays "java/lang/IllegalStateException" "java/lang/Throwable" "detailMessage" "Ljava/lang/String;" ∈ er_big := er_i15 (List.mem_of_getElem? (i := 9) rfl)
theorem k_250 : Cond.lays "java/lang/IllegalStateException" "java/lang/Throwable" "backtrace" "Ljava/lang/Object;" ∈ er_big := er_i15 (List.mem_of_getElem? (i := 10) rfl)
theorem k_251 : Cond.methodLink R_E 120 ⟨"java/lang/IllegalStateException", "<init>", "(Ljava/lang/String;)V"⟩ ∈ er_big := er_i15 (List.mem_of_getElem? (i := 11) rfl)
theorem k_252 : Cond.instanceMethod ⟨"java/lang/IllegalStateException", "<init>", "(Ljava/lang/String;)V"⟩ ∈ er_big := er_i15 (List.mem_of_getElem? (i := 12) rfl)
theorem k_253 : Cond.code ⟨"java/lang/IllegalStateException", "<init>", "(Ljava/lang/String;)V"⟩ prog_7_method_2_code 2 none ∈ er_big := er_i15 (List.mem_of_getElem? (i := 13) rfl)
theorem k_254 : Cond.methodLink "java/lang/IllegalStateException" 7 ⟨"java/lang/RuntimeException", "<init>", "(Ljava/lang/String;)V"⟩ ∈ er_big := er_i15 (List.mem_of_getElem? (i := 14) rfl)
theorem k_255 : Cond.lays "java/lang/IllegalStateException" "java/lang/Throwable" "depth" "I" ∈ er_big := er_i15 (List.mem_of_getElem? (i := 15) rfl)
theorem k_256 : Cond.superclass "java/lang/IllegalStateException" "java/lang/RuntimeException" ∈ er_big := er_i16 (List.mem_of_getElem? (i := 0) rfl)
theorem k_257 : Cond.methodLink R_E 121 y_E_firstCovered ∈ er_big := er_i16 (List.mem_of_getElem? (i := 1) rfl)
theorem k_258 : Cond.instanceMethod y_E_firstCovered ∈ er_big := er_i16 (List.mem_of_getElem? (i := 2) rfl)
theorem k_259 : Cond.code y_E_firstCovered b_E_firstCovered 4 (some .int) ∈ er_big := er_i16 (List.mem_of_getElem? (i := 3) rfl)
theorem k_260 : Cond.constant R_E 125 65536 ∈ er_big := er_i16 (List.mem_of_getElem? (i := 4) rfl)
theorem k_261 : Cond.methodLink R_L 86 y_L_weight ∈ er_big := er_i16 (List.mem_of_getElem? (i := 5) rfl)
theorem k_262 : Cond.static y_L_weight ∈ er_big := er_i16 (List.mem_of_getElem? (i := 6) rfl)
theorem k_263 : Cond.codeWith y_L_weight b_L_weight 4 (some .int) [(0, 8, 11, 13), (0, 8, 14, 31)] ∈ er_big := er_i16 (List.mem_of_getElem? (i := 7) rfl)
theorem k_264 : Cond.methodLink R_L 33 y_E_weight ∈ er_big := er_i16 (List.mem_of_getElem? (i := 8) rfl)
theorem k_265 : Cond.instanceMethod y_E_weight ∈ er_big := er_i16 (List.mem_of_getElem? (i := 9) rfl)
theorem k_266 : Cond.selects R_E y_E_weight y_E_weight ∈ er_big := er_i16 (List.mem_of_getElem? (i := 10) rfl)
theorem k_267 : Cond.code y_E_weight b_E_weight 2 (some .long) ∈ er_big := er_i16 (List.mem_of_getElem? (i := 11) rfl)
theorem k_268 : Cond.methodLink R_L 90 y_L_depth ∈ er_big := er_i16 (List.mem_of_getElem? (i := 12) rfl)
theorem k_269 : Cond.static y_L_depth ∈ er_big := er_i16 (List.mem_of_getElem? (i := 13) rfl)
theorem k_270 : Cond.codeWith y_L_depth b_L_depth 3 (some .int) [(0, 8, 11, 31)] ∈ er_big := er_i16 (List.mem_of_getElem? (i := 14) rfl)
theorem k_271 : Cond.methodLink R_L 37 y_E_depth ∈ er_big := er_i16 (List.mem_of_getElem? (i := 15) rfl)
theorem k_272 : Cond.instanceMethod y_E_depth ∈ er_big := er_i17 (List.mem_of_getElem? (i := 0) rfl)
theorem k_273 : Cond.selects R_E y_E_depth y_E_depth ∈ er_big := er_i17 (List.mem_of_getElem? (i := 1) rfl)
theorem k_274 : Cond.code y_E_depth b_E_depth 3 (some .int) ∈ er_big := er_i17 (List.mem_of_getElem? (i := 2) rfl)
theorem k_275 : Cond.methodLink R_E 132 ⟨"java/lang/Math", "abs", "(J)J"⟩ ∈ er_big := er_i17 (List.mem_of_getElem? (i := 3) rfl)
theorem k_276 : Cond.static ⟨"java/lang/Math", "abs", "(J)J"⟩ ∈ er_big := er_i17 (List.mem_of_getElem? (i := 4) rfl)
theorem k_277 : Cond.code ⟨"java/lang/Math", "abs", "(J)J"⟩ prog_8_method_61_code 2 (some .long) ∈ er_big := er_i17 (List.mem_of_getElem? (i := 5) rfl)
theorem k_278 : Cond.methodLink R_E 138 y_E_dividedDown ∈ er_big := er_i17 (List.mem_of_getElem? (i := 6) rfl)
theorem k_279 : Cond.static y_E_dividedDown ∈ er_big := er_i17 (List.mem_of_getElem? (i := 7) rfl)
theorem k_280 : Cond.code y_E_dividedDown b_E_dividedDown 4 (some .long) ∈ er_big := er_i17 (List.mem_of_getElem? (i := 8) rfl)
theorem k_281 : Cond.methodLink R_E 163 y_J_floorDiv ∈ er_big := er_i17 (List.mem_of_getElem? (i := 9) rfl)
theorem k_282 : Cond.static y_J_floorDiv ∈ er_big := er_i17 (List.mem_of_getElem? (i := 10) rfl)
theorem k_283 : Cond.code y_J_floorDiv b_J_floorDiv 6 (some .long) ∈ er_big := er_i17 (List.mem_of_getElem? (i := 11) rfl)
theorem k_284 : Cond.methodLink R_L 93 y_L_at ∈ er_big := er_i17 (List.mem_of_getElem? (i := 12) rfl)
theorem k_285 : Cond.static y_L_at ∈ er_big := er_i17 (List.mem_of_getElem? (i := 13) rfl)
theorem k_286 : Cond.codeWith y_L_at b_L_at 4 (some .int) [(0, 9, 12, 13), (0, 9, 15, 31)] ∈ er_big := er_i17 (List.mem_of_getElem? (i := 14) rfl)
theorem k_287 : Cond.methodLink R_L 40 y_E_at ∈ er_big := er_i17 (List.mem_of_getElem? (i := 15) rfl)
theorem k_288 : Cond.instanceMethod y_E_at ∈ er_big := er_i18 (List.mem_of_getElem? (i := 0) rfl)
theorem k_289 : Cond.selects R_E y_E_at y_E_at ∈ er_big := er_i18 (List.mem_of_getElem? (i := 1) rfl)
theorem k_290 : Cond.code y_E_at b_E_at 17 (some .int) ∈ er_big := er_i18 (List.mem_of_getElem? (i := 2) rfl)
theorem k_291 : Cond.instanceMethod y_C_nearWeightAt ∈ er_big := er_i18 (List.mem_of_getElem? (i := 3) rfl)
theorem k_292 : Cond.code y_C_nearWeightAt b_C_nearWeightAt 3 (some .long) ∈ er_big := er_i18 (List.mem_of_getElem? (i := 4) rfl)
theorem k_293 : Cond.methodLink R_E 147 ⟨"java/lang/Math", "max", "(JJ)J"⟩ ∈ er_big := er_i18 (List.mem_of_getElem? (i := 5) rfl)
theorem k_294 : Cond.static ⟨"java/lang/Math", "max", "(JJ)J"⟩ ∈ er_big := er_i18 (List.mem_of_getElem? (i := 6) rfl)
theorem k_295 : Cond.code ⟨"java/lang/Math", "max", "(JJ)J"⟩ prog_8_method_66_code 4 (some .long) ∈ er_big := er_i18 (List.mem_of_getElem? (i := 7) rfl)
theorem k_296 : Cond.methodLink R_E 150 y_E_shareShift ∈ er_big := er_i18 (List.mem_of_getElem? (i := 8) rfl)
theorem k_297 : Cond.static y_E_shareShift ∈ er_big := er_i18 (List.mem_of_getElem? (i := 9) rfl)
theorem k_298 : Cond.code y_E_shareShift b_E_shareShift 3 (some .int) ∈ er_big := er_i18 (List.mem_of_getElem? (i := 10) rfl)
theorem k_299 : Cond.constantLong R_E 161 536870912 ∈ er_big := er_i18 (List.mem_of_getElem? (i := 11) rfl)
theorem k_300 : Cond.classLink R_L 45 R_M ∈ er_big := er_i18 (List.mem_of_getElem? (i := 12) rfl)
theorem k_301 : Cond.instantiable R_M 15 ∈ er_big := er_i18 (List.mem_of_getElem? (i := 13) rfl)
theorem k_302 : Cond.methodLink R_L 47 y_M_init ∈ er_big := er_i18 (List.mem_of_getElem? (i := 14) rfl)
theorem k_303 : Cond.instanceMethod y_M_init ∈ er_big := er_i18 (List.mem_of_getElem? (i := 15) rfl)
theorem k_304 : Cond.code y_M_init b_M_init 2 none ∈ er_big := er_i19 (List.mem_of_getElem? (i := 0) rfl)
theorem k_305 : Cond.methodLink R_M 1 objectInit ∈ er_big := er_i19 (List.mem_of_getElem? (i := 1) rfl)
theorem k_306 : Cond.fieldLink R_M 32 "EdgeRasterModel" "thrown" "I" ∈ er_big := er_i19 (List.mem_of_getElem? (i := 2) rfl)
theorem k_307 : Cond.fieldLink R_M 7 "EdgeRasterModel" "cornerX" "[I" ∈ er_big := er_i19 (List.mem_of_getElem? (i := 3) rfl)
theorem k_308 : Cond.fieldLink R_M 13 "EdgeRasterModel" "cornerY" "[I" ∈ er_big := er_i19 (List.mem_of_getElem? (i := 4) rfl)
theorem k_309 : Cond.fieldLink R_M 16 "EdgeRasterModel" "depths" "[I" ∈ er_big := er_i19 (List.mem_of_getElem? (i := 5) rfl)
theorem k_310 : Cond.fieldLink R_M 19 "EdgeRasterModel" "nearness" "[I" ∈ er_big := er_i19 (List.mem_of_getElem? (i := 6) rfl)
theorem k_311 : Cond.fieldLink R_M 22 "EdgeRasterModel" "values" "[I" ∈ er_big := er_i19 (List.mem_of_getElem? (i := 7) rfl)
theorem k_312 : Cond.fieldLink R_M 49 "EdgeRasterModel" "left" "I" ∈ er_big := er_i19 (List.mem_of_getElem? (i := 8) rfl)
theorem k_313 : Cond.fieldLink R_M 52 "EdgeRasterModel" "top" "I" ∈ er_big := er_i19 (List.mem_of_getElem? (i := 9) rfl)
theorem k_314 : Cond.fieldLink R_M 25 "EdgeRasterModel" "wide" "I" ∈ er_big := er_i19 (List.mem_of_getElem? (i := 10) rfl)
theorem k_315 : Cond.fieldLink R_M 29 "EdgeRasterModel" "high" "I" ∈ er_big := er_i19 (List.mem_of_getElem? (i := 11) rfl)
theorem k_316 : Cond.fieldLink R_M 45 "EdgeRasterModel" "walks" "Z" ∈ er_big := er_i19 (List.mem_of_getElem? (i := 12) rfl)
theorem k_317 : Cond.fieldLink R_M 78 "EdgeRasterModel" "looked" "I" ∈ er_big := er_i19 (List.mem_of_getElem? (i := 13) rfl)
theorem k_318 : Cond.fieldLink R_M 81 "EdgeRasterModel" "came" "Z" ∈ er_big := er_i19 (List.mem_of_getElem? (i := 14) rfl)
theorem k_319 : Cond.fieldLink R_M 84 "EdgeRasterModel" "lastX" "I" ∈ er_big := er_i19 (List.mem_of_getElem? (i := 15) rfl)
theorem k_320 : Cond.fieldLink R_M 87 "EdgeRasterModel" "lastY" "I" ∈ er_big := er_i20 (List.mem_of_getElem? (i := 0) rfl)
theorem k_321 : Cond.lays R_M "EdgeRasterModel" "thrown" "I" ∈ er_big := er_i20 (List.mem_of_getElem? (i := 1) rfl)
theorem k_322 : Cond.soleField R_M "thrown" ∈ er_big := er_i20 (List.mem_of_getElem? (i := 2) rfl)
theorem k_323 : Cond.laysFinal R_M "EdgeRasterModel" "cornerX" "[I" ∈ er_big := er_i20 (List.mem_of_getElem? (i := 3) rfl)
theorem k_324 : Cond.soleField R_M "cornerX" ∈ er_big := er_i20 (List.mem_of_getElem? (i := 4) rfl)
theorem k_325 : Cond.laysFinal R_M "EdgeRasterModel" "cornerY" "[I" ∈ er_big := er_i20 (List.mem_of_getElem? (i := 5) rfl)
theorem k_326 : Cond.soleField R_M "cornerY" ∈ er_big := er_i20 (List.mem_of_getElem? (i := 6) rfl)
theorem k_327 : Cond.laysFinal R_M "EdgeRasterModel" "depths" "[I" ∈ er_big := er_i20 (List.mem_of_getElem? (i := 7) rfl)
theorem k_328 : Cond.soleField R_M "depths" ∈ er_big := er_i20 (List.mem_of_getElem? (i := 8) rfl)
theorem k_329 : Cond.laysFinal R_M "EdgeRasterModel" "nearness" "[I" ∈ er_big := er_i20 (List.mem_of_getElem? (i := 9) rfl)
theorem k_330 : Cond.soleField R_M "nearness" ∈ er_big := er_i20 (List.mem_of_getElem? (i := 10) rfl)
theorem k_331 : Cond.laysFinal R_M "EdgeRasterModel" "values" "[I" ∈ er_big := er_i20 (List.mem_of_getElem? (i := 11) rfl)
theorem k_332 : Cond.soleField R_M "values" ∈ er_big := er_i20 (List.mem_of_getElem? (i := 12) rfl)
theorem k_333 : Cond.lays R_M "EdgeRasterModel" "left" "I" ∈ er_big := er_i20 (List.mem_of_getElem? (i := 13) rfl)
theorem k_334 : Cond.soleField R_M "left" ∈ er_big := er_i20 (List.mem_of_getElem? (i := 14) rfl)
theorem k_335 : Cond.lays R_M "EdgeRasterModel" "top" "I" ∈ er_big := er_i20 (List.mem_of_getElem? (i := 15) rfl)
theorem k_336 : Cond.soleField R_M "top" ∈ er_big := er_i21 (List.mem_of_getElem? (i := 0) rfl)
theorem k_337 : Cond.lays R_M "EdgeRasterModel" "wide" "I" ∈ er_big := er_i21 (List.mem_of_getElem? (i := 1) rfl)
theorem k_338 : Cond.soleField R_M "wide" ∈ er_big := er_i21 (List.mem_of_getElem? (i := 2) rfl)
theorem k_339 : Cond.lays R_M "EdgeRasterModel" "high" "I" ∈ er_big := er_i21 (List.mem_of_getElem? (i := 3) rfl)
theorem k_340 : Cond.soleField R_M "high" ∈ er_big := er_i21 (List.mem_of_getElem? (i := 4) rfl)
theorem k_341 : Cond.lays R_M "EdgeRasterModel" "walks" "Z" ∈ er_big := er_i21 (List.mem_of_getElem? (i := 5) rfl)
theorem k_342 : Cond.soleField R_M "walks" ∈ er_big := er_i21 (List.mem_of_getElem? (i := 6) rfl)
theorem k_343 : Cond.lays R_M "EdgeRasterModel" "looked" "I" ∈ er_big := er_i21 (List.mem_of_getElem? (i := 7) rfl)
theorem k_344 : Cond.soleField R_M "looked" ∈ er_big := er_i21 (List.mem_of_getElem? (i := 8) rfl)
theorem k_345 : Cond.lays R_M "EdgeRasterModel" "came" "Z" ∈ er_big := er_i21 (List.mem_of_getElem? (i := 9) rfl)
theorem k_346 : Cond.soleField R_M "came" ∈ er_big := er_i21 (List.mem_of_getElem? (i := 10) rfl)
theorem k_347 : Cond.lays R_M "EdgeRasterModel" "lastX" "I" ∈ er_big := er_i21 (List.mem_of_getElem? (i := 11) rfl)
theorem k_348 : Cond.soleField R_M "lastX" ∈ er_big := er_i21 (List.mem_of_getElem? (i := 12) rfl)
theorem k_349 : Cond.lays R_M "EdgeRasterModel" "lastY" "I" ∈ er_big := er_i21 (List.mem_of_getElem? (i := 13) rfl)
theorem k_350 : Cond.soleField R_M "lastY" ∈ er_big := er_i21 (List.mem_of_getElem? (i := 14) rfl)
theorem k_351 : Cond.superclass R_M "java/lang/Object" ∈ er_big := er_i21 (List.mem_of_getElem? (i := 15) rfl)
theorem k_352 : Cond.methodLink R_L 54 y_M_thrown ∈ er_big := er_i22 (List.mem_of_getElem? (i := 0) rfl)
theorem k_353 : Cond.instanceMethod y_M_thrown ∈ er_big := er_i22 (List.mem_of_getElem? (i := 1) rfl)
theorem k_354 : Cond.selects R_M y_M_thrown y_M_thrown ∈ er_big := er_i22 (List.mem_of_getElem? (i := 2) rfl)
theorem k_355 : Cond.code y_M_thrown b_M_thrown 1 (some .int) ∈ er_big := er_i22 (List.mem_of_getElem? (i := 3) rfl)
theorem k_356 : Cond.methodLink R_L 53 y_M_corner ∈ er_big := er_i22 (List.mem_of_getElem? (i := 4) rfl)
theorem k_357 : Cond.instanceMethod y_M_corner ∈ er_big := er_i22 (List.mem_of_getElem? (i := 5) rfl)
theorem k_358 : Cond.selects R_M y_M_corner y_M_corner ∈ er_big := er_i22 (List.mem_of_getElem? (i := 6) rfl)
theorem k_359 : Cond.code y_M_corner b_M_corner 7 none ∈ er_big := er_i22 (List.mem_of_getElem? (i := 7) rfl)
theorem k_360 : Cond.methodLink R_M 35 y_M_in_ ∈ er_big := er_i22 (List.mem_of_getElem? (i := 8) rfl)
theorem k_361 : Cond.static y_M_in_ ∈ er_big := er_i22 (List.mem_of_getElem? (i := 9) rfl)
theorem k_362 : Cond.code y_M_in_ b_M_in_ 3 (some .boolean) ∈ er_big := er_i22 (List.mem_of_getElem? (i := 10) rfl)
theorem k_363 : Cond.constant R_M 39 16777215 ∈ er_big := er_i22 (List.mem_of_getElem? (i := 11) rfl)
theorem k_364 : Cond.constant R_M 40 8388608 ∈ er_big := er_i22 (List.mem_of_getElem? (i := 12) rfl)
theorem k_365 : Cond.methodLink R_M 41 y_M_refuse ∈ er_big := er_i22 (List.mem_of_getElem? (i := 13) rfl)
theorem k_366 : Cond.instanceMethod y_M_refuse ∈ er_big := er_i22 (List.mem_of_getElem? (i := 14) rfl)
theorem k_367 : Cond.code y_M_refuse b_M_refuse 3 (some .boolean) ∈ er_big := er_i22 (List.mem_of_getElem? (i := 15) rfl)
theorem k_368 : Cond.methodLink R_L 60 y_M_value ∈ er_big := er_i23 (List.mem_of_getElem? (i := 0) rfl)
theorem k_369 : Cond.instanceMethod y_M_value ∈ er_big := er_i23 (List.mem_of_getElem? (i := 1) rfl)
theorem k_370 : Cond.selects R_M y_M_value y_M_value ∈ er_big := er_i23 (List.mem_of_getElem? (i := 2) rfl)
theorem k_371 : Cond.code y_M_value b_M_value 4 none ∈ er_big := er_i23 (List.mem_of_getElem? (i := 3) rfl)
theorem k_372 : Cond.methodLink R_L 64 y_M_window ∈ er_big := er_i23 (List.mem_of_getElem? (i := 4) rfl)
theorem k_373 : Cond.instanceMethod y_M_window ∈ er_big := er_i23 (List.mem_of_getElem? (i := 5) rfl)
theorem k_374 : Cond.selects R_M y_M_window y_M_window ∈ er_big := er_i23 (List.mem_of_getElem? (i := 6) rfl)
theorem k_375 : Cond.code y_M_window b_M_window 5 none ∈ er_big := er_i23 (List.mem_of_getElem? (i := 7) rfl)
theorem k_376 : Cond.methodLink R_L 69 y_M_area ∈ er_big := er_i23 (List.mem_of_getElem? (i := 8) rfl)
theorem k_377 : Cond.instanceMethod y_M_area ∈ er_big := er_i23 (List.mem_of_getElem? (i := 9) rfl)
theorem k_378 : Cond.selects R_M y_M_area y_M_area ∈ er_big := er_i23 (List.mem_of_getElem? (i := 10) rfl)
theorem k_379 : Cond.code y_M_area b_M_area 1 (some .long) ∈ er_big := er_i23 (List.mem_of_getElem? (i := 11) rfl)
theorem k_380 : Cond.methodLink R_M 59 y_M_whole ∈ er_big := er_i23 (List.mem_of_getElem? (i := 12) rfl)
theorem k_381 : Cond.instanceMethod y_M_whole ∈ er_big := er_i23 (List.mem_of_getElem? (i := 13) rfl)
theorem k_382 : Cond.code y_M_whole b_M_whole 1 (some .long) ∈ er_big := er_i23 (List.mem_of_getElem? (i := 14) rfl)
theorem k_383 : Cond.methodLink R_M 55 y_M_room ∈ er_big := er_i23 (List.mem_of_getElem? (i := 15) rfl)
theorem k_384 : Cond.instanceMethod y_M_room ∈ er_big := er_i24 (List.mem_of_getElem? (i := 0) rfl)
theorem k_385 : Cond.code y_M_room b_M_room 9 (some .long) ∈ er_big := er_i24 (List.mem_of_getElem? (i := 1) rfl)
theorem k_386 : Cond.methodLink R_L 73 y_M_covers ∈ er_big := er_i24 (List.mem_of_getElem? (i := 2) rfl)
theorem k_387 : Cond.instanceMethod y_M_covers ∈ er_big := er_i24 (List.mem_of_getElem? (i := 3) rfl)
theorem k_388 : Cond.selects R_M y_M_covers y_M_covers ∈ er_big := er_i24 (List.mem_of_getElem? (i := 4) rfl)
theorem k_389 : Cond.code y_M_covers b_M_covers 3 (some .boolean) ∈ er_big := er_i24 (List.mem_of_getElem? (i := 5) rfl)
theorem k_390 : Cond.methodLink R_M 74 y_M_isCovered ∈ er_big := er_i24 (List.mem_of_getElem? (i := 6) rfl)
theorem k_391 : Cond.instanceMethod y_M_isCovered ∈ er_big := er_i24 (List.mem_of_getElem? (i := 7) rfl)
theorem k_392 : Cond.code y_M_isCovered b_M_isCovered 10 (some .boolean) ∈ er_big := er_i24 (List.mem_of_getElem? (i := 8) rfl)
theorem k_393 : Cond.methodLink R_M 70 y_M_weightOf ∈ er_big := er_i24 (List.mem_of_getElem? (i := 9) rfl)
theorem k_394 : Cond.instanceMethod y_M_weightOf ∈ er_big := er_i24 (List.mem_of_getElem? (i := 10) rfl)
theorem k_395 : Cond.code y_M_weightOf b_M_weightOf 4 (some .long) ∈ er_big := er_i24 (List.mem_of_getElem? (i := 11) rfl)
theorem k_396 : Cond.methodLink R_M 63 y_M_from ∈ er_big := er_i24 (List.mem_of_getElem? (i := 12) rfl)
theorem k_397 : Cond.instanceMethod y_M_from ∈ er_big := er_i24 (List.mem_of_getElem? (i := 13) rfl)
theorem k_398 : Cond.code y_M_from b_M_from 2 (some .int) ∈ er_big := er_i24 (List.mem_of_getElem? (i := 14) rfl)
theorem k_399 : Cond.methodLink R_M 67 y_M_to ∈ er_big := er_i24 (List.mem_of_getElem? (i := 15) rfl)
theorem k_400 : Cond.instanceMethod y_M_to ∈ er_big := er_i25 (List.mem_of_getElem? (i := 0) rfl)
theorem k_401 : Cond.code y_M_to b_M_to 2 (some .int) ∈ er_big := er_i25 (List.mem_of_getElem? (i := 1) rfl)
theorem k_402 : Cond.methodLink R_L 77 y_M_many ∈ er_big := er_i25 (List.mem_of_getElem? (i := 2) rfl)
theorem k_403 : Cond.instanceMethod y_M_many ∈ er_big := er_i25 (List.mem_of_getElem? (i := 3) rfl)
theorem k_404 : Cond.selects R_M y_M_many y_M_many ∈ er_big := er_i25 (List.mem_of_getElem? (i := 4) rfl)
theorem k_405 : Cond.code y_M_many b_M_many 3 (some .int) ∈ er_big := er_i25 (List.mem_of_getElem? (i := 5) rfl)
theorem k_406 : Cond.methodLink R_L 81 y_M_walk ∈ er_big := er_i25 (List.mem_of_getElem? (i := 6) rfl)
theorem k_407 : Cond.instanceMethod y_M_walk ∈ er_big := er_i25 (List.mem_of_getElem? (i := 7) rfl)
theorem k_408 : Cond.selects R_M y_M_walk y_M_walk ∈ er_big := er_i25 (List.mem_of_getElem? (i := 8) rfl)
theorem k_409 : Cond.code y_M_walk b_M_walk 1 none ∈ er_big := er_i25 (List.mem_of_getElem? (i := 9) rfl)
theorem k_410 : Cond.methodLink R_L 85 y_M_next ∈ er_big := er_i25 (List.mem_of_getElem? (i := 10) rfl)
theorem k_411 : Cond.instanceMethod y_M_next ∈ er_big := er_i25 (List.mem_of_getElem? (i := 11) rfl)
theorem k_412 : Cond.selects R_M y_M_next y_M_next ∈ er_big := er_i25 (List.mem_of_getElem? (i := 12) rfl)
theorem k_413 : Cond.code y_M_next b_M_next 1 (some .int) ∈ er_big := er_i25 (List.mem_of_getElem? (i := 13) rfl)
theorem k_414 : Cond.constant R_M 90 65536 ∈ er_big := er_i25 (List.mem_of_getElem? (i := 14) rfl)
theorem k_415 : Cond.methodLink R_L 89 y_M_weight ∈ er_big := er_i25 (List.mem_of_getElem? (i := 15) rfl)
theorem k_416 : Cond.instanceMethod y_M_weight ∈ er_big := er_i26 (List.mem_of_getElem? (i := 0) rfl)
theorem k_417 : Cond.selects R_M y_M_weight y_M_weight ∈ er_big := er_i26 (List.mem_of_getElem? (i := 1) rfl)
theorem k_418 : Cond.code y_M_weight b_M_weight 2 (some .long) ∈ er_big := er_i26 (List.mem_of_getElem? (i := 2) rfl)
theorem k_419 : Cond.methodLink R_L 92 y_M_depth ∈ er_big := er_i26 (List.mem_of_getElem? (i := 3) rfl)
theorem k_420 : Cond.instanceMethod y_M_depth ∈ er_big := er_i26 (List.mem_of_getElem? (i := 4) rfl)
theorem k_421 : Cond.selects R_M y_M_depth y_M_depth ∈ er_big := er_i26 (List.mem_of_getElem? (i := 5) rfl)
theorem k_422 : Cond.code y_M_depth b_M_depth 5 (some .int) ∈ er_big := er_i26 (List.mem_of_getElem? (i := 6) rfl)
theorem k_423 : Cond.methodLink R_M 91 y_M_down ∈ er_big := er_i26 (List.mem_of_getElem? (i := 7) rfl)
theorem k_424 : Cond.static y_M_down ∈ er_big := er_i26 (List.mem_of_getElem? (i := 8) rfl)
theorem k_425 : Cond.code y_M_down b_M_down 4 (some .long) ∈ er_big := er_i26 (List.mem_of_getElem? (i := 9) rfl)
theorem k_426 : Cond.methodLink R_L 95 y_M_at ∈ er_big := er_i26 (List.mem_of_getElem? (i := 10) rfl)
theorem k_427 : Cond.instanceMethod y_M_at ∈ er_big := er_i26 (List.mem_of_getElem? (i := 11) rfl)
theorem k_428 : Cond.selects R_M y_M_at y_M_at ∈ er_big := er_i26 (List.mem_of_getElem? (i := 12) rfl)
theorem k_429 : Cond.code y_M_at b_M_at 10 (some .int) ∈ er_big := er_i26 (List.mem_of_getElem? (i := 13) rfl)
theorem k_430 : Cond.constantLong R_M 95 536870912 ∈ er_big := er_i26 (List.mem_of_getElem? (i := 14) rfl)
theorem k_431 : Cond.arrayClass .long ∈ er_big := er_i26 (List.mem_of_getElem? (i := 15) rfl)
theorem k_432 : Cond.sameMethod "java/lang/Throwable" "java/lang/Throwable" "fillInStackTrace" "(I)Ljava/lang/Throwable;" ∈ er_big := er_i27 (List.mem_of_getElem? (i := 0) rfl)
theorem kn_0 : Cond.methodLinkNest R_E 9 y_C_init "EdgeRaster" ∈ er_nest := List.mem_of_getElem? (i := 0) rfl
theorem kn_1 : Cond.fieldLinkNest R_E 79 "EdgeRaster$Corner" "x" "I" "EdgeRaster" ∈ er_nest := List.mem_of_getElem? (i := 1) rfl
theorem kn_2 : Cond.fieldLinkNest R_E 82 "EdgeRaster$Corner" "y" "I" "EdgeRaster" ∈ er_nest := List.mem_of_getElem? (i := 2) rfl
theorem kn_3 : Cond.fieldLinkNest R_E 85 "EdgeRaster$Corner" "deep" "I" "EdgeRaster" ∈ er_nest := List.mem_of_getElem? (i := 3) rfl
theorem kn_4 : Cond.fieldLinkNest R_E 88 "EdgeRaster$Corner" "nearness" "I" "EdgeRaster" ∈ er_nest := List.mem_of_getElem? (i := 4) rfl
theorem kn_5 : Cond.fieldLinkNest R_E 102 "EdgeRaster$Corner" "values" "[I" "EdgeRaster" ∈ er_nest := List.mem_of_getElem? (i := 5) rfl
theorem kn_6 : Cond.methodLinkNest R_E 158 y_C_admits "EdgeRaster" ∈ er_nest := List.mem_of_getElem? (i := 6) rfl
theorem kn_7 : Cond.methodLinkNest R_E 154 y_C_layEdge "EdgeRaster" ∈ er_nest := List.mem_of_getElem? (i := 7) rfl
theorem kn_8 : Cond.methodLinkNest R_E 128 y_C_weightAt "EdgeRaster" ∈ er_nest := List.mem_of_getElem? (i := 8) rfl
theorem kn_9 : Cond.methodLinkNest R_E 144 y_C_nearWeightAt "EdgeRaster" ∈ er_nest := List.mem_of_getElem? (i := 9) rfl
theorem i_C : ∀ w ∈ u_ws R_C F_C 10, w ∈ er_big := by decide +kernel
theorem i_E : ∀ w ∈ u_ws R_E F_E 12, w ∈ er_big := by decide +kernel
theorem i_M : ∀ w ∈ u_ws R_M F_M 15, w ∈ er_big := by decide +kernel
set_option maxRecDepth 100000 in
theorem er_all : GoodIn lw_tbl er_big := goodIn_p er_big [31, 34, 39, 118, 122, 126, 130, 134, 138, 146, 149, 152, 177, 196, 199, 202, 205, 228, 232, 236, 240, 247, 250, 258, 267, 276, 289, 296, 304, 313, 316, 319, 322, 329, 334, 337, 340, 346, 397, 401, 404, 410, 414, 418, 422, 426, 430, 434, 438, 442, 446, 450, 454, 458, 462, 467, 471, 474, 478] rfl (by decide +kernel)
theorem er_nest_in : ∀ w ∈ er_nest, w ∈ lw_tbl := by decide +kernel
end
section
-- THROWING AND CATCHING: a contract of a call that throws; the row of 'throw new X("..")'; the row of a call whose throw is caught in the calling method
theorem er_same_nil {s s' : State} {k n : Nat} (h : s.sameButNew s' [] k n) : s.heap.size ≤ s'.heap.size ∧ ∀ q : Nat, q < s.heap.size → s'.heap[q]? = s.heap[q]? := by
  refine ⟨h.2.1, fun q hq => ?_⟩
  obtain ⟨c', h1, h2, h3, h4⟩ := h.2.2.2.2.2 q s.heap[q] (Array.getElem?_eq_getElem hq)
  rw [h1, Array.getElem?_eq_getElem hq]
  have e : c'.slots = s.heap[q].slots := by
    apply Array.ext_getElem?
    intro i
    exact h4 i (by simp)
  rw [h2, e]
def er_TQ (below : List Frame) (cls : String) (s : State) (mc ms : Nat) : State → Prop := fun t => ∃ (x : Addr) (ce : Cell), t.status = .running ∧ Ended t below (.threw x) ∧ t.heap[x]? = some ce ∧ ce.vm = .none ∧ s.vm.findClass cls = some ce.cls ∧ s.WarmedH t.vm ∧ s.sameButNew ({ t with vm := s.vm } : State) [] mc ms
/-- method y, from every state where the words ws hold, the room rm is left and 'Pc args s': it throws a new object of the class cls; nothing that was there is changed; mc cells of ms slots come -/
def er_T (l : Launch) (y : MethodName) (ws : List Cond) (rm : Room) (Pc : Array Value → State → Prop) (cls : String) (mc ms : Nat) : Prop :=
  MetFree l y (headSpec ws rm) Pc (fun _ _ _ _ _ => True) (fun _ st o t => ∃ (x : Addr) (ce : Cell), o = .threw x ∧ t.heap[x]? = some ce ∧ ce.vm = .none ∧ st.vm.findClass cls = some ce.cls ∧ st.WarmedH t.vm ∧ st.sameButNew ({ t with vm := st.vm } : State) [] mc ms)
theorem er_T.ofW {l : Launch} {y : MethodName} {ws ws' : List Cond} {rm : Room} {Pc : Array Value → State → Prop} {cls : String} {mc ms : Nat} {cc : ByteArray} {maxL : Nat} {ret : Option FieldType}
    (hy : plainName y.cls = true) (hw : ws = Cond.code y cc maxL ret :: ws')
    (body : ∀ p e s m args below meth c s₁, BodyLoose p l y (headSpec ws rm) cc maxL ret e s m args below meth c s₁ → c.maxLocals = maxL → Pc args s →
      W p l e (headSpec ws rm).room s m args below meth c s.heap [] 0 0 (er_TQ below cls s mc ms) (entryFrame m args maxL)) : er_T l y ws rm Pc cls mc ms := by
  refine MetFree.of_bodyS (code := cc) (maxLocals := maxL) (ret := ret) hy ?_ ?_
  · intro args s m h hn
    obtain ⟨meth, c, h1, h2, h3, h4, h5, h6, -, -⟩ := Cond.code_spec hn (atoms_spec (ws := ws) h _ (by rw [hw]; exact List.mem_cons_self))
    exact ⟨meth, c, h1, h2, h3, h4, h5, h6⟩
  · intro p e s m args below meth c s₁ B hml hP _
    have hh0 : s₁.heap = s.heap := by rw [B.state]; rfl
    obtain ⟨t, a1, x, ce, b1, b2, b3⟩ := body p e s m args below meth c s₁ B hml hP s₁ hh0 (Stand.of_body B)
    exact ⟨t, .threw x, a1, b1, b2, x, ce, rfl, b3⟩
section ErThrow
variable {p : Program} {l : Launch} {e : Env} {R : Room} {s : State} {m : MethodId} {args : Array Value} {below : List Frame} {meth : Method} {c : Code} {H : Heap} {locs : List Loc} {cells slots : Nat} {Q : State → Prop}
theorem er_throw {cc : ByteArray} (hexec : p.tables.exec = Jvm.exec) (hb : c.code = cc) (htr : e.platform.stackTraces = false) {own cls tx : String} {names : List String} {ia ib ic q : Nat} (hown : s.vm.findClass own = some m.cls)
    (hcls : Bundle.fit cls = true) (hnames : ∀ n ∈ names, Bundle.fit n = true) (hat : ∀ a ∈ Bundle.ownAtoms own ic cls names, a.before args s = true) (hlink : (Cond.classLink own ia cls).before args s = true) (hini : (Cond.initialized cls).before args s = true) (hstr : vk_R own ib tx q s)
    (hno : c.exceptionTable.isEmpty = true) (hlocks : meth.locks = false) {pc : Nat} {ls : Array Slot} {rest : List Value} (hls : ls.size = c.maxLocals) (hH : s.heap.size ≤ H.size)
    (d0 : decode cc pc = .ok (.new ia, 3)) (d3 : decode cc (pc + 3) = .ok (.dup, 1)) (d4 : decode cc (pc + 4) = .ok (.ldc ib, 2)) (d6 : decode cc (pc + 6) = .ok (.invokespecial ic, 3)) (d9 : decode cc (pc + 9) = .ok (.athrow, 1))
    (hc : cells + 1 ≤ R.cells) (hs : slots + 6 ≤ R.slots) (hf : names.length + 3 < R.frames) (hl : 1 + (rest.map fun v => v.category).sum + (13 * (names.length + 1) + 42) ≤ R.locals) :
    W p l e R s m args below meth c H [] cells slots (er_TQ below cls s (cells + 1) (slots + 6)) (F0 m pc ls rest) := by
  refine W.newc (n := 6) hexec hb hown hlink (hat (.instantiable cls 6) (by simp [Bundle.ownAtoms])) hini rfl d0 hc hs (fun cC kC h1 h2 h3 h4 => ?_)
  refine W.eq (g2 := F0 m (pc + 3) ls (.ref H.size :: rest)) rfl ?_
  refine lv_dup hexec hb d3 rfl ?_
  refine va_ldcS hexec hb hown hstr d4 ?_
  intro T hT X
  have hempty : c.exceptionTable.toList = [] := by
    have h0 : c.exceptionTable.size = 0 := by simpa [Array.isEmpty] using hno
    exact List.eq_nil_of_length_eq_zero (by simpa using h0)
  have hcell : T.heap[H.size]? = some (freshCell cC kC) := by rw [hT]; simp
  obtain ⟨U, st, hrun, hend, hW, hsame, ce, hce, hown'⟩ := X.ctorThrowS hexec htr (own := own) (cls := cls) (names := names) (ic := ic) hown hcls hnames hat (fun x hx => by cases hx) (a := H.size) h1 h2 hcell hH (msg := .ref q) rfl
    (g := F0 m (pc + 4 + 2) ls (.ref q :: .ref H.size :: .ref H.size :: rest)) rfl hls rfl rfl (rest := rest) rfl (by rw [hb]; exact d6) (by rw [hb]; exact d9) (fun x hx => by rw [hempty] at hx; cases hx) hf
    (by show 2 * 0 + (1 + (rest.map fun v => v.category).sum) + _ ≤ _; omega) hlocks
  exact ⟨U, st, H.size, ce, hrun, hend, hce, hown'.vm, hown'.cls, hW, hsame⟩
/-- a callee that throws, from the caller's invoking instruction to the note over the caller's frame -/
theorem er_thrown {y : MethodName} {ws : List Cond} {rm : Room} {Pc : Array Value → State → Prop} {cls : String} {mc ms : Nat} {bytes : ByteArray} {maxL : Nat} {ret : Option FieldType} {U : State} {g : JFrame} {ig : Instr} {len Wt : Nat} {mk : MethodId} {a : Array Value}
    (hM : er_T l y ws rm Pc cls mc ms) (X : Stand p l e R s m args below meth c U locs cells slots) (hg : g.method = m) (hsize : g.locals.size = c.maxLocals) (hdg : decode c.code g.pc = .ok (ig, len)) (hW : 2 * g.monitorRoom + (g.stack.map fun v => v.category).sum ≤ Wt)
    (hn : U.methodNamed? y = some mk) (hpre : (headSpec ws rm).pre.before a U = true) (hcode : (Cond.code y bytes maxL ret).before a U = true) (hini : (Cond.initialized y.cls).before a U = true)
    (hframes : rm.frames + 1 ≤ R.frames) (hlocals : Wt + (maxL + 11) + rm.locals ≤ R.locals) (hcells : cells + rm.cells ≤ R.cells) (hslots : slots + rm.slots ≤ R.slots) (hP : Pc a (U.calling g mk a)) :
    ∃ (x : Addr) (ce : Cell) (T' : State), Stand p l e R s m args below meth c T' locs (cells + mc) (slots + ms) ∧ T'.heap[x]? = some ce ∧ ce.vm = .none ∧ U.vm.findClass cls = some ce.cls ∧ U.heap.size ≤ T'.heap.size ∧ (∀ q : Nat, q < U.heap.size → T'.heap[q]? = U.heap[q]?) ∧
      Steps p.tables e below (doInvoke e (U.setTop g) [] mk a).1 ((T'.setTop g).pushFrame (.throwing x)) := by
  obtain ⟨methY, cY, hmY, hcY, -, hlY, -, -, -, -⟩ := Cond.code_spec hn hcode
  obtain ⟨kY, hkY, -⟩ := className_of_methodNamed hn
  have hinitY : kY.init = .initialized := Cond.initialized_spec (findClass_of_methodNamed hn) hkY hini
  have h : At U g.method c below := by rw [hg]; exact X.here
  have happ : (headSpec ws rm).appliesLoose y e.platform (U.calling g mk a) = true :=
    Spec.appliesLoose_calling (g := g) h hdg hn hkY hinitY
      (X.room_calling (g := g) (R' := (headSpec ws rm).room) hsize hmY hcY hframes (by rw [hlY]; show _ ≤ _; have : (headSpec ws rm).room.locals = rm.locals := rfl; omega) hcells hslots) hpre
  obtain ⟨mid, hmid⟩ := h.above
  have hfr : (U.setTop g).frames = (.java g :: mid) ++ below := by rw [State.frames_setTop' g h.top, hmid]; rfl
  obtain ⟨o, s₂, hsteps, -, hend, hq⟩ := Steps.callFree hM p X.admits X.cas X.clock (acts := []) hfr happ hP trivial
  obtain ⟨x, ce, rfl, hce, hcv, hcc, hW₂, hsame₂⟩ : ∃ (x : Addr) (ce : Cell), o = .threw x ∧ s₂.heap[x]? = some ce ∧ ce.vm = .none ∧ (U.calling g mk a).vm.findClass cls = some ce.cls ∧ (U.calling g mk a).WarmedH s₂.vm ∧ (U.calling g mk a).sameButNew ({ s₂ with vm := (U.calling g mk a).vm } : State) [] mc ms := hq
  rw [State.frames_setTop' g h.top] at hend
  have hkeep := er_same_nil hsame₂
  obtain ⟨e2, q2, q3, q4, q5, q6⟩ := hsame₂
  have e3 : s₂ = ({ (U.calling g mk a).setFrames s₂.frames with heap := s₂.heap, slotsUsed := s₂.slotsUsed } : State).setVm s₂.vm := by
    have : s₂ = ({ s₂ with vm := (U.calling g mk a).vm } : State).setVm s₂.vm := rfl
    rw [e2] at this
    exact this
  have hf₂ : s₂.frames = .throwing x :: .java g :: U.frames.tail := hend
  have hW' : U.WarmedH s₂.vm := hW₂
  obtain ⟨g₀, hg0⟩ := Option.isSome_iff_exists.mp h.top
  obtain ⟨r, hr⟩ := State.topJava?_eq_some.mp hg0
  have hs₂ : s₂ = ((({ U with heap := s₂.heap, slotsUsed := s₂.slotsUsed } : State).setVm s₂.vm).setTop g).pushFrame (.throwing x) := by
    have hr' : (({ U with heap := s₂.heap, slotsUsed := s₂.slotsUsed } : State).setVm s₂.vm).frames = .java g₀ :: r := hr
    refine e3.trans ?_
    rw [hf₂, State.calling_eq h.top, State.setFrames_setFrames, State.pushFrame, State.frames_setTop _ hr', State.setTop_of_frames _ hr', State.setFrames_setFrames, hr]
    rfl
  have hsame : U.sameButNew ({ U with heap := s₂.heap, slotsUsed := s₂.slotsUsed } : State) [] mc ms := by
    refine ⟨?_, q2, q3, q4, q5, q6⟩
    obtain ⟨t, ht, -⟩ := State.frames_cons hr
    show ({ U with heap := s₂.heap, slotsUsed := s₂.slotsUsed } : State) = { U.setFrames U.frames with heap := s₂.heap, slotsUsed := s₂.slotsUsed }
    rw [State.setFrames_self ht]
  subst hg
  have hst : Stand p l e R s g.method args below meth c (({ U with heap := s₂.heap, slotsUsed := s₂.slotsUsed } : State).setVm s₂.vm) (locs ++ []) (cells + mc) (slots + ms) :=
    ⟨X.admits, X.cas, X.clock, X.frames, X.room, X.hears, X.method, X.code, (X.here.setHeapUsed s₂.heap s₂.slotsUsed).setVm hW'.alike, X.tail, State.WarmedH.trans X.warmed hW', X.limits, X.bytes, X.same.trans (hsame.setVm s.vm)⟩
  rw [List.append_nil] at hst
  exact ⟨x, ce, _, hst, hce, hcv, hcc, hkeep.1, hkeep.2, by rw [← hs₂]; exact hsteps⟩
end ErThrow
-- the search for a handler: a row whose class is linked, taken or passed; the tables that it leaves
section ErCatch
theorem er_go {e : Env} {d : Bool} {acts : List Action} {s : State} {f : JFrame} {a : Addr} {Q : Handler → Pre} {E : CtlPost} {x : ExceptionTableEntry} {t : List ExceptionTableEntry} {c : ClassId} {cell : Cell} (hx : covers x f.pc = true) (h0 : x.catchType ≠ 0)
    (hl : s.vm.ClassLinks e.platform f.method.cls x.catchType c) (hcell : s.heap[a]? = some cell) (hobj : ∀ k, cell.vm ≠ .statics k) (hk : ∃ k, s.vm.classes[cell.cls]? = some k) (hc : ∃ k, s.vm.classes[c]? = some k) :
    wp (findHandler.go f a (x :: t)) Q E e d acts s ↔ (if s.vm.assignable cell.cls c = true then Q (.found x.handlerPc) d acts (s.setVm (s.vm.noted f.method.cls x.catchType (.cls c))) else wp (findHandler.go f a t) Q E e d acts (s.setVm (s.vm.noted f.method.cls x.catchType (.cls c)))) := by
  simp only [covers] at hx
  obtain ⟨r1, r2⟩ := (resolveClass_links e.toSetting hl).op (op := VmOp.resolveClass f.method.cls x.catchType) rfl
  have hal : s.vm.Alike (s.vm.noted f.method.cls x.catchType (.cls c)) := (Vm.Alike.refl s.vm).noted _ _ _
  obtain ⟨k1, hk1⟩ := hk
  obtain ⟨k2, hk2⟩ := hc
  obtain ⟨k3, hk3, -⟩ := hal.2.2 _ _ hk1
  obtain ⟨k4, hk4, -⟩ := hal.2.2 _ _ hk2
  have hsame : (s.vm.noted f.method.cls x.catchType (.cls c)).assignable cell.cls c = s.vm.assignable cell.cls c := hal.assignable ..
  cases hb : s.vm.assignable cell.cls c <;> rw [hb] at hsame <;> simp [findHandler.go, hx, h0, r1, r2, hcell, hobj, hk3, hk4, hsame, VmOp.dirties, VmOp.acts]
def er_finds (e : Env) (s : State) (f : JFrame) (a : Addr) (pc : Nat) (vm' : Vm) : Prop :=
  ∀ (Q : Handler → Pre) (E : CtlPost) (d : Bool) (acts : List Action), wp (findHandler f a) Q E e d acts s ↔ Q (.found pc) d acts (s.setVm vm')
theorem er_stepCatch {e : Env} {s : State} {a : Addr} {f : JFrame} {r : List Frame} {pc : Nat} {vm' : Vm} (hfind : er_finds e s f a pc vm') :
    (stepThrowing e s a (.java f :: r)).Is ((s.setVm vm').setFrames (.java { f with pc := pc, stack := [.ref a] } :: r)) [] := by
  simp only [stepThrowing, searchFrame, vmDo]
  generalize hr : Sem.go _ e false [] s = res
  obtain ⟨as, rfl, ha⟩ := Sem.eq_ok_of hr (a := Handler.found pc) (s' := s.setVm vm') (acts' := []) (by simp [hfind _ _ _ _])
  exact ⟨rfl, ha⟩
theorem er_caught {tb : Tables} {e : Env} {s target : State} {g : JFrame} {c : Code} {below : List Frame} {a : Addr} (h : At s g.method c below) {pc : Nat} {vm' : Vm} (hfind : er_finds e ((s.setTop g).pushFrame (.throwing a)) g a pc vm')
    (hrest : Steps tb e below ((s.setVm vm').setTop { g with pc := pc, stack := [.ref a] }) target) : Steps tb e below ((s.setTop g).pushFrame (.throwing a)) target := by
  obtain ⟨hgo, hw⟩ := h.throwing a
  refine Steps.head hgo hw ?_
  rw [stepThread_throwing (frames_entered h.top _), (er_stepCatch (s := (s.setTop g).pushFrame (.throwing a)) hfind).1]
  obtain ⟨g₀, hg⟩ := Option.isSome_iff_exists.mp h.top
  obtain ⟨r, hr⟩ := State.topJava?_eq_some.mp hg
  have hr' : (s.setVm vm').frames = .java g₀ :: r := hr
  rw [State.setTop_of_frames _ hr'] at hrest
  have e1 : ∀ (u : State) (F G : List Frame), ((u.setFrames F).setVm vm').setFrames G = (u.setVm vm').setFrames G := by
    intro u F G
    have h1 : (u.setFrames F).setVm vm' = (u.setVm vm').setFrames F := rfl
    rw [h1, State.setFrames_setFrames]
  rw [hr, List.tail_cons, State.pushFrame, e1, State.setTop_of_frames _ hr, e1]
  exact hrest
variable {p : Program} {l : Launch} {e : Env} {R : Room} {s : State} {m : MethodId} {args : Array Value} {below : List Frame} {meth : Method} {c : Code} {T : State} {locs : List Loc} {cells slots : Nat}
/-- what the first row of the table that covers the place says, when its class takes the object -/
theorem er_catch1 (X : Stand p l e R s m args below meth c T locs cells slots) {a : Addr} {g : JFrame} (hg : g.method = m) {own name : String} (hown : s.vm.findClass own = some m.cls) {x : ExceptionTableEntry} {rest : List ExceptionTableEntry} (hx : c.exceptionTable.toList = x :: rest)
    (hcov : covers x g.pc = true) (h0 : x.catchType ≠ 0) (hlink : (Cond.classLink own x.catchType name).before args s = true) {cell : Cell} (hcell : T.heap[a]? = some cell) (hvm : cell.vm = .none) (hcls : s.vm.findClass name = some cell.cls) :
    ∃ vm', Stand p l e R s m args below meth c (T.setVm vm') locs cells slots ∧ ∀ target, Steps p.tables e below ((T.setVm vm').setTop { g with pc := x.handlerPc, stack := [.ref a] }) target → Steps p.tables e below ((T.setTop g).pushFrame (.throwing a)) target := by
  have hpl : e.platform.magicAccessors = ({} : Platform).magicAccessors := by rw [X.admits.platform]
  obtain ⟨c', hc', hcl⟩ := Cond.classLink_spec hown hlink e.platform hpl
  cases hcls.symm.trans hc'
  obtain ⟨dk, _, _, kt, hd, _, _, _, _, hkt, _, hopen⟩ := hcl.here
  have hcl₀ := X.warmed.classLinks hcl
  have hW' : s.WarmedH (T.vm.noted m.cls x.catchType (.cls cell.cls)) := X.warmed.noted hd hopen (State.rightAt_cls hcl)
  obtain ⟨kt', hkt', -⟩ := X.warmed.alike.2.2 _ _ hkt
  refine ⟨_, X.noted hW', fun target hrest => ?_⟩
  subst hg
  refine er_caught X.here (vm' := T.vm.noted g.method.cls x.catchType (.cls cell.cls)) (fun Q E d acts => ?_) hrest
  rw [W.findHandler_eq (s := (T.setTop g).pushFrame (.throwing a)) X.method' X.code, hx, er_go (s := (T.setTop g).pushFrame (.throwing a)) hcov h0 hcl₀ hcell (fun k => by rw [hvm]; exact fun h => by cases h) ⟨kt', hkt'⟩ ⟨kt', hkt'⟩, if_pos (va_asg _ _)]
  exact Iff.rfl
/-- the first row's class doesn't take the object, the second row's does -/
theorem er_catch2 (X : Stand p l e R s m args below meth c T locs cells slots) {a : Addr} {g : JFrame} (hg : g.method = m) {own name name1 : String} (hown : s.vm.findClass own = some m.cls) {x1 x : ExceptionTableEntry} {rest : List ExceptionTableEntry} (hx : c.exceptionTable.toList = x1 :: x :: rest)
    (hcov1 : covers x1 g.pc = true) (h01 : x1.catchType ≠ 0) (hlink1 : (Cond.classLink own x1.catchType name1).before args s = true) {cT1 : ClassId} (hcT1 : s.vm.findClass name1 = some cT1)
    (hcov : covers x g.pc = true) (h0 : x.catchType ≠ 0) (hlink : (Cond.classLink own x.catchType name).before args s = true) {cell : Cell} (hcell : T.heap[a]? = some cell) (hvm : cell.vm = .none) (hcls : s.vm.findClass name = some cell.cls) (hno : s.vm.assignable cell.cls cT1 = false) :
    ∃ vm', Stand p l e R s m args below meth c (T.setVm vm') locs cells slots ∧ ∀ target, Steps p.tables e below ((T.setVm vm').setTop { g with pc := x.handlerPc, stack := [.ref a] }) target → Steps p.tables e below ((T.setTop g).pushFrame (.throwing a)) target := by
  have hpl : e.platform.magicAccessors = ({} : Platform).magicAccessors := by rw [X.admits.platform]
  obtain ⟨c1, hc1, hcl1⟩ := Cond.classLink_spec hown hlink1 e.platform hpl
  cases hcT1.symm.trans hc1
  obtain ⟨c', hc', hcl⟩ := Cond.classLink_spec hown hlink e.platform hpl
  cases hcls.symm.trans hc'
  obtain ⟨dk1, _, _, kt1, hd1, _, _, _, _, hkt1, _, hopen1⟩ := hcl1.here
  obtain ⟨dk, _, _, kt, hd, _, _, _, _, hkt, _, hopen⟩ := hcl.here
  have hW1 : s.WarmedH (T.vm.noted m.cls x1.catchType (.cls cT1)) := X.warmed.noted hd1 hopen1 (State.rightAt_cls hcl1)
  have X1 := X.noted hW1
  have hW2 : s.WarmedH ((T.setVm (T.vm.noted m.cls x1.catchType (.cls cT1))).vm.noted m.cls x.catchType (.cls cell.cls)) := X1.warmed.noted hd hopen (State.rightAt_cls hcl)
  obtain ⟨kt1', hkt1', -⟩ := X.warmed.alike.2.2 _ _ hkt1
  obtain ⟨kt', hkt', -⟩ := X.warmed.alike.2.2 _ _ hkt
  obtain ⟨kt2, hkt2, -⟩ := X1.warmed.alike.2.2 _ _ hkt
  refine ⟨_, X1.noted hW2, fun target hrest => ?_⟩
  subst hg
  refine er_caught X.here (vm' := (T.vm.noted g.method.cls x1.catchType (.cls cT1)).noted g.method.cls x.catchType (.cls cell.cls)) (fun Q E d acts => ?_) hrest
  have hno' : T.vm.assignable cell.cls cT1 = false := by rw [X.warmed.alike.assignable]; exact hno
  rw [W.findHandler_eq (s := (T.setTop g).pushFrame (.throwing a)) X.method' X.code, hx, er_go (s := (T.setTop g).pushFrame (.throwing a)) hcov1 h01 (X.warmed.classLinks hcl1) hcell (fun k => by rw [hvm]; exact fun h => by cases h) ⟨kt', hkt'⟩ ⟨kt1', hkt1'⟩, if_neg (by rw [show ((T.setTop g).pushFrame (.throwing a)).vm = T.vm from rfl, hno']; decide)]
  refine (er_go (s := ((T.setTop g).pushFrame (.throwing a)).setVm (T.vm.noted g.method.cls x1.catchType (.cls cT1))) hcov h0 (X1.warmed.classLinks hcl) hcell (fun k => by rw [hvm]; exact fun h => by cases h) ⟨kt2, hkt2⟩ ⟨kt2, hkt2⟩).trans ?_
  rw [if_pos (va_asg _ _)]
  exact Iff.rfl
end ErCatch
-- the rows of calls: a virtual call that throws and is caught here; a static call of a method that has handlers
section ErCall
variable {p : Program} {l : Launch} {e : Env} {R : Room} {s : State} {m : MethodId} {args : Array Value} {below : List Frame} {meth : Method} {c : Code} {H : Heap} {locs : List Loc} {cells slots : Nat} {Q : State → Prop}
  {Ts ws ws' : List Cond} {cc bytes : ByteArray} {nL maxL index n mc ms : Nat} {own C cls : String} {y : MethodName} {ret : Option FieldType} {rm : Room} {Pc : Array Value → State → Prop} {Qc : Array Value → State → Outcome → State → Prop} {free : Addr → Prop}
  {b : Addr} {As rest st0 : List Value} {pc : Nat} {ls : Array Slot}
theorem er_note (S : CallFix p m c cc nL s args Ts own) (hM : er_T l y ws rm Pc cls mc ms) (cw : CallW R s args own C index y bytes maxL ret ws rm mc ms n) (hp : PreV s H C b Pc As)
    (hn : As.length = n) (hsize : ls.size = nL) (hstack : st0 = As.reverse ++ .ref b :: rest) (hW : (rest.map fun v => v.category).sum ≤ 8) (hdg : decode cc pc = .ok (.invokevirtual index, 3)) (hf : cells + mc ≤ R.cells ∧ slots + ms ≤ R.slots)
    {T : State} (hT : T.heap = H) (X : Stand p l e R s m args below meth c T locs cells slots) :
    ∃ (a : Addr) (ce : Cell) (T' : State), Stand p l e R s m args below meth c T' locs (cells + mc) (slots + ms) ∧ T'.heap[a]? = some ce ∧ ce.vm = .none ∧ s.vm.findClass cls = some ce.cls ∧ H.size ≤ T'.heap.size ∧ (∀ q : Nat, q < H.size → T'.heap[q]? = H[q]?) ∧
      ∀ target, Steps p.tables e below ((T'.setTop (F0 m pc ls rest)).pushFrame (.throwing a)) target → Steps p.tables e below (T.setTop (F0 m pc ls st0)) target := by
  obtain ⟨⟨hrc, hrs, hfr, hlo, hws, hcw, hcode, hini, hy, hlen, hl⟩, hin, hsel⟩ := cw
  obtain ⟨hx, hb, hml, ho, -⟩ := S
  obtain ⟨hbl, ⟨cellB, hcB, hoB, hclB⟩, hPc⟩ := hp
  subst hstack
  obtain ⟨mk, methM, hnamed, hmethM, hstM, habM⟩ := Cond.instanceMethod_spec hin
  obtain ⟨methM', cM, hmethM', -, -, -, -, -, -, hsigM⟩ := Cond.code_spec hnamed hcode
  cases hmethM.symm.trans hmethM'
  obtain ⟨c2, r2, m2, q1, q2, q3, q4, kP, hkP, hkPi⟩ := Cond.selects_spec hsel
  cases hclB.symm.trans q1
  cases (State.methodFound?_of_named hnamed hy).symm.trans q2
  cases hnamed.symm.trans q3
  have hselP : selectMethod e.platform s.vm cellB.cls mk = .method mk := by rw [Launch.admits_selectMethod X.admits]; exact q4
  obtain ⟨vm₁, X₁, hstep₁⟩ := X.invokevirtual hx ho hl hnamed hmethM hstM hkP hkPi hy (a := b) (cell := cellB) (by rw [hT]; exact hcB)
    (fun z h => by rw [h] at hoB; cases hoB) hselP hmethM habM hkP hkPi (g := F0 m pc ls (As.reverse ++ .ref b :: rest)) rfl (argsL := As) (rest := rest) (hn.trans (hlen _ hsigM)) rfl (by rw [hb]; exact hdg)
  have hwarm := X₁.warmed
  obtain ⟨a, ce, T', X', h1, h2, h3, h4, h5, h6⟩ := er_thrown (U := T.setVm vm₁) (g := F0 m pc ls rest) (ig := .invokevirtual index) (len := 3) (Wt := 8) (mk := mk) (a := (Value.ref b :: As).toArray) (bytes := bytes) (maxL := maxL) (ret := ret) hM X₁ rfl (hsize.trans hml.symm) (by rw [hb]; exact hdg)
    (by show 2 * 0 + (rest.map fun v => v.category).sum ≤ 8; omega) (X₁.named hnamed) (atoms_intro fun w hw => hws w hw _ _ hwarm) (hws _ hcw _ _ hwarm) (word_at hwarm (Or.inl (by first | rfl | simp [Cond.onTables, Cond.keeps, Cond.steady])) hini) hfr hlo (by rw [hrc]; exact hf.1) (by rw [hrs]; exact hf.2)
    (hbl _ _ _ _ (hPc (T.setVm vm₁) hT hwarm))
  refine ⟨a, ce, T', X', h1, h2, by rw [← hwarm.alike.findClass]; exact h3, by rw [← hT]; exact h4, fun q hq => by rw [← hT]; exact h5 q (by rw [← hT] at hq; exact hq), fun target h => hstep₁ _ fun acts => ?_⟩
  rw [doInvoke_state]
  exact h6.trans h
theorem er_callC1 (S : CallFix p m c cc nL s args Ts own) (hM : er_T l y ws rm Pc cls mc ms) (cw : CallW R s args own C index y bytes maxL ret ws rm mc ms n) (hp : PreV s H C b Pc As)
    (hn : As.length = n) (hsize : ls.size = nL) (hstack : st0 = As.reverse ++ .ref b :: rest) (hW : (rest.map fun v => v.category).sum ≤ 8) (hdg : decode cc pc = .ok (.invokevirtual index, 3)) (hf : cells + mc ≤ R.cells ∧ slots + ms ≤ R.slots)
    {x : ExceptionTableEntry} {more : List ExceptionTableEntry} (hx : c.exceptionTable.toList = x :: more) (hcov : covers x pc = true) (h0 : x.catchType ≠ 0) (hlink : (Cond.classLink own x.catchType cls).before args s = true)
    (kk : ∀ (H1 : Heap) (a : Nat), H.size ≤ H1.size → (∀ q : Nat, q < H.size → H1[q]? = H[q]?) → W p l e R s m args below meth c H1 locs (cells + mc) (slots + ms) Q (F0 m x.handlerPc ls [.ref a])) :
    W p l e R s m args below meth c H locs cells slots Q (F0 m pc ls st0) := by
  intro T hT X
  obtain ⟨a, ce, T', X', h1, h2, h3, h4, h5, h6⟩ := er_note S hM cw hp hn hsize hstack hW hdg hf hT X
  obtain ⟨vm', XV, stV⟩ := er_catch1 X' (a := a) (g := F0 m pc ls rest) rfl S.2.2.2.1 hx hcov h0 hlink h1 h2 h3
  obtain ⟨t, st, hq⟩ := kk T'.heap a h4 h5 (T'.setVm vm') rfl XV
  exact ⟨t, h6 _ (stV _ st), hq⟩
theorem er_callC2 (S : CallFix p m c cc nL s args Ts own) (hM : er_T l y ws rm Pc cls mc ms) (cw : CallW R s args own C index y bytes maxL ret ws rm mc ms n) (hp : PreV s H C b Pc As)
    (hn : As.length = n) (hsize : ls.size = nL) (hstack : st0 = As.reverse ++ .ref b :: rest) (hW : (rest.map fun v => v.category).sum ≤ 8) (hdg : decode cc pc = .ok (.invokevirtual index, 3)) (hf : cells + mc ≤ R.cells ∧ slots + ms ≤ R.slots)
    {x1 x : ExceptionTableEntry} {more : List ExceptionTableEntry} (hx : c.exceptionTable.toList = x1 :: x :: more) {cls1 : String} (hcov1 : covers x1 pc = true) (h01 : x1.catchType ≠ 0) (hlink1 : (Cond.classLink own x1.catchType cls1).before args s = true)
    (hno : ∀ c1 c2, s.vm.findClass cls = some c1 → s.vm.findClass cls1 = some c2 → s.vm.assignable c1 c2 = false)
    (hcov : covers x pc = true) (h0 : x.catchType ≠ 0) (hlink : (Cond.classLink own x.catchType cls).before args s = true)
    (kk : ∀ (H1 : Heap) (a : Nat), H.size ≤ H1.size → (∀ q : Nat, q < H.size → H1[q]? = H[q]?) → W p l e R s m args below meth c H1 locs (cells + mc) (slots + ms) Q (F0 m x.handlerPc ls [.ref a])) :
    W p l e R s m args below meth c H locs cells slots Q (F0 m pc ls st0) := by
  intro T hT X
  obtain ⟨a, ce, T', X', h1, h2, h3, h4, h5, h6⟩ := er_note S hM cw hp hn hsize hstack hW hdg hf hT X
  have hpl : e.platform.magicAccessors = ({} : Platform).magicAccessors := by rw [X.admits.platform]
  obtain ⟨c1, hc1, -⟩ := Cond.classLink_spec S.2.2.2.1 hlink1 e.platform hpl
  obtain ⟨vm', XV, stV⟩ := er_catch2 X' (a := a) (g := F0 m pc ls rest) rfl S.2.2.2.1 hx hcov1 h01 hlink1 hc1 hcov h0 hlink h1 h2 h3 (hno _ _ h3 hc1)
  obtain ⟨t, st, hq⟩ := kk T'.heap a h4 h5 (T'.setVm vm') rfl XV
  exact ⟨t, h6 _ (stV _ st), hq⟩
/-- 'Met.ofW' for a method that has handlers -/
theorem er_ofWW {handlers : List (Nat × Nat × Nat × Nat)} (hy : plainName y.cls = true) (hw : ws = Cond.codeWith y cc maxL ret handlers :: ws')
    (body : ∀ p e s m args below meth c s₁, BodyLoose p l y (headSpec ws rm) cc maxL ret e s m args below meth c s₁ → c.maxLocals = maxL → c.exceptionTable.toList.map (fun h => (h.startPc, h.endPc, h.handlerPc, h.catchType)) = handlers → Pc args s →
      W p l e (headSpec ws rm).room s m args below meth c s.heap [] 0 0 (MQ below Qc args s mc ms free) (entryFrame m args maxL)) : Met l y ws rm Pc Qc mc ms free := by
  refine MetFree.of_bodyS (code := cc) (maxLocals := maxL) (ret := ret) hy ?_ ?_
  · intro args s m h hn
    obtain ⟨m', meth, c, h1, h2, h3, h4, h5, -, h6, h7, -⟩ := Cond.codeWith_spec (atoms_spec (ws := ws) h _ (by rw [hw]; exact List.mem_cons_self))
    cases hn.symm.trans h1
    exact ⟨meth, c, h2, h3, h4, h5, h6, h7⟩
  · intro p e s m args below meth c s₁ B hml hP _
    have hh0 : s₁.heap = s.heap := by rw [B.state]; rfl
    obtain ⟨m', meth', c', h1, h2, h3, -, -, h6, -, -, -⟩ := Cond.codeWith_spec (atoms_spec (ws := ws) B.pre _ (by rw [hw]; exact List.mem_cons_self))
    cases B.named.symm.trans h1
    cases B.method.symm.trans h2
    cases (Stand.of_body B).code.symm.trans h3
    obtain ⟨t, a1, o, b1, b2, b3⟩ := body p e s m args below meth c s₁ B hml h6 hP s₁ hh0 (Stand.of_body B)
    exact ⟨t, o, a1, b1, b2, ⟨b3.1, b3.2⟩⟩
theorem er_runSW {handlers : List (Nat × Nat × Nat × Nat)} (S : CallFix p m c cc nL s args Ts own) (hM : Met l y ws rm Pc Qc mc ms free) (hG : GoodIn Ts ([.methodLink own index y, .static y, .initialized y.cls] ++ ws)) (hw : ws = Cond.codeWith y bytes maxL ret handlers :: ws') (hrc : rm.cells = mc) (hrs : rm.slots = ms)
    (hd : y.cls ≠ "java/lang/invoke/MethodHandle" ∧ y.cls ≠ "java/lang/invoke/VarHandle" ∧ (parseMethodDescriptor y.desc).map (fun d => d.parameters.length) = some n) (hR : rm.frames + 1 ≤ R.frames ∧ 8 + (maxL + 11) + rm.locals ≤ R.locals)
    (hp : PreS s H Pc As) (hn : As.length = n) (hsize : ls.size = nL) (hstack : st0 = As.reverse ++ rest) (hW : (rest.map fun v => v.category).sum ≤ 8) (hdg : decode cc pc = .ok (.invokestatic index, 3)) (hf : cells + mc ≤ R.cells ∧ slots + ms ≤ R.slots) :
    va_Run p l e R s m args below meth c H locs cells slots mc ms (F0 m pc ls st0) rest (Qc As.toArray) (free) := by
  obtain ⟨hx, hb, hml, ho, hts⟩ := S
  have hcm : Cond.codeWith y bytes maxL ret handlers ∈ ws := by rw [hw]; exact List.mem_cons_self
  have hws : ∀ w ∈ ws, ∀ (a' : Array Value) (U : State), s.WarmedH U.vm → w.before a' U = true := pay_in hts (fun w h => hG w (List.mem_append_right _ h))
  have ok : ∀ w ∈ ([.methodLink own index y, .static y, .initialized y.cls] : List Cond), w.before args s = true := fun w h => hts w (hG w (List.mem_append_left _ h)).1
  have hl := ok (.methodLink own index y) (by simp)
  have hst := ok (.static y) (by simp)
  have hini := ok (.initialized y.cls) (by simp)
  have hcode := hts _ (hG _ (List.mem_append_right _ hcm)).1
  have hK : Back l R p e below s args y 3 8 (PreOf R mc ms Pc) (PostOf Qc mc ms free) := by
    refine Back.of_freeWith (S := headSpec ws rm) (P := Pc) (K := fun _ _ _ _ _ => True) (Q := fun a st o t => Qc a st o t ∧ ∃ L, FrameEnd st o t L mc ms ∧ ∀ q ∈ L, free q.base) (bytes := bytes) (maxL := maxL) (ret := ret) (handlers := handlers)
      (E := fun a st o t L k n => k = mc ∧ n = ms ∧ ∀ q ∈ L, free q.base) hM hR.1 hR.2 ?_ ?_ (fun _ _ _ _ _ _ _ _ _ => trivial) ?_ ?_
    · intro m meth c A a X hp
      exact ⟨atoms_intro fun w hw => hws w hw _ _ X.warmed, hws _ hcm _ _ X.warmed, word_at X.warmed (Or.inl (by first | rfl | simp [Cond.onTables, Cond.keeps, Cond.steady])) hini, by rw [show (headSpec ws rm).room.cells = mc from hrc]; exact hp.1, by rw [show (headSpec ws rm).room.slots = ms from hrs]; exact hp.2.1⟩
    · intro m meth c A a g mk X hp'
      exact hp.1 _ _ _ _ hp'.2.2
    · intro a st o t ⟨hq, L, hF, hL⟩
      exact ⟨L, mc, ms, hF, rfl, rfl, hL⟩
    · intro m meth c A a g mk v t L k n X hp hq hF ⟨e1, e2, hL⟩
      subst e1; subst e2
      exact ⟨g, mk, t, L, rfl, rfl, hq.1, rfl, hL, rfl, rfl⟩
  subst hstack
  intro T hT X
  obtain ⟨mk, methM, cM, hnamed, hmethM, -, -, -, -, -, -, hsigM⟩ := Cond.codeWith_spec hcode
  have hstatic : methM.isStatic = true := Cond.static_spec hnamed hmethM hst
  obtain ⟨kP, hkP, -⟩ := className_of_methodNamed hnamed
  have hinitP : kP.init = .initialized := Cond.initialized_spec (findClass_of_methodNamed hnamed) hkP hini
  have hlen : As.length = methM.sig.parameters.length := by
    have h2 := hd.2.2
    rw [hsigM] at h2
    exact hn.trans (Option.some.inj h2).symm
  obtain ⟨vm₁, X₁, hstep₁⟩ := X.invokestatic hx ho hl hnamed hmethM hstatic hkP hinitP ⟨hd.1, hd.2.1⟩ (g := F0 m pc ls (As.reverse ++ rest)) rfl (argsL := As) (rest := rest) hlen rfl (by rw [hb]; exact hdg)
  obtain ⟨v, ⟨U', l2, c2, s2⟩, X', hpost, hsteps⟩ := hK m meth c ⟨T.setVm vm₁, locs, cells, slots⟩ (F0 m pc ls rest) (.invokestatic index) mk As.toArray X₁ rfl (hsize.trans hml.symm) (by rw [hb]; exact hdg) (by show 2 * 0 + (rest.map fun v => v.category).sum ≤ 8; omega) (X₁.named hnamed) ⟨hf.1, hf.2, hp.2 (T.setVm vm₁) hT X₁.warmed⟩
  obtain ⟨g', mk', t, L, e1, e2, hq, h1, hL, h2, h3⟩ := hpost
  dsimp only [Pt.U, Pt.locs, Pt.cells, Pt.slots] at X' e1 e2 h1 h2 h3 hsteps
  subst h1; subst h2; subst h3
  exact ⟨v, (T.setVm vm₁).calling g' mk' As.toArray, t, U', L, hT, X', hL, e1, e2, hq, fun target h => hstep₁ _ fun acts => by rw [doInvoke_state]; exact hsteps.trans h⟩
end ErCall
end
