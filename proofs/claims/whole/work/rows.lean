section
-- ===== PART A: goes FIRST, ahead of the names: the tables' words, and 'selects' of the private methods out of them =====
/-- a private method of a class that the tables say can be made, by its rows of tables_1 -/
def lw_okq (q : MethodName × Nat) : Prop := (q.1.cls ≠ "java/lang/invoke/MethodHandle" ∧ q.1.cls ≠ "java/lang/invoke/VarHandle") ∧ Cond.instantiable q.1.cls q.2 ∈ tables_1 ∧ Cond.privateMethod q.1 ∈ tables_1 ∧ Cond.instanceMethod q.1 ∈ tables_1
theorem lw_p0 : lw_okq (⟨"EdgeRaster", "isCovered", "(II)Z"⟩, 12) := ⟨⟨by decide +kernel, by decide +kernel⟩, List.mem_of_getElem? (i := 11) (by decide +kernel), List.mem_of_getElem? (i := 107) (by decide +kernel), List.mem_of_getElem? (i := 108) (by decide +kernel)⟩
theorem lw_p1 : lw_okq (⟨"EdgeRaster$Corner", "admits", "(II)Z"⟩, 10) := ⟨⟨by decide +kernel, by decide +kernel⟩, List.mem_of_getElem? (i := 19) (by decide +kernel), List.mem_of_getElem? (i := 111) (by decide +kernel), List.mem_of_getElem? (i := 112) (by decide +kernel)⟩
theorem lw_p2 : lw_okq (⟨"EdgeRaster$Corner", "weightAt", "(II)J"⟩, 10) := ⟨⟨by decide +kernel, by decide +kernel⟩, List.mem_of_getElem? (i := 19) (by decide +kernel), List.mem_of_getElem? (i := 115) (by decide +kernel), List.mem_of_getElem? (i := 116) (by decide +kernel)⟩
theorem lw_p3 : lw_okq (⟨"java/lang/Throwable", "fillInStackTrace", "(I)Ljava/lang/Throwable;"⟩, 6) := ⟨⟨by decide +kernel, by decide +kernel⟩, List.mem_of_getElem? (i := 174) (by decide +kernel), List.mem_of_getElem? (i := 172) (by decide +kernel), List.mem_of_getElem? (i := 173) (by decide +kernel)⟩
theorem lw_p4 : lw_okq (⟨"EdgeRaster", "cornerOf", "(I)LEdgeRaster$Corner;"⟩, 12) := ⟨⟨by decide +kernel, by decide +kernel⟩, List.mem_of_getElem? (i := 11) (by decide +kernel), List.mem_of_getElem? (i := 209) (by decide +kernel), List.mem_of_getElem? (i := 210) (by decide +kernel)⟩
theorem lw_p5 : lw_okq (⟨"EdgeRaster", "layTriangle", "()V"⟩, 12) := ⟨⟨by decide +kernel, by decide +kernel⟩, List.mem_of_getElem? (i := 11) (by decide +kernel), List.mem_of_getElem? (i := 213) (by decide +kernel), List.mem_of_getElem? (i := 214) (by decide +kernel)⟩
theorem lw_p6 : lw_okq (⟨"EdgeRaster$Corner", "layEdge", "(LEdgeRaster$Corner;LEdgeRaster$Corner;)V"⟩, 10) := ⟨⟨by decide +kernel, by decide +kernel⟩, List.mem_of_getElem? (i := 19) (by decide +kernel), List.mem_of_getElem? (i := 217) (by decide +kernel), List.mem_of_getElem? (i := 218) (by decide +kernel)⟩
theorem lw_p7 : lw_okq (⟨"EdgeRaster", "endWalk", "()V"⟩, 12) := ⟨⟨by decide +kernel, by decide +kernel⟩, List.mem_of_getElem? (i := 11) (by decide +kernel), List.mem_of_getElem? (i := 221) (by decide +kernel), List.mem_of_getElem? (i := 222) (by decide +kernel)⟩
theorem lw_p8 : lw_okq (⟨"EdgeRaster", "firstCovered", "(II)I"⟩, 12) := ⟨⟨by decide +kernel, by decide +kernel⟩, List.mem_of_getElem? (i := 11) (by decide +kernel), List.mem_of_getElem? (i := 277) (by decide +kernel), List.mem_of_getElem? (i := 278) (by decide +kernel)⟩
theorem lw_p9 : lw_okq (⟨"EdgeRaster$Corner", "nearWeightAt", "(II)J"⟩, 10) := ⟨⟨by decide +kernel, by decide +kernel⟩, List.mem_of_getElem? (i := 19) (by decide +kernel), List.mem_of_getElem? (i := 315) (by decide +kernel), List.mem_of_getElem? (i := 316) (by decide +kernel)⟩
theorem lw_p10 : lw_okq (⟨"EdgeRasterModel", "refuse", "(ZZ)Z"⟩, 15) := ⟨⟨by decide +kernel, by decide +kernel⟩, List.mem_of_getElem? (i := 326) (by decide +kernel), List.mem_of_getElem? (i := 391) (by decide +kernel), List.mem_of_getElem? (i := 392) (by decide +kernel)⟩
theorem lw_p11 : lw_okq (⟨"EdgeRasterModel", "whole", "()J"⟩, 15) := ⟨⟨by decide +kernel, by decide +kernel⟩, List.mem_of_getElem? (i := 326) (by decide +kernel), List.mem_of_getElem? (i := 407) (by decide +kernel), List.mem_of_getElem? (i := 408) (by decide +kernel)⟩
theorem lw_p12 : lw_okq (⟨"EdgeRasterModel", "room", "(IIII)J"⟩, 15) := ⟨⟨by decide +kernel, by decide +kernel⟩, List.mem_of_getElem? (i := 326) (by decide +kernel), List.mem_of_getElem? (i := 411) (by decide +kernel), List.mem_of_getElem? (i := 412) (by decide +kernel)⟩
theorem lw_p13 : lw_okq (⟨"EdgeRasterModel", "isCovered", "(II)Z"⟩, 15) := ⟨⟨by decide +kernel, by decide +kernel⟩, List.mem_of_getElem? (i := 326) (by decide +kernel), List.mem_of_getElem? (i := 419) (by decide +kernel), List.mem_of_getElem? (i := 420) (by decide +kernel)⟩
theorem lw_p14 : lw_okq (⟨"EdgeRasterModel", "weightOf", "(III)J"⟩, 15) := ⟨⟨by decide +kernel, by decide +kernel⟩, List.mem_of_getElem? (i := 326) (by decide +kernel), List.mem_of_getElem? (i := 423) (by decide +kernel), List.mem_of_getElem? (i := 424) (by decide +kernel)⟩
theorem lw_p15 : lw_okq (⟨"EdgeRasterModel", "from", "(I)I"⟩, 15) := ⟨⟨by decide +kernel, by decide +kernel⟩, List.mem_of_getElem? (i := 326) (by decide +kernel), List.mem_of_getElem? (i := 427) (by decide +kernel), List.mem_of_getElem? (i := 428) (by decide +kernel)⟩
def lw_privs_1 : List (MethodName × Nat) := [(⟨"EdgeRaster", "isCovered", "(II)Z"⟩, 12), (⟨"EdgeRaster$Corner", "admits", "(II)Z"⟩, 10), (⟨"EdgeRaster$Corner", "weightAt", "(II)J"⟩, 10), (⟨"java/lang/Throwable", "fillInStackTrace", "(I)Ljava/lang/Throwable;"⟩, 6), (⟨"EdgeRaster", "cornerOf", "(I)LEdgeRaster$Corner;"⟩, 12), (⟨"EdgeRaster", "layTriangle", "()V"⟩, 12), (⟨"EdgeRaster$Corner", "layEdge", "(LEdgeRaster$Corner;LEdgeRaster$Corner;)V"⟩, 10), (⟨"EdgeRaster", "endWalk", "()V"⟩, 12), (⟨"EdgeRaster", "firstCovered", "(II)I"⟩, 12), (⟨"EdgeRaster$Corner", "nearWeightAt", "(II)J"⟩, 10), (⟨"EdgeRasterModel", "refuse", "(ZZ)Z"⟩, 15), (⟨"EdgeRasterModel", "whole", "()J"⟩, 15), (⟨"EdgeRasterModel", "room", "(IIII)J"⟩, 15), (⟨"EdgeRasterModel", "isCovered", "(II)Z"⟩, 15), (⟨"EdgeRasterModel", "weightOf", "(III)J"⟩, 15), (⟨"EdgeRasterModel", "from", "(I)I"⟩, 15)]
theorem lw_r1 : ∀ q ∈ lw_privs_1, lw_okq q := List.forall_mem_cons.mpr ⟨lw_p0, List.forall_mem_cons.mpr ⟨lw_p1, List.forall_mem_cons.mpr ⟨lw_p2, List.forall_mem_cons.mpr ⟨lw_p3, List.forall_mem_cons.mpr ⟨lw_p4, List.forall_mem_cons.mpr ⟨lw_p5, List.forall_mem_cons.mpr ⟨lw_p6, List.forall_mem_cons.mpr ⟨lw_p7, List.forall_mem_cons.mpr ⟨lw_p8, List.forall_mem_cons.mpr ⟨lw_p9, List.forall_mem_cons.mpr ⟨lw_p10, List.forall_mem_cons.mpr ⟨lw_p11, List.forall_mem_cons.mpr ⟨lw_p12, List.forall_mem_cons.mpr ⟨lw_p13, List.forall_mem_cons.mpr ⟨lw_p14, List.forall_mem_cons.mpr ⟨lw_p15, fun _ h => absurd h List.not_mem_nil⟩⟩⟩⟩⟩⟩⟩⟩⟩⟩⟩⟩⟩⟩⟩⟩
theorem lw_p16 : lw_okq (⟨"EdgeRasterModel", "to", "(I)I"⟩, 15) := ⟨⟨by decide +kernel, by decide +kernel⟩, List.mem_of_getElem? (i := 326) (by decide +kernel), List.mem_of_getElem? (i := 431) (by decide +kernel), List.mem_of_getElem? (i := 432) (by decide +kernel)⟩
def lw_privs_2 : List (MethodName × Nat) := [(⟨"EdgeRasterModel", "to", "(I)I"⟩, 15)]
theorem lw_r2 : ∀ q ∈ lw_privs_2, lw_okq q := List.forall_mem_cons.mpr ⟨lw_p16, fun _ h => absurd h List.not_mem_nil⟩
def lw_privs : List (MethodName × Nat) := lw_privs_1 ++ (lw_privs_2)
def lw_tbl : List Cond := k2_sels lw_privs ++ tables_1
theorem lw_privs_ok : ∀ q ∈ lw_privs, lw_okq q := by
  show ∀ q ∈ lw_privs_1 ++ (lw_privs_2), lw_okq q
  exact List.forall_mem_append.mpr ⟨lw_r1, lw_r2⟩
-- NAMES: classes, fields in the order of the slots, types
def R_C : String := "EdgeRaster$Corner"
def R_E : String := "EdgeRaster"
def R_M : String := "EdgeRasterModel"
def R_L : String := "EdgeRasterLaw"
def R_J : String := "java/lang/Math"
def F_C : u_T := fun k => match k with
  | 0 => ("EdgeRaster$Corner", "x", "I", false)
  | 1 => ("EdgeRaster$Corner", "y", "I", false)
  | 2 => ("EdgeRaster$Corner", "deep", "I", false)
  | 3 => ("EdgeRaster$Corner", "nearness", "I", false)
  | 4 => ("EdgeRaster$Corner", "values", "[I", true)
  | 5 => ("EdgeRaster$Corner", "edgeX", "I", false)
  | 6 => ("EdgeRaster$Corner", "edgeY", "I", false)
  | 7 => ("EdgeRaster$Corner", "edgeAcross", "I", false)
  | 8 => ("EdgeRaster$Corner", "edgeDown", "I", false)
  | _ => ("EdgeRaster$Corner", "leastWeight", "I", false)
def t_C : Nat → FieldType := fun k => match k with
  | 0 => .int
  | 1 => .int
  | 2 => .int
  | 3 => .int
  | 4 => .array .int
  | 5 => .int
  | 6 => .int
  | 7 => .int
  | 8 => .int
  | _ => .int
def F_E : u_T := fun k => match k with
  | 0 => ("EdgeRaster", "corner0", "LEdgeRaster$Corner;", true)
  | 1 => ("EdgeRaster", "corner1", "LEdgeRaster$Corner;", true)
  | 2 => ("EdgeRaster", "corner2", "LEdgeRaster$Corner;", true)
  | 3 => ("EdgeRaster", "signedArea", "J", false)
  | 4 => ("EdgeRaster", "windowX", "I", false)
  | 5 => ("EdgeRaster", "windowY", "I", false)
  | 6 => ("EdgeRaster", "windowWide", "I", false)
  | 7 => ("EdgeRaster", "windowHigh", "I", false)
  | 8 => ("EdgeRaster", "walking", "Z", false)
  | 9 => ("EdgeRaster", "onPlace", "Z", false)
  | 10 => ("EdgeRaster", "lastX", "I", false)
  | _ => ("EdgeRaster", "lastY", "I", false)
def t_E : Nat → FieldType := fun k => match k with
  | 0 => .object "EdgeRaster$Corner"
  | 1 => .object "EdgeRaster$Corner"
  | 2 => .object "EdgeRaster$Corner"
  | 3 => .long
  | 4 => .int
  | 5 => .int
  | 6 => .int
  | 7 => .int
  | 8 => .boolean
  | 9 => .boolean
  | 10 => .int
  | _ => .int
def F_M : u_T := fun k => match k with
  | 0 => ("EdgeRasterModel", "thrown", "I", false)
  | 1 => ("EdgeRasterModel", "cornerX", "[I", true)
  | 2 => ("EdgeRasterModel", "cornerY", "[I", true)
  | 3 => ("EdgeRasterModel", "depths", "[I", true)
  | 4 => ("EdgeRasterModel", "nearness", "[I", true)
  | 5 => ("EdgeRasterModel", "values", "[I", true)
  | 6 => ("EdgeRasterModel", "left", "I", false)
  | 7 => ("EdgeRasterModel", "top", "I", false)
  | 8 => ("EdgeRasterModel", "wide", "I", false)
  | 9 => ("EdgeRasterModel", "high", "I", false)
  | 10 => ("EdgeRasterModel", "walks", "Z", false)
  | 11 => ("EdgeRasterModel", "looked", "I", false)
  | 12 => ("EdgeRasterModel", "came", "Z", false)
  | 13 => ("EdgeRasterModel", "lastX", "I", false)
  | _ => ("EdgeRasterModel", "lastY", "I", false)
def t_M : Nat → FieldType := fun k => match k with
  | 0 => .int
  | 1 => .array .int
  | 2 => .array .int
  | 3 => .array .int
  | 4 => .array .int
  | 5 => .array .int
  | 6 => .int
  | 7 => .int
  | 8 => .int
  | 9 => .int
  | 10 => .boolean
  | 11 => .int
  | 12 => .boolean
  | 13 => .int
  | _ => .int
abbrev classes : List vw_C := [(R_C, F_C, 10), (R_E, F_E, 12), (R_M, F_M, 15)]
abbrev b_C_init : ByteArray := prog_2_method_1_code
def y_C_init : MethodName := ⟨R_C, "<init>", "()V"⟩
abbrev b_C_layEdge : ByteArray := prog_2_method_2_code
def y_C_layEdge : MethodName := ⟨R_C, "layEdge", "(LEdgeRaster$Corner;LEdgeRaster$Corner;)V"⟩
abbrev b_C_weightAt : ByteArray := prog_2_method_3_code
def y_C_weightAt : MethodName := ⟨R_C, "weightAt", "(II)J"⟩
abbrev b_C_nearWeightAt : ByteArray := prog_2_method_4_code
def y_C_nearWeightAt : MethodName := ⟨R_C, "nearWeightAt", "(II)J"⟩
abbrev b_C_admits : ByteArray := prog_2_method_5_code
def y_C_admits : MethodName := ⟨R_C, "admits", "(II)Z"⟩
abbrev b_E_init : ByteArray := prog_1_method_1_code
def y_E_init : MethodName := ⟨R_E, "<init>", "()V"⟩
abbrev b_E_corner : ByteArray := prog_1_method_2_code
def y_E_corner : MethodName := ⟨R_E, "corner", "(IIIII)V"⟩
abbrev b_E_value : ByteArray := prog_1_method_3_code
def y_E_value : MethodName := ⟨R_E, "value", "(III)V"⟩
abbrev b_E_window : ByteArray := prog_1_method_4_code
def y_E_window : MethodName := ⟨R_E, "window", "(IIII)V"⟩
abbrev b_E_area : ByteArray := prog_1_method_5_code
def y_E_area : MethodName := ⟨R_E, "area", "()J"⟩
abbrev b_E_covers : ByteArray := prog_1_method_6_code
def y_E_covers : MethodName := ⟨R_E, "covers", "(II)Z"⟩
abbrev b_E_many : ByteArray := prog_1_method_7_code
def y_E_many : MethodName := ⟨R_E, "many", "()I"⟩
abbrev b_E_walk : ByteArray := prog_1_method_8_code
def y_E_walk : MethodName := ⟨R_E, "walk", "()V"⟩
abbrev b_E_next : ByteArray := prog_1_method_9_code
def y_E_next : MethodName := ⟨R_E, "next", "()I"⟩
abbrev b_E_weight : ByteArray := prog_1_method_10_code
def y_E_weight : MethodName := ⟨R_E, "weight", "(I)J"⟩
abbrev b_E_depth : ByteArray := prog_1_method_11_code
def y_E_depth : MethodName := ⟨R_E, "depth", "()I"⟩
abbrev b_E_at : ByteArray := prog_1_method_12_code
def y_E_at : MethodName := ⟨R_E, "at", "(I)I"⟩
abbrev b_E_within : ByteArray := prog_1_method_13_code
def y_E_within : MethodName := ⟨R_E, "within", "(III)Z"⟩
abbrev b_E_isCorner : ByteArray := prog_1_method_14_code
def y_E_isCorner : MethodName := ⟨R_E, "isCorner", "(I)Z"⟩
abbrev b_E_isValue : ByteArray := prog_1_method_15_code
def y_E_isValue : MethodName := ⟨R_E, "isValue", "(I)Z"⟩
abbrev b_E_cornerOf : ByteArray := prog_1_method_16_code
def y_E_cornerOf : MethodName := ⟨R_E, "cornerOf", "(I)LEdgeRaster$Corner;"⟩
abbrev b_E_endWalk : ByteArray := prog_1_method_17_code
def y_E_endWalk : MethodName := ⟨R_E, "endWalk", "()V"⟩
abbrev b_E_layTriangle : ByteArray := prog_1_method_18_code
def y_E_layTriangle : MethodName := ⟨R_E, "layTriangle", "()V"⟩
abbrev b_E_isCovered : ByteArray := prog_1_method_19_code
def y_E_isCovered : MethodName := ⟨R_E, "isCovered", "(II)Z"⟩
abbrev b_E_firstCovered : ByteArray := prog_1_method_20_code
def y_E_firstCovered : MethodName := ⟨R_E, "firstCovered", "(II)I"⟩
abbrev b_E_shareShift : ByteArray := prog_1_method_21_code
def y_E_shareShift : MethodName := ⟨R_E, "shareShift", "(J)I"⟩
abbrev b_E_dividedDown : ByteArray := prog_1_method_22_code
def y_E_dividedDown : MethodName := ⟨R_E, "dividedDown", "(JJ)J"⟩
abbrev b_M_init : ByteArray := prog_4_method_1_code
def y_M_init : MethodName := ⟨R_M, "<init>", "()V"⟩
abbrev b_M_thrown : ByteArray := prog_4_method_2_code
def y_M_thrown : MethodName := ⟨R_M, "thrown", "()I"⟩
abbrev b_M_refuse : ByteArray := prog_4_method_3_code
def y_M_refuse : MethodName := ⟨R_M, "refuse", "(ZZ)Z"⟩
abbrev b_M_in_ : ByteArray := prog_4_method_4_code
def y_M_in_ : MethodName := ⟨R_M, "in", "(III)Z"⟩
abbrev b_M_corner : ByteArray := prog_4_method_5_code
def y_M_corner : MethodName := ⟨R_M, "corner", "(IIIII)V"⟩
abbrev b_M_value : ByteArray := prog_4_method_6_code
def y_M_value : MethodName := ⟨R_M, "value", "(III)V"⟩
abbrev b_M_window : ByteArray := prog_4_method_7_code
def y_M_window : MethodName := ⟨R_M, "window", "(IIII)V"⟩
abbrev b_M_room : ByteArray := prog_4_method_8_code
def y_M_room : MethodName := ⟨R_M, "room", "(IIII)J"⟩
abbrev b_M_whole : ByteArray := prog_4_method_9_code
def y_M_whole : MethodName := ⟨R_M, "whole", "()J"⟩
abbrev b_M_area : ByteArray := prog_4_method_10_code
def y_M_area : MethodName := ⟨R_M, "area", "()J"⟩
abbrev b_M_from : ByteArray := prog_4_method_11_code
def y_M_from : MethodName := ⟨R_M, "from", "(I)I"⟩
abbrev b_M_to : ByteArray := prog_4_method_12_code
def y_M_to : MethodName := ⟨R_M, "to", "(I)I"⟩
abbrev b_M_weightOf : ByteArray := prog_4_method_13_code
def y_M_weightOf : MethodName := ⟨R_M, "weightOf", "(III)J"⟩
abbrev b_M_isCovered : ByteArray := prog_4_method_14_code
def y_M_isCovered : MethodName := ⟨R_M, "isCovered", "(II)Z"⟩
abbrev b_M_covers : ByteArray := prog_4_method_15_code
def y_M_covers : MethodName := ⟨R_M, "covers", "(II)Z"⟩
abbrev b_M_many : ByteArray := prog_4_method_16_code
def y_M_many : MethodName := ⟨R_M, "many", "()I"⟩
abbrev b_M_walk : ByteArray := prog_4_method_17_code
def y_M_walk : MethodName := ⟨R_M, "walk", "()V"⟩
abbrev b_M_next : ByteArray := prog_4_method_18_code
def y_M_next : MethodName := ⟨R_M, "next", "()I"⟩
abbrev b_M_weight : ByteArray := prog_4_method_19_code
def y_M_weight : MethodName := ⟨R_M, "weight", "(I)J"⟩
abbrev b_M_down : ByteArray := prog_4_method_20_code
def y_M_down : MethodName := ⟨R_M, "down", "(JJ)J"⟩
abbrev b_M_depth : ByteArray := prog_4_method_21_code
def y_M_depth : MethodName := ⟨R_M, "depth", "()I"⟩
abbrev b_M_at : ByteArray := prog_4_method_22_code
def y_M_at : MethodName := ⟨R_M, "at", "(I)I"⟩
abbrev b_L_corner : ByteArray := method_3_code
def y_L_corner : MethodName := ⟨R_L, "corner", "(LEdgeRaster;IIIII)I"⟩
abbrev b_L_value : ByteArray := method_4_code
def y_L_value : MethodName := ⟨R_L, "value", "(LEdgeRaster;III)I"⟩
abbrev b_L_window : ByteArray := method_5_code
def y_L_window : MethodName := ⟨R_L, "window", "(LEdgeRaster;IIII)I"⟩
abbrev b_L_covers : ByteArray := method_6_code
def y_L_covers : MethodName := ⟨R_L, "covers", "(LEdgeRaster;II[J)I"⟩
abbrev b_L_next : ByteArray := method_7_code
def y_L_next : MethodName := ⟨R_L, "next", "(LEdgeRaster;[J)I"⟩
abbrev b_L_weight : ByteArray := method_8_code
def y_L_weight : MethodName := ⟨R_L, "weight", "(LEdgeRaster;I[J)I"⟩
abbrev b_L_depth : ByteArray := method_9_code
def y_L_depth : MethodName := ⟨R_L, "depth", "(LEdgeRaster;[J)I"⟩
abbrev b_L_at : ByteArray := method_10_code
def y_L_at : MethodName := ⟨R_L, "at", "(LEdgeRaster;I[J)I"⟩
abbrev b_L_law : ByteArray := code
def y_L_law : MethodName := ⟨R_L, "law", "([I)Z"⟩
abbrev b_J_floorDiv : ByteArray := prog_8_method_49_code
def y_J_floorDiv : MethodName := ⟨R_J, "floorDiv", "(JJ)J"⟩
def er_big_0 : List Cond := [.selects R_E y_E_isCovered y_E_isCovered, .selects R_C y_C_admits y_C_admits, .selects R_C y_C_weightAt y_C_weightAt, .selects "java/lang/Throwable" ⟨"java/lang/Throwable", "fillInStackTrace", "(I)Ljava/lang/Throwable;"⟩ ⟨"java/lang/Throwable", "fillInStackTrace", "(I)Ljava/lang/Throwable;"⟩, .selects R_E y_E_cornerOf y_E_cornerOf, .selects R_E y_E_layTriangle y_E_layTriangle, .selects R_C y_C_layEdge y_C_layEdge, .selects R_E y_E_endWalk y_E_endWalk, .selects R_E y_E_firstCovered y_E_firstCovered, .selects R_C y_C_nearWeightAt y_C_nearWeightAt, .selects R_M y_M_refuse y_M_refuse, .selects R_M y_M_whole y_M_whole, .selects R_M y_M_room y_M_room, .selects R_M y_M_isCovered y_M_isCovered, .selects R_M y_M_weightOf y_M_weightOf, .selects R_M y_M_from y_M_from]
def er_big_1 : List Cond := [.selects R_M y_M_to y_M_to, .initialized R_L, .initialized R_E, .initialized R_C, .initialized R_M, .initialized "java/lang/Throwable", .initialized "java/lang/Exception", .initialized "java/lang/RuntimeException", .initialized "java/lang/IllegalArgumentException", .initialized "java/lang/IllegalStateException", .initialized R_J, .classLink R_L 8 R_E, .instantiable R_E 12, .methodLink R_L 44 y_E_init, .instanceMethod y_E_init, .code y_E_init b_E_init 1 none]
def er_big_2 : List Cond := [.methodLink R_E 1 objectInit, .instanceMethod objectInit, .code objectInit ⟨#[0xb1]⟩ 1 none, .classLink R_E 7 R_C, .instantiable R_C 10, .instanceMethod y_C_init, .code y_C_init b_C_init 1 none, .methodLink R_C 3 objectInit, .fieldLink R_C 9 "EdgeRaster$Corner" "x" "I", .fieldLink R_C 15 "EdgeRaster$Corner" "y" "I", .fieldLink R_C 18 "EdgeRaster$Corner" "deep" "I", .fieldLink R_C 21 "EdgeRaster$Corner" "nearness" "I", .fieldLink R_C 24 "EdgeRaster$Corner" "values" "[I", .fieldLink R_C 28 "EdgeRaster$Corner" "edgeX" "I", .fieldLink R_C 31 "EdgeRaster$Corner" "edgeY" "I", .fieldLink R_C 34 "EdgeRaster$Corner" "edgeAcross" "I"]
def er_big_3 : List Cond := [.fieldLink R_C 37 "EdgeRaster$Corner" "edgeDown" "I", .fieldLink R_C 40 "EdgeRaster$Corner" "leastWeight" "I", .lays R_C "EdgeRaster$Corner" "x" "I", .soleField R_C "x", .lays R_C "EdgeRaster$Corner" "y" "I", .soleField R_C "y", .lays R_C "EdgeRaster$Corner" "deep" "I", .soleField R_C "deep", .lays R_C "EdgeRaster$Corner" "nearness" "I", .soleField R_C "nearness", .laysFinal R_C "EdgeRaster$Corner" "values" "[I", .soleField R_C "values", .lays R_C "EdgeRaster$Corner" "edgeX" "I", .soleField R_C "edgeX", .lays R_C "EdgeRaster$Corner" "edgeY" "I", .soleField R_C "edgeY"]
def er_big_4 : List Cond := [.lays R_C "EdgeRaster$Corner" "edgeAcross" "I", .soleField R_C "edgeAcross", .lays R_C "EdgeRaster$Corner" "edgeDown" "I", .soleField R_C "edgeDown", .lays R_C "EdgeRaster$Corner" "leastWeight" "I", .soleField R_C "leastWeight", .superclass R_C "java/lang/Object", .arrayClass .int, .fieldLink R_E 10 "EdgeRaster" "corner0" "LEdgeRaster$Corner;", .fieldLink R_E 16 "EdgeRaster" "corner1" "LEdgeRaster$Corner;", .fieldLink R_E 19 "EdgeRaster" "corner2" "LEdgeRaster$Corner;", .fieldLink R_E 22 "EdgeRaster" "signedArea" "J", .fieldLink R_E 26 "EdgeRaster" "windowX" "I", .fieldLink R_E 30 "EdgeRaster" "windowY" "I", .fieldLink R_E 33 "EdgeRaster" "windowWide" "I", .fieldLink R_E 36 "EdgeRaster" "windowHigh" "I"]
def er_big_5 : List Cond := [.fieldLink R_E 39 "EdgeRaster" "walking" "Z", .fieldLink R_E 43 "EdgeRaster" "onPlace" "Z", .fieldLink R_E 46 "EdgeRaster" "lastX" "I", .fieldLink R_E 49 "EdgeRaster" "lastY" "I", .laysFinal R_E "EdgeRaster" "corner0" "LEdgeRaster$Corner;", .soleField R_E "corner0", .laysFinal R_E "EdgeRaster" "corner1" "LEdgeRaster$Corner;", .soleField R_E "corner1", .laysFinal R_E "EdgeRaster" "corner2" "LEdgeRaster$Corner;", .soleField R_E "corner2", .lays R_E "EdgeRaster" "signedArea" "J", .soleField R_E "signedArea", .lays R_E "EdgeRaster" "windowX" "I", .soleField R_E "windowX", .lays R_E "EdgeRaster" "windowY" "I", .soleField R_E "windowY"]
def er_big_6 : List Cond := [.lays R_E "EdgeRaster" "windowWide" "I", .soleField R_E "windowWide", .lays R_E "EdgeRaster" "windowHigh" "I", .soleField R_E "windowHigh", .lays R_E "EdgeRaster" "walking" "Z", .soleField R_E "walking", .lays R_E "EdgeRaster" "onPlace" "Z", .soleField R_E "onPlace", .lays R_E "EdgeRaster" "lastX" "I", .soleField R_E "lastX", .lays R_E "EdgeRaster" "lastY" "I", .soleField R_E "lastY", .superclass R_E "java/lang/Object", .methodLink R_L 65 y_E_area, .instanceMethod y_E_area, .selects R_E y_E_area y_E_area]
def er_big_7 : List Cond := [.code y_E_area b_E_area 1 (some .long), .methodLink R_L 74 y_E_many, .instanceMethod y_E_many, .selects R_E y_E_many y_E_many, .code y_E_many b_E_many 4 (some .int), .methodLink R_E 112 y_E_isCovered, .instanceMethod y_E_isCovered, .code y_E_isCovered b_E_isCovered 3 (some .boolean), .instanceMethod y_C_admits, .code y_C_admits b_C_admits 3 (some .boolean), .methodLink R_C 43 y_C_weightAt, .instanceMethod y_C_weightAt, .code y_C_weightAt b_C_weightAt 5 (some .long), .methodLink R_L 78 y_E_walk, .instanceMethod y_E_walk, .selects R_E y_E_walk y_E_walk]
def er_big_8 : List Cond := [.code y_E_walk b_E_walk 1 none, .methodLink R_L 48 y_L_corner, .static y_L_corner, .codeWith y_L_corner b_L_corner 7 (some .int) [(0, 11, 14, 13)], .classLink R_L 13 "java/lang/IllegalArgumentException", .methodLink R_L 7 y_E_corner, .instanceMethod y_E_corner, .selects R_E y_E_corner y_E_corner, .code y_E_corner b_E_corner 7 none, .methodLink R_E 52 y_E_isCorner, .static y_E_isCorner, .code y_E_isCorner b_E_isCorner 1 (some .boolean), .methodLink R_E 63 y_E_within, .static y_E_within, .code y_E_within b_E_within 3 (some .boolean), .classLink R_E 56 "java/lang/IllegalArgumentException"]
def er_big_9 : List Cond := [.instantiable "java/lang/IllegalArgumentException" 6, .selects "java/lang/IllegalArgumentException" ⟨"java/lang/Throwable", "fillInStackTrace", "(I)Ljava/lang/Throwable;"⟩ ⟨"java/lang/Throwable", "fillInStackTrace", "(I)Ljava/lang/Throwable;"⟩, .selects "java/lang/IllegalArgumentException" ⟨"java/lang/Throwable", "fillInStackTrace", "()Ljava/lang/Throwable;"⟩ ⟨"java/lang/Throwable", "fillInStackTrace", "()Ljava/lang/Throwable;"⟩, .lays "java/lang/IllegalArgumentException" "java/lang/Throwable" "cause" "Ljava/lang/Throwable;", .lays "java/lang/Throwable" "java/lang/Throwable" "cause" "Ljava/lang/Throwable;", .lays "java/lang/IllegalArgumentException" "java/lang/Throwable" "stackTrace" "[Ljava/lang/StackTraceElement;", .lays "java/lang/Throwable" "java/lang/Throwable" "stackTrace" "[Ljava/lang/StackTraceElement;", .lays "java/lang/IllegalArgumentException" "java/lang/Throwable" "suppressedExceptions" "Ljava/util/List;", .lays "java/lang/Throwable" "java/lang/Throwable" "suppressedExceptions" "Ljava/util/List;", .lays "java/lang/IllegalArgumentException" "java/lang/Throwable" "detailMessage" "Ljava/lang/String;", .lays "java/lang/Throwable" "java/lang/Throwable" "detailMessage" "Ljava/lang/String;", .lays "java/lang/IllegalArgumentException" "java/lang/Throwable" "backtrace" "Ljava/lang/Object;", .lays "java/lang/Throwable" "java/lang/Throwable" "backtrace" "Ljava/lang/Object;", .fieldLink "java/lang/Throwable" 198 "java/lang/Throwable" "backtrace" "Ljava/lang/Object;", .superclass "java/lang/Throwable" "java/lang/Object", .instanceMethod ⟨"java/lang/Throwable", "<init>", "()V"⟩]
def er_big_10 : List Cond := [.code ⟨"java/lang/Throwable", "<init>", "()V"⟩ prog_11_method_1_code 1 none, .methodLink "java/lang/Throwable" 1 objectInit, .fieldLink "java/lang/Throwable" 13 "java/lang/Throwable" "UNASSIGNED_STACK" "[Ljava/lang/StackTraceElement;", .fieldLink "java/lang/Throwable" 20 "java/lang/Throwable" "SUPPRESSED_SENTINEL" "Ljava/util/List;", .methodLink "java/lang/Throwable" 27 ⟨"java/lang/Throwable", "fillInStackTrace", "()Ljava/lang/Throwable;"⟩, .instanceMethod ⟨"java/lang/Throwable", "fillInStackTrace", "()Ljava/lang/Throwable;"⟩, .sameMethod "java/lang/Throwable" "java/lang/Throwable" "fillInStackTrace" "()Ljava/lang/Throwable;", .selects "java/lang/IllegalStateException" ⟨"java/lang/Throwable", "fillInStackTrace", "()Ljava/lang/Throwable;"⟩ ⟨"java/lang/Throwable", "fillInStackTrace", "()Ljava/lang/Throwable;"⟩, .codeSync ⟨"java/lang/Throwable", "fillInStackTrace", "()Ljava/lang/Throwable;"⟩ prog_11_method_18_code 1 (some (.object "java/lang/Throwable")), .methodLink "java/lang/Throwable" 202 ⟨"java/lang/Throwable", "fillInStackTrace", "(I)Ljava/lang/Throwable;"⟩, .instanceMethod ⟨"java/lang/Throwable", "fillInStackTrace", "(I)Ljava/lang/Throwable;"⟩, .instantiable "java/lang/Throwable" 6, .native ⟨"java/lang/Throwable", "fillInStackTrace", "(I)Ljava/lang/Throwable;"⟩, .methodLink R_E 60 ⟨"java/lang/IllegalArgumentException", "<init>", "(Ljava/lang/String;)V"⟩, .instanceMethod ⟨"java/lang/IllegalArgumentException", "<init>", "(Ljava/lang/String;)V"⟩, .code ⟨"java/lang/IllegalArgumentException", "<init>", "(Ljava/lang/String;)V"⟩ prog_6_method_2_code 2 none]
def er_big_11 : List Cond := [.methodLink "java/lang/IllegalArgumentException" 7 ⟨"java/lang/RuntimeException", "<init>", "(Ljava/lang/String;)V"⟩, .instanceMethod ⟨"java/lang/RuntimeException", "<init>", "(Ljava/lang/String;)V"⟩, .code ⟨"java/lang/RuntimeException", "<init>", "(Ljava/lang/String;)V"⟩ prog_9_method_2_code 2 none, .methodLink "java/lang/RuntimeException" 7 ⟨"java/lang/Exception", "<init>", "(Ljava/lang/String;)V"⟩, .instanceMethod ⟨"java/lang/Exception", "<init>", "(Ljava/lang/String;)V"⟩, .code ⟨"java/lang/Exception", "<init>", "(Ljava/lang/String;)V"⟩ prog_5_method_2_code 2 none, .methodLink "java/lang/Exception" 7 ⟨"java/lang/Throwable", "<init>", "(Ljava/lang/String;)V"⟩, .instanceMethod ⟨"java/lang/Throwable", "<init>", "(Ljava/lang/String;)V"⟩, .code ⟨"java/lang/Throwable", "<init>", "(Ljava/lang/String;)V"⟩ prog_11_method_2_code 2 none, .fieldLink "java/lang/Throwable" 31 "java/lang/Throwable" "detailMessage" "Ljava/lang/String;", .fieldLink "java/lang/Throwable" 7 "java/lang/Throwable" "cause" "Ljava/lang/Throwable;", .fieldLink "java/lang/Throwable" 17 "java/lang/Throwable" "stackTrace" "[Ljava/lang/StackTraceElement;", .fieldLink "java/lang/Throwable" 24 "java/lang/Throwable" "suppressedExceptions" "Ljava/util/List;", .soleField "java/lang/Throwable" "backtrace", .soleField "java/lang/Throwable" "detailMessage", .soleField "java/lang/Throwable" "cause"]
def er_big_12 : List Cond := [.soleField "java/lang/Throwable" "stackTrace", .lays "java/lang/IllegalArgumentException" "java/lang/Throwable" "depth" "I", .soleField "java/lang/Throwable" "depth", .soleField "java/lang/Throwable" "suppressedExceptions", .superclass "java/lang/IllegalArgumentException" "java/lang/RuntimeException", .arrayClass .byte, .constant R_E 69 16777215, .constant R_E 72 8388608, .methodLink R_E 75 y_E_cornerOf, .instanceMethod y_E_cornerOf, .code y_E_cornerOf b_E_cornerOf 2 (some (.object "EdgeRaster$Corner")), .methodLink R_E 91 y_E_layTriangle, .instanceMethod y_E_layTriangle, .code y_E_layTriangle b_E_layTriangle 1 none, .instanceMethod y_C_layEdge, .code y_C_layEdge b_C_layEdge 5 none]
def er_big_13 : List Cond := [.methodLink R_E 94 y_E_endWalk, .instanceMethod y_E_endWalk, .code y_E_endWalk b_E_endWalk 1 none, .methodLink R_L 57 y_L_value, .static y_L_value, .codeWith y_L_value b_L_value 5 (some .int) [(0, 7, 10, 13)], .methodLink R_L 15 y_E_value, .instanceMethod y_E_value, .selects R_E y_E_value y_E_value, .code y_E_value b_E_value 4 none, .methodLink R_E 97 y_E_isValue, .static y_E_isValue, .code y_E_isValue b_E_isValue 1 (some .boolean), .methodLink R_L 61 y_L_window, .static y_L_window, .codeWith y_L_window b_L_window 6 (some .int) [(0, 9, 12, 13)]]
def er_big_14 : List Cond := [.methodLink R_L 19 y_E_window, .instanceMethod y_E_window, .selects R_E y_E_window y_E_window, .code y_E_window b_E_window 5 none, .methodLink R_L 70 y_L_covers, .static y_L_covers, .codeWith y_L_covers b_L_covers 5 (some .int) [(0, 17, 20, 13)], .methodLink R_L 23 y_E_covers, .instanceMethod y_E_covers, .selects R_E y_E_covers y_E_covers, .code y_E_covers b_E_covers 3 (some .boolean), .methodLink R_L 82 y_L_next, .static y_L_next, .codeWith y_L_next b_L_next 3 (some .int) [(0, 8, 11, 31)], .classLink R_L 31 "java/lang/IllegalStateException", .methodLink R_L 27 y_E_next]
def er_big_15 : List Cond := [.instanceMethod y_E_next, .selects R_E y_E_next y_E_next, .code y_E_next b_E_next 4 (some .int), .classLink R_E 116 "java/lang/IllegalStateException", .instantiable "java/lang/IllegalStateException" 6, .selects "java/lang/IllegalStateException" ⟨"java/lang/Throwable", "fillInStackTrace", "(I)Ljava/lang/Throwable;"⟩ ⟨"java/lang/Throwable", "fillInStackTrace", "(I)Ljava/lang/Throwable;"⟩, .lays "java/lang/IllegalStateException" "java/lang/Throwable" "cause" "Ljava/lang/Throwable;", .lays "java/lang/IllegalStateException" "java/lang/Throwable" "stackTrace" "[Ljava/lang/StackTraceElement;", .lays "java/lang/IllegalStateException" "java/lang/Throwable" "suppressedExceptions" "Ljava/util/List;", .lays "java/lang/IllegalStateException" "java/lang/Throwable" "detailMessage" "Ljava/lang/String;", .lays "java/lang/IllegalStateException" "java/lang/Throwable" "backtrace" "Ljava/lang/Object;", .methodLink R_E 120 ⟨"java/lang/IllegalStateException", "<init>", "(Ljava/lang/String;)V"⟩, .instanceMethod ⟨"java/lang/IllegalStateException", "<init>", "(Ljava/lang/String;)V"⟩, .code ⟨"java/lang/IllegalStateException", "<init>", "(Ljava/lang/String;)V"⟩ prog_7_method_2_code 2 none, .methodLink "java/lang/IllegalStateException" 7 ⟨"java/lang/RuntimeException", "<init>", "(Ljava/lang/String;)V"⟩, .lays "java/lang/IllegalStateException" "java/lang/Throwable" "depth" "I"]
def er_big_16 : List Cond := [.superclass "java/lang/IllegalStateException" "java/lang/RuntimeException", .methodLink R_E 121 y_E_firstCovered, .instanceMethod y_E_firstCovered, .code y_E_firstCovered b_E_firstCovered 4 (some .int), .constant R_E 125 65536, .methodLink R_L 86 y_L_weight, .static y_L_weight, .codeWith y_L_weight b_L_weight 4 (some .int) [(0, 8, 11, 13), (0, 8, 14, 31)], .methodLink R_L 33 y_E_weight, .instanceMethod y_E_weight, .selects R_E y_E_weight y_E_weight, .code y_E_weight b_E_weight 2 (some .long), .methodLink R_L 90 y_L_depth, .static y_L_depth, .codeWith y_L_depth b_L_depth 3 (some .int) [(0, 8, 11, 31)], .methodLink R_L 37 y_E_depth]
def er_big_17 : List Cond := [.instanceMethod y_E_depth, .selects R_E y_E_depth y_E_depth, .code y_E_depth b_E_depth 3 (some .int), .methodLink R_E 132 ⟨"java/lang/Math", "abs", "(J)J"⟩, .static ⟨"java/lang/Math", "abs", "(J)J"⟩, .code ⟨"java/lang/Math", "abs", "(J)J"⟩ prog_8_method_61_code 2 (some .long), .methodLink R_E 138 y_E_dividedDown, .static y_E_dividedDown, .code y_E_dividedDown b_E_dividedDown 4 (some .long), .methodLink R_E 163 y_J_floorDiv, .static y_J_floorDiv, .code y_J_floorDiv b_J_floorDiv 6 (some .long), .methodLink R_L 93 y_L_at, .static y_L_at, .codeWith y_L_at b_L_at 4 (some .int) [(0, 9, 12, 13), (0, 9, 15, 31)], .methodLink R_L 40 y_E_at]
def er_big_18 : List Cond := [.instanceMethod y_E_at, .selects R_E y_E_at y_E_at, .code y_E_at b_E_at 17 (some .int), .instanceMethod y_C_nearWeightAt, .code y_C_nearWeightAt b_C_nearWeightAt 3 (some .long), .methodLink R_E 147 ⟨"java/lang/Math", "max", "(JJ)J"⟩, .static ⟨"java/lang/Math", "max", "(JJ)J"⟩, .code ⟨"java/lang/Math", "max", "(JJ)J"⟩ prog_8_method_66_code 4 (some .long), .methodLink R_E 150 y_E_shareShift, .static y_E_shareShift, .code y_E_shareShift b_E_shareShift 3 (some .int), .constantLong R_E 161 536870912, .classLink R_L 45 R_M, .instantiable R_M 15, .methodLink R_L 47 y_M_init, .instanceMethod y_M_init]
def er_big_19 : List Cond := [.code y_M_init b_M_init 2 none, .methodLink R_M 1 objectInit, .fieldLink R_M 32 "EdgeRasterModel" "thrown" "I", .fieldLink R_M 7 "EdgeRasterModel" "cornerX" "[I", .fieldLink R_M 13 "EdgeRasterModel" "cornerY" "[I", .fieldLink R_M 16 "EdgeRasterModel" "depths" "[I", .fieldLink R_M 19 "EdgeRasterModel" "nearness" "[I", .fieldLink R_M 22 "EdgeRasterModel" "values" "[I", .fieldLink R_M 49 "EdgeRasterModel" "left" "I", .fieldLink R_M 52 "EdgeRasterModel" "top" "I", .fieldLink R_M 25 "EdgeRasterModel" "wide" "I", .fieldLink R_M 29 "EdgeRasterModel" "high" "I", .fieldLink R_M 45 "EdgeRasterModel" "walks" "Z", .fieldLink R_M 78 "EdgeRasterModel" "looked" "I", .fieldLink R_M 81 "EdgeRasterModel" "came" "Z", .fieldLink R_M 84 "EdgeRasterModel" "lastX" "I"]
def er_big_20 : List Cond := [.fieldLink R_M 87 "EdgeRasterModel" "lastY" "I", .lays R_M "EdgeRasterModel" "thrown" "I", .soleField R_M "thrown", .laysFinal R_M "EdgeRasterModel" "cornerX" "[I", .soleField R_M "cornerX", .laysFinal R_M "EdgeRasterModel" "cornerY" "[I", .soleField R_M "cornerY", .laysFinal R_M "EdgeRasterModel" "depths" "[I", .soleField R_M "depths", .laysFinal R_M "EdgeRasterModel" "nearness" "[I", .soleField R_M "nearness", .laysFinal R_M "EdgeRasterModel" "values" "[I", .soleField R_M "values", .lays R_M "EdgeRasterModel" "left" "I", .soleField R_M "left", .lays R_M "EdgeRasterModel" "top" "I"]
def er_big_21 : List Cond := [.soleField R_M "top", .lays R_M "EdgeRasterModel" "wide" "I", .soleField R_M "wide", .lays R_M "EdgeRasterModel" "high" "I", .soleField R_M "high", .lays R_M "EdgeRasterModel" "walks" "Z", .soleField R_M "walks", .lays R_M "EdgeRasterModel" "looked" "I", .soleField R_M "looked", .lays R_M "EdgeRasterModel" "came" "Z", .soleField R_M "came", .lays R_M "EdgeRasterModel" "lastX" "I", .soleField R_M "lastX", .lays R_M "EdgeRasterModel" "lastY" "I", .soleField R_M "lastY", .superclass R_M "java/lang/Object"]
def er_big_22 : List Cond := [.methodLink R_L 54 y_M_thrown, .instanceMethod y_M_thrown, .selects R_M y_M_thrown y_M_thrown, .code y_M_thrown b_M_thrown 1 (some .int), .methodLink R_L 53 y_M_corner, .instanceMethod y_M_corner, .selects R_M y_M_corner y_M_corner, .code y_M_corner b_M_corner 7 none, .methodLink R_M 35 y_M_in_, .static y_M_in_, .code y_M_in_ b_M_in_ 3 (some .boolean), .constant R_M 39 16777215, .constant R_M 40 8388608, .methodLink R_M 41 y_M_refuse, .instanceMethod y_M_refuse, .code y_M_refuse b_M_refuse 3 (some .boolean)]
def er_big_23 : List Cond := [.methodLink R_L 60 y_M_value, .instanceMethod y_M_value, .selects R_M y_M_value y_M_value, .code y_M_value b_M_value 4 none, .methodLink R_L 64 y_M_window, .instanceMethod y_M_window, .selects R_M y_M_window y_M_window, .code y_M_window b_M_window 5 none, .methodLink R_L 69 y_M_area, .instanceMethod y_M_area, .selects R_M y_M_area y_M_area, .code y_M_area b_M_area 1 (some .long), .methodLink R_M 59 y_M_whole, .instanceMethod y_M_whole, .code y_M_whole b_M_whole 1 (some .long), .methodLink R_M 55 y_M_room]
def er_big_24 : List Cond := [.instanceMethod y_M_room, .code y_M_room b_M_room 9 (some .long), .methodLink R_L 73 y_M_covers, .instanceMethod y_M_covers, .selects R_M y_M_covers y_M_covers, .code y_M_covers b_M_covers 3 (some .boolean), .methodLink R_M 74 y_M_isCovered, .instanceMethod y_M_isCovered, .code y_M_isCovered b_M_isCovered 10 (some .boolean), .methodLink R_M 70 y_M_weightOf, .instanceMethod y_M_weightOf, .code y_M_weightOf b_M_weightOf 4 (some .long), .methodLink R_M 63 y_M_from, .instanceMethod y_M_from, .code y_M_from b_M_from 2 (some .int), .methodLink R_M 67 y_M_to]
def er_big_25 : List Cond := [.instanceMethod y_M_to, .code y_M_to b_M_to 2 (some .int), .methodLink R_L 77 y_M_many, .instanceMethod y_M_many, .selects R_M y_M_many y_M_many, .code y_M_many b_M_many 3 (some .int), .methodLink R_L 81 y_M_walk, .instanceMethod y_M_walk, .selects R_M y_M_walk y_M_walk, .code y_M_walk b_M_walk 1 none, .methodLink R_L 85 y_M_next, .instanceMethod y_M_next, .selects R_M y_M_next y_M_next, .code y_M_next b_M_next 1 (some .int), .constant R_M 90 65536, .methodLink R_L 89 y_M_weight]
def er_big_26 : List Cond := [.instanceMethod y_M_weight, .selects R_M y_M_weight y_M_weight, .code y_M_weight b_M_weight 2 (some .long), .methodLink R_L 92 y_M_depth, .instanceMethod y_M_depth, .selects R_M y_M_depth y_M_depth, .code y_M_depth b_M_depth 5 (some .int), .methodLink R_M 91 y_M_down, .static y_M_down, .code y_M_down b_M_down 4 (some .long), .methodLink R_L 95 y_M_at, .instanceMethod y_M_at, .selects R_M y_M_at y_M_at, .code y_M_at b_M_at 10 (some .int), .constantLong R_M 95 536870912, .arrayClass .long]
def er_big_27 : List Cond := [.sameMethod "java/lang/Throwable" "java/lang/Throwable" "fillInStackTrace" "(I)Ljava/lang/Throwable;"]
def er_big : List Cond := er_big_0 ++ (er_big_1 ++ (er_big_2 ++ (er_big_3 ++ (er_big_4 ++ (er_big_5 ++ (er_big_6 ++ (er_big_7 ++ (er_big_8 ++ (er_big_9 ++ (er_big_10 ++ (er_big_11 ++ (er_big_12 ++ (er_big_13 ++ (er_big_14 ++ (er_big_15 ++ (er_big_16 ++ (er_big_17 ++ (er_big_18 ++ (er_big_19 ++ (er_big_20 ++ (er_big_21 ++ (er_big_22 ++ (er_big_23 ++ (er_big_24 ++ (er_big_25 ++ (er_big_26 ++ (er_big_27)))))))))))))))))))))))))))
def er_nest : List Cond := [.methodLinkNest R_E 9 y_C_init "EdgeRaster", .fieldLinkNest R_E 79 "EdgeRaster$Corner" "x" "I" "EdgeRaster", .fieldLinkNest R_E 82 "EdgeRaster$Corner" "y" "I" "EdgeRaster", .fieldLinkNest R_E 85 "EdgeRaster$Corner" "deep" "I" "EdgeRaster", .fieldLinkNest R_E 88 "EdgeRaster$Corner" "nearness" "I" "EdgeRaster", .fieldLinkNest R_E 102 "EdgeRaster$Corner" "values" "[I" "EdgeRaster", .methodLinkNest R_E 158 y_C_admits "EdgeRaster", .methodLinkNest R_E 154 y_C_layEdge "EdgeRaster", .methodLinkNest R_E 128 y_C_weightAt "EdgeRaster", .methodLinkNest R_E 144 y_C_nearWeightAt "EdgeRaster"]
def w_C_init : List Cond := .code y_C_init b_C_init 1 none :: er_big
def w_C_layEdge : List Cond := .code y_C_layEdge b_C_layEdge 5 none :: er_big
def w_C_weightAt : List Cond := .code y_C_weightAt b_C_weightAt 5 (some .long) :: er_big
def w_C_nearWeightAt : List Cond := .code y_C_nearWeightAt b_C_nearWeightAt 3 (some .long) :: er_big
def w_C_admits : List Cond := .code y_C_admits b_C_admits 3 (some .boolean) :: er_big
def w_E_init : List Cond := .code y_E_init b_E_init 1 none :: er_big
def w_E_corner : List Cond := .code y_E_corner b_E_corner 7 none :: er_big
def w_E_value : List Cond := .code y_E_value b_E_value 4 none :: er_big
def w_E_window : List Cond := .code y_E_window b_E_window 5 none :: er_big
def w_E_area : List Cond := .code y_E_area b_E_area 1 (some .long) :: er_big
def w_E_covers : List Cond := .code y_E_covers b_E_covers 3 (some .boolean) :: er_big
def w_E_many : List Cond := .code y_E_many b_E_many 4 (some .int) :: er_big
def w_E_walk : List Cond := .code y_E_walk b_E_walk 1 none :: er_big
def w_E_next : List Cond := .code y_E_next b_E_next 4 (some .int) :: er_big
def w_E_weight : List Cond := .code y_E_weight b_E_weight 2 (some .long) :: er_big
def w_E_depth : List Cond := .code y_E_depth b_E_depth 3 (some .int) :: er_big
def w_E_at : List Cond := .code y_E_at b_E_at 17 (some .int) :: er_big
def w_E_within : List Cond := .code y_E_within b_E_within 3 (some .boolean) :: er_big
def w_E_isCorner : List Cond := .code y_E_isCorner b_E_isCorner 1 (some .boolean) :: er_big
def w_E_isValue : List Cond := .code y_E_isValue b_E_isValue 1 (some .boolean) :: er_big
def w_E_cornerOf : List Cond := .code y_E_cornerOf b_E_cornerOf 2 (some (.object "EdgeRaster$Corner")) :: er_big
def w_E_endWalk : List Cond := .code y_E_endWalk b_E_endWalk 1 none :: er_big
def w_E_layTriangle : List Cond := .code y_E_layTriangle b_E_layTriangle 1 none :: er_big
def w_E_isCovered : List Cond := .code y_E_isCovered b_E_isCovered 3 (some .boolean) :: er_big
def w_E_firstCovered : List Cond := .code y_E_firstCovered b_E_firstCovered 4 (some .int) :: er_big
def w_E_shareShift : List Cond := .code y_E_shareShift b_E_shareShift 3 (some .int) :: er_big
def w_E_dividedDown : List Cond := .code y_E_dividedDown b_E_dividedDown 4 (some .long) :: er_big
def w_M_init : List Cond := .code y_M_init b_M_init 2 none :: er_big
def w_M_thrown : List Cond := .code y_M_thrown b_M_thrown 1 (some .int) :: er_big
def w_M_refuse : List Cond := .code y_M_refuse b_M_refuse 3 (some .boolean) :: er_big
def w_M_in_ : List Cond := .code y_M_in_ b_M_in_ 3 (some .boolean) :: er_big
def w_M_corner : List Cond := .code y_M_corner b_M_corner 7 none :: er_big
def w_M_value : List Cond := .code y_M_value b_M_value 4 none :: er_big
def w_M_window : List Cond := .code y_M_window b_M_window 5 none :: er_big
def w_M_room : List Cond := .code y_M_room b_M_room 9 (some .long) :: er_big
def w_M_whole : List Cond := .code y_M_whole b_M_whole 1 (some .long) :: er_big
def w_M_area : List Cond := .code y_M_area b_M_area 1 (some .long) :: er_big
def w_M_from : List Cond := .code y_M_from b_M_from 2 (some .int) :: er_big
def w_M_to : List Cond := .code y_M_to b_M_to 2 (some .int) :: er_big
def w_M_weightOf : List Cond := .code y_M_weightOf b_M_weightOf 4 (some .long) :: er_big
def w_M_isCovered : List Cond := .code y_M_isCovered b_M_isCovered 10 (some .boolean) :: er_big
def w_M_covers : List Cond := .code y_M_covers b_M_covers 3 (some .boolean) :: er_big
def w_M_many : List Cond := .code y_M_many b_M_many 3 (some .int) :: er_big
def w_M_walk : List Cond := .code y_M_walk b_M_walk 1 none :: er_big
def w_M_next : List Cond := .code y_M_next b_M_next 1 (some .int) :: er_big
def w_M_weight : List Cond := .code y_M_weight b_M_weight 2 (some .long) :: er_big
def w_M_down : List Cond := .code y_M_down b_M_down 4 (some .long) :: er_big
def w_M_depth : List Cond := .code y_M_depth b_M_depth 5 (some .int) :: er_big
def w_M_at : List Cond := .code y_M_at b_M_at 10 (some .int) :: er_big
def w_L_corner : List Cond := .codeWith y_L_corner b_L_corner 7 (some .int) [(0, 11, 14, 13)] :: er_big
def w_L_value : List Cond := .codeWith y_L_value b_L_value 5 (some .int) [(0, 7, 10, 13)] :: er_big
def w_L_window : List Cond := .codeWith y_L_window b_L_window 6 (some .int) [(0, 9, 12, 13)] :: er_big
def w_L_covers : List Cond := .codeWith y_L_covers b_L_covers 5 (some .int) [(0, 17, 20, 13)] :: er_big
def w_L_next : List Cond := .codeWith y_L_next b_L_next 3 (some .int) [(0, 8, 11, 31)] :: er_big
def w_L_weight : List Cond := .codeWith y_L_weight b_L_weight 4 (some .int) [(0, 8, 11, 13), (0, 8, 14, 31)] :: er_big
def w_L_depth : List Cond := .codeWith y_L_depth b_L_depth 3 (some .int) [(0, 8, 11, 31)] :: er_big
def w_L_at : List Cond := .codeWith y_L_at b_L_at 4 (some .int) [(0, 9, 12, 13), (0, 9, 15, 31)] :: er_big
def w_J_floorDiv : List Cond := .code y_J_floorDiv b_J_floorDiv 6 (some .long) :: er_big
end
section
-- ROWS THAT A PROGRAM DECIDES
theorem n_C : ∀ a, a < 10 → ∀ b, b < 10 → a ≠ b → (F_C a).2.1 ≠ (F_C b).2.1 := by decide +kernel
theorem t_C_ok : ∀ k, k < 10 → parseFieldDescriptor (F_C k).2.2.1 = some (t_C k) := by decide +kernel
theorem n_E : ∀ a, a < 12 → ∀ b, b < 12 → a ≠ b → (F_E a).2.1 ≠ (F_E b).2.1 := by decide +kernel
theorem t_E_ok : ∀ k, k < 12 → parseFieldDescriptor (F_E k).2.2.1 = some (t_E k) := by decide +kernel
theorem n_M : ∀ a, a < 15 → ∀ b, b < 15 → a ≠ b → (F_M a).2.1 ≠ (F_M b).2.1 := by decide +kernel
theorem t_M_ok : ∀ k, k < 15 → parseFieldDescriptor (F_M k).2.2.1 = some (t_M k) := by decide +kernel
theorem er_i0 {w : Cond} (h : w ∈ er_big_0) : w ∈ er_big := List.mem_append_left _ h
theorem er_i1 {w : Cond} (h : w ∈ er_big_1) : w ∈ er_big := List.mem_append_right _ (List.mem_append_left _ h)
theorem er_i2 {w : Cond} (h : w ∈ er_big_2) : w ∈ er_big := List.mem_append_right _ (List.mem_append_right _ (List.mem_append_left _ h))
theorem er_i3 {w : Cond} (h : w ∈ er_big_3) : w ∈ er_big := List.mem_append_right _ (List.mem_append_right _ (List.mem_append_right _ (List.mem_append_left _ h)))
theorem er_i4 {w : Cond} (h : w ∈ er_big_4) : w ∈ er_big := List.mem_append_right _ (List.mem_append_right _ (List.mem_append_right _ (List.mem_append_right _ (List.mem_append_left _ h))))
theorem er_i5 {w : Cond} (h : w ∈ er_big_5) : w ∈ er_big := List.mem_append_right _ (List.mem_append_right _ (List.mem_append_right _ (List.mem_append_right _ (List.mem_append_right _ (List.mem_append_left _ h)))))
theorem er_i6 {w : Cond} (h : w ∈ er_big_6) : w ∈ er_big := List.mem_append_right _ (List.mem_append_right _ (List.mem_append_right _ (List.mem_append_right _ (List.mem_append_right _ (List.mem_append_right _ (List.mem_append_left _ h))))))
theorem er_i7 {w : Cond} (h : w ∈ er_big_7) : w ∈ er_big := List.mem_append_right _ (List.mem_append_right _ (List.mem_append_right _ (List.mem_append_right _ (List.mem_append_right _ (List.mem_append_right _ (List.mem_append_right _ (List.mem_append_left _ h)))))))
theorem er_i8 {w : Cond} (h : w ∈ er_big_8) : w ∈ er_big := List.mem_append_right _ (List.mem_append_right _ (List.mem_append_right _ (List.mem_append_right _ (List.mem_append_right _ (List.mem_append_right _ (List.mem_append_right _ (List.mem_append_right _ (List.mem_append_left _ h))))))))
theorem er_i9 {w : Cond} (h : w ∈ er_big_9) : w ∈ er_big := List.mem_append_right _ (List.mem_append_right _ (List.mem_append_right _ (List.mem_append_right _ (List.mem_append_right _ (List.mem_append_right _ (List.mem_append_right _ (List.mem_append_right _ (List.mem_append_right _ (List.mem_append_left _ h)))))))))
theorem er_i10 {w : Cond} (h : w ∈ er_big_10) : w ∈ er_big := List.mem_append_right _ (List.mem_append_right _ (List.mem_append_right _ (List.mem_append_right _ (List.mem_append_right _ (List.mem_append_right _ (List.mem_append_right _ (List.mem_append_right _ (List.mem_append_right _ (List.mem_append_right _ (List.mem_append_left _ h))))))))))
theorem er_i11 {w : Cond} (h : w ∈ er_big_11) : w ∈ er_big := List.mem_append_right _ (List.mem_append_right _ (List.mem_append_right _ (List.mem_append_right _ (List.mem_append_right _ (List.mem_append_right _ (List.mem_append_right _ (List.mem_append_right _ (List.mem_append_right _ (List.mem_append_right _ (List.mem_append_right _ (List.mem_append_left _ h)))))))))))
theorem er_i12 {w : Cond} (h : w ∈ er_big_12) : w ∈ er_big := List.mem_append_right _ (List.mem_append_right _ (List.mem_append_right _ (List.mem_append_right _ (List.mem_append_right _ (List.mem_append_right _ (List.mem_append_right _ (List.mem_append_right _ (List.mem_append_right _ (List.mem_append_right _ (List.mem_append_right _ (List.mem_append_right _ (List.mem_append_left _ h))))))))))))
theorem er_i13 {w : Cond} (h : w ∈ er_big_13) : w ∈ er_big := List.mem_append_right _ (List.mem_append_right _ (List.mem_append_right _ (List.mem_append_right _ (List.mem_append_right _ (List.mem_append_right _ (List.mem_append_right _ (List.mem_append_right _ (List.mem_append_right _ (List.mem_append_right _ (List.mem_append_right _ (List.mem_append_right _ (List.mem_append_right _ (List.mem_append_left _ h)))))))))))))
theorem er_i14 {w : Cond} (h : w ∈ er_big_14) : w ∈ er_big := List.mem_append_right _ (List.mem_append_right _ (List.mem_append_right _ (List.mem_append_right _ (List.mem_append_right _ (List.mem_append_right _ (List.mem_append_right _ (List.mem_append_right _ (List.mem_append_right _ (List.mem_append_right _ (List.mem_append_right _ (List.mem_append_right _ (List.mem_append_right _ (List.mem_append_right _ (List.mem_append_left _ h))))))))))))))
theorem er_i15 {w : Cond} (h : w ∈ er_big_15) : w ∈ er_big := List.mem_append_right _ (List.mem_append_right _ (List.mem_append_right _ (List.mem_append_right _ (List.mem_append_right _ (List.mem_append_right _ (List.mem_append_right _ (List.mem_append_right _ (List.mem_append_right _ (List.mem_append_right _ (List.mem_append_right _ (List.mem_append_right _ (List.mem_append_right _ (List.mem_append_right _ (List.mem_append_right _ (List.mem_append_left _ h)))))))))))))))
theorem er_i16 {w : Cond} (h : w ∈ er_big_16) : w ∈ er_big := List.mem_append_right _ (List.mem_append_right _ (List.mem_append_right _ (List.mem_append_right _ (List.mem_append_right _ (List.mem_append_right _ (List.mem_append_right _ (List.mem_append_right _ (List.mem_append_right _ (List.mem_append_right _ (List.mem_append_right _ (List.mem_append_right _ (List.mem_append_right _ (List.mem_append_right _ (List.mem_append_right _ (List.mem_append_right _ (List.mem_append_left _ h))))))))))))))))
theorem er_i17 {w : Cond} (h : w ∈ er_big_17) : w ∈ er_big := List.mem_append_right _ (List.mem_append_right _ (List.mem_append_right _ (List.mem_append_right _ (List.mem_append_right _ (List.mem_append_right _ (List.mem_append_right _ (List.mem_append_right _ (List.mem_append_right _ (List.mem_append_right _ (List.mem_append_right _ (List.mem_append_right _ (List.mem_append_right _ (List.mem_append_right _ (List.mem_append_right _ (List.mem_append_right _ (List.mem_append_right _ (List.mem_append_left _ h)))))))))))))))))
theorem er_i18 {w : Cond} (h : w ∈ er_big_18) : w ∈ er_big := List.mem_append_right _ (List.mem_append_right _ (List.mem_append_right _ (List.mem_append_right _ (List.mem_append_right _ (List.mem_append_right _ (List.mem_append_right _ (List.mem_append_right _ (List.mem_append_right _ (List.mem_append_right _ (List.mem_append_right _ (List.mem_append_right _ (List.mem_append_right _ (List.mem_append_right _ (List.mem_append_right _ (List.mem_append_right _ (List.mem_append_right _ (List.mem_append_right _ (List.mem_append_left _ h))))))))))))))))))
theorem er_i19 {w : Cond} (h : w ∈ er_big_19) : w ∈ er_big := List.mem_append_right _ (List.mem_append_right _ (List.mem_append_right _ (List.mem_append_right _ (List.mem_append_right _ (List.mem_append_right _ (List.mem_append_right _ (List.mem_append_right _ (List.mem_append_right _ (List.mem_append_right _ (List.mem_append_right _ (List.mem_append_right _ (List.mem_append_right _ (List.mem_append_right _ (List.mem_append_right _ (List.mem_append_right _ (List.mem_append_right _ (List.mem_append_right _ (List.mem_append_right _ (List.mem_append_left _ h)))))))))))))))))))
theorem er_i20 {w : Cond} (h : w ∈ er_big_20) : w ∈ er_big := List.mem_append_right _ (List.mem_append_right _ (List.mem_append_right _ (List.mem_append_right _ (List.mem_append_right _ (List.mem_append_right _ (List.mem_append_right _ (List.mem_append_right _ (List.mem_append_right _ (List.mem_append_right _ (List.mem_append_right _ (List.mem_append_right _ (List.mem_append_right _ (List.mem_append_right _ (List.mem_append_right _ (List.mem_append_right _ (List.mem_append_right _ (List.mem_append_right _ (List.mem_append_right _ (List.mem_append_right _ (List.mem_append_left _ h))))))))))))))))))))
theorem er_i21 {w : Cond} (h : w ∈ er_big_21) : w ∈ er_big := List.mem_append_right _ (List.mem_append_right _ (List.mem_append_right _ (List.mem_append_right _ (List.mem_append_right _ (List.mem_append_right _ (List.mem_append_right _ (List.mem_append_right _ (List.mem_append_right _ (List.mem_append_right _ (List.mem_append_right _ (List.mem_append_right _ (List.mem_append_right _ (List.mem_append_right _ (List.mem_append_right _ (List.mem_append_right _ (List.mem_append_right _ (List.mem_append_right _ (List.mem_append_right _ (List.mem_append_right _ (List.mem_append_right _ (List.mem_append_left _ h)))))))))))))))))))))
theorem er_i22 {w : Cond} (h : w ∈ er_big_22) : w ∈ er_big := List.mem_append_right _ (List.mem_append_right _ (List.mem_append_right _ (List.mem_append_right _ (List.mem_append_right _ (List.mem_append_right _ (List.mem_append_right _ (List.mem_append_right _ (List.mem_append_right _ (List.mem_append_right _ (List.mem_append_right _ (List.mem_append_right _ (List.mem_append_right _ (List.mem_append_right _ (List.mem_append_right _ (List.mem_append_right _ (List.mem_append_right _ (List.mem_append_right _ (List.mem_append_right _ (List.mem_append_right _ (List.mem_append_right _ (List.mem_append_right _ (List.mem_append_left _ h))))))))))))))))))))))
theorem er_i23 {w : Cond} (h : w ∈ er_big_23) : w ∈ er_big := List.mem_append_right _ (List.mem_append_right _ (List.mem_append_right _ (List.mem_append_right _ (List.mem_append_right _ (List.mem_append_right _ (List.mem_append_right _ (List.mem_append_right _ (List.mem_append_right _ (List.mem_append_right _ (List.mem_append_right _ (List.mem_append_right _ (List.mem_append_right _ (List.mem_append_right _ (List.mem_append_right _ (List.mem_append_right _ (List.mem_append_right _ (List.mem_append_right _ (List.mem_append_right _ (List.mem_append_right _ (List.mem_append_right _ (List.mem_append_right _ (List.mem_append_right _ (List.mem_append_left _ h)))))))))))))))))))))))
theorem er_i24 {w : Cond} (h : w ∈ er_big_24) : w ∈ er_big := List.mem_append_right _ (List.mem_append_right _ (List.mem_append_right _ (List.mem_append_right _ (List.mem_append_right _ (List.mem_append_right _ (List.mem_append_right _ (List.mem_append_right _ (List.mem_append_right _ (List.mem_append_right _ (List.mem_append_right _ (List.mem_append_right _ (List.mem_append_right _ (List.mem_append_right _ (List.mem_append_right _ (List.mem_append_right _ (List.mem_append_right _ (List.mem_append_right _ (List.mem_append_right _ (List.mem_append_right _ (List.mem_append_right _ (List.mem_append_right _ (List.mem_append_right _ (List.mem_append_right _ (List.mem_append_left _ h))))))))))))))))))))))))
theorem er_i25 {w : Cond} (h : w ∈ er_big_25) : w ∈ er_big := List.mem_append_right _ (List.mem_append_right _ (List.mem_append_right _ (List.mem_append_right _ (List.mem_append_right _ (List.mem_append_right _ (List.mem_append_right _ (List.mem_append_right _ (List.mem_append_right _ (List.mem_append_right _ (List.mem_append_right _ (List.mem_append_right _ (List.mem_append_right _ (List.mem_append_right _ (List.mem_append_right _ (List.mem_append_right _ (List.mem_append_right _ (List.mem_append_right _ (List.mem_append_right _ (List.mem_append_right _ (List.mem_append_right _ (List.mem_append_right _ (List.mem_append_right _ (List.mem_append_right _ (List.mem_append_right _ (List.mem_append_left _ h)))))))))))))))))))))))))
theorem er_i26 {w : Cond} (h : w ∈ er_big_26) : w ∈ er_big := List.mem_append_right _ (List.mem_append_right _ (List.mem_append_right _ (List.mem_append_right _ (List.mem_append_right _ (List.mem_append_right _ (List.mem_append_right _ (List.mem_append_right _ (List.mem_append_right _ (List.mem_append_right _ (List.mem_append_right _ (List.mem_append_right _ (List.mem_append_right _ (List.mem_append_right _ (List.mem_append_right _ (List.mem_append_right _ (List.mem_append_right _ (List.mem_append_right _ (List.mem_append_right _ (List.mem_append_right _ (List.mem_append_right _ (List.mem_append_right _ (List.mem_append_right _ (List.mem_append_right _ (List.mem_append_right _ (List.mem_append_right _ (List.mem_append_left _ h))))))))))))))))))))))))))
theorem er_i27 {w : Cond} (h : w ∈ er_big_27) : w ∈ er_big := List.mem_append_right _ (List.mem_append_right _ (List.mem_append_right _ (List.mem_append_right _ (List.mem_append_right _ (List.mem_append_right _ (List.mem_append_right _ (List.mem_append_right _ (List.mem_append_right _ (List.mem_append_right _ (List.mem_append_right _ (List.mem_append_right _ (List.mem_append_right _ (List.mem_append_right _ (List.mem_append_right _ (List.mem_append_right _ (List.mem_append_right _ (List.mem_append_right _ (List.mem_append_right _ (List.mem_append_right _ (List.mem_append_right _ (List.mem_append_right _ (List.mem_append_right _ (List.mem_append_right _ (List.mem_append_right _ (List.mem_append_right _ (List.mem_append_right _ (h)))))))))))))))))))))))))))
theorem k_0 : Cond.selects R_E y_E_isCovered y_E_isCovered ∈ er_big := er_i0 (List.mem_of_getElem? (i := 0) rfl)
theorem k_1 : Cond.selects R_C y_C_admits y_C_admits ∈ er_big := er_i0 (List.mem_of_getElem? (i := 1) rfl)
theorem k_2 : Cond.selects R_C y_C_weightAt y_C_weightAt ∈ er_big := er_i0 (List.mem_of_getElem? (i := 2) rfl)
theorem k_3 : Cond.selects "java/lang/Throwable" ⟨"java/lang/Throwable", "fillInStackTrace", "(I)Ljava/lang/Throwable;"⟩ ⟨"java/lang/Throwable", "fillInStackTrace", "(I)Ljava/lang/Throwable;"⟩ ∈ er_big := er_i0 (List.mem_of_getElem? (i := 3) rfl)
theorem k_4 : Cond.selects R_E y_E_cornerOf y_E_cornerOf ∈ er_big := er_i0 (List.mem_of_getElem? (i := 4) rfl)
theorem k_5 : Cond.selects R_E y_E_layTriangle y_E_layTriangle ∈ er_big := er_i0 (List.mem_of_getElem? (i := 5) rfl)
theorem k_6 : Cond.selects R_C y_C_layEdge y_C_layEdge ∈ er_big := er_i0 (List.mem_of_getElem? (i := 6) rfl)
theorem k_7 : Cond.selects R_E y_E_endWalk y_E_endWalk ∈ er_big := er_i0 (List.mem_of_getElem? (i := 7) rfl)
theorem k_8 : Cond.selects R_E y_E_firstCovered y_E_firstCovered ∈ er_big := er_i0 (List.mem_of_getElem? (i := 8) rfl)
theorem k_9 : Cond.selects R_C y_C_nearWeightAt y_C_nearWeightAt ∈ er_big := er_i0 (List.mem_of_getElem? (i := 9) rfl)
theorem k_10 : Cond.selects R_M y_M_refuse y_M_refuse ∈ er_big := er_i0 (List.mem_of_getElem? (i := 10) rfl)
theorem k_11 : Cond.selects R_M y_M_whole y_M_whole ∈ er_big := er_i0 (List.mem_of_getElem? (i := 11) rfl)
theorem k_12 : Cond.selects R_M y_M_room y_M_room ∈ er_big := er_i0 (List.mem_of_getElem? (i := 12) rfl)
theorem k_13 : Cond.selects R_M y_M_isCovered y_M_isCovered ∈ er_big := er_i0 (List.mem_of_getElem? (i := 13) rfl)
theorem k_14 : Cond.selects R_M y_M_weightOf y_M_weightOf ∈ er_big := er_i0 (List.mem_of_getElem? (i := 14) rfl)
theorem k_15 : Cond.selects R_M y_M_from y_M_from ∈ er_big := er_i0 (List.mem_of_getElem? (i := 15) rfl)
theorem k_16 : Cond.selects R_M y_M_to y_M_to ∈ er_big := er_i1 (List.mem_of_getElem? (i := 0) rfl)
theorem k_17 : Cond.initialized R_L ∈ er_big := er_i1 (List.mem_of_getElem? (i := 1) rfl)
theorem k_18 : Cond.initialized R_E ∈ er_big := er_i1 (List.mem_of_getElem? (i := 2) rfl)
theorem k_19 : Cond.initialized R_C ∈ er_big := er_i1 (List.mem_of_getElem? (i := 3) rfl)
theorem k_20 : Cond.initialized R_M ∈ er_big := er_i1 (List.mem_of_getElem? (i := 4) rfl)
theorem k_21 : Cond.initialized "java/lang/Throwable" ∈ er_big := er_i1 (List.mem_of_getElem? (i := 5) rfl)
theorem k_22 : Cond.initialized "java/lang/Exception" ∈ er_big := er_i1 (List.mem_of_getElem? (i := 6) rfl)
theorem k_23 : Cond.initialized "java/lang/RuntimeException" ∈ er_big := er_i1 (List.mem_of_getElem? (i := 7) rfl)
theorem k_24 : Cond.initialized "java/lang/IllegalArgumentException" ∈ er_big := er_i1 (List.mem_of_getElem? (i := 8) rfl)
theorem k_25 : Cond.initialized "java/lang/IllegalStateException" ∈ er_big := er_i1 (List.mem_of_getElem? (i := 9) rfl)
theorem k_26 : Cond.initialized R_J ∈ er_big := er_i1 (List.mem_of_getElem? (i := 10) rfl)
theorem k_27 : Cond.classLink R_L 8 R_E ∈ er_big := er_i1 (List.mem_of_getElem? (i := 11) rfl)
theorem k_28 : Cond.instantiable R_E 12 ∈ er_big := er_i1 (List.mem_of_getElem? (i := 12) rfl)
theorem k_29 : Cond.methodLink R_L 44 y_E_init ∈ er_big := er_i1 (List.mem_of_getElem? (i := 13) rfl)
theorem k_30 : Cond.instanceMethod y_E_init ∈ er_big := er_i1 (List.mem_of_getElem? (i := 14) rfl)
theorem k_31 : Cond.code y_E_init b_E_init 1 none ∈ er_big := er_i1 (List.mem_of_getElem? (i := 15) rfl)
theorem k_32 : Cond.methodLink R_E 1 objectInit ∈ er_big := er_i2 (List.mem_of_getElem? (i := 0) rfl)
theorem k_33 : Cond.instanceMethod objectInit ∈ er_big := er_i2 (List.mem_of_getElem? (i := 1) rfl)
theorem k_34 : Cond.code objectInit ⟨#[0xb1]⟩ 1 none ∈ er_big := er_i2 (List.mem_of_getElem? (i := 2) rfl)
theorem k_35 : Cond.classLink R_E 7 R_C ∈ er_big := er_i2 (List.mem_of_getElem? (i := 3) rfl)
theorem k_36 : Cond.instantiable R_C 10 ∈ er_big := er_i2 (List.mem_of_getElem? (i := 4) rfl)
theorem k_37 : Cond.instanceMethod y_C_init ∈ er_big := er_i2 (List.mem_of_getElem? (i := 5) rfl)
theorem k_38 : Cond.code y_C_init b_C_init 1 none ∈ er_big := er_i2 (List.mem_of_getElem? (i := 6) rfl)
theorem k_39 : Cond.methodLink R_C 3 objectInit ∈ er_big := er_i2 (List.mem_of_getElem? (i := 7) rfl)
theorem k_40 : Cond.fieldLink R_C 9 "EdgeRaster$Corner" "x" "I" ∈ er_big := er_i2 (List.mem_of_getElem? (i := 8) rfl)
theorem k_41 : Cond.fieldLink R_C 15 "EdgeRaster$Corner" "y" "I" ∈ er_big := er_i2 (List.mem_of_getElem? (i := 9) rfl)
theorem k_42 : Cond.fieldLink R_C 18 "EdgeRaster$Corner" "deep" "I" ∈ er_big := er_i2 (List.mem_of_getElem? (i := 10) rfl)
theorem k_43 : Cond.fieldLink R_C 21 "EdgeRaster$Corner" "nearness" "I" ∈ er_big := er_i2 (List.mem_of_getElem? (i := 11) rfl)
theorem k_44 : Cond.fieldLink R_C 24 "EdgeRaster$Corner" "values" "[I" ∈ er_big := er_i2 (List.mem_of_getElem? (i := 12) rfl)
theorem k_45 : Cond.fieldLink R_C 28 "EdgeRaster$Corner" "edgeX" "I" ∈ er_big := er_i2 (List.mem_of_getElem? (i := 13) rfl)
theorem k_46 : Cond.fieldLink R_C 31 "EdgeRaster$Corner" "edgeY" "I" ∈ er_big := er_i2 (List.mem_of_getElem? (i := 14) rfl)
theorem k_47 : Cond.fieldLink R_C 34 "EdgeRaster$Corner" "edgeAcross" "I" ∈ er_big := er_i2 (List.mem_of_getElem? (i := 15) rfl)
theorem k_48 : Cond.fieldLink R_C 37 "EdgeRaster$Corner" "edgeDown" "I" ∈ er_big := er_i3 (List.mem_of_getElem? (i := 0) rfl)
theorem k_49 : Cond.fieldLink R_C 40 "EdgeRaster$Corner" "leastWeight" "I" ∈ er_big := er_i3 (List.mem_of_getElem? (i := 1) rfl)
theorem k_50 : Cond.lays R_C "EdgeRaster$Corner" "x" "I" ∈ er_big := er_i3 (List.mem_of_getElem? (i := 2) rfl)
theorem k_51 : Cond.soleField R_C "x" ∈ er_big := er_i3 (List.mem_of_getElem? (i := 3) rfl)
theorem k_52 : Cond.lays R_C "EdgeRaster$Corner" "y" "I" ∈ er_big := er_i3 (List.mem_of_getElem? (i := 4) rfl)
theorem k_53 : Cond.soleField R_C "y" ∈ er_big := er_i3 (List.mem_of_getElem? (i := 5) rfl)
theorem k_54 : Cond.lays R_C "EdgeRaster$Corner" "deep" "I" ∈ er_big := er_i3 (List.mem_of_getElem? (i := 6) rfl)
theorem k_55 : Cond.soleField R_C "deep" ∈ er_big := er_i3 (List.mem_of_getElem? (i := 7) rfl)
theorem k_56 : Cond.lays R_C "EdgeRaster$Corner" "nearness" "I" ∈ er_big := er_i3 (List.mem_of_getElem? (i := 8) rfl)
theorem k_57 : Cond.soleField R_C "nearness" ∈ er_big := er_i3 (List.mem_of_getElem? (i := 9) rfl)
theorem k_58 : Cond.laysFinal R_C "EdgeRaster$Corner" "values" "[I" ∈ er_big := er_i3 (List.mem_of_getElem? (i := 10) rfl)
theorem k_59 : Cond.soleField R_C "values" ∈ er_big := er_i3 (List.mem_of_getElem? (i := 11) rfl)
theorem k_60 : Cond.lays R_C "EdgeRaster$Corner" "edgeX" "I" ∈ er_big := er_i3 (List.mem_of_getElem? (i := 12) rfl)
theorem k_61 : Cond.soleField R_C "edgeX" ∈ er_big := er_i3 (List.mem_of_getElem? (i := 13) rfl)
theorem k_62 : Cond.lays R_C "EdgeRaster$Corner" "edgeY" "I" ∈ er_big := er_i3 (List.mem_of_getElem? (i := 14) rfl)
theorem k_63 : Cond.soleField R_C "edgeY" ∈ er_big := er_i3 (List.mem_of_getElem? (i := 15) rfl)
theorem k_64 : Cond.lays R_C "EdgeRaster$Corner" "edgeAcross" "I" ∈ er_big := er_i4 (List.mem_of_getElem? (i := 0) rfl)
theorem k_65 : Cond.soleField R_C "edgeAcross" ∈ er_big := er_i4 (List.mem_of_getElem? (i := 1) rfl)
theorem k_66 : Cond.lays R_C "EdgeRaster$Corner" "edgeDown" "I" ∈ er_big := er_i4 (List.mem_of_getElem? (i := 2) rfl)
theorem k_67 : Cond.soleField R_C "edgeDown" ∈ er_big := er_i4 (List.mem_of_getElem? (i := 3) rfl)
theorem k_68 : Cond.lays R_C "EdgeRaster$Corner" "leastWeight" "I" ∈ er_big := er_i4 (List.mem_of_getElem? (i := 4) rfl)
theorem k_69 : Cond.soleField R_C "leastWeight" ∈ er_big := er_i4 (List.mem_of_getElem? (i := 5) rfl)
theorem k_70 : Cond.superclass R_C "java/lang/Object" ∈ er_big := er_i4 (List.mem_of_getElem? (i := 6) rfl)
theorem k_71 : Cond.arrayClass .int ∈ er_big := er_i4 (List.mem_of_getElem? (i := 7) rfl)
theorem k_72 : Cond.fieldLink R_E 10 "EdgeRaster" "corner0" "LEdgeRaster$Corner;" ∈ er_big := er_i4 (List.mem_of_getElem? (i := 8) rfl)
theorem k_73 : Cond.fieldLink R_E 16 "EdgeRaster" "corner1" "LEdgeRaster$Corner;" ∈ er_big := er_i4 (List.mem_of_getElem? (i := 9) rfl)
theorem k_74 : Cond.fieldLink R_E 19 "EdgeRaster" "corner2" "LEdgeRaster$Corner;" ∈ er_big := er_i4 (List.mem_of_getElem? (i := 10) rfl)
theorem k_75 : Cond.fieldLink R_E 22 "EdgeRaster" "signedArea" "J" ∈ er_big := er_i4 (List.mem_of_getElem? (i := 11) rfl)
theorem k_76 : Cond.fieldLink R_E 26 "EdgeRaster" "windowX" "I" ∈ er_big := er_i4 (List.mem_of_getElem? (i := 12) rfl)
theorem k_77 : Cond.fieldLink R_E 30 "EdgeRaster" "windowY" "I" ∈ er_big := er_i4 (List.mem_of_getElem? (i := 13) rfl)
theorem k_78 : Cond.fieldLink R_E 33 "EdgeRaster" "windowWide" "I" ∈ er_big := er_i4 (List.mem_of_getElem? (i := 14) rfl)
theorem k_79 : Cond.fieldLink R_E 36 "EdgeRaster" "windowHigh" "I" ∈ er_big := er_i4 (List.mem_of_getElem? (i := 15) rfl)
theorem k_80 : Cond.fieldLink R_E 39 "EdgeRaster" "walking" "Z" ∈ er_big := er_i5 (List.mem_of_getElem? (i := 0) rfl)
theorem k_81 : Cond.fieldLink R_E 43 "EdgeRaster" "onPlace" "Z" ∈ er_big := er_i5 (List.mem_of_getElem? (i := 1) rfl)
theorem k_82 : Cond.fieldLink R_E 46 "EdgeRaster" "lastX" "I" ∈ er_big := er_i5 (List.mem_of_getElem? (i := 2) rfl)
theorem k_83 : Cond.fieldLink R_E 49 "EdgeRaster" "lastY" "I" ∈ er_big := er_i5 (List.mem_of_getElem? (i := 3) rfl)
theorem k_84 : Cond.laysFinal R_E "EdgeRaster" "corner0" "LEdgeRaster$Corner;" ∈ er_big := er_i5 (List.mem_of_getElem? (i := 4) rfl)
theorem k_85 : Cond.soleField R_E "corner0" ∈ er_big := er_i5 (List.mem_of_getElem? (i := 5) rfl)
theorem k_86 : Cond.laysFinal R_E "EdgeRaster" "corner1" "LEdgeRaster$Corner;" ∈ er_big := er_i5 (List.mem_of_getElem? (i := 6) rfl)
theorem k_87 : Cond.soleField R_E "corner1" ∈ er_big := er_i5 (List.mem_of_getElem? (i := 7) rfl)
theorem k_88 : Cond.laysFinal R_E "EdgeRaster" "corner2" "LEdgeRaster$Corner;" ∈ er_big := er_i5 (List.mem_of_getElem? (i := 8) rfl)
theorem k_89 : Cond.soleField R_E "corner2" ∈ er_big := er_i5 (List.mem_of_getElem? (i := 9) rfl)
theorem k_90 : Cond.lays R_E "EdgeRaster" "signedArea" "J" ∈ er_big := er_i5 (List.mem_of_getElem? (i := 10) rfl)
theorem k_91 : Cond.soleField R_E "signedArea" ∈ er_big := er_i5 (List.mem_of_getElem? (i := 11) rfl)
theorem k_92 : Cond.lays R_E "EdgeRaster" "windowX" "I" ∈ er_big := er_i5 (List.mem_of_getElem? (i := 12) rfl)
theorem k_93 : Cond.soleField R_E "windowX" ∈ er_big := er_i5 (List.mem_of_getElem? (i := 13) rfl)
theorem k_94 : Cond.lays R_E "EdgeRaster" "windowY" "I" ∈ er_big := er_i5 (List.mem_of_getElem? (i := 14) rfl)
theorem k_95 : Cond.soleField R_E "windowY" ∈ er_big := er_i5 (List.mem_of_getElem? (i := 15) rfl)
theorem k_96 : Cond.lays R_E "EdgeRaster" "windowWide" "I" ∈ er_big := er_i6 (List.mem_of_getElem? (i := 0) rfl)
theorem k_97 : Cond.soleField R_E "windowWide" ∈ er_big := er_i6 (List.mem_of_getElem? (i := 1) rfl)
theorem k_98 : Cond.lays R_E "EdgeRaster" "windowHigh" "I" ∈ er_big := er_i6 (List.mem_of_getElem? (i := 2) rfl)
theorem k_99 : Cond.soleField R_E "windowHigh" ∈ er_big := er_i6 (List.mem_of_getElem? (i := 3) rfl)
theorem k_100 : Cond.lays R_E "EdgeRaster" "walking" "Z" ∈ er_big := er_i6 (List.mem_of_getElem? (i := 4) rfl)
theorem k_101 : Cond.soleField R_E "walking" ∈ er_big := er_i6 (List.mem_of_getElem? (i := 5) rfl)
theorem k_102 : Cond.lays R_E "EdgeRaster" "onPlace" "Z" ∈ er_big := er_i6 (List.mem_of_getElem? (i := 6) rfl)
theorem k_103 : Cond.soleField R_E "onPlace" ∈ er_big := er_i6 (List.mem_of_getElem? (i := 7) rfl)
theorem k_104 : Cond.lays R_E "EdgeRaster" "lastX" "I" ∈ er_big := er_i6 (List.mem_of_getElem? (i := 8) rfl)
theorem k_105 : Cond.soleField R_E "lastX" ∈ er_big := er_i6 (List.mem_of_getElem? (i := 9) rfl)
theorem k_106 : Cond.lays R_E "EdgeRaster" "lastY" "I" ∈ er_big := er_i6 (List.mem_of_getElem? (i := 10) rfl)
theorem k_107 : Cond.soleField R_E "lastY" ∈ er_big := er_i6 (List.mem_of_getElem? (i := 11) rfl)
theorem k_108 : Cond.superclass R_E "java/lang/Object" ∈ er_big := er_i6 (List.mem_of_getElem? (i := 12) rfl)
theorem k_109 : Cond.methodLink R_L 65 y_E_area ∈ er_big := er_i6 (List.mem_of_getElem? (i := 13) rfl)
theorem k_110 : Cond.instanceMethod y_E_area ∈ er_big := er_i6 (List.mem_of_getElem? (i := 14) rfl)
theorem k_111 : Cond.selects R_E y_E_area y_E_area ∈ er_big := er_i6 (List.mem_of_getElem? (i := 15) rfl)
theorem k_112 : Cond.code y_E_area b_E_area 1 (some .long) ∈ er_big := er_i7 (List.mem_of_getElem? (i := 0) rfl)
theorem k_113 : Cond.methodLink R_L 74 y_E_many ∈ er_big := er_i7 (List.mem_of_getElem? (i := 1) rfl)
theorem k_114 : Cond.instanceMethod y_E_many ∈ er_big := er_i7 (List.mem_of_getElem? (i := 2) rfl)
theorem k_115 : Cond.selects R_E y_E_many y_E_many ∈ er_big := er_i7 (List.mem_of_getElem? (i := 3) rfl)
theorem k_116 : Cond.code y_E_many b_E_many 4 (some .int) ∈ er_big := er_i7 (List.mem_of_getElem? (i := 4) rfl)
theorem k_117 : Cond.methodLink R_E 112 y_E_isCovered ∈ er_big := er_i7 (List.mem_of_getElem? (i := 5) rfl)
theorem k_118 : Cond.instanceMethod y_E_isCovered ∈ er_big := er_i7 (List.mem_of_getElem? (i := 6) rfl)
theorem k_119 : Cond.code y_E_isCovered b_E_isCovered 3 (some .boolean) ∈ er_big := er_i7 (List.mem_of_getElem? (i := 7) rfl)
theorem k_120 : Cond.instanceMethod y_C_admits ∈ er_big := er_i7 (List.mem_of_getElem? (i := 8) rfl)
theorem k_121 : Cond.code y_C_admits b_C_admits 3 (some .boolean) ∈ er_big := er_i7 (List.mem_of_getElem? (i := 9) rfl)
theorem k_122 : Cond.methodLink R_C 43 y_C_weightAt ∈ er_big := er_i7 (List.mem_of_getElem? (i := 10) rfl)
theorem k_123 : Cond.instanceMethod y_C_weightAt ∈ er_big := er_i7 (List.mem_of_getElem? (i := 11) rfl)
theorem k_124 : Cond.code y_C_weightAt b_C_weightAt 5 (some .long) ∈ er_big := er_i7 (List.mem_of_getElem? (i := 12) rfl)
theorem k_125 : Cond.methodLink R_L 78 y_E_walk ∈ er_big := er_i7 (List.mem_of_getElem? (i := 13) rfl)
theorem k_126 : Cond.instanceMethod y_E_walk ∈ er_big := er_i7 (List.mem_of_getElem? (i := 14) rfl)
theorem k_127 : Cond.selects R_E y_E_walk y_E_walk ∈ er_big := er_i7 (List.mem_of_getElem? (i := 15) rfl)
theorem k_128 : Cond.code y_E_walk b_E_walk 1 none ∈ er_big := er_i8 (List.mem_of_getElem? (i := 0) rfl)
theorem k_129 : Cond.methodLink R_L 48 y_L_corner ∈ er_big := er_i8 (List.mem_of_getElem? (i := 1) rfl)
theorem k_130 : Cond.static y_L_corner ∈ er_big := er_i8 (List.mem_of_getElem? (i := 2) rfl)
theorem k_131 : Cond.codeWith y_L_corner b_L_corner 7 (some .int) [(0, 11, 14, 13)] ∈ er_big := er_i8 (List.mem_of_getElem? (i := 3) rfl)
theorem k_132 : Cond.classLink R_L 13 "java/lang/IllegalArgumentException" ∈ er_big := er_i8 (List.mem_of_getElem? (i := 4) rfl)
theorem k_133 : Cond.methodLink R_L 7 y_E_corner ∈ er_big := er_i8 (List.mem_of_getElem? (i := 5) rfl)
theorem k_134 : Cond.instanceMethod y_E_corner ∈ er_big := er_i8 (List.mem_of_getElem? (i := 6) rfl)
theorem k_135 : Cond.selects R_E y_E_corner y_E_corner ∈ er_big := er_i8 (List.mem_of_getElem? (i := 7) rfl)
theorem k_136 : Cond.code y_E_corner b_E_corner 7 none ∈ er_big := er_i8 (List.mem_of_getElem? (i := 8) rfl)
theorem k_137 : Cond.methodLink R_E 52 y_E_isCorner ∈ er_big := er_i8 (List.mem_of_getElem? (i := 9) rfl)
theorem k_138 : Cond.static y_E_isCorner ∈ er_big := er_i8 (List.mem_of_getElem? (i := 10) rfl)
theorem k_139 : Cond.code y_E_isCorner b_E_isCorner 1 (some .boolean) ∈ er_big := er_i8 (List.mem_of_getElem? (i := 11) rfl)
theorem k_140 : Cond.methodLink R_E 63 y_E_within ∈ er_big := er_i8 (List.mem_of_getElem? (i := 12) rfl)
theorem k_141 : Cond.static y_E_within ∈ er_big := er_i8 (List.mem_of_getElem? (i := 13) rfl)
theorem k_142 : Cond.code y_E_within b_E_within 3 (some .boolean) ∈ er_big := er_i8 (List.mem_of_getElem? (i := 14) rfl)
theorem k_143 : Cond.classLink R_E 56 "java/lang/IllegalArgumentException" ∈ er_big := er_i8 (List.mem_of_getElem? (i := 15) rfl)
theorem k_144 : Cond.instantiable "java/lang/IllegalArgumentException" 6 ∈ er_big := er_i9 (List.mem_of_getElem? (i := 0) rfl)
theorem k_145 : Cond.selects "java/lang/IllegalArgumentException" ⟨"java/lang/Throwable", "fillInStackTrace", "(I)Ljava/lang/Throwable;"⟩ ⟨"java/lang/Throwable", "fillInStackTrace", "(I)Ljava/lang/Throwable;"⟩ ∈ er_big := er_i9 (List.mem_of_getElem? (i := 1) rfl)
theorem k_146 : Cond.selects "java/lang/IllegalArgumentException" ⟨"java/lang/Throwable", "fillInStackTrace", "()Ljava/lang/Throwable;"⟩ ⟨"java/lang/Throwable", "fillInStackTrace", "()Ljava/lang/Throwable;"⟩ ∈ er_big := er_i9 (List.mem_of_getElem? (i := 2) rfl)
theorem k_147 : Cond.lays "java/lang/IllegalArgumentException" "java/lang/Throwable" "cause" "Ljava/lang/Throwable;" ∈ er_big := er_i9 (List.mem_of_getElem? (i := 3) rfl)
theorem k_148 : Cond.lays "java/lang/Throwable" "java/lang/Throwable" "cause" "Ljava/lang/Throwable;" ∈ er_big := er_i9 (List.mem_of_getElem? (i := 4) rfl)
theorem k_149 : Cond.lays "java/lang/IllegalArgumentException" "java/lang/Throwable" "stackTrace" "[Ljava/lang/StackTraceElement;" ∈ er_big := er_i9 (List.mem_of_getElem? (i := 5) rfl)
theorem k_150 : Cond.lays "java/lang/Throwable" "java/lang/Throwable" "stackTrace" "[Ljava/lang/StackTraceElement;" ∈ er_big := er_i9 (List.mem_of_getElem? (i := 6) rfl)
theorem k_151 : Cond.lays "java/lang/IllegalArgumentException" "java/lang/Throwable" "suppressedExceptions" "Ljava/util/List;" ∈ er_big := er_i9 (List.mem_of_getElem? (i := 7) rfl)
theorem k_152 : Cond.lays "java/lang/Throwable" "java/lang/Throwable" "suppressedExceptions" "Ljava/util/List;" ∈ er_big := er_i9 (List.mem_of_getElem? (i := 8) rfl)
theorem k_153 : Cond.lays "java/lang/IllegalArgumentException" "java/lang/Throwable" "detailMessage" "Ljava/lang/String;" ∈ er_big := er_i9 (List.mem_of_getElem? (i := 9) rfl)
theorem k_154 : Cond.lays "java/lang/Throwable" "java/lang/Throwable" "detailMessage" "Ljava/lang/String;" ∈ er_big := er_i9 (List.mem_of_getElem? (i := 10) rfl)
theorem k_155 : Cond.lays "java/lang/IllegalArgumentException" "java/lang/Throwable" "backtrace" "Ljava/lang/Object;" ∈ er_big := er_i9 (List.mem_of_getElem? (i := 11) rfl)
theorem k_156 : Cond.lays "java/lang/Throwable" "java/lang/Throwable" "backtrace" "Ljava/lang/Object;" ∈ er_big := er_i9 (List.mem_of_getElem? (i := 12) rfl)
theorem k_157 : Cond.fieldLink "java/lang/Throwable" 198 "java/lang/Throwable" "backtrace" "Ljava/lang/Object;" ∈ er_big := er_i9 (List.mem_of_getElem? (i := 13) rfl)
theorem k_158 : Cond.superclass "java/lang/Throwable" "java/lang/Object" ∈ er_big := er_i9 (List.mem_of_getElem? (i := 14) rfl)
theorem k_159 : Cond.instanceMethod ⟨"java/lang/Throwable", "<init>", "()V"⟩ ∈ er_big := er_i9 (List.mem_of_getElem? (i := 15) rfl)
theorem k_160 : Cond.code ⟨"java/lang/Throwable", "<init>", "()V"⟩ prog_11_method_1_code 1 none ∈ er_big := er_i10 (List.mem_of_getElem? (i := 0) rfl)
theorem k_161 : Cond.methodLink "java/lang/Throwable" 1 objectInit ∈ er_big := er_i10 (List.mem_of_getElem? (i := 1) rfl)
theorem k_162 : Cond.fieldLink "java/lang/Throwable" 13 "java/lang/Throwable" "UNASSIGNED_STACK" "[Ljava/lang/StackTraceElement;" ∈ er_big := er_i10 (List.mem_of_getElem? (i := 2) rfl)
theorem k_163 : Cond.fieldLink "java/lang/Throwable" 20 "java/lang/Throwable" "SUPPRESSED_SENTINEL" "Ljava/util/List;" ∈ er_big := er_i10 (List.mem_of_getElem? (i := 3) rfl)
theorem k_164 : Cond.methodLink "java/lang/Throwable" 27 ⟨"java/lang/Throwable", "fillInStackTrace", "()Ljava/lang/Throwable;"⟩ ∈ er_big := er_i10 (List.mem_of_getElem? (i := 4) rfl)
theorem k_165 : Cond.instanceMethod ⟨"java/lang/Throwable", "fillInStackTrace", "()Ljava/lang/Throwable;"⟩ ∈ er_big := er_i10 (List.mem_of_getElem? (i := 5) rfl)
theorem k_166 : Cond.sameMethod "java/lang/Throwable" "java/lang/Throwable" "fillInStackTrace" "()Ljava/lang/Throwable;" ∈ er_big := er_i10 (List.mem_of_getElem? (i := 6) rfl)
theorem k_167 : Cond.selects "java/lang/IllegalStateException" ⟨"java/lang/Throwable", "fillInStackTrace", "()Ljava/lang/Throwable;"⟩ ⟨"java/lang/Throwable", "fillInStackTrace", "()Ljava/lang/Throwable;"⟩ ∈ er_big := er_i10 (List.mem_of_getElem? (i := 7) rfl)
theorem k_168 : Cond.codeSync ⟨"java/lang/Throwable", "fillInStackTrace", "()Ljava/lang/Throwable;"⟩ prog_11_method_18_code 1 (some (.object "java/lang/Throwable")) ∈ er_big := er_i10 (List.mem_of_getElem? (i := 8) rfl)
theorem k_169 : Cond.methodLink "java/lang/Throwable" 202 ⟨"java/lang/Throwable", "fillInStackTrace", "(I)Ljava/lang/Throwable;"⟩ ∈ er_big := er_i10 (List.mem_of_getElem? (i := 9) rfl)
theorem k_170 : Cond.instanceMethod ⟨"java/lang/Throwable", "fillInStackTrace", "(I)Ljava/lang/Throwable;"⟩ ∈ er_big := er_i10 (List.mem_of_getElem? (i := 10) rfl)
theorem k_171 : Cond.instantiable "java/lang/Throwable" 6 ∈ er_big := er_i10 (List.mem_of_getElem? (i := 11) rfl)
theorem k_172 : Cond.native ⟨"java/lang/Throwable", "fillInStackTrace", "(I)Ljava/lang/Throwable;"⟩ ∈ er_big := er_i10 (List.mem_of_getElem? (i := 12) rfl)
theorem k_173 : Cond.methodLink R_E 60 ⟨"java/lang/IllegalArgumentException", "<init>", "(Ljava/lang/String;)V"⟩ ∈ er_big := er_i10 (List.mem_of_getElem? (i := 13) rfl)
theorem k_174 : Cond.instanceMethod ⟨"java/lang/IllegalArgumentException", "<init>", "(Ljava/lang/String;)V"⟩ ∈ er_big := er_i10 (List.mem_of_getElem? (i := 14) rfl)
theorem k_175 : Cond.code ⟨"java/lang/IllegalArgumentException", "<init>", "(Ljava/lang/String;)V"⟩ prog_6_method_2_code 2 none ∈ er_big := er_i10 (List.mem_of_getElem? (i := 15) rfl)
theorem k_176 : Cond.methodLink "java/lang/IllegalArgumentException" 7 ⟨"java/lang/RuntimeException", "<init>", "(Ljava/lang/String;)V"⟩ ∈ er_big := er_i11 (List.mem_of_getElem? (i := 0) rfl)
theorem k_177 : Cond.instanceMethod ⟨"java/lang/RuntimeException", "<init>", "(Ljava/lang/String;)V"⟩ ∈ er_big := er_i11 (List.mem_of_getElem? (i := 1) rfl)
theorem k_178 : Cond.code ⟨"java/lang/RuntimeException", "<init>", "(Ljava/lang/String;)V"⟩ prog_9_method_2_code 2 none ∈ er_big := er_i11 (List.mem_of_getElem? (i := 2) rfl)
theorem k_179 : Cond.methodLink "java/lang/RuntimeException" 7 ⟨"java/lang/Exception", "<init>", "(Ljava/lang/String;)V"⟩ ∈ er_big := er_i11 (List.mem_of_getElem? (i := 3) rfl)
theorem k_180 : Cond.instanceMethod ⟨"java/lang/Exception", "<init>", "(Ljava/lang/String;)V"⟩ ∈ er_big := er_i11 (List.mem_of_getElem? (i := 4) rfl)
theorem k_181 : Cond.code ⟨"java/lang/Exception", "<init>", "(Ljava/lang/String;)V"⟩ prog_5_method_2_code 2 none ∈ er_big := er_i11 (List.mem_of_getElem? (i := 5) rfl)
theorem k_182 : Cond.methodLink "java/lang/Exception" 7 ⟨"java/lang/Throwable", "<init>", "(Ljava/lang/String;)V"⟩ ∈ er_big := er_i11 (List.mem_of_getElem? (i := 6) rfl)
theorem k_183 : Cond.instanceMethod ⟨"java/lang/Throwable", "<init>", "(Ljava/lang/String;)V"⟩ ∈ er_big := er_i11 (List.mem_of_getElem? (i := 7) rfl)
theorem k_184 : Cond.code ⟨"java/lang/Throwable", "<init>", "(Ljava/lang/String;)V"⟩ prog_11_method_2_code 2 none ∈ er_big := er_i11 (List.mem_of_getElem? (i := 8) rfl)
theorem k_185 : Cond.fieldLink "java/lang/Throwable" 31 "java/lang/Throwable" "detailMessage" "Ljava/lang/String;" ∈ er_big := er_i11 (List.mem_of_getElem? (i := 9) rfl)
theorem k_186 : Cond.fieldLink "java/lang/Throwable" 7 "java/lang/Throwable" "cause" "Ljava/lang/Throwable;" ∈ er_big := er_i11 (List.mem_of_getElem? (i := 10) rfl)
theorem k_187 : Cond.fieldLink "java/lang/Throwable" 17 "java/lang/Throwable" "stackTrace" "[Ljava/lang/StackTraceElement;" ∈ er_big := er_i11 (List.mem_of_getElem? (i := 11) rfl)
theorem k_188 : Cond.fieldLink "java/lang/Throwable" 24 "java/lang/Throwable" "suppressedExceptions" "Ljava/util/List;" ∈ er_big := er_i11 (List.mem_of_getElem? (i := 12) rfl)
theorem k_189 : Cond.soleField "java/lang/Throwable" "backtrace" ∈ er_big := er_i11 (List.mem_of_getElem? (i := 13) rfl)
theorem k_190 : Cond.soleField "java/lang/Throwable" "detailMessage" ∈ er_big := er_i11 (List.mem_of_getElem? (i := 14) rfl)
theorem k_191 : Cond.soleField "java/lang/Throwable" "cause" ∈ er_big := er_i11 (List.mem_of_getElem? (i := 15) rfl)
theorem k_192 : Cond.soleField "java/lang/Throwable" "stackTrace" ∈ er_big := er_i12 (List.mem_of_getElem? (i := 0) rfl)
theorem k_193 : Cond.lays "java/lang/IllegalArgumentException" "java/lang/Throwable" "depth" "I" ∈ er_big := er_i12 (List.mem_of_getElem? (i := 1) rfl)
theorem k_194 : Cond.soleField "java/lang/Throwable" "depth" ∈ er_big := er_i12 (List.mem_of_getElem? (i := 2) rfl)
theorem k_195 : Cond.soleField "java/lang/Throwable" "suppressedExceptions" ∈ er_big := er_i12 (List.mem_of_getElem? (i := 3) rfl)
theorem k_196 : Cond.superclass "java/lang/IllegalArgumentException" "java/lang/RuntimeException" ∈ er_big := er_i12 (List.mem_of_getElem? (i := 4) rfl)
theorem k_197 : Cond.arrayClass .byte ∈ er_big := er_i12 (List.mem_of_getElem? (i := 5) rfl)
theorem k_198 : Cond.constant R_E 69 16777215 ∈ er_big := er_i12 (List.mem_of_getElem? (i := 6) rfl)
theorem k_199 : Cond.constant R_E 72 8388608 ∈ er_big := er_i12 (List.mem_of_getElem? (i := 7) rfl)
theorem k_200 : Cond.methodLink R_E 75 y_E_cornerOf ∈ er_big := er_i12 (List.mem_of_getElem? (i := 8) rfl)
theorem k_201 : Cond.instanceMethod y_E_cornerOf ∈ er_big := er_i12 (List.mem_of_getElem? (i := 9) rfl)
theorem k_202 : Cond.code y_E_cornerOf b_E_cornerOf 2 (some (.object "EdgeRaster$Corner")) ∈ er_big := er_i12 (List.mem_of_getElem? (i := 10) rfl)
theorem k_203 : Cond.methodLink R_E 91 y_E_layTriangle ∈ er_big := er_i12 (List.mem_of_getElem? (i := 11) rfl)
theorem k_204 : Cond.instanceMethod y_E_layTriangle ∈ er_big := er_i12 (List.mem_of_getElem? (i := 12) rfl)
theorem k_205 : Cond.code y_E_layTriangle b_E_layTriangle 1 none ∈ er_big := er_i12 (List.mem_of_getElem? (i := 13) rfl)
theorem k_206 : Cond.instanceMethod y_C_layEdge ∈ er_big := er_i12 (List.mem_of_getElem? (i := 14) rfl)
theorem k_207 : Cond.code y_C_layEdge b_C_layEdge 5 none ∈ er_big := er_i12 (List.mem_of_getElem? (i := 15) rfl)
theorem k_208 : Cond.methodLink R_E 94 y_E_endWalk ∈ er_big := er_i13 (List.mem_of_getElem? (i := 0) rfl)
theorem k_209 : Cond.instanceMethod y_E_endWalk ∈ er_big := er_i13 (List.mem_of_getElem? (i := 1) rfl)
theorem k_210 : Cond.code y_E_endWalk b_E_endWalk 1 none ∈ er_big := er_i13 (List.mem_of_getElem? (i := 2) rfl)
theorem k_211 : Cond.methodLink R_L 57 y_L_value ∈ er_big := er_i13 (List.mem_of_getElem? (i := 3) rfl)
theorem k_212 : Cond.static y_L_value ∈ er_big := er_i13 (List.mem_of_getElem? (i := 4) rfl)
theorem k_213 : Cond.codeWith y_L_value b_L_value 5 (some .int) [(0, 7, 10, 13)] ∈ er_big := er_i13 (List.mem_of_getElem? (i := 5) rfl)
theorem k_214 : Cond.methodLink R_L 15 y_E_value ∈ er_big := er_i13 (List.mem_of_getElem? (i := 6) rfl)
theorem k_215 : Cond.instanceMethod y_E_value ∈ er_big := er_i13 (List.mem_of_getElem? (i := 7) rfl)
theorem k_216 : Cond.selects R_E y_E_value y_E_value ∈ er_big := er_i13 (List.mem_of_getElem? (i := 8) rfl)
theorem k_217 : Cond.code y_E_value b_E_value 4 none ∈ er_big := er_i13 (List.mem_of_getElem? (i := 9) rfl)
theorem k_218 : Cond.methodLink R_E 97 y_E_isValue ∈ er_big := er_i13 (List.mem_of_getElem? (i := 10) rfl)
theorem k_219 : Cond.static y_E_isValue ∈ er_big := er_i13 (List.mem_of_getElem? (i := 11) rfl)
theorem k_220 : Cond.code y_E_isValue b_E_isValue 1 (some .boolean) ∈ er_big := er_i13 (List.mem_of_getElem? (i := 12) rfl)
theorem k_221 : Cond.methodLink R_L 61 y_L_window ∈ er_big := er_i13 (List.mem_of_getElem? (i := 13) rfl)
theorem k_222 : Cond.static y_L_window ∈ er_big := er_i13 (List.mem_of_getElem? (i := 14) rfl)
theorem k_223 : Cond.codeWith y_L_window b_L_window 6 (some .int) [(0, 9, 12, 13)] ∈ er_big := er_i13 (List.mem_of_getElem? (i := 15) rfl)
theorem k_224 : Cond.methodLink R_L 19 y_E_window ∈ er_big := er_i14 (List.mem_of_getElem? (i := 0) rfl)
theorem k_225 : Cond.instanceMethod y_E_window ∈ er_big := er_i14 (List.mem_of_getElem? (i := 1) rfl)
theorem k_226 : Cond.selects R_E y_E_window y_E_window ∈ er_big := er_i14 (List.mem_of_getElem? (i := 2) rfl)
theorem k_227 : Cond.code y_E_window b_E_window 5 none ∈ er_big := er_i14 (List.mem_of_getElem? (i := 3) rfl)
theorem k_228 : Cond.methodLink R_L 70 y_L_covers ∈ er_big := er_i14 (List.mem_of_getElem? (i := 4) rfl)
theorem k_229 : Cond.static y_L_covers ∈ er_big := er_i14 (List.mem_of_getElem? (i := 5) rfl)
theorem k_230 : Cond.codeWith y_L_covers b_L_covers 5 (some .int) [(0, 17, 20, 13)] ∈ er_big := er_i14 (List.mem_of_getElem? (i := 6) rfl)
theorem k_231 : Cond.methodLink R_L 23 y_E_covers ∈ er_big := er_i14 (List.mem_of_getElem? (i := 7) rfl)
theorem k_232 : Cond.instanceMethod y_E_covers ∈ er_big := er_i14 (List.mem_of_getElem? (i := 8) rfl)
theorem k_233 : Cond.selects R_E y_E_covers y_E_covers ∈ er_big := er_i14 (List.mem_of_getElem? (i := 9) rfl)
theorem k_234 : Cond.code y_E_covers b_E_covers 3 (some .boolean) ∈ er_big := er_i14 (List.mem_of_getElem? (i := 10) rfl)
theorem k_235 : Cond.methodLink R_L 82 y_L_next ∈ er_big := er_i14 (List.mem_of_getElem? (i := 11) rfl)
theorem k_236 : Cond.static y_L_next ∈ er_big := er_i14 (List.mem_of_getElem? (i := 12) rfl)
theorem k_237 : Cond.codeWith y_L_next b_L_next 3 (some .int) [(0, 8, 11, 31)] ∈ er_big := er_i14 (List.mem_of_getElem? (i := 13) rfl)
theorem k_238 : Cond.classLink R_L 31 "java/lang/IllegalStateException" ∈ er_big := er_i14 (List.mem_of_getElem? (i := 14) rfl)
theorem k_239 : Cond.methodLink R_L 27 y_E_next ∈ er_big := er_i14 (List.mem_of_getElem? (i := 15) rfl)
theorem k_240 : Cond.instanceMethod y_E_next ∈ er_big := er_i15 (List.mem_of_getElem? (i := 0) rfl)
theorem k_241 : Cond.selects R_E y_E_next y_E_next ∈ er_big := er_i15 (List.mem_of_getElem? (i := 1) rfl)
theorem k_242 : Cond.code y_E_next b_E_next 4 (some .int) ∈ er_big := er_i15 (List.mem_of_getElem? (i := 2) rfl)
theorem k_243 : Cond.classLink R_E 116 "java/lang/IllegalStateException" ∈ er_big := er_i15 (List.mem_of_getElem? (i := 3) rfl)
theorem k_244 : Cond.instantiable "java/lang/IllegalStateException" 6 ∈ er_big := er_i15 (List.mem_of_getElem? (i := 4) rfl)
theorem k_245 : Cond.selects "java/lang/IllegalStateException" ⟨"java/lang/Throwable", "fillInStackTrace", "(I)Ljava/lang/Throwable;"⟩ ⟨"java/lang/Throwable", "fillInStackTrace", "(I)Ljava/lang/Throwable;"⟩ ∈ er_big := er_i15 (List.mem_of_getElem? (i := 5) rfl)
theorem k_246 : Cond.lays "java/lang/IllegalStateException" "java/lang/Throwable" "cause" "Ljava/lang/Throwable;" ∈ er_big := er_i15 (List.mem_of_getElem? (i := 6) rfl)
theorem k_247 : Cond.lays "java/lang/IllegalStateException" "java/lang/Throwable" "stackTrace" "[Ljava/lang/StackTraceElement;" ∈ er_big := er_i15 (List.mem_of_getElem? (i := 7) rfl)
theorem k_248 : Cond.lays "java/lang/IllegalStateException" "java/lang/Throwable" "suppressedExceptions" "Ljava/util/List;" ∈ er_big := er_i15 (List.mem_of_getElem? (i := 8) rfl)
theorem k_249 : Cond.lays "java/lang/IllegalStateException" "java/lang/Throwable" "detailMessage" "Ljava/lang/String;" ∈ er_big := er_i15 (List.mem_of_getElem? (i := 9) rfl)
theorem k_250 : Cond.lays "java/lang/IllegalStateException" "java/lang/Throwable" "backtrace" "Ljava/lang/Object;" ∈ er_big := er_i15 (List.mem_of_getElem? (i := 10) rfl)
theorem k_251 : Cond.methodLink R_E 120 ⟨"java/lang/IllegalStateException", "<init>", "(Ljava/lang/String;)V"⟩ ∈ er_big := er_i15 (List.mem_of_getElem? (i := 11) rfl)
theorem k_252 : Cond.instanceMethod ⟨"java/lang/IllegalStateException", "<init>", "(Ljava/lang/String;)V"⟩ ∈ er_big := er_i15 (List.mem_of_getElem? (i := 12) rfl)
theorem k_253 : Cond.code ⟨"java/lang/IllegalStateException", "<init>", "(Ljava/lang/String;)V"⟩ prog_7_method_2_code 2 none ∈ er_big := er_i15 (List.mem_of_getElem? (i := 13) rfl)
theorem k_254 : Cond.methodLink "java/lang/IllegalStateException" 7 ⟨"java/lang/RuntimeException", "<init>", "(Ljava/lang/String;)V"⟩ ∈ er_big := er_i15 (List.mem_of_getElem? (i := 14) rfl)
theorem k_255 : Cond.lays "java/lang/IllegalStateException" "java/lang/Throwable" "depth" "I" ∈ er_big := er_i15 (List.mem_of_getElem? (i := 15) rfl)
theorem k_256 : Cond.superclass "java/lang/IllegalStateException" "java/lang/RuntimeException" ∈ er_big := er_i16 (List.mem_of_getElem? (i := 0) rfl)
theorem k_257 : Cond.methodLink R_E 121 y_E_firstCovered ∈ er_big := er_i16 (List.mem_of_getElem? (i := 1) rfl)
theorem k_258 : Cond.instanceMethod y_E_firstCovered ∈ er_big := er_i16 (List.mem_of_getElem? (i := 2) rfl)
theorem k_259 : Cond.code y_E_firstCovered b_E_firstCovered 4 (some .int) ∈ er_big := er_i16 (List.mem_of_getElem? (i := 3) rfl)
theorem k_260 : Cond.constant R_E 125 65536 ∈ er_big := er_i16 (List.mem_of_getElem? (i := 4) rfl)
theorem k_261 : Cond.methodLink R_L 86 y_L_weight ∈ er_big := er_i16 (List.mem_of_getElem? (i := 5) rfl)
theorem k_262 : Cond.static y_L_weight ∈ er_big := er_i16 (List.mem_of_getElem? (i := 6) rfl)
theorem k_263 : Cond.codeWith y_L_weight b_L_weight 4 (some .int) [(0, 8, 11, 13), (0, 8, 14, 31)] ∈ er_big := er_i16 (List.mem_of_getElem? (i := 7) rfl)
theorem k_264 : Cond.methodLink R_L 33 y_E_weight ∈ er_big := er_i16 (List.mem_of_getElem? (i := 8) rfl)
theorem k_265 : Cond.instanceMethod y_E_weight ∈ er_big := er_i16 (List.mem_of_getElem? (i := 9) rfl)
theorem k_266 : Cond.selects R_E y_E_weight y_E_weight ∈ er_big := er_i16 (List.mem_of_getElem? (i := 10) rfl)
theorem k_267 : Cond.code y_E_weight b_E_weight 2 (some .long) ∈ er_big := er_i16 (List.mem_of_getElem? (i := 11) rfl)
theorem k_268 : Cond.methodLink R_L 90 y_L_depth ∈ er_big := er_i16 (List.mem_of_getElem? (i := 12) rfl)
theorem k_269 : Cond.static y_L_depth ∈ er_big := er_i16 (List.mem_of_getElem? (i := 13) rfl)
theorem k_270 : Cond.codeWith y_L_depth b_L_depth 3 (some .int) [(0, 8, 11, 31)] ∈ er_big := er_i16 (List.mem_of_getElem? (i := 14) rfl)
theorem k_271 : Cond.methodLink R_L 37 y_E_depth ∈ er_big := er_i16 (List.mem_of_getElem? (i := 15) rfl)
theorem k_272 : Cond.instanceMethod y_E_depth ∈ er_big := er_i17 (List.mem_of_getElem? (i := 0) rfl)
theorem k_273 : Cond.selects R_E y_E_depth y_E_depth ∈ er_big := er_i17 (List.mem_of_getElem? (i := 1) rfl)
theorem k_274 : Cond.code y_E_depth b_E_depth 3 (some .int) ∈ er_big := er_i17 (List.mem_of_getElem? (i := 2) rfl)
theorem k_275 : Cond.methodLink R_E 132 ⟨"java/lang/Math", "abs", "(J)J"⟩ ∈ er_big := er_i17 (List.mem_of_getElem? (i := 3) rfl)
theorem k_276 : Cond.static ⟨"java/lang/Math", "abs", "(J)J"⟩ ∈ er_big := er_i17 (List.mem_of_getElem? (i := 4) rfl)
theorem k_277 : Cond.code ⟨"java/lang/Math", "abs", "(J)J"⟩ prog_8_method_61_code 2 (some .long) ∈ er_big := er_i17 (List.mem_of_getElem? (i := 5) rfl)
theorem k_278 : Cond.methodLink R_E 138 y_E_dividedDown ∈ er_big := er_i17 (List.mem_of_getElem? (i := 6) rfl)
theorem k_279 : Cond.static y_E_dividedDown ∈ er_big := er_i17 (List.mem_of_getElem? (i := 7) rfl)
theorem k_280 : Cond.code y_E_dividedDown b_E_dividedDown 4 (some .long) ∈ er_big := er_i17 (List.mem_of_getElem? (i := 8) rfl)
theorem k_281 : Cond.methodLink R_E 163 y_J_floorDiv ∈ er_big := er_i17 (List.mem_of_getElem? (i := 9) rfl)
theorem k_282 : Cond.static y_J_floorDiv ∈ er_big := er_i17 (List.mem_of_getElem? (i := 10) rfl)
theorem k_283 : Cond.code y_J_floorDiv b_J_floorDiv 6 (some .long) ∈ er_big := er_i17 (List.mem_of_getElem? (i := 11) rfl)
theorem k_284 : Cond.methodLink R_L 93 y_L_at ∈ er_big := er_i17 (List.mem_of_getElem? (i := 12) rfl)
theorem k_285 : Cond.static y_L_at ∈ er_big := er_i17 (List.mem_of_getElem? (i := 13) rfl)
theorem k_286 : Cond.codeWith y_L_at b_L_at 4 (some .int) [(0, 9, 12, 13), (0, 9, 15, 31)] ∈ er_big := er_i17 (List.mem_of_getElem? (i := 14) rfl)
theorem k_287 : Cond.methodLink R_L 40 y_E_at ∈ er_big := er_i17 (List.mem_of_getElem? (i := 15) rfl)
theorem k_288 : Cond.instanceMethod y_E_at ∈ er_big := er_i18 (List.mem_of_getElem? (i := 0) rfl)
theorem k_289 : Cond.selects R_E y_E_at y_E_at ∈ er_big := er_i18 (List.mem_of_getElem? (i := 1) rfl)
theorem k_290 : Cond.code y_E_at b_E_at 17 (some .int) ∈ er_big := er_i18 (List.mem_of_getElem? (i := 2) rfl)
theorem k_291 : Cond.instanceMethod y_C_nearWeightAt ∈ er_big := er_i18 (List.mem_of_getElem? (i := 3) rfl)
theorem k_292 : Cond.code y_C_nearWeightAt b_C_nearWeightAt 3 (some .long) ∈ er_big := er_i18 (List.mem_of_getElem? (i := 4) rfl)
theorem k_293 : Cond.methodLink R_E 147 ⟨"java/lang/Math", "max", "(JJ)J"⟩ ∈ er_big := er_i18 (List.mem_of_getElem? (i := 5) rfl)
theorem k_294 : Cond.static ⟨"java/lang/Math", "max", "(JJ)J"⟩ ∈ er_big := er_i18 (List.mem_of_getElem? (i := 6) rfl)
theorem k_295 : Cond.code ⟨"java/lang/Math", "max", "(JJ)J"⟩ prog_8_method_66_code 4 (some .long) ∈ er_big := er_i18 (List.mem_of_getElem? (i := 7) rfl)
theorem k_296 : Cond.methodLink R_E 150 y_E_shareShift ∈ er_big := er_i18 (List.mem_of_getElem? (i := 8) rfl)
theorem k_297 : Cond.static y_E_shareShift ∈ er_big := er_i18 (List.mem_of_getElem? (i := 9) rfl)
theorem k_298 : Cond.code y_E_shareShift b_E_shareShift 3 (some .int) ∈ er_big := er_i18 (List.mem_of_getElem? (i := 10) rfl)
theorem k_299 : Cond.constantLong R_E 161 536870912 ∈ er_big := er_i18 (List.mem_of_getElem? (i := 11) rfl)
theorem k_300 : Cond.classLink R_L 45 R_M ∈ er_big := er_i18 (List.mem_of_getElem? (i := 12) rfl)
theorem k_301 : Cond.instantiable R_M 15 ∈ er_big := er_i18 (List.mem_of_getElem? (i := 13) rfl)
theorem k_302 : Cond.methodLink R_L 47 y_M_init ∈ er_big := er_i18 (List.mem_of_getElem? (i := 14) rfl)
theorem k_303 : Cond.instanceMethod y_M_init ∈ er_big := er_i18 (List.mem_of_getElem? (i := 15) rfl)
theorem k_304 : Cond.code y_M_init b_M_init 2 none ∈ er_big := er_i19 (List.mem_of_getElem? (i := 0) rfl)
theorem k_305 : Cond.methodLink R_M 1 objectInit ∈ er_big := er_i19 (List.mem_of_getElem? (i := 1) rfl)
theorem k_306 : Cond.fieldLink R_M 32 "EdgeRasterModel" "thrown" "I" ∈ er_big := er_i19 (List.mem_of_getElem? (i := 2) rfl)
theorem k_307 : Cond.fieldLink R_M 7 "EdgeRasterModel" "cornerX" "[I" ∈ er_big := er_i19 (List.mem_of_getElem? (i := 3) rfl)
theorem k_308 : Cond.fieldLink R_M 13 "EdgeRasterModel" "cornerY" "[I" ∈ er_big := er_i19 (List.mem_of_getElem? (i := 4) rfl)
theorem k_309 : Cond.fieldLink R_M 16 "EdgeRasterModel" "depths" "[I" ∈ er_big := er_i19 (List.mem_of_getElem? (i := 5) rfl)
theorem k_310 : Cond.fieldLink R_M 19 "EdgeRasterModel" "nearness" "[I" ∈ er_big := er_i19 (List.mem_of_getElem? (i := 6) rfl)
theorem k_311 : Cond.fieldLink R_M 22 "EdgeRasterModel" "values" "[I" ∈ er_big := er_i19 (List.mem_of_getElem? (i := 7) rfl)
theorem k_312 : Cond.fieldLink R_M 49 "EdgeRasterModel" "left" "I" ∈ er_big := er_i19 (List.mem_of_getElem? (i := 8) rfl)
theorem k_313 : Cond.fieldLink R_M 52 "EdgeRasterModel" "top" "I" ∈ er_big := er_i19 (List.mem_of_getElem? (i := 9) rfl)
theorem k_314 : Cond.fieldLink R_M 25 "EdgeRasterModel" "wide" "I" ∈ er_big := er_i19 (List.mem_of_getElem? (i := 10) rfl)
theorem k_315 : Cond.fieldLink R_M 29 "EdgeRasterModel" "high" "I" ∈ er_big := er_i19 (List.mem_of_getElem? (i := 11) rfl)
theorem k_316 : Cond.fieldLink R_M 45 "EdgeRasterModel" "walks" "Z" ∈ er_big := er_i19 (List.mem_of_getElem? (i := 12) rfl)
theorem k_317 : Cond.fieldLink R_M 78 "EdgeRasterModel" "looked" "I" ∈ er_big := er_i19 (List.mem_of_getElem? (i := 13) rfl)
theorem k_318 : Cond.fieldLink R_M 81 "EdgeRasterModel" "came" "Z" ∈ er_big := er_i19 (List.mem_of_getElem? (i := 14) rfl)
theorem k_319 : Cond.fieldLink R_M 84 "EdgeRasterModel" "lastX" "I" ∈ er_big := er_i19 (List.mem_of_getElem? (i := 15) rfl)
theorem k_320 : Cond.fieldLink R_M 87 "EdgeRasterModel" "lastY" "I" ∈ er_big := er_i20 (List.mem_of_getElem? (i := 0) rfl)
theorem k_321 : Cond.lays R_M "EdgeRasterModel" "thrown" "I" ∈ er_big := er_i20 (List.mem_of_getElem? (i := 1) rfl)
theorem k_322 : Cond.soleField R_M "thrown" ∈ er_big := er_i20 (List.mem_of_getElem? (i := 2) rfl)
theorem k_323 : Cond.laysFinal R_M "EdgeRasterModel" "cornerX" "[I" ∈ er_big := er_i20 (List.mem_of_getElem? (i := 3) rfl)
theorem k_324 : Cond.soleField R_M "cornerX" ∈ er_big := er_i20 (List.mem_of_getElem? (i := 4) rfl)
theorem k_325 : Cond.laysFinal R_M "EdgeRasterModel" "cornerY" "[I" ∈ er_big := er_i20 (List.mem_of_getElem? (i := 5) rfl)
theorem k_326 : Cond.soleField R_M "cornerY" ∈ er_big := er_i20 (List.mem_of_getElem? (i := 6) rfl)
theorem k_327 : Cond.laysFinal R_M "EdgeRasterModel" "depths" "[I" ∈ er_big := er_i20 (List.mem_of_getElem? (i := 7) rfl)
theorem k_328 : Cond.soleField R_M "depths" ∈ er_big := er_i20 (List.mem_of_getElem? (i := 8) rfl)
theorem k_329 : Cond.laysFinal R_M "EdgeRasterModel" "nearness" "[I" ∈ er_big := er_i20 (List.mem_of_getElem? (i := 9) rfl)
theorem k_330 : Cond.soleField R_M "nearness" ∈ er_big := er_i20 (List.mem_of_getElem? (i := 10) rfl)
theorem k_331 : Cond.laysFinal R_M "EdgeRasterModel" "values" "[I" ∈ er_big := er_i20 (List.mem_of_getElem? (i := 11) rfl)
theorem k_332 : Cond.soleField R_M "values" ∈ er_big := er_i20 (List.mem_of_getElem? (i := 12) rfl)
theorem k_333 : Cond.lays R_M "EdgeRasterModel" "left" "I" ∈ er_big := er_i20 (List.mem_of_getElem? (i := 13) rfl)
theorem k_334 : Cond.soleField R_M "left" ∈ er_big := er_i20 (List.mem_of_getElem? (i := 14) rfl)
theorem k_335 : Cond.lays R_M "EdgeRasterModel" "top" "I" ∈ er_big := er_i20 (List.mem_of_getElem? (i := 15) rfl)
theorem k_336 : Cond.soleField R_M "top" ∈ er_big := er_i21 (List.mem_of_getElem? (i := 0) rfl)
theorem k_337 : Cond.lays R_M "EdgeRasterModel" "wide" "I" ∈ er_big := er_i21 (List.mem_of_getElem? (i := 1) rfl)
theorem k_338 : Cond.soleField R_M "wide" ∈ er_big := er_i21 (List.mem_of_getElem? (i := 2) rfl)
theorem k_339 : Cond.lays R_M "EdgeRasterModel" "high" "I" ∈ er_big := er_i21 (List.mem_of_getElem? (i := 3) rfl)
theorem k_340 : Cond.soleField R_M "high" ∈ er_big := er_i21 (List.mem_of_getElem? (i := 4) rfl)
theorem k_341 : Cond.lays R_M "EdgeRasterModel" "walks" "Z" ∈ er_big := er_i21 (List.mem_of_getElem? (i := 5) rfl)
theorem k_342 : Cond.soleField R_M "walks" ∈ er_big := er_i21 (List.mem_of_getElem? (i := 6) rfl)
theorem k_343 : Cond.lays R_M "EdgeRasterModel" "looked" "I" ∈ er_big := er_i21 (List.mem_of_getElem? (i := 7) rfl)
theorem k_344 : Cond.soleField R_M "looked" ∈ er_big := er_i21 (List.mem_of_getElem? (i := 8) rfl)
theorem k_345 : Cond.lays R_M "EdgeRasterModel" "came" "Z" ∈ er_big := er_i21 (List.mem_of_getElem? (i := 9) rfl)
theorem k_346 : Cond.soleField R_M "came" ∈ er_big := er_i21 (List.mem_of_getElem? (i := 10) rfl)
theorem k_347 : Cond.lays R_M "EdgeRasterModel" "lastX" "I" ∈ er_big := er_i21 (List.mem_of_getElem? (i := 11) rfl)
theorem k_348 : Cond.soleField R_M "lastX" ∈ er_big := er_i21 (List.mem_of_getElem? (i := 12) rfl)
theorem k_349 : Cond.lays R_M "EdgeRasterModel" "lastY" "I" ∈ er_big := er_i21 (List.mem_of_getElem? (i := 13) rfl)
theorem k_350 : Cond.soleField R_M "lastY" ∈ er_big := er_i21 (List.mem_of_getElem? (i := 14) rfl)
theorem k_351 : Cond.superclass R_M "java/lang/Object" ∈ er_big := er_i21 (List.mem_of_getElem? (i := 15) rfl)
theorem k_352 : Cond.methodLink R_L 54 y_M_thrown ∈ er_big := er_i22 (List.mem_of_getElem? (i := 0) rfl)
theorem k_353 : Cond.instanceMethod y_M_thrown ∈ er_big := er_i22 (List.mem_of_getElem? (i := 1) rfl)
theorem k_354 : Cond.selects R_M y_M_thrown y_M_thrown ∈ er_big := er_i22 (List.mem_of_getElem? (i := 2) rfl)
theorem k_355 : Cond.code y_M_thrown b_M_thrown 1 (some .int) ∈ er_big := er_i22 (List.mem_of_getElem? (i := 3) rfl)
theorem k_356 : Cond.methodLink R_L 53 y_M_corner ∈ er_big := er_i22 (List.mem_of_getElem? (i := 4) rfl)
theorem k_357 : Cond.instanceMethod y_M_corner ∈ er_big := er_i22 (List.mem_of_getElem? (i := 5) rfl)
theorem k_358 : Cond.selects R_M y_M_corner y_M_corner ∈ er_big := er_i22 (List.mem_of_getElem? (i := 6) rfl)
theorem k_359 : Cond.code y_M_corner b_M_corner 7 none ∈ er_big := er_i22 (List.mem_of_getElem? (i := 7) rfl)
theorem k_360 : Cond.methodLink R_M 35 y_M_in_ ∈ er_big := er_i22 (List.mem_of_getElem? (i := 8) rfl)
theorem k_361 : Cond.static y_M_in_ ∈ er_big := er_i22 (List.mem_of_getElem? (i := 9) rfl)
theorem k_362 : Cond.code y_M_in_ b_M_in_ 3 (some .boolean) ∈ er_big := er_i22 (List.mem_of_getElem? (i := 10) rfl)
theorem k_363 : Cond.constant R_M 39 16777215 ∈ er_big := er_i22 (List.mem_of_getElem? (i := 11) rfl)
theorem k_364 : Cond.constant R_M 40 8388608 ∈ er_big := er_i22 (List.mem_of_getElem? (i := 12) rfl)
theorem k_365 : Cond.methodLink R_M 41 y_M_refuse ∈ er_big := er_i22 (List.mem_of_getElem? (i := 13) rfl)
theorem k_366 : Cond.instanceMethod y_M_refuse ∈ er_big := er_i22 (List.mem_of_getElem? (i := 14) rfl)
theorem k_367 : Cond.code y_M_refuse b_M_refuse 3 (some .boolean) ∈ er_big := er_i22 (List.mem_of_getElem? (i := 15) rfl)
theorem k_368 : Cond.methodLink R_L 60 y_M_value ∈ er_big := er_i23 (List.mem_of_getElem? (i := 0) rfl)
theorem k_369 : Cond.instanceMethod y_M_value ∈ er_big := er_i23 (List.mem_of_getElem? (i := 1) rfl)
theorem k_370 : Cond.selects R_M y_M_value y_M_value ∈ er_big := er_i23 (List.mem_of_getElem? (i := 2) rfl)
theorem k_371 : Cond.code y_M_value b_M_value 4 none ∈ er_big := er_i23 (List.mem_of_getElem? (i := 3) rfl)
theorem k_372 : Cond.methodLink R_L 64 y_M_window ∈ er_big := er_i23 (List.mem_of_getElem? (i := 4) rfl)
theorem k_373 : Cond.instanceMethod y_M_window ∈ er_big := er_i23 (List.mem_of_getElem? (i := 5) rfl)
theorem k_374 : Cond.selects R_M y_M_window y_M_window ∈ er_big := er_i23 (List.mem_of_getElem? (i := 6) rfl)
theorem k_375 : Cond.code y_M_window b_M_window 5 none ∈ er_big := er_i23 (List.mem_of_getElem? (i := 7) rfl)
theorem k_376 : Cond.methodLink R_L 69 y_M_area ∈ er_big := er_i23 (List.mem_of_getElem? (i := 8) rfl)
theorem k_377 : Cond.instanceMethod y_M_area ∈ er_big := er_i23 (List.mem_of_getElem? (i := 9) rfl)
theorem k_378 : Cond.selects R_M y_M_area y_M_area ∈ er_big := er_i23 (List.mem_of_getElem? (i := 10) rfl)
theorem k_379 : Cond.code y_M_area b_M_area 1 (some .long) ∈ er_big := er_i23 (List.mem_of_getElem? (i := 11) rfl)
theorem k_380 : Cond.methodLink R_M 59 y_M_whole ∈ er_big := er_i23 (List.mem_of_getElem? (i := 12) rfl)
theorem k_381 : Cond.instanceMethod y_M_whole ∈ er_big := er_i23 (List.mem_of_getElem? (i := 13) rfl)
theorem k_382 : Cond.code y_M_whole b_M_whole 1 (some .long) ∈ er_big := er_i23 (List.mem_of_getElem? (i := 14) rfl)
theorem k_383 : Cond.methodLink R_M 55 y_M_room ∈ er_big := er_i23 (List.mem_of_getElem? (i := 15) rfl)
theorem k_384 : Cond.instanceMethod y_M_room ∈ er_big := er_i24 (List.mem_of_getElem? (i := 0) rfl)
theorem k_385 : Cond.code y_M_room b_M_room 9 (some .long) ∈ er_big := er_i24 (List.mem_of_getElem? (i := 1) rfl)
theorem k_386 : Cond.methodLink R_L 73 y_M_covers ∈ er_big := er_i24 (List.mem_of_getElem? (i := 2) rfl)
theorem k_387 : Cond.instanceMethod y_M_covers ∈ er_big := er_i24 (List.mem_of_getElem? (i := 3) rfl)
theorem k_388 : Cond.selects R_M y_M_covers y_M_covers ∈ er_big := er_i24 (List.mem_of_getElem? (i := 4) rfl)
theorem k_389 : Cond.code y_M_covers b_M_covers 3 (some .boolean) ∈ er_big := er_i24 (List.mem_of_getElem? (i := 5) rfl)
theorem k_390 : Cond.methodLink R_M 74 y_M_isCovered ∈ er_big := er_i24 (List.mem_of_getElem? (i := 6) rfl)
theorem k_391 : Cond.instanceMethod y_M_isCovered ∈ er_big := er_i24 (List.mem_of_getElem? (i := 7) rfl)
theorem k_392 : Cond.code y_M_isCovered b_M_isCovered 10 (some .boolean) ∈ er_big := er_i24 (List.mem_of_getElem? (i := 8) rfl)
theorem k_393 : Cond.methodLink R_M 70 y_M_weightOf ∈ er_big := er_i24 (List.mem_of_getElem? (i := 9) rfl)
theorem k_394 : Cond.instanceMethod y_M_weightOf ∈ er_big := er_i24 (List.mem_of_getElem? (i := 10) rfl)
theorem k_395 : Cond.code y_M_weightOf b_M_weightOf 4 (some .long) ∈ er_big := er_i24 (List.mem_of_getElem? (i := 11) rfl)
theorem k_396 : Cond.methodLink R_M 63 y_M_from ∈ er_big := er_i24 (List.mem_of_getElem? (i := 12) rfl)
theorem k_397 : Cond.instanceMethod y_M_from ∈ er_big := er_i24 (List.mem_of_getElem? (i := 13) rfl)
theorem k_398 : Cond.code y_M_from b_M_from 2 (some .int) ∈ er_big := er_i24 (List.mem_of_getElem? (i := 14) rfl)
theorem k_399 : Cond.methodLink R_M 67 y_M_to ∈ er_big := er_i24 (List.mem_of_getElem? (i := 15) rfl)
theorem k_400 : Cond.instanceMethod y_M_to ∈ er_big := er_i25 (List.mem_of_getElem? (i := 0) rfl)
theorem k_401 : Cond.code y_M_to b_M_to 2 (some .int) ∈ er_big := er_i25 (List.mem_of_getElem? (i := 1) rfl)
theorem k_402 : Cond.methodLink R_L 77 y_M_many ∈ er_big := er_i25 (List.mem_of_getElem? (i := 2) rfl)
theorem k_403 : Cond.instanceMethod y_M_many ∈ er_big := er_i25 (List.mem_of_getElem? (i := 3) rfl)
theorem k_404 : Cond.selects R_M y_M_many y_M_many ∈ er_big := er_i25 (List.mem_of_getElem? (i := 4) rfl)
theorem k_405 : Cond.code y_M_many b_M_many 3 (some .int) ∈ er_big := er_i25 (List.mem_of_getElem? (i := 5) rfl)
theorem k_406 : Cond.methodLink R_L 81 y_M_walk ∈ er_big := er_i25 (List.mem_of_getElem? (i := 6) rfl)
theorem k_407 : Cond.instanceMethod y_M_walk ∈ er_big := er_i25 (List.mem_of_getElem? (i := 7) rfl)
theorem k_408 : Cond.selects R_M y_M_walk y_M_walk ∈ er_big := er_i25 (List.mem_of_getElem? (i := 8) rfl)
theorem k_409 : Cond.code y_M_walk b_M_walk 1 none ∈ er_big := er_i25 (List.mem_of_getElem? (i := 9) rfl)
theorem k_410 : Cond.methodLink R_L 85 y_M_next ∈ er_big := er_i25 (List.mem_of_getElem? (i := 10) rfl)
theorem k_411 : Cond.instanceMethod y_M_next ∈ er_big := er_i25 (List.mem_of_getElem? (i := 11) rfl)
theorem k_412 : Cond.selects R_M y_M_next y_M_next ∈ er_big := er_i25 (List.mem_of_getElem? (i := 12) rfl)
theorem k_413 : Cond.code y_M_next b_M_next 1 (some .int) ∈ er_big := er_i25 (List.mem_of_getElem? (i := 13) rfl)
theorem k_414 : Cond.constant R_M 90 65536 ∈ er_big := er_i25 (List.mem_of_getElem? (i := 14) rfl)
theorem k_415 : Cond.methodLink R_L 89 y_M_weight ∈ er_big := er_i25 (List.mem_of_getElem? (i := 15) rfl)
theorem k_416 : Cond.instanceMethod y_M_weight ∈ er_big := er_i26 (List.mem_of_getElem? (i := 0) rfl)
theorem k_417 : Cond.selects R_M y_M_weight y_M_weight ∈ er_big := er_i26 (List.mem_of_getElem? (i := 1) rfl)
theorem k_418 : Cond.code y_M_weight b_M_weight 2 (some .long) ∈ er_big := er_i26 (List.mem_of_getElem? (i := 2) rfl)
theorem k_419 : Cond.methodLink R_L 92 y_M_depth ∈ er_big := er_i26 (List.mem_of_getElem? (i := 3) rfl)
theorem k_420 : Cond.instanceMethod y_M_depth ∈ er_big := er_i26 (List.mem_of_getElem? (i := 4) rfl)
theorem k_421 : Cond.selects R_M y_M_depth y_M_depth ∈ er_big := er_i26 (List.mem_of_getElem? (i := 5) rfl)
theorem k_422 : Cond.code y_M_depth b_M_depth 5 (some .int) ∈ er_big := er_i26 (List.mem_of_getElem? (i := 6) rfl)
theorem k_423 : Cond.methodLink R_M 91 y_M_down ∈ er_big := er_i26 (List.mem_of_getElem? (i := 7) rfl)
theorem k_424 : Cond.static y_M_down ∈ er_big := er_i26 (List.mem_of_getElem? (i := 8) rfl)
theorem k_425 : Cond.code y_M_down b_M_down 4 (some .long) ∈ er_big := er_i26 (List.mem_of_getElem? (i := 9) rfl)
theorem k_426 : Cond.methodLink R_L 95 y_M_at ∈ er_big := er_i26 (List.mem_of_getElem? (i := 10) rfl)
theorem k_427 : Cond.instanceMethod y_M_at ∈ er_big := er_i26 (List.mem_of_getElem? (i := 11) rfl)
theorem k_428 : Cond.selects R_M y_M_at y_M_at ∈ er_big := er_i26 (List.mem_of_getElem? (i := 12) rfl)
theorem k_429 : Cond.code y_M_at b_M_at 10 (some .int) ∈ er_big := er_i26 (List.mem_of_getElem? (i := 13) rfl)
theorem k_430 : Cond.constantLong R_M 95 536870912 ∈ er_big := er_i26 (List.mem_of_getElem? (i := 14) rfl)
theorem k_431 : Cond.arrayClass .long ∈ er_big := er_i26 (List.mem_of_getElem? (i := 15) rfl)
theorem k_432 : Cond.sameMethod "java/lang/Throwable" "java/lang/Throwable" "fillInStackTrace" "(I)Ljava/lang/Throwable;" ∈ er_big := er_i27 (List.mem_of_getElem? (i := 0) rfl)
theorem kn_0 : Cond.methodLinkNest R_E 9 y_C_init "EdgeRaster" ∈ er_nest := List.mem_of_getElem? (i := 0) rfl
theorem kn_1 : Cond.fieldLinkNest R_E 79 "EdgeRaster$Corner" "x" "I" "EdgeRaster" ∈ er_nest := List.mem_of_getElem? (i := 1) rfl
theorem kn_2 : Cond.fieldLinkNest R_E 82 "EdgeRaster$Corner" "y" "I" "EdgeRaster" ∈ er_nest := List.mem_of_getElem? (i := 2) rfl
theorem kn_3 : Cond.fieldLinkNest R_E 85 "EdgeRaster$Corner" "deep" "I" "EdgeRaster" ∈ er_nest := List.mem_of_getElem? (i := 3) rfl
theorem kn_4 : Cond.fieldLinkNest R_E 88 "EdgeRaster$Corner" "nearness" "I" "EdgeRaster" ∈ er_nest := List.mem_of_getElem? (i := 4) rfl
theorem kn_5 : Cond.fieldLinkNest R_E 102 "EdgeRaster$Corner" "values" "[I" "EdgeRaster" ∈ er_nest := List.mem_of_getElem? (i := 5) rfl
theorem kn_6 : Cond.methodLinkNest R_E 158 y_C_admits "EdgeRaster" ∈ er_nest := List.mem_of_getElem? (i := 6) rfl
theorem kn_7 : Cond.methodLinkNest R_E 154 y_C_layEdge "EdgeRaster" ∈ er_nest := List.mem_of_getElem? (i := 7) rfl
theorem kn_8 : Cond.methodLinkNest R_E 128 y_C_weightAt "EdgeRaster" ∈ er_nest := List.mem_of_getElem? (i := 8) rfl
theorem kn_9 : Cond.methodLinkNest R_E 144 y_C_nearWeightAt "EdgeRaster" ∈ er_nest := List.mem_of_getElem? (i := 9) rfl
theorem i_C : ∀ w ∈ u_ws R_C F_C 10, w ∈ er_big := by decide +kernel
theorem i_E : ∀ w ∈ u_ws R_E F_E 12, w ∈ er_big := by decide +kernel
theorem i_M : ∀ w ∈ u_ws R_M F_M 15, w ∈ er_big := by decide +kernel
set_option maxRecDepth 100000 in
theorem er_all : GoodIn lw_tbl er_big := goodIn_p er_big [31, 34, 39, 118, 122, 126, 130, 134, 138, 146, 149, 152, 177, 196, 199, 202, 205, 228, 232, 236, 240, 247, 250, 258, 267, 276, 289, 296, 304, 313, 316, 319, 322, 329, 334, 337, 340, 346, 397, 401, 404, 410, 414, 418, 422, 426, 430, 434, 438, 442, 446, 450, 454, 458, 462, 467, 471, 474, 478] rfl (by decide +kernel)
theorem er_nest_in : ∀ w ∈ er_nest, w ∈ lw_tbl := by decide +kernel
end
section
theorem d_C_init_0 : decode b_C_init 0 = .ok (.aload_n 0, 1) := by decide +kernel
theorem d_C_init_1 : decode b_C_init 1 = .ok (.invokespecial 3, 3) := by decide +kernel
theorem d_C_init_4 : decode b_C_init 4 = .ok (.aload_n 0, 1) := by decide +kernel
theorem d_C_init_5 : decode b_C_init 5 = .ok (.iconst 0, 1) := by decide +kernel
theorem d_C_init_6 : decode b_C_init 6 = .ok (.putfield 9, 3) := by decide +kernel
theorem d_C_init_9 : decode b_C_init 9 = .ok (.aload_n 0, 1) := by decide +kernel
theorem d_C_init_10 : decode b_C_init 10 = .ok (.iconst 0, 1) := by decide +kernel
theorem d_C_init_11 : decode b_C_init 11 = .ok (.putfield 15, 3) := by decide +kernel
theorem d_C_init_14 : decode b_C_init 14 = .ok (.aload_n 0, 1) := by decide +kernel
theorem d_C_init_15 : decode b_C_init 15 = .ok (.iconst 0, 1) := by decide +kernel
theorem d_C_init_16 : decode b_C_init 16 = .ok (.putfield 18, 3) := by decide +kernel
theorem d_C_init_19 : decode b_C_init 19 = .ok (.aload_n 0, 1) := by decide +kernel
theorem d_C_init_20 : decode b_C_init 20 = .ok (.iconst 1, 1) := by decide +kernel
theorem d_C_init_21 : decode b_C_init 21 = .ok (.putfield 21, 3) := by decide +kernel
theorem d_C_init_24 : decode b_C_init 24 = .ok (.aload_n 0, 1) := by decide +kernel
theorem d_C_init_25 : decode b_C_init 25 = .ok (.bipush 28, 2) := by decide +kernel
theorem d_C_init_27 : decode b_C_init 27 = .ok (.newarray .int, 2) := by decide +kernel
theorem d_C_init_29 : decode b_C_init 29 = .ok (.putfield 24, 3) := by decide +kernel
theorem d_C_init_32 : decode b_C_init 32 = .ok (.aload_n 0, 1) := by decide +kernel
theorem d_C_init_33 : decode b_C_init 33 = .ok (.iconst 0, 1) := by decide +kernel
theorem d_C_init_34 : decode b_C_init 34 = .ok (.putfield 28, 3) := by decide +kernel
theorem d_C_init_37 : decode b_C_init 37 = .ok (.aload_n 0, 1) := by decide +kernel
theorem d_C_init_38 : decode b_C_init 38 = .ok (.iconst 0, 1) := by decide +kernel
theorem d_C_init_39 : decode b_C_init 39 = .ok (.putfield 31, 3) := by decide +kernel
theorem d_C_init_42 : decode b_C_init 42 = .ok (.aload_n 0, 1) := by decide +kernel
theorem d_C_init_43 : decode b_C_init 43 = .ok (.iconst 0, 1) := by decide +kernel
theorem d_C_init_44 : decode b_C_init 44 = .ok (.putfield 34, 3) := by decide +kernel
theorem d_C_init_47 : decode b_C_init 47 = .ok (.aload_n 0, 1) := by decide +kernel
theorem d_C_init_48 : decode b_C_init 48 = .ok (.iconst 0, 1) := by decide +kernel
theorem d_C_init_49 : decode b_C_init 49 = .ok (.putfield 37, 3) := by decide +kernel
theorem d_C_init_52 : decode b_C_init 52 = .ok (.aload_n 0, 1) := by decide +kernel
theorem d_C_init_53 : decode b_C_init 53 = .ok (.iconst 1, 1) := by decide +kernel
theorem d_C_init_54 : decode b_C_init 54 = .ok (.putfield 40, 3) := by decide +kernel
theorem d_C_init_57 : decode b_C_init 57 = .ok (.return_, 1) := by decide +kernel
theorem d_C_layEdge_0 : decode b_C_layEdge 0 = .ok (.aload_n 0, 1) := by decide +kernel
theorem d_C_layEdge_1 : decode b_C_layEdge 1 = .ok (.aload_n 1, 1) := by decide +kernel
theorem d_C_layEdge_2 : decode b_C_layEdge 2 = .ok (.getfield 9, 3) := by decide +kernel
theorem d_C_layEdge_5 : decode b_C_layEdge 5 = .ok (.putfield 28, 3) := by decide +kernel
theorem d_C_layEdge_8 : decode b_C_layEdge 8 = .ok (.aload_n 0, 1) := by decide +kernel
theorem d_C_layEdge_9 : decode b_C_layEdge 9 = .ok (.aload_n 1, 1) := by decide +kernel
theorem d_C_layEdge_10 : decode b_C_layEdge 10 = .ok (.getfield 15, 3) := by decide +kernel
theorem d_C_layEdge_13 : decode b_C_layEdge 13 = .ok (.putfield 31, 3) := by decide +kernel
theorem d_C_layEdge_16 : decode b_C_layEdge 16 = .ok (.aload_n 0, 1) := by decide +kernel
theorem d_C_layEdge_17 : decode b_C_layEdge 17 = .ok (.aload_n 2, 1) := by decide +kernel
theorem d_C_layEdge_18 : decode b_C_layEdge 18 = .ok (.getfield 9, 3) := by decide +kernel
theorem d_C_layEdge_21 : decode b_C_layEdge 21 = .ok (.aload_n 1, 1) := by decide +kernel
theorem d_C_layEdge_22 : decode b_C_layEdge 22 = .ok (.getfield 9, 3) := by decide +kernel
theorem d_C_layEdge_25 : decode b_C_layEdge 25 = .ok (.isub, 1) := by decide +kernel
theorem d_C_layEdge_26 : decode b_C_layEdge 26 = .ok (.putfield 34, 3) := by decide +kernel
theorem d_C_layEdge_29 : decode b_C_layEdge 29 = .ok (.aload_n 0, 1) := by decide +kernel
theorem d_C_layEdge_30 : decode b_C_layEdge 30 = .ok (.aload_n 2, 1) := by decide +kernel
theorem d_C_layEdge_31 : decode b_C_layEdge 31 = .ok (.getfield 15, 3) := by decide +kernel
theorem d_C_layEdge_34 : decode b_C_layEdge 34 = .ok (.aload_n 1, 1) := by decide +kernel
theorem d_C_layEdge_35 : decode b_C_layEdge 35 = .ok (.getfield 15, 3) := by decide +kernel
theorem d_C_layEdge_38 : decode b_C_layEdge 38 = .ok (.isub, 1) := by decide +kernel
theorem d_C_layEdge_39 : decode b_C_layEdge 39 = .ok (.putfield 37, 3) := by decide +kernel
theorem d_C_layEdge_42 : decode b_C_layEdge 42 = .ok (.aload_n 0, 1) := by decide +kernel
theorem d_C_layEdge_43 : decode b_C_layEdge 43 = .ok (.getfield 37, 3) := by decide +kernel
theorem d_C_layEdge_46 : decode b_C_layEdge 46 = .ok (.ifCond .ne 14, 3) := by decide +kernel
theorem d_C_layEdge_49 : decode b_C_layEdge 49 = .ok (.aload_n 0, 1) := by decide +kernel
theorem d_C_layEdge_50 : decode b_C_layEdge 50 = .ok (.getfield 34, 3) := by decide +kernel
theorem d_C_layEdge_53 : decode b_C_layEdge 53 = .ok (.ifCond .le 7, 3) := by decide +kernel
theorem d_C_layEdge_56 : decode b_C_layEdge 56 = .ok (.iconst 1, 1) := by decide +kernel
theorem d_C_layEdge_57 : decode b_C_layEdge 57 = .ok (.goto 4, 3) := by decide +kernel
theorem d_C_layEdge_60 : decode b_C_layEdge 60 = .ok (.iconst 0, 1) := by decide +kernel
theorem d_C_layEdge_61 : decode b_C_layEdge 61 = .ok (.istore_n 3, 1) := by decide +kernel
theorem d_C_layEdge_62 : decode b_C_layEdge 62 = .ok (.aload_n 0, 1) := by decide +kernel
theorem d_C_layEdge_63 : decode b_C_layEdge 63 = .ok (.getfield 37, 3) := by decide +kernel
theorem d_C_layEdge_66 : decode b_C_layEdge 66 = .ok (.ifCond .ge 7, 3) := by decide +kernel
theorem d_C_layEdge_69 : decode b_C_layEdge 69 = .ok (.iconst 1, 1) := by decide +kernel
theorem d_C_layEdge_70 : decode b_C_layEdge 70 = .ok (.goto 4, 3) := by decide +kernel
theorem d_C_layEdge_73 : decode b_C_layEdge 73 = .ok (.iconst 0, 1) := by decide +kernel
theorem d_C_layEdge_74 : decode b_C_layEdge 74 = .ok (.istore 4, 2) := by decide +kernel
theorem d_C_layEdge_76 : decode b_C_layEdge 76 = .ok (.aload_n 0, 1) := by decide +kernel
theorem d_C_layEdge_77 : decode b_C_layEdge 77 = .ok (.iload_n 3, 1) := by decide +kernel
theorem d_C_layEdge_78 : decode b_C_layEdge 78 = .ok (.ifCond .ne 8, 3) := by decide +kernel
theorem d_C_layEdge_81 : decode b_C_layEdge 81 = .ok (.iload 4, 2) := by decide +kernel
theorem d_C_layEdge_83 : decode b_C_layEdge 83 = .ok (.ifCond .eq 7, 3) := by decide +kernel
theorem d_C_layEdge_86 : decode b_C_layEdge 86 = .ok (.iconst 0, 1) := by decide +kernel
theorem d_C_layEdge_87 : decode b_C_layEdge 87 = .ok (.goto 4, 3) := by decide +kernel
theorem d_C_layEdge_90 : decode b_C_layEdge 90 = .ok (.iconst 1, 1) := by decide +kernel
theorem d_C_layEdge_91 : decode b_C_layEdge 91 = .ok (.putfield 40, 3) := by decide +kernel
theorem d_C_layEdge_94 : decode b_C_layEdge 94 = .ok (.return_, 1) := by decide +kernel
theorem d_C_weightAt_0 : decode b_C_weightAt 0 = .ok (.bipush 16, 2) := by decide +kernel
theorem d_C_weightAt_2 : decode b_C_weightAt 2 = .ok (.iload_n 1, 1) := by decide +kernel
theorem d_C_weightAt_3 : decode b_C_weightAt 3 = .ok (.imul, 1) := by decide +kernel
theorem d_C_weightAt_4 : decode b_C_weightAt 4 = .ok (.bipush 8, 2) := by decide +kernel
theorem d_C_weightAt_6 : decode b_C_weightAt 6 = .ok (.iadd, 1) := by decide +kernel
theorem d_C_weightAt_7 : decode b_C_weightAt 7 = .ok (.istore_n 3, 1) := by decide +kernel
theorem d_C_weightAt_8 : decode b_C_weightAt 8 = .ok (.bipush 16, 2) := by decide +kernel
theorem d_C_weightAt_10 : decode b_C_weightAt 10 = .ok (.iload_n 2, 1) := by decide +kernel
theorem d_C_weightAt_11 : decode b_C_weightAt 11 = .ok (.imul, 1) := by decide +kernel
theorem d_C_weightAt_12 : decode b_C_weightAt 12 = .ok (.bipush 8, 2) := by decide +kernel
theorem d_C_weightAt_14 : decode b_C_weightAt 14 = .ok (.iadd, 1) := by decide +kernel
theorem d_C_weightAt_15 : decode b_C_weightAt 15 = .ok (.istore 4, 2) := by decide +kernel
theorem d_C_weightAt_17 : decode b_C_weightAt 17 = .ok (.aload_n 0, 1) := by decide +kernel
theorem d_C_weightAt_18 : decode b_C_weightAt 18 = .ok (.getfield 34, 3) := by decide +kernel
theorem d_C_weightAt_21 : decode b_C_weightAt 21 = .ok (.i2l, 1) := by decide +kernel
theorem d_C_weightAt_22 : decode b_C_weightAt 22 = .ok (.iload 4, 2) := by decide +kernel
theorem d_C_weightAt_24 : decode b_C_weightAt 24 = .ok (.aload_n 0, 1) := by decide +kernel
theorem d_C_weightAt_25 : decode b_C_weightAt 25 = .ok (.getfield 31, 3) := by decide +kernel
theorem d_C_weightAt_28 : decode b_C_weightAt 28 = .ok (.isub, 1) := by decide +kernel
theorem d_C_weightAt_29 : decode b_C_weightAt 29 = .ok (.i2l, 1) := by decide +kernel
theorem d_C_weightAt_30 : decode b_C_weightAt 30 = .ok (.lmul, 1) := by decide +kernel
theorem d_C_weightAt_31 : decode b_C_weightAt 31 = .ok (.aload_n 0, 1) := by decide +kernel
theorem d_C_weightAt_32 : decode b_C_weightAt 32 = .ok (.getfield 37, 3) := by decide +kernel
theorem d_C_weightAt_35 : decode b_C_weightAt 35 = .ok (.i2l, 1) := by decide +kernel
theorem d_C_weightAt_36 : decode b_C_weightAt 36 = .ok (.iload_n 3, 1) := by decide +kernel
theorem d_C_weightAt_37 : decode b_C_weightAt 37 = .ok (.aload_n 0, 1) := by decide +kernel
theorem d_C_weightAt_38 : decode b_C_weightAt 38 = .ok (.getfield 28, 3) := by decide +kernel
theorem d_C_weightAt_41 : decode b_C_weightAt 41 = .ok (.isub, 1) := by decide +kernel
theorem d_C_weightAt_42 : decode b_C_weightAt 42 = .ok (.i2l, 1) := by decide +kernel
theorem d_C_weightAt_43 : decode b_C_weightAt 43 = .ok (.lmul, 1) := by decide +kernel
theorem d_C_weightAt_44 : decode b_C_weightAt 44 = .ok (.lsub, 1) := by decide +kernel
theorem d_C_weightAt_45 : decode b_C_weightAt 45 = .ok (.lreturn, 1) := by decide +kernel
theorem d_C_nearWeightAt_0 : decode b_C_nearWeightAt 0 = .ok (.aload_n 0, 1) := by decide +kernel
theorem d_C_nearWeightAt_1 : decode b_C_nearWeightAt 1 = .ok (.iload_n 1, 1) := by decide +kernel
theorem d_C_nearWeightAt_2 : decode b_C_nearWeightAt 2 = .ok (.iload_n 2, 1) := by decide +kernel
theorem d_C_nearWeightAt_3 : decode b_C_nearWeightAt 3 = .ok (.invokevirtual 43, 3) := by decide +kernel
theorem d_C_nearWeightAt_6 : decode b_C_nearWeightAt 6 = .ok (.aload_n 0, 1) := by decide +kernel
theorem d_C_nearWeightAt_7 : decode b_C_nearWeightAt 7 = .ok (.getfield 21, 3) := by decide +kernel
theorem d_C_nearWeightAt_10 : decode b_C_nearWeightAt 10 = .ok (.i2l, 1) := by decide +kernel
theorem d_C_nearWeightAt_11 : decode b_C_nearWeightAt 11 = .ok (.lmul, 1) := by decide +kernel
theorem d_C_nearWeightAt_12 : decode b_C_nearWeightAt 12 = .ok (.lreturn, 1) := by decide +kernel
theorem d_C_admits_0 : decode b_C_admits 0 = .ok (.aload_n 0, 1) := by decide +kernel
theorem d_C_admits_1 : decode b_C_admits 1 = .ok (.iload_n 1, 1) := by decide +kernel
theorem d_C_admits_2 : decode b_C_admits 2 = .ok (.iload_n 2, 1) := by decide +kernel
theorem d_C_admits_3 : decode b_C_admits 3 = .ok (.invokevirtual 43, 3) := by decide +kernel
theorem d_C_admits_6 : decode b_C_admits 6 = .ok (.aload_n 0, 1) := by decide +kernel
theorem d_C_admits_7 : decode b_C_admits 7 = .ok (.getfield 40, 3) := by decide +kernel
theorem d_C_admits_10 : decode b_C_admits 10 = .ok (.i2l, 1) := by decide +kernel
theorem d_C_admits_11 : decode b_C_admits 11 = .ok (.lcmp, 1) := by decide +kernel
theorem d_C_admits_12 : decode b_C_admits 12 = .ok (.ifCond .lt 7, 3) := by decide +kernel
theorem d_C_admits_15 : decode b_C_admits 15 = .ok (.iconst 1, 1) := by decide +kernel
theorem d_C_admits_16 : decode b_C_admits 16 = .ok (.goto 4, 3) := by decide +kernel
theorem d_C_admits_19 : decode b_C_admits 19 = .ok (.iconst 0, 1) := by decide +kernel
theorem d_C_admits_20 : decode b_C_admits 20 = .ok (.ireturn, 1) := by decide +kernel
end
section
theorem d_J_floorDiv_0 : decode b_J_floorDiv 0 = .ok (.lload_n 0, 1) := by decide +kernel
theorem d_J_floorDiv_1 : decode b_J_floorDiv 1 = .ok (.lload_n 2, 1) := by decide +kernel
theorem d_J_floorDiv_2 : decode b_J_floorDiv 2 = .ok (.ldiv, 1) := by decide +kernel
theorem d_J_floorDiv_3 : decode b_J_floorDiv 3 = .ok (.lstore 4, 2) := by decide +kernel
theorem d_J_floorDiv_5 : decode b_J_floorDiv 5 = .ok (.lload_n 0, 1) := by decide +kernel
theorem d_J_floorDiv_6 : decode b_J_floorDiv 6 = .ok (.lload_n 2, 1) := by decide +kernel
theorem d_J_floorDiv_7 : decode b_J_floorDiv 7 = .ok (.lxor, 1) := by decide +kernel
theorem d_J_floorDiv_8 : decode b_J_floorDiv 8 = .ok (.lconst 0, 1) := by decide +kernel
theorem d_J_floorDiv_9 : decode b_J_floorDiv 9 = .ok (.lcmp, 1) := by decide +kernel
theorem d_J_floorDiv_10 : decode b_J_floorDiv 10 = .ok (.ifCond .ge 17, 3) := by decide +kernel
theorem d_J_floorDiv_13 : decode b_J_floorDiv 13 = .ok (.lload 4, 2) := by decide +kernel
theorem d_J_floorDiv_15 : decode b_J_floorDiv 15 = .ok (.lload_n 2, 1) := by decide +kernel
theorem d_J_floorDiv_16 : decode b_J_floorDiv 16 = .ok (.lmul, 1) := by decide +kernel
theorem d_J_floorDiv_17 : decode b_J_floorDiv 17 = .ok (.lload_n 0, 1) := by decide +kernel
theorem d_J_floorDiv_18 : decode b_J_floorDiv 18 = .ok (.lcmp, 1) := by decide +kernel
theorem d_J_floorDiv_19 : decode b_J_floorDiv 19 = .ok (.ifCond .eq 8, 3) := by decide +kernel
theorem d_J_floorDiv_22 : decode b_J_floorDiv 22 = .ok (.lload 4, 2) := by decide +kernel
theorem d_J_floorDiv_24 : decode b_J_floorDiv 24 = .ok (.lconst 1, 1) := by decide +kernel
theorem d_J_floorDiv_25 : decode b_J_floorDiv 25 = .ok (.lsub, 1) := by decide +kernel
theorem d_J_floorDiv_26 : decode b_J_floorDiv 26 = .ok (.lreturn, 1) := by decide +kernel
theorem d_J_floorDiv_27 : decode b_J_floorDiv 27 = .ok (.lload 4, 2) := by decide +kernel
theorem d_J_floorDiv_29 : decode b_J_floorDiv 29 = .ok (.lreturn, 1) := by decide +kernel
end
section
theorem d_E_init_0 : decode b_E_init 0 = .ok (.aload_n 0, 1) := by decide +kernel
theorem d_E_init_1 : decode b_E_init 1 = .ok (.invokespecial 1, 3) := by decide +kernel
theorem d_E_init_4 : decode b_E_init 4 = .ok (.aload_n 0, 1) := by decide +kernel
theorem d_E_init_5 : decode b_E_init 5 = .ok (.new 7, 3) := by decide +kernel
theorem d_E_init_8 : decode b_E_init 8 = .ok (.dup, 1) := by decide +kernel
theorem d_E_init_9 : decode b_E_init 9 = .ok (.invokespecial 9, 3) := by decide +kernel
theorem d_E_init_12 : decode b_E_init 12 = .ok (.putfield 10, 3) := by decide +kernel
theorem d_E_init_15 : decode b_E_init 15 = .ok (.aload_n 0, 1) := by decide +kernel
theorem d_E_init_16 : decode b_E_init 16 = .ok (.new 7, 3) := by decide +kernel
theorem d_E_init_19 : decode b_E_init 19 = .ok (.dup, 1) := by decide +kernel
theorem d_E_init_20 : decode b_E_init 20 = .ok (.invokespecial 9, 3) := by decide +kernel
theorem d_E_init_23 : decode b_E_init 23 = .ok (.putfield 16, 3) := by decide +kernel
theorem d_E_init_26 : decode b_E_init 26 = .ok (.aload_n 0, 1) := by decide +kernel
theorem d_E_init_27 : decode b_E_init 27 = .ok (.new 7, 3) := by decide +kernel
theorem d_E_init_30 : decode b_E_init 30 = .ok (.dup, 1) := by decide +kernel
theorem d_E_init_31 : decode b_E_init 31 = .ok (.invokespecial 9, 3) := by decide +kernel
theorem d_E_init_34 : decode b_E_init 34 = .ok (.putfield 19, 3) := by decide +kernel
theorem d_E_init_37 : decode b_E_init 37 = .ok (.aload_n 0, 1) := by decide +kernel
theorem d_E_init_38 : decode b_E_init 38 = .ok (.lconst 0, 1) := by decide +kernel
theorem d_E_init_39 : decode b_E_init 39 = .ok (.putfield 22, 3) := by decide +kernel
theorem d_E_init_42 : decode b_E_init 42 = .ok (.aload_n 0, 1) := by decide +kernel
theorem d_E_init_43 : decode b_E_init 43 = .ok (.iconst 0, 1) := by decide +kernel
theorem d_E_init_44 : decode b_E_init 44 = .ok (.putfield 26, 3) := by decide +kernel
theorem d_E_init_47 : decode b_E_init 47 = .ok (.aload_n 0, 1) := by decide +kernel
theorem d_E_init_48 : decode b_E_init 48 = .ok (.iconst 0, 1) := by decide +kernel
theorem d_E_init_49 : decode b_E_init 49 = .ok (.putfield 30, 3) := by decide +kernel
theorem d_E_init_52 : decode b_E_init 52 = .ok (.aload_n 0, 1) := by decide +kernel
theorem d_E_init_53 : decode b_E_init 53 = .ok (.iconst 1, 1) := by decide +kernel
theorem d_E_init_54 : decode b_E_init 54 = .ok (.putfield 33, 3) := by decide +kernel
theorem d_E_init_57 : decode b_E_init 57 = .ok (.aload_n 0, 1) := by decide +kernel
theorem d_E_init_58 : decode b_E_init 58 = .ok (.iconst 1, 1) := by decide +kernel
theorem d_E_init_59 : decode b_E_init 59 = .ok (.putfield 36, 3) := by decide +kernel
theorem d_E_init_62 : decode b_E_init 62 = .ok (.aload_n 0, 1) := by decide +kernel
theorem d_E_init_63 : decode b_E_init 63 = .ok (.iconst 0, 1) := by decide +kernel
theorem d_E_init_64 : decode b_E_init 64 = .ok (.putfield 39, 3) := by decide +kernel
theorem d_E_init_67 : decode b_E_init 67 = .ok (.aload_n 0, 1) := by decide +kernel
theorem d_E_init_68 : decode b_E_init 68 = .ok (.iconst 0, 1) := by decide +kernel
theorem d_E_init_69 : decode b_E_init 69 = .ok (.putfield 43, 3) := by decide +kernel
theorem d_E_init_72 : decode b_E_init 72 = .ok (.aload_n 0, 1) := by decide +kernel
theorem d_E_init_73 : decode b_E_init 73 = .ok (.iconst 0, 1) := by decide +kernel
theorem d_E_init_74 : decode b_E_init 74 = .ok (.putfield 46, 3) := by decide +kernel
theorem d_E_init_77 : decode b_E_init 77 = .ok (.aload_n 0, 1) := by decide +kernel
theorem d_E_init_78 : decode b_E_init 78 = .ok (.iconst 0, 1) := by decide +kernel
theorem d_E_init_79 : decode b_E_init 79 = .ok (.putfield 49, 3) := by decide +kernel
theorem d_E_init_82 : decode b_E_init 82 = .ok (.return_, 1) := by decide +kernel
theorem d_E_corner_0 : decode b_E_corner 0 = .ok (.iload_n 1, 1) := by decide +kernel
theorem d_E_corner_1 : decode b_E_corner 1 = .ok (.invokestatic 52, 3) := by decide +kernel
theorem d_E_corner_4 : decode b_E_corner 4 = .ok (.ifCond .ne 13, 3) := by decide +kernel
theorem d_E_corner_7 : decode b_E_corner 7 = .ok (.new 56, 3) := by decide +kernel
theorem d_E_corner_10 : decode b_E_corner 10 = .ok (.dup, 1) := by decide +kernel
theorem d_E_corner_11 : decode b_E_corner 11 = .ok (.ldc 58, 2) := by decide +kernel
theorem d_E_corner_13 : decode b_E_corner 13 = .ok (.invokespecial 60, 3) := by decide +kernel
theorem d_E_corner_16 : decode b_E_corner 16 = .ok (.athrow, 1) := by decide +kernel
theorem d_E_corner_17 : decode b_E_corner 17 = .ok (.iload_n 2, 1) := by decide +kernel
theorem d_E_corner_18 : decode b_E_corner 18 = .ok (.sipush (-16384), 3) := by decide +kernel
theorem d_E_corner_21 : decode b_E_corner 21 = .ok (.sipush 16383, 3) := by decide +kernel
theorem d_E_corner_24 : decode b_E_corner 24 = .ok (.invokestatic 63, 3) := by decide +kernel
theorem d_E_corner_27 : decode b_E_corner 27 = .ok (.ifCond .eq 16, 3) := by decide +kernel
theorem d_E_corner_30 : decode b_E_corner 30 = .ok (.iload_n 3, 1) := by decide +kernel
theorem d_E_corner_31 : decode b_E_corner 31 = .ok (.sipush (-16384), 3) := by decide +kernel
theorem d_E_corner_34 : decode b_E_corner 34 = .ok (.sipush 16383, 3) := by decide +kernel
theorem d_E_corner_37 : decode b_E_corner 37 = .ok (.invokestatic 63, 3) := by decide +kernel
theorem d_E_corner_40 : decode b_E_corner 40 = .ok (.ifCond .ne 13, 3) := by decide +kernel
theorem d_E_corner_43 : decode b_E_corner 43 = .ok (.new 56, 3) := by decide +kernel
theorem d_E_corner_46 : decode b_E_corner 46 = .ok (.dup, 1) := by decide +kernel
theorem d_E_corner_47 : decode b_E_corner 47 = .ok (.ldc 67, 2) := by decide +kernel
theorem d_E_corner_49 : decode b_E_corner 49 = .ok (.invokespecial 60, 3) := by decide +kernel
theorem d_E_corner_52 : decode b_E_corner 52 = .ok (.athrow, 1) := by decide +kernel
theorem d_E_corner_53 : decode b_E_corner 53 = .ok (.iload 4, 2) := by decide +kernel
theorem d_E_corner_55 : decode b_E_corner 55 = .ok (.iconst 0, 1) := by decide +kernel
theorem d_E_corner_56 : decode b_E_corner 56 = .ok (.ldc 69, 2) := by decide +kernel
theorem d_E_corner_58 : decode b_E_corner 58 = .ok (.invokestatic 63, 3) := by decide +kernel
theorem d_E_corner_61 : decode b_E_corner 61 = .ok (.ifCond .ne 13, 3) := by decide +kernel
theorem d_E_corner_64 : decode b_E_corner 64 = .ok (.new 56, 3) := by decide +kernel
theorem d_E_corner_67 : decode b_E_corner 67 = .ok (.dup, 1) := by decide +kernel
theorem d_E_corner_68 : decode b_E_corner 68 = .ok (.ldc 70, 2) := by decide +kernel
theorem d_E_corner_70 : decode b_E_corner 70 = .ok (.invokespecial 60, 3) := by decide +kernel
theorem d_E_corner_73 : decode b_E_corner 73 = .ok (.athrow, 1) := by decide +kernel
theorem d_E_corner_74 : decode b_E_corner 74 = .ok (.iload 5, 2) := by decide +kernel
theorem d_E_corner_76 : decode b_E_corner 76 = .ok (.iconst 1, 1) := by decide +kernel
theorem d_E_corner_77 : decode b_E_corner 77 = .ok (.ldc 72, 2) := by decide +kernel
theorem d_E_corner_79 : decode b_E_corner 79 = .ok (.invokestatic 63, 3) := by decide +kernel
theorem d_E_corner_82 : decode b_E_corner 82 = .ok (.ifCond .ne 13, 3) := by decide +kernel
theorem d_E_corner_85 : decode b_E_corner 85 = .ok (.new 56, 3) := by decide +kernel
theorem d_E_corner_88 : decode b_E_corner 88 = .ok (.dup, 1) := by decide +kernel
theorem d_E_corner_89 : decode b_E_corner 89 = .ok (.ldc 73, 2) := by decide +kernel
theorem d_E_corner_91 : decode b_E_corner 91 = .ok (.invokespecial 60, 3) := by decide +kernel
theorem d_E_corner_94 : decode b_E_corner 94 = .ok (.athrow, 1) := by decide +kernel
theorem d_E_corner_95 : decode b_E_corner 95 = .ok (.aload_n 0, 1) := by decide +kernel
theorem d_E_corner_96 : decode b_E_corner 96 = .ok (.iload_n 1, 1) := by decide +kernel
theorem d_E_corner_97 : decode b_E_corner 97 = .ok (.invokevirtual 75, 3) := by decide +kernel
theorem d_E_corner_100 : decode b_E_corner 100 = .ok (.astore 6, 2) := by decide +kernel
theorem d_E_corner_102 : decode b_E_corner 102 = .ok (.aload 6, 2) := by decide +kernel
theorem d_E_corner_104 : decode b_E_corner 104 = .ok (.iload_n 2, 1) := by decide +kernel
theorem d_E_corner_105 : decode b_E_corner 105 = .ok (.putfield 79, 3) := by decide +kernel
theorem d_E_corner_108 : decode b_E_corner 108 = .ok (.aload 6, 2) := by decide +kernel
theorem d_E_corner_110 : decode b_E_corner 110 = .ok (.iload_n 3, 1) := by decide +kernel
theorem d_E_corner_111 : decode b_E_corner 111 = .ok (.putfield 82, 3) := by decide +kernel
theorem d_E_corner_114 : decode b_E_corner 114 = .ok (.aload 6, 2) := by decide +kernel
theorem d_E_corner_116 : decode b_E_corner 116 = .ok (.iload 4, 2) := by decide +kernel
theorem d_E_corner_118 : decode b_E_corner 118 = .ok (.putfield 85, 3) := by decide +kernel
theorem d_E_corner_121 : decode b_E_corner 121 = .ok (.aload 6, 2) := by decide +kernel
theorem d_E_corner_123 : decode b_E_corner 123 = .ok (.iload 5, 2) := by decide +kernel
theorem d_E_corner_125 : decode b_E_corner 125 = .ok (.putfield 88, 3) := by decide +kernel
theorem d_E_corner_128 : decode b_E_corner 128 = .ok (.aload_n 0, 1) := by decide +kernel
theorem d_E_corner_129 : decode b_E_corner 129 = .ok (.invokevirtual 91, 3) := by decide +kernel
theorem d_E_corner_132 : decode b_E_corner 132 = .ok (.aload_n 0, 1) := by decide +kernel
theorem d_E_corner_133 : decode b_E_corner 133 = .ok (.invokevirtual 94, 3) := by decide +kernel
theorem d_E_corner_136 : decode b_E_corner 136 = .ok (.return_, 1) := by decide +kernel
theorem d_E_value_0 : decode b_E_value 0 = .ok (.iload_n 1, 1) := by decide +kernel
theorem d_E_value_1 : decode b_E_value 1 = .ok (.invokestatic 52, 3) := by decide +kernel
theorem d_E_value_4 : decode b_E_value 4 = .ok (.ifCond .eq 10, 3) := by decide +kernel
theorem d_E_value_7 : decode b_E_value 7 = .ok (.iload_n 2, 1) := by decide +kernel
theorem d_E_value_8 : decode b_E_value 8 = .ok (.invokestatic 97, 3) := by decide +kernel
theorem d_E_value_11 : decode b_E_value 11 = .ok (.ifCond .ne 13, 3) := by decide +kernel
theorem d_E_value_14 : decode b_E_value 14 = .ok (.new 56, 3) := by decide +kernel
theorem d_E_value_17 : decode b_E_value 17 = .ok (.dup, 1) := by decide +kernel
theorem d_E_value_18 : decode b_E_value 18 = .ok (.ldc 100, 2) := by decide +kernel
theorem d_E_value_20 : decode b_E_value 20 = .ok (.invokespecial 60, 3) := by decide +kernel
theorem d_E_value_23 : decode b_E_value 23 = .ok (.athrow, 1) := by decide +kernel
theorem d_E_value_24 : decode b_E_value 24 = .ok (.aload_n 0, 1) := by decide +kernel
theorem d_E_value_25 : decode b_E_value 25 = .ok (.iload_n 1, 1) := by decide +kernel
theorem d_E_value_26 : decode b_E_value 26 = .ok (.invokevirtual 75, 3) := by decide +kernel
theorem d_E_value_29 : decode b_E_value 29 = .ok (.getfield 102, 3) := by decide +kernel
theorem d_E_value_32 : decode b_E_value 32 = .ok (.iload_n 2, 1) := by decide +kernel
theorem d_E_value_33 : decode b_E_value 33 = .ok (.iload_n 3, 1) := by decide +kernel
theorem d_E_value_34 : decode b_E_value 34 = .ok (.iastore, 1) := by decide +kernel
theorem d_E_value_35 : decode b_E_value 35 = .ok (.aload_n 0, 1) := by decide +kernel
theorem d_E_value_36 : decode b_E_value 36 = .ok (.invokevirtual 94, 3) := by decide +kernel
theorem d_E_value_39 : decode b_E_value 39 = .ok (.return_, 1) := by decide +kernel
theorem d_E_window_0 : decode b_E_window 0 = .ok (.iload_n 1, 1) := by decide +kernel
theorem d_E_window_1 : decode b_E_window 1 = .ok (.iconst 0, 1) := by decide +kernel
theorem d_E_window_2 : decode b_E_window 2 = .ok (.sipush 1023, 3) := by decide +kernel
theorem d_E_window_5 : decode b_E_window 5 = .ok (.invokestatic 63, 3) := by decide +kernel
theorem d_E_window_8 : decode b_E_window 8 = .ok (.ifCond .eq 14, 3) := by decide +kernel
theorem d_E_window_11 : decode b_E_window 11 = .ok (.iload_n 2, 1) := by decide +kernel
theorem d_E_window_12 : decode b_E_window 12 = .ok (.iconst 0, 1) := by decide +kernel
theorem d_E_window_13 : decode b_E_window 13 = .ok (.sipush 1023, 3) := by decide +kernel
theorem d_E_window_16 : decode b_E_window 16 = .ok (.invokestatic 63, 3) := by decide +kernel
theorem d_E_window_19 : decode b_E_window 19 = .ok (.ifCond .ne 13, 3) := by decide +kernel
theorem d_E_window_22 : decode b_E_window 22 = .ok (.new 56, 3) := by decide +kernel
theorem d_E_window_25 : decode b_E_window 25 = .ok (.dup, 1) := by decide +kernel
theorem d_E_window_26 : decode b_E_window 26 = .ok (.ldc 106, 2) := by decide +kernel
theorem d_E_window_28 : decode b_E_window 28 = .ok (.invokespecial 60, 3) := by decide +kernel
theorem d_E_window_31 : decode b_E_window 31 = .ok (.athrow, 1) := by decide +kernel
theorem d_E_window_32 : decode b_E_window 32 = .ok (.iload_n 3, 1) := by decide +kernel
theorem d_E_window_33 : decode b_E_window 33 = .ok (.iconst 1, 1) := by decide +kernel
theorem d_E_window_34 : decode b_E_window 34 = .ok (.bipush 64, 2) := by decide +kernel
theorem d_E_window_36 : decode b_E_window 36 = .ok (.invokestatic 63, 3) := by decide +kernel
theorem d_E_window_39 : decode b_E_window 39 = .ok (.ifCond .eq 14, 3) := by decide +kernel
theorem d_E_window_42 : decode b_E_window 42 = .ok (.iload 4, 2) := by decide +kernel
theorem d_E_window_44 : decode b_E_window 44 = .ok (.iconst 1, 1) := by decide +kernel
theorem d_E_window_45 : decode b_E_window 45 = .ok (.bipush 64, 2) := by decide +kernel
theorem d_E_window_47 : decode b_E_window 47 = .ok (.invokestatic 63, 3) := by decide +kernel
theorem d_E_window_50 : decode b_E_window 50 = .ok (.ifCond .ne 13, 3) := by decide +kernel
theorem d_E_window_53 : decode b_E_window 53 = .ok (.new 56, 3) := by decide +kernel
theorem d_E_window_56 : decode b_E_window 56 = .ok (.dup, 1) := by decide +kernel
theorem d_E_window_57 : decode b_E_window 57 = .ok (.ldc 108, 2) := by decide +kernel
theorem d_E_window_59 : decode b_E_window 59 = .ok (.invokespecial 60, 3) := by decide +kernel
theorem d_E_window_62 : decode b_E_window 62 = .ok (.athrow, 1) := by decide +kernel
theorem d_E_window_63 : decode b_E_window 63 = .ok (.aload_n 0, 1) := by decide +kernel
theorem d_E_window_64 : decode b_E_window 64 = .ok (.iload_n 1, 1) := by decide +kernel
theorem d_E_window_65 : decode b_E_window 65 = .ok (.putfield 26, 3) := by decide +kernel
theorem d_E_window_68 : decode b_E_window 68 = .ok (.aload_n 0, 1) := by decide +kernel
theorem d_E_window_69 : decode b_E_window 69 = .ok (.iload_n 2, 1) := by decide +kernel
theorem d_E_window_70 : decode b_E_window 70 = .ok (.putfield 30, 3) := by decide +kernel
theorem d_E_window_73 : decode b_E_window 73 = .ok (.aload_n 0, 1) := by decide +kernel
theorem d_E_window_74 : decode b_E_window 74 = .ok (.iload_n 3, 1) := by decide +kernel
theorem d_E_window_75 : decode b_E_window 75 = .ok (.putfield 33, 3) := by decide +kernel
theorem d_E_window_78 : decode b_E_window 78 = .ok (.aload_n 0, 1) := by decide +kernel
theorem d_E_window_79 : decode b_E_window 79 = .ok (.iload 4, 2) := by decide +kernel
theorem d_E_window_81 : decode b_E_window 81 = .ok (.putfield 36, 3) := by decide +kernel
theorem d_E_window_84 : decode b_E_window 84 = .ok (.aload_n 0, 1) := by decide +kernel
theorem d_E_window_85 : decode b_E_window 85 = .ok (.invokevirtual 94, 3) := by decide +kernel
theorem d_E_window_88 : decode b_E_window 88 = .ok (.return_, 1) := by decide +kernel
theorem d_E_area_0 : decode b_E_area 0 = .ok (.aload_n 0, 1) := by decide +kernel
theorem d_E_area_1 : decode b_E_area 1 = .ok (.getfield 22, 3) := by decide +kernel
theorem d_E_area_4 : decode b_E_area 4 = .ok (.lreturn, 1) := by decide +kernel
theorem d_E_covers_0 : decode b_E_covers 0 = .ok (.iload_n 1, 1) := by decide +kernel
theorem d_E_covers_1 : decode b_E_covers 1 = .ok (.sipush (-1024), 3) := by decide +kernel
theorem d_E_covers_4 : decode b_E_covers 4 = .ok (.sipush 2047, 3) := by decide +kernel
theorem d_E_covers_7 : decode b_E_covers 7 = .ok (.invokestatic 63, 3) := by decide +kernel
theorem d_E_covers_10 : decode b_E_covers 10 = .ok (.ifCond .eq 16, 3) := by decide +kernel
theorem d_E_covers_13 : decode b_E_covers 13 = .ok (.iload_n 2, 1) := by decide +kernel
theorem d_E_covers_14 : decode b_E_covers 14 = .ok (.sipush (-1024), 3) := by decide +kernel
theorem d_E_covers_17 : decode b_E_covers 17 = .ok (.sipush 2047, 3) := by decide +kernel
theorem d_E_covers_20 : decode b_E_covers 20 = .ok (.invokestatic 63, 3) := by decide +kernel
theorem d_E_covers_23 : decode b_E_covers 23 = .ok (.ifCond .ne 13, 3) := by decide +kernel
theorem d_E_covers_26 : decode b_E_covers 26 = .ok (.new 56, 3) := by decide +kernel
theorem d_E_covers_29 : decode b_E_covers 29 = .ok (.dup, 1) := by decide +kernel
theorem d_E_covers_30 : decode b_E_covers 30 = .ok (.ldc 110, 2) := by decide +kernel
theorem d_E_covers_32 : decode b_E_covers 32 = .ok (.invokespecial 60, 3) := by decide +kernel
theorem d_E_covers_35 : decode b_E_covers 35 = .ok (.athrow, 1) := by decide +kernel
theorem d_E_covers_36 : decode b_E_covers 36 = .ok (.aload_n 0, 1) := by decide +kernel
theorem d_E_covers_37 : decode b_E_covers 37 = .ok (.iload_n 1, 1) := by decide +kernel
theorem d_E_covers_38 : decode b_E_covers 38 = .ok (.iload_n 2, 1) := by decide +kernel
theorem d_E_covers_39 : decode b_E_covers 39 = .ok (.invokevirtual 112, 3) := by decide +kernel
theorem d_E_covers_42 : decode b_E_covers 42 = .ok (.ireturn, 1) := by decide +kernel
theorem d_E_many_0 : decode b_E_many 0 = .ok (.iconst 0, 1) := by decide +kernel
theorem d_E_many_1 : decode b_E_many 1 = .ok (.istore_n 1, 1) := by decide +kernel
theorem d_E_many_2 : decode b_E_many 2 = .ok (.aload_n 0, 1) := by decide +kernel
theorem d_E_many_3 : decode b_E_many 3 = .ok (.getfield 30, 3) := by decide +kernel
theorem d_E_many_6 : decode b_E_many 6 = .ok (.istore_n 2, 1) := by decide +kernel
theorem d_E_many_7 : decode b_E_many 7 = .ok (.iload_n 2, 1) := by decide +kernel
theorem d_E_many_8 : decode b_E_many 8 = .ok (.aload_n 0, 1) := by decide +kernel
theorem d_E_many_9 : decode b_E_many 9 = .ok (.getfield 30, 3) := by decide +kernel
theorem d_E_many_12 : decode b_E_many 12 = .ok (.aload_n 0, 1) := by decide +kernel
theorem d_E_many_13 : decode b_E_many 13 = .ok (.getfield 36, 3) := by decide +kernel
theorem d_E_many_16 : decode b_E_many 16 = .ok (.iadd, 1) := by decide +kernel
theorem d_E_many_17 : decode b_E_many 17 = .ok (.if_icmp .ge 45, 3) := by decide +kernel
theorem d_E_many_20 : decode b_E_many 20 = .ok (.aload_n 0, 1) := by decide +kernel
theorem d_E_many_21 : decode b_E_many 21 = .ok (.getfield 26, 3) := by decide +kernel
theorem d_E_many_24 : decode b_E_many 24 = .ok (.istore_n 3, 1) := by decide +kernel
theorem d_E_many_25 : decode b_E_many 25 = .ok (.iload_n 3, 1) := by decide +kernel
theorem d_E_many_26 : decode b_E_many 26 = .ok (.aload_n 0, 1) := by decide +kernel
theorem d_E_many_27 : decode b_E_many 27 = .ok (.getfield 26, 3) := by decide +kernel
theorem d_E_many_30 : decode b_E_many 30 = .ok (.aload_n 0, 1) := by decide +kernel
theorem d_E_many_31 : decode b_E_many 31 = .ok (.getfield 33, 3) := by decide +kernel
theorem d_E_many_34 : decode b_E_many 34 = .ok (.iadd, 1) := by decide +kernel
theorem d_E_many_35 : decode b_E_many 35 = .ok (.if_icmp .ge 21, 3) := by decide +kernel
theorem d_E_many_38 : decode b_E_many 38 = .ok (.aload_n 0, 1) := by decide +kernel
theorem d_E_many_39 : decode b_E_many 39 = .ok (.iload_n 3, 1) := by decide +kernel
theorem d_E_many_40 : decode b_E_many 40 = .ok (.iload_n 2, 1) := by decide +kernel
theorem d_E_many_41 : decode b_E_many 41 = .ok (.invokevirtual 112, 3) := by decide +kernel
theorem d_E_many_44 : decode b_E_many 44 = .ok (.ifCond .eq 6, 3) := by decide +kernel
theorem d_E_many_47 : decode b_E_many 47 = .ok (.iinc 1 1, 3) := by decide +kernel
theorem d_E_many_50 : decode b_E_many 50 = .ok (.iinc 3 1, 3) := by decide +kernel
theorem d_E_many_53 : decode b_E_many 53 = .ok (.goto (-28), 3) := by decide +kernel
theorem d_E_many_56 : decode b_E_many 56 = .ok (.iinc 2 1, 3) := by decide +kernel
theorem d_E_many_59 : decode b_E_many 59 = .ok (.goto (-52), 3) := by decide +kernel
theorem d_E_many_62 : decode b_E_many 62 = .ok (.iload_n 1, 1) := by decide +kernel
theorem d_E_many_63 : decode b_E_many 63 = .ok (.ireturn, 1) := by decide +kernel
theorem d_E_walk_0 : decode b_E_walk 0 = .ok (.aload_n 0, 1) := by decide +kernel
theorem d_E_walk_1 : decode b_E_walk 1 = .ok (.iconst 1, 1) := by decide +kernel
theorem d_E_walk_2 : decode b_E_walk 2 = .ok (.putfield 39, 3) := by decide +kernel
theorem d_E_walk_5 : decode b_E_walk 5 = .ok (.aload_n 0, 1) := by decide +kernel
theorem d_E_walk_6 : decode b_E_walk 6 = .ok (.iconst 0, 1) := by decide +kernel
theorem d_E_walk_7 : decode b_E_walk 7 = .ok (.putfield 43, 3) := by decide +kernel
theorem d_E_walk_10 : decode b_E_walk 10 = .ok (.aload_n 0, 1) := by decide +kernel
theorem d_E_walk_11 : decode b_E_walk 11 = .ok (.aload_n 0, 1) := by decide +kernel
theorem d_E_walk_12 : decode b_E_walk 12 = .ok (.getfield 26, 3) := by decide +kernel
theorem d_E_walk_15 : decode b_E_walk 15 = .ok (.iconst 1, 1) := by decide +kernel
theorem d_E_walk_16 : decode b_E_walk 16 = .ok (.isub, 1) := by decide +kernel
theorem d_E_walk_17 : decode b_E_walk 17 = .ok (.putfield 46, 3) := by decide +kernel
theorem d_E_walk_20 : decode b_E_walk 20 = .ok (.aload_n 0, 1) := by decide +kernel
theorem d_E_walk_21 : decode b_E_walk 21 = .ok (.aload_n 0, 1) := by decide +kernel
theorem d_E_walk_22 : decode b_E_walk 22 = .ok (.getfield 30, 3) := by decide +kernel
theorem d_E_walk_25 : decode b_E_walk 25 = .ok (.putfield 49, 3) := by decide +kernel
theorem d_E_walk_28 : decode b_E_walk 28 = .ok (.return_, 1) := by decide +kernel
theorem d_E_next_0 : decode b_E_next 0 = .ok (.aload_n 0, 1) := by decide +kernel
theorem d_E_next_1 : decode b_E_next 1 = .ok (.getfield 39, 3) := by decide +kernel
theorem d_E_next_4 : decode b_E_next 4 = .ok (.ifCond .ne 13, 3) := by decide +kernel
theorem d_E_next_7 : decode b_E_next 7 = .ok (.new 116, 3) := by decide +kernel
theorem d_E_next_10 : decode b_E_next 10 = .ok (.dup, 1) := by decide +kernel
theorem d_E_next_11 : decode b_E_next 11 = .ok (.ldc 118, 2) := by decide +kernel
theorem d_E_next_13 : decode b_E_next 13 = .ok (.invokespecial 120, 3) := by decide +kernel
theorem d_E_next_16 : decode b_E_next 16 = .ok (.athrow, 1) := by decide +kernel
theorem d_E_next_17 : decode b_E_next 17 = .ok (.aload_n 0, 1) := by decide +kernel
theorem d_E_next_18 : decode b_E_next 18 = .ok (.getfield 46, 3) := by decide +kernel
theorem d_E_next_21 : decode b_E_next 21 = .ok (.iconst 1, 1) := by decide +kernel
theorem d_E_next_22 : decode b_E_next 22 = .ok (.iadd, 1) := by decide +kernel
theorem d_E_next_23 : decode b_E_next 23 = .ok (.istore_n 1, 1) := by decide +kernel
theorem d_E_next_24 : decode b_E_next 24 = .ok (.aload_n 0, 1) := by decide +kernel
theorem d_E_next_25 : decode b_E_next 25 = .ok (.getfield 49, 3) := by decide +kernel
theorem d_E_next_28 : decode b_E_next 28 = .ok (.istore_n 2, 1) := by decide +kernel
theorem d_E_next_29 : decode b_E_next 29 = .ok (.iload_n 2, 1) := by decide +kernel
theorem d_E_next_30 : decode b_E_next 30 = .ok (.aload_n 0, 1) := by decide +kernel
theorem d_E_next_31 : decode b_E_next 31 = .ok (.getfield 30, 3) := by decide +kernel
theorem d_E_next_34 : decode b_E_next 34 = .ok (.aload_n 0, 1) := by decide +kernel
theorem d_E_next_35 : decode b_E_next 35 = .ok (.getfield 36, 3) := by decide +kernel
theorem d_E_next_38 : decode b_E_next 38 = .ok (.iadd, 1) := by decide +kernel
theorem d_E_next_39 : decode b_E_next 39 = .ok (.if_icmp .ge 56, 3) := by decide +kernel
theorem d_E_next_42 : decode b_E_next 42 = .ok (.aload_n 0, 1) := by decide +kernel
theorem d_E_next_43 : decode b_E_next 43 = .ok (.iload_n 1, 1) := by decide +kernel
theorem d_E_next_44 : decode b_E_next 44 = .ok (.iload_n 2, 1) := by decide +kernel
theorem d_E_next_45 : decode b_E_next 45 = .ok (.invokevirtual 121, 3) := by decide +kernel
theorem d_E_next_48 : decode b_E_next 48 = .ok (.istore_n 3, 1) := by decide +kernel
theorem d_E_next_49 : decode b_E_next 49 = .ok (.iload_n 3, 1) := by decide +kernel
theorem d_E_next_50 : decode b_E_next 50 = .ok (.aload_n 0, 1) := by decide +kernel
theorem d_E_next_51 : decode b_E_next 51 = .ok (.getfield 26, 3) := by decide +kernel
theorem d_E_next_54 : decode b_E_next 54 = .ok (.aload_n 0, 1) := by decide +kernel
theorem d_E_next_55 : decode b_E_next 55 = .ok (.getfield 33, 3) := by decide +kernel
theorem d_E_next_58 : decode b_E_next 58 = .ok (.iadd, 1) := by decide +kernel
theorem d_E_next_59 : decode b_E_next 59 = .ok (.if_icmp .ge 25, 3) := by decide +kernel
theorem d_E_next_62 : decode b_E_next 62 = .ok (.aload_n 0, 1) := by decide +kernel
theorem d_E_next_63 : decode b_E_next 63 = .ok (.iconst 1, 1) := by decide +kernel
theorem d_E_next_64 : decode b_E_next 64 = .ok (.putfield 43, 3) := by decide +kernel
theorem d_E_next_67 : decode b_E_next 67 = .ok (.aload_n 0, 1) := by decide +kernel
theorem d_E_next_68 : decode b_E_next 68 = .ok (.iload_n 3, 1) := by decide +kernel
theorem d_E_next_69 : decode b_E_next 69 = .ok (.putfield 46, 3) := by decide +kernel
theorem d_E_next_72 : decode b_E_next 72 = .ok (.aload_n 0, 1) := by decide +kernel
theorem d_E_next_73 : decode b_E_next 73 = .ok (.iload_n 2, 1) := by decide +kernel
theorem d_E_next_74 : decode b_E_next 74 = .ok (.putfield 49, 3) := by decide +kernel
theorem d_E_next_77 : decode b_E_next 77 = .ok (.ldc 125, 2) := by decide +kernel
theorem d_E_next_79 : decode b_E_next 79 = .ok (.iload_n 2, 1) := by decide +kernel
theorem d_E_next_80 : decode b_E_next 80 = .ok (.imul, 1) := by decide +kernel
theorem d_E_next_81 : decode b_E_next 81 = .ok (.iload_n 3, 1) := by decide +kernel
theorem d_E_next_82 : decode b_E_next 82 = .ok (.iadd, 1) := by decide +kernel
theorem d_E_next_83 : decode b_E_next 83 = .ok (.ireturn, 1) := by decide +kernel
theorem d_E_next_84 : decode b_E_next 84 = .ok (.aload_n 0, 1) := by decide +kernel
theorem d_E_next_85 : decode b_E_next 85 = .ok (.getfield 26, 3) := by decide +kernel
theorem d_E_next_88 : decode b_E_next 88 = .ok (.istore_n 1, 1) := by decide +kernel
theorem d_E_next_89 : decode b_E_next 89 = .ok (.iinc 2 1, 3) := by decide +kernel
theorem d_E_next_92 : decode b_E_next 92 = .ok (.goto (-63), 3) := by decide +kernel
theorem d_E_next_95 : decode b_E_next 95 = .ok (.aload_n 0, 1) := by decide +kernel
theorem d_E_next_96 : decode b_E_next 96 = .ok (.iconst 0, 1) := by decide +kernel
theorem d_E_next_97 : decode b_E_next 97 = .ok (.putfield 43, 3) := by decide +kernel
theorem d_E_next_100 : decode b_E_next 100 = .ok (.aload_n 0, 1) := by decide +kernel
theorem d_E_next_101 : decode b_E_next 101 = .ok (.aload_n 0, 1) := by decide +kernel
theorem d_E_next_102 : decode b_E_next 102 = .ok (.getfield 30, 3) := by decide +kernel
theorem d_E_next_105 : decode b_E_next 105 = .ok (.aload_n 0, 1) := by decide +kernel
theorem d_E_next_106 : decode b_E_next 106 = .ok (.getfield 36, 3) := by decide +kernel
theorem d_E_next_109 : decode b_E_next 109 = .ok (.iadd, 1) := by decide +kernel
theorem d_E_next_110 : decode b_E_next 110 = .ok (.putfield 49, 3) := by decide +kernel
theorem d_E_next_113 : decode b_E_next 113 = .ok (.iconst (-1), 1) := by decide +kernel
theorem d_E_next_114 : decode b_E_next 114 = .ok (.ireturn, 1) := by decide +kernel
theorem d_E_weight_0 : decode b_E_weight 0 = .ok (.iload_n 1, 1) := by decide +kernel
theorem d_E_weight_1 : decode b_E_weight 1 = .ok (.invokestatic 52, 3) := by decide +kernel
theorem d_E_weight_4 : decode b_E_weight 4 = .ok (.ifCond .ne 13, 3) := by decide +kernel
theorem d_E_weight_7 : decode b_E_weight 7 = .ok (.new 56, 3) := by decide +kernel
theorem d_E_weight_10 : decode b_E_weight 10 = .ok (.dup, 1) := by decide +kernel
theorem d_E_weight_11 : decode b_E_weight 11 = .ok (.ldc 58, 2) := by decide +kernel
theorem d_E_weight_13 : decode b_E_weight 13 = .ok (.invokespecial 60, 3) := by decide +kernel
theorem d_E_weight_16 : decode b_E_weight 16 = .ok (.athrow, 1) := by decide +kernel
theorem d_E_weight_17 : decode b_E_weight 17 = .ok (.aload_n 0, 1) := by decide +kernel
theorem d_E_weight_18 : decode b_E_weight 18 = .ok (.getfield 43, 3) := by decide +kernel
theorem d_E_weight_21 : decode b_E_weight 21 = .ok (.ifCond .ne 13, 3) := by decide +kernel
theorem d_E_weight_24 : decode b_E_weight 24 = .ok (.new 116, 3) := by decide +kernel
theorem d_E_weight_27 : decode b_E_weight 27 = .ok (.dup, 1) := by decide +kernel
theorem d_E_weight_28 : decode b_E_weight 28 = .ok (.ldc 126, 2) := by decide +kernel
theorem d_E_weight_30 : decode b_E_weight 30 = .ok (.invokespecial 120, 3) := by decide +kernel
theorem d_E_weight_33 : decode b_E_weight 33 = .ok (.athrow, 1) := by decide +kernel
theorem d_E_weight_34 : decode b_E_weight 34 = .ok (.aload_n 0, 1) := by decide +kernel
theorem d_E_weight_35 : decode b_E_weight 35 = .ok (.iload_n 1, 1) := by decide +kernel
theorem d_E_weight_36 : decode b_E_weight 36 = .ok (.invokevirtual 75, 3) := by decide +kernel
theorem d_E_weight_39 : decode b_E_weight 39 = .ok (.aload_n 0, 1) := by decide +kernel
theorem d_E_weight_40 : decode b_E_weight 40 = .ok (.getfield 46, 3) := by decide +kernel
theorem d_E_weight_43 : decode b_E_weight 43 = .ok (.aload_n 0, 1) := by decide +kernel
theorem d_E_weight_44 : decode b_E_weight 44 = .ok (.getfield 49, 3) := by decide +kernel
theorem d_E_weight_47 : decode b_E_weight 47 = .ok (.invokevirtual 128, 3) := by decide +kernel
theorem d_E_weight_50 : decode b_E_weight 50 = .ok (.lreturn, 1) := by decide +kernel
theorem d_E_depth_0 : decode b_E_depth 0 = .ok (.aload_n 0, 1) := by decide +kernel
theorem d_E_depth_1 : decode b_E_depth 1 = .ok (.getfield 43, 3) := by decide +kernel
theorem d_E_depth_4 : decode b_E_depth 4 = .ok (.ifCond .ne 13, 3) := by decide +kernel
theorem d_E_depth_7 : decode b_E_depth 7 = .ok (.new 116, 3) := by decide +kernel
theorem d_E_depth_10 : decode b_E_depth 10 = .ok (.dup, 1) := by decide +kernel
theorem d_E_depth_11 : decode b_E_depth 11 = .ok (.ldc 126, 2) := by decide +kernel
theorem d_E_depth_13 : decode b_E_depth 13 = .ok (.invokespecial 120, 3) := by decide +kernel
theorem d_E_depth_16 : decode b_E_depth 16 = .ok (.athrow, 1) := by decide +kernel
theorem d_E_depth_17 : decode b_E_depth 17 = .ok (.aload_n 0, 1) := by decide +kernel
theorem d_E_depth_18 : decode b_E_depth 18 = .ok (.getfield 10, 3) := by decide +kernel
theorem d_E_depth_21 : decode b_E_depth 21 = .ok (.aload_n 0, 1) := by decide +kernel
theorem d_E_depth_22 : decode b_E_depth 22 = .ok (.getfield 46, 3) := by decide +kernel
theorem d_E_depth_25 : decode b_E_depth 25 = .ok (.aload_n 0, 1) := by decide +kernel
theorem d_E_depth_26 : decode b_E_depth 26 = .ok (.getfield 49, 3) := by decide +kernel
theorem d_E_depth_29 : decode b_E_depth 29 = .ok (.invokevirtual 128, 3) := by decide +kernel
theorem d_E_depth_32 : decode b_E_depth 32 = .ok (.aload_n 0, 1) := by decide +kernel
theorem d_E_depth_33 : decode b_E_depth 33 = .ok (.getfield 10, 3) := by decide +kernel
theorem d_E_depth_36 : decode b_E_depth 36 = .ok (.getfield 85, 3) := by decide +kernel
theorem d_E_depth_39 : decode b_E_depth 39 = .ok (.i2l, 1) := by decide +kernel
theorem d_E_depth_40 : decode b_E_depth 40 = .ok (.lmul, 1) := by decide +kernel
theorem d_E_depth_41 : decode b_E_depth 41 = .ok (.aload_n 0, 1) := by decide +kernel
theorem d_E_depth_42 : decode b_E_depth 42 = .ok (.getfield 16, 3) := by decide +kernel
theorem d_E_depth_45 : decode b_E_depth 45 = .ok (.aload_n 0, 1) := by decide +kernel
theorem d_E_depth_46 : decode b_E_depth 46 = .ok (.getfield 46, 3) := by decide +kernel
theorem d_E_depth_49 : decode b_E_depth 49 = .ok (.aload_n 0, 1) := by decide +kernel
theorem d_E_depth_50 : decode b_E_depth 50 = .ok (.getfield 49, 3) := by decide +kernel
theorem d_E_depth_53 : decode b_E_depth 53 = .ok (.invokevirtual 128, 3) := by decide +kernel
theorem d_E_depth_56 : decode b_E_depth 56 = .ok (.aload_n 0, 1) := by decide +kernel
theorem d_E_depth_57 : decode b_E_depth 57 = .ok (.getfield 16, 3) := by decide +kernel
theorem d_E_depth_60 : decode b_E_depth 60 = .ok (.getfield 85, 3) := by decide +kernel
theorem d_E_depth_63 : decode b_E_depth 63 = .ok (.i2l, 1) := by decide +kernel
theorem d_E_depth_64 : decode b_E_depth 64 = .ok (.lmul, 1) := by decide +kernel
theorem d_E_depth_65 : decode b_E_depth 65 = .ok (.ladd, 1) := by decide +kernel
theorem d_E_depth_66 : decode b_E_depth 66 = .ok (.aload_n 0, 1) := by decide +kernel
theorem d_E_depth_67 : decode b_E_depth 67 = .ok (.getfield 19, 3) := by decide +kernel
theorem d_E_depth_70 : decode b_E_depth 70 = .ok (.aload_n 0, 1) := by decide +kernel
theorem d_E_depth_71 : decode b_E_depth 71 = .ok (.getfield 46, 3) := by decide +kernel
theorem d_E_depth_74 : decode b_E_depth 74 = .ok (.aload_n 0, 1) := by decide +kernel
theorem d_E_depth_75 : decode b_E_depth 75 = .ok (.getfield 49, 3) := by decide +kernel
theorem d_E_depth_78 : decode b_E_depth 78 = .ok (.invokevirtual 128, 3) := by decide +kernel
theorem d_E_depth_81 : decode b_E_depth 81 = .ok (.aload_n 0, 1) := by decide +kernel
theorem d_E_depth_82 : decode b_E_depth 82 = .ok (.getfield 19, 3) := by decide +kernel
theorem d_E_depth_85 : decode b_E_depth 85 = .ok (.getfield 85, 3) := by decide +kernel
theorem d_E_depth_88 : decode b_E_depth 88 = .ok (.i2l, 1) := by decide +kernel
theorem d_E_depth_89 : decode b_E_depth 89 = .ok (.lmul, 1) := by decide +kernel
theorem d_E_depth_90 : decode b_E_depth 90 = .ok (.ladd, 1) := by decide +kernel
theorem d_E_depth_91 : decode b_E_depth 91 = .ok (.lstore_n 1, 1) := by decide +kernel
theorem d_E_depth_92 : decode b_E_depth 92 = .ok (.lload_n 1, 1) := by decide +kernel
theorem d_E_depth_93 : decode b_E_depth 93 = .ok (.aload_n 0, 1) := by decide +kernel
theorem d_E_depth_94 : decode b_E_depth 94 = .ok (.getfield 22, 3) := by decide +kernel
theorem d_E_depth_97 : decode b_E_depth 97 = .ok (.invokestatic 132, 3) := by decide +kernel
theorem d_E_depth_100 : decode b_E_depth 100 = .ok (.invokestatic 138, 3) := by decide +kernel
theorem d_E_depth_103 : decode b_E_depth 103 = .ok (.l2i, 1) := by decide +kernel
theorem d_E_depth_104 : decode b_E_depth 104 = .ok (.ireturn, 1) := by decide +kernel
theorem d_E_at_0 : decode b_E_at 0 = .ok (.iload_n 1, 1) := by decide +kernel
theorem d_E_at_1 : decode b_E_at 1 = .ok (.invokestatic 97, 3) := by decide +kernel
theorem d_E_at_4 : decode b_E_at 4 = .ok (.ifCond .ne 13, 3) := by decide +kernel
theorem d_E_at_7 : decode b_E_at 7 = .ok (.new 56, 3) := by decide +kernel
theorem d_E_at_10 : decode b_E_at 10 = .ok (.dup, 1) := by decide +kernel
theorem d_E_at_11 : decode b_E_at 11 = .ok (.ldc 142, 2) := by decide +kernel
theorem d_E_at_13 : decode b_E_at 13 = .ok (.invokespecial 60, 3) := by decide +kernel
theorem d_E_at_16 : decode b_E_at 16 = .ok (.athrow, 1) := by decide +kernel
theorem d_E_at_17 : decode b_E_at 17 = .ok (.aload_n 0, 1) := by decide +kernel
theorem d_E_at_18 : decode b_E_at 18 = .ok (.getfield 43, 3) := by decide +kernel
theorem d_E_at_21 : decode b_E_at 21 = .ok (.ifCond .ne 13, 3) := by decide +kernel
theorem d_E_at_24 : decode b_E_at 24 = .ok (.new 116, 3) := by decide +kernel
theorem d_E_at_27 : decode b_E_at 27 = .ok (.dup, 1) := by decide +kernel
theorem d_E_at_28 : decode b_E_at 28 = .ok (.ldc 126, 2) := by decide +kernel
theorem d_E_at_30 : decode b_E_at 30 = .ok (.invokespecial 120, 3) := by decide +kernel
theorem d_E_at_33 : decode b_E_at 33 = .ok (.athrow, 1) := by decide +kernel
theorem d_E_at_34 : decode b_E_at 34 = .ok (.aload_n 0, 1) := by decide +kernel
theorem d_E_at_35 : decode b_E_at 35 = .ok (.getfield 10, 3) := by decide +kernel
theorem d_E_at_38 : decode b_E_at 38 = .ok (.aload_n 0, 1) := by decide +kernel
theorem d_E_at_39 : decode b_E_at 39 = .ok (.getfield 46, 3) := by decide +kernel
theorem d_E_at_42 : decode b_E_at 42 = .ok (.aload_n 0, 1) := by decide +kernel
theorem d_E_at_43 : decode b_E_at 43 = .ok (.getfield 49, 3) := by decide +kernel
theorem d_E_at_46 : decode b_E_at 46 = .ok (.invokevirtual 144, 3) := by decide +kernel
theorem d_E_at_49 : decode b_E_at 49 = .ok (.lstore_n 2, 1) := by decide +kernel
theorem d_E_at_50 : decode b_E_at 50 = .ok (.aload_n 0, 1) := by decide +kernel
theorem d_E_at_51 : decode b_E_at 51 = .ok (.getfield 16, 3) := by decide +kernel
theorem d_E_at_54 : decode b_E_at 54 = .ok (.aload_n 0, 1) := by decide +kernel
theorem d_E_at_55 : decode b_E_at 55 = .ok (.getfield 46, 3) := by decide +kernel
theorem d_E_at_58 : decode b_E_at 58 = .ok (.aload_n 0, 1) := by decide +kernel
theorem d_E_at_59 : decode b_E_at 59 = .ok (.getfield 49, 3) := by decide +kernel
theorem d_E_at_62 : decode b_E_at 62 = .ok (.invokevirtual 144, 3) := by decide +kernel
theorem d_E_at_65 : decode b_E_at 65 = .ok (.lstore 4, 2) := by decide +kernel
theorem d_E_at_67 : decode b_E_at 67 = .ok (.aload_n 0, 1) := by decide +kernel
theorem d_E_at_68 : decode b_E_at 68 = .ok (.getfield 19, 3) := by decide +kernel
theorem d_E_at_71 : decode b_E_at 71 = .ok (.aload_n 0, 1) := by decide +kernel
theorem d_E_at_72 : decode b_E_at 72 = .ok (.getfield 46, 3) := by decide +kernel
theorem d_E_at_75 : decode b_E_at 75 = .ok (.aload_n 0, 1) := by decide +kernel
theorem d_E_at_76 : decode b_E_at 76 = .ok (.getfield 49, 3) := by decide +kernel
theorem d_E_at_79 : decode b_E_at 79 = .ok (.invokevirtual 144, 3) := by decide +kernel
theorem d_E_at_82 : decode b_E_at 82 = .ok (.lstore 6, 2) := by decide +kernel
theorem d_E_at_84 : decode b_E_at 84 = .ok (.lload_n 2, 1) := by decide +kernel
theorem d_E_at_85 : decode b_E_at 85 = .ok (.lload 4, 2) := by decide +kernel
theorem d_E_at_87 : decode b_E_at 87 = .ok (.lload 6, 2) := by decide +kernel
theorem d_E_at_89 : decode b_E_at 89 = .ok (.invokestatic 147, 3) := by decide +kernel
theorem d_E_at_92 : decode b_E_at 92 = .ok (.invokestatic 147, 3) := by decide +kernel
theorem d_E_at_95 : decode b_E_at 95 = .ok (.invokestatic 150, 3) := by decide +kernel
theorem d_E_at_98 : decode b_E_at 98 = .ok (.istore 8, 2) := by decide +kernel
theorem d_E_at_100 : decode b_E_at 100 = .ok (.lload_n 2, 1) := by decide +kernel
theorem d_E_at_101 : decode b_E_at 101 = .ok (.iload 8, 2) := by decide +kernel
theorem d_E_at_103 : decode b_E_at 103 = .ok (.lshr, 1) := by decide +kernel
theorem d_E_at_104 : decode b_E_at 104 = .ok (.lstore 9, 2) := by decide +kernel
theorem d_E_at_106 : decode b_E_at 106 = .ok (.lload 4, 2) := by decide +kernel
theorem d_E_at_108 : decode b_E_at 108 = .ok (.iload 8, 2) := by decide +kernel
theorem d_E_at_110 : decode b_E_at 110 = .ok (.lshr, 1) := by decide +kernel
theorem d_E_at_111 : decode b_E_at 111 = .ok (.lstore 11, 2) := by decide +kernel
theorem d_E_at_113 : decode b_E_at 113 = .ok (.lload 6, 2) := by decide +kernel
theorem d_E_at_115 : decode b_E_at 115 = .ok (.iload 8, 2) := by decide +kernel
theorem d_E_at_117 : decode b_E_at 117 = .ok (.lshr, 1) := by decide +kernel
theorem d_E_at_118 : decode b_E_at 118 = .ok (.lstore 13, 2) := by decide +kernel
theorem d_E_at_120 : decode b_E_at 120 = .ok (.lload 9, 2) := by decide +kernel
theorem d_E_at_122 : decode b_E_at 122 = .ok (.aload_n 0, 1) := by decide +kernel
theorem d_E_at_123 : decode b_E_at 123 = .ok (.getfield 10, 3) := by decide +kernel
theorem d_E_at_126 : decode b_E_at 126 = .ok (.getfield 102, 3) := by decide +kernel
theorem d_E_at_129 : decode b_E_at 129 = .ok (.iload_n 1, 1) := by decide +kernel
theorem d_E_at_130 : decode b_E_at 130 = .ok (.iaload, 1) := by decide +kernel
theorem d_E_at_131 : decode b_E_at 131 = .ok (.i2l, 1) := by decide +kernel
theorem d_E_at_132 : decode b_E_at 132 = .ok (.lmul, 1) := by decide +kernel
theorem d_E_at_133 : decode b_E_at 133 = .ok (.lload 11, 2) := by decide +kernel
theorem d_E_at_135 : decode b_E_at 135 = .ok (.aload_n 0, 1) := by decide +kernel
theorem d_E_at_136 : decode b_E_at 136 = .ok (.getfield 16, 3) := by decide +kernel
theorem d_E_at_139 : decode b_E_at 139 = .ok (.getfield 102, 3) := by decide +kernel
theorem d_E_at_142 : decode b_E_at 142 = .ok (.iload_n 1, 1) := by decide +kernel
theorem d_E_at_143 : decode b_E_at 143 = .ok (.iaload, 1) := by decide +kernel
theorem d_E_at_144 : decode b_E_at 144 = .ok (.i2l, 1) := by decide +kernel
theorem d_E_at_145 : decode b_E_at 145 = .ok (.lmul, 1) := by decide +kernel
theorem d_E_at_146 : decode b_E_at 146 = .ok (.ladd, 1) := by decide +kernel
theorem d_E_at_147 : decode b_E_at 147 = .ok (.lload 13, 2) := by decide +kernel
theorem d_E_at_149 : decode b_E_at 149 = .ok (.aload_n 0, 1) := by decide +kernel
theorem d_E_at_150 : decode b_E_at 150 = .ok (.getfield 19, 3) := by decide +kernel
theorem d_E_at_153 : decode b_E_at 153 = .ok (.getfield 102, 3) := by decide +kernel
theorem d_E_at_156 : decode b_E_at 156 = .ok (.iload_n 1, 1) := by decide +kernel
theorem d_E_at_157 : decode b_E_at 157 = .ok (.iaload, 1) := by decide +kernel
theorem d_E_at_158 : decode b_E_at 158 = .ok (.i2l, 1) := by decide +kernel
theorem d_E_at_159 : decode b_E_at 159 = .ok (.lmul, 1) := by decide +kernel
theorem d_E_at_160 : decode b_E_at 160 = .ok (.ladd, 1) := by decide +kernel
theorem d_E_at_161 : decode b_E_at 161 = .ok (.lstore 15, 2) := by decide +kernel
theorem d_E_at_163 : decode b_E_at 163 = .ok (.lload 15, 2) := by decide +kernel
theorem d_E_at_165 : decode b_E_at 165 = .ok (.lload 9, 2) := by decide +kernel
theorem d_E_at_167 : decode b_E_at 167 = .ok (.lload 11, 2) := by decide +kernel
theorem d_E_at_169 : decode b_E_at 169 = .ok (.ladd, 1) := by decide +kernel
theorem d_E_at_170 : decode b_E_at 170 = .ok (.lload 13, 2) := by decide +kernel
theorem d_E_at_172 : decode b_E_at 172 = .ok (.ladd, 1) := by decide +kernel
theorem d_E_at_173 : decode b_E_at 173 = .ok (.invokestatic 138, 3) := by decide +kernel
theorem d_E_at_176 : decode b_E_at 176 = .ok (.l2i, 1) := by decide +kernel
theorem d_E_at_177 : decode b_E_at 177 = .ok (.ireturn, 1) := by decide +kernel
theorem d_E_within_0 : decode b_E_within 0 = .ok (.iload_n 0, 1) := by decide +kernel
theorem d_E_within_1 : decode b_E_within 1 = .ok (.iload_n 1, 1) := by decide +kernel
theorem d_E_within_2 : decode b_E_within 2 = .ok (.if_icmp .lt 12, 3) := by decide +kernel
theorem d_E_within_5 : decode b_E_within 5 = .ok (.iload_n 0, 1) := by decide +kernel
theorem d_E_within_6 : decode b_E_within 6 = .ok (.iload_n 2, 1) := by decide +kernel
theorem d_E_within_7 : decode b_E_within 7 = .ok (.if_icmp .gt 7, 3) := by decide +kernel
theorem d_E_within_10 : decode b_E_within 10 = .ok (.iconst 1, 1) := by decide +kernel
theorem d_E_within_11 : decode b_E_within 11 = .ok (.goto 4, 3) := by decide +kernel
theorem d_E_within_14 : decode b_E_within 14 = .ok (.iconst 0, 1) := by decide +kernel
theorem d_E_within_15 : decode b_E_within 15 = .ok (.ireturn, 1) := by decide +kernel
theorem d_E_isCorner_0 : decode b_E_isCorner 0 = .ok (.iload_n 0, 1) := by decide +kernel
theorem d_E_isCorner_1 : decode b_E_isCorner 1 = .ok (.iconst 0, 1) := by decide +kernel
theorem d_E_isCorner_2 : decode b_E_isCorner 2 = .ok (.iconst 2, 1) := by decide +kernel
theorem d_E_isCorner_3 : decode b_E_isCorner 3 = .ok (.invokestatic 63, 3) := by decide +kernel
theorem d_E_isCorner_6 : decode b_E_isCorner 6 = .ok (.ireturn, 1) := by decide +kernel
theorem d_E_isValue_0 : decode b_E_isValue 0 = .ok (.iload_n 0, 1) := by decide +kernel
theorem d_E_isValue_1 : decode b_E_isValue 1 = .ok (.iconst 0, 1) := by decide +kernel
theorem d_E_isValue_2 : decode b_E_isValue 2 = .ok (.bipush 27, 2) := by decide +kernel
theorem d_E_isValue_4 : decode b_E_isValue 4 = .ok (.invokestatic 63, 3) := by decide +kernel
theorem d_E_isValue_7 : decode b_E_isValue 7 = .ok (.ireturn, 1) := by decide +kernel
theorem d_E_cornerOf_0 : decode b_E_cornerOf 0 = .ok (.iload_n 1, 1) := by decide +kernel
theorem d_E_cornerOf_1 : decode b_E_cornerOf 1 = .ok (.ifCond .ne 8, 3) := by decide +kernel
theorem d_E_cornerOf_4 : decode b_E_cornerOf 4 = .ok (.aload_n 0, 1) := by decide +kernel
theorem d_E_cornerOf_5 : decode b_E_cornerOf 5 = .ok (.getfield 10, 3) := by decide +kernel
theorem d_E_cornerOf_8 : decode b_E_cornerOf 8 = .ok (.areturn, 1) := by decide +kernel
theorem d_E_cornerOf_9 : decode b_E_cornerOf 9 = .ok (.iload_n 1, 1) := by decide +kernel
theorem d_E_cornerOf_10 : decode b_E_cornerOf 10 = .ok (.iconst 1, 1) := by decide +kernel
theorem d_E_cornerOf_11 : decode b_E_cornerOf 11 = .ok (.if_icmp .ne 10, 3) := by decide +kernel
theorem d_E_cornerOf_14 : decode b_E_cornerOf 14 = .ok (.aload_n 0, 1) := by decide +kernel
theorem d_E_cornerOf_15 : decode b_E_cornerOf 15 = .ok (.getfield 16, 3) := by decide +kernel
theorem d_E_cornerOf_18 : decode b_E_cornerOf 18 = .ok (.goto 7, 3) := by decide +kernel
theorem d_E_cornerOf_21 : decode b_E_cornerOf 21 = .ok (.aload_n 0, 1) := by decide +kernel
theorem d_E_cornerOf_22 : decode b_E_cornerOf 22 = .ok (.getfield 19, 3) := by decide +kernel
theorem d_E_cornerOf_25 : decode b_E_cornerOf 25 = .ok (.areturn, 1) := by decide +kernel
theorem d_E_endWalk_0 : decode b_E_endWalk 0 = .ok (.aload_n 0, 1) := by decide +kernel
theorem d_E_endWalk_1 : decode b_E_endWalk 1 = .ok (.iconst 0, 1) := by decide +kernel
theorem d_E_endWalk_2 : decode b_E_endWalk 2 = .ok (.putfield 39, 3) := by decide +kernel
theorem d_E_endWalk_5 : decode b_E_endWalk 5 = .ok (.aload_n 0, 1) := by decide +kernel
theorem d_E_endWalk_6 : decode b_E_endWalk 6 = .ok (.iconst 0, 1) := by decide +kernel
theorem d_E_endWalk_7 : decode b_E_endWalk 7 = .ok (.putfield 43, 3) := by decide +kernel
theorem d_E_endWalk_10 : decode b_E_endWalk 10 = .ok (.return_, 1) := by decide +kernel
theorem d_E_layTriangle_0 : decode b_E_layTriangle 0 = .ok (.aload_n 0, 1) := by decide +kernel
theorem d_E_layTriangle_1 : decode b_E_layTriangle 1 = .ok (.aload_n 0, 1) := by decide +kernel
theorem d_E_layTriangle_2 : decode b_E_layTriangle 2 = .ok (.getfield 16, 3) := by decide +kernel
theorem d_E_layTriangle_5 : decode b_E_layTriangle 5 = .ok (.getfield 79, 3) := by decide +kernel
theorem d_E_layTriangle_8 : decode b_E_layTriangle 8 = .ok (.aload_n 0, 1) := by decide +kernel
theorem d_E_layTriangle_9 : decode b_E_layTriangle 9 = .ok (.getfield 10, 3) := by decide +kernel
theorem d_E_layTriangle_12 : decode b_E_layTriangle 12 = .ok (.getfield 79, 3) := by decide +kernel
theorem d_E_layTriangle_15 : decode b_E_layTriangle 15 = .ok (.isub, 1) := by decide +kernel
theorem d_E_layTriangle_16 : decode b_E_layTriangle 16 = .ok (.i2l, 1) := by decide +kernel
theorem d_E_layTriangle_17 : decode b_E_layTriangle 17 = .ok (.aload_n 0, 1) := by decide +kernel
theorem d_E_layTriangle_18 : decode b_E_layTriangle 18 = .ok (.getfield 19, 3) := by decide +kernel
theorem d_E_layTriangle_21 : decode b_E_layTriangle 21 = .ok (.getfield 82, 3) := by decide +kernel
theorem d_E_layTriangle_24 : decode b_E_layTriangle 24 = .ok (.aload_n 0, 1) := by decide +kernel
theorem d_E_layTriangle_25 : decode b_E_layTriangle 25 = .ok (.getfield 10, 3) := by decide +kernel
theorem d_E_layTriangle_28 : decode b_E_layTriangle 28 = .ok (.getfield 82, 3) := by decide +kernel
theorem d_E_layTriangle_31 : decode b_E_layTriangle 31 = .ok (.isub, 1) := by decide +kernel
theorem d_E_layTriangle_32 : decode b_E_layTriangle 32 = .ok (.i2l, 1) := by decide +kernel
theorem d_E_layTriangle_33 : decode b_E_layTriangle 33 = .ok (.lmul, 1) := by decide +kernel
theorem d_E_layTriangle_34 : decode b_E_layTriangle 34 = .ok (.aload_n 0, 1) := by decide +kernel
theorem d_E_layTriangle_35 : decode b_E_layTriangle 35 = .ok (.getfield 19, 3) := by decide +kernel
theorem d_E_layTriangle_38 : decode b_E_layTriangle 38 = .ok (.getfield 79, 3) := by decide +kernel
theorem d_E_layTriangle_41 : decode b_E_layTriangle 41 = .ok (.aload_n 0, 1) := by decide +kernel
theorem d_E_layTriangle_42 : decode b_E_layTriangle 42 = .ok (.getfield 10, 3) := by decide +kernel
theorem d_E_layTriangle_45 : decode b_E_layTriangle 45 = .ok (.getfield 79, 3) := by decide +kernel
theorem d_E_layTriangle_48 : decode b_E_layTriangle 48 = .ok (.isub, 1) := by decide +kernel
theorem d_E_layTriangle_49 : decode b_E_layTriangle 49 = .ok (.i2l, 1) := by decide +kernel
theorem d_E_layTriangle_50 : decode b_E_layTriangle 50 = .ok (.aload_n 0, 1) := by decide +kernel
theorem d_E_layTriangle_51 : decode b_E_layTriangle 51 = .ok (.getfield 16, 3) := by decide +kernel
theorem d_E_layTriangle_54 : decode b_E_layTriangle 54 = .ok (.getfield 82, 3) := by decide +kernel
theorem d_E_layTriangle_57 : decode b_E_layTriangle 57 = .ok (.aload_n 0, 1) := by decide +kernel
theorem d_E_layTriangle_58 : decode b_E_layTriangle 58 = .ok (.getfield 10, 3) := by decide +kernel
theorem d_E_layTriangle_61 : decode b_E_layTriangle 61 = .ok (.getfield 82, 3) := by decide +kernel
theorem d_E_layTriangle_64 : decode b_E_layTriangle 64 = .ok (.isub, 1) := by decide +kernel
theorem d_E_layTriangle_65 : decode b_E_layTriangle 65 = .ok (.i2l, 1) := by decide +kernel
theorem d_E_layTriangle_66 : decode b_E_layTriangle 66 = .ok (.lmul, 1) := by decide +kernel
theorem d_E_layTriangle_67 : decode b_E_layTriangle 67 = .ok (.lsub, 1) := by decide +kernel
theorem d_E_layTriangle_68 : decode b_E_layTriangle 68 = .ok (.putfield 22, 3) := by decide +kernel
theorem d_E_layTriangle_71 : decode b_E_layTriangle 71 = .ok (.aload_n 0, 1) := by decide +kernel
theorem d_E_layTriangle_72 : decode b_E_layTriangle 72 = .ok (.getfield 22, 3) := by decide +kernel
theorem d_E_layTriangle_75 : decode b_E_layTriangle 75 = .ok (.lconst 0, 1) := by decide +kernel
theorem d_E_layTriangle_76 : decode b_E_layTriangle 76 = .ok (.lcmp, 1) := by decide +kernel
theorem d_E_layTriangle_77 : decode b_E_layTriangle 77 = .ok (.ifCond .ge 51, 3) := by decide +kernel
theorem d_E_layTriangle_80 : decode b_E_layTriangle 80 = .ok (.aload_n 0, 1) := by decide +kernel
theorem d_E_layTriangle_81 : decode b_E_layTriangle 81 = .ok (.getfield 10, 3) := by decide +kernel
theorem d_E_layTriangle_84 : decode b_E_layTriangle 84 = .ok (.aload_n 0, 1) := by decide +kernel
theorem d_E_layTriangle_85 : decode b_E_layTriangle 85 = .ok (.getfield 19, 3) := by decide +kernel
theorem d_E_layTriangle_88 : decode b_E_layTriangle 88 = .ok (.aload_n 0, 1) := by decide +kernel
theorem d_E_layTriangle_89 : decode b_E_layTriangle 89 = .ok (.getfield 16, 3) := by decide +kernel
theorem d_E_layTriangle_92 : decode b_E_layTriangle 92 = .ok (.invokevirtual 154, 3) := by decide +kernel
theorem d_E_layTriangle_95 : decode b_E_layTriangle 95 = .ok (.aload_n 0, 1) := by decide +kernel
theorem d_E_layTriangle_96 : decode b_E_layTriangle 96 = .ok (.getfield 16, 3) := by decide +kernel
theorem d_E_layTriangle_99 : decode b_E_layTriangle 99 = .ok (.aload_n 0, 1) := by decide +kernel
theorem d_E_layTriangle_100 : decode b_E_layTriangle 100 = .ok (.getfield 10, 3) := by decide +kernel
theorem d_E_layTriangle_103 : decode b_E_layTriangle 103 = .ok (.aload_n 0, 1) := by decide +kernel
theorem d_E_layTriangle_104 : decode b_E_layTriangle 104 = .ok (.getfield 19, 3) := by decide +kernel
theorem d_E_layTriangle_107 : decode b_E_layTriangle 107 = .ok (.invokevirtual 154, 3) := by decide +kernel
theorem d_E_layTriangle_110 : decode b_E_layTriangle 110 = .ok (.aload_n 0, 1) := by decide +kernel
theorem d_E_layTriangle_111 : decode b_E_layTriangle 111 = .ok (.getfield 19, 3) := by decide +kernel
theorem d_E_layTriangle_114 : decode b_E_layTriangle 114 = .ok (.aload_n 0, 1) := by decide +kernel
theorem d_E_layTriangle_115 : decode b_E_layTriangle 115 = .ok (.getfield 16, 3) := by decide +kernel
theorem d_E_layTriangle_118 : decode b_E_layTriangle 118 = .ok (.aload_n 0, 1) := by decide +kernel
theorem d_E_layTriangle_119 : decode b_E_layTriangle 119 = .ok (.getfield 10, 3) := by decide +kernel
theorem d_E_layTriangle_122 : decode b_E_layTriangle 122 = .ok (.invokevirtual 154, 3) := by decide +kernel
theorem d_E_layTriangle_125 : decode b_E_layTriangle 125 = .ok (.goto 48, 3) := by decide +kernel
theorem d_E_layTriangle_128 : decode b_E_layTriangle 128 = .ok (.aload_n 0, 1) := by decide +kernel
theorem d_E_layTriangle_129 : decode b_E_layTriangle 129 = .ok (.getfield 10, 3) := by decide +kernel
theorem d_E_layTriangle_132 : decode b_E_layTriangle 132 = .ok (.aload_n 0, 1) := by decide +kernel
theorem d_E_layTriangle_133 : decode b_E_layTriangle 133 = .ok (.getfield 16, 3) := by decide +kernel
theorem d_E_layTriangle_136 : decode b_E_layTriangle 136 = .ok (.aload_n 0, 1) := by decide +kernel
theorem d_E_layTriangle_137 : decode b_E_layTriangle 137 = .ok (.getfield 19, 3) := by decide +kernel
theorem d_E_layTriangle_140 : decode b_E_layTriangle 140 = .ok (.invokevirtual 154, 3) := by decide +kernel
theorem d_E_layTriangle_143 : decode b_E_layTriangle 143 = .ok (.aload_n 0, 1) := by decide +kernel
theorem d_E_layTriangle_144 : decode b_E_layTriangle 144 = .ok (.getfield 16, 3) := by decide +kernel
theorem d_E_layTriangle_147 : decode b_E_layTriangle 147 = .ok (.aload_n 0, 1) := by decide +kernel
theorem d_E_layTriangle_148 : decode b_E_layTriangle 148 = .ok (.getfield 19, 3) := by decide +kernel
theorem d_E_layTriangle_151 : decode b_E_layTriangle 151 = .ok (.aload_n 0, 1) := by decide +kernel
theorem d_E_layTriangle_152 : decode b_E_layTriangle 152 = .ok (.getfield 10, 3) := by decide +kernel
theorem d_E_layTriangle_155 : decode b_E_layTriangle 155 = .ok (.invokevirtual 154, 3) := by decide +kernel
theorem d_E_layTriangle_158 : decode b_E_layTriangle 158 = .ok (.aload_n 0, 1) := by decide +kernel
theorem d_E_layTriangle_159 : decode b_E_layTriangle 159 = .ok (.getfield 19, 3) := by decide +kernel
theorem d_E_layTriangle_162 : decode b_E_layTriangle 162 = .ok (.aload_n 0, 1) := by decide +kernel
theorem d_E_layTriangle_163 : decode b_E_layTriangle 163 = .ok (.getfield 10, 3) := by decide +kernel
theorem d_E_layTriangle_166 : decode b_E_layTriangle 166 = .ok (.aload_n 0, 1) := by decide +kernel
theorem d_E_layTriangle_167 : decode b_E_layTriangle 167 = .ok (.getfield 16, 3) := by decide +kernel
theorem d_E_layTriangle_170 : decode b_E_layTriangle 170 = .ok (.invokevirtual 154, 3) := by decide +kernel
theorem d_E_layTriangle_173 : decode b_E_layTriangle 173 = .ok (.return_, 1) := by decide +kernel
theorem d_E_isCovered_0 : decode b_E_isCovered 0 = .ok (.aload_n 0, 1) := by decide +kernel
theorem d_E_isCovered_1 : decode b_E_isCovered 1 = .ok (.getfield 22, 3) := by decide +kernel
theorem d_E_isCovered_4 : decode b_E_isCovered 4 = .ok (.lconst 0, 1) := by decide +kernel
theorem d_E_isCovered_5 : decode b_E_isCovered 5 = .ok (.lcmp, 1) := by decide +kernel
theorem d_E_isCovered_6 : decode b_E_isCovered 6 = .ok (.ifCond .eq 43, 3) := by decide +kernel
theorem d_E_isCovered_9 : decode b_E_isCovered 9 = .ok (.aload_n 0, 1) := by decide +kernel
theorem d_E_isCovered_10 : decode b_E_isCovered 10 = .ok (.getfield 10, 3) := by decide +kernel
theorem d_E_isCovered_13 : decode b_E_isCovered 13 = .ok (.iload_n 1, 1) := by decide +kernel
theorem d_E_isCovered_14 : decode b_E_isCovered 14 = .ok (.iload_n 2, 1) := by decide +kernel
theorem d_E_isCovered_15 : decode b_E_isCovered 15 = .ok (.invokevirtual 158, 3) := by decide +kernel
theorem d_E_isCovered_18 : decode b_E_isCovered 18 = .ok (.ifCond .eq 31, 3) := by decide +kernel
theorem d_E_isCovered_21 : decode b_E_isCovered 21 = .ok (.aload_n 0, 1) := by decide +kernel
theorem d_E_isCovered_22 : decode b_E_isCovered 22 = .ok (.getfield 16, 3) := by decide +kernel
theorem d_E_isCovered_25 : decode b_E_isCovered 25 = .ok (.iload_n 1, 1) := by decide +kernel
theorem d_E_isCovered_26 : decode b_E_isCovered 26 = .ok (.iload_n 2, 1) := by decide +kernel
theorem d_E_isCovered_27 : decode b_E_isCovered 27 = .ok (.invokevirtual 158, 3) := by decide +kernel
theorem d_E_isCovered_30 : decode b_E_isCovered 30 = .ok (.ifCond .eq 19, 3) := by decide +kernel
theorem d_E_isCovered_33 : decode b_E_isCovered 33 = .ok (.aload_n 0, 1) := by decide +kernel
theorem d_E_isCovered_34 : decode b_E_isCovered 34 = .ok (.getfield 19, 3) := by decide +kernel
theorem d_E_isCovered_37 : decode b_E_isCovered 37 = .ok (.iload_n 1, 1) := by decide +kernel
theorem d_E_isCovered_38 : decode b_E_isCovered 38 = .ok (.iload_n 2, 1) := by decide +kernel
theorem d_E_isCovered_39 : decode b_E_isCovered 39 = .ok (.invokevirtual 158, 3) := by decide +kernel
theorem d_E_isCovered_42 : decode b_E_isCovered 42 = .ok (.ifCond .eq 7, 3) := by decide +kernel
theorem d_E_isCovered_45 : decode b_E_isCovered 45 = .ok (.iconst 1, 1) := by decide +kernel
theorem d_E_isCovered_46 : decode b_E_isCovered 46 = .ok (.goto 4, 3) := by decide +kernel
theorem d_E_isCovered_49 : decode b_E_isCovered 49 = .ok (.iconst 0, 1) := by decide +kernel
theorem d_E_isCovered_50 : decode b_E_isCovered 50 = .ok (.ireturn, 1) := by decide +kernel
theorem d_E_firstCovered_0 : decode b_E_firstCovered 0 = .ok (.iload_n 1, 1) := by decide +kernel
theorem d_E_firstCovered_1 : decode b_E_firstCovered 1 = .ok (.istore_n 3, 1) := by decide +kernel
theorem d_E_firstCovered_2 : decode b_E_firstCovered 2 = .ok (.iload_n 3, 1) := by decide +kernel
theorem d_E_firstCovered_3 : decode b_E_firstCovered 3 = .ok (.aload_n 0, 1) := by decide +kernel
theorem d_E_firstCovered_4 : decode b_E_firstCovered 4 = .ok (.getfield 26, 3) := by decide +kernel
theorem d_E_firstCovered_7 : decode b_E_firstCovered 7 = .ok (.aload_n 0, 1) := by decide +kernel
theorem d_E_firstCovered_8 : decode b_E_firstCovered 8 = .ok (.getfield 33, 3) := by decide +kernel
theorem d_E_firstCovered_11 : decode b_E_firstCovered 11 = .ok (.iadd, 1) := by decide +kernel
theorem d_E_firstCovered_12 : decode b_E_firstCovered 12 = .ok (.if_icmp .ge 20, 3) := by decide +kernel
theorem d_E_firstCovered_15 : decode b_E_firstCovered 15 = .ok (.aload_n 0, 1) := by decide +kernel
theorem d_E_firstCovered_16 : decode b_E_firstCovered 16 = .ok (.iload_n 3, 1) := by decide +kernel
theorem d_E_firstCovered_17 : decode b_E_firstCovered 17 = .ok (.iload_n 2, 1) := by decide +kernel
theorem d_E_firstCovered_18 : decode b_E_firstCovered 18 = .ok (.invokevirtual 112, 3) := by decide +kernel
theorem d_E_firstCovered_21 : decode b_E_firstCovered 21 = .ok (.ifCond .eq 5, 3) := by decide +kernel
theorem d_E_firstCovered_24 : decode b_E_firstCovered 24 = .ok (.iload_n 3, 1) := by decide +kernel
theorem d_E_firstCovered_25 : decode b_E_firstCovered 25 = .ok (.ireturn, 1) := by decide +kernel
theorem d_E_firstCovered_26 : decode b_E_firstCovered 26 = .ok (.iinc 3 1, 3) := by decide +kernel
theorem d_E_firstCovered_29 : decode b_E_firstCovered 29 = .ok (.goto (-27), 3) := by decide +kernel
theorem d_E_firstCovered_32 : decode b_E_firstCovered 32 = .ok (.aload_n 0, 1) := by decide +kernel
theorem d_E_firstCovered_33 : decode b_E_firstCovered 33 = .ok (.getfield 26, 3) := by decide +kernel
theorem d_E_firstCovered_36 : decode b_E_firstCovered 36 = .ok (.aload_n 0, 1) := by decide +kernel
theorem d_E_firstCovered_37 : decode b_E_firstCovered 37 = .ok (.getfield 33, 3) := by decide +kernel
theorem d_E_firstCovered_40 : decode b_E_firstCovered 40 = .ok (.iadd, 1) := by decide +kernel
theorem d_E_firstCovered_41 : decode b_E_firstCovered 41 = .ok (.ireturn, 1) := by decide +kernel
theorem d_E_shareShift_0 : decode b_E_shareShift 0 = .ok (.iconst 0, 1) := by decide +kernel
theorem d_E_shareShift_1 : decode b_E_shareShift 1 = .ok (.istore_n 2, 1) := by decide +kernel
theorem d_E_shareShift_2 : decode b_E_shareShift 2 = .ok (.iload_n 2, 1) := by decide +kernel
theorem d_E_shareShift_3 : decode b_E_shareShift 3 = .ok (.bipush 63, 2) := by decide +kernel
theorem d_E_shareShift_5 : decode b_E_shareShift 5 = .ok (.if_icmp .ge 19, 3) := by decide +kernel
theorem d_E_shareShift_8 : decode b_E_shareShift 8 = .ok (.lload_n 0, 1) := by decide +kernel
theorem d_E_shareShift_9 : decode b_E_shareShift 9 = .ok (.iload_n 2, 1) := by decide +kernel
theorem d_E_shareShift_10 : decode b_E_shareShift 10 = .ok (.lshr, 1) := by decide +kernel
theorem d_E_shareShift_11 : decode b_E_shareShift 11 = .ok (.ldc2_w 161, 3) := by decide +kernel
theorem d_E_shareShift_14 : decode b_E_shareShift 14 = .ok (.lcmp, 1) := by decide +kernel
theorem d_E_shareShift_15 : decode b_E_shareShift 15 = .ok (.ifCond .lt 9, 3) := by decide +kernel
theorem d_E_shareShift_18 : decode b_E_shareShift 18 = .ok (.iinc 2 1, 3) := by decide +kernel
theorem d_E_shareShift_21 : decode b_E_shareShift 21 = .ok (.goto (-19), 3) := by decide +kernel
theorem d_E_shareShift_24 : decode b_E_shareShift 24 = .ok (.iload_n 2, 1) := by decide +kernel
theorem d_E_shareShift_25 : decode b_E_shareShift 25 = .ok (.ireturn, 1) := by decide +kernel
theorem d_E_dividedDown_0 : decode b_E_dividedDown 0 = .ok (.lload_n 2, 1) := by decide +kernel
theorem d_E_dividedDown_1 : decode b_E_dividedDown 1 = .ok (.lconst 0, 1) := by decide +kernel
theorem d_E_dividedDown_2 : decode b_E_dividedDown 2 = .ok (.lcmp, 1) := by decide +kernel
theorem d_E_dividedDown_3 : decode b_E_dividedDown 3 = .ok (.ifCond .le 11, 3) := by decide +kernel
theorem d_E_dividedDown_6 : decode b_E_dividedDown 6 = .ok (.lload_n 0, 1) := by decide +kernel
theorem d_E_dividedDown_7 : decode b_E_dividedDown 7 = .ok (.lload_n 2, 1) := by decide +kernel
theorem d_E_dividedDown_8 : decode b_E_dividedDown 8 = .ok (.invokestatic 163, 3) := by decide +kernel
theorem d_E_dividedDown_11 : decode b_E_dividedDown 11 = .ok (.goto 4, 3) := by decide +kernel
theorem d_E_dividedDown_14 : decode b_E_dividedDown 14 = .ok (.lconst 0, 1) := by decide +kernel
theorem d_E_dividedDown_15 : decode b_E_dividedDown 15 = .ok (.lreturn, 1) := by decide +kernel
end
section
theorem d_M_init_0 : decode b_M_init 0 = .ok (.aload_n 0, 1) := by decide +kernel
theorem d_M_init_1 : decode b_M_init 1 = .ok (.invokespecial 1, 3) := by decide +kernel
theorem d_M_init_4 : decode b_M_init 4 = .ok (.aload_n 0, 1) := by decide +kernel
theorem d_M_init_5 : decode b_M_init 5 = .ok (.iconst 3, 1) := by decide +kernel
theorem d_M_init_6 : decode b_M_init 6 = .ok (.newarray .int, 2) := by decide +kernel
theorem d_M_init_8 : decode b_M_init 8 = .ok (.putfield 7, 3) := by decide +kernel
theorem d_M_init_11 : decode b_M_init 11 = .ok (.aload_n 0, 1) := by decide +kernel
theorem d_M_init_12 : decode b_M_init 12 = .ok (.iconst 3, 1) := by decide +kernel
theorem d_M_init_13 : decode b_M_init 13 = .ok (.newarray .int, 2) := by decide +kernel
theorem d_M_init_15 : decode b_M_init 15 = .ok (.putfield 13, 3) := by decide +kernel
theorem d_M_init_18 : decode b_M_init 18 = .ok (.aload_n 0, 1) := by decide +kernel
theorem d_M_init_19 : decode b_M_init 19 = .ok (.iconst 3, 1) := by decide +kernel
theorem d_M_init_20 : decode b_M_init 20 = .ok (.newarray .int, 2) := by decide +kernel
theorem d_M_init_22 : decode b_M_init 22 = .ok (.putfield 16, 3) := by decide +kernel
theorem d_M_init_25 : decode b_M_init 25 = .ok (.aload_n 0, 1) := by decide +kernel
theorem d_M_init_26 : decode b_M_init 26 = .ok (.iconst 3, 1) := by decide +kernel
theorem d_M_init_27 : decode b_M_init 27 = .ok (.newarray .int, 2) := by decide +kernel
theorem d_M_init_29 : decode b_M_init 29 = .ok (.putfield 19, 3) := by decide +kernel
theorem d_M_init_32 : decode b_M_init 32 = .ok (.aload_n 0, 1) := by decide +kernel
theorem d_M_init_33 : decode b_M_init 33 = .ok (.bipush 84, 2) := by decide +kernel
theorem d_M_init_35 : decode b_M_init 35 = .ok (.newarray .int, 2) := by decide +kernel
theorem d_M_init_37 : decode b_M_init 37 = .ok (.putfield 22, 3) := by decide +kernel
theorem d_M_init_40 : decode b_M_init 40 = .ok (.aload_n 0, 1) := by decide +kernel
theorem d_M_init_41 : decode b_M_init 41 = .ok (.iconst 1, 1) := by decide +kernel
theorem d_M_init_42 : decode b_M_init 42 = .ok (.putfield 25, 3) := by decide +kernel
theorem d_M_init_45 : decode b_M_init 45 = .ok (.aload_n 0, 1) := by decide +kernel
theorem d_M_init_46 : decode b_M_init 46 = .ok (.iconst 1, 1) := by decide +kernel
theorem d_M_init_47 : decode b_M_init 47 = .ok (.putfield 29, 3) := by decide +kernel
theorem d_M_init_50 : decode b_M_init 50 = .ok (.iconst 0, 1) := by decide +kernel
theorem d_M_init_51 : decode b_M_init 51 = .ok (.istore_n 1, 1) := by decide +kernel
theorem d_M_init_52 : decode b_M_init 52 = .ok (.iload_n 1, 1) := by decide +kernel
theorem d_M_init_53 : decode b_M_init 53 = .ok (.iconst 3, 1) := by decide +kernel
theorem d_M_init_54 : decode b_M_init 54 = .ok (.if_icmp .ge 16, 3) := by decide +kernel
theorem d_M_init_57 : decode b_M_init 57 = .ok (.aload_n 0, 1) := by decide +kernel
theorem d_M_init_58 : decode b_M_init 58 = .ok (.getfield 19, 3) := by decide +kernel
theorem d_M_init_61 : decode b_M_init 61 = .ok (.iload_n 1, 1) := by decide +kernel
theorem d_M_init_62 : decode b_M_init 62 = .ok (.iconst 1, 1) := by decide +kernel
theorem d_M_init_63 : decode b_M_init 63 = .ok (.iastore, 1) := by decide +kernel
theorem d_M_init_64 : decode b_M_init 64 = .ok (.iinc 1 1, 3) := by decide +kernel
theorem d_M_init_67 : decode b_M_init 67 = .ok (.goto (-15), 3) := by decide +kernel
theorem d_M_init_70 : decode b_M_init 70 = .ok (.return_, 1) := by decide +kernel
theorem d_M_thrown_0 : decode b_M_thrown 0 = .ok (.aload_n 0, 1) := by decide +kernel
theorem d_M_thrown_1 : decode b_M_thrown 1 = .ok (.getfield 32, 3) := by decide +kernel
theorem d_M_thrown_4 : decode b_M_thrown 4 = .ok (.ireturn, 1) := by decide +kernel
theorem d_M_refuse_0 : decode b_M_refuse 0 = .ok (.aload_n 0, 1) := by decide +kernel
theorem d_M_refuse_1 : decode b_M_refuse 1 = .ok (.iload_n 1, 1) := by decide +kernel
theorem d_M_refuse_2 : decode b_M_refuse 2 = .ok (.ifCond .eq 7, 3) := by decide +kernel
theorem d_M_refuse_5 : decode b_M_refuse 5 = .ok (.iconst 1, 1) := by decide +kernel
theorem d_M_refuse_6 : decode b_M_refuse 6 = .ok (.goto 12, 3) := by decide +kernel
theorem d_M_refuse_9 : decode b_M_refuse 9 = .ok (.iload_n 2, 1) := by decide +kernel
theorem d_M_refuse_10 : decode b_M_refuse 10 = .ok (.ifCond .eq 7, 3) := by decide +kernel
theorem d_M_refuse_13 : decode b_M_refuse 13 = .ok (.iconst 2, 1) := by decide +kernel
theorem d_M_refuse_14 : decode b_M_refuse 14 = .ok (.goto 4, 3) := by decide +kernel
theorem d_M_refuse_17 : decode b_M_refuse 17 = .ok (.iconst 0, 1) := by decide +kernel
theorem d_M_refuse_18 : decode b_M_refuse 18 = .ok (.putfield 32, 3) := by decide +kernel
theorem d_M_refuse_21 : decode b_M_refuse 21 = .ok (.aload_n 0, 1) := by decide +kernel
theorem d_M_refuse_22 : decode b_M_refuse 22 = .ok (.getfield 32, 3) := by decide +kernel
theorem d_M_refuse_25 : decode b_M_refuse 25 = .ok (.ifCond .le 7, 3) := by decide +kernel
theorem d_M_refuse_28 : decode b_M_refuse 28 = .ok (.iconst 1, 1) := by decide +kernel
theorem d_M_refuse_29 : decode b_M_refuse 29 = .ok (.goto 4, 3) := by decide +kernel
theorem d_M_refuse_32 : decode b_M_refuse 32 = .ok (.iconst 0, 1) := by decide +kernel
theorem d_M_refuse_33 : decode b_M_refuse 33 = .ok (.ireturn, 1) := by decide +kernel
theorem d_M_in__0 : decode b_M_in_ 0 = .ok (.iload_n 0, 1) := by decide +kernel
theorem d_M_in__1 : decode b_M_in_ 1 = .ok (.iload_n 1, 1) := by decide +kernel
theorem d_M_in__2 : decode b_M_in_ 2 = .ok (.if_icmp .lt 12, 3) := by decide +kernel
theorem d_M_in__5 : decode b_M_in_ 5 = .ok (.iload_n 0, 1) := by decide +kernel
theorem d_M_in__6 : decode b_M_in_ 6 = .ok (.iload_n 2, 1) := by decide +kernel
theorem d_M_in__7 : decode b_M_in_ 7 = .ok (.if_icmp .gt 7, 3) := by decide +kernel
theorem d_M_in__10 : decode b_M_in_ 10 = .ok (.iconst 1, 1) := by decide +kernel
theorem d_M_in__11 : decode b_M_in_ 11 = .ok (.goto 4, 3) := by decide +kernel
theorem d_M_in__14 : decode b_M_in_ 14 = .ok (.iconst 0, 1) := by decide +kernel
theorem d_M_in__15 : decode b_M_in_ 15 = .ok (.ireturn, 1) := by decide +kernel
theorem d_M_corner_0 : decode b_M_corner 0 = .ok (.iload_n 1, 1) := by decide +kernel
theorem d_M_corner_1 : decode b_M_corner 1 = .ok (.iconst 0, 1) := by decide +kernel
theorem d_M_corner_2 : decode b_M_corner 2 = .ok (.iconst 2, 1) := by decide +kernel
theorem d_M_corner_3 : decode b_M_corner 3 = .ok (.invokestatic 35, 3) := by decide +kernel
theorem d_M_corner_6 : decode b_M_corner 6 = .ok (.ifCond .eq 55, 3) := by decide +kernel
theorem d_M_corner_9 : decode b_M_corner 9 = .ok (.iload_n 2, 1) := by decide +kernel
theorem d_M_corner_10 : decode b_M_corner 10 = .ok (.sipush (-16384), 3) := by decide +kernel
theorem d_M_corner_13 : decode b_M_corner 13 = .ok (.sipush 16383, 3) := by decide +kernel
theorem d_M_corner_16 : decode b_M_corner 16 = .ok (.invokestatic 35, 3) := by decide +kernel
theorem d_M_corner_19 : decode b_M_corner 19 = .ok (.ifCond .eq 42, 3) := by decide +kernel
theorem d_M_corner_22 : decode b_M_corner 22 = .ok (.iload_n 3, 1) := by decide +kernel
theorem d_M_corner_23 : decode b_M_corner 23 = .ok (.sipush (-16384), 3) := by decide +kernel
theorem d_M_corner_26 : decode b_M_corner 26 = .ok (.sipush 16383, 3) := by decide +kernel
theorem d_M_corner_29 : decode b_M_corner 29 = .ok (.invokestatic 35, 3) := by decide +kernel
theorem d_M_corner_32 : decode b_M_corner 32 = .ok (.ifCond .eq 29, 3) := by decide +kernel
theorem d_M_corner_35 : decode b_M_corner 35 = .ok (.iload 4, 2) := by decide +kernel
theorem d_M_corner_37 : decode b_M_corner 37 = .ok (.iconst 0, 1) := by decide +kernel
theorem d_M_corner_38 : decode b_M_corner 38 = .ok (.ldc 39, 2) := by decide +kernel
theorem d_M_corner_40 : decode b_M_corner 40 = .ok (.invokestatic 35, 3) := by decide +kernel
theorem d_M_corner_43 : decode b_M_corner 43 = .ok (.ifCond .eq 18, 3) := by decide +kernel
theorem d_M_corner_46 : decode b_M_corner 46 = .ok (.iload 5, 2) := by decide +kernel
theorem d_M_corner_48 : decode b_M_corner 48 = .ok (.iconst 1, 1) := by decide +kernel
theorem d_M_corner_49 : decode b_M_corner 49 = .ok (.ldc 40, 2) := by decide +kernel
theorem d_M_corner_51 : decode b_M_corner 51 = .ok (.invokestatic 35, 3) := by decide +kernel
theorem d_M_corner_54 : decode b_M_corner 54 = .ok (.ifCond .eq 7, 3) := by decide +kernel
theorem d_M_corner_57 : decode b_M_corner 57 = .ok (.iconst 1, 1) := by decide +kernel
theorem d_M_corner_58 : decode b_M_corner 58 = .ok (.goto 4, 3) := by decide +kernel
theorem d_M_corner_61 : decode b_M_corner 61 = .ok (.iconst 0, 1) := by decide +kernel
theorem d_M_corner_62 : decode b_M_corner 62 = .ok (.istore 6, 2) := by decide +kernel
theorem d_M_corner_64 : decode b_M_corner 64 = .ok (.aload_n 0, 1) := by decide +kernel
theorem d_M_corner_65 : decode b_M_corner 65 = .ok (.iload 6, 2) := by decide +kernel
theorem d_M_corner_67 : decode b_M_corner 67 = .ok (.ifCond .ne 7, 3) := by decide +kernel
theorem d_M_corner_70 : decode b_M_corner 70 = .ok (.iconst 1, 1) := by decide +kernel
theorem d_M_corner_71 : decode b_M_corner 71 = .ok (.goto 4, 3) := by decide +kernel
theorem d_M_corner_74 : decode b_M_corner 74 = .ok (.iconst 0, 1) := by decide +kernel
theorem d_M_corner_75 : decode b_M_corner 75 = .ok (.iconst 0, 1) := by decide +kernel
theorem d_M_corner_76 : decode b_M_corner 76 = .ok (.invokevirtual 41, 3) := by decide +kernel
theorem d_M_corner_79 : decode b_M_corner 79 = .ok (.ifCond .eq 4, 3) := by decide +kernel
theorem d_M_corner_82 : decode b_M_corner 82 = .ok (.return_, 1) := by decide +kernel
theorem d_M_corner_83 : decode b_M_corner 83 = .ok (.aload_n 0, 1) := by decide +kernel
theorem d_M_corner_84 : decode b_M_corner 84 = .ok (.getfield 7, 3) := by decide +kernel
theorem d_M_corner_87 : decode b_M_corner 87 = .ok (.iload_n 1, 1) := by decide +kernel
theorem d_M_corner_88 : decode b_M_corner 88 = .ok (.iload_n 2, 1) := by decide +kernel
theorem d_M_corner_89 : decode b_M_corner 89 = .ok (.iastore, 1) := by decide +kernel
theorem d_M_corner_90 : decode b_M_corner 90 = .ok (.aload_n 0, 1) := by decide +kernel
theorem d_M_corner_91 : decode b_M_corner 91 = .ok (.getfield 13, 3) := by decide +kernel
theorem d_M_corner_94 : decode b_M_corner 94 = .ok (.iload_n 1, 1) := by decide +kernel
theorem d_M_corner_95 : decode b_M_corner 95 = .ok (.iload_n 3, 1) := by decide +kernel
theorem d_M_corner_96 : decode b_M_corner 96 = .ok (.iastore, 1) := by decide +kernel
theorem d_M_corner_97 : decode b_M_corner 97 = .ok (.aload_n 0, 1) := by decide +kernel
theorem d_M_corner_98 : decode b_M_corner 98 = .ok (.getfield 16, 3) := by decide +kernel
theorem d_M_corner_101 : decode b_M_corner 101 = .ok (.iload_n 1, 1) := by decide +kernel
theorem d_M_corner_102 : decode b_M_corner 102 = .ok (.iload 4, 2) := by decide +kernel
theorem d_M_corner_104 : decode b_M_corner 104 = .ok (.iastore, 1) := by decide +kernel
theorem d_M_corner_105 : decode b_M_corner 105 = .ok (.aload_n 0, 1) := by decide +kernel
theorem d_M_corner_106 : decode b_M_corner 106 = .ok (.getfield 19, 3) := by decide +kernel
theorem d_M_corner_109 : decode b_M_corner 109 = .ok (.iload_n 1, 1) := by decide +kernel
theorem d_M_corner_110 : decode b_M_corner 110 = .ok (.iload 5, 2) := by decide +kernel
theorem d_M_corner_112 : decode b_M_corner 112 = .ok (.iastore, 1) := by decide +kernel
theorem d_M_corner_113 : decode b_M_corner 113 = .ok (.aload_n 0, 1) := by decide +kernel
theorem d_M_corner_114 : decode b_M_corner 114 = .ok (.iconst 0, 1) := by decide +kernel
theorem d_M_corner_115 : decode b_M_corner 115 = .ok (.putfield 45, 3) := by decide +kernel
theorem d_M_corner_118 : decode b_M_corner 118 = .ok (.return_, 1) := by decide +kernel
theorem d_M_value_0 : decode b_M_value 0 = .ok (.aload_n 0, 1) := by decide +kernel
theorem d_M_value_1 : decode b_M_value 1 = .ok (.iload_n 1, 1) := by decide +kernel
theorem d_M_value_2 : decode b_M_value 2 = .ok (.iconst 0, 1) := by decide +kernel
theorem d_M_value_3 : decode b_M_value 3 = .ok (.iconst 2, 1) := by decide +kernel
theorem d_M_value_4 : decode b_M_value 4 = .ok (.invokestatic 35, 3) := by decide +kernel
theorem d_M_value_7 : decode b_M_value 7 = .ok (.ifCond .eq 13, 3) := by decide +kernel
theorem d_M_value_10 : decode b_M_value 10 = .ok (.iload_n 2, 1) := by decide +kernel
theorem d_M_value_11 : decode b_M_value 11 = .ok (.iconst 0, 1) := by decide +kernel
theorem d_M_value_12 : decode b_M_value 12 = .ok (.bipush 27, 2) := by decide +kernel
theorem d_M_value_14 : decode b_M_value 14 = .ok (.invokestatic 35, 3) := by decide +kernel
theorem d_M_value_17 : decode b_M_value 17 = .ok (.ifCond .ne 7, 3) := by decide +kernel
theorem d_M_value_20 : decode b_M_value 20 = .ok (.iconst 1, 1) := by decide +kernel
theorem d_M_value_21 : decode b_M_value 21 = .ok (.goto 4, 3) := by decide +kernel
theorem d_M_value_24 : decode b_M_value 24 = .ok (.iconst 0, 1) := by decide +kernel
theorem d_M_value_25 : decode b_M_value 25 = .ok (.iconst 0, 1) := by decide +kernel
theorem d_M_value_26 : decode b_M_value 26 = .ok (.invokevirtual 41, 3) := by decide +kernel
theorem d_M_value_29 : decode b_M_value 29 = .ok (.ifCond .eq 4, 3) := by decide +kernel
theorem d_M_value_32 : decode b_M_value 32 = .ok (.return_, 1) := by decide +kernel
theorem d_M_value_33 : decode b_M_value 33 = .ok (.aload_n 0, 1) := by decide +kernel
theorem d_M_value_34 : decode b_M_value 34 = .ok (.getfield 22, 3) := by decide +kernel
theorem d_M_value_37 : decode b_M_value 37 = .ok (.bipush 28, 2) := by decide +kernel
theorem d_M_value_39 : decode b_M_value 39 = .ok (.iload_n 1, 1) := by decide +kernel
theorem d_M_value_40 : decode b_M_value 40 = .ok (.imul, 1) := by decide +kernel
theorem d_M_value_41 : decode b_M_value 41 = .ok (.iload_n 2, 1) := by decide +kernel
theorem d_M_value_42 : decode b_M_value 42 = .ok (.iadd, 1) := by decide +kernel
theorem d_M_value_43 : decode b_M_value 43 = .ok (.iload_n 3, 1) := by decide +kernel
theorem d_M_value_44 : decode b_M_value 44 = .ok (.iastore, 1) := by decide +kernel
theorem d_M_value_45 : decode b_M_value 45 = .ok (.aload_n 0, 1) := by decide +kernel
theorem d_M_value_46 : decode b_M_value 46 = .ok (.iconst 0, 1) := by decide +kernel
theorem d_M_value_47 : decode b_M_value 47 = .ok (.putfield 45, 3) := by decide +kernel
theorem d_M_value_50 : decode b_M_value 50 = .ok (.return_, 1) := by decide +kernel
theorem d_M_window_0 : decode b_M_window 0 = .ok (.aload_n 0, 1) := by decide +kernel
theorem d_M_window_1 : decode b_M_window 1 = .ok (.iload_n 1, 1) := by decide +kernel
theorem d_M_window_2 : decode b_M_window 2 = .ok (.iconst 0, 1) := by decide +kernel
theorem d_M_window_3 : decode b_M_window 3 = .ok (.sipush 1023, 3) := by decide +kernel
theorem d_M_window_6 : decode b_M_window 6 = .ok (.invokestatic 35, 3) := by decide +kernel
theorem d_M_window_9 : decode b_M_window 9 = .ok (.ifCond .eq 35, 3) := by decide +kernel
theorem d_M_window_12 : decode b_M_window 12 = .ok (.iload_n 2, 1) := by decide +kernel
theorem d_M_window_13 : decode b_M_window 13 = .ok (.iconst 0, 1) := by decide +kernel
theorem d_M_window_14 : decode b_M_window 14 = .ok (.sipush 1023, 3) := by decide +kernel
theorem d_M_window_17 : decode b_M_window 17 = .ok (.invokestatic 35, 3) := by decide +kernel
theorem d_M_window_20 : decode b_M_window 20 = .ok (.ifCond .eq 24, 3) := by decide +kernel
theorem d_M_window_23 : decode b_M_window 23 = .ok (.iload_n 3, 1) := by decide +kernel
theorem d_M_window_24 : decode b_M_window 24 = .ok (.iconst 1, 1) := by decide +kernel
theorem d_M_window_25 : decode b_M_window 25 = .ok (.bipush 64, 2) := by decide +kernel
theorem d_M_window_27 : decode b_M_window 27 = .ok (.invokestatic 35, 3) := by decide +kernel
theorem d_M_window_30 : decode b_M_window 30 = .ok (.ifCond .eq 14, 3) := by decide +kernel
theorem d_M_window_33 : decode b_M_window 33 = .ok (.iload 4, 2) := by decide +kernel
theorem d_M_window_35 : decode b_M_window 35 = .ok (.iconst 1, 1) := by decide +kernel
theorem d_M_window_36 : decode b_M_window 36 = .ok (.bipush 64, 2) := by decide +kernel
theorem d_M_window_38 : decode b_M_window 38 = .ok (.invokestatic 35, 3) := by decide +kernel
theorem d_M_window_41 : decode b_M_window 41 = .ok (.ifCond .ne 7, 3) := by decide +kernel
theorem d_M_window_44 : decode b_M_window 44 = .ok (.iconst 1, 1) := by decide +kernel
theorem d_M_window_45 : decode b_M_window 45 = .ok (.goto 4, 3) := by decide +kernel
theorem d_M_window_48 : decode b_M_window 48 = .ok (.iconst 0, 1) := by decide +kernel
theorem d_M_window_49 : decode b_M_window 49 = .ok (.iconst 0, 1) := by decide +kernel
theorem d_M_window_50 : decode b_M_window 50 = .ok (.invokevirtual 41, 3) := by decide +kernel
theorem d_M_window_53 : decode b_M_window 53 = .ok (.ifCond .eq 4, 3) := by decide +kernel
theorem d_M_window_56 : decode b_M_window 56 = .ok (.return_, 1) := by decide +kernel
theorem d_M_window_57 : decode b_M_window 57 = .ok (.aload_n 0, 1) := by decide +kernel
theorem d_M_window_58 : decode b_M_window 58 = .ok (.iload_n 1, 1) := by decide +kernel
theorem d_M_window_59 : decode b_M_window 59 = .ok (.putfield 49, 3) := by decide +kernel
theorem d_M_window_62 : decode b_M_window 62 = .ok (.aload_n 0, 1) := by decide +kernel
theorem d_M_window_63 : decode b_M_window 63 = .ok (.iload_n 2, 1) := by decide +kernel
theorem d_M_window_64 : decode b_M_window 64 = .ok (.putfield 52, 3) := by decide +kernel
theorem d_M_window_67 : decode b_M_window 67 = .ok (.aload_n 0, 1) := by decide +kernel
theorem d_M_window_68 : decode b_M_window 68 = .ok (.iload_n 3, 1) := by decide +kernel
theorem d_M_window_69 : decode b_M_window 69 = .ok (.putfield 25, 3) := by decide +kernel
theorem d_M_window_72 : decode b_M_window 72 = .ok (.aload_n 0, 1) := by decide +kernel
theorem d_M_window_73 : decode b_M_window 73 = .ok (.iload 4, 2) := by decide +kernel
theorem d_M_window_75 : decode b_M_window 75 = .ok (.putfield 29, 3) := by decide +kernel
theorem d_M_window_78 : decode b_M_window 78 = .ok (.aload_n 0, 1) := by decide +kernel
theorem d_M_window_79 : decode b_M_window 79 = .ok (.iconst 0, 1) := by decide +kernel
theorem d_M_window_80 : decode b_M_window 80 = .ok (.putfield 45, 3) := by decide +kernel
theorem d_M_window_83 : decode b_M_window 83 = .ok (.return_, 1) := by decide +kernel
theorem d_M_room_0 : decode b_M_room 0 = .ok (.aload_n 0, 1) := by decide +kernel
theorem d_M_room_1 : decode b_M_room 1 = .ok (.getfield 7, 3) := by decide +kernel
theorem d_M_room_4 : decode b_M_room 4 = .ok (.iload_n 2, 1) := by decide +kernel
theorem d_M_room_5 : decode b_M_room 5 = .ok (.iaload, 1) := by decide +kernel
theorem d_M_room_6 : decode b_M_room 6 = .ok (.aload_n 0, 1) := by decide +kernel
theorem d_M_room_7 : decode b_M_room 7 = .ok (.getfield 7, 3) := by decide +kernel
theorem d_M_room_10 : decode b_M_room 10 = .ok (.iload_n 1, 1) := by decide +kernel
theorem d_M_room_11 : decode b_M_room 11 = .ok (.iaload, 1) := by decide +kernel
theorem d_M_room_12 : decode b_M_room 12 = .ok (.isub, 1) := by decide +kernel
theorem d_M_room_13 : decode b_M_room 13 = .ok (.i2l, 1) := by decide +kernel
theorem d_M_room_14 : decode b_M_room 14 = .ok (.lstore 5, 2) := by decide +kernel
theorem d_M_room_16 : decode b_M_room 16 = .ok (.aload_n 0, 1) := by decide +kernel
theorem d_M_room_17 : decode b_M_room 17 = .ok (.getfield 13, 3) := by decide +kernel
theorem d_M_room_20 : decode b_M_room 20 = .ok (.iload_n 2, 1) := by decide +kernel
theorem d_M_room_21 : decode b_M_room 21 = .ok (.iaload, 1) := by decide +kernel
theorem d_M_room_22 : decode b_M_room 22 = .ok (.aload_n 0, 1) := by decide +kernel
theorem d_M_room_23 : decode b_M_room 23 = .ok (.getfield 13, 3) := by decide +kernel
theorem d_M_room_26 : decode b_M_room 26 = .ok (.iload_n 1, 1) := by decide +kernel
theorem d_M_room_27 : decode b_M_room 27 = .ok (.iaload, 1) := by decide +kernel
theorem d_M_room_28 : decode b_M_room 28 = .ok (.isub, 1) := by decide +kernel
theorem d_M_room_29 : decode b_M_room 29 = .ok (.i2l, 1) := by decide +kernel
theorem d_M_room_30 : decode b_M_room 30 = .ok (.lstore 7, 2) := by decide +kernel
theorem d_M_room_32 : decode b_M_room 32 = .ok (.lload 5, 2) := by decide +kernel
theorem d_M_room_34 : decode b_M_room 34 = .ok (.iload 4, 2) := by decide +kernel
theorem d_M_room_36 : decode b_M_room 36 = .ok (.aload_n 0, 1) := by decide +kernel
theorem d_M_room_37 : decode b_M_room 37 = .ok (.getfield 13, 3) := by decide +kernel
theorem d_M_room_40 : decode b_M_room 40 = .ok (.iload_n 1, 1) := by decide +kernel
theorem d_M_room_41 : decode b_M_room 41 = .ok (.iaload, 1) := by decide +kernel
theorem d_M_room_42 : decode b_M_room 42 = .ok (.isub, 1) := by decide +kernel
theorem d_M_room_43 : decode b_M_room 43 = .ok (.i2l, 1) := by decide +kernel
theorem d_M_room_44 : decode b_M_room 44 = .ok (.lmul, 1) := by decide +kernel
theorem d_M_room_45 : decode b_M_room 45 = .ok (.lload 7, 2) := by decide +kernel
theorem d_M_room_47 : decode b_M_room 47 = .ok (.iload_n 3, 1) := by decide +kernel
theorem d_M_room_48 : decode b_M_room 48 = .ok (.aload_n 0, 1) := by decide +kernel
theorem d_M_room_49 : decode b_M_room 49 = .ok (.getfield 7, 3) := by decide +kernel
theorem d_M_room_52 : decode b_M_room 52 = .ok (.iload_n 1, 1) := by decide +kernel
theorem d_M_room_53 : decode b_M_room 53 = .ok (.iaload, 1) := by decide +kernel
theorem d_M_room_54 : decode b_M_room 54 = .ok (.isub, 1) := by decide +kernel
theorem d_M_room_55 : decode b_M_room 55 = .ok (.i2l, 1) := by decide +kernel
theorem d_M_room_56 : decode b_M_room 56 = .ok (.lmul, 1) := by decide +kernel
theorem d_M_room_57 : decode b_M_room 57 = .ok (.lsub, 1) := by decide +kernel
theorem d_M_room_58 : decode b_M_room 58 = .ok (.lreturn, 1) := by decide +kernel
theorem d_M_whole_0 : decode b_M_whole 0 = .ok (.aload_n 0, 1) := by decide +kernel
theorem d_M_whole_1 : decode b_M_whole 1 = .ok (.iconst 0, 1) := by decide +kernel
theorem d_M_whole_2 : decode b_M_whole 2 = .ok (.iconst 1, 1) := by decide +kernel
theorem d_M_whole_3 : decode b_M_whole 3 = .ok (.aload_n 0, 1) := by decide +kernel
theorem d_M_whole_4 : decode b_M_whole 4 = .ok (.getfield 7, 3) := by decide +kernel
theorem d_M_whole_7 : decode b_M_whole 7 = .ok (.iconst 2, 1) := by decide +kernel
theorem d_M_whole_8 : decode b_M_whole 8 = .ok (.iaload, 1) := by decide +kernel
theorem d_M_whole_9 : decode b_M_whole 9 = .ok (.aload_n 0, 1) := by decide +kernel
theorem d_M_whole_10 : decode b_M_whole 10 = .ok (.getfield 13, 3) := by decide +kernel
theorem d_M_whole_13 : decode b_M_whole 13 = .ok (.iconst 2, 1) := by decide +kernel
theorem d_M_whole_14 : decode b_M_whole 14 = .ok (.iaload, 1) := by decide +kernel
theorem d_M_whole_15 : decode b_M_whole 15 = .ok (.invokevirtual 55, 3) := by decide +kernel
theorem d_M_whole_18 : decode b_M_whole 18 = .ok (.lreturn, 1) := by decide +kernel
theorem d_M_area_0 : decode b_M_area 0 = .ok (.aload_n 0, 1) := by decide +kernel
theorem d_M_area_1 : decode b_M_area 1 = .ok (.iconst 0, 1) := by decide +kernel
theorem d_M_area_2 : decode b_M_area 2 = .ok (.putfield 32, 3) := by decide +kernel
theorem d_M_area_5 : decode b_M_area 5 = .ok (.aload_n 0, 1) := by decide +kernel
theorem d_M_area_6 : decode b_M_area 6 = .ok (.invokevirtual 59, 3) := by decide +kernel
theorem d_M_area_9 : decode b_M_area 9 = .ok (.lreturn, 1) := by decide +kernel
theorem d_M_from_0 : decode b_M_from 0 = .ok (.aload_n 0, 1) := by decide +kernel
theorem d_M_from_1 : decode b_M_from 1 = .ok (.invokevirtual 59, 3) := by decide +kernel
theorem d_M_from_4 : decode b_M_from 4 = .ok (.lconst 0, 1) := by decide +kernel
theorem d_M_from_5 : decode b_M_from 5 = .ok (.lcmp, 1) := by decide +kernel
theorem d_M_from_6 : decode b_M_from 6 = .ok (.ifCond .ge 11, 3) := by decide +kernel
theorem d_M_from_9 : decode b_M_from 9 = .ok (.iload_n 1, 1) := by decide +kernel
theorem d_M_from_10 : decode b_M_from 10 = .ok (.iconst 2, 1) := by decide +kernel
theorem d_M_from_11 : decode b_M_from 11 = .ok (.iadd, 1) := by decide +kernel
theorem d_M_from_12 : decode b_M_from 12 = .ok (.iconst 3, 1) := by decide +kernel
theorem d_M_from_13 : decode b_M_from 13 = .ok (.irem, 1) := by decide +kernel
theorem d_M_from_14 : decode b_M_from 14 = .ok (.goto 8, 3) := by decide +kernel
theorem d_M_from_17 : decode b_M_from 17 = .ok (.iload_n 1, 1) := by decide +kernel
theorem d_M_from_18 : decode b_M_from 18 = .ok (.iconst 1, 1) := by decide +kernel
theorem d_M_from_19 : decode b_M_from 19 = .ok (.iadd, 1) := by decide +kernel
theorem d_M_from_20 : decode b_M_from 20 = .ok (.iconst 3, 1) := by decide +kernel
theorem d_M_from_21 : decode b_M_from 21 = .ok (.irem, 1) := by decide +kernel
theorem d_M_from_22 : decode b_M_from 22 = .ok (.ireturn, 1) := by decide +kernel
theorem d_M_to_0 : decode b_M_to 0 = .ok (.aload_n 0, 1) := by decide +kernel
theorem d_M_to_1 : decode b_M_to 1 = .ok (.invokevirtual 59, 3) := by decide +kernel
theorem d_M_to_4 : decode b_M_to 4 = .ok (.lconst 0, 1) := by decide +kernel
theorem d_M_to_5 : decode b_M_to 5 = .ok (.lcmp, 1) := by decide +kernel
theorem d_M_to_6 : decode b_M_to 6 = .ok (.ifCond .ge 11, 3) := by decide +kernel
theorem d_M_to_9 : decode b_M_to 9 = .ok (.iload_n 1, 1) := by decide +kernel
theorem d_M_to_10 : decode b_M_to 10 = .ok (.iconst 1, 1) := by decide +kernel
theorem d_M_to_11 : decode b_M_to 11 = .ok (.iadd, 1) := by decide +kernel
theorem d_M_to_12 : decode b_M_to 12 = .ok (.iconst 3, 1) := by decide +kernel
theorem d_M_to_13 : decode b_M_to 13 = .ok (.irem, 1) := by decide +kernel
theorem d_M_to_14 : decode b_M_to 14 = .ok (.goto 8, 3) := by decide +kernel
theorem d_M_to_17 : decode b_M_to 17 = .ok (.iload_n 1, 1) := by decide +kernel
theorem d_M_to_18 : decode b_M_to 18 = .ok (.iconst 2, 1) := by decide +kernel
theorem d_M_to_19 : decode b_M_to 19 = .ok (.iadd, 1) := by decide +kernel
theorem d_M_to_20 : decode b_M_to 20 = .ok (.iconst 3, 1) := by decide +kernel
theorem d_M_to_21 : decode b_M_to 21 = .ok (.irem, 1) := by decide +kernel
theorem d_M_to_22 : decode b_M_to 22 = .ok (.ireturn, 1) := by decide +kernel
theorem d_M_weightOf_0 : decode b_M_weightOf 0 = .ok (.aload_n 0, 1) := by decide +kernel
theorem d_M_weightOf_1 : decode b_M_weightOf 1 = .ok (.aload_n 0, 1) := by decide +kernel
theorem d_M_weightOf_2 : decode b_M_weightOf 2 = .ok (.iload_n 1, 1) := by decide +kernel
theorem d_M_weightOf_3 : decode b_M_weightOf 3 = .ok (.invokevirtual 63, 3) := by decide +kernel
theorem d_M_weightOf_6 : decode b_M_weightOf 6 = .ok (.aload_n 0, 1) := by decide +kernel
theorem d_M_weightOf_7 : decode b_M_weightOf 7 = .ok (.iload_n 1, 1) := by decide +kernel
theorem d_M_weightOf_8 : decode b_M_weightOf 8 = .ok (.invokevirtual 67, 3) := by decide +kernel
theorem d_M_weightOf_11 : decode b_M_weightOf 11 = .ok (.bipush 16, 2) := by decide +kernel
theorem d_M_weightOf_13 : decode b_M_weightOf 13 = .ok (.iload_n 2, 1) := by decide +kernel
theorem d_M_weightOf_14 : decode b_M_weightOf 14 = .ok (.imul, 1) := by decide +kernel
theorem d_M_weightOf_15 : decode b_M_weightOf 15 = .ok (.bipush 8, 2) := by decide +kernel
theorem d_M_weightOf_17 : decode b_M_weightOf 17 = .ok (.iadd, 1) := by decide +kernel
theorem d_M_weightOf_18 : decode b_M_weightOf 18 = .ok (.bipush 16, 2) := by decide +kernel
theorem d_M_weightOf_20 : decode b_M_weightOf 20 = .ok (.iload_n 3, 1) := by decide +kernel
theorem d_M_weightOf_21 : decode b_M_weightOf 21 = .ok (.imul, 1) := by decide +kernel
theorem d_M_weightOf_22 : decode b_M_weightOf 22 = .ok (.bipush 8, 2) := by decide +kernel
theorem d_M_weightOf_24 : decode b_M_weightOf 24 = .ok (.iadd, 1) := by decide +kernel
theorem d_M_weightOf_25 : decode b_M_weightOf 25 = .ok (.invokevirtual 55, 3) := by decide +kernel
theorem d_M_weightOf_28 : decode b_M_weightOf 28 = .ok (.lreturn, 1) := by decide +kernel
theorem d_M_isCovered_0 : decode b_M_isCovered 0 = .ok (.aload_n 0, 1) := by decide +kernel
theorem d_M_isCovered_1 : decode b_M_isCovered 1 = .ok (.invokevirtual 59, 3) := by decide +kernel
theorem d_M_isCovered_4 : decode b_M_isCovered 4 = .ok (.lconst 0, 1) := by decide +kernel
theorem d_M_isCovered_5 : decode b_M_isCovered 5 = .ok (.lcmp, 1) := by decide +kernel
theorem d_M_isCovered_6 : decode b_M_isCovered 6 = .ok (.ifCond .eq 7, 3) := by decide +kernel
theorem d_M_isCovered_9 : decode b_M_isCovered 9 = .ok (.iconst 1, 1) := by decide +kernel
theorem d_M_isCovered_10 : decode b_M_isCovered 10 = .ok (.goto 4, 3) := by decide +kernel
theorem d_M_isCovered_13 : decode b_M_isCovered 13 = .ok (.iconst 0, 1) := by decide +kernel
theorem d_M_isCovered_14 : decode b_M_isCovered 14 = .ok (.istore_n 3, 1) := by decide +kernel
theorem d_M_isCovered_15 : decode b_M_isCovered 15 = .ok (.iconst 0, 1) := by decide +kernel
theorem d_M_isCovered_16 : decode b_M_isCovered 16 = .ok (.istore 4, 2) := by decide +kernel
theorem d_M_isCovered_18 : decode b_M_isCovered 18 = .ok (.iload 4, 2) := by decide +kernel
theorem d_M_isCovered_20 : decode b_M_isCovered 20 = .ok (.iconst 3, 1) := by decide +kernel
theorem d_M_isCovered_21 : decode b_M_isCovered 21 = .ok (.if_icmp .ge 120, 3) := by decide +kernel
theorem d_M_isCovered_24 : decode b_M_isCovered 24 = .ok (.iload_n 3, 1) := by decide +kernel
theorem d_M_isCovered_25 : decode b_M_isCovered 25 = .ok (.ifCond .eq 116, 3) := by decide +kernel
theorem d_M_isCovered_28 : decode b_M_isCovered 28 = .ok (.aload_n 0, 1) := by decide +kernel
theorem d_M_isCovered_29 : decode b_M_isCovered 29 = .ok (.iload 4, 2) := by decide +kernel
theorem d_M_isCovered_31 : decode b_M_isCovered 31 = .ok (.iload_n 1, 1) := by decide +kernel
theorem d_M_isCovered_32 : decode b_M_isCovered 32 = .ok (.iload_n 2, 1) := by decide +kernel
theorem d_M_isCovered_33 : decode b_M_isCovered 33 = .ok (.invokevirtual 70, 3) := by decide +kernel
theorem d_M_isCovered_36 : decode b_M_isCovered 36 = .ok (.lstore 5, 2) := by decide +kernel
theorem d_M_isCovered_38 : decode b_M_isCovered 38 = .ok (.aload_n 0, 1) := by decide +kernel
theorem d_M_isCovered_39 : decode b_M_isCovered 39 = .ok (.getfield 7, 3) := by decide +kernel
theorem d_M_isCovered_42 : decode b_M_isCovered 42 = .ok (.aload_n 0, 1) := by decide +kernel
theorem d_M_isCovered_43 : decode b_M_isCovered 43 = .ok (.iload 4, 2) := by decide +kernel
theorem d_M_isCovered_45 : decode b_M_isCovered 45 = .ok (.invokevirtual 67, 3) := by decide +kernel
theorem d_M_isCovered_48 : decode b_M_isCovered 48 = .ok (.iaload, 1) := by decide +kernel
theorem d_M_isCovered_49 : decode b_M_isCovered 49 = .ok (.aload_n 0, 1) := by decide +kernel
theorem d_M_isCovered_50 : decode b_M_isCovered 50 = .ok (.getfield 7, 3) := by decide +kernel
theorem d_M_isCovered_53 : decode b_M_isCovered 53 = .ok (.aload_n 0, 1) := by decide +kernel
theorem d_M_isCovered_54 : decode b_M_isCovered 54 = .ok (.iload 4, 2) := by decide +kernel
theorem d_M_isCovered_56 : decode b_M_isCovered 56 = .ok (.invokevirtual 63, 3) := by decide +kernel
theorem d_M_isCovered_59 : decode b_M_isCovered 59 = .ok (.iaload, 1) := by decide +kernel
theorem d_M_isCovered_60 : decode b_M_isCovered 60 = .ok (.isub, 1) := by decide +kernel
theorem d_M_isCovered_61 : decode b_M_isCovered 61 = .ok (.istore 7, 2) := by decide +kernel
theorem d_M_isCovered_63 : decode b_M_isCovered 63 = .ok (.aload_n 0, 1) := by decide +kernel
theorem d_M_isCovered_64 : decode b_M_isCovered 64 = .ok (.getfield 13, 3) := by decide +kernel
theorem d_M_isCovered_67 : decode b_M_isCovered 67 = .ok (.aload_n 0, 1) := by decide +kernel
theorem d_M_isCovered_68 : decode b_M_isCovered 68 = .ok (.iload 4, 2) := by decide +kernel
theorem d_M_isCovered_70 : decode b_M_isCovered 70 = .ok (.invokevirtual 67, 3) := by decide +kernel
theorem d_M_isCovered_73 : decode b_M_isCovered 73 = .ok (.iaload, 1) := by decide +kernel
theorem d_M_isCovered_74 : decode b_M_isCovered 74 = .ok (.aload_n 0, 1) := by decide +kernel
theorem d_M_isCovered_75 : decode b_M_isCovered 75 = .ok (.getfield 13, 3) := by decide +kernel
theorem d_M_isCovered_78 : decode b_M_isCovered 78 = .ok (.aload_n 0, 1) := by decide +kernel
theorem d_M_isCovered_79 : decode b_M_isCovered 79 = .ok (.iload 4, 2) := by decide +kernel
theorem d_M_isCovered_81 : decode b_M_isCovered 81 = .ok (.invokevirtual 63, 3) := by decide +kernel
theorem d_M_isCovered_84 : decode b_M_isCovered 84 = .ok (.iaload, 1) := by decide +kernel
theorem d_M_isCovered_85 : decode b_M_isCovered 85 = .ok (.isub, 1) := by decide +kernel
theorem d_M_isCovered_86 : decode b_M_isCovered 86 = .ok (.istore 8, 2) := by decide +kernel
theorem d_M_isCovered_88 : decode b_M_isCovered 88 = .ok (.iload 8, 2) := by decide +kernel
theorem d_M_isCovered_90 : decode b_M_isCovered 90 = .ok (.ifCond .ne 8, 3) := by decide +kernel
theorem d_M_isCovered_93 : decode b_M_isCovered 93 = .ok (.iload 7, 2) := by decide +kernel
theorem d_M_isCovered_95 : decode b_M_isCovered 95 = .ok (.ifCond .gt 8, 3) := by decide +kernel
theorem d_M_isCovered_98 : decode b_M_isCovered 98 = .ok (.iload 8, 2) := by decide +kernel
theorem d_M_isCovered_100 : decode b_M_isCovered 100 = .ok (.ifCond .ge 7, 3) := by decide +kernel
theorem d_M_isCovered_103 : decode b_M_isCovered 103 = .ok (.iconst 1, 1) := by decide +kernel
theorem d_M_isCovered_104 : decode b_M_isCovered 104 = .ok (.goto 4, 3) := by decide +kernel
theorem d_M_isCovered_107 : decode b_M_isCovered 107 = .ok (.iconst 0, 1) := by decide +kernel
theorem d_M_isCovered_108 : decode b_M_isCovered 108 = .ok (.istore 9, 2) := by decide +kernel
theorem d_M_isCovered_110 : decode b_M_isCovered 110 = .ok (.lload 5, 2) := by decide +kernel
theorem d_M_isCovered_112 : decode b_M_isCovered 112 = .ok (.lconst 0, 1) := by decide +kernel
theorem d_M_isCovered_113 : decode b_M_isCovered 113 = .ok (.lcmp, 1) := by decide +kernel
theorem d_M_isCovered_114 : decode b_M_isCovered 114 = .ok (.ifCond .gt 15, 3) := by decide +kernel
theorem d_M_isCovered_117 : decode b_M_isCovered 117 = .ok (.lload 5, 2) := by decide +kernel
theorem d_M_isCovered_119 : decode b_M_isCovered 119 = .ok (.lconst 0, 1) := by decide +kernel
theorem d_M_isCovered_120 : decode b_M_isCovered 120 = .ok (.lcmp, 1) := by decide +kernel
theorem d_M_isCovered_121 : decode b_M_isCovered 121 = .ok (.ifCond .ne 12, 3) := by decide +kernel
theorem d_M_isCovered_124 : decode b_M_isCovered 124 = .ok (.iload 9, 2) := by decide +kernel
theorem d_M_isCovered_126 : decode b_M_isCovered 126 = .ok (.ifCond .eq 7, 3) := by decide +kernel
theorem d_M_isCovered_129 : decode b_M_isCovered 129 = .ok (.iconst 1, 1) := by decide +kernel
theorem d_M_isCovered_130 : decode b_M_isCovered 130 = .ok (.goto 4, 3) := by decide +kernel
theorem d_M_isCovered_133 : decode b_M_isCovered 133 = .ok (.iconst 0, 1) := by decide +kernel
theorem d_M_isCovered_134 : decode b_M_isCovered 134 = .ok (.istore_n 3, 1) := by decide +kernel
theorem d_M_isCovered_135 : decode b_M_isCovered 135 = .ok (.iinc 4 1, 3) := by decide +kernel
theorem d_M_isCovered_138 : decode b_M_isCovered 138 = .ok (.goto (-120), 3) := by decide +kernel
theorem d_M_isCovered_141 : decode b_M_isCovered 141 = .ok (.iload_n 3, 1) := by decide +kernel
theorem d_M_isCovered_142 : decode b_M_isCovered 142 = .ok (.ireturn, 1) := by decide +kernel
theorem d_M_covers_0 : decode b_M_covers 0 = .ok (.aload_n 0, 1) := by decide +kernel
theorem d_M_covers_1 : decode b_M_covers 1 = .ok (.iload_n 1, 1) := by decide +kernel
theorem d_M_covers_2 : decode b_M_covers 2 = .ok (.sipush (-1024), 3) := by decide +kernel
theorem d_M_covers_5 : decode b_M_covers 5 = .ok (.sipush 2047, 3) := by decide +kernel
theorem d_M_covers_8 : decode b_M_covers 8 = .ok (.invokestatic 35, 3) := by decide +kernel
theorem d_M_covers_11 : decode b_M_covers 11 = .ok (.ifCond .eq 16, 3) := by decide +kernel
theorem d_M_covers_14 : decode b_M_covers 14 = .ok (.iload_n 2, 1) := by decide +kernel
theorem d_M_covers_15 : decode b_M_covers 15 = .ok (.sipush (-1024), 3) := by decide +kernel
theorem d_M_covers_18 : decode b_M_covers 18 = .ok (.sipush 2047, 3) := by decide +kernel
theorem d_M_covers_21 : decode b_M_covers 21 = .ok (.invokestatic 35, 3) := by decide +kernel
theorem d_M_covers_24 : decode b_M_covers 24 = .ok (.ifCond .ne 7, 3) := by decide +kernel
theorem d_M_covers_27 : decode b_M_covers 27 = .ok (.iconst 1, 1) := by decide +kernel
theorem d_M_covers_28 : decode b_M_covers 28 = .ok (.goto 4, 3) := by decide +kernel
theorem d_M_covers_31 : decode b_M_covers 31 = .ok (.iconst 0, 1) := by decide +kernel
theorem d_M_covers_32 : decode b_M_covers 32 = .ok (.iconst 0, 1) := by decide +kernel
theorem d_M_covers_33 : decode b_M_covers 33 = .ok (.invokevirtual 41, 3) := by decide +kernel
theorem d_M_covers_36 : decode b_M_covers 36 = .ok (.ifCond .eq 5, 3) := by decide +kernel
theorem d_M_covers_39 : decode b_M_covers 39 = .ok (.iconst 0, 1) := by decide +kernel
theorem d_M_covers_40 : decode b_M_covers 40 = .ok (.ireturn, 1) := by decide +kernel
theorem d_M_covers_41 : decode b_M_covers 41 = .ok (.aload_n 0, 1) := by decide +kernel
theorem d_M_covers_42 : decode b_M_covers 42 = .ok (.iload_n 1, 1) := by decide +kernel
theorem d_M_covers_43 : decode b_M_covers 43 = .ok (.iload_n 2, 1) := by decide +kernel
theorem d_M_covers_44 : decode b_M_covers 44 = .ok (.invokevirtual 74, 3) := by decide +kernel
theorem d_M_covers_47 : decode b_M_covers 47 = .ok (.ireturn, 1) := by decide +kernel
theorem d_M_many_0 : decode b_M_many 0 = .ok (.aload_n 0, 1) := by decide +kernel
theorem d_M_many_1 : decode b_M_many 1 = .ok (.iconst 0, 1) := by decide +kernel
theorem d_M_many_2 : decode b_M_many 2 = .ok (.putfield 32, 3) := by decide +kernel
theorem d_M_many_5 : decode b_M_many 5 = .ok (.iconst 0, 1) := by decide +kernel
theorem d_M_many_6 : decode b_M_many 6 = .ok (.istore_n 1, 1) := by decide +kernel
theorem d_M_many_7 : decode b_M_many 7 = .ok (.iconst 0, 1) := by decide +kernel
theorem d_M_many_8 : decode b_M_many 8 = .ok (.istore_n 2, 1) := by decide +kernel
theorem d_M_many_9 : decode b_M_many 9 = .ok (.iload_n 2, 1) := by decide +kernel
theorem d_M_many_10 : decode b_M_many 10 = .ok (.aload_n 0, 1) := by decide +kernel
theorem d_M_many_11 : decode b_M_many 11 = .ok (.getfield 25, 3) := by decide +kernel
theorem d_M_many_14 : decode b_M_many 14 = .ok (.aload_n 0, 1) := by decide +kernel
theorem d_M_many_15 : decode b_M_many 15 = .ok (.getfield 29, 3) := by decide +kernel
theorem d_M_many_18 : decode b_M_many 18 = .ok (.imul, 1) := by decide +kernel
theorem d_M_many_19 : decode b_M_many 19 = .ok (.if_icmp .ge 46, 3) := by decide +kernel
theorem d_M_many_22 : decode b_M_many 22 = .ok (.iload_n 1, 1) := by decide +kernel
theorem d_M_many_23 : decode b_M_many 23 = .ok (.aload_n 0, 1) := by decide +kernel
theorem d_M_many_24 : decode b_M_many 24 = .ok (.aload_n 0, 1) := by decide +kernel
theorem d_M_many_25 : decode b_M_many 25 = .ok (.getfield 49, 3) := by decide +kernel
theorem d_M_many_28 : decode b_M_many 28 = .ok (.iload_n 2, 1) := by decide +kernel
theorem d_M_many_29 : decode b_M_many 29 = .ok (.aload_n 0, 1) := by decide +kernel
theorem d_M_many_30 : decode b_M_many 30 = .ok (.getfield 25, 3) := by decide +kernel
theorem d_M_many_33 : decode b_M_many 33 = .ok (.irem, 1) := by decide +kernel
theorem d_M_many_34 : decode b_M_many 34 = .ok (.iadd, 1) := by decide +kernel
theorem d_M_many_35 : decode b_M_many 35 = .ok (.aload_n 0, 1) := by decide +kernel
theorem d_M_many_36 : decode b_M_many 36 = .ok (.getfield 52, 3) := by decide +kernel
theorem d_M_many_39 : decode b_M_many 39 = .ok (.iload_n 2, 1) := by decide +kernel
theorem d_M_many_40 : decode b_M_many 40 = .ok (.aload_n 0, 1) := by decide +kernel
theorem d_M_many_41 : decode b_M_many 41 = .ok (.getfield 25, 3) := by decide +kernel
theorem d_M_many_44 : decode b_M_many 44 = .ok (.idiv, 1) := by decide +kernel
theorem d_M_many_45 : decode b_M_many 45 = .ok (.iadd, 1) := by decide +kernel
theorem d_M_many_46 : decode b_M_many 46 = .ok (.invokevirtual 74, 3) := by decide +kernel
theorem d_M_many_49 : decode b_M_many 49 = .ok (.ifCond .eq 7, 3) := by decide +kernel
theorem d_M_many_52 : decode b_M_many 52 = .ok (.iconst 1, 1) := by decide +kernel
theorem d_M_many_53 : decode b_M_many 53 = .ok (.goto 4, 3) := by decide +kernel
theorem d_M_many_56 : decode b_M_many 56 = .ok (.iconst 0, 1) := by decide +kernel
theorem d_M_many_57 : decode b_M_many 57 = .ok (.iadd, 1) := by decide +kernel
theorem d_M_many_58 : decode b_M_many 58 = .ok (.istore_n 1, 1) := by decide +kernel
theorem d_M_many_59 : decode b_M_many 59 = .ok (.iinc 2 1, 3) := by decide +kernel
theorem d_M_many_62 : decode b_M_many 62 = .ok (.goto (-53), 3) := by decide +kernel
theorem d_M_many_65 : decode b_M_many 65 = .ok (.iload_n 1, 1) := by decide +kernel
theorem d_M_many_66 : decode b_M_many 66 = .ok (.ireturn, 1) := by decide +kernel
theorem d_M_walk_0 : decode b_M_walk 0 = .ok (.aload_n 0, 1) := by decide +kernel
theorem d_M_walk_1 : decode b_M_walk 1 = .ok (.iconst 0, 1) := by decide +kernel
theorem d_M_walk_2 : decode b_M_walk 2 = .ok (.putfield 32, 3) := by decide +kernel
theorem d_M_walk_5 : decode b_M_walk 5 = .ok (.aload_n 0, 1) := by decide +kernel
theorem d_M_walk_6 : decode b_M_walk 6 = .ok (.iconst 1, 1) := by decide +kernel
theorem d_M_walk_7 : decode b_M_walk 7 = .ok (.putfield 45, 3) := by decide +kernel
theorem d_M_walk_10 : decode b_M_walk 10 = .ok (.aload_n 0, 1) := by decide +kernel
theorem d_M_walk_11 : decode b_M_walk 11 = .ok (.iconst 0, 1) := by decide +kernel
theorem d_M_walk_12 : decode b_M_walk 12 = .ok (.putfield 78, 3) := by decide +kernel
theorem d_M_walk_15 : decode b_M_walk 15 = .ok (.aload_n 0, 1) := by decide +kernel
theorem d_M_walk_16 : decode b_M_walk 16 = .ok (.iconst 0, 1) := by decide +kernel
theorem d_M_walk_17 : decode b_M_walk 17 = .ok (.putfield 81, 3) := by decide +kernel
theorem d_M_walk_20 : decode b_M_walk 20 = .ok (.return_, 1) := by decide +kernel
theorem d_M_next_0 : decode b_M_next 0 = .ok (.aload_n 0, 1) := by decide +kernel
theorem d_M_next_1 : decode b_M_next 1 = .ok (.aload_n 0, 1) := by decide +kernel
theorem d_M_next_2 : decode b_M_next 2 = .ok (.getfield 45, 3) := by decide +kernel
theorem d_M_next_5 : decode b_M_next 5 = .ok (.ifCond .ne 7, 3) := by decide +kernel
theorem d_M_next_8 : decode b_M_next 8 = .ok (.iconst 1, 1) := by decide +kernel
theorem d_M_next_9 : decode b_M_next 9 = .ok (.goto 4, 3) := by decide +kernel
theorem d_M_next_12 : decode b_M_next 12 = .ok (.iconst 0, 1) := by decide +kernel
theorem d_M_next_13 : decode b_M_next 13 = .ok (.iconst 0, 1) := by decide +kernel
theorem d_M_next_14 : decode b_M_next 14 = .ok (.invokevirtual 41, 3) := by decide +kernel
theorem d_M_next_17 : decode b_M_next 17 = .ok (.ifCond .eq 5, 3) := by decide +kernel
theorem d_M_next_20 : decode b_M_next 20 = .ok (.iconst 0, 1) := by decide +kernel
theorem d_M_next_21 : decode b_M_next 21 = .ok (.ireturn, 1) := by decide +kernel
theorem d_M_next_22 : decode b_M_next 22 = .ok (.aload_n 0, 1) := by decide +kernel
theorem d_M_next_23 : decode b_M_next 23 = .ok (.iconst 0, 1) := by decide +kernel
theorem d_M_next_24 : decode b_M_next 24 = .ok (.putfield 81, 3) := by decide +kernel
theorem d_M_next_27 : decode b_M_next 27 = .ok (.aload_n 0, 1) := by decide +kernel
theorem d_M_next_28 : decode b_M_next 28 = .ok (.getfield 78, 3) := by decide +kernel
theorem d_M_next_31 : decode b_M_next 31 = .ok (.aload_n 0, 1) := by decide +kernel
theorem d_M_next_32 : decode b_M_next 32 = .ok (.getfield 25, 3) := by decide +kernel
theorem d_M_next_35 : decode b_M_next 35 = .ok (.aload_n 0, 1) := by decide +kernel
theorem d_M_next_36 : decode b_M_next 36 = .ok (.getfield 29, 3) := by decide +kernel
theorem d_M_next_39 : decode b_M_next 39 = .ok (.imul, 1) := by decide +kernel
theorem d_M_next_40 : decode b_M_next 40 = .ok (.if_icmp .ge 75, 3) := by decide +kernel
theorem d_M_next_43 : decode b_M_next 43 = .ok (.aload_n 0, 1) := by decide +kernel
theorem d_M_next_44 : decode b_M_next 44 = .ok (.getfield 81, 3) := by decide +kernel
theorem d_M_next_47 : decode b_M_next 47 = .ok (.ifCond .ne 68, 3) := by decide +kernel
theorem d_M_next_50 : decode b_M_next 50 = .ok (.aload_n 0, 1) := by decide +kernel
theorem d_M_next_51 : decode b_M_next 51 = .ok (.aload_n 0, 1) := by decide +kernel
theorem d_M_next_52 : decode b_M_next 52 = .ok (.getfield 49, 3) := by decide +kernel
theorem d_M_next_55 : decode b_M_next 55 = .ok (.aload_n 0, 1) := by decide +kernel
theorem d_M_next_56 : decode b_M_next 56 = .ok (.getfield 78, 3) := by decide +kernel
theorem d_M_next_59 : decode b_M_next 59 = .ok (.aload_n 0, 1) := by decide +kernel
theorem d_M_next_60 : decode b_M_next 60 = .ok (.getfield 25, 3) := by decide +kernel
theorem d_M_next_63 : decode b_M_next 63 = .ok (.irem, 1) := by decide +kernel
theorem d_M_next_64 : decode b_M_next 64 = .ok (.iadd, 1) := by decide +kernel
theorem d_M_next_65 : decode b_M_next 65 = .ok (.putfield 84, 3) := by decide +kernel
theorem d_M_next_68 : decode b_M_next 68 = .ok (.aload_n 0, 1) := by decide +kernel
theorem d_M_next_69 : decode b_M_next 69 = .ok (.aload_n 0, 1) := by decide +kernel
theorem d_M_next_70 : decode b_M_next 70 = .ok (.getfield 52, 3) := by decide +kernel
theorem d_M_next_73 : decode b_M_next 73 = .ok (.aload_n 0, 1) := by decide +kernel
theorem d_M_next_74 : decode b_M_next 74 = .ok (.getfield 78, 3) := by decide +kernel
theorem d_M_next_77 : decode b_M_next 77 = .ok (.aload_n 0, 1) := by decide +kernel
theorem d_M_next_78 : decode b_M_next 78 = .ok (.getfield 25, 3) := by decide +kernel
theorem d_M_next_81 : decode b_M_next 81 = .ok (.idiv, 1) := by decide +kernel
theorem d_M_next_82 : decode b_M_next 82 = .ok (.iadd, 1) := by decide +kernel
theorem d_M_next_83 : decode b_M_next 83 = .ok (.putfield 87, 3) := by decide +kernel
theorem d_M_next_86 : decode b_M_next 86 = .ok (.aload_n 0, 1) := by decide +kernel
theorem d_M_next_87 : decode b_M_next 87 = .ok (.aload_n 0, 1) := by decide +kernel
theorem d_M_next_88 : decode b_M_next 88 = .ok (.aload_n 0, 1) := by decide +kernel
theorem d_M_next_89 : decode b_M_next 89 = .ok (.getfield 84, 3) := by decide +kernel
theorem d_M_next_92 : decode b_M_next 92 = .ok (.aload_n 0, 1) := by decide +kernel
theorem d_M_next_93 : decode b_M_next 93 = .ok (.getfield 87, 3) := by decide +kernel
theorem d_M_next_96 : decode b_M_next 96 = .ok (.invokevirtual 74, 3) := by decide +kernel
theorem d_M_next_99 : decode b_M_next 99 = .ok (.putfield 81, 3) := by decide +kernel
theorem d_M_next_102 : decode b_M_next 102 = .ok (.aload_n 0, 1) := by decide +kernel
theorem d_M_next_103 : decode b_M_next 103 = .ok (.dup, 1) := by decide +kernel
theorem d_M_next_104 : decode b_M_next 104 = .ok (.getfield 78, 3) := by decide +kernel
theorem d_M_next_107 : decode b_M_next 107 = .ok (.iconst 1, 1) := by decide +kernel
theorem d_M_next_108 : decode b_M_next 108 = .ok (.iadd, 1) := by decide +kernel
theorem d_M_next_109 : decode b_M_next 109 = .ok (.putfield 78, 3) := by decide +kernel
theorem d_M_next_112 : decode b_M_next 112 = .ok (.goto (-85), 3) := by decide +kernel
theorem d_M_next_115 : decode b_M_next 115 = .ok (.aload_n 0, 1) := by decide +kernel
theorem d_M_next_116 : decode b_M_next 116 = .ok (.getfield 81, 3) := by decide +kernel
theorem d_M_next_119 : decode b_M_next 119 = .ok (.ifCond .eq 18, 3) := by decide +kernel
theorem d_M_next_122 : decode b_M_next 122 = .ok (.ldc 90, 2) := by decide +kernel
theorem d_M_next_124 : decode b_M_next 124 = .ok (.aload_n 0, 1) := by decide +kernel
theorem d_M_next_125 : decode b_M_next 125 = .ok (.getfield 87, 3) := by decide +kernel
theorem d_M_next_128 : decode b_M_next 128 = .ok (.imul, 1) := by decide +kernel
theorem d_M_next_129 : decode b_M_next 129 = .ok (.aload_n 0, 1) := by decide +kernel
theorem d_M_next_130 : decode b_M_next 130 = .ok (.getfield 84, 3) := by decide +kernel
theorem d_M_next_133 : decode b_M_next 133 = .ok (.iadd, 1) := by decide +kernel
theorem d_M_next_134 : decode b_M_next 134 = .ok (.goto 4, 3) := by decide +kernel
theorem d_M_next_137 : decode b_M_next 137 = .ok (.iconst (-1), 1) := by decide +kernel
theorem d_M_next_138 : decode b_M_next 138 = .ok (.ireturn, 1) := by decide +kernel
theorem d_M_weight_0 : decode b_M_weight 0 = .ok (.aload_n 0, 1) := by decide +kernel
theorem d_M_weight_1 : decode b_M_weight 1 = .ok (.iload_n 1, 1) := by decide +kernel
theorem d_M_weight_2 : decode b_M_weight 2 = .ok (.iconst 0, 1) := by decide +kernel
theorem d_M_weight_3 : decode b_M_weight 3 = .ok (.iconst 2, 1) := by decide +kernel
theorem d_M_weight_4 : decode b_M_weight 4 = .ok (.invokestatic 35, 3) := by decide +kernel
theorem d_M_weight_7 : decode b_M_weight 7 = .ok (.ifCond .ne 7, 3) := by decide +kernel
theorem d_M_weight_10 : decode b_M_weight 10 = .ok (.iconst 1, 1) := by decide +kernel
theorem d_M_weight_11 : decode b_M_weight 11 = .ok (.goto 4, 3) := by decide +kernel
theorem d_M_weight_14 : decode b_M_weight 14 = .ok (.iconst 0, 1) := by decide +kernel
theorem d_M_weight_15 : decode b_M_weight 15 = .ok (.aload_n 0, 1) := by decide +kernel
theorem d_M_weight_16 : decode b_M_weight 16 = .ok (.getfield 45, 3) := by decide +kernel
theorem d_M_weight_19 : decode b_M_weight 19 = .ok (.ifCond .eq 10, 3) := by decide +kernel
theorem d_M_weight_22 : decode b_M_weight 22 = .ok (.aload_n 0, 1) := by decide +kernel
theorem d_M_weight_23 : decode b_M_weight 23 = .ok (.getfield 81, 3) := by decide +kernel
theorem d_M_weight_26 : decode b_M_weight 26 = .ok (.ifCond .ne 7, 3) := by decide +kernel
theorem d_M_weight_29 : decode b_M_weight 29 = .ok (.iconst 1, 1) := by decide +kernel
theorem d_M_weight_30 : decode b_M_weight 30 = .ok (.goto 4, 3) := by decide +kernel
theorem d_M_weight_33 : decode b_M_weight 33 = .ok (.iconst 0, 1) := by decide +kernel
theorem d_M_weight_34 : decode b_M_weight 34 = .ok (.invokevirtual 41, 3) := by decide +kernel
theorem d_M_weight_37 : decode b_M_weight 37 = .ok (.ifCond .eq 5, 3) := by decide +kernel
theorem d_M_weight_40 : decode b_M_weight 40 = .ok (.lconst 0, 1) := by decide +kernel
theorem d_M_weight_41 : decode b_M_weight 41 = .ok (.lreturn, 1) := by decide +kernel
theorem d_M_weight_42 : decode b_M_weight 42 = .ok (.aload_n 0, 1) := by decide +kernel
theorem d_M_weight_43 : decode b_M_weight 43 = .ok (.iload_n 1, 1) := by decide +kernel
theorem d_M_weight_44 : decode b_M_weight 44 = .ok (.aload_n 0, 1) := by decide +kernel
theorem d_M_weight_45 : decode b_M_weight 45 = .ok (.getfield 84, 3) := by decide +kernel
theorem d_M_weight_48 : decode b_M_weight 48 = .ok (.aload_n 0, 1) := by decide +kernel
theorem d_M_weight_49 : decode b_M_weight 49 = .ok (.getfield 87, 3) := by decide +kernel
theorem d_M_weight_52 : decode b_M_weight 52 = .ok (.invokevirtual 70, 3) := by decide +kernel
theorem d_M_weight_55 : decode b_M_weight 55 = .ok (.lreturn, 1) := by decide +kernel
theorem d_M_down_0 : decode b_M_down 0 = .ok (.lload_n 0, 1) := by decide +kernel
theorem d_M_down_1 : decode b_M_down 1 = .ok (.lload_n 2, 1) := by decide +kernel
theorem d_M_down_2 : decode b_M_down 2 = .ok (.ldiv, 1) := by decide +kernel
theorem d_M_down_3 : decode b_M_down 3 = .ok (.lload_n 0, 1) := by decide +kernel
theorem d_M_down_4 : decode b_M_down 4 = .ok (.lload_n 2, 1) := by decide +kernel
theorem d_M_down_5 : decode b_M_down 5 = .ok (.lrem, 1) := by decide +kernel
theorem d_M_down_6 : decode b_M_down 6 = .ok (.lconst 0, 1) := by decide +kernel
theorem d_M_down_7 : decode b_M_down 7 = .ok (.lcmp, 1) := by decide +kernel
theorem d_M_down_8 : decode b_M_down 8 = .ok (.ifCond .eq 13, 3) := by decide +kernel
theorem d_M_down_11 : decode b_M_down 11 = .ok (.lload_n 0, 1) := by decide +kernel
theorem d_M_down_12 : decode b_M_down 12 = .ok (.lconst 0, 1) := by decide +kernel
theorem d_M_down_13 : decode b_M_down 13 = .ok (.lcmp, 1) := by decide +kernel
theorem d_M_down_14 : decode b_M_down 14 = .ok (.ifCond .ge 7, 3) := by decide +kernel
theorem d_M_down_17 : decode b_M_down 17 = .ok (.lconst 1, 1) := by decide +kernel
theorem d_M_down_18 : decode b_M_down 18 = .ok (.goto 4, 3) := by decide +kernel
theorem d_M_down_21 : decode b_M_down 21 = .ok (.lconst 0, 1) := by decide +kernel
theorem d_M_down_22 : decode b_M_down 22 = .ok (.lsub, 1) := by decide +kernel
theorem d_M_down_23 : decode b_M_down 23 = .ok (.lreturn, 1) := by decide +kernel
theorem d_M_depth_0 : decode b_M_depth 0 = .ok (.aload_n 0, 1) := by decide +kernel
theorem d_M_depth_1 : decode b_M_depth 1 = .ok (.aload_n 0, 1) := by decide +kernel
theorem d_M_depth_2 : decode b_M_depth 2 = .ok (.getfield 45, 3) := by decide +kernel
theorem d_M_depth_5 : decode b_M_depth 5 = .ok (.ifCond .eq 10, 3) := by decide +kernel
theorem d_M_depth_8 : decode b_M_depth 8 = .ok (.aload_n 0, 1) := by decide +kernel
theorem d_M_depth_9 : decode b_M_depth 9 = .ok (.getfield 81, 3) := by decide +kernel
theorem d_M_depth_12 : decode b_M_depth 12 = .ok (.ifCond .ne 7, 3) := by decide +kernel
theorem d_M_depth_15 : decode b_M_depth 15 = .ok (.iconst 1, 1) := by decide +kernel
theorem d_M_depth_16 : decode b_M_depth 16 = .ok (.goto 4, 3) := by decide +kernel
theorem d_M_depth_19 : decode b_M_depth 19 = .ok (.iconst 0, 1) := by decide +kernel
theorem d_M_depth_20 : decode b_M_depth 20 = .ok (.iconst 0, 1) := by decide +kernel
theorem d_M_depth_21 : decode b_M_depth 21 = .ok (.invokevirtual 41, 3) := by decide +kernel
theorem d_M_depth_24 : decode b_M_depth 24 = .ok (.ifCond .eq 5, 3) := by decide +kernel
theorem d_M_depth_27 : decode b_M_depth 27 = .ok (.iconst 0, 1) := by decide +kernel
theorem d_M_depth_28 : decode b_M_depth 28 = .ok (.ireturn, 1) := by decide +kernel
theorem d_M_depth_29 : decode b_M_depth 29 = .ok (.lconst 0, 1) := by decide +kernel
theorem d_M_depth_30 : decode b_M_depth 30 = .ok (.lstore_n 1, 1) := by decide +kernel
theorem d_M_depth_31 : decode b_M_depth 31 = .ok (.iconst 0, 1) := by decide +kernel
theorem d_M_depth_32 : decode b_M_depth 32 = .ok (.istore_n 3, 1) := by decide +kernel
theorem d_M_depth_33 : decode b_M_depth 33 = .ok (.iload_n 3, 1) := by decide +kernel
theorem d_M_depth_34 : decode b_M_depth 34 = .ok (.iconst 3, 1) := by decide +kernel
theorem d_M_depth_35 : decode b_M_depth 35 = .ok (.if_icmp .ge 33, 3) := by decide +kernel
theorem d_M_depth_38 : decode b_M_depth 38 = .ok (.lload_n 1, 1) := by decide +kernel
theorem d_M_depth_39 : decode b_M_depth 39 = .ok (.aload_n 0, 1) := by decide +kernel
theorem d_M_depth_40 : decode b_M_depth 40 = .ok (.iload_n 3, 1) := by decide +kernel
theorem d_M_depth_41 : decode b_M_depth 41 = .ok (.aload_n 0, 1) := by decide +kernel
theorem d_M_depth_42 : decode b_M_depth 42 = .ok (.getfield 84, 3) := by decide +kernel
theorem d_M_depth_45 : decode b_M_depth 45 = .ok (.aload_n 0, 1) := by decide +kernel
theorem d_M_depth_46 : decode b_M_depth 46 = .ok (.getfield 87, 3) := by decide +kernel
theorem d_M_depth_49 : decode b_M_depth 49 = .ok (.invokevirtual 70, 3) := by decide +kernel
theorem d_M_depth_52 : decode b_M_depth 52 = .ok (.aload_n 0, 1) := by decide +kernel
theorem d_M_depth_53 : decode b_M_depth 53 = .ok (.getfield 16, 3) := by decide +kernel
theorem d_M_depth_56 : decode b_M_depth 56 = .ok (.iload_n 3, 1) := by decide +kernel
theorem d_M_depth_57 : decode b_M_depth 57 = .ok (.iaload, 1) := by decide +kernel
theorem d_M_depth_58 : decode b_M_depth 58 = .ok (.i2l, 1) := by decide +kernel
theorem d_M_depth_59 : decode b_M_depth 59 = .ok (.lmul, 1) := by decide +kernel
theorem d_M_depth_60 : decode b_M_depth 60 = .ok (.ladd, 1) := by decide +kernel
theorem d_M_depth_61 : decode b_M_depth 61 = .ok (.lstore_n 1, 1) := by decide +kernel
theorem d_M_depth_62 : decode b_M_depth 62 = .ok (.iinc 3 1, 3) := by decide +kernel
theorem d_M_depth_65 : decode b_M_depth 65 = .ok (.goto (-32), 3) := by decide +kernel
theorem d_M_depth_68 : decode b_M_depth 68 = .ok (.aload_n 0, 1) := by decide +kernel
theorem d_M_depth_69 : decode b_M_depth 69 = .ok (.invokevirtual 59, 3) := by decide +kernel
theorem d_M_depth_72 : decode b_M_depth 72 = .ok (.lconst 0, 1) := by decide +kernel
theorem d_M_depth_73 : decode b_M_depth 73 = .ok (.lcmp, 1) := by decide +kernel
theorem d_M_depth_74 : decode b_M_depth 74 = .ok (.ifCond .ge 11, 3) := by decide +kernel
theorem d_M_depth_77 : decode b_M_depth 77 = .ok (.aload_n 0, 1) := by decide +kernel
theorem d_M_depth_78 : decode b_M_depth 78 = .ok (.invokevirtual 59, 3) := by decide +kernel
theorem d_M_depth_81 : decode b_M_depth 81 = .ok (.lneg, 1) := by decide +kernel
theorem d_M_depth_82 : decode b_M_depth 82 = .ok (.goto 7, 3) := by decide +kernel
theorem d_M_depth_85 : decode b_M_depth 85 = .ok (.aload_n 0, 1) := by decide +kernel
theorem d_M_depth_86 : decode b_M_depth 86 = .ok (.invokevirtual 59, 3) := by decide +kernel
theorem d_M_depth_89 : decode b_M_depth 89 = .ok (.lstore_n 3, 1) := by decide +kernel
theorem d_M_depth_90 : decode b_M_depth 90 = .ok (.lload_n 1, 1) := by decide +kernel
theorem d_M_depth_91 : decode b_M_depth 91 = .ok (.lload_n 3, 1) := by decide +kernel
theorem d_M_depth_92 : decode b_M_depth 92 = .ok (.invokestatic 91, 3) := by decide +kernel
theorem d_M_depth_95 : decode b_M_depth 95 = .ok (.l2i, 1) := by decide +kernel
theorem d_M_depth_96 : decode b_M_depth 96 = .ok (.ireturn, 1) := by decide +kernel
theorem d_M_at_0 : decode b_M_at 0 = .ok (.aload_n 0, 1) := by decide +kernel
theorem d_M_at_1 : decode b_M_at 1 = .ok (.iload_n 1, 1) := by decide +kernel
theorem d_M_at_2 : decode b_M_at 2 = .ok (.iconst 0, 1) := by decide +kernel
theorem d_M_at_3 : decode b_M_at 3 = .ok (.bipush 27, 2) := by decide +kernel
theorem d_M_at_5 : decode b_M_at 5 = .ok (.invokestatic 35, 3) := by decide +kernel
theorem d_M_at_8 : decode b_M_at 8 = .ok (.ifCond .ne 7, 3) := by decide +kernel
theorem d_M_at_11 : decode b_M_at 11 = .ok (.iconst 1, 1) := by decide +kernel
theorem d_M_at_12 : decode b_M_at 12 = .ok (.goto 4, 3) := by decide +kernel
theorem d_M_at_15 : decode b_M_at 15 = .ok (.iconst 0, 1) := by decide +kernel
theorem d_M_at_16 : decode b_M_at 16 = .ok (.aload_n 0, 1) := by decide +kernel
theorem d_M_at_17 : decode b_M_at 17 = .ok (.getfield 45, 3) := by decide +kernel
theorem d_M_at_20 : decode b_M_at 20 = .ok (.ifCond .eq 10, 3) := by decide +kernel
theorem d_M_at_23 : decode b_M_at 23 = .ok (.aload_n 0, 1) := by decide +kernel
theorem d_M_at_24 : decode b_M_at 24 = .ok (.getfield 81, 3) := by decide +kernel
theorem d_M_at_27 : decode b_M_at 27 = .ok (.ifCond .ne 7, 3) := by decide +kernel
theorem d_M_at_30 : decode b_M_at 30 = .ok (.iconst 1, 1) := by decide +kernel
theorem d_M_at_31 : decode b_M_at 31 = .ok (.goto 4, 3) := by decide +kernel
theorem d_M_at_34 : decode b_M_at 34 = .ok (.iconst 0, 1) := by decide +kernel
theorem d_M_at_35 : decode b_M_at 35 = .ok (.invokevirtual 41, 3) := by decide +kernel
theorem d_M_at_38 : decode b_M_at 38 = .ok (.ifCond .eq 5, 3) := by decide +kernel
theorem d_M_at_41 : decode b_M_at 41 = .ok (.iconst 0, 1) := by decide +kernel
theorem d_M_at_42 : decode b_M_at 42 = .ok (.ireturn, 1) := by decide +kernel
theorem d_M_at_43 : decode b_M_at 43 = .ok (.iconst 0, 1) := by decide +kernel
theorem d_M_at_44 : decode b_M_at 44 = .ok (.istore_n 2, 1) := by decide +kernel
theorem d_M_at_45 : decode b_M_at 45 = .ok (.iconst 0, 1) := by decide +kernel
theorem d_M_at_46 : decode b_M_at 46 = .ok (.istore_n 3, 1) := by decide +kernel
theorem d_M_at_47 : decode b_M_at 47 = .ok (.iload_n 3, 1) := by decide +kernel
theorem d_M_at_48 : decode b_M_at 48 = .ok (.iconst 3, 1) := by decide +kernel
theorem d_M_at_49 : decode b_M_at 49 = .ok (.if_icmp .ge 45, 3) := by decide +kernel
theorem d_M_at_52 : decode b_M_at 52 = .ok (.aload_n 0, 1) := by decide +kernel
theorem d_M_at_53 : decode b_M_at 53 = .ok (.iload_n 3, 1) := by decide +kernel
theorem d_M_at_54 : decode b_M_at 54 = .ok (.aload_n 0, 1) := by decide +kernel
theorem d_M_at_55 : decode b_M_at 55 = .ok (.getfield 84, 3) := by decide +kernel
theorem d_M_at_58 : decode b_M_at 58 = .ok (.aload_n 0, 1) := by decide +kernel
theorem d_M_at_59 : decode b_M_at 59 = .ok (.getfield 87, 3) := by decide +kernel
theorem d_M_at_62 : decode b_M_at 62 = .ok (.invokevirtual 70, 3) := by decide +kernel
theorem d_M_at_65 : decode b_M_at 65 = .ok (.aload_n 0, 1) := by decide +kernel
theorem d_M_at_66 : decode b_M_at 66 = .ok (.getfield 19, 3) := by decide +kernel
theorem d_M_at_69 : decode b_M_at 69 = .ok (.iload_n 3, 1) := by decide +kernel
theorem d_M_at_70 : decode b_M_at 70 = .ok (.iaload, 1) := by decide +kernel
theorem d_M_at_71 : decode b_M_at 71 = .ok (.i2l, 1) := by decide +kernel
theorem d_M_at_72 : decode b_M_at 72 = .ok (.lmul, 1) := by decide +kernel
theorem d_M_at_73 : decode b_M_at 73 = .ok (.iload_n 2, 1) := by decide +kernel
theorem d_M_at_74 : decode b_M_at 74 = .ok (.lshr, 1) := by decide +kernel
theorem d_M_at_75 : decode b_M_at 75 = .ok (.ldc2_w 95, 3) := by decide +kernel
theorem d_M_at_78 : decode b_M_at 78 = .ok (.lcmp, 1) := by decide +kernel
theorem d_M_at_79 : decode b_M_at 79 = .ok (.ifCond .lt 9, 3) := by decide +kernel
theorem d_M_at_82 : decode b_M_at 82 = .ok (.iinc 2 1, 3) := by decide +kernel
theorem d_M_at_85 : decode b_M_at 85 = .ok (.goto (-33), 3) := by decide +kernel
theorem d_M_at_88 : decode b_M_at 88 = .ok (.iinc 3 1, 3) := by decide +kernel
theorem d_M_at_91 : decode b_M_at 91 = .ok (.goto (-44), 3) := by decide +kernel
theorem d_M_at_94 : decode b_M_at 94 = .ok (.lconst 0, 1) := by decide +kernel
theorem d_M_at_95 : decode b_M_at 95 = .ok (.lstore_n 3, 1) := by decide +kernel
theorem d_M_at_96 : decode b_M_at 96 = .ok (.lconst 0, 1) := by decide +kernel
theorem d_M_at_97 : decode b_M_at 97 = .ok (.lstore 5, 2) := by decide +kernel
theorem d_M_at_99 : decode b_M_at 99 = .ok (.iconst 0, 1) := by decide +kernel
theorem d_M_at_100 : decode b_M_at 100 = .ok (.istore 7, 2) := by decide +kernel
theorem d_M_at_102 : decode b_M_at 102 = .ok (.iload 7, 2) := by decide +kernel
theorem d_M_at_104 : decode b_M_at 104 = .ok (.iconst 3, 1) := by decide +kernel
theorem d_M_at_105 : decode b_M_at 105 = .ok (.if_icmp .ge 62, 3) := by decide +kernel
theorem d_M_at_108 : decode b_M_at 108 = .ok (.aload_n 0, 1) := by decide +kernel
theorem d_M_at_109 : decode b_M_at 109 = .ok (.iload 7, 2) := by decide +kernel
theorem d_M_at_111 : decode b_M_at 111 = .ok (.aload_n 0, 1) := by decide +kernel
theorem d_M_at_112 : decode b_M_at 112 = .ok (.getfield 84, 3) := by decide +kernel
theorem d_M_at_115 : decode b_M_at 115 = .ok (.aload_n 0, 1) := by decide +kernel
theorem d_M_at_116 : decode b_M_at 116 = .ok (.getfield 87, 3) := by decide +kernel
theorem d_M_at_119 : decode b_M_at 119 = .ok (.invokevirtual 70, 3) := by decide +kernel
theorem d_M_at_122 : decode b_M_at 122 = .ok (.aload_n 0, 1) := by decide +kernel
theorem d_M_at_123 : decode b_M_at 123 = .ok (.getfield 19, 3) := by decide +kernel
theorem d_M_at_126 : decode b_M_at 126 = .ok (.iload 7, 2) := by decide +kernel
theorem d_M_at_128 : decode b_M_at 128 = .ok (.iaload, 1) := by decide +kernel
theorem d_M_at_129 : decode b_M_at 129 = .ok (.i2l, 1) := by decide +kernel
theorem d_M_at_130 : decode b_M_at 130 = .ok (.lmul, 1) := by decide +kernel
theorem d_M_at_131 : decode b_M_at 131 = .ok (.iload_n 2, 1) := by decide +kernel
theorem d_M_at_132 : decode b_M_at 132 = .ok (.lshr, 1) := by decide +kernel
theorem d_M_at_133 : decode b_M_at 133 = .ok (.lstore 8, 2) := by decide +kernel
theorem d_M_at_135 : decode b_M_at 135 = .ok (.lload_n 3, 1) := by decide +kernel
theorem d_M_at_136 : decode b_M_at 136 = .ok (.lload 8, 2) := by decide +kernel
theorem d_M_at_138 : decode b_M_at 138 = .ok (.aload_n 0, 1) := by decide +kernel
theorem d_M_at_139 : decode b_M_at 139 = .ok (.getfield 22, 3) := by decide +kernel
theorem d_M_at_142 : decode b_M_at 142 = .ok (.bipush 28, 2) := by decide +kernel
theorem d_M_at_144 : decode b_M_at 144 = .ok (.iload 7, 2) := by decide +kernel
theorem d_M_at_146 : decode b_M_at 146 = .ok (.imul, 1) := by decide +kernel
theorem d_M_at_147 : decode b_M_at 147 = .ok (.iload_n 1, 1) := by decide +kernel
theorem d_M_at_148 : decode b_M_at 148 = .ok (.iadd, 1) := by decide +kernel
theorem d_M_at_149 : decode b_M_at 149 = .ok (.iaload, 1) := by decide +kernel
theorem d_M_at_150 : decode b_M_at 150 = .ok (.i2l, 1) := by decide +kernel
theorem d_M_at_151 : decode b_M_at 151 = .ok (.lmul, 1) := by decide +kernel
theorem d_M_at_152 : decode b_M_at 152 = .ok (.ladd, 1) := by decide +kernel
theorem d_M_at_153 : decode b_M_at 153 = .ok (.lstore_n 3, 1) := by decide +kernel
theorem d_M_at_154 : decode b_M_at 154 = .ok (.lload 5, 2) := by decide +kernel
theorem d_M_at_156 : decode b_M_at 156 = .ok (.lload 8, 2) := by decide +kernel
theorem d_M_at_158 : decode b_M_at 158 = .ok (.ladd, 1) := by decide +kernel
theorem d_M_at_159 : decode b_M_at 159 = .ok (.lstore 5, 2) := by decide +kernel
theorem d_M_at_161 : decode b_M_at 161 = .ok (.iinc 7 1, 3) := by decide +kernel
theorem d_M_at_164 : decode b_M_at 164 = .ok (.goto (-62), 3) := by decide +kernel
theorem d_M_at_167 : decode b_M_at 167 = .ok (.lload_n 3, 1) := by decide +kernel
theorem d_M_at_168 : decode b_M_at 168 = .ok (.lload 5, 2) := by decide +kernel
theorem d_M_at_170 : decode b_M_at 170 = .ok (.invokestatic 91, 3) := by decide +kernel
theorem d_M_at_173 : decode b_M_at 173 = .ok (.l2i, 1) := by decide +kernel
theorem d_M_at_174 : decode b_M_at 174 = .ok (.ireturn, 1) := by decide +kernel
end
section
theorem d_L_corner_0 : decode b_L_corner 0 = .ok (.aload_n 0, 1) := by decide +kernel
theorem d_L_corner_1 : decode b_L_corner 1 = .ok (.iload_n 1, 1) := by decide +kernel
theorem d_L_corner_2 : decode b_L_corner 2 = .ok (.iload_n 2, 1) := by decide +kernel
theorem d_L_corner_3 : decode b_L_corner 3 = .ok (.iload_n 3, 1) := by decide +kernel
theorem d_L_corner_4 : decode b_L_corner 4 = .ok (.iload 4, 2) := by decide +kernel
theorem d_L_corner_6 : decode b_L_corner 6 = .ok (.iload 5, 2) := by decide +kernel
theorem d_L_corner_8 : decode b_L_corner 8 = .ok (.invokevirtual 7, 3) := by decide +kernel
theorem d_L_corner_11 : decode b_L_corner 11 = .ok (.goto 7, 3) := by decide +kernel
theorem d_L_corner_14 : decode b_L_corner 14 = .ok (.astore 6, 2) := by decide +kernel
theorem d_L_corner_16 : decode b_L_corner 16 = .ok (.iconst 1, 1) := by decide +kernel
theorem d_L_corner_17 : decode b_L_corner 17 = .ok (.ireturn, 1) := by decide +kernel
theorem d_L_corner_18 : decode b_L_corner 18 = .ok (.iconst 0, 1) := by decide +kernel
theorem d_L_corner_19 : decode b_L_corner 19 = .ok (.ireturn, 1) := by decide +kernel
theorem d_L_value_0 : decode b_L_value 0 = .ok (.aload_n 0, 1) := by decide +kernel
theorem d_L_value_1 : decode b_L_value 1 = .ok (.iload_n 1, 1) := by decide +kernel
theorem d_L_value_2 : decode b_L_value 2 = .ok (.iload_n 2, 1) := by decide +kernel
theorem d_L_value_3 : decode b_L_value 3 = .ok (.iload_n 3, 1) := by decide +kernel
theorem d_L_value_4 : decode b_L_value 4 = .ok (.invokevirtual 15, 3) := by decide +kernel
theorem d_L_value_7 : decode b_L_value 7 = .ok (.goto 7, 3) := by decide +kernel
theorem d_L_value_10 : decode b_L_value 10 = .ok (.astore 4, 2) := by decide +kernel
theorem d_L_value_12 : decode b_L_value 12 = .ok (.iconst 1, 1) := by decide +kernel
theorem d_L_value_13 : decode b_L_value 13 = .ok (.ireturn, 1) := by decide +kernel
theorem d_L_value_14 : decode b_L_value 14 = .ok (.iconst 0, 1) := by decide +kernel
theorem d_L_value_15 : decode b_L_value 15 = .ok (.ireturn, 1) := by decide +kernel
theorem d_L_window_0 : decode b_L_window 0 = .ok (.aload_n 0, 1) := by decide +kernel
theorem d_L_window_1 : decode b_L_window 1 = .ok (.iload_n 1, 1) := by decide +kernel
theorem d_L_window_2 : decode b_L_window 2 = .ok (.iload_n 2, 1) := by decide +kernel
theorem d_L_window_3 : decode b_L_window 3 = .ok (.iload_n 3, 1) := by decide +kernel
theorem d_L_window_4 : decode b_L_window 4 = .ok (.iload 4, 2) := by decide +kernel
theorem d_L_window_6 : decode b_L_window 6 = .ok (.invokevirtual 19, 3) := by decide +kernel
theorem d_L_window_9 : decode b_L_window 9 = .ok (.goto 7, 3) := by decide +kernel
theorem d_L_window_12 : decode b_L_window 12 = .ok (.astore 5, 2) := by decide +kernel
theorem d_L_window_14 : decode b_L_window 14 = .ok (.iconst 1, 1) := by decide +kernel
theorem d_L_window_15 : decode b_L_window 15 = .ok (.ireturn, 1) := by decide +kernel
theorem d_L_window_16 : decode b_L_window 16 = .ok (.iconst 0, 1) := by decide +kernel
theorem d_L_window_17 : decode b_L_window 17 = .ok (.ireturn, 1) := by decide +kernel
theorem d_L_covers_0 : decode b_L_covers 0 = .ok (.aload_n 3, 1) := by decide +kernel
theorem d_L_covers_1 : decode b_L_covers 1 = .ok (.iconst 0, 1) := by decide +kernel
theorem d_L_covers_2 : decode b_L_covers 2 = .ok (.aload_n 0, 1) := by decide +kernel
theorem d_L_covers_3 : decode b_L_covers 3 = .ok (.iload_n 1, 1) := by decide +kernel
theorem d_L_covers_4 : decode b_L_covers 4 = .ok (.iload_n 2, 1) := by decide +kernel
theorem d_L_covers_5 : decode b_L_covers 5 = .ok (.invokevirtual 23, 3) := by decide +kernel
theorem d_L_covers_8 : decode b_L_covers 8 = .ok (.ifCond .eq 7, 3) := by decide +kernel
theorem d_L_covers_11 : decode b_L_covers 11 = .ok (.lconst 1, 1) := by decide +kernel
theorem d_L_covers_12 : decode b_L_covers 12 = .ok (.goto 4, 3) := by decide +kernel
theorem d_L_covers_15 : decode b_L_covers 15 = .ok (.lconst 0, 1) := by decide +kernel
theorem d_L_covers_16 : decode b_L_covers 16 = .ok (.lastore, 1) := by decide +kernel
theorem d_L_covers_17 : decode b_L_covers 17 = .ok (.goto 7, 3) := by decide +kernel
theorem d_L_covers_20 : decode b_L_covers 20 = .ok (.astore 4, 2) := by decide +kernel
theorem d_L_covers_22 : decode b_L_covers 22 = .ok (.iconst 1, 1) := by decide +kernel
theorem d_L_covers_23 : decode b_L_covers 23 = .ok (.ireturn, 1) := by decide +kernel
theorem d_L_covers_24 : decode b_L_covers 24 = .ok (.iconst 0, 1) := by decide +kernel
theorem d_L_covers_25 : decode b_L_covers 25 = .ok (.ireturn, 1) := by decide +kernel
theorem d_L_next_0 : decode b_L_next 0 = .ok (.aload_n 1, 1) := by decide +kernel
theorem d_L_next_1 : decode b_L_next 1 = .ok (.iconst 0, 1) := by decide +kernel
theorem d_L_next_2 : decode b_L_next 2 = .ok (.aload_n 0, 1) := by decide +kernel
theorem d_L_next_3 : decode b_L_next 3 = .ok (.invokevirtual 27, 3) := by decide +kernel
theorem d_L_next_6 : decode b_L_next 6 = .ok (.i2l, 1) := by decide +kernel
theorem d_L_next_7 : decode b_L_next 7 = .ok (.lastore, 1) := by decide +kernel
theorem d_L_next_8 : decode b_L_next 8 = .ok (.goto 6, 3) := by decide +kernel
theorem d_L_next_11 : decode b_L_next 11 = .ok (.astore_n 2, 1) := by decide +kernel
theorem d_L_next_12 : decode b_L_next 12 = .ok (.iconst 1, 1) := by decide +kernel
theorem d_L_next_13 : decode b_L_next 13 = .ok (.ireturn, 1) := by decide +kernel
theorem d_L_next_14 : decode b_L_next 14 = .ok (.iconst 0, 1) := by decide +kernel
theorem d_L_next_15 : decode b_L_next 15 = .ok (.ireturn, 1) := by decide +kernel
theorem d_L_weight_0 : decode b_L_weight 0 = .ok (.aload_n 2, 1) := by decide +kernel
theorem d_L_weight_1 : decode b_L_weight 1 = .ok (.iconst 0, 1) := by decide +kernel
theorem d_L_weight_2 : decode b_L_weight 2 = .ok (.aload_n 0, 1) := by decide +kernel
theorem d_L_weight_3 : decode b_L_weight 3 = .ok (.iload_n 1, 1) := by decide +kernel
theorem d_L_weight_4 : decode b_L_weight 4 = .ok (.invokevirtual 33, 3) := by decide +kernel
theorem d_L_weight_7 : decode b_L_weight 7 = .ok (.lastore, 1) := by decide +kernel
theorem d_L_weight_8 : decode b_L_weight 8 = .ok (.goto 9, 3) := by decide +kernel
theorem d_L_weight_11 : decode b_L_weight 11 = .ok (.astore_n 3, 1) := by decide +kernel
theorem d_L_weight_12 : decode b_L_weight 12 = .ok (.iconst 1, 1) := by decide +kernel
theorem d_L_weight_13 : decode b_L_weight 13 = .ok (.ireturn, 1) := by decide +kernel
theorem d_L_weight_14 : decode b_L_weight 14 = .ok (.astore_n 3, 1) := by decide +kernel
theorem d_L_weight_15 : decode b_L_weight 15 = .ok (.iconst 2, 1) := by decide +kernel
theorem d_L_weight_16 : decode b_L_weight 16 = .ok (.ireturn, 1) := by decide +kernel
theorem d_L_weight_17 : decode b_L_weight 17 = .ok (.iconst 0, 1) := by decide +kernel
theorem d_L_weight_18 : decode b_L_weight 18 = .ok (.ireturn, 1) := by decide +kernel
theorem d_L_depth_0 : decode b_L_depth 0 = .ok (.aload_n 1, 1) := by decide +kernel
theorem d_L_depth_1 : decode b_L_depth 1 = .ok (.iconst 0, 1) := by decide +kernel
theorem d_L_depth_2 : decode b_L_depth 2 = .ok (.aload_n 0, 1) := by decide +kernel
theorem d_L_depth_3 : decode b_L_depth 3 = .ok (.invokevirtual 37, 3) := by decide +kernel
theorem d_L_depth_6 : decode b_L_depth 6 = .ok (.i2l, 1) := by decide +kernel
theorem d_L_depth_7 : decode b_L_depth 7 = .ok (.lastore, 1) := by decide +kernel
theorem d_L_depth_8 : decode b_L_depth 8 = .ok (.goto 6, 3) := by decide +kernel
theorem d_L_depth_11 : decode b_L_depth 11 = .ok (.astore_n 2, 1) := by decide +kernel
theorem d_L_depth_12 : decode b_L_depth 12 = .ok (.iconst 1, 1) := by decide +kernel
theorem d_L_depth_13 : decode b_L_depth 13 = .ok (.ireturn, 1) := by decide +kernel
theorem d_L_depth_14 : decode b_L_depth 14 = .ok (.iconst 0, 1) := by decide +kernel
theorem d_L_depth_15 : decode b_L_depth 15 = .ok (.ireturn, 1) := by decide +kernel
theorem d_L_at_0 : decode b_L_at 0 = .ok (.aload_n 2, 1) := by decide +kernel
theorem d_L_at_1 : decode b_L_at 1 = .ok (.iconst 0, 1) := by decide +kernel
theorem d_L_at_2 : decode b_L_at 2 = .ok (.aload_n 0, 1) := by decide +kernel
theorem d_L_at_3 : decode b_L_at 3 = .ok (.iload_n 1, 1) := by decide +kernel
theorem d_L_at_4 : decode b_L_at 4 = .ok (.invokevirtual 40, 3) := by decide +kernel
theorem d_L_at_7 : decode b_L_at 7 = .ok (.i2l, 1) := by decide +kernel
theorem d_L_at_8 : decode b_L_at 8 = .ok (.lastore, 1) := by decide +kernel
theorem d_L_at_9 : decode b_L_at 9 = .ok (.goto 9, 3) := by decide +kernel
theorem d_L_at_12 : decode b_L_at 12 = .ok (.astore_n 3, 1) := by decide +kernel
theorem d_L_at_13 : decode b_L_at 13 = .ok (.iconst 1, 1) := by decide +kernel
theorem d_L_at_14 : decode b_L_at 14 = .ok (.ireturn, 1) := by decide +kernel
theorem d_L_at_15 : decode b_L_at 15 = .ok (.astore_n 3, 1) := by decide +kernel
theorem d_L_at_16 : decode b_L_at 16 = .ok (.iconst 2, 1) := by decide +kernel
theorem d_L_at_17 : decode b_L_at 17 = .ok (.ireturn, 1) := by decide +kernel
theorem d_L_at_18 : decode b_L_at 18 = .ok (.iconst 0, 1) := by decide +kernel
theorem d_L_at_19 : decode b_L_at 19 = .ok (.ireturn, 1) := by decide +kernel
end
section
theorem d_L_law_0 : decode b_L_law 0 = .ok (.new 8, 3) := by decide +kernel
theorem d_L_law_3 : decode b_L_law 3 = .ok (.dup, 1) := by decide +kernel
theorem d_L_law_4 : decode b_L_law 4 = .ok (.invokespecial 44, 3) := by decide +kernel
theorem d_L_law_7 : decode b_L_law 7 = .ok (.astore_n 1, 1) := by decide +kernel
theorem d_L_law_8 : decode b_L_law 8 = .ok (.new 45, 3) := by decide +kernel
theorem d_L_law_11 : decode b_L_law 11 = .ok (.dup, 1) := by decide +kernel
theorem d_L_law_12 : decode b_L_law 12 = .ok (.invokespecial 47, 3) := by decide +kernel
theorem d_L_law_15 : decode b_L_law 15 = .ok (.astore_n 2, 1) := by decide +kernel
theorem d_L_law_16 : decode b_L_law 16 = .ok (.iconst 1, 1) := by decide +kernel
theorem d_L_law_17 : decode b_L_law 17 = .ok (.newarray .long, 2) := by decide +kernel
theorem d_L_law_19 : decode b_L_law 19 = .ok (.astore_n 3, 1) := by decide +kernel
theorem d_L_law_20 : decode b_L_law 20 = .ok (.iconst 0, 1) := by decide +kernel
theorem d_L_law_21 : decode b_L_law 21 = .ok (.istore 4, 2) := by decide +kernel
theorem d_L_law_23 : decode b_L_law 23 = .ok (.iload 4, 2) := by decide +kernel
theorem d_L_law_25 : decode b_L_law 25 = .ok (.aload_n 0, 1) := by decide +kernel
theorem d_L_law_26 : decode b_L_law 26 = .ok (.arraylength, 1) := by decide +kernel
theorem d_L_law_27 : decode b_L_law 27 = .ok (.bipush 6, 2) := by decide +kernel
theorem d_L_law_29 : decode b_L_law 29 = .ok (.isub, 1) := by decide +kernel
theorem d_L_law_30 : decode b_L_law 30 = .ok (.if_icmp .gt 604, 3) := by decide +kernel
theorem d_L_law_33 : decode b_L_law 33 = .ok (.aload_n 0, 1) := by decide +kernel
theorem d_L_law_34 : decode b_L_law 34 = .ok (.iload 4, 2) := by decide +kernel
theorem d_L_law_36 : decode b_L_law 36 = .ok (.iaload, 1) := by decide +kernel
theorem d_L_law_37 : decode b_L_law 37 = .ok (.bipush 15, 2) := by decide +kernel
theorem d_L_law_39 : decode b_L_law 39 = .ok (.iand, 1) := by decide +kernel
theorem d_L_law_40 : decode b_L_law 40 = .ok (.tableswitch 588 0 10 #[60, 144, 204, 276, 290, 365, 378, 389, 433, 488, 532], 60) := by decide +kernel
theorem d_L_law_100 : decode b_L_law 100 = .ok (.aload_n 1, 1) := by decide +kernel
theorem d_L_law_101 : decode b_L_law 101 = .ok (.aload_n 0, 1) := by decide +kernel
theorem d_L_law_102 : decode b_L_law 102 = .ok (.iload 4, 2) := by decide +kernel
theorem d_L_law_104 : decode b_L_law 104 = .ok (.iconst 1, 1) := by decide +kernel
theorem d_L_law_105 : decode b_L_law 105 = .ok (.iadd, 1) := by decide +kernel
theorem d_L_law_106 : decode b_L_law 106 = .ok (.iaload, 1) := by decide +kernel
theorem d_L_law_107 : decode b_L_law 107 = .ok (.aload_n 0, 1) := by decide +kernel
theorem d_L_law_108 : decode b_L_law 108 = .ok (.iload 4, 2) := by decide +kernel
theorem d_L_law_110 : decode b_L_law 110 = .ok (.iconst 2, 1) := by decide +kernel
theorem d_L_law_111 : decode b_L_law 111 = .ok (.iadd, 1) := by decide +kernel
theorem d_L_law_112 : decode b_L_law 112 = .ok (.iaload, 1) := by decide +kernel
theorem d_L_law_113 : decode b_L_law 113 = .ok (.aload_n 0, 1) := by decide +kernel
theorem d_L_law_114 : decode b_L_law 114 = .ok (.iload 4, 2) := by decide +kernel
theorem d_L_law_116 : decode b_L_law 116 = .ok (.iconst 3, 1) := by decide +kernel
theorem d_L_law_117 : decode b_L_law 117 = .ok (.iadd, 1) := by decide +kernel
theorem d_L_law_118 : decode b_L_law 118 = .ok (.iaload, 1) := by decide +kernel
theorem d_L_law_119 : decode b_L_law 119 = .ok (.aload_n 0, 1) := by decide +kernel
theorem d_L_law_120 : decode b_L_law 120 = .ok (.iload 4, 2) := by decide +kernel
theorem d_L_law_122 : decode b_L_law 122 = .ok (.iconst 4, 1) := by decide +kernel
theorem d_L_law_123 : decode b_L_law 123 = .ok (.iadd, 1) := by decide +kernel
theorem d_L_law_124 : decode b_L_law 124 = .ok (.iaload, 1) := by decide +kernel
theorem d_L_law_125 : decode b_L_law 125 = .ok (.aload_n 0, 1) := by decide +kernel
theorem d_L_law_126 : decode b_L_law 126 = .ok (.iload 4, 2) := by decide +kernel
theorem d_L_law_128 : decode b_L_law 128 = .ok (.iconst 5, 1) := by decide +kernel
theorem d_L_law_129 : decode b_L_law 129 = .ok (.iadd, 1) := by decide +kernel
theorem d_L_law_130 : decode b_L_law 130 = .ok (.iaload, 1) := by decide +kernel
theorem d_L_law_131 : decode b_L_law 131 = .ok (.invokestatic 48, 3) := by decide +kernel
theorem d_L_law_134 : decode b_L_law 134 = .ok (.istore 5, 2) := by decide +kernel
theorem d_L_law_136 : decode b_L_law 136 = .ok (.aload_n 2, 1) := by decide +kernel
theorem d_L_law_137 : decode b_L_law 137 = .ok (.aload_n 0, 1) := by decide +kernel
theorem d_L_law_138 : decode b_L_law 138 = .ok (.iload 4, 2) := by decide +kernel
theorem d_L_law_140 : decode b_L_law 140 = .ok (.iconst 1, 1) := by decide +kernel
theorem d_L_law_141 : decode b_L_law 141 = .ok (.iadd, 1) := by decide +kernel
theorem d_L_law_142 : decode b_L_law 142 = .ok (.iaload, 1) := by decide +kernel
theorem d_L_law_143 : decode b_L_law 143 = .ok (.aload_n 0, 1) := by decide +kernel
theorem d_L_law_144 : decode b_L_law 144 = .ok (.iload 4, 2) := by decide +kernel
theorem d_L_law_146 : decode b_L_law 146 = .ok (.iconst 2, 1) := by decide +kernel
theorem d_L_law_147 : decode b_L_law 147 = .ok (.iadd, 1) := by decide +kernel
theorem d_L_law_148 : decode b_L_law 148 = .ok (.iaload, 1) := by decide +kernel
theorem d_L_law_149 : decode b_L_law 149 = .ok (.aload_n 0, 1) := by decide +kernel
theorem d_L_law_150 : decode b_L_law 150 = .ok (.iload 4, 2) := by decide +kernel
theorem d_L_law_152 : decode b_L_law 152 = .ok (.iconst 3, 1) := by decide +kernel
theorem d_L_law_153 : decode b_L_law 153 = .ok (.iadd, 1) := by decide +kernel
theorem d_L_law_154 : decode b_L_law 154 = .ok (.iaload, 1) := by decide +kernel
theorem d_L_law_155 : decode b_L_law 155 = .ok (.aload_n 0, 1) := by decide +kernel
theorem d_L_law_156 : decode b_L_law 156 = .ok (.iload 4, 2) := by decide +kernel
theorem d_L_law_158 : decode b_L_law 158 = .ok (.iconst 4, 1) := by decide +kernel
theorem d_L_law_159 : decode b_L_law 159 = .ok (.iadd, 1) := by decide +kernel
theorem d_L_law_160 : decode b_L_law 160 = .ok (.iaload, 1) := by decide +kernel
theorem d_L_law_161 : decode b_L_law 161 = .ok (.aload_n 0, 1) := by decide +kernel
theorem d_L_law_162 : decode b_L_law 162 = .ok (.iload 4, 2) := by decide +kernel
theorem d_L_law_164 : decode b_L_law 164 = .ok (.iconst 5, 1) := by decide +kernel
theorem d_L_law_165 : decode b_L_law 165 = .ok (.iadd, 1) := by decide +kernel
theorem d_L_law_166 : decode b_L_law 166 = .ok (.iaload, 1) := by decide +kernel
theorem d_L_law_167 : decode b_L_law 167 = .ok (.invokevirtual 53, 3) := by decide +kernel
theorem d_L_law_170 : decode b_L_law 170 = .ok (.aload_n 2, 1) := by decide +kernel
theorem d_L_law_171 : decode b_L_law 171 = .ok (.invokevirtual 54, 3) := by decide +kernel
theorem d_L_law_174 : decode b_L_law 174 = .ok (.iload 5, 2) := by decide +kernel
theorem d_L_law_176 : decode b_L_law 176 = .ok (.if_icmp .eq 5, 3) := by decide +kernel
theorem d_L_law_179 : decode b_L_law 179 = .ok (.iconst 0, 1) := by decide +kernel
theorem d_L_law_180 : decode b_L_law 180 = .ok (.ireturn, 1) := by decide +kernel
theorem d_L_law_181 : decode b_L_law 181 = .ok (.goto 447, 3) := by decide +kernel
theorem d_L_law_184 : decode b_L_law 184 = .ok (.aload_n 1, 1) := by decide +kernel
theorem d_L_law_185 : decode b_L_law 185 = .ok (.aload_n 0, 1) := by decide +kernel
theorem d_L_law_186 : decode b_L_law 186 = .ok (.iload 4, 2) := by decide +kernel
theorem d_L_law_188 : decode b_L_law 188 = .ok (.iconst 1, 1) := by decide +kernel
theorem d_L_law_189 : decode b_L_law 189 = .ok (.iadd, 1) := by decide +kernel
theorem d_L_law_190 : decode b_L_law 190 = .ok (.iaload, 1) := by decide +kernel
theorem d_L_law_191 : decode b_L_law 191 = .ok (.aload_n 0, 1) := by decide +kernel
theorem d_L_law_192 : decode b_L_law 192 = .ok (.iload 4, 2) := by decide +kernel
theorem d_L_law_194 : decode b_L_law 194 = .ok (.iconst 2, 1) := by decide +kernel
theorem d_L_law_195 : decode b_L_law 195 = .ok (.iadd, 1) := by decide +kernel
theorem d_L_law_196 : decode b_L_law 196 = .ok (.iaload, 1) := by decide +kernel
theorem d_L_law_197 : decode b_L_law 197 = .ok (.aload_n 0, 1) := by decide +kernel
theorem d_L_law_198 : decode b_L_law 198 = .ok (.iload 4, 2) := by decide +kernel
theorem d_L_law_200 : decode b_L_law 200 = .ok (.iconst 3, 1) := by decide +kernel
theorem d_L_law_201 : decode b_L_law 201 = .ok (.iadd, 1) := by decide +kernel
theorem d_L_law_202 : decode b_L_law 202 = .ok (.iaload, 1) := by decide +kernel
theorem d_L_law_203 : decode b_L_law 203 = .ok (.invokestatic 57, 3) := by decide +kernel
theorem d_L_law_206 : decode b_L_law 206 = .ok (.istore 5, 2) := by decide +kernel
theorem d_L_law_208 : decode b_L_law 208 = .ok (.aload_n 2, 1) := by decide +kernel
theorem d_L_law_209 : decode b_L_law 209 = .ok (.aload_n 0, 1) := by decide +kernel
theorem d_L_law_210 : decode b_L_law 210 = .ok (.iload 4, 2) := by decide +kernel
theorem d_L_law_212 : decode b_L_law 212 = .ok (.iconst 1, 1) := by decide +kernel
theorem d_L_law_213 : decode b_L_law 213 = .ok (.iadd, 1) := by decide +kernel
theorem d_L_law_214 : decode b_L_law 214 = .ok (.iaload, 1) := by decide +kernel
theorem d_L_law_215 : decode b_L_law 215 = .ok (.aload_n 0, 1) := by decide +kernel
theorem d_L_law_216 : decode b_L_law 216 = .ok (.iload 4, 2) := by decide +kernel
theorem d_L_law_218 : decode b_L_law 218 = .ok (.iconst 2, 1) := by decide +kernel
theorem d_L_law_219 : decode b_L_law 219 = .ok (.iadd, 1) := by decide +kernel
theorem d_L_law_220 : decode b_L_law 220 = .ok (.iaload, 1) := by decide +kernel
theorem d_L_law_221 : decode b_L_law 221 = .ok (.aload_n 0, 1) := by decide +kernel
theorem d_L_law_222 : decode b_L_law 222 = .ok (.iload 4, 2) := by decide +kernel
theorem d_L_law_224 : decode b_L_law 224 = .ok (.iconst 3, 1) := by decide +kernel
theorem d_L_law_225 : decode b_L_law 225 = .ok (.iadd, 1) := by decide +kernel
theorem d_L_law_226 : decode b_L_law 226 = .ok (.iaload, 1) := by decide +kernel
theorem d_L_law_227 : decode b_L_law 227 = .ok (.invokevirtual 60, 3) := by decide +kernel
theorem d_L_law_230 : decode b_L_law 230 = .ok (.aload_n 2, 1) := by decide +kernel
theorem d_L_law_231 : decode b_L_law 231 = .ok (.invokevirtual 54, 3) := by decide +kernel
theorem d_L_law_234 : decode b_L_law 234 = .ok (.iload 5, 2) := by decide +kernel
theorem d_L_law_236 : decode b_L_law 236 = .ok (.if_icmp .eq 5, 3) := by decide +kernel
theorem d_L_law_239 : decode b_L_law 239 = .ok (.iconst 0, 1) := by decide +kernel
theorem d_L_law_240 : decode b_L_law 240 = .ok (.ireturn, 1) := by decide +kernel
theorem d_L_law_241 : decode b_L_law 241 = .ok (.goto 387, 3) := by decide +kernel
theorem d_L_law_244 : decode b_L_law 244 = .ok (.aload_n 1, 1) := by decide +kernel
theorem d_L_law_245 : decode b_L_law 245 = .ok (.aload_n 0, 1) := by decide +kernel
theorem d_L_law_246 : decode b_L_law 246 = .ok (.iload 4, 2) := by decide +kernel
theorem d_L_law_248 : decode b_L_law 248 = .ok (.iconst 1, 1) := by decide +kernel
theorem d_L_law_249 : decode b_L_law 249 = .ok (.iadd, 1) := by decide +kernel
theorem d_L_law_250 : decode b_L_law 250 = .ok (.iaload, 1) := by decide +kernel
theorem d_L_law_251 : decode b_L_law 251 = .ok (.aload_n 0, 1) := by decide +kernel
theorem d_L_law_252 : decode b_L_law 252 = .ok (.iload 4, 2) := by decide +kernel
theorem d_L_law_254 : decode b_L_law 254 = .ok (.iconst 2, 1) := by decide +kernel
theorem d_L_law_255 : decode b_L_law 255 = .ok (.iadd, 1) := by decide +kernel
theorem d_L_law_256 : decode b_L_law 256 = .ok (.iaload, 1) := by decide +kernel
theorem d_L_law_257 : decode b_L_law 257 = .ok (.aload_n 0, 1) := by decide +kernel
theorem d_L_law_258 : decode b_L_law 258 = .ok (.iload 4, 2) := by decide +kernel
theorem d_L_law_260 : decode b_L_law 260 = .ok (.iconst 3, 1) := by decide +kernel
theorem d_L_law_261 : decode b_L_law 261 = .ok (.iadd, 1) := by decide +kernel
theorem d_L_law_262 : decode b_L_law 262 = .ok (.iaload, 1) := by decide +kernel
theorem d_L_law_263 : decode b_L_law 263 = .ok (.aload_n 0, 1) := by decide +kernel
theorem d_L_law_264 : decode b_L_law 264 = .ok (.iload 4, 2) := by decide +kernel
theorem d_L_law_266 : decode b_L_law 266 = .ok (.iconst 4, 1) := by decide +kernel
theorem d_L_law_267 : decode b_L_law 267 = .ok (.iadd, 1) := by decide +kernel
theorem d_L_law_268 : decode b_L_law 268 = .ok (.iaload, 1) := by decide +kernel
theorem d_L_law_269 : decode b_L_law 269 = .ok (.invokestatic 61, 3) := by decide +kernel
theorem d_L_law_272 : decode b_L_law 272 = .ok (.istore 5, 2) := by decide +kernel
theorem d_L_law_274 : decode b_L_law 274 = .ok (.aload_n 2, 1) := by decide +kernel
theorem d_L_law_275 : decode b_L_law 275 = .ok (.aload_n 0, 1) := by decide +kernel
theorem d_L_law_276 : decode b_L_law 276 = .ok (.iload 4, 2) := by decide +kernel
theorem d_L_law_278 : decode b_L_law 278 = .ok (.iconst 1, 1) := by decide +kernel
theorem d_L_law_279 : decode b_L_law 279 = .ok (.iadd, 1) := by decide +kernel
theorem d_L_law_280 : decode b_L_law 280 = .ok (.iaload, 1) := by decide +kernel
theorem d_L_law_281 : decode b_L_law 281 = .ok (.aload_n 0, 1) := by decide +kernel
theorem d_L_law_282 : decode b_L_law 282 = .ok (.iload 4, 2) := by decide +kernel
theorem d_L_law_284 : decode b_L_law 284 = .ok (.iconst 2, 1) := by decide +kernel
theorem d_L_law_285 : decode b_L_law 285 = .ok (.iadd, 1) := by decide +kernel
theorem d_L_law_286 : decode b_L_law 286 = .ok (.iaload, 1) := by decide +kernel
theorem d_L_law_287 : decode b_L_law 287 = .ok (.aload_n 0, 1) := by decide +kernel
theorem d_L_law_288 : decode b_L_law 288 = .ok (.iload 4, 2) := by decide +kernel
theorem d_L_law_290 : decode b_L_law 290 = .ok (.iconst 3, 1) := by decide +kernel
theorem d_L_law_291 : decode b_L_law 291 = .ok (.iadd, 1) := by decide +kernel
theorem d_L_law_292 : decode b_L_law 292 = .ok (.iaload, 1) := by decide +kernel
theorem d_L_law_293 : decode b_L_law 293 = .ok (.aload_n 0, 1) := by decide +kernel
theorem d_L_law_294 : decode b_L_law 294 = .ok (.iload 4, 2) := by decide +kernel
theorem d_L_law_296 : decode b_L_law 296 = .ok (.iconst 4, 1) := by decide +kernel
theorem d_L_law_297 : decode b_L_law 297 = .ok (.iadd, 1) := by decide +kernel
theorem d_L_law_298 : decode b_L_law 298 = .ok (.iaload, 1) := by decide +kernel
theorem d_L_law_299 : decode b_L_law 299 = .ok (.invokevirtual 64, 3) := by decide +kernel
theorem d_L_law_302 : decode b_L_law 302 = .ok (.aload_n 2, 1) := by decide +kernel
theorem d_L_law_303 : decode b_L_law 303 = .ok (.invokevirtual 54, 3) := by decide +kernel
theorem d_L_law_306 : decode b_L_law 306 = .ok (.iload 5, 2) := by decide +kernel
theorem d_L_law_308 : decode b_L_law 308 = .ok (.if_icmp .eq 5, 3) := by decide +kernel
theorem d_L_law_311 : decode b_L_law 311 = .ok (.iconst 0, 1) := by decide +kernel
theorem d_L_law_312 : decode b_L_law 312 = .ok (.ireturn, 1) := by decide +kernel
theorem d_L_law_313 : decode b_L_law 313 = .ok (.goto 315, 3) := by decide +kernel
theorem d_L_law_316 : decode b_L_law 316 = .ok (.aload_n 1, 1) := by decide +kernel
theorem d_L_law_317 : decode b_L_law 317 = .ok (.invokevirtual 65, 3) := by decide +kernel
theorem d_L_law_320 : decode b_L_law 320 = .ok (.aload_n 2, 1) := by decide +kernel
theorem d_L_law_321 : decode b_L_law 321 = .ok (.invokevirtual 69, 3) := by decide +kernel
theorem d_L_law_324 : decode b_L_law 324 = .ok (.lcmp, 1) := by decide +kernel
theorem d_L_law_325 : decode b_L_law 325 = .ok (.ifCond .eq 303, 3) := by decide +kernel
theorem d_L_law_328 : decode b_L_law 328 = .ok (.iconst 0, 1) := by decide +kernel
theorem d_L_law_329 : decode b_L_law 329 = .ok (.ireturn, 1) := by decide +kernel
theorem d_L_law_330 : decode b_L_law 330 = .ok (.aload_n 1, 1) := by decide +kernel
theorem d_L_law_331 : decode b_L_law 331 = .ok (.aload_n 0, 1) := by decide +kernel
theorem d_L_law_332 : decode b_L_law 332 = .ok (.iload 4, 2) := by decide +kernel
theorem d_L_law_334 : decode b_L_law 334 = .ok (.iconst 1, 1) := by decide +kernel
theorem d_L_law_335 : decode b_L_law 335 = .ok (.iadd, 1) := by decide +kernel
theorem d_L_law_336 : decode b_L_law 336 = .ok (.iaload, 1) := by decide +kernel
theorem d_L_law_337 : decode b_L_law 337 = .ok (.aload_n 0, 1) := by decide +kernel
theorem d_L_law_338 : decode b_L_law 338 = .ok (.iload 4, 2) := by decide +kernel
theorem d_L_law_340 : decode b_L_law 340 = .ok (.iconst 2, 1) := by decide +kernel
theorem d_L_law_341 : decode b_L_law 341 = .ok (.iadd, 1) := by decide +kernel
theorem d_L_law_342 : decode b_L_law 342 = .ok (.iaload, 1) := by decide +kernel
theorem d_L_law_343 : decode b_L_law 343 = .ok (.aload_n 3, 1) := by decide +kernel
theorem d_L_law_344 : decode b_L_law 344 = .ok (.invokestatic 70, 3) := by decide +kernel
theorem d_L_law_347 : decode b_L_law 347 = .ok (.istore 5, 2) := by decide +kernel
theorem d_L_law_349 : decode b_L_law 349 = .ok (.aload_n 2, 1) := by decide +kernel
theorem d_L_law_350 : decode b_L_law 350 = .ok (.aload_n 0, 1) := by decide +kernel
theorem d_L_law_351 : decode b_L_law 351 = .ok (.iload 4, 2) := by decide +kernel
theorem d_L_law_353 : decode b_L_law 353 = .ok (.iconst 1, 1) := by decide +kernel
theorem d_L_law_354 : decode b_L_law 354 = .ok (.iadd, 1) := by decide +kernel
theorem d_L_law_355 : decode b_L_law 355 = .ok (.iaload, 1) := by decide +kernel
theorem d_L_law_356 : decode b_L_law 356 = .ok (.aload_n 0, 1) := by decide +kernel
theorem d_L_law_357 : decode b_L_law 357 = .ok (.iload 4, 2) := by decide +kernel
theorem d_L_law_359 : decode b_L_law 359 = .ok (.iconst 2, 1) := by decide +kernel
theorem d_L_law_360 : decode b_L_law 360 = .ok (.iadd, 1) := by decide +kernel
theorem d_L_law_361 : decode b_L_law 361 = .ok (.iaload, 1) := by decide +kernel
theorem d_L_law_362 : decode b_L_law 362 = .ok (.invokevirtual 73, 3) := by decide +kernel
theorem d_L_law_365 : decode b_L_law 365 = .ok (.istore 6, 2) := by decide +kernel
theorem d_L_law_367 : decode b_L_law 367 = .ok (.aload_n 2, 1) := by decide +kernel
theorem d_L_law_368 : decode b_L_law 368 = .ok (.invokevirtual 54, 3) := by decide +kernel
theorem d_L_law_371 : decode b_L_law 371 = .ok (.iload 5, 2) := by decide +kernel
theorem d_L_law_373 : decode b_L_law 373 = .ok (.if_icmp .eq 5, 3) := by decide +kernel
theorem d_L_law_376 : decode b_L_law 376 = .ok (.iconst 0, 1) := by decide +kernel
theorem d_L_law_377 : decode b_L_law 377 = .ok (.ireturn, 1) := by decide +kernel
theorem d_L_law_378 : decode b_L_law 378 = .ok (.iload 5, 2) := by decide +kernel
theorem d_L_law_380 : decode b_L_law 380 = .ok (.ifCond .ne 22, 3) := by decide +kernel
theorem d_L_law_383 : decode b_L_law 383 = .ok (.aload_n 3, 1) := by decide +kernel
theorem d_L_law_384 : decode b_L_law 384 = .ok (.iconst 0, 1) := by decide +kernel
theorem d_L_law_385 : decode b_L_law 385 = .ok (.laload, 1) := by decide +kernel
theorem d_L_law_386 : decode b_L_law 386 = .ok (.iload 6, 2) := by decide +kernel
theorem d_L_law_388 : decode b_L_law 388 = .ok (.ifCond .eq 7, 3) := by decide +kernel
theorem d_L_law_391 : decode b_L_law 391 = .ok (.lconst 1, 1) := by decide +kernel
theorem d_L_law_392 : decode b_L_law 392 = .ok (.goto 4, 3) := by decide +kernel
theorem d_L_law_395 : decode b_L_law 395 = .ok (.lconst 0, 1) := by decide +kernel
theorem d_L_law_396 : decode b_L_law 396 = .ok (.lcmp, 1) := by decide +kernel
theorem d_L_law_397 : decode b_L_law 397 = .ok (.ifCond .eq 5, 3) := by decide +kernel
theorem d_L_law_400 : decode b_L_law 400 = .ok (.iconst 0, 1) := by decide +kernel
theorem d_L_law_401 : decode b_L_law 401 = .ok (.ireturn, 1) := by decide +kernel
theorem d_L_law_402 : decode b_L_law 402 = .ok (.goto 226, 3) := by decide +kernel
theorem d_L_law_405 : decode b_L_law 405 = .ok (.aload_n 1, 1) := by decide +kernel
theorem d_L_law_406 : decode b_L_law 406 = .ok (.invokevirtual 74, 3) := by decide +kernel
theorem d_L_law_409 : decode b_L_law 409 = .ok (.aload_n 2, 1) := by decide +kernel
theorem d_L_law_410 : decode b_L_law 410 = .ok (.invokevirtual 77, 3) := by decide +kernel
theorem d_L_law_413 : decode b_L_law 413 = .ok (.if_icmp .eq 215, 3) := by decide +kernel
theorem d_L_law_416 : decode b_L_law 416 = .ok (.iconst 0, 1) := by decide +kernel
theorem d_L_law_417 : decode b_L_law 417 = .ok (.ireturn, 1) := by decide +kernel
theorem d_L_law_418 : decode b_L_law 418 = .ok (.aload_n 1, 1) := by decide +kernel
theorem d_L_law_419 : decode b_L_law 419 = .ok (.invokevirtual 78, 3) := by decide +kernel
theorem d_L_law_422 : decode b_L_law 422 = .ok (.aload_n 2, 1) := by decide +kernel
theorem d_L_law_423 : decode b_L_law 423 = .ok (.invokevirtual 81, 3) := by decide +kernel
theorem d_L_law_426 : decode b_L_law 426 = .ok (.goto 202, 3) := by decide +kernel
theorem d_L_law_429 : decode b_L_law 429 = .ok (.aload_n 1, 1) := by decide +kernel
theorem d_L_law_430 : decode b_L_law 430 = .ok (.aload_n 3, 1) := by decide +kernel
theorem d_L_law_431 : decode b_L_law 431 = .ok (.invokestatic 82, 3) := by decide +kernel
theorem d_L_law_434 : decode b_L_law 434 = .ok (.istore 5, 2) := by decide +kernel
theorem d_L_law_436 : decode b_L_law 436 = .ok (.aload_n 2, 1) := by decide +kernel
theorem d_L_law_437 : decode b_L_law 437 = .ok (.invokevirtual 85, 3) := by decide +kernel
theorem d_L_law_440 : decode b_L_law 440 = .ok (.istore 6, 2) := by decide +kernel
theorem d_L_law_442 : decode b_L_law 442 = .ok (.aload_n 2, 1) := by decide +kernel
theorem d_L_law_443 : decode b_L_law 443 = .ok (.invokevirtual 54, 3) := by decide +kernel
theorem d_L_law_446 : decode b_L_law 446 = .ok (.iload 5, 2) := by decide +kernel
theorem d_L_law_448 : decode b_L_law 448 = .ok (.if_icmp .eq 5, 3) := by decide +kernel
theorem d_L_law_451 : decode b_L_law 451 = .ok (.iconst 0, 1) := by decide +kernel
theorem d_L_law_452 : decode b_L_law 452 = .ok (.ireturn, 1) := by decide +kernel
theorem d_L_law_453 : decode b_L_law 453 = .ok (.iload 5, 2) := by decide +kernel
theorem d_L_law_455 : decode b_L_law 455 = .ok (.ifCond .ne 15, 3) := by decide +kernel
theorem d_L_law_458 : decode b_L_law 458 = .ok (.aload_n 3, 1) := by decide +kernel
theorem d_L_law_459 : decode b_L_law 459 = .ok (.iconst 0, 1) := by decide +kernel
theorem d_L_law_460 : decode b_L_law 460 = .ok (.laload, 1) := by decide +kernel
theorem d_L_law_461 : decode b_L_law 461 = .ok (.iload 6, 2) := by decide +kernel
theorem d_L_law_463 : decode b_L_law 463 = .ok (.i2l, 1) := by decide +kernel
theorem d_L_law_464 : decode b_L_law 464 = .ok (.lcmp, 1) := by decide +kernel
theorem d_L_law_465 : decode b_L_law 465 = .ok (.ifCond .eq 5, 3) := by decide +kernel
theorem d_L_law_468 : decode b_L_law 468 = .ok (.iconst 0, 1) := by decide +kernel
theorem d_L_law_469 : decode b_L_law 469 = .ok (.ireturn, 1) := by decide +kernel
theorem d_L_law_470 : decode b_L_law 470 = .ok (.goto 158, 3) := by decide +kernel
theorem d_L_law_473 : decode b_L_law 473 = .ok (.aload_n 1, 1) := by decide +kernel
theorem d_L_law_474 : decode b_L_law 474 = .ok (.aload_n 0, 1) := by decide +kernel
theorem d_L_law_475 : decode b_L_law 475 = .ok (.iload 4, 2) := by decide +kernel
theorem d_L_law_477 : decode b_L_law 477 = .ok (.iconst 1, 1) := by decide +kernel
theorem d_L_law_478 : decode b_L_law 478 = .ok (.iadd, 1) := by decide +kernel
theorem d_L_law_479 : decode b_L_law 479 = .ok (.iaload, 1) := by decide +kernel
theorem d_L_law_480 : decode b_L_law 480 = .ok (.aload_n 3, 1) := by decide +kernel
theorem d_L_law_481 : decode b_L_law 481 = .ok (.invokestatic 86, 3) := by decide +kernel
theorem d_L_law_484 : decode b_L_law 484 = .ok (.istore 5, 2) := by decide +kernel
theorem d_L_law_486 : decode b_L_law 486 = .ok (.aload_n 2, 1) := by decide +kernel
theorem d_L_law_487 : decode b_L_law 487 = .ok (.aload_n 0, 1) := by decide +kernel
theorem d_L_law_488 : decode b_L_law 488 = .ok (.iload 4, 2) := by decide +kernel
theorem d_L_law_490 : decode b_L_law 490 = .ok (.iconst 1, 1) := by decide +kernel
theorem d_L_law_491 : decode b_L_law 491 = .ok (.iadd, 1) := by decide +kernel
theorem d_L_law_492 : decode b_L_law 492 = .ok (.iaload, 1) := by decide +kernel
theorem d_L_law_493 : decode b_L_law 493 = .ok (.invokevirtual 89, 3) := by decide +kernel
theorem d_L_law_496 : decode b_L_law 496 = .ok (.lstore 6, 2) := by decide +kernel
theorem d_L_law_498 : decode b_L_law 498 = .ok (.aload_n 2, 1) := by decide +kernel
theorem d_L_law_499 : decode b_L_law 499 = .ok (.invokevirtual 54, 3) := by decide +kernel
theorem d_L_law_502 : decode b_L_law 502 = .ok (.iload 5, 2) := by decide +kernel
theorem d_L_law_504 : decode b_L_law 504 = .ok (.if_icmp .eq 5, 3) := by decide +kernel
theorem d_L_law_507 : decode b_L_law 507 = .ok (.iconst 0, 1) := by decide +kernel
theorem d_L_law_508 : decode b_L_law 508 = .ok (.ireturn, 1) := by decide +kernel
theorem d_L_law_509 : decode b_L_law 509 = .ok (.iload 5, 2) := by decide +kernel
theorem d_L_law_511 : decode b_L_law 511 = .ok (.ifCond .ne 14, 3) := by decide +kernel
theorem d_L_law_514 : decode b_L_law 514 = .ok (.aload_n 3, 1) := by decide +kernel
theorem d_L_law_515 : decode b_L_law 515 = .ok (.iconst 0, 1) := by decide +kernel
theorem d_L_law_516 : decode b_L_law 516 = .ok (.laload, 1) := by decide +kernel
theorem d_L_law_517 : decode b_L_law 517 = .ok (.lload 6, 2) := by decide +kernel
theorem d_L_law_519 : decode b_L_law 519 = .ok (.lcmp, 1) := by decide +kernel
theorem d_L_law_520 : decode b_L_law 520 = .ok (.ifCond .eq 5, 3) := by decide +kernel
theorem d_L_law_523 : decode b_L_law 523 = .ok (.iconst 0, 1) := by decide +kernel
theorem d_L_law_524 : decode b_L_law 524 = .ok (.ireturn, 1) := by decide +kernel
theorem d_L_law_525 : decode b_L_law 525 = .ok (.goto 103, 3) := by decide +kernel
theorem d_L_law_528 : decode b_L_law 528 = .ok (.aload_n 1, 1) := by decide +kernel
theorem d_L_law_529 : decode b_L_law 529 = .ok (.aload_n 3, 1) := by decide +kernel
theorem d_L_law_530 : decode b_L_law 530 = .ok (.invokestatic 90, 3) := by decide +kernel
theorem d_L_law_533 : decode b_L_law 533 = .ok (.istore 5, 2) := by decide +kernel
theorem d_L_law_535 : decode b_L_law 535 = .ok (.aload_n 2, 1) := by decide +kernel
theorem d_L_law_536 : decode b_L_law 536 = .ok (.invokevirtual 92, 3) := by decide +kernel
theorem d_L_law_539 : decode b_L_law 539 = .ok (.istore 6, 2) := by decide +kernel
theorem d_L_law_541 : decode b_L_law 541 = .ok (.aload_n 2, 1) := by decide +kernel
theorem d_L_law_542 : decode b_L_law 542 = .ok (.invokevirtual 54, 3) := by decide +kernel
theorem d_L_law_545 : decode b_L_law 545 = .ok (.iload 5, 2) := by decide +kernel
theorem d_L_law_547 : decode b_L_law 547 = .ok (.if_icmp .eq 5, 3) := by decide +kernel
theorem d_L_law_550 : decode b_L_law 550 = .ok (.iconst 0, 1) := by decide +kernel
theorem d_L_law_551 : decode b_L_law 551 = .ok (.ireturn, 1) := by decide +kernel
theorem d_L_law_552 : decode b_L_law 552 = .ok (.iload 5, 2) := by decide +kernel
theorem d_L_law_554 : decode b_L_law 554 = .ok (.ifCond .ne 15, 3) := by decide +kernel
theorem d_L_law_557 : decode b_L_law 557 = .ok (.aload_n 3, 1) := by decide +kernel
theorem d_L_law_558 : decode b_L_law 558 = .ok (.iconst 0, 1) := by decide +kernel
theorem d_L_law_559 : decode b_L_law 559 = .ok (.laload, 1) := by decide +kernel
theorem d_L_law_560 : decode b_L_law 560 = .ok (.iload 6, 2) := by decide +kernel
theorem d_L_law_562 : decode b_L_law 562 = .ok (.i2l, 1) := by decide +kernel
theorem d_L_law_563 : decode b_L_law 563 = .ok (.lcmp, 1) := by decide +kernel
theorem d_L_law_564 : decode b_L_law 564 = .ok (.ifCond .eq 5, 3) := by decide +kernel
theorem d_L_law_567 : decode b_L_law 567 = .ok (.iconst 0, 1) := by decide +kernel
theorem d_L_law_568 : decode b_L_law 568 = .ok (.ireturn, 1) := by decide +kernel
theorem d_L_law_569 : decode b_L_law 569 = .ok (.goto 59, 3) := by decide +kernel
theorem d_L_law_572 : decode b_L_law 572 = .ok (.aload_n 1, 1) := by decide +kernel
theorem d_L_law_573 : decode b_L_law 573 = .ok (.aload_n 0, 1) := by decide +kernel
theorem d_L_law_574 : decode b_L_law 574 = .ok (.iload 4, 2) := by decide +kernel
theorem d_L_law_576 : decode b_L_law 576 = .ok (.iconst 1, 1) := by decide +kernel
theorem d_L_law_577 : decode b_L_law 577 = .ok (.iadd, 1) := by decide +kernel
theorem d_L_law_578 : decode b_L_law 578 = .ok (.iaload, 1) := by decide +kernel
theorem d_L_law_579 : decode b_L_law 579 = .ok (.aload_n 3, 1) := by decide +kernel
theorem d_L_law_580 : decode b_L_law 580 = .ok (.invokestatic 93, 3) := by decide +kernel
theorem d_L_law_583 : decode b_L_law 583 = .ok (.istore 5, 2) := by decide +kernel
theorem d_L_law_585 : decode b_L_law 585 = .ok (.aload_n 2, 1) := by decide +kernel
theorem d_L_law_586 : decode b_L_law 586 = .ok (.aload_n 0, 1) := by decide +kernel
theorem d_L_law_587 : decode b_L_law 587 = .ok (.iload 4, 2) := by decide +kernel
theorem d_L_law_589 : decode b_L_law 589 = .ok (.iconst 1, 1) := by decide +kernel
theorem d_L_law_590 : decode b_L_law 590 = .ok (.iadd, 1) := by decide +kernel
theorem d_L_law_591 : decode b_L_law 591 = .ok (.iaload, 1) := by decide +kernel
theorem d_L_law_592 : decode b_L_law 592 = .ok (.invokevirtual 95, 3) := by decide +kernel
theorem d_L_law_595 : decode b_L_law 595 = .ok (.istore 6, 2) := by decide +kernel
theorem d_L_law_597 : decode b_L_law 597 = .ok (.aload_n 2, 1) := by decide +kernel
theorem d_L_law_598 : decode b_L_law 598 = .ok (.invokevirtual 54, 3) := by decide +kernel
theorem d_L_law_601 : decode b_L_law 601 = .ok (.iload 5, 2) := by decide +kernel
theorem d_L_law_603 : decode b_L_law 603 = .ok (.if_icmp .eq 5, 3) := by decide +kernel
theorem d_L_law_606 : decode b_L_law 606 = .ok (.iconst 0, 1) := by decide +kernel
theorem d_L_law_607 : decode b_L_law 607 = .ok (.ireturn, 1) := by decide +kernel
theorem d_L_law_608 : decode b_L_law 608 = .ok (.iload 5, 2) := by decide +kernel
theorem d_L_law_610 : decode b_L_law 610 = .ok (.ifCond .ne 15, 3) := by decide +kernel
theorem d_L_law_613 : decode b_L_law 613 = .ok (.aload_n 3, 1) := by decide +kernel
theorem d_L_law_614 : decode b_L_law 614 = .ok (.iconst 0, 1) := by decide +kernel
theorem d_L_law_615 : decode b_L_law 615 = .ok (.laload, 1) := by decide +kernel
theorem d_L_law_616 : decode b_L_law 616 = .ok (.iload 6, 2) := by decide +kernel
theorem d_L_law_618 : decode b_L_law 618 = .ok (.i2l, 1) := by decide +kernel
theorem d_L_law_619 : decode b_L_law 619 = .ok (.lcmp, 1) := by decide +kernel
theorem d_L_law_620 : decode b_L_law 620 = .ok (.ifCond .eq 5, 3) := by decide +kernel
theorem d_L_law_623 : decode b_L_law 623 = .ok (.iconst 0, 1) := by decide +kernel
theorem d_L_law_624 : decode b_L_law 624 = .ok (.ireturn, 1) := by decide +kernel
theorem d_L_law_625 : decode b_L_law 625 = .ok (.goto 3, 3) := by decide +kernel
theorem d_L_law_628 : decode b_L_law 628 = .ok (.iinc 4 6, 3) := by decide +kernel
theorem d_L_law_631 : decode b_L_law 631 = .ok (.goto (-608), 3) := by decide +kernel
theorem d_L_law_634 : decode b_L_law 634 = .ok (.iconst 1, 1) := by decide +kernel
theorem d_L_law_635 : decode b_L_law 635 = .ok (.ireturn, 1) := by decide +kernel
end
section
-- THROWING AND CATCHING: a contract of a call that throws; the row of 'throw new X("..")'; the row of a call whose throw is caught in the calling method
theorem er_same_nil {s s' : State} {k n : Nat} (h : s.sameButNew s' [] k n) : s.heap.size ≤ s'.heap.size ∧ ∀ q : Nat, q < s.heap.size → s'.heap[q]? = s.heap[q]? := by
  refine ⟨h.2.1, fun q hq => ?_⟩
  obtain ⟨c', h1, h2, h3, h4⟩ := h.2.2.2.2.2 q s.heap[q] (Array.getElem?_eq_getElem hq)
  rw [h1, Array.getElem?_eq_getElem hq]
  have e : c'.slots = s.heap[q].slots := by
    apply Array.ext_getElem?
    intro i
    exact h4 i (by simp)
  rw [h2, e]
def er_TQ (below : List Frame) (cls : String) (s : State) (mc ms : Nat) : State → Prop := fun t => ∃ (x : Addr) (ce : Cell), t.status = .running ∧ Ended t below (.threw x) ∧ t.heap[x]? = some ce ∧ ce.vm = .none ∧ s.vm.findClass cls = some ce.cls ∧ s.WarmedH t.vm ∧ s.sameButNew ({ t with vm := s.vm } : State) [] mc ms
/-- method y, from every state where the words ws hold, the room rm is left and 'Pc args s': it throws a new object of the class cls; nothing that was there is changed; mc cells of ms slots come -/
def er_T (l : Launch) (y : MethodName) (ws : List Cond) (rm : Room) (Pc : Array Value → State → Prop) (cls : String) (mc ms : Nat) : Prop :=
  MetFree l y (headSpec ws rm) Pc (fun _ _ _ _ _ => True) (fun _ st o t => ∃ (x : Addr) (ce : Cell), o = .threw x ∧ t.heap[x]? = some ce ∧ ce.vm = .none ∧ st.vm.findClass cls = some ce.cls ∧ st.WarmedH t.vm ∧ st.sameButNew ({ t with vm := st.vm } : State) [] mc ms)
theorem er_T.ofW {l : Launch} {y : MethodName} {ws ws' : List Cond} {rm : Room} {Pc : Array Value → State → Prop} {cls : String} {mc ms : Nat} {cc : ByteArray} {maxL : Nat} {ret : Option FieldType}
    (hy : plainName y.cls = true) (hw : ws = Cond.code y cc maxL ret :: ws')
    (body : ∀ p e s m args below meth c s₁, BodyLoose p l y (headSpec ws rm) cc maxL ret e s m args below meth c s₁ → c.maxLocals = maxL → Pc args s →
      W p l e (headSpec ws rm).room s m args below meth c s.heap [] 0 0 (er_TQ below cls s mc ms) (entryFrame m args maxL)) : er_T l y ws rm Pc cls mc ms := by
  refine MetFree.of_bodyS (code := cc) (maxLocals := maxL) (ret := ret) hy ?_ ?_
  · intro args s m h hn
    obtain ⟨meth, c, h1, h2, h3, h4, h5, h6, -, -⟩ := Cond.code_spec hn (atoms_spec (ws := ws) h _ (by rw [hw]; exact List.mem_cons_self))
    exact ⟨meth, c, h1, h2, h3, h4, h5, h6⟩
  · intro p e s m args below meth c s₁ B hml hP _
    have hh0 : s₁.heap = s.heap := by rw [B.state]; rfl
    obtain ⟨t, a1, x, ce, b1, b2, b3⟩ := body p e s m args below meth c s₁ B hml hP s₁ hh0 (Stand.of_body B)
    exact ⟨t, .threw x, a1, b1, b2, x, ce, rfl, b3⟩
section ErThrow
variable {p : Program} {l : Launch} {e : Env} {R : Room} {s : State} {m : MethodId} {args : Array Value} {below : List Frame} {meth : Method} {c : Code} {H : Heap} {locs : List Loc} {cells slots : Nat} {Q : State → Prop}
theorem er_throw {cc : ByteArray} (hexec : p.tables.exec = Jvm.exec) (hb : c.code = cc) (htr : e.platform.stackTraces = false) {own cls tx : String} {names : List String} {ia ib ic q : Nat} (hown : s.vm.findClass own = some m.cls)
    (hcls : Bundle.fit cls = true) (hnames : ∀ n ∈ names, Bundle.fit n = true) (hat : ∀ a ∈ Bundle.ownAtoms own ic cls names, a.before args s = true) (hlink : (Cond.classLink own ia cls).before args s = true) (hini : (Cond.initialized cls).before args s = true) (hstr : vk_R own ib tx q s)
    (hno : c.exceptionTable.isEmpty = true) (hlocks : meth.locks = false) {pc : Nat} {ls : Array Slot} {rest : List Value} (hls : ls.size = c.maxLocals) (hH : s.heap.size ≤ H.size)
    (d0 : decode cc pc = .ok (.new ia, 3)) (d3 : decode cc (pc + 3) = .ok (.dup, 1)) (d4 : decode cc (pc + 4) = .ok (.ldc ib, 2)) (d6 : decode cc (pc + 6) = .ok (.invokespecial ic, 3)) (d9 : decode cc (pc + 9) = .ok (.athrow, 1))
    (hc : cells + 1 ≤ R.cells) (hs : slots + 6 ≤ R.slots) (hf : names.length + 3 < R.frames) (hl : 1 + (rest.map fun v => v.category).sum + (13 * (names.length + 1) + 42) ≤ R.locals) :
    W p l e R s m args below meth c H [] cells slots (er_TQ below cls s (cells + 1) (slots + 6)) (F0 m pc ls rest) := by
  refine W.newc (n := 6) hexec hb hown hlink (hat (.instantiable cls 6) (by simp [Bundle.ownAtoms])) hini rfl d0 hc hs (fun cC kC h1 h2 h3 h4 => ?_)
  refine W.eq (g2 := F0 m (pc + 3) ls (.ref H.size :: rest)) rfl ?_
  refine lv_dup hexec hb d3 rfl ?_
  refine va_ldcS hexec hb hown hstr d4 ?_
  intro T hT X
  have hempty : c.exceptionTable.toList = [] := by
    have h0 : c.exceptionTable.size = 0 := by simpa [Array.isEmpty] using hno
    exact List.eq_nil_of_length_eq_zero (by simpa using h0)
  have hcell : T.heap[H.size]? = some (freshCell cC kC) := by rw [hT]; simp
  obtain ⟨U, st, hrun, hend, hW, hsame, ce, hce, hown'⟩ := X.ctorThrowS hexec htr (own := own) (cls := cls) (names := names) (ic := ic) hown hcls hnames hat (fun x hx => by cases hx) (a := H.size) h1 h2 hcell hH (msg := .ref q) rfl
    (g := F0 m (pc + 4 + 2) ls (.ref q :: .ref H.size :: .ref H.size :: rest)) rfl hls rfl rfl (rest := rest) rfl (by rw [hb]; exact d6) (by rw [hb]; exact d9) (fun x hx => by rw [hempty] at hx; cases hx) hf
    (by show 2 * 0 + (1 + (rest.map fun v => v.category).sum) + _ ≤ _; omega) hlocks
  exact ⟨U, st, H.size, ce, hrun, hend, hce, hown'.vm, hown'.cls, hW, hsame⟩
/-- a callee that throws, from the caller's invoking instruction to the note over the caller's frame -/
theorem er_thrown {y : MethodName} {ws : List Cond} {rm : Room} {Pc : Array Value → State → Prop} {cls : String} {mc ms : Nat} {bytes : ByteArray} {maxL : Nat} {ret : Option FieldType} {U : State} {g : JFrame} {ig : Instr} {len Wt : Nat} {mk : MethodId} {a : Array Value}
    (hM : er_T l y ws rm Pc cls mc ms) (X : Stand p l e R s m args below meth c U locs cells slots) (hg : g.method = m) (hsize : g.locals.size = c.maxLocals) (hdg : decode c.code g.pc = .ok (ig, len)) (hW : 2 * g.monitorRoom + (g.stack.map fun v => v.category).sum ≤ Wt)
    (hn : U.methodNamed? y = some mk) (hpre : (headSpec ws rm).pre.before a U = true) (hcode : (Cond.code y bytes maxL ret).before a U = true) (hini : (Cond.initialized y.cls).before a U = true)
    (hframes : rm.frames + 1 ≤ R.frames) (hlocals : Wt + (maxL + 11) + rm.locals ≤ R.locals) (hcells : cells + rm.cells ≤ R.cells) (hslots : slots + rm.slots ≤ R.slots) (hP : Pc a (U.calling g mk a)) :
    ∃ (x : Addr) (ce : Cell) (T' : State), Stand p l e R s m args below meth c T' locs (cells + mc) (slots + ms) ∧ T'.heap[x]? = some ce ∧ ce.vm = .none ∧ U.vm.findClass cls = some ce.cls ∧ U.heap.size ≤ T'.heap.size ∧ (∀ q : Nat, q < U.heap.size → T'.heap[q]? = U.heap[q]?) ∧
      Steps p.tables e below (doInvoke e (U.setTop g) [] mk a).1 ((T'.setTop g).pushFrame (.throwing x)) := by
  obtain ⟨methY, cY, hmY, hcY, -, hlY, -, -, -, -⟩ := Cond.code_spec hn hcode
  obtain ⟨kY, hkY, -⟩ := className_of_methodNamed hn
  have hinitY : kY.init = .initialized := Cond.initialized_spec (findClass_of_methodNamed hn) hkY hini
  have h : At U g.method c below := by rw [hg]; exact X.here
  have happ : (headSpec ws rm).appliesLoose y e.platform (U.calling g mk a) = true :=
    Spec.appliesLoose_calling (g := g) h hdg hn hkY hinitY
      (X.room_calling (g := g) (R' := (headSpec ws rm).room) hsize hmY hcY hframes (by rw [hlY]; show _ ≤ _; have : (headSpec ws rm).room.locals = rm.locals := rfl; omega) hcells hslots) hpre
  obtain ⟨mid, hmid⟩ := h.above
  have hfr : (U.setTop g).frames = (.java g :: mid) ++ below := by rw [State.frames_setTop' g h.top, hmid]; rfl
  obtain ⟨o, s₂, hsteps, -, hend, hq⟩ := Steps.callFree hM p X.admits X.cas X.clock (acts := []) hfr happ hP trivial
  obtain ⟨x, ce, rfl, hce, hcv, hcc, hW₂, hsame₂⟩ : ∃ (x : Addr) (ce : Cell), o = .threw x ∧ s₂.heap[x]? = some ce ∧ ce.vm = .none ∧ (U.calling g mk a).vm.findClass cls = some ce.cls ∧ (U.calling g mk a).WarmedH s₂.vm ∧ (U.calling g mk a).sameButNew ({ s₂ with vm := (U.calling g mk a).vm } : State) [] mc ms := hq
  rw [State.frames_setTop' g h.top] at hend
  have hkeep := er_same_nil hsame₂
  obtain ⟨e2, q2, q3, q4, q5, q6⟩ := hsame₂
  have e3 : s₂ = ({ (U.calling g mk a).setFrames s₂.frames with heap := s₂.heap, slotsUsed := s₂.slotsUsed } : State).setVm s₂.vm := by
    have : s₂ = ({ s₂ with vm := (U.calling g mk a).vm } : State).setVm s₂.vm := rfl
    rw [e2] at this
    exact this
  have hf₂ : s₂.frames = .throwing x :: .java g :: U.frames.tail := hend
  have hW' : U.WarmedH s₂.vm := hW₂
  obtain ⟨g₀, hg0⟩ := Option.isSome_iff_exists.mp h.top
  obtain ⟨r, hr⟩ := State.topJava?_eq_some.mp hg0
  have hs₂ : s₂ = ((({ U with heap := s₂.heap, slotsUsed := s₂.slotsUsed } : State).setVm s₂.vm).setTop g).pushFrame (.throwing x) := by
    have hr' : (({ U with heap := s₂.heap, slotsUsed := s₂.slotsUsed } : State).setVm s₂.vm).frames = .java g₀ :: r := hr
    refine e3.trans ?_
    rw [hf₂, State.calling_eq h.top, State.setFrames_setFrames, State.pushFrame, State.frames_setTop _ hr', State.setTop_of_frames _ hr', State.setFrames_setFrames, hr]
    rfl
  have hsame : U.sameButNew ({ U with heap := s₂.heap, slotsUsed := s₂.slotsUsed } : State) [] mc ms := by
    refine ⟨?_, q2, q3, q4, q5, q6⟩
    obtain ⟨t, ht, -⟩ := State.frames_cons hr
    show ({ U with heap := s₂.heap, slotsUsed := s₂.slotsUsed } : State) = { U.setFrames U.frames with heap := s₂.heap, slotsUsed := s₂.slotsUsed }
    rw [State.setFrames_self ht]
  subst hg
  have hst : Stand p l e R s g.method args below meth c (({ U with heap := s₂.heap, slotsUsed := s₂.slotsUsed } : State).setVm s₂.vm) (locs ++ []) (cells + mc) (slots + ms) :=
    ⟨X.admits, X.cas, X.clock, X.frames, X.room, X.hears, X.method, X.code, (X.here.setHeapUsed s₂.heap s₂.slotsUsed).setVm hW'.alike, X.tail, State.WarmedH.trans X.warmed hW', X.limits, X.bytes, X.same.trans (hsame.setVm s.vm)⟩
  rw [List.append_nil] at hst
  exact ⟨x, ce, _, hst, hce, hcv, hcc, hkeep.1, hkeep.2, by rw [← hs₂]; exact hsteps⟩
end ErThrow
-- the search for a handler: a row whose class is linked, taken or passed; the tables that it leaves
section ErCatch
theorem er_go {e : Env} {d : Bool} {acts : List Action} {s : State} {f : JFrame} {a : Addr} {Q : Handler → Pre} {E : CtlPost} {x : ExceptionTableEntry} {t : List ExceptionTableEntry} {c : ClassId} {cell : Cell} (hx : covers x f.pc = true) (h0 : x.catchType ≠ 0)
    (hl : s.vm.ClassLinks e.platform f.method.cls x.catchType c) (hcell : s.heap[a]? = some cell) (hobj : ∀ k, cell.vm ≠ .statics k) (hk : ∃ k, s.vm.classes[cell.cls]? = some k) (hc : ∃ k, s.vm.classes[c]? = some k) :
    wp (findHandler.go f a (x :: t)) Q E e d acts s ↔ (if s.vm.assignable cell.cls c = true then Q (.found x.handlerPc) d acts (s.setVm (s.vm.noted f.method.cls x.catchType (.cls c))) else wp (findHandler.go f a t) Q E e d acts (s.setVm (s.vm.noted f.method.cls x.catchType (.cls c)))) := by
  simp only [covers] at hx
  obtain ⟨r1, r2⟩ := (resolveClass_links e.toSetting hl).op (op := VmOp.resolveClass f.method.cls x.catchType) rfl
  have hal : s.vm.Alike (s.vm.noted f.method.cls x.catchType (.cls c)) := (Vm.Alike.refl s.vm).noted _ _ _
  obtain ⟨k1, hk1⟩ := hk
  obtain ⟨k2, hk2⟩ := hc
  obtain ⟨k3, hk3, -⟩ := hal.2.2 _ _ hk1
  obtain ⟨k4, hk4, -⟩ := hal.2.2 _ _ hk2
  have hsame : (s.vm.noted f.method.cls x.catchType (.cls c)).assignable cell.cls c = s.vm.assignable cell.cls c := hal.assignable ..
  cases hb : s.vm.assignable cell.cls c <;> rw [hb] at hsame <;> simp [findHandler.go, hx, h0, r1, r2, hcell, hobj, hk3, hk4, hsame, VmOp.dirties, VmOp.acts]
def er_finds (e : Env) (s : State) (f : JFrame) (a : Addr) (pc : Nat) (vm' : Vm) : Prop :=
  ∀ (Q : Handler → Pre) (E : CtlPost) (d : Bool) (acts : List Action), wp (findHandler f a) Q E e d acts s ↔ Q (.found pc) d acts (s.setVm vm')
theorem er_stepCatch {e : Env} {s : State} {a : Addr} {f : JFrame} {r : List Frame} {pc : Nat} {vm' : Vm} (hfind : er_finds e s f a pc vm') :
    (stepThrowing e s a (.java f :: r)).Is ((s.setVm vm').setFrames (.java { f with pc := pc, stack := [.ref a] } :: r)) [] := by
  simp only [stepThrowing, searchFrame, vmDo]
  generalize hr : Sem.go _ e false [] s = res
  obtain ⟨as, rfl, ha⟩ := Sem.eq_ok_of hr (a := Handler.found pc) (s' := s.setVm vm') (acts' := []) (by simp [hfind _ _ _ _])
  exact ⟨rfl, ha⟩
theorem er_caught {tb : Tables} {e : Env} {s target : State} {g : JFrame} {c : Code} {below : List Frame} {a : Addr} (h : At s g.method c below) {pc : Nat} {vm' : Vm} (hfind : er_finds e ((s.setTop g).pushFrame (.throwing a)) g a pc vm')
    (hrest : Steps tb e below ((s.setVm vm').setTop { g with pc := pc, stack := [.ref a] }) target) : Steps tb e below ((s.setTop g).pushFrame (.throwing a)) target := by
  obtain ⟨hgo, hw⟩ := h.throwing a
  refine Steps.head hgo hw ?_
  rw [stepThread_throwing (frames_entered h.top _), (er_stepCatch (s := (s.setTop g).pushFrame (.throwing a)) hfind).1]
  obtain ⟨g₀, hg⟩ := Option.isSome_iff_exists.mp h.top
  obtain ⟨r, hr⟩ := State.topJava?_eq_some.mp hg
  have hr' : (s.setVm vm').frames = .java g₀ :: r := hr
  rw [State.setTop_of_frames _ hr'] at hrest
  have e1 : ∀ (u : State) (F G : List Frame), ((u.setFrames F).setVm vm').setFrames G = (u.setVm vm').setFrames G := by
    intro u F G
    have h1 : (u.setFrames F).setVm vm' = (u.setVm vm').setFrames F := rfl
    rw [h1, State.setFrames_setFrames]
  rw [hr, List.tail_cons, State.pushFrame, e1, State.setTop_of_frames _ hr, e1]
  exact hrest
variable {p : Program} {l : Launch} {e : Env} {R : Room} {s : State} {m : MethodId} {args : Array Value} {below : List Frame} {meth : Method} {c : Code} {T : State} {locs : List Loc} {cells slots : Nat}
/-- what the first row of the table that covers the place says, when its class takes the object -/
theorem er_catch1 (X : Stand p l e R s m args below meth c T locs cells slots) {a : Addr} {g : JFrame} (hg : g.method = m) {own name : String} (hown : s.vm.findClass own = some m.cls) {x : ExceptionTableEntry} {rest : List ExceptionTableEntry} (hx : c.exceptionTable.toList = x :: rest)
    (hcov : covers x g.pc = true) (h0 : x.catchType ≠ 0) (hlink : (Cond.classLink own x.catchType name).before args s = true) {cell : Cell} (hcell : T.heap[a]? = some cell) (hvm : cell.vm = .none) (hcls : s.vm.findClass name = some cell.cls) :
    ∃ vm', Stand p l e R s m args below meth c (T.setVm vm') locs cells slots ∧ ∀ target, Steps p.tables e below ((T.setVm vm').setTop { g with pc := x.handlerPc, stack := [.ref a] }) target → Steps p.tables e below ((T.setTop g).pushFrame (.throwing a)) target := by
  have hpl : e.platform.magicAccessors = ({} : Platform).magicAccessors := by rw [X.admits.platform]
  obtain ⟨c', hc', hcl⟩ := Cond.classLink_spec hown hlink e.platform hpl
  cases hcls.symm.trans hc'
  obtain ⟨dk, _, _, kt, hd, _, _, _, _, hkt, _, hopen⟩ := hcl.here
  have hcl₀ := X.warmed.classLinks hcl
  have hW' : s.WarmedH (T.vm.noted m.cls x.catchType (.cls cell.cls)) := X.warmed.noted hd hopen (State.rightAt_cls hcl)
  obtain ⟨kt', hkt', -⟩ := X.warmed.alike.2.2 _ _ hkt
  refine ⟨_, X.noted hW', fun target hrest => ?_⟩
  subst hg
  refine er_caught X.here (vm' := T.vm.noted g.method.cls x.catchType (.cls cell.cls)) (fun Q E d acts => ?_) hrest
  rw [W.findHandler_eq (s := (T.setTop g).pushFrame (.throwing a)) X.method' X.code, hx, er_go (s := (T.setTop g).pushFrame (.throwing a)) hcov h0 hcl₀ hcell (fun k => by rw [hvm]; exact fun h => by cases h) ⟨kt', hkt'⟩ ⟨kt', hkt'⟩, if_pos (va_asg _ _)]
  exact Iff.rfl
/-- the first row's class doesn't take the object, the second row's does -/
theorem er_catch2 (X : Stand p l e R s m args below meth c T locs cells slots) {a : Addr} {g : JFrame} (hg : g.method = m) {own name name1 : String} (hown : s.vm.findClass own = some m.cls) {x1 x : ExceptionTableEntry} {rest : List ExceptionTableEntry} (hx : c.exceptionTable.toList = x1 :: x :: rest)
    (hcov1 : covers x1 g.pc = true) (h01 : x1.catchType ≠ 0) (hlink1 : (Cond.classLink own x1.catchType name1).before args s = true) {cT1 : ClassId} (hcT1 : s.vm.findClass name1 = some cT1)
    (hcov : covers x g.pc = true) (h0 : x.catchType ≠ 0) (hlink : (Cond.classLink own x.catchType name).before args s = true) {cell : Cell} (hcell : T.heap[a]? = some cell) (hvm : cell.vm = .none) (hcls : s.vm.findClass name = some cell.cls) (hno : s.vm.assignable cell.cls cT1 = false) :
    ∃ vm', Stand p l e R s m args below meth c (T.setVm vm') locs cells slots ∧ ∀ target, Steps p.tables e below ((T.setVm vm').setTop { g with pc := x.handlerPc, stack := [.ref a] }) target → Steps p.tables e below ((T.setTop g).pushFrame (.throwing a)) target := by
  have hpl : e.platform.magicAccessors = ({} : Platform).magicAccessors := by rw [X.admits.platform]
  obtain ⟨c1, hc1, hcl1⟩ := Cond.classLink_spec hown hlink1 e.platform hpl
  cases hcT1.symm.trans hc1
  obtain ⟨c', hc', hcl⟩ := Cond.classLink_spec hown hlink e.platform hpl
  cases hcls.symm.trans hc'
  obtain ⟨dk1, _, _, kt1, hd1, _, _, _, _, hkt1, _, hopen1⟩ := hcl1.here
  obtain ⟨dk, _, _, kt, hd, _, _, _, _, hkt, _, hopen⟩ := hcl.here
  have hW1 : s.WarmedH (T.vm.noted m.cls x1.catchType (.cls cT1)) := X.warmed.noted hd1 hopen1 (State.rightAt_cls hcl1)
  have X1 := X.noted hW1
  have hW2 : s.WarmedH ((T.setVm (T.vm.noted m.cls x1.catchType (.cls cT1))).vm.noted m.cls x.catchType (.cls cell.cls)) := X1.warmed.noted hd hopen (State.rightAt_cls hcl)
  obtain ⟨kt1', hkt1', -⟩ := X.warmed.alike.2.2 _ _ hkt1
  obtain ⟨kt', hkt', -⟩ := X.warmed.alike.2.2 _ _ hkt
  obtain ⟨kt2, hkt2, -⟩ := X1.warmed.alike.2.2 _ _ hkt
  refine ⟨_, X1.noted hW2, fun target hrest => ?_⟩
  subst hg
  refine er_caught X.here (vm' := (T.vm.noted g.method.cls x1.catchType (.cls cT1)).noted g.method.cls x.catchType (.cls cell.cls)) (fun Q E d acts => ?_) hrest
  have hno' : T.vm.assignable cell.cls cT1 = false := by rw [X.warmed.alike.assignable]; exact hno
  rw [W.findHandler_eq (s := (T.setTop g).pushFrame (.throwing a)) X.method' X.code, hx, er_go (s := (T.setTop g).pushFrame (.throwing a)) hcov1 h01 (X.warmed.classLinks hcl1) hcell (fun k => by rw [hvm]; exact fun h => by cases h) ⟨kt', hkt'⟩ ⟨kt1', hkt1'⟩, if_neg (by rw [show ((T.setTop g).pushFrame (.throwing a)).vm = T.vm from rfl, hno']; decide)]
  refine (er_go (s := ((T.setTop g).pushFrame (.throwing a)).setVm (T.vm.noted g.method.cls x1.catchType (.cls cT1))) hcov h0 (X1.warmed.classLinks hcl) hcell (fun k => by rw [hvm]; exact fun h => by cases h) ⟨kt2, hkt2⟩ ⟨kt2, hkt2⟩).trans ?_
  rw [if_pos (va_asg _ _)]
  exact Iff.rfl
end ErCatch
-- the rows of calls: a virtual call that throws and is caught here; a static call of a method that has handlers
section ErCall
variable {p : Program} {l : Launch} {e : Env} {R : Room} {s : State} {m : MethodId} {args : Array Value} {below : List Frame} {meth : Method} {c : Code} {H : Heap} {locs : List Loc} {cells slots : Nat} {Q : State → Prop}
  {Ts ws ws' : List Cond} {cc bytes : ByteArray} {nL maxL index n mc ms : Nat} {own C cls : String} {y : MethodName} {ret : Option FieldType} {rm : Room} {Pc : Array Value → State → Prop} {Qc : Array Value → State → Outcome → State → Prop} {free : Addr → Prop}
  {b : Addr} {As rest st0 : List Value} {pc : Nat} {ls : Array Slot}
theorem er_note (S : CallFix p m c cc nL s args Ts own) (hM : er_T l y ws rm Pc cls mc ms) (cw : CallW R s args own C index y bytes maxL ret ws rm mc ms n) (hp : PreV s H C b Pc As)
    (hn : As.length = n) (hsize : ls.size = nL) (hstack : st0 = As.reverse ++ .ref b :: rest) (hW : (rest.map fun v => v.category).sum ≤ 8) (hdg : decode cc pc = .ok (.invokevirtual index, 3)) (hf : cells + mc ≤ R.cells ∧ slots + ms ≤ R.slots)
    {T : State} (hT : T.heap = H) (X : Stand p l e R s m args below meth c T locs cells slots) :
    ∃ (a : Addr) (ce : Cell) (T' : State), Stand p l e R s m args below meth c T' locs (cells + mc) (slots + ms) ∧ T'.heap[a]? = some ce ∧ ce.vm = .none ∧ s.vm.findClass cls = some ce.cls ∧ H.size ≤ T'.heap.size ∧ (∀ q : Nat, q < H.size → T'.heap[q]? = H[q]?) ∧
      ∀ target, Steps p.tables e below ((T'.setTop (F0 m pc ls rest)).pushFrame (.throwing a)) target → Steps p.tables e below (T.setTop (F0 m pc ls st0)) target := by
  obtain ⟨⟨hrc, hrs, hfr, hlo, hws, hcw, hcode, hini, hy, hlen, hl⟩, hin, hsel⟩ := cw
  obtain ⟨hx, hb, hml, ho, -⟩ := S
  obtain ⟨hbl, ⟨cellB, hcB, hoB, hclB⟩, hPc⟩ := hp
  subst hstack
  obtain ⟨mk, methM, hnamed, hmethM, hstM, habM⟩ := Cond.instanceMethod_spec hin
  obtain ⟨methM', cM, hmethM', -, -, -, -, -, -, hsigM⟩ := Cond.code_spec hnamed hcode
  cases hmethM.symm.trans hmethM'
  obtain ⟨c2, r2, m2, q1, q2, q3, q4, kP, hkP, hkPi⟩ := Cond.selects_spec hsel
  cases hclB.symm.trans q1
  cases (State.methodFound?_of_named hnamed hy).symm.trans q2
  cases hnamed.symm.trans q3
  have hselP : selectMethod e.platform s.vm cellB.cls mk = .method mk := by rw [Launch.admits_selectMethod X.admits]; exact q4
  obtain ⟨vm₁, X₁, hstep₁⟩ := X.invokevirtual hx ho hl hnamed hmethM hstM hkP hkPi hy (a := b) (cell := cellB) (by rw [hT]; exact hcB)
    (fun z h => by rw [h] at hoB; cases hoB) hselP hmethM habM hkP hkPi (g := F0 m pc ls (As.reverse ++ .ref b :: rest)) rfl (argsL := As) (rest := rest) (hn.trans (hlen _ hsigM)) rfl (by rw [hb]; exact hdg)
  have hwarm := X₁.warmed
  obtain ⟨a, ce, T', X', h1, h2, h3, h4, h5, h6⟩ := er_thrown (U := T.setVm vm₁) (g := F0 m pc ls rest) (ig := .invokevirtual index) (len := 3) (Wt := 8) (mk := mk) (a := (Value.ref b :: As).toArray) (bytes := bytes) (maxL := maxL) (ret := ret) hM X₁ rfl (hsize.trans hml.symm) (by rw [hb]; exact hdg)
    (by show 2 * 0 + (rest.map fun v => v.category).sum ≤ 8; omega) (X₁.named hnamed) (atoms_intro fun w hw => hws w hw _ _ hwarm) (hws _ hcw _ _ hwarm) (word_at hwarm (Or.inl (by first | rfl | simp [Cond.onTables, Cond.keeps, Cond.steady])) hini) hfr hlo (by rw [hrc]; exact hf.1) (by rw [hrs]; exact hf.2)
    (hbl _ _ _ _ (hPc (T.setVm vm₁) hT hwarm))
  refine ⟨a, ce, T', X', h1, h2, by rw [← hwarm.alike.findClass]; exact h3, by rw [← hT]; exact h4, fun q hq => by rw [← hT]; exact h5 q (by rw [← hT] at hq; exact hq), fun target h => hstep₁ _ fun acts => ?_⟩
  rw [doInvoke_state]
  exact h6.trans h
theorem er_callC1 (S : CallFix p m c cc nL s args Ts own) (hM : er_T l y ws rm Pc cls mc ms) (cw : CallW R s args own C index y bytes maxL ret ws rm mc ms n) (hp : PreV s H C b Pc As)
    (hn : As.length = n) (hsize : ls.size = nL) (hstack : st0 = As.reverse ++ .ref b :: rest) (hW : (rest.map fun v => v.category).sum ≤ 8) (hdg : decode cc pc = .ok (.invokevirtual index, 3)) (hf : cells + mc ≤ R.cells ∧ slots + ms ≤ R.slots)
    {x : ExceptionTableEntry} {more : List ExceptionTableEntry} (hx : c.exceptionTable.toList = x :: more) (hcov : covers x pc = true) (h0 : x.catchType ≠ 0) (hlink : (Cond.classLink own x.catchType cls).before args s = true)
    (kk : ∀ (H1 : Heap) (a : Nat), H.size ≤ H1.size → (∀ q : Nat, q < H.size → H1[q]? = H[q]?) → W p l e R s m args below meth c H1 locs (cells + mc) (slots + ms) Q (F0 m x.handlerPc ls [.ref a])) :
    W p l e R s m args below meth c H locs cells slots Q (F0 m pc ls st0) := by
  intro T hT X
  obtain ⟨a, ce, T', X', h1, h2, h3, h4, h5, h6⟩ := er_note S hM cw hp hn hsize hstack hW hdg hf hT X
  obtain ⟨vm', XV, stV⟩ := er_catch1 X' (a := a) (g := F0 m pc ls rest) rfl S.2.2.2.1 hx hcov h0 hlink h1 h2 h3
  obtain ⟨t, st, hq⟩ := kk T'.heap a h4 h5 (T'.setVm vm') rfl XV
  exact ⟨t, h6 _ (stV _ st), hq⟩
theorem er_callC2 (S : CallFix p m c cc nL s args Ts own) (hM : er_T l y ws rm Pc cls mc ms) (cw : CallW R s args own C index y bytes maxL ret ws rm mc ms n) (hp : PreV s H C b Pc As)
    (hn : As.length = n) (hsize : ls.size = nL) (hstack : st0 = As.reverse ++ .ref b :: rest) (hW : (rest.map fun v => v.category).sum ≤ 8) (hdg : decode cc pc = .ok (.invokevirtual index, 3)) (hf : cells + mc ≤ R.cells ∧ slots + ms ≤ R.slots)
    {x1 x : ExceptionTableEntry} {more : List ExceptionTableEntry} (hx : c.exceptionTable.toList = x1 :: x :: more) {cls1 : String} (hcov1 : covers x1 pc = true) (h01 : x1.catchType ≠ 0) (hlink1 : (Cond.classLink own x1.catchType cls1).before args s = true)
    (hno : ∀ c1 c2, s.vm.findClass cls = some c1 → s.vm.findClass cls1 = some c2 → s.vm.assignable c1 c2 = false)
    (hcov : covers x pc = true) (h0 : x.catchType ≠ 0) (hlink : (Cond.classLink own x.catchType cls).before args s = true)
    (kk : ∀ (H1 : Heap) (a : Nat), H.size ≤ H1.size → (∀ q : Nat, q < H.size → H1[q]? = H[q]?) → W p l e R s m args below meth c H1 locs (cells + mc) (slots + ms) Q (F0 m x.handlerPc ls [.ref a])) :
    W p l e R s m args below meth c H locs cells slots Q (F0 m pc ls st0) := by
  intro T hT X
  obtain ⟨a, ce, T', X', h1, h2, h3, h4, h5, h6⟩ := er_note S hM cw hp hn hsize hstack hW hdg hf hT X
  have hpl : e.platform.magicAccessors = ({} : Platform).magicAccessors := by rw [X.admits.platform]
  obtain ⟨c1, hc1, -⟩ := Cond.classLink_spec S.2.2.2.1 hlink1 e.platform hpl
  obtain ⟨vm', XV, stV⟩ := er_catch2 X' (a := a) (g := F0 m pc ls rest) rfl S.2.2.2.1 hx hcov1 h01 hlink1 hc1 hcov h0 hlink h1 h2 h3 (hno _ _ h3 hc1)
  obtain ⟨t, st, hq⟩ := kk T'.heap a h4 h5 (T'.setVm vm') rfl XV
  exact ⟨t, h6 _ (stV _ st), hq⟩
/-- 'Met.ofW' for a method that has handlers -/
theorem er_ofWW {handlers : List (Nat × Nat × Nat × Nat)} (hy : plainName y.cls = true) (hw : ws = Cond.codeWith y cc maxL ret handlers :: ws')
    (body : ∀ p e s m args below meth c s₁, BodyLoose p l y (headSpec ws rm) cc maxL ret e s m args below meth c s₁ → c.maxLocals = maxL → c.exceptionTable.toList.map (fun h => (h.startPc, h.endPc, h.handlerPc, h.catchType)) = handlers → Pc args s →
      W p l e (headSpec ws rm).room s m args below meth c s.heap [] 0 0 (MQ below Qc args s mc ms free) (entryFrame m args maxL)) : Met l y ws rm Pc Qc mc ms free := by
  refine MetFree.of_bodyS (code := cc) (maxLocals := maxL) (ret := ret) hy ?_ ?_
  · intro args s m h hn
    obtain ⟨m', meth, c, h1, h2, h3, h4, h5, -, h6, h7, -⟩ := Cond.codeWith_spec (atoms_spec (ws := ws) h _ (by rw [hw]; exact List.mem_cons_self))
    cases hn.symm.trans h1
    exact ⟨meth, c, h2, h3, h4, h5, h6, h7⟩
  · intro p e s m args below meth c s₁ B hml hP _
    have hh0 : s₁.heap = s.heap := by rw [B.state]; rfl
    obtain ⟨m', meth', c', h1, h2, h3, -, -, h6, -, -, -⟩ := Cond.codeWith_spec (atoms_spec (ws := ws) B.pre _ (by rw [hw]; exact List.mem_cons_self))
    cases B.named.symm.trans h1
    cases B.method.symm.trans h2
    cases (Stand.of_body B).code.symm.trans h3
    obtain ⟨t, a1, o, b1, b2, b3⟩ := body p e s m args below meth c s₁ B hml h6 hP s₁ hh0 (Stand.of_body B)
    exact ⟨t, o, a1, b1, b2, ⟨b3.1, b3.2⟩⟩
theorem er_runSW {handlers : List (Nat × Nat × Nat × Nat)} (S : CallFix p m c cc nL s args Ts own) (hM : Met l y ws rm Pc Qc mc ms free) (hG : GoodIn Ts ([.methodLink own index y, .static y, .initialized y.cls] ++ ws)) (hw : ws = Cond.codeWith y bytes maxL ret handlers :: ws') (hrc : rm.cells = mc) (hrs : rm.slots = ms)
    (hd : y.cls ≠ "java/lang/invoke/MethodHandle" ∧ y.cls ≠ "java/lang/invoke/VarHandle" ∧ (parseMethodDescriptor y.desc).map (fun d => d.parameters.length) = some n) (hR : rm.frames + 1 ≤ R.frames ∧ 8 + (maxL + 11) + rm.locals ≤ R.locals)
    (hp : PreS s H Pc As) (hn : As.length = n) (hsize : ls.size = nL) (hstack : st0 = As.reverse ++ rest) (hW : (rest.map fun v => v.category).sum ≤ 8) (hdg : decode cc pc = .ok (.invokestatic index, 3)) (hf : cells + mc ≤ R.cells ∧ slots + ms ≤ R.slots) :
    va_Run p l e R s m args below meth c H locs cells slots mc ms (F0 m pc ls st0) rest (Qc As.toArray) (free) := by
  obtain ⟨hx, hb, hml, ho, hts⟩ := S
  have hcm : Cond.codeWith y bytes maxL ret handlers ∈ ws := by rw [hw]; exact List.mem_cons_self
  have hws : ∀ w ∈ ws, ∀ (a' : Array Value) (U : State), s.WarmedH U.vm → w.before a' U = true := pay_in hts (fun w h => hG w (List.mem_append_right _ h))
  have ok : ∀ w ∈ ([.methodLink own index y, .static y, .initialized y.cls] : List Cond), w.before args s = true := fun w h => hts w (hG w (List.mem_append_left _ h)).1
  have hl := ok (.methodLink own index y) (by simp)
  have hst := ok (.static y) (by simp)
  have hini := ok (.initialized y.cls) (by simp)
  have hcode := hts _ (hG _ (List.mem_append_right _ hcm)).1
  have hK : Back l R p e below s args y 3 8 (PreOf R mc ms Pc) (PostOf Qc mc ms free) := by
    refine Back.of_freeWith (S := headSpec ws rm) (P := Pc) (K := fun _ _ _ _ _ => True) (Q := fun a st o t => Qc a st o t ∧ ∃ L, FrameEnd st o t L mc ms ∧ ∀ q ∈ L, free q.base) (bytes := bytes) (maxL := maxL) (ret := ret) (handlers := handlers)
      (E := fun a st o t L k n => k = mc ∧ n = ms ∧ ∀ q ∈ L, free q.base) hM hR.1 hR.2 ?_ ?_ (fun _ _ _ _ _ _ _ _ _ => trivial) ?_ ?_
    · intro m meth c A a X hp
      exact ⟨atoms_intro fun w hw => hws w hw _ _ X.warmed, hws _ hcm _ _ X.warmed, word_at X.warmed (Or.inl (by first | rfl | simp [Cond.onTables, Cond.keeps, Cond.steady])) hini, by rw [show (headSpec ws rm).room.cells = mc from hrc]; exact hp.1, by rw [show (headSpec ws rm).room.slots = ms from hrs]; exact hp.2.1⟩
    · intro m meth c A a g mk X hp'
      exact hp.1 _ _ _ _ hp'.2.2
    · intro a st o t ⟨hq, L, hF, hL⟩
      exact ⟨L, mc, ms, hF, rfl, rfl, hL⟩
    · intro m meth c A a g mk v t L k n X hp hq hF ⟨e1, e2, hL⟩
      subst e1; subst e2
      exact ⟨g, mk, t, L, rfl, rfl, hq.1, rfl, hL, rfl, rfl⟩
  subst hstack
  intro T hT X
  obtain ⟨mk, methM, cM, hnamed, hmethM, -, -, -, -, -, -, hsigM⟩ := Cond.codeWith_spec hcode
  have hstatic : methM.isStatic = true := Cond.static_spec hnamed hmethM hst
  obtain ⟨kP, hkP, -⟩ := className_of_methodNamed hnamed
  have hinitP : kP.init = .initialized := Cond.initialized_spec (findClass_of_methodNamed hnamed) hkP hini
  have hlen : As.length = methM.sig.parameters.length := by
    have h2 := hd.2.2
    rw [hsigM] at h2
    exact hn.trans (Option.some.inj h2).symm
  obtain ⟨vm₁, X₁, hstep₁⟩ := X.invokestatic hx ho hl hnamed hmethM hstatic hkP hinitP ⟨hd.1, hd.2.1⟩ (g := F0 m pc ls (As.reverse ++ rest)) rfl (argsL := As) (rest := rest) hlen rfl (by rw [hb]; exact hdg)
  obtain ⟨v, ⟨U', l2, c2, s2⟩, X', hpost, hsteps⟩ := hK m meth c ⟨T.setVm vm₁, locs, cells, slots⟩ (F0 m pc ls rest) (.invokestatic index) mk As.toArray X₁ rfl (hsize.trans hml.symm) (by rw [hb]; exact hdg) (by show 2 * 0 + (rest.map fun v => v.category).sum ≤ 8; omega) (X₁.named hnamed) ⟨hf.1, hf.2, hp.2 (T.setVm vm₁) hT X₁.warmed⟩
  obtain ⟨g', mk', t, L, e1, e2, hq, h1, hL, h2, h3⟩ := hpost
  dsimp only [Pt.U, Pt.locs, Pt.cells, Pt.slots] at X' e1 e2 h1 h2 h3 hsteps
  subst h1; subst h2; subst h3
  exact ⟨v, (T.setVm vm₁).calling g' mk' As.toArray, t, U', L, hT, X', hL, e1, e2, hq, fun target h => hstep₁ _ fun acts => by rw [doInvoke_state]; exact hsteps.trans h⟩
end ErCall
end
section
-- NUMBERS: what the class and the reference compute, said once in Int32 and Int64; bounds and the few facts of arithmetic that they rest on
theorem er_bm32 {x : Int} (h1 : -2147483648 ≤ x) (h2 : x < 2147483648) : x.bmod (2 ^ 32) = x := by
  rw [Int.bmod_def]
  split <;> omega
theorem er_bm64 {x : Int} (h1 : -9223372036854775808 ≤ x) (h2 : x < 9223372036854775808) : x.bmod (2 ^ 64) = x := by
  rw [Int.bmod_def]
  split <;> omega
theorem er_sub {x y : Int32} (h1 : -2147483648 ≤ x.toInt - y.toInt) (h2 : x.toInt - y.toInt < 2147483648) : (x - y).toInt = x.toInt - y.toInt := by
  rw [Int32.toInt_sub, er_bm32 h1 h2]
theorem er_add {x y : Int32} (h1 : -2147483648 ≤ x.toInt + y.toInt) (h2 : x.toInt + y.toInt < 2147483648) : (x + y).toInt = x.toInt + y.toInt := by
  rw [Int32.toInt_add, er_bm32 h1 h2]
theorem er_mul {x y : Int32} (h1 : -2147483648 ≤ x.toInt * y.toInt) (h2 : x.toInt * y.toInt < 2147483648) : (x * y).toInt = x.toInt * y.toInt := by
  rw [Int32.toInt_mul, er_bm32 h1 h2]
theorem er_subL {x y : Int64} (h1 : -9223372036854775808 ≤ x.toInt - y.toInt) (h2 : x.toInt - y.toInt < 9223372036854775808) : (x - y).toInt = x.toInt - y.toInt := by
  rw [Int64.toInt_sub, er_bm64 h1 h2]
theorem er_addL {x y : Int64} (h1 : -9223372036854775808 ≤ x.toInt + y.toInt) (h2 : x.toInt + y.toInt < 9223372036854775808) : (x + y).toInt = x.toInt + y.toInt := by
  rw [Int64.toInt_add, er_bm64 h1 h2]
theorem er_mulL {x y : Int64} (h1 : -9223372036854775808 ≤ x.toInt * y.toInt) (h2 : x.toInt * y.toInt < 9223372036854775808) : (x * y).toInt = x.toInt * y.toInt := by
  rw [Int64.toInt_mul, er_bm64 h1 h2]
theorem er_mb {a b : Int} {A B : Nat} (ha : a.natAbs ≤ A) (hb : b.natAbs ≤ B) : (a * b).natAbs ≤ A * B := by
  rw [Int.natAbs_mul]
  exact Nat.mul_le_mul ha hb
-- the triangle
def er_wt (ex ey ea ed px py : Int32) : Int64 := ea.toInt64 * (16 * py + 8 - ey).toInt64 - ed.toInt64 * (16 * px + 8 - ex).toInt64
def er_room (X Y : Nat → Int32) (a b : Nat) (x y : Int32) : Int64 := (X b - X a).toInt64 * (y - Y a).toInt64 - (Y b - Y a).toInt64 * (x - X a).toInt64
def er_ar (X Y : Nat → Int32) : Int64 := er_room X Y 0 1 (X 2) (Y 2)
def er_fr (X Y : Nat → Int32) (j : Nat) : Nat := if er_ar X Y < 0 then (j + 2) % 3 else (j + 1) % 3
def er_to (X Y : Nat → Int32) (j : Nat) : Nat := if er_ar X Y < 0 then (j + 1) % 3 else (j + 2) % 3
def er_ex (X Y : Nat → Int32) (j : Nat) : Int32 := X (er_fr X Y j)
def er_ey (X Y : Nat → Int32) (j : Nat) : Int32 := Y (er_fr X Y j)
def er_ea (X Y : Nat → Int32) (j : Nat) : Int32 := X (er_to X Y j) - X (er_fr X Y j)
def er_ed (X Y : Nat → Int32) (j : Nat) : Int32 := Y (er_to X Y j) - Y (er_fr X Y j)
def er_own (dx dy : Int32) : Bool := decide ((dy = 0 ∧ 0 < dx) ∨ dy < 0)
def er_lw (dx dy : Int32) : Int32 := if er_own dx dy = true then 0 else 1
def er_W (X Y : Nat → Int32) (j : Nat) (px py : Int32) : Int64 := er_room X Y (er_fr X Y j) (er_to X Y j) (16 * px + 8) (16 * py + 8)
def er_in (X Y : Nat → Int32) (j : Nat) (px py : Int32) : Bool := decide (0 < er_W X Y j px py ∨ (er_W X Y j px py = 0 ∧ er_own (er_ea X Y j) (er_ed X Y j) = true))
def er_covj (X Y : Nat → Int32) (px py : Int32) : Nat → Bool
  | 0 => decide (¬ er_ar X Y = 0)
  | j + 1 => er_covj X Y px py j && er_in X Y j px py
def er_cov (X Y : Nat → Int32) (px py : Int32) : Bool := er_covj X Y px py 3
def er_b (b : Bool) : Int32 := if b = true then 1 else 0
theorem er_b_t : er_b true = 1 := rfl
theorem er_b_f : er_b false = 0 := rfl
theorem er_b_0 {b : Bool} : er_b b = 0 ↔ b = false := by cases b <;> simp [er_b]
theorem er_b_1 {b : Bool} : er_b b = 1 ↔ b = true := by cases b <;> simp [er_b]
theorem er_b_n {b : Bool} : ¬ er_b b = 0 ↔ b = true := by cases b <;> simp [er_b]
theorem er_b_nar (b : Bool) : narrow .boolean (.int (er_b b)) = .int (er_b b) := by cases b <;> decide
theorem er_W_wt (X Y : Nat → Int32) (j : Nat) (px py : Int32) : er_wt (er_ex X Y j) (er_ey X Y j) (er_ea X Y j) (er_ed X Y j) px py = er_W X Y j px py := rfl
theorem er_lw_in (X Y : Nat → Int32) (j : Nat) (px py : Int32) : (er_lw (er_ea X Y j) (er_ed X Y j)).toInt64 ≤ er_W X Y j px py ↔ er_in X Y j px py = true := by
  simp only [er_lw, er_in, decide_eq_true_eq, Int64.le_iff_toInt_le, Int64.lt_iff_toInt_lt, ← Int64.toInt_inj]
  by_cases h : er_own (er_ea X Y j) (er_ed X Y j) = true
  · simp only [h, if_true, and_true]
    have : (0 : Int32).toInt64.toInt = 0 := by decide
    have h0 : (0 : Int64).toInt = 0 := by decide
    omega
  · simp only [Bool.not_eq_true] at h
    simp only [h, Bool.false_eq_true, if_false, and_false, or_false]
    have : (1 : Int32).toInt64.toInt = 1 := by decide
    have h0 : (0 : Int64).toInt = 0 := by decide
    omega
-- bounds
def er_BX (X : Nat → Int32) : Prop := ∀ j, j < 3 → -16384 ≤ (X j).toInt ∧ (X j).toInt ≤ 16383
theorem er_fr_lt (X Y : Nat → Int32) (j : Nat) : er_fr X Y j < 3 := by
  unfold er_fr
  split <;> omega
theorem er_to_lt (X Y : Nat → Int32) (j : Nat) : er_to X Y j < 3 := by
  unfold er_to
  split <;> omega
theorem er_mid {px : Int32} (h0 : -1024 ≤ px.toInt) (h1 : px.toInt ≤ 2047) : (16 * px + 8).toInt = 16 * px.toInt + 8 := by
  have e16 : (16 : Int32).toInt = 16 := by decide
  have e8 : (8 : Int32).toInt = 8 := by decide
  have e1 : (16 * px).toInt = 16 * px.toInt := by
    rw [er_mul (by rw [e16]; omega) (by rw [e16]; omega), e16]
  rw [er_add (by rw [e1, e8]; omega) (by rw [e1, e8]; omega), e1, e8]
/-- the room of two corners and a point, in Int -/
theorem er_roomI {X Y : Nat → Int32} (hX : er_BX X) (hY : er_BX Y) {a b : Nat} (ha : a < 3) (hb : b < 3) {x y : Int32} (hx : -17000 ≤ x.toInt ∧ x.toInt ≤ 33000) (hy : -17000 ≤ y.toInt ∧ y.toInt ≤ 33000) :
    (er_room X Y a b x y).toInt = ((X b).toInt - (X a).toInt) * (y.toInt - (Y a).toInt) - ((Y b).toInt - (Y a).toInt) * (x.toInt - (X a).toInt) ∧ (er_room X Y a b x y).toInt.natAbs ≤ 3300000000 := by
  have hXa := hX a ha
  have hXb := hX b hb
  have hYa := hY a ha
  have hYb := hY b hb
  have e1 : (X b - X a).toInt64.toInt = (X b).toInt - (X a).toInt := by rw [Int32.toInt_toInt64, er_sub (by omega) (by omega)]
  have e2 : (y - Y a).toInt64.toInt = y.toInt - (Y a).toInt := by rw [Int32.toInt_toInt64, er_sub (by omega) (by omega)]
  have e3 : (Y b - Y a).toInt64.toInt = (Y b).toInt - (Y a).toInt := by rw [Int32.toInt_toInt64, er_sub (by omega) (by omega)]
  have e4 : (x - X a).toInt64.toInt = x.toInt - (X a).toInt := by rw [Int32.toInt_toInt64, er_sub (by omega) (by omega)]
  have b1 : (((X b).toInt - (X a).toInt) * (y.toInt - (Y a).toInt)).natAbs ≤ 32767 * 49384 := er_mb (by omega) (by omega)
  have b2 : (((Y b).toInt - (Y a).toInt) * (x.toInt - (X a).toInt)).natAbs ≤ 32767 * 49384 := er_mb (by omega) (by omega)
  have m1 : ((X b - X a).toInt64 * (y - Y a).toInt64).toInt = ((X b).toInt - (X a).toInt) * (y.toInt - (Y a).toInt) := by
    rw [er_mulL (by rw [e1, e2]; omega) (by rw [e1, e2]; omega), e1, e2]
  have m2 : ((Y b - Y a).toInt64 * (x - X a).toInt64).toInt = ((Y b).toInt - (Y a).toInt) * (x.toInt - (X a).toInt) := by
    rw [er_mulL (by rw [e3, e4]; omega) (by rw [e3, e4]; omega), e3, e4]
  have e : (er_room X Y a b x y).toInt = ((X b).toInt - (X a).toInt) * (y.toInt - (Y a).toInt) - ((Y b).toInt - (Y a).toInt) * (x.toInt - (X a).toInt) := by
    unfold er_room
    rw [er_subL (by rw [m1, m2]; omega) (by rw [m1, m2]; omega), m1, m2]
  exact ⟨e, by rw [e]; omega⟩
/-- the three weights of a place make up the area -/
theorem er_sum {X Y : Nat → Int32} (hX : er_BX X) (hY : er_BX Y) {px py : Int32} (hx : -1024 ≤ px.toInt ∧ px.toInt ≤ 2047) (hy : -1024 ≤ py.toInt ∧ py.toInt ≤ 2047) :
    (er_W X Y 0 px py).toInt + (er_W X Y 1 px py).toInt + (er_W X Y 2 px py).toInt = if (er_ar X Y).toInt < 0 then -(er_ar X Y).toInt else (er_ar X Y).toInt := by
  have mx := er_mid hx.1 hx.2
  have my := er_mid hy.1 hy.2
  have hX2 := hX 2 (by omega)
  have hY2 := hY 2 (by omega)
  have ea := (er_roomI hX hY (a := 0) (b := 1) (by omega) (by omega) (x := X 2) (y := Y 2) (by omega) (by omega)).1
  have h0 : (0 : Int64).toInt = 0 := by decide
  have g : ∀ a b, a < 3 → b < 3 → (er_room X Y a b (16 * px + 8) (16 * py + 8)).toInt = ((X b).toInt - (X a).toInt) * ((16 * py.toInt + 8) - (Y a).toInt) - ((Y b).toInt - (Y a).toInt) * ((16 * px.toInt + 8) - (X a).toInt) := by
    intro a b ha hb
    rw [(er_roomI hX hY ha hb (x := 16 * px + 8) (y := 16 * py + 8) (by rw [mx]; omega) (by rw [my]; omega)).1, mx, my]
  have g01 := g 0 1 (by omega) (by omega)
  have g12 := g 1 2 (by omega) (by omega)
  have g20 := g 2 0 (by omega) (by omega)
  have g10 := g 1 0 (by omega) (by omega)
  have g21 := g 2 1 (by omega) (by omega)
  have g02 := g 0 2 (by omega) (by omega)
  change (er_ar X Y).toInt = _ at ea
  by_cases hn : er_ar X Y < 0
  · have hn' : (er_ar X Y).toInt < 0 := by rw [Int64.lt_iff_toInt_lt, h0] at hn; exact hn
    have f0 : er_fr X Y 0 = 2 := by simp [er_fr, hn]
    have f1 : er_fr X Y 1 = 0 := by simp [er_fr, hn]
    have f2 : er_fr X Y 2 = 1 := by simp [er_fr, hn]
    have t0 : er_to X Y 0 = 1 := by simp [er_to, hn]
    have t1 : er_to X Y 1 = 2 := by simp [er_to, hn]
    have t2 : er_to X Y 2 = 0 := by simp [er_to, hn]
    rw [if_pos hn']
    unfold er_W
    rw [f0, f1, f2, t0, t1, t2, g21, g02, g10, ea]
    generalize (X 0).toInt = x0, (X 1).toInt = x1, (X 2).toInt = x2, (Y 0).toInt = y0, (Y 1).toInt = y1, (Y 2).toInt = y2, 16 * px.toInt + 8 = x, 16 * py.toInt + 8 = y
    grind
  · have hn' : ¬ (er_ar X Y).toInt < 0 := by rw [Int64.lt_iff_toInt_lt, h0] at hn; exact hn
    have f0 : er_fr X Y 0 = 1 := by simp [er_fr, hn]
    have f1 : er_fr X Y 1 = 2 := by simp [er_fr, hn]
    have f2 : er_fr X Y 2 = 0 := by simp [er_fr, hn]
    have t0 : er_to X Y 0 = 2 := by simp [er_to, hn]
    have t1 : er_to X Y 1 = 0 := by simp [er_to, hn]
    have t2 : er_to X Y 2 = 1 := by simp [er_to, hn]
    rw [if_neg hn']
    unfold er_W
    rw [f0, f1, f2, t0, t1, t2, g12, g20, g01, ea]
    generalize (X 0).toInt = x0, (X 1).toInt = x1, (X 2).toInt = x2, (Y 0).toInt = y0, (Y 1).toInt = y1, (Y 2).toInt = y2, 16 * px.toInt + 8 = x, 16 * py.toInt + 8 = y
    grind
-- division, down
def er_down (a b : Int64) : Int64 := if ¬ (a - a / b * b) = 0 ∧ a < 0 then a / b - 1 else a / b - 0
def er_fd (x y : Int64) : Int64 := if (x ^^^ y) < 0 ∧ ¬ x / y * y = x then x / y - 1 else x / y
theorem er_xor_neg {x y : Int64} (hy : 0 < y) : (x ^^^ y) < 0 ↔ x < 0 := by
  have h0 : (0 : Int64).toInt = 0 := by decide
  have m : ∀ z : Int64, z.toBitVec.msb = decide (z.toInt < 0) := fun z => by rw [BitVec.msb_eq_toInt, Int64.toInt_toBitVec]
  have hm : (x ^^^ y).toBitVec.msb = (x.toBitVec.msb ^^ y.toBitVec.msb) := by rw [Int64.toBitVec_xor, BitVec.msb_xor]
  rw [Int64.lt_iff_toInt_lt, h0] at hy
  rw [Int64.lt_iff_toInt_lt, Int64.lt_iff_toInt_lt, h0]
  rw [m, m, m] at hm
  have hf : decide (y.toInt < 0) = false := by simp; omega
  rw [hf, Bool.xor_false] at hm
  simpa using hm
theorem er_sub0 {a b : Int64} : a - b = 0 ↔ a = b := by
  constructor
  · intro h
    have h1 := congrArg (fun z => z + b) h
    simpa using h1
  · rintro rfl
    simp
theorem er_fd_down {a b : Int64} (hb : 0 < b) : er_fd a b = er_down a b := by
  unfold er_fd er_down
  have e : (¬ a / b * b = a) ↔ ¬ (a - a / b * b) = 0 := by
    constructor
    · intro h h2
      exact h (er_sub0.mp h2).symm
    · intro h h2
      exact h (er_sub0.mpr h2.symm)
  by_cases hn : a < 0
  · simp only [er_xor_neg hb, hn, true_and, and_true, e, Int64.sub_zero]
  · simp only [er_xor_neg hb, hn, false_and, and_false, if_false, Int64.sub_zero]
-- shares
def er_sh (g : Int64) (n : Nat) : Int64 := g >>> ((nI n).toInt64 &&& 63)
theorem er_smc : ∀ n, n < 64 → (((nI n).toInt64 &&& 63).toBitVec.smod 64).toNat = n := by decide +kernel
theorem er_sh_toInt (g : Int64) {n : Nat} (h : n < 64) : (er_sh g n).toInt = g.toInt / 2 ^ n := Jvm.Kit.i64_shr g _ (er_smc n h)
/-- n is the first shift at which g comes below 2^29 -/
def er_first (g : Int64) (n : Nat) : Prop := er_sh g n < 536870912 ∧ ∀ t, t < n → ¬ er_sh g t < 536870912
theorem er_lim : (536870912 : Int64).toInt = 536870912 := by decide
theorem er_sh_34 (g : Int64) : er_sh g 34 < 536870912 := by
  rw [Int64.lt_iff_toInt_lt, er_sh_toInt g (by decide), er_lim]
  have := Int64.toInt_lt g
  omega
theorem er_sh_mono (g : Int64) {m n : Nat} (h : m ≤ n) (hn : n < 64) (hm : er_sh g m < 536870912) : er_sh g n < 536870912 := by
  rw [Int64.lt_iff_toInt_lt, er_lim] at hm ⊢
  rw [er_sh_toInt g (by omega)] at hm
  rw [er_sh_toInt g hn]
  obtain ⟨d, rfl⟩ : ∃ d, n = m + d := ⟨n - m, by omega⟩
  rw [Int.pow_add, ← Int.ediv_ediv_of_nonneg (Int.le_of_lt (Int.pow_pos (by decide)))]
  generalize g.toInt / 2 ^ m = z at hm
  have hp : (0 : Int) < 2 ^ d := Int.pow_pos (by decide)
  by_cases hz : 0 ≤ z
  · exact Int.lt_of_le_of_lt (Int.ediv_le_self _ hz) hm
  · have : z / 2 ^ d < 0 := Int.ediv_neg_of_neg_of_pos (by omega) hp
    omega
/-- shifting keeps the order -/
theorem er_sh_le {g h : Int64} (hh : g ≤ h) {n : Nat} (hn : n < 64) (hm : er_sh h n < 536870912) : er_sh g n < 536870912 := by
  rw [Int64.lt_iff_toInt_lt, er_lim] at hm ⊢
  rw [er_sh_toInt _ hn] at hm ⊢
  rw [Int64.le_iff_toInt_le] at hh
  exact Int.lt_of_le_of_lt (Int.ediv_le_ediv (Int.pow_pos (by decide)) hh) hm
-- counting and searching over the places of a window
def er_cnt (f : Nat → Bool) : Nat → Nat
  | 0 => 0
  | k + 1 => er_cnt f k + (if f k = true then 1 else 0)
theorem er_cnt_le (f : Nat → Bool) (k : Nat) : er_cnt f k ≤ k := by
  induction k with
  | zero => exact Nat.le_refl 0
  | succ k ih =>
    unfold er_cnt
    split <;> omega
/-- r is the first place from k on, below n, that f takes; n if there is none -/
def er_next (f : Nat → Bool) (n k r : Nat) : Prop := k ≤ r ∧ r ≤ n ∧ (∀ t, k ≤ t → t < r → f t = false) ∧ (r < n → f r = true)
theorem er_next_one {f : Nat → Bool} {n k r r' : Nat} (h : er_next f n k r) (h' : er_next f n k r') : r = r' := by
  obtain ⟨a1, a2, a3, a4⟩ := h
  obtain ⟨b1, b2, b3, b4⟩ := h'
  rcases Nat.lt_trichotomy r r' with q | q | q
  · have := b3 r a1 q
    rw [a4 (by omega)] at this
    cases this
  · exact q
  · have := a3 r' b1 q
    rw [b4 (by omega)] at this
    cases this
/-- the places of a window of width c from (a, b) on, in the order of a walk -/
def er_px (a c k : Nat) : Int32 := nI (a + k % c)
def er_py (b c k : Nat) : Int32 := nI (b + k / c)
def er_f (X Y : Nat → Int32) (a b c : Nat) (k : Nat) : Bool := er_cov X Y (er_px a c k) (er_py b c k)
theorem er_kx {c i j : Nat} (h : i < c) : (j * c + i) % c = i := by rw [Nat.add_comm, Nat.add_mul_mod_self_right, Nat.mod_eq_of_lt h]
theorem er_ky {c i j : Nat} (h : i < c) : (j * c + i) / c = j := by rw [Nat.add_comm, Nat.add_mul_div_right _ _ (by omega), Nat.div_eq_of_lt h, Nat.zero_add]
end
section
-- CONTRACTS' STARTS AND ENDS: a world that is only read (PP), one that is written (PI), what is there behind (EI)
theorem er_hts {w : Cond} {args : Array Value} {s : State} (h : ∀ c ∈ w :: er_big, c.before args s = true) : ∀ c ∈ er_big, c.before args s = true := fun c hc => h c (List.mem_cons_of_mem _ hc)
theorem er_good : ∀ w ∈ er_big, (w.onTables && w.keeps) = true ∨ ∃ ty, w = .arrayClass ty := by
  have h : er_big.all goodWord = true := by decide +kernel
  exact fun w hw => good_of_word (List.all_eq_true.mp h w hw)
theorem er_gB {w : Cond} (h : w ∈ er_big) : GoodIn er_big (w :: er_big) := fun x hx => by
  rcases List.mem_cons.mp hx with rfl | hx
  · exact ⟨h, er_good _ h⟩
  · exact ⟨hx, er_good _ hx⟩
theorem er_gA {ws ws' : List Cond} (h : GoodIn er_big ws') (h' : ∀ w ∈ ws, w ∈ er_big) : GoodIn er_big (ws ++ ws') := fun x hx => by
  rcases List.mem_append.mp hx with hx | hx
  · exact ⟨h' x hx, er_good _ (h' x hx)⟩
  · exact h x hx
theorem er_gV {own C : String} {i : Nat} {y : MethodName} {w : Cond} (h1 : Cond.methodLink own i y ∈ er_big) (h2 : Cond.instanceMethod y ∈ er_big) (h3 : Cond.selects C y y ∈ er_big) (h4 : Cond.initialized C ∈ er_big) (h5 : w ∈ er_big) : GoodIn er_big (wsV own i C y (w :: er_big)) :=
  er_gA (er_gB h5) (fun x hx => by
    simp only [List.mem_cons, List.not_mem_nil, or_false] at hx
    rcases hx with rfl | rfl | rfl | rfl <;> assumption)
theorem er_gS {own : String} {i : Nat} {y : MethodName} {w : Cond} (h1 : Cond.methodLink own i y ∈ er_big) (h2 : Cond.static y ∈ er_big) (h3 : Cond.initialized y.cls ∈ er_big) (h5 : w ∈ er_big) : GoodIn er_big (va_wsS own i y (w :: er_big)) :=
  er_gA (er_gB h5) (fun x hx => by
    simp only [List.mem_cons, List.not_mem_nil, or_false] at hx
    rcases hx with rfl | rfl | rfl <;> assumption)
def er_N (U : State) : Prop := ∀ w ∈ er_nest, va_Nw w U
theorem er_N.call {U : State} {g : JFrame} {mk : MethodId} {a : Array Value} (h : er_N U) : er_N (U.calling g mk a) := fun w hw => va_Nw.same (u := U) (U := U.calling g mk a) (by
  have q : er_nest.all (fun w => w.onTables) = true := by decide +kernel
  exact List.all_eq_true.mp q w hw) rfl (h w hw)
def er_isNest : Cond → Bool
  | .fieldLinkNest .. => true
  | .methodLinkNest .. => true
  | _ => false
theorem er_N.warm {s U : State} (hW : s.WarmedH U.vm) (h : er_N s) : er_N U := fun w hw => by
  have q : er_nest.all er_isNest = true := by decide +kernel
  have q1 := List.all_eq_true.mp q w hw
  have q2 := h w hw
  cases w <;> first | exact va_Nw.warmF hW q2 | exact va_Nw.warmM hW q2 | (simp [er_isNest] at q1)
def PP (dC : Nat → ClassId) (dI : Nat → Nat → Nat) (tys : List (ClassId × FieldType)) (ws : va_W) (U : State) : Prop := er_N U ∧ va_K (dC, dI) classes tys U ∧ va_P (dC, dI) classes ws U.heap
def PI (dC : Nat → ClassId) (dI : Nat → Nat → Nat) (tys : List (ClassId × FieldType)) (ws : va_W) (sz : Nat) (U : State) : Prop := U.heap.size = sz ∧ er_N U ∧ va_K (dC, dI) classes tys U ∧ va_P (dC, dI) classes ws U.heap ∧ va_D (fun _ => True) ws
def EI (dC : Nat → ClassId) (dI : Nat → Nat → Nat) (tys : List (ClassId × FieldType)) (ws : va_W) (A : Nat → Prop) (t : State) : Prop := va_P (dC, dI) classes ws t.heap ∧ va_K (dC, dI) classes tys t ∧ va_D A ws
theorem PP.blind {av : List Value} {dC : Nat → ClassId} {dI : Nat → Nat → Nat} {tys : List (ClassId × FieldType)} {ws : va_W} : FrameBlind (va_Pc av (PP dC dI tys ws)) :=
  fun a U g mk q => ⟨q.1, q.2.1.call, va_K.moved (u := U) (U := U.calling g mk a) (Vm.Alike.refl U.vm) q.2.2.1, q.2.2.2⟩
theorem PP.at {s : State} {H : Heap} {av : List Value} {dC : Nat → ClassId} {dI : Nat → Nat → Nat} {tys : List (ClassId × FieldType)} {ws : va_W} (hN : er_N s) (hK : va_K (dC, dI) classes tys s) (hP : va_P (dC, dI) classes ws H) :
    ∀ U : State, U.heap = H → s.WarmedH U.vm → va_Pc av (PP dC dI tys ws) av.toArray U := fun U hU hW => ⟨rfl, hN.warm hW, va_K.moved hW.alike hK, by rw [hU]; exact hP⟩
theorem PI.blind {av : List Value} {dC : Nat → ClassId} {dI : Nat → Nat → Nat} {tys : List (ClassId × FieldType)} {ws : va_W} {sz : Nat} : FrameBlind (va_Pc av (PI dC dI tys ws sz)) :=
  fun a U g mk q => ⟨q.1, q.2.1, q.2.2.1.call, va_K.moved (u := U) (U := U.calling g mk a) (Vm.Alike.refl U.vm) q.2.2.2.1, q.2.2.2.2⟩
theorem PI.at {s : State} {H : Heap} {av : List Value} {dC : Nat → ClassId} {dI : Nat → Nat → Nat} {tys : List (ClassId × FieldType)} {ws : va_W} {A : Nat → Prop} (hN : er_N s) (hK : va_K (dC, dI) classes tys s) (hP : va_P (dC, dI) classes ws H) (hD : va_D A ws) :
    ∀ U : State, U.heap = H → s.WarmedH U.vm → va_Pc av (PI dC dI tys ws H.size) av.toArray U := fun U hU hW => ⟨rfl, by rw [hU], hN.warm hW, va_K.moved hW.alike hK, by rw [hU]; exact hP, hD.weaken (fun _ _ _ _ => trivial)⟩
-- small facts that the walks' ends ask
def er_win (p lo hi : Int32) : Bool := decide (¬ p < lo ∧ ¬ hi < p)
theorem er_adm0 {x y : Int64} (h : x < y) : (0 : Int32) = er_b (decide (y ≤ x)) := by
  rw [decide_eq_false (lg_lt_not_le h)]; rfl
theorem er_adm1 {x y : Int64} (h : ¬ x < y) : (1 : Int32) = er_b (decide (y ≤ x)) := by
  rw [decide_eq_true (Int64.not_lt.mp h)]; rfl
section ErCov
variable {X Y : Nat → Int32} {px py : Int32}
theorem er_c0 (h : er_ar X Y = 0) : (0 : Int32) = er_b (er_cov X Y px py) := by simp [er_cov, er_covj, h, er_b]
theorem er_cz {j : Nat} (h : decide ((er_lw (er_ea X Y j) (er_ed X Y j)).toInt64 ≤ er_wt (er_ex X Y j) (er_ey X Y j) (er_ea X Y j) (er_ed X Y j) px py) = false) : er_in X Y j px py = false := by
  rw [er_W_wt] at h
  cases q : er_in X Y j px py with
  | false => rfl
  | true => rw [decide_eq_true ((er_lw_in X Y j px py).mpr q)] at h; cases h
theorem er_co {j : Nat} (h : decide ((er_lw (er_ea X Y j) (er_ed X Y j)).toInt64 ≤ er_wt (er_ex X Y j) (er_ey X Y j) (er_ea X Y j) (er_ed X Y j) px py) = true) : er_in X Y j px py = true := by
  rw [er_W_wt] at h
  exact (er_lw_in X Y j px py).mp (of_decide_eq_true h)
theorem er_c1 (h : decide ((er_lw (er_ea X Y 0) (er_ed X Y 0)).toInt64 ≤ er_wt (er_ex X Y 0) (er_ey X Y 0) (er_ea X Y 0) (er_ed X Y 0) px py) = false) : (0 : Int32) = er_b (er_cov X Y px py) := by simp [er_cov, er_covj, er_cz h, er_b]
theorem er_c2 (h : decide ((er_lw (er_ea X Y 1) (er_ed X Y 1)).toInt64 ≤ er_wt (er_ex X Y 1) (er_ey X Y 1) (er_ea X Y 1) (er_ed X Y 1) px py) = false) : (0 : Int32) = er_b (er_cov X Y px py) := by simp [er_cov, er_covj, er_cz h, er_b]
theorem er_c3 (h : decide ((er_lw (er_ea X Y 2) (er_ed X Y 2)).toInt64 ≤ er_wt (er_ex X Y 2) (er_ey X Y 2) (er_ea X Y 2) (er_ed X Y 2) px py) = false) : (0 : Int32) = er_b (er_cov X Y px py) := by simp [er_cov, er_covj, er_cz h, er_b]
theorem er_c4 (h : ¬ er_ar X Y = 0) (h0 : decide ((er_lw (er_ea X Y 0) (er_ed X Y 0)).toInt64 ≤ er_wt (er_ex X Y 0) (er_ey X Y 0) (er_ea X Y 0) (er_ed X Y 0) px py) = true) (h1 : decide ((er_lw (er_ea X Y 1) (er_ed X Y 1)).toInt64 ≤ er_wt (er_ex X Y 1) (er_ey X Y 1) (er_ea X Y 1) (er_ed X Y 1) px py) = true)
    (h2 : decide ((er_lw (er_ea X Y 2) (er_ed X Y 2)).toInt64 ≤ er_wt (er_ex X Y 2) (er_ey X Y 2) (er_ea X Y 2) (er_ed X Y 2) px py) = true) : (1 : Int32) = er_b (er_cov X Y px py) := by simp [er_cov, er_covj, h, er_co h0, er_co h1, er_co h2, er_b]
end ErCov
theorem er_mod3 {j k : Nat} (h : j + k < 100) : nI j + nI k - (nI j + nI k) / nI 3 * nI 3 = nI ((j + k) % 3) := by rw [nI_add, pk_rem (by omega) (by decide) (by decide)]
theorem er_fr_ok2 {X Y : Nat → Int32} {j : Nat} (hj : j < 3) (h : ¬ 0 ≤ er_ar X Y) : nI j + 2 - (nI j + 2) / 3 * 3 = nI (er_fr X Y j) := by
  rw [er_fr, if_pos (Int64.not_le.mp h)]; exact er_mod3 (k := 2) (by omega)
theorem er_fr_ok1 {X Y : Nat → Int32} {j : Nat} (hj : j < 3) (h : 0 ≤ er_ar X Y) : nI j + 1 - (nI j + 1) / 3 * 3 = nI (er_fr X Y j) := by
  rw [er_fr, if_neg (Int64.not_lt.mpr h)]; exact er_mod3 (k := 1) (by omega)
theorem er_to_ok1 {X Y : Nat → Int32} {j : Nat} (hj : j < 3) (h : ¬ 0 ≤ er_ar X Y) : nI j + 1 - (nI j + 1) / 3 * 3 = nI (er_to X Y j) := by
  rw [er_to, if_pos (Int64.not_le.mp h)]; exact er_mod3 (k := 1) (by omega)
theorem er_to_ok2 {X Y : Nat → Int32} {j : Nat} (hj : j < 3) (h : 0 ≤ er_ar X Y) : nI j + 2 - (nI j + 2) / 3 * 3 = nI (er_to X Y j) := by
  rw [er_to, if_neg (Int64.not_lt.mpr h)]; exact er_mod3 (k := 2) (by omega)
theorem er_le {a b : Nat} (h : nI a ≤ nI b) (ha : a < 2 ^ 31) (hb : b < 2 ^ 31) : a ≤ b := (nI_leI ha hb).mp h
theorem er_nle {a b : Nat} (h : ¬ nI a ≤ nI b) (ha : a < 2 ^ 31) (hb : b < 2 ^ 31) : b < a := Nat.lt_of_not_le fun q => h ((nI_leI ha hb).mpr q)
theorem er_lt {a b : Nat} (h : nI a < nI b) (ha : a < 2 ^ 31) (hb : b < 2 ^ 31) : a < b := (nI_ltI ha hb).mp h
theorem er_nlt {a b : Nat} (h : ¬ nI a < nI b) (ha : a < 2 ^ 31) (hb : b < 2 ^ 31) : b ≤ a := Nat.le_of_not_lt fun q => h ((nI_ltI ha hb).mpr q)
theorem er_cvF {X Y : Nat → Int32} {px py : Int32} {j : Nat} (h : j ≤ 3) (hf : er_covj X Y px py j = false) : er_b (er_covj X Y px py j) = er_b (er_cov X Y px py) := by
  have m : ∀ d, er_covj X Y px py (j + d) = false := by
    intro d
    induction d with
    | zero => exact hf
    | succ d ih => show (er_covj X Y px py (j + d) && _) = false; rw [ih]; rfl
  have := m (3 - j)
  rw [show j + (3 - j) = 3 by omega] at this
  rw [er_cov, hf, this]
theorem er_own_ok {dx dy v : Int32} (h : (v = 1 ∧ ((dy = 0 ∧ 0 < dx) ∨ ¬ 0 ≤ dy)) ∨ (v = 0 ∧ (¬ dy = 0 ∨ ¬ 0 < dx) ∧ 0 ≤ dy)) : v = er_b (er_own dx dy) := by
  unfold er_own er_b
  rcases h with ⟨rfl, h⟩ | ⟨rfl, h, h2⟩
  · rw [decide_eq_true (by rcases h with h | h; exact Or.inl h; exact Or.inr (Int32.not_le.mp h))]; rfl
  · rw [decide_eq_false (by rintro (q | q); rcases h with h | h; exact h q.1; exact h q.2; exact Int32.not_lt.mpr h2 q)]; rfl
theorem er_dw0 {a b : Int64} (h : (a - a / b * b) = 0) : a / b - 0 = er_down a b := by
  unfold er_down; rw [if_neg (fun q => q.1 h)]
theorem er_dw1 {a b : Int64} (h : 0 ≤ a) : a / b - 0 = er_down a b := by
  unfold er_down; rw [if_neg (fun q => lg_lt_not_le q.2 h)]
theorem er_dw2 {a b : Int64} (h : ¬ (a - a / b * b) = 0) (h2 : ¬ 0 ≤ a) : a / b - 1 = er_down a b := by
  unfold er_down; rw [if_pos ⟨h, Int64.not_le.mp h2⟩]
def er_dd (a b : Int64) : Int64 := if 0 < b then er_fd a b else 0
theorem er_dd0 {a b : Int64} (h : b ≤ 0) : 0 = er_dd a b := by unfold er_dd; rw [if_neg (lg_le_not_lt h)]
theorem er_dd1 {a b : Int64} (h : ¬ b ≤ 0) : er_fd a b = er_dd a b := by unfold er_dd; rw [if_pos (Int64.not_le.mp h)]
theorem er_ne0 {b : Int64} (h : ¬ b ≤ 0) : ¬ b = 0 := fun q => h (by rw [q]; decide)
theorem er_fd0 {x y : Int64} (h : 0 ≤ x ^^^ y) : x / y = er_fd x y := by unfold er_fd; rw [if_neg (fun q => lg_lt_not_le q.1 h)]
theorem er_fd1 {x y : Int64} (h : x / y * y = x) : x / y = er_fd x y := by unfold er_fd; rw [if_neg (fun q => q.2 h)]
theorem er_fd2 {x y : Int64} (h : ¬ 0 ≤ x ^^^ y) (h2 : ¬ x / y * y = x) : x / y - 1 = er_fd x y := by unfold er_fd; rw [if_pos ⟨Int64.not_le.mp h, h2⟩]
theorem er_sh_step {g : Int64} {n : Nat} (h : n ≤ 34) (hn : ¬ er_sh g n < 536870912) : n + 1 ≤ 34 := by
  rcases Nat.lt_or_ge n 34 with q | q
  · omega
  · exact absurd (show er_sh g n < 536870912 by rw [show n = 34 by omega]; exact er_sh_34 g) hn
theorem er_win_nI {n k : Nat} (h : n ≤ k) (hk : k < 2 ^ 31) : er_win (nI n) 0 (nI k) = true := by
  unfold er_win
  exact decide_eq_true ⟨nI_pos (by omega), nI_nlt h (by omega)⟩
def er_abs (x : Int64) : Int64 := if 0 < x then x else -x
def er_mx (x y : Int64) : Int64 := if y < x then x else y
def er_ds (X Y D : Nat → Int32) (px py : Int32) : Int64 := er_W X Y 0 px py * (D 0).toInt64 + er_W X Y 1 px py * (D 1).toInt64 + er_W X Y 2 px py * (D 2).toInt64
def er_nr (X Y Q : Nat → Int32) (px py : Int32) (j : Nat) : Int64 := er_W X Y j px py * (Q j).toInt64
def er_m3 (X Y Q : Nat → Int32) (px py : Int32) : Int64 := er_mx (er_nr X Y Q px py 0) (er_mx (er_nr X Y Q px py 1) (er_nr X Y Q px py 2))
def er_at (X Y Q : Nat → Int32) (px py : Int32) (z : Nat) (v0 v1 v2 : Int32) : Int32 :=
  (er_dd (er_sh (er_nr X Y Q px py 0) z * v0.toInt64 + er_sh (er_nr X Y Q px py 1) z * v1.toInt64 + er_sh (er_nr X Y Q px py 2) z * v2.toInt64) (er_sh (er_nr X Y Q px py 0) z + er_sh (er_nr X Y Q px py 1) z + er_sh (er_nr X Y Q px py 2) z)).toInt32
theorem er_f_at {X Y : Nat → Int32} {a b c i j : Nat} {v : Bool} (h : i < c) (q : er_cov X Y (nI (a + i)) (nI (b + j)) = v) : er_f X Y a b c (j * c + i) = v := by
  unfold er_f er_px er_py; rw [er_kx h, er_ky h]; exact q
theorem er_cnt_t {f : Nat → Bool} {k : Nat} (h : f k = true) : nI (er_cnt f k) + 1 = nI (er_cnt f (k + 1)) := by
  rw [nI_1, show er_cnt f (k + 1) = er_cnt f k + (if f k = true then 1 else 0) from rfl, if_pos h]
theorem er_cnt_f {f : Nat → Bool} {k : Nat} (h : f k = false) : nI (er_cnt f k) = nI (er_cnt f (k + 1)) := by
  rw [show er_cnt f (k + 1) = er_cnt f k + (if f k = true then 1 else 0) from rfl, if_neg (by rw [h]; decide), Nat.add_zero]
theorem er_lw0 {dx dy : Int32} (h : (dy = 0 ∧ ¬ dx ≤ 0) ∨ ¬ 0 ≤ dy) : er_lw dx dy = 0 := by
  unfold er_lw er_own
  rw [if_pos (decide_eq_true (by rcases h with h | h; exact Or.inl ⟨h.1, Int32.not_le.mp h.2⟩; exact Or.inr (Int32.not_le.mp h)))]
theorem er_lw1 {dx dy : Int32} (h : (¬ dy = 0 ∨ dx ≤ 0) ∧ 0 ≤ dy) : er_lw dx dy = 1 := by
  unfold er_lw er_own
  rw [if_neg]
  intro q
  rcases of_decide_eq_true q with q | q
  · rcases h.1 with h | h
    · exact h q.1
    · exact Int32.not_lt.mpr h q.2
  · exact Int32.not_lt.mpr h.2 q
theorem er_ar_c (X Y : Nat → Int32) : (X 1 - X 0).toInt64 * (Y 2 - Y 0).toInt64 - (X 2 - X 0).toInt64 * (Y 1 - Y 0).toInt64 = er_ar X Y := by
  unfold er_ar er_room; rw [Int64.mul_comm (X 2 - X 0).toInt64]
theorem er_etfr_0 {X Y : Nat → Int32} (h : ¬ 0 ≤ er_ar X Y) : er_fr X Y 0 = 2 := by unfold er_fr; rw [if_pos (Int64.not_le.mp h)]
theorem er_etto_0 {X Y : Nat → Int32} (h : ¬ 0 ≤ er_ar X Y) : er_to X Y 0 = 1 := by unfold er_to; rw [if_pos (Int64.not_le.mp h)]
theorem er_etx_0 {X Y : Nat → Int32} (h : ¬ 0 ≤ er_ar X Y) : er_ex X Y 0 = X 2 := by unfold er_ex; rw [er_etfr_0 h]
theorem er_ety_0 {X Y : Nat → Int32} (h : ¬ 0 ≤ er_ar X Y) : er_ey X Y 0 = Y 2 := by unfold er_ey; rw [er_etfr_0 h]
theorem er_eta_0 {X Y : Nat → Int32} (h : ¬ 0 ≤ er_ar X Y) : er_ea X Y 0 = X 1 - X 2 := by unfold er_ea; rw [er_etfr_0 h, er_etto_0 h]
theorem er_etd_0 {X Y : Nat → Int32} (h : ¬ 0 ≤ er_ar X Y) : er_ed X Y 0 = Y 1 - Y 2 := by unfold er_ed; rw [er_etfr_0 h, er_etto_0 h]
theorem er_etfr_1 {X Y : Nat → Int32} (h : ¬ 0 ≤ er_ar X Y) : er_fr X Y 1 = 0 := by unfold er_fr; rw [if_pos (Int64.not_le.mp h)]
theorem er_etto_1 {X Y : Nat → Int32} (h : ¬ 0 ≤ er_ar X Y) : er_to X Y 1 = 2 := by unfold er_to; rw [if_pos (Int64.not_le.mp h)]
theorem er_etx_1 {X Y : Nat → Int32} (h : ¬ 0 ≤ er_ar X Y) : er_ex X Y 1 = X 0 := by unfold er_ex; rw [er_etfr_1 h]
theorem er_ety_1 {X Y : Nat → Int32} (h : ¬ 0 ≤ er_ar X Y) : er_ey X Y 1 = Y 0 := by unfold er_ey; rw [er_etfr_1 h]
theorem er_eta_1 {X Y : Nat → Int32} (h : ¬ 0 ≤ er_ar X Y) : er_ea X Y 1 = X 2 - X 0 := by unfold er_ea; rw [er_etfr_1 h, er_etto_1 h]
theorem er_etd_1 {X Y : Nat → Int32} (h : ¬ 0 ≤ er_ar X Y) : er_ed X Y 1 = Y 2 - Y 0 := by unfold er_ed; rw [er_etfr_1 h, er_etto_1 h]
theorem er_etfr_2 {X Y : Nat → Int32} (h : ¬ 0 ≤ er_ar X Y) : er_fr X Y 2 = 1 := by unfold er_fr; rw [if_pos (Int64.not_le.mp h)]
theorem er_etto_2 {X Y : Nat → Int32} (h : ¬ 0 ≤ er_ar X Y) : er_to X Y 2 = 0 := by unfold er_to; rw [if_pos (Int64.not_le.mp h)]
theorem er_etx_2 {X Y : Nat → Int32} (h : ¬ 0 ≤ er_ar X Y) : er_ex X Y 2 = X 1 := by unfold er_ex; rw [er_etfr_2 h]
theorem er_ety_2 {X Y : Nat → Int32} (h : ¬ 0 ≤ er_ar X Y) : er_ey X Y 2 = Y 1 := by unfold er_ey; rw [er_etfr_2 h]
theorem er_eta_2 {X Y : Nat → Int32} (h : ¬ 0 ≤ er_ar X Y) : er_ea X Y 2 = X 0 - X 1 := by unfold er_ea; rw [er_etfr_2 h, er_etto_2 h]
theorem er_etd_2 {X Y : Nat → Int32} (h : ¬ 0 ≤ er_ar X Y) : er_ed X Y 2 = Y 0 - Y 1 := by unfold er_ed; rw [er_etfr_2 h, er_etto_2 h]
theorem er_enfr_0 {X Y : Nat → Int32} (h : 0 ≤ er_ar X Y) : er_fr X Y 0 = 1 := by unfold er_fr; rw [if_neg (Int64.not_lt.mpr h)]
theorem er_ento_0 {X Y : Nat → Int32} (h : 0 ≤ er_ar X Y) : er_to X Y 0 = 2 := by unfold er_to; rw [if_neg (Int64.not_lt.mpr h)]
theorem er_enx_0 {X Y : Nat → Int32} (h : 0 ≤ er_ar X Y) : er_ex X Y 0 = X 1 := by unfold er_ex; rw [er_enfr_0 h]
theorem er_eny_0 {X Y : Nat → Int32} (h : 0 ≤ er_ar X Y) : er_ey X Y 0 = Y 1 := by unfold er_ey; rw [er_enfr_0 h]
theorem er_ena_0 {X Y : Nat → Int32} (h : 0 ≤ er_ar X Y) : er_ea X Y 0 = X 2 - X 1 := by unfold er_ea; rw [er_enfr_0 h, er_ento_0 h]
theorem er_end_0 {X Y : Nat → Int32} (h : 0 ≤ er_ar X Y) : er_ed X Y 0 = Y 2 - Y 1 := by unfold er_ed; rw [er_enfr_0 h, er_ento_0 h]
theorem er_enfr_1 {X Y : Nat → Int32} (h : 0 ≤ er_ar X Y) : er_fr X Y 1 = 2 := by unfold er_fr; rw [if_neg (Int64.not_lt.mpr h)]
theorem er_ento_1 {X Y : Nat → Int32} (h : 0 ≤ er_ar X Y) : er_to X Y 1 = 0 := by unfold er_to; rw [if_neg (Int64.not_lt.mpr h)]
theorem er_enx_1 {X Y : Nat → Int32} (h : 0 ≤ er_ar X Y) : er_ex X Y 1 = X 2 := by unfold er_ex; rw [er_enfr_1 h]
theorem er_eny_1 {X Y : Nat → Int32} (h : 0 ≤ er_ar X Y) : er_ey X Y 1 = Y 2 := by unfold er_ey; rw [er_enfr_1 h]
theorem er_ena_1 {X Y : Nat → Int32} (h : 0 ≤ er_ar X Y) : er_ea X Y 1 = X 0 - X 2 := by unfold er_ea; rw [er_enfr_1 h, er_ento_1 h]
theorem er_end_1 {X Y : Nat → Int32} (h : 0 ≤ er_ar X Y) : er_ed X Y 1 = Y 0 - Y 2 := by unfold er_ed; rw [er_enfr_1 h, er_ento_1 h]
theorem er_enfr_2 {X Y : Nat → Int32} (h : 0 ≤ er_ar X Y) : er_fr X Y 2 = 0 := by unfold er_fr; rw [if_neg (Int64.not_lt.mpr h)]
theorem er_ento_2 {X Y : Nat → Int32} (h : 0 ≤ er_ar X Y) : er_to X Y 2 = 1 := by unfold er_to; rw [if_neg (Int64.not_lt.mpr h)]
theorem er_enx_2 {X Y : Nat → Int32} (h : 0 ≤ er_ar X Y) : er_ex X Y 2 = X 0 := by unfold er_ex; rw [er_enfr_2 h]
theorem er_eny_2 {X Y : Nat → Int32} (h : 0 ≤ er_ar X Y) : er_ey X Y 2 = Y 0 := by unfold er_ey; rw [er_enfr_2 h]
theorem er_ena_2 {X Y : Nat → Int32} (h : 0 ≤ er_ar X Y) : er_ea X Y 2 = X 1 - X 0 := by unfold er_ea; rw [er_enfr_2 h, er_ento_2 h]
theorem er_end_2 {X Y : Nat → Int32} (h : 0 ≤ er_ar X Y) : er_ed X Y 2 = Y 1 - Y 0 := by unfold er_ed; rw [er_enfr_2 h, er_ento_2 h]
theorem er_pxa {a c i j : Nat} (h : i < c) : er_px a c (j * c + i) = nI (a + i) := by unfold er_px; rw [er_kx h]
theorem er_pya {b c i j : Nat} (h : i < c) : er_py b c (j * c + i) = nI (b + j) := by unfold er_py; rw [er_ky h]
theorem er_idx {c d i j : Nat} (hj : j < d) (hi : i < c) : j * c + i < d * c := by
  have h1 : (j + 1) * c ≤ d * c := Nat.mul_le_mul_right c hj
  rw [Nat.succ_mul] at h1
  omega
section ErScan
variable {X Y : Nat → Int32} {a b c d i j k y t z : Nat}
theorem er_k9 (h : (j < d ∧ k = j * c + i) ∨ (j = d ∧ k = d * c)) (hi : i ≤ c) : k ≤ d * c := by
  rcases h with ⟨h1, rfl⟩ | ⟨-, rfl⟩
  · have h2 : (j + 1) * c ≤ d * c := Nat.mul_le_mul_right c h1
    rw [Nat.succ_mul] at h2
    omega
  · exact Nat.le_refl _
theorem er_row0 (h : (j < d ∧ k = j * c + i) ∨ (j = d ∧ k = d * c)) : (j < d → k ≤ j * c + i ∧ ∀ z, k ≤ z → z < j * c + i → er_f X Y a b c z = false) ∧ (j = d → ∀ z, k ≤ z → z < d * c → er_f X Y a b c z = false) := by
  rcases h with ⟨h1, rfl⟩ | ⟨rfl, rfl⟩
  · exact ⟨fun _ => ⟨Nat.le_refl _, fun z q1 q2 => absurd q2 (by omega)⟩, fun q => absurd q (by omega)⟩
  · exact ⟨fun q => absurd q (Nat.lt_irrefl _), fun _ z q1 q2 => absurd q2 (by omega)⟩
theorem er_rowz (hz : er_next (fun q => er_cov X Y (nI (a + q)) (nI (b + y))) c t z) {w : Nat} (h1 : y * c + t ≤ w) (h2 : w < y * c + z) : er_f X Y a b c w = false := by
  obtain ⟨q, rfl⟩ : ∃ q, w = y * c + q := ⟨w - y * c, by omega⟩
  have hzc := hz.2.1
  exact er_f_at (by omega) (hz.2.2.1 q (by omega) (by omega))
theorem er_row (h : (y < d → k ≤ y * c + t ∧ ∀ z, k ≤ z → z < y * c + t → er_f X Y a b c z = false) ∧ (y = d → ∀ z, k ≤ z → z < d * c → er_f X Y a b c z = false)) (hy : y < d) (hz : er_next (fun q => er_cov X Y (nI (a + q)) (nI (b + y))) c t z) (hc : a + c ≤ a + z) :
    (y + 1 < d → k ≤ (y + 1) * c + 0 ∧ ∀ z, k ≤ z → z < (y + 1) * c + 0 → er_f X Y a b c z = false) ∧ (y + 1 = d → ∀ z, k ≤ z → z < d * c → er_f X Y a b c z = false) := by
  have h1 := h.1 hy
  have hz2 := hz.1
  have key : ∀ w, k ≤ w → w < (y + 1) * c → er_f X Y a b c w = false := by
    intro w q1 q2
    rw [Nat.succ_mul] at q2
    rcases Nat.lt_or_ge w (y * c + t) with q | q
    · exact h1.2 w q1 q
    · exact er_rowz hz q (by omega)
  refine ⟨fun _ => ⟨?_, fun w q1 q2 => key w q1 (by omega)⟩, fun e w q1 q2 => key w q1 (by rw [e]; exact q2)⟩
  have := h1.1
  rw [Nat.succ_mul]
  have := hz.2.1
  omega
theorem er_found (h : (y < d → k ≤ y * c + t ∧ ∀ z, k ≤ z → z < y * c + t → er_f X Y a b c z = false) ∧ (y = d → ∀ z, k ≤ z → z < d * c → er_f X Y a b c z = false)) (hy : y < d) (hz : er_next (fun q => er_cov X Y (nI (a + q)) (nI (b + y))) c t z) (hc : z < c) :
    er_next (er_f X Y a b c) (d * c) k (y * c + z) := by
  have h1 := h.1 hy
  have hz2 := hz.1
  refine ⟨by omega, Nat.le_of_lt (er_idx hy hc), fun w q1 q2 => ?_, fun _ => er_f_at hc (hz.2.2.2 hc)⟩
  rcases Nat.lt_or_ge w (y * c + t) with q | q
  · exact h1.2 w q1 q
  · exact er_rowz hz q q2
theorem er_none (hk : k ≤ d * c) (h : (y < d → k ≤ y * c + t ∧ ∀ z, k ≤ z → z < y * c + t → er_f X Y a b c z = false) ∧ (y = d → ∀ z, k ≤ z → z < d * c → er_f X Y a b c z = false)) (hy : y = d) : er_next (er_f X Y a b c) (d * c) k (d * c) :=
  ⟨hk, Nat.le_refl _, h.2 hy, fun q => absurd q (Nat.lt_irrefl _)⟩
end ErScan
end
section
set_option maxHeartbeats 1000000 in
set_option maxRecDepth 100000 in
theorem c_C_weightAt (l : Launch) (dC : Nat → ClassId) (dI : Nat → Nat → Nat) (h hv : Nat) (x y dp q ex ey ea ed lw : Int32) (p0 p1 : Int32) : Met l y_C_weightAt w_C_weightAt ({ frames := 0, cells := 0, slots := 0, locals := 0 }) (va_Pc [.ref h, .int p0, .int p1] (PP dC dI [] [(h, .inr (0, [.int x, .int y, .int dp, .int q, .ref hv, .int ex, .int ey, .int ea, .int ed, .int lw]))])) (vp_Sl (fun r : Int64 => r = er_wt ex ey ea ed p0 p1)) 0 0 (fun _ => False) := by
  refine Met.ofW (cc := b_C_weightAt) (maxL := 5) (ret := (some .long)) (by decide +kernel) rfl ?_
  intro p e s m args below meth c s₁ B hml hv
  obtain ⟨rfl, hN, hK, hP⟩ := hv
  have hx := B.exec
  have hb := B.bytes
  have hr := B.returns
  have hts := er_hts (atoms_spec (ws := w_C_weightAt) B.pre)
  have hown : s.vm.findClass R_C = some m.cls := findClass_of_methodNamed B.named
  have hlocks := B.notSynchronized
  have hP : va_P (dC, dI) classes [(h, .inr (0, [.int x, .int y, .int dp, .int q, .ref hv, .int ex, .int ey, .int ea, .int ed, .int lw]))] s.heap := hP
  have hl := lv_entry ([.ref h, .int p0, .int p1]) (n := 5) (Nat.le_of_ble_eq_true rfl)
  rw [lg_entry_eq]
  generalize (lg_sl ([.ref h, .int p0, .int p1]) ++ List.replicate (5 - (lg_sl ([.ref h, .int p0, .int p1])).length) Slot.unset).toArray = ls at hl ⊢
  have hl : lv_has ls 5 [(0, .ref h), (1, .int p0), (2, .int p1)] := hl
  refine lv_bipush (v := 16) hx hb d_C_weightAt_0 (by decide) ?_
  refine lv_iload_n hx hb d_C_weightAt_2 rfl (lv_at hl 1 rfl) ?_
  refine lv_imul hx hb d_C_weightAt_3 ?_
  refine lv_bipush (v := 8) hx hb d_C_weightAt_4 (by decide) ?_
  refine lv_iadd hx hb d_C_weightAt_6 ?_
  refine lv_istore_n (lv' := [(3, .int ((16 * p0) + 8)), (0, .ref h), (1, .int p0), (2, .int p1)]) hx hb d_C_weightAt_7 rfl hl (by decide) rfl (fun ls hl => ?_)
  refine lv_bipush (v := 16) hx hb d_C_weightAt_8 (by decide) ?_
  refine lv_iload_n hx hb d_C_weightAt_10 rfl (lv_at hl 3 rfl) ?_
  refine lv_imul hx hb d_C_weightAt_11 ?_
  refine lv_bipush (v := 8) hx hb d_C_weightAt_12 (by decide) ?_
  refine lv_iadd hx hb d_C_weightAt_14 ?_
  refine lv_istore (lv' := [(4, .int ((16 * p1) + 8)), (3, .int ((16 * p0) + 8)), (0, .ref h), (1, .int p0), (2, .int p1)]) hx hb d_C_weightAt_15 hl (by decide) rfl (fun ls hl => ?_)
  refine lv_aload_n hx hb d_C_weightAt_17 rfl (lv_at hl 2 rfl) ?_
  refine va_get (D := (dC, dI)) (ci := 0) (v := .int ea) (C := R_C) (T := F_C) (N := 10) hx hb hts i_C hown hK hP 0 rfl rfl 7 (by decide) (hts _ k_47) (fun _ h9 => h9) rfl d_C_weightAt_18 ?_
  refine lv_i2l (v := ea.toInt64) hx hb d_C_weightAt_21 rfl ?_
  refine lv_iload hx hb d_C_weightAt_22 (lv_at hl 0 rfl) ?_
  refine lv_aload_n hx hb d_C_weightAt_24 rfl (lv_at hl 2 rfl) ?_
  refine va_get (D := (dC, dI)) (ci := 0) (v := .int ey) (C := R_C) (T := F_C) (N := 10) hx hb hts i_C hown hK hP 0 rfl rfl 6 (by decide) (hts _ k_46) (fun _ h9 => h9) rfl d_C_weightAt_25 ?_
  refine lv_isub hx hb d_C_weightAt_28 ?_
  refine lv_i2l (v := (((16 * p1) + 8) - ey).toInt64) hx hb d_C_weightAt_29 rfl ?_
  refine lv_lmul hx hb d_C_weightAt_30 ?_
  refine lv_aload_n hx hb d_C_weightAt_31 rfl (lv_at hl 2 rfl) ?_
  refine va_get (D := (dC, dI)) (ci := 0) (v := .int ed) (C := R_C) (T := F_C) (N := 10) hx hb hts i_C hown hK hP 0 rfl rfl 8 (by decide) (hts _ k_48) (fun _ h9 => h9) rfl d_C_weightAt_32 ?_
  refine lv_i2l (v := ed.toInt64) hx hb d_C_weightAt_35 rfl ?_
  refine lv_iload_n hx hb d_C_weightAt_36 rfl (lv_at hl 1 rfl) ?_
  refine lv_aload_n hx hb d_C_weightAt_37 rfl (lv_at hl 2 rfl) ?_
  refine va_get (D := (dC, dI)) (ci := 0) (v := .int ex) (C := R_C) (T := F_C) (N := 10) hx hb hts i_C hown hK hP 0 rfl rfl 5 (by decide) (hts _ k_45) (fun _ h9 => h9) rfl d_C_weightAt_38 ?_
  refine lv_isub hx hb d_C_weightAt_41 ?_
  refine lv_i2l (v := (((16 * p0) + 8) - ex).toInt64) hx hb d_C_weightAt_42 rfl ?_
  refine lv_lmul hx hb d_C_weightAt_43 ?_
  refine lv_lsub hx hb d_C_weightAt_44 ?_
  exact W.lret (v := (ea.toInt64 * ((((16 * p1) + 8) - ey).toInt64)) - (ed.toInt64 * ((((16 * p0) + 8) - ex).toInt64))) hx hb hr (fun u9 ht hW => ⟨_, rfl, rfl, ht⟩) (fun q hq => by cases hq) d_C_weightAt_45

set_option maxHeartbeats 1000000 in
set_option maxRecDepth 100000 in
theorem c_C_nearWeightAt (l : Launch) (dC : Nat → ClassId) (dI : Nat → Nat → Nat) (h hv : Nat) (x y dp q ex ey ea ed lw : Int32) (p0 p1 : Int32) : Met l y_C_nearWeightAt w_C_nearWeightAt ({ frames := 1, cells := 0, slots := 0, locals := 24 }) (va_Pc [.ref h, .int p0, .int p1] (PP dC dI [] [(h, .inr (0, [.int x, .int y, .int dp, .int q, .ref hv, .int ex, .int ey, .int ea, .int ed, .int lw]))])) (vp_Sl (fun r : Int64 => r = er_wt ex ey ea ed p0 p1 * q.toInt64)) 0 0 (fun _ => False) := by
  refine Met.ofW (cc := b_C_nearWeightAt) (maxL := 3) (ret := (some .long)) (by decide +kernel) rfl ?_
  intro p e s m args below meth c s₁ B hml hv
  obtain ⟨rfl, hN, hK, hP⟩ := hv
  have hx := B.exec
  have hb := B.bytes
  have hr := B.returns
  have hts := er_hts (atoms_spec (ws := w_C_nearWeightAt) B.pre)
  have hown : s.vm.findClass R_C = some m.cls := findClass_of_methodNamed B.named
  have hlocks := B.notSynchronized
  have hP : va_P (dC, dI) classes [(h, .inr (0, [.int x, .int y, .int dp, .int q, .ref hv, .int ex, .int ey, .int ea, .int ed, .int lw]))] s.heap := hP
  have hl := lv_entry ([.ref h, .int p0, .int p1]) (n := 3) (Nat.le_of_ble_eq_true rfl)
  rw [lg_entry_eq]
  generalize (lg_sl ([.ref h, .int p0, .int p1]) ++ List.replicate (3 - (lg_sl ([.ref h, .int p0, .int p1])).length) Slot.unset).toArray = ls at hl ⊢
  have hl : lv_has ls 3 [(0, .ref h), (1, .int p0), (2, .int p1)] := hl
  refine lv_aload_n hx hb d_C_nearWeightAt_0 rfl (lv_at hl 0 rfl) ?_
  refine lv_iload_n hx hb d_C_nearWeightAt_1 rfl (lv_at hl 1 rfl) ?_
  refine lv_iload_n hx hb d_C_nearWeightAt_2 rfl (lv_at hl 2 rfl) ?_
  have hPc := hP.sub (ws' := [(h, .inr (0, [.int x, .int y, .int dp, .int q, .ref hv, .int ex, .int ey, .int ea, .int ed, .int lw]))]) [0] rfl
  have hKc := hK.sub (tys' := []) [] rfl
  refine vp_callSl (va_runV (As := [.int p0, .int p1]) (rest := []) ⟨hx, hb, hml, hown, hts⟩ (c_C_weightAt l dC dI h hv x y dp q ex ey ea ed lw p0 p1) (cwV 2 hts (er_gV k_122 k_123 k_2 k_19 k_124) rfl rfl rfl (by decide +kernel) ⟨Nat.le_of_ble_eq_true rfl, Nat.le_of_ble_eq_true rfl⟩) ⟨PP.blind, va_recv hKc hPc (ci := 0) (q0 := 0) rfl rfl, PP.at hN hKc hPc⟩ rfl rfl hl.1 rfl (lv_room (Nat.le_of_ble_eq_true rfl)) d_C_nearWeightAt_3 ⟨Nat.zero_le _, Nat.zero_le _⟩).run (fun r_1 hr_1 => ?_)
  obtain rfl : er_wt ex ey ea ed p0 p1 = r_1 := Eq.symm hr_1
  refine lv_aload_n hx hb d_C_nearWeightAt_6 rfl (lv_at hl 0 rfl) ?_
  refine va_get (D := (dC, dI)) (ci := 0) (v := .int q) (C := R_C) (T := F_C) (N := 10) hx hb hts i_C hown hK hP 0 rfl rfl 3 (by decide) (hts _ k_43) (fun _ h9 => h9) rfl d_C_nearWeightAt_7 ?_
  refine lv_i2l (v := q.toInt64) hx hb d_C_nearWeightAt_10 rfl ?_
  refine lv_lmul hx hb d_C_nearWeightAt_11 ?_
  exact W.lret (v := (er_wt ex ey ea ed p0 p1) * q.toInt64) hx hb hr (fun u9 ht hW => ⟨_, rfl, rfl, ht⟩) (fun q hq => by cases hq) d_C_nearWeightAt_12

set_option maxHeartbeats 1000000 in
set_option maxRecDepth 100000 in
theorem c_C_admits (l : Launch) (dC : Nat → ClassId) (dI : Nat → Nat → Nat) (h hv : Nat) (x y dp q ex ey ea ed lw : Int32) (p0 p1 : Int32) : Met l y_C_admits w_C_admits ({ frames := 1, cells := 0, slots := 0, locals := 24 }) (va_Pc [.ref h, .int p0, .int p1] (PP dC dI [] [(h, .inr (0, [.int x, .int y, .int dp, .int q, .ref hv, .int ex, .int ey, .int ea, .int ed, .int lw]))])) (vp_Si (fun r : Int32 => r = er_b (decide (lw.toInt64 ≤ er_wt ex ey ea ed p0 p1)))) 0 0 (fun _ => False) := by
  refine Met.ofW (cc := b_C_admits) (maxL := 3) (ret := (some .boolean)) (by decide +kernel) rfl ?_
  intro p e s m args below meth c s₁ B hml hv
  obtain ⟨rfl, hN, hK, hP⟩ := hv
  have hx := B.exec
  have hb := B.bytes
  have hr := B.returns
  have hts := er_hts (atoms_spec (ws := w_C_admits) B.pre)
  have hown : s.vm.findClass R_C = some m.cls := findClass_of_methodNamed B.named
  have hlocks := B.notSynchronized
  have hP : va_P (dC, dI) classes [(h, .inr (0, [.int x, .int y, .int dp, .int q, .ref hv, .int ex, .int ey, .int ea, .int ed, .int lw]))] s.heap := hP
  have hl := lv_entry ([.ref h, .int p0, .int p1]) (n := 3) (Nat.le_of_ble_eq_true rfl)
  rw [lg_entry_eq]
  generalize (lg_sl ([.ref h, .int p0, .int p1]) ++ List.replicate (3 - (lg_sl ([.ref h, .int p0, .int p1])).length) Slot.unset).toArray = ls at hl ⊢
  have hl : lv_has ls 3 [(0, .ref h), (1, .int p0), (2, .int p1)] := hl
  refine lv_aload_n hx hb d_C_admits_0 rfl (lv_at hl 0 rfl) ?_
  refine lv_iload_n hx hb d_C_admits_1 rfl (lv_at hl 1 rfl) ?_
  refine lv_iload_n hx hb d_C_admits_2 rfl (lv_at hl 2 rfl) ?_
  have hPc := hP.sub (ws' := [(h, .inr (0, [.int x, .int y, .int dp, .int q, .ref hv, .int ex, .int ey, .int ea, .int ed, .int lw]))]) [0] rfl
  have hKc := hK.sub (tys' := []) [] rfl
  refine vp_callSl (va_runV (As := [.int p0, .int p1]) (rest := []) ⟨hx, hb, hml, hown, hts⟩ (c_C_weightAt l dC dI h hv x y dp q ex ey ea ed lw p0 p1) (cwV 2 hts (er_gV k_122 k_123 k_2 k_19 k_124) rfl rfl rfl (by decide +kernel) ⟨Nat.le_of_ble_eq_true rfl, Nat.le_of_ble_eq_true rfl⟩) ⟨PP.blind, va_recv hKc hPc (ci := 0) (q0 := 0) rfl rfl, PP.at hN hKc hPc⟩ rfl rfl hl.1 rfl (lv_room (Nat.le_of_ble_eq_true rfl)) d_C_admits_3 ⟨Nat.zero_le _, Nat.zero_le _⟩).run (fun r_1 hr_1 => ?_)
  obtain rfl : er_wt ex ey ea ed p0 p1 = r_1 := Eq.symm hr_1
  refine lv_aload_n hx hb d_C_admits_6 rfl (lv_at hl 0 rfl) ?_
  refine va_get (D := (dC, dI)) (ci := 0) (v := .int lw) (C := R_C) (T := F_C) (N := 10) hx hb hts i_C hown hK hP 0 rfl rfl 9 (by decide) (hts _ k_49) (fun _ h9 => h9) rfl d_C_admits_7 ?_
  refine lv_i2l (v := lw.toInt64) hx hb d_C_admits_10 rfl ?_
  refine W.lcmp hx hb d_C_admits_11 ?_
  refine lv_if_lt (tgt := 19) hx hb d_C_admits_12 (by decide) (fun c_2 => ?_) (fun c_2 => ?_)
  · rw [lg_cmp_lt] at c_2
    refine lv_iconst (v := 0) hx hb d_C_admits_19 (by decide) ?_
    exact W.zret (v := 0) (ty := .boolean) hx hb hr (by decide) (fun u9 ht hW => ⟨_, rfl, er_adm0 c_2, ht⟩) (fun q hq => by cases hq) d_C_admits_20
  · rw [lg_cmp_lt] at c_2
    refine lv_iconst (v := 1) hx hb d_C_admits_15 (by decide) ?_
    refine lv_goto (tgt := 20) hx hb d_C_admits_16 (by decide) ?_
    exact W.zret (v := 1) (ty := .boolean) hx hb hr (by decide) (fun u9 ht hW => ⟨_, rfl, er_adm1 c_2, ht⟩) (fun q hq => by cases hq) d_C_admits_20
end
section
set_option maxHeartbeats 1000000 in
set_option maxRecDepth 100000 in
theorem c_E_within (l : Launch) (dC : Nat → ClassId) (dI : Nat → Nat → Nat) (p0 p1 p2 : Int32) : Met l y_E_within w_E_within ({ frames := 0, cells := 0, slots := 0, locals := 0 }) (va_Pc [.int p0, .int p1, .int p2] (PP dC dI [] [])) (vp_Si (fun r : Int32 => r = er_b (er_win p0 p1 p2))) 0 0 (fun _ => False) := by
  refine Met.ofW (cc := b_E_within) (maxL := 3) (ret := (some .boolean)) (by decide +kernel) rfl ?_
  intro p e s m args below meth c s₁ B hml hv
  obtain ⟨rfl, hN, hK, hP⟩ := hv
  have hx := B.exec
  have hb := B.bytes
  have hr := B.returns
  have hts := er_hts (atoms_spec (ws := w_E_within) B.pre)
  have hown : s.vm.findClass R_E = some m.cls := findClass_of_methodNamed B.named
  have hlocks := B.notSynchronized
  have hP : va_P (dC, dI) classes [] s.heap := hP
  have hl := lv_entry ([.int p0, .int p1, .int p2]) (n := 3) (Nat.le_of_ble_eq_true rfl)
  rw [lg_entry_eq]
  generalize (lg_sl ([.int p0, .int p1, .int p2]) ++ List.replicate (3 - (lg_sl ([.int p0, .int p1, .int p2])).length) Slot.unset).toArray = ls at hl ⊢
  have hl : lv_has ls 3 [(0, .int p0), (1, .int p1), (2, .int p2)] := hl
  refine lv_iload_n hx hb d_E_within_0 rfl (lv_at hl 0 rfl) ?_
  refine lv_iload_n hx hb d_E_within_1 rfl (lv_at hl 1 rfl) ?_
  refine lv_icmp_lt (tgt := 14) hx hb d_E_within_2 (by decide) (fun c_1 => ?_) (fun c_1 => ?_)
  · refine lv_iconst (v := 0) hx hb d_E_within_14 (by decide) ?_
    exact W.zret (v := 0) (ty := .boolean) hx hb hr (by decide) (fun u9 ht hW => ⟨_, rfl, (by simp_all [er_win, er_b]), ht⟩) (fun q hq => by cases hq) d_E_within_15
  · refine lv_iload_n hx hb d_E_within_5 rfl (lv_at hl 0 rfl) ?_
    refine lv_iload_n hx hb d_E_within_6 rfl (lv_at hl 2 rfl) ?_
    refine lv_icmp_gt (tgt := 14) hx hb d_E_within_7 (by decide) (fun c_2 => ?_) (fun c_2 => ?_)
    · refine lv_iconst (v := 0) hx hb d_E_within_14 (by decide) ?_
      exact W.zret (v := 0) (ty := .boolean) hx hb hr (by decide) (fun u9 ht hW => ⟨_, rfl, (by simp_all [er_win, er_b]), ht⟩) (fun q hq => by cases hq) d_E_within_15
    · refine lv_iconst (v := 1) hx hb d_E_within_10 (by decide) ?_
      refine lv_goto (tgt := 15) hx hb d_E_within_11 (by decide) ?_
      exact W.zret (v := 1) (ty := .boolean) hx hb hr (by decide) (fun u9 ht hW => ⟨_, rfl, (by simp_all [er_win, er_b]), ht⟩) (fun q hq => by cases hq) d_E_within_15

set_option maxHeartbeats 1000000 in
set_option maxRecDepth 100000 in
theorem c_E_isCorner (l : Launch) (dC : Nat → ClassId) (dI : Nat → Nat → Nat) (p0 : Int32) : Met l y_E_isCorner w_E_isCorner ({ frames := 1, cells := 0, slots := 0, locals := 22 }) (va_Pc [.int p0] (PP dC dI [] [])) (vp_Si (fun r : Int32 => r = er_b (er_win p0 0 2))) 0 0 (fun _ => False) := by
  refine Met.ofW (cc := b_E_isCorner) (maxL := 1) (ret := (some .boolean)) (by decide +kernel) rfl ?_
  intro p e s m args below meth c s₁ B hml hv
  obtain ⟨rfl, hN, hK, hP⟩ := hv
  have hx := B.exec
  have hb := B.bytes
  have hr := B.returns
  have hts := er_hts (atoms_spec (ws := w_E_isCorner) B.pre)
  have hown : s.vm.findClass R_E = some m.cls := findClass_of_methodNamed B.named
  have hlocks := B.notSynchronized
  have hP : va_P (dC, dI) classes [] s.heap := hP
  have hl := lv_entry ([.int p0]) (n := 1) (Nat.le_of_ble_eq_true rfl)
  rw [lg_entry_eq]
  generalize (lg_sl ([.int p0]) ++ List.replicate (1 - (lg_sl ([.int p0])).length) Slot.unset).toArray = ls at hl ⊢
  have hl : lv_has ls 1 [(0, .int p0)] := hl
  refine lv_iload_n hx hb d_E_isCorner_0 rfl (lv_at hl 0 rfl) ?_
  refine lv_iconst (v := 0) hx hb d_E_isCorner_1 (by decide) ?_
  refine lv_iconst (v := 2) hx hb d_E_isCorner_2 (by decide) ?_
  have hPc := hP.sub (ws' := []) [] rfl
  have hKc := hK.sub (tys' := []) [] rfl
  refine vp_callSi (va_runS (As := [.int p0, .int 0, .int 2]) (rest := []) ⟨hx, hb, hml, hown, hts⟩ (c_E_within l dC dI p0 0 2) (va_cwS 3 hts (er_gS k_140 k_141 k_18 k_142) rfl rfl rfl (by decide +kernel) ⟨Nat.le_of_ble_eq_true rfl, Nat.le_of_ble_eq_true rfl⟩) ⟨PP.blind, PP.at hN hKc hPc⟩ rfl rfl hl.1 rfl (lv_room (Nat.le_of_ble_eq_true rfl)) d_E_isCorner_3 ⟨Nat.zero_le _, Nat.zero_le _⟩).run (fun r_1 hr_1 => ?_)
  obtain rfl : er_b (er_win p0 0 2) = r_1 := Eq.symm hr_1
  exact W.zret (v := er_b (er_win p0 0 2)) (ty := .boolean) hx hb hr (er_b_nar _) (fun u9 ht hW => ⟨_, rfl, rfl, ht⟩) (fun q hq => by cases hq) d_E_isCorner_6

set_option maxHeartbeats 1000000 in
set_option maxRecDepth 100000 in
theorem c_E_isValue (l : Launch) (dC : Nat → ClassId) (dI : Nat → Nat → Nat) (p0 : Int32) : Met l y_E_isValue w_E_isValue ({ frames := 1, cells := 0, slots := 0, locals := 22 }) (va_Pc [.int p0] (PP dC dI [] [])) (vp_Si (fun r : Int32 => r = er_b (er_win p0 0 27))) 0 0 (fun _ => False) := by
  refine Met.ofW (cc := b_E_isValue) (maxL := 1) (ret := (some .boolean)) (by decide +kernel) rfl ?_
  intro p e s m args below meth c s₁ B hml hv
  obtain ⟨rfl, hN, hK, hP⟩ := hv
  have hx := B.exec
  have hb := B.bytes
  have hr := B.returns
  have hts := er_hts (atoms_spec (ws := w_E_isValue) B.pre)
  have hown : s.vm.findClass R_E = some m.cls := findClass_of_methodNamed B.named
  have hlocks := B.notSynchronized
  have hP : va_P (dC, dI) classes [] s.heap := hP
  have hl := lv_entry ([.int p0]) (n := 1) (Nat.le_of_ble_eq_true rfl)
  rw [lg_entry_eq]
  generalize (lg_sl ([.int p0]) ++ List.replicate (1 - (lg_sl ([.int p0])).length) Slot.unset).toArray = ls at hl ⊢
  have hl : lv_has ls 1 [(0, .int p0)] := hl
  refine lv_iload_n hx hb d_E_isValue_0 rfl (lv_at hl 0 rfl) ?_
  refine lv_iconst (v := 0) hx hb d_E_isValue_1 (by decide) ?_
  refine lv_bipush (v := 27) hx hb d_E_isValue_2 (by decide) ?_
  have hPc := hP.sub (ws' := []) [] rfl
  have hKc := hK.sub (tys' := []) [] rfl
  refine vp_callSi (va_runS (As := [.int p0, .int 0, .int 27]) (rest := []) ⟨hx, hb, hml, hown, hts⟩ (c_E_within l dC dI p0 0 27) (va_cwS 3 hts (er_gS k_140 k_141 k_18 k_142) rfl rfl rfl (by decide +kernel) ⟨Nat.le_of_ble_eq_true rfl, Nat.le_of_ble_eq_true rfl⟩) ⟨PP.blind, PP.at hN hKc hPc⟩ rfl rfl hl.1 rfl (lv_room (Nat.le_of_ble_eq_true rfl)) d_E_isValue_4 ⟨Nat.zero_le _, Nat.zero_le _⟩).run (fun r_1 hr_1 => ?_)
  obtain rfl : er_b (er_win p0 0 27) = r_1 := Eq.symm hr_1
  exact W.zret (v := er_b (er_win p0 0 27)) (ty := .boolean) hx hb hr (er_b_nar _) (fun u9 ht hW => ⟨_, rfl, rfl, ht⟩) (fun q hq => by cases hq) d_E_isValue_7

set_option maxHeartbeats 1000000 in
set_option maxRecDepth 100000 in
theorem c_E_area (l : Launch) (dC : Nat → ClassId) (dI : Nat → Nat → Nat) (h0 h1 h2 h3 : Nat) (ar : Int64) (wx wy ww wh wk on lx ly : Int32) : Met l y_E_area w_E_area ({ frames := 0, cells := 0, slots := 0, locals := 0 }) (va_Pc [.ref h0] (PP dC dI [] [(h0, .inr (1, [.ref h1, .ref h2, .ref h3, .long ar, .int wx, .int wy, .int ww, .int wh, .int wk, .int on, .int lx, .int ly]))])) (vp_Sl (fun r : Int64 => r = ar)) 0 0 (fun _ => False) := by
  refine Met.ofW (cc := b_E_area) (maxL := 1) (ret := (some .long)) (by decide +kernel) rfl ?_
  intro p e s m args below meth c s₁ B hml hv
  obtain ⟨rfl, hN, hK, hP⟩ := hv
  have hx := B.exec
  have hb := B.bytes
  have hr := B.returns
  have hts := er_hts (atoms_spec (ws := w_E_area) B.pre)
  have hown : s.vm.findClass R_E = some m.cls := findClass_of_methodNamed B.named
  have hlocks := B.notSynchronized
  have hP : va_P (dC, dI) classes [(h0, .inr (1, [.ref h1, .ref h2, .ref h3, .long ar, .int wx, .int wy, .int ww, .int wh, .int wk, .int on, .int lx, .int ly]))] s.heap := hP
  have hl := lv_entry ([.ref h0]) (n := 1) (Nat.le_of_ble_eq_true rfl)
  rw [lg_entry_eq]
  generalize (lg_sl ([.ref h0]) ++ List.replicate (1 - (lg_sl ([.ref h0])).length) Slot.unset).toArray = ls at hl ⊢
  have hl : lv_has ls 1 [(0, .ref h0)] := hl
  refine lv_aload_n hx hb d_E_area_0 rfl (lv_at hl 0 rfl) ?_
  refine va_get (D := (dC, dI)) (ci := 1) (v := .long ar) (C := R_E) (T := F_E) (N := 12) hx hb hts i_E hown hK hP 0 rfl rfl 3 (by decide) (hts _ k_75) (fun _ h9 => h9) rfl d_E_area_1 ?_
  exact W.lret (v := ar) hx hb hr (fun u9 ht hW => ⟨_, rfl, rfl, ht⟩) (fun q hq => by cases hq) d_E_area_4

set_option maxHeartbeats 1000000 in
set_option maxRecDepth 100000 in
theorem c_E_cornerOf0 (l : Launch) (dC : Nat → ClassId) (dI : Nat → Nat → Nat) (h0 h1 h2 h3 : Nat) (ar : Int64) (wx wy ww wh wk on lx ly : Int32) : Met l y_E_cornerOf w_E_cornerOf ({ frames := 0, cells := 0, slots := 0, locals := 0 }) (va_Pc [.ref h0, .int 0] (PP dC dI [] [(h0, .inr (1, [.ref h1, .ref h2, .ref h3, .long ar, .int wx, .int wy, .int ww, .int wh, .int wk, .int on, .int lx, .int ly]))])) (va_Sr (fun r : Nat => r = h1) (fun r => .ref r)) 0 0 (fun _ => False) := by
  refine Met.ofW (cc := b_E_cornerOf) (maxL := 2) (ret := (some (.object "EdgeRaster$Corner"))) (by decide +kernel) rfl ?_
  intro p e s m args below meth c s₁ B hml hv
  obtain ⟨rfl, hN, hK, hP⟩ := hv
  have hx := B.exec
  have hb := B.bytes
  have hr := B.returns
  have hts := er_hts (atoms_spec (ws := w_E_cornerOf) B.pre)
  have hown : s.vm.findClass R_E = some m.cls := findClass_of_methodNamed B.named
  have hlocks := B.notSynchronized
  have hP : va_P (dC, dI) classes [(h0, .inr (1, [.ref h1, .ref h2, .ref h3, .long ar, .int wx, .int wy, .int ww, .int wh, .int wk, .int on, .int lx, .int ly]))] s.heap := hP
  have hl := lv_entry ([.ref h0, .int 0]) (n := 2) (Nat.le_of_ble_eq_true rfl)
  rw [lg_entry_eq]
  generalize (lg_sl ([.ref h0, .int 0]) ++ List.replicate (2 - (lg_sl ([.ref h0, .int 0])).length) Slot.unset).toArray = ls at hl ⊢
  have hl : lv_has ls 2 [(0, .ref h0), (1, .int 0)] := hl
  refine lv_iload_n hx hb d_E_cornerOf_0 rfl (lv_at hl 1 rfl) ?_
  refine lv_if_ne (tgt := 9) hx hb d_E_cornerOf_1 (by decide) (fun c_1 => absurd c_1 (by decide)) (fun _ => ?_)
  refine lv_aload_n hx hb d_E_cornerOf_4 rfl (lv_at hl 0 rfl) ?_
  refine va_get (D := (dC, dI)) (ci := 1) (v := .ref h1) (C := R_E) (T := F_E) (N := 12) hx hb hts i_E hown hK hP 0 rfl rfl 0 (by decide) (hts _ k_72) (fun _ h9 => h9) rfl d_E_cornerOf_5 ?_
  exact W.aret (v := .ref h1) (rt := .object "EdgeRaster$Corner") hx hb hr (Or.inl ⟨_, rfl⟩) (Or.inr ⟨_, rfl⟩) (fun u9 ht hW => ⟨h1, rfl, rfl, ht⟩) (fun q hq => by cases hq) d_E_cornerOf_8

set_option maxHeartbeats 1000000 in
set_option maxRecDepth 100000 in
theorem c_E_cornerOf1 (l : Launch) (dC : Nat → ClassId) (dI : Nat → Nat → Nat) (h0 h1 h2 h3 : Nat) (ar : Int64) (wx wy ww wh wk on lx ly : Int32) : Met l y_E_cornerOf w_E_cornerOf ({ frames := 0, cells := 0, slots := 0, locals := 0 }) (va_Pc [.ref h0, .int 1] (PP dC dI [] [(h0, .inr (1, [.ref h1, .ref h2, .ref h3, .long ar, .int wx, .int wy, .int ww, .int wh, .int wk, .int on, .int lx, .int ly]))])) (va_Sr (fun r : Nat => r = h2) (fun r => .ref r)) 0 0 (fun _ => False) := by
  refine Met.ofW (cc := b_E_cornerOf) (maxL := 2) (ret := (some (.object "EdgeRaster$Corner"))) (by decide +kernel) rfl ?_
  intro p e s m args below meth c s₁ B hml hv
  obtain ⟨rfl, hN, hK, hP⟩ := hv
  have hx := B.exec
  have hb := B.bytes
  have hr := B.returns
  have hts := er_hts (atoms_spec (ws := w_E_cornerOf) B.pre)
  have hown : s.vm.findClass R_E = some m.cls := findClass_of_methodNamed B.named
  have hlocks := B.notSynchronized
  have hP : va_P (dC, dI) classes [(h0, .inr (1, [.ref h1, .ref h2, .ref h3, .long ar, .int wx, .int wy, .int ww, .int wh, .int wk, .int on, .int lx, .int ly]))] s.heap := hP
  have hl := lv_entry ([.ref h0, .int 1]) (n := 2) (Nat.le_of_ble_eq_true rfl)
  rw [lg_entry_eq]
  generalize (lg_sl ([.ref h0, .int 1]) ++ List.replicate (2 - (lg_sl ([.ref h0, .int 1])).length) Slot.unset).toArray = ls at hl ⊢
  have hl : lv_has ls 2 [(0, .ref h0), (1, .int 1)] := hl
  refine lv_iload_n hx hb d_E_cornerOf_0 rfl (lv_at hl 1 rfl) ?_
  refine lv_if_ne (tgt := 9) hx hb d_E_cornerOf_1 (by decide) (fun _ => ?_) (fun c_1 => absurd c_1 (by decide))
  refine lv_iload_n hx hb d_E_cornerOf_9 rfl (lv_at hl 1 rfl) ?_
  refine lv_iconst (v := 1) hx hb d_E_cornerOf_10 (by decide) ?_
  refine lv_icmp_ne (tgt := 21) hx hb d_E_cornerOf_11 (by decide) (fun c_2 => absurd c_2 (by decide)) (fun _ => ?_)
  refine lv_aload_n hx hb d_E_cornerOf_14 rfl (lv_at hl 0 rfl) ?_
  refine va_get (D := (dC, dI)) (ci := 1) (v := .ref h2) (C := R_E) (T := F_E) (N := 12) hx hb hts i_E hown hK hP 0 rfl rfl 1 (by decide) (hts _ k_73) (fun _ h9 => h9) rfl d_E_cornerOf_15 ?_
  refine lv_goto (tgt := 25) hx hb d_E_cornerOf_18 (by decide) ?_
  exact W.aret (v := .ref h2) (rt := .object "EdgeRaster$Corner") hx hb hr (Or.inl ⟨_, rfl⟩) (Or.inr ⟨_, rfl⟩) (fun u9 ht hW => ⟨h2, rfl, rfl, ht⟩) (fun q hq => by cases hq) d_E_cornerOf_25

set_option maxHeartbeats 1000000 in
set_option maxRecDepth 100000 in
theorem c_E_cornerOf2 (l : Launch) (dC : Nat → ClassId) (dI : Nat → Nat → Nat) (h0 h1 h2 h3 : Nat) (ar : Int64) (wx wy ww wh wk on lx ly : Int32) : Met l y_E_cornerOf w_E_cornerOf ({ frames := 0, cells := 0, slots := 0, locals := 0 }) (va_Pc [.ref h0, .int 2] (PP dC dI [] [(h0, .inr (1, [.ref h1, .ref h2, .ref h3, .long ar, .int wx, .int wy, .int ww, .int wh, .int wk, .int on, .int lx, .int ly]))])) (va_Sr (fun r : Nat => r = h3) (fun r => .ref r)) 0 0 (fun _ => False) := by
  refine Met.ofW (cc := b_E_cornerOf) (maxL := 2) (ret := (some (.object "EdgeRaster$Corner"))) (by decide +kernel) rfl ?_
  intro p e s m args below meth c s₁ B hml hv
  obtain ⟨rfl, hN, hK, hP⟩ := hv
  have hx := B.exec
  have hb := B.bytes
  have hr := B.returns
  have hts := er_hts (atoms_spec (ws := w_E_cornerOf) B.pre)
  have hown : s.vm.findClass R_E = some m.cls := findClass_of_methodNamed B.named
  have hlocks := B.notSynchronized
  have hP : va_P (dC, dI) classes [(h0, .inr (1, [.ref h1, .ref h2, .ref h3, .long ar, .int wx, .int wy, .int ww, .int wh, .int wk, .int on, .int lx, .int ly]))] s.heap := hP
  have hl := lv_entry ([.ref h0, .int 2]) (n := 2) (Nat.le_of_ble_eq_true rfl)
  rw [lg_entry_eq]
  generalize (lg_sl ([.ref h0, .int 2]) ++ List.replicate (2 - (lg_sl ([.ref h0, .int 2])).length) Slot.unset).toArray = ls at hl ⊢
  have hl : lv_has ls 2 [(0, .ref h0), (1, .int 2)] := hl
  refine lv_iload_n hx hb d_E_cornerOf_0 rfl (lv_at hl 1 rfl) ?_
  refine lv_if_ne (tgt := 9) hx hb d_E_cornerOf_1 (by decide) (fun _ => ?_) (fun c_1 => absurd c_1 (by decide))
  refine lv_iload_n hx hb d_E_cornerOf_9 rfl (lv_at hl 1 rfl) ?_
  refine lv_iconst (v := 1) hx hb d_E_cornerOf_10 (by decide) ?_
  refine lv_icmp_ne (tgt := 21) hx hb d_E_cornerOf_11 (by decide) (fun _ => ?_) (fun c_2 => absurd c_2 (by decide))
  refine lv_aload_n hx hb d_E_cornerOf_21 rfl (lv_at hl 0 rfl) ?_
  refine va_get (D := (dC, dI)) (ci := 1) (v := .ref h3) (C := R_E) (T := F_E) (N := 12) hx hb hts i_E hown hK hP 0 rfl rfl 2 (by decide) (hts _ k_74) (fun _ h9 => h9) rfl d_E_cornerOf_22 ?_
  exact W.aret (v := .ref h3) (rt := .object "EdgeRaster$Corner") hx hb hr (Or.inl ⟨_, rfl⟩) (Or.inr ⟨_, rfl⟩) (fun u9 ht hW => ⟨h3, rfl, rfl, ht⟩) (fun q hq => by cases hq) d_E_cornerOf_25

set_option maxHeartbeats 1000000 in
set_option maxRecDepth 100000 in
theorem c_E_isCovered (l : Launch) (dC : Nat → ClassId) (dI : Nat → Nat → Nat) (h0 h1 h2 h3 v0 v1 v2 : Nat) (X Y D Q : Nat → Int32) (wx wy ww wh wk on lx ly : Int32) (p0 p1 : Int32) : Met l y_E_isCovered w_E_isCovered ({ frames := 2, cells := 0, slots := 0, locals := 46 }) (va_Pc [.ref h0, .int p0, .int p1] (PP dC dI [] [(h0, .inr (1, [.ref h1, .ref h2, .ref h3, .long (er_ar X Y), .int wx, .int wy, .int ww, .int wh, .int wk, .int on, .int lx, .int ly])), (h1, .inr (0, [.int (X 0), .int (Y 0), .int (D 0), .int (Q 0), .ref v0, .int (er_ex X Y 0), .int (er_ey X Y 0), .int (er_ea X Y 0), .int (er_ed X Y 0), .int (er_lw (er_ea X Y 0) (er_ed X Y 0))])), (h2, .inr (0, [.int (X 1), .int (Y 1), .int (D 1), .int (Q 1), .ref v1, .int (er_ex X Y 1), .int (er_ey X Y 1), .int (er_ea X Y 1), .int (er_ed X Y 1), .int (er_lw (er_ea X Y 1) (er_ed X Y 1))])), (h3, .inr (0, [.int (X 2), .int (Y 2), .int (D 2), .int (Q 2), .ref v2, .int (er_ex X Y 2), .int (er_ey X Y 2), .int (er_ea X Y 2), .int (er_ed X Y 2), .int (er_lw (er_ea X Y 2) (er_ed X Y 2))]))])) (vp_Si (fun r : Int32 => r = er_b (er_cov X Y p0 p1))) 0 0 (fun _ => False) := by
  refine Met.ofW (cc := b_E_isCovered) (maxL := 3) (ret := (some .boolean)) (by decide +kernel) rfl ?_
  intro p e s m args below meth c s₁ B hml hv
  obtain ⟨rfl, hN, hK, hP⟩ := hv
  have hx := B.exec
  have hb := B.bytes
  have hr := B.returns
  have hts := er_hts (atoms_spec (ws := w_E_isCovered) B.pre)
  have hown : s.vm.findClass R_E = some m.cls := findClass_of_methodNamed B.named
  have hlocks := B.notSynchronized
  have hP : va_P (dC, dI) classes [(h0, .inr (1, [.ref h1, .ref h2, .ref h3, .long (er_ar X Y), .int wx, .int wy, .int ww, .int wh, .int wk, .int on, .int lx, .int ly])), (h1, .inr (0, [.int (X 0), .int (Y 0), .int (D 0), .int (Q 0), .ref v0, .int (er_ex X Y 0), .int (er_ey X Y 0), .int (er_ea X Y 0), .int (er_ed X Y 0), .int (er_lw (er_ea X Y 0) (er_ed X Y 0))])), (h2, .inr (0, [.int (X 1), .int (Y 1), .int (D 1), .int (Q 1), .ref v1, .int (er_ex X Y 1), .int (er_ey X Y 1), .int (er_ea X Y 1), .int (er_ed X Y 1), .int (er_lw (er_ea X Y 1) (er_ed X Y 1))])), (h3, .inr (0, [.int (X 2), .int (Y 2), .int (D 2), .int (Q 2), .ref v2, .int (er_ex X Y 2), .int (er_ey X Y 2), .int (er_ea X Y 2), .int (er_ed X Y 2), .int (er_lw (er_ea X Y 2) (er_ed X Y 2))]))] s.heap := hP
  have hl := lv_entry ([.ref h0, .int p0, .int p1]) (n := 3) (Nat.le_of_ble_eq_true rfl)
  rw [lg_entry_eq]
  generalize (lg_sl ([.ref h0, .int p0, .int p1]) ++ List.replicate (3 - (lg_sl ([.ref h0, .int p0, .int p1])).length) Slot.unset).toArray = ls at hl ⊢
  have hl : lv_has ls 3 [(0, .ref h0), (1, .int p0), (2, .int p1)] := hl
  refine lv_aload_n hx hb d_E_isCovered_0 rfl (lv_at hl 0 rfl) ?_
  refine va_get (D := (dC, dI)) (ci := 1) (v := .long (er_ar X Y)) (C := R_E) (T := F_E) (N := 12) hx hb hts i_E hown hK hP 0 rfl rfl 3 (by decide) (hts _ k_75) (fun _ h9 => h9) rfl d_E_isCovered_1 ?_
  refine lv_lconst (v := 0) hx hb d_E_isCovered_4 (by decide) ?_
  refine W.lcmp hx hb d_E_isCovered_5 ?_
  refine lv_if_eq (tgt := 49) hx hb d_E_isCovered_6 (by decide) (fun c_1 => ?_) (fun c_1 => ?_)
  · rw [lg_cmp_eq] at c_1
    refine lv_iconst (v := 0) hx hb d_E_isCovered_49 (by decide) ?_
    exact W.zret (v := 0) (ty := .boolean) hx hb hr (by decide) (fun u9 ht hW => ⟨_, rfl, (er_c0 c_1), ht⟩) (fun q hq => by cases hq) d_E_isCovered_50
  · rw [lg_cmp_eq] at c_1
    refine lv_aload_n hx hb d_E_isCovered_9 rfl (lv_at hl 0 rfl) ?_
    refine va_get (D := (dC, dI)) (ci := 1) (v := .ref h1) (C := R_E) (T := F_E) (N := 12) hx hb hts i_E hown hK hP 0 rfl rfl 0 (by decide) (hts _ k_72) (fun _ h9 => h9) rfl d_E_isCovered_10 ?_
    refine lv_iload_n hx hb d_E_isCovered_13 rfl (lv_at hl 1 rfl) ?_
    refine lv_iload_n hx hb d_E_isCovered_14 rfl (lv_at hl 2 rfl) ?_
    have hPc := hP.sub (ws' := [(h1, .inr (0, [.int (X 0), .int (Y 0), .int (D 0), .int (Q 0), .ref v0, .int (er_ex X Y 0), .int (er_ey X Y 0), .int (er_ea X Y 0), .int (er_ed X Y 0), .int (er_lw (er_ea X Y 0) (er_ed X Y 0))]))]) [1] rfl
    have hKc := hK.sub (tys' := []) [] rfl
    refine vp_callSi (va_runVN (As := [.int p0, .int p1]) (rest := []) ⟨hx, hb, hml, hown, hts⟩ (c_C_admits l dC dI h1 v0 (X 0) (Y 0) (D 0) (Q 0) (er_ex X Y 0) (er_ey X Y 0) (er_ea X Y 0) (er_ed X Y 0) (er_lw (er_ea X Y 0) (er_ed X Y 0)) p0 p1) ⟨va_cnB 2 hts (er_gB k_121) rfl rfl rfl (hN _ kn_6) (hts _ k_19) (by decide +kernel) ⟨Nat.le_of_ble_eq_true rfl, Nat.le_of_ble_eq_true rfl⟩, hts _ k_120, hts _ k_1⟩ ⟨PP.blind, va_recv hKc hPc (ci := 0) (q0 := 0) rfl rfl, PP.at hN hKc hPc⟩ rfl rfl hl.1 rfl (lv_room (Nat.le_of_ble_eq_true rfl)) d_E_isCovered_15 ⟨Nat.zero_le _, Nat.zero_le _⟩).run (fun r_2 hr_2 => ?_)
    obtain rfl : er_b (decide ((er_lw (er_ea X Y 0) (er_ed X Y 0)).toInt64 ≤ er_wt (er_ex X Y 0) (er_ey X Y 0) (er_ea X Y 0) (er_ed X Y 0) p0 p1)) = r_2 := Eq.symm hr_2
    refine lv_if_eq (tgt := 49) hx hb d_E_isCovered_18 (by decide) (fun c_3 => ?_) (fun c_3 => ?_)
    · have c_3 := er_b_0.mp c_3
      refine lv_iconst (v := 0) hx hb d_E_isCovered_49 (by decide) ?_
      exact W.zret (v := 0) (ty := .boolean) hx hb hr (by decide) (fun u9 ht hW => ⟨_, rfl, (er_c1 c_3), ht⟩) (fun q hq => by cases hq) d_E_isCovered_50
    · have c_3 := er_b_n.mp c_3
      refine lv_aload_n hx hb d_E_isCovered_21 rfl (lv_at hl 0 rfl) ?_
      refine va_get (D := (dC, dI)) (ci := 1) (v := .ref h2) (C := R_E) (T := F_E) (N := 12) hx hb hts i_E hown hK hP 0 rfl rfl 1 (by decide) (hts _ k_73) (fun _ h9 => h9) rfl d_E_isCovered_22 ?_
      refine lv_iload_n hx hb d_E_isCovered_25 rfl (lv_at hl 1 rfl) ?_
      refine lv_iload_n hx hb d_E_isCovered_26 rfl (lv_at hl 2 rfl) ?_
      have hPc := hP.sub (ws' := [(h2, .inr (0, [.int (X 1), .int (Y 1), .int (D 1), .int (Q 1), .ref v1, .int (er_ex X Y 1), .int (er_ey X Y 1), .int (er_ea X Y 1), .int (er_ed X Y 1), .int (er_lw (er_ea X Y 1) (er_ed X Y 1))]))]) [2] rfl
      have hKc := hK.sub (tys' := []) [] rfl
      refine vp_callSi (va_runVN (As := [.int p0, .int p1]) (rest := []) ⟨hx, hb, hml, hown, hts⟩ (c_C_admits l dC dI h2 v1 (X 1) (Y 1) (D 1) (Q 1) (er_ex X Y 1) (er_ey X Y 1) (er_ea X Y 1) (er_ed X Y 1) (er_lw (er_ea X Y 1) (er_ed X Y 1)) p0 p1) ⟨va_cnB 2 hts (er_gB k_121) rfl rfl rfl (hN _ kn_6) (hts _ k_19) (by decide +kernel) ⟨Nat.le_of_ble_eq_true rfl, Nat.le_of_ble_eq_true rfl⟩, hts _ k_120, hts _ k_1⟩ ⟨PP.blind, va_recv hKc hPc (ci := 0) (q0 := 0) rfl rfl, PP.at hN hKc hPc⟩ rfl rfl hl.1 rfl (lv_room (Nat.le_of_ble_eq_true rfl)) d_E_isCovered_27 ⟨Nat.zero_le _, Nat.zero_le _⟩).run (fun r_4 hr_4 => ?_)
      obtain rfl : er_b (decide ((er_lw (er_ea X Y 1) (er_ed X Y 1)).toInt64 ≤ er_wt (er_ex X Y 1) (er_ey X Y 1) (er_ea X Y 1) (er_ed X Y 1) p0 p1)) = r_4 := Eq.symm hr_4
      refine lv_if_eq (tgt := 49) hx hb d_E_isCovered_30 (by decide) (fun c_5 => ?_) (fun c_5 => ?_)
      · have c_5 := er_b_0.mp c_5
        refine lv_iconst (v := 0) hx hb d_E_isCovered_49 (by decide) ?_
        exact W.zret (v := 0) (ty := .boolean) hx hb hr (by decide) (fun u9 ht hW => ⟨_, rfl, (er_c2 c_5), ht⟩) (fun q hq => by cases hq) d_E_isCovered_50
      · have c_5 := er_b_n.mp c_5
        refine lv_aload_n hx hb d_E_isCovered_33 rfl (lv_at hl 0 rfl) ?_
        refine va_get (D := (dC, dI)) (ci := 1) (v := .ref h3) (C := R_E) (T := F_E) (N := 12) hx hb hts i_E hown hK hP 0 rfl rfl 2 (by decide) (hts _ k_74) (fun _ h9 => h9) rfl d_E_isCovered_34 ?_
        refine lv_iload_n hx hb d_E_isCovered_37 rfl (lv_at hl 1 rfl) ?_
        refine lv_iload_n hx hb d_E_isCovered_38 rfl (lv_at hl 2 rfl) ?_
        have hPc := hP.sub (ws' := [(h3, .inr (0, [.int (X 2), .int (Y 2), .int (D 2), .int (Q 2), .ref v2, .int (er_ex X Y 2), .int (er_ey X Y 2), .int (er_ea X Y 2), .int (er_ed X Y 2), .int (er_lw (er_ea X Y 2) (er_ed X Y 2))]))]) [3] rfl
        have hKc := hK.sub (tys' := []) [] rfl
        refine vp_callSi (va_runVN (As := [.int p0, .int p1]) (rest := []) ⟨hx, hb, hml, hown, hts⟩ (c_C_admits l dC dI h3 v2 (X 2) (Y 2) (D 2) (Q 2) (er_ex X Y 2) (er_ey X Y 2) (er_ea X Y 2) (er_ed X Y 2) (er_lw (er_ea X Y 2) (er_ed X Y 2)) p0 p1) ⟨va_cnB 2 hts (er_gB k_121) rfl rfl rfl (hN _ kn_6) (hts _ k_19) (by decide +kernel) ⟨Nat.le_of_ble_eq_true rfl, Nat.le_of_ble_eq_true rfl⟩, hts _ k_120, hts _ k_1⟩ ⟨PP.blind, va_recv hKc hPc (ci := 0) (q0 := 0) rfl rfl, PP.at hN hKc hPc⟩ rfl rfl hl.1 rfl (lv_room (Nat.le_of_ble_eq_true rfl)) d_E_isCovered_39 ⟨Nat.zero_le _, Nat.zero_le _⟩).run (fun r_6 hr_6 => ?_)
        obtain rfl : er_b (decide ((er_lw (er_ea X Y 2) (er_ed X Y 2)).toInt64 ≤ er_wt (er_ex X Y 2) (er_ey X Y 2) (er_ea X Y 2) (er_ed X Y 2) p0 p1)) = r_6 := Eq.symm hr_6
        refine lv_if_eq (tgt := 49) hx hb d_E_isCovered_42 (by decide) (fun c_7 => ?_) (fun c_7 => ?_)
        · have c_7 := er_b_0.mp c_7
          refine lv_iconst (v := 0) hx hb d_E_isCovered_49 (by decide) ?_
          exact W.zret (v := 0) (ty := .boolean) hx hb hr (by decide) (fun u9 ht hW => ⟨_, rfl, (er_c3 c_7), ht⟩) (fun q hq => by cases hq) d_E_isCovered_50
        · have c_7 := er_b_n.mp c_7
          refine lv_iconst (v := 1) hx hb d_E_isCovered_45 (by decide) ?_
          refine lv_goto (tgt := 50) hx hb d_E_isCovered_46 (by decide) ?_
          exact W.zret (v := 1) (ty := .boolean) hx hb hr (by decide) (fun u9 ht hW => ⟨_, rfl, (er_c4 c_1 c_3 c_5 c_7), ht⟩) (fun q hq => by cases hq) d_E_isCovered_50
end
section
set_option maxHeartbeats 1000000 in
set_option maxRecDepth 100000 in
theorem c_E_firstCovered (l : Launch) (dC : Nat → ClassId) (dI : Nat → Nat → Nat) (h0 h1 h2 h3 v0 v1 v2 : Nat) (X Y D Q : Nat → Int32) (a c9 i : Nat) (wy wh wk on lx ly p1 : Int32) (hac : a + c9 < 100000) (hi : i ≤ c9) : Met l y_E_firstCovered w_E_firstCovered ({ frames := 3, cells := 0, slots := 0, locals := 68 }) (va_Pc [.ref h0, .int (nI (a + i)), .int p1] (PP dC dI [] [(h0, .inr (1, [.ref h1, .ref h2, .ref h3, .long (er_ar X Y), .int (nI a), .int wy, .int (nI c9), .int wh, .int wk, .int on, .int lx, .int ly])), (h1, .inr (0, [.int (X 0), .int (Y 0), .int (D 0), .int (Q 0), .ref v0, .int (er_ex X Y 0), .int (er_ey X Y 0), .int (er_ea X Y 0), .int (er_ed X Y 0), .int (er_lw (er_ea X Y 0) (er_ed X Y 0))])), (h2, .inr (0, [.int (X 1), .int (Y 1), .int (D 1), .int (Q 1), .ref v1, .int (er_ex X Y 1), .int (er_ey X Y 1), .int (er_ea X Y 1), .int (er_ed X Y 1), .int (er_lw (er_ea X Y 1) (er_ed X Y 1))])), (h3, .inr (0, [.int (X 2), .int (Y 2), .int (D 2), .int (Q 2), .ref v2, .int (er_ex X Y 2), .int (er_ey X Y 2), .int (er_ea X Y 2), .int (er_ed X Y 2), .int (er_lw (er_ea X Y 2) (er_ed X Y 2))]))])) (vp_Si (fun r : Int32 => ∃ t7 : Nat, r = nI (a + t7) ∧ er_next (fun k7 => er_cov X Y (nI (a + k7)) p1) c9 i t7)) 0 0 (fun _ => False) := by
  refine Met.ofW (cc := b_E_firstCovered) (maxL := 4) (ret := (some .int)) (by decide +kernel) rfl ?_
  intro p e s m args below meth c s₁ B hml hv
  obtain ⟨rfl, hN, hK, hP⟩ := hv
  have hx := B.exec
  have hb := B.bytes
  have hr := B.returns
  have hts := er_hts (atoms_spec (ws := w_E_firstCovered) B.pre)
  have hown : s.vm.findClass R_E = some m.cls := findClass_of_methodNamed B.named
  have hlocks := B.notSynchronized
  have hP : va_P (dC, dI) classes [(h0, .inr (1, [.ref h1, .ref h2, .ref h3, .long (er_ar X Y), .int (nI a), .int wy, .int (nI c9), .int wh, .int wk, .int on, .int lx, .int ly])), (h1, .inr (0, [.int (X 0), .int (Y 0), .int (D 0), .int (Q 0), .ref v0, .int (er_ex X Y 0), .int (er_ey X Y 0), .int (er_ea X Y 0), .int (er_ed X Y 0), .int (er_lw (er_ea X Y 0) (er_ed X Y 0))])), (h2, .inr (0, [.int (X 1), .int (Y 1), .int (D 1), .int (Q 1), .ref v1, .int (er_ex X Y 1), .int (er_ey X Y 1), .int (er_ea X Y 1), .int (er_ed X Y 1), .int (er_lw (er_ea X Y 1) (er_ed X Y 1))])), (h3, .inr (0, [.int (X 2), .int (Y 2), .int (D 2), .int (Q 2), .ref v2, .int (er_ex X Y 2), .int (er_ey X Y 2), .int (er_ea X Y 2), .int (er_ed X Y 2), .int (er_lw (er_ea X Y 2) (er_ed X Y 2))]))] s.heap := hP
  have hl := lv_entry ([.ref h0, .int (nI (a + i)), .int p1]) (n := 4) (Nat.le_of_ble_eq_true rfl)
  rw [lg_entry_eq]
  generalize (lg_sl ([.ref h0, .int (nI (a + i)), .int p1]) ++ List.replicate (4 - (lg_sl ([.ref h0, .int (nI (a + i)), .int p1])).length) Slot.unset).toArray = ls at hl ⊢
  have hl : lv_has ls 4 [(0, .ref h0), (1, .int (nI (a + i))), (2, .int p1)] := hl
  refine lv_iload_n hx hb d_E_firstCovered_0 rfl (lv_at hl 1 rfl) ?_
  refine lv_istore_n (lv' := [(3, .int (nI (a + i))), (0, .ref h0), (1, .int (nI (a + i))), (2, .int p1)]) hx hb d_E_firstCovered_1 rfl hl (by decide) rfl (fun ls hl => ?_)
  obtain ⟨t, b1, b2, b3, hl2⟩ : ∃ t : Nat, (i ≤ t) ∧ (t ≤ c9) ∧ (∀ k, i ≤ k → k < t → er_cov X Y (nI (a + k)) p1 = false) ∧ lv_has ls 4 [(3, .int (nI (a + t))), (0, .ref h0), (1, .int (nI (a + i))), (2, .int p1)] := ⟨i, Nat.le_refl _, hi, fun k q1 q2 => absurd q2 (by omega), lv_sub hl [0, 1, 2, 3] rfl⟩
  clear hl
  have hl := hl2
  clear hl2
  induction hnt : c9 - t using Nat.strongRecOn generalizing t ls with
  | ind nt iht =>
    refine lv_iload_n hx hb d_E_firstCovered_2 rfl (lv_at hl 0 rfl) ?_
    refine lv_aload_n hx hb d_E_firstCovered_3 rfl (lv_at hl 1 rfl) ?_
    refine va_get (D := (dC, dI)) (ci := 1) (v := .int (nI a)) (C := R_E) (T := F_E) (N := 12) hx hb hts i_E hown hK hP 0 rfl rfl 4 (by decide) (hts _ k_76) (fun _ h9 => h9) rfl d_E_firstCovered_4 ?_
    refine lv_aload_n hx hb d_E_firstCovered_7 rfl (lv_at hl 1 rfl) ?_
    refine va_get (D := (dC, dI)) (ci := 1) (v := .int (nI c9)) (C := R_E) (T := F_E) (N := 12) hx hb hts i_E hown hK hP 0 rfl rfl 6 (by decide) (hts _ k_78) (fun _ h9 => h9) rfl d_E_firstCovered_8 ?_
    refine lv_iadd hx hb d_E_firstCovered_11 ?_
    refine lv_icmp_ge (tgt := 32) hx hb d_E_firstCovered_12 (by decide) (fun c_1 => ?_) (fun c_1 => ?_)
    · rw [nI_add] at c_1
      have c_1 := er_le c_1 (by omega) (by omega)
      refine lv_aload_n hx hb d_E_firstCovered_32 rfl (lv_at hl 1 rfl) ?_
      refine va_get (D := (dC, dI)) (ci := 1) (v := .int (nI a)) (C := R_E) (T := F_E) (N := 12) hx hb hts i_E hown hK hP 0 rfl rfl 4 (by decide) (hts _ k_76) (fun _ h9 => h9) rfl d_E_firstCovered_33 ?_
      refine lv_aload_n hx hb d_E_firstCovered_36 rfl (lv_at hl 1 rfl) ?_
      refine va_get (D := (dC, dI)) (ci := 1) (v := .int (nI c9)) (C := R_E) (T := F_E) (N := 12) hx hb hts i_E hown hK hP 0 rfl rfl 6 (by decide) (hts _ k_78) (fun _ h9 => h9) rfl d_E_firstCovered_37 ?_
      refine lv_iadd hx hb d_E_firstCovered_40 ?_
      exact W.iret (v := (nI a) + (nI c9)) hx hb hr (fun u9 ht hW => ⟨_, rfl, ⟨c9, nI_add a c9, hi, Nat.le_refl _, fun k q1 q2 => b3 k q1 (by omega), fun q => absurd q (by omega)⟩, ht⟩) (fun q hq => by cases hq) d_E_firstCovered_41
    · rw [nI_add] at c_1
      have c_1 := er_nle c_1 (by omega) (by omega)
      refine lv_aload_n hx hb d_E_firstCovered_15 rfl (lv_at hl 1 rfl) ?_
      refine lv_iload_n hx hb d_E_firstCovered_16 rfl (lv_at hl 0 rfl) ?_
      refine lv_iload_n hx hb d_E_firstCovered_17 rfl (lv_at hl 3 rfl) ?_
      have hPc := hP.sub (ws' := [(h0, .inr (1, [.ref h1, .ref h2, .ref h3, .long (er_ar X Y), .int (nI a), .int wy, .int (nI c9), .int wh, .int wk, .int on, .int lx, .int ly])), (h1, .inr (0, [.int (X 0), .int (Y 0), .int (D 0), .int (Q 0), .ref v0, .int (er_ex X Y 0), .int (er_ey X Y 0), .int (er_ea X Y 0), .int (er_ed X Y 0), .int (er_lw (er_ea X Y 0) (er_ed X Y 0))])), (h2, .inr (0, [.int (X 1), .int (Y 1), .int (D 1), .int (Q 1), .ref v1, .int (er_ex X Y 1), .int (er_ey X Y 1), .int (er_ea X Y 1), .int (er_ed X Y 1), .int (er_lw (er_ea X Y 1) (er_ed X Y 1))])), (h3, .inr (0, [.int (X 2), .int (Y 2), .int (D 2), .int (Q 2), .ref v2, .int (er_ex X Y 2), .int (er_ey X Y 2), .int (er_ea X Y 2), .int (er_ed X Y 2), .int (er_lw (er_ea X Y 2) (er_ed X Y 2))]))]) [0, 1, 2, 3] rfl
      have hKc := hK.sub (tys' := []) [] rfl
      refine vp_callSi (va_runV (As := [.int (nI (a + t)), .int p1]) (rest := []) ⟨hx, hb, hml, hown, hts⟩ (c_E_isCovered l dC dI h0 h1 h2 h3 v0 v1 v2 X Y D Q (nI a) wy (nI c9) wh wk on lx ly (nI (a + t)) p1) (cwV 2 hts (er_gV k_117 k_118 k_0 k_18 k_119) rfl rfl rfl (by decide +kernel) ⟨Nat.le_of_ble_eq_true rfl, Nat.le_of_ble_eq_true rfl⟩) ⟨PP.blind, va_recv hKc hPc (ci := 1) (q0 := 0) rfl rfl, PP.at hN hKc hPc⟩ rfl rfl hl.1 rfl (lv_room (Nat.le_of_ble_eq_true rfl)) d_E_firstCovered_18 ⟨Nat.zero_le _, Nat.zero_le _⟩).run (fun r_2 hr_2 => ?_)
      obtain rfl : er_b (er_cov X Y (nI (a + t)) p1) = r_2 := Eq.symm hr_2
      refine lv_if_eq (tgt := 26) hx hb d_E_firstCovered_21 (by decide) (fun c_3 => ?_) (fun c_3 => ?_)
      · have c_3 := er_b_0.mp c_3
        refine lv_iinc (v := (nI (a + t)) + 1) (lv' := [(3, .int ((nI (a + t)) + 1)), (0, .ref h0), (1, .int (nI (a + i))), (2, .int p1)]) hx hb d_E_firstCovered_26 hl (k := 0) rfl (by first | rfl | decide) (by decide) rfl (fun ls hl => ?_)
        refine lv_goto (tgt := 2) hx hb d_E_firstCovered_29 (by decide) ?_
        exact iht _ (by omega) (ls := ls) (t := t + 1) (b1 := by omega) (b2 := by omega) (b3 := fun k q1 q2 => by rcases Nat.lt_or_ge k t with q | q; exact b3 k q1 q; rw [show k = t by omega]; exact c_3) (hl := by have hl := lv_sub hl [0, 1, 2, 3] rfl; rw [nI_1] at hl; exact hl) (hnt := rfl)
      · have c_3 := er_b_n.mp c_3
        refine lv_iload_n hx hb d_E_firstCovered_24 rfl (lv_at hl 0 rfl) ?_
        exact W.iret (v := nI (a + t)) hx hb hr (fun u9 ht hW => ⟨_, rfl, ⟨t, rfl, b1, b2, b3, fun _ => c_3⟩, ht⟩) (fun q hq => by cases hq) d_E_firstCovered_25

set_option maxHeartbeats 1000000 in
set_option maxRecDepth 100000 in
theorem c_E_many (l : Launch) (dC : Nat → ClassId) (dI : Nat → Nat → Nat) (h0 h1 h2 h3 v0 v1 v2 : Nat) (X Y D Q : Nat → Int32) (a b c9 d : Nat) (wk on lx ly : Int32) (hac : a + c9 < 100000) (hbd : b + d < 100000) : Met l y_E_many w_E_many ({ frames := 3, cells := 0, slots := 0, locals := 68 }) (va_Pc [.ref h0] (PP dC dI [] [(h0, .inr (1, [.ref h1, .ref h2, .ref h3, .long (er_ar X Y), .int (nI a), .int (nI b), .int (nI c9), .int (nI d), .int wk, .int on, .int lx, .int ly])), (h1, .inr (0, [.int (X 0), .int (Y 0), .int (D 0), .int (Q 0), .ref v0, .int (er_ex X Y 0), .int (er_ey X Y 0), .int (er_ea X Y 0), .int (er_ed X Y 0), .int (er_lw (er_ea X Y 0) (er_ed X Y 0))])), (h2, .inr (0, [.int (X 1), .int (Y 1), .int (D 1), .int (Q 1), .ref v1, .int (er_ex X Y 1), .int (er_ey X Y 1), .int (er_ea X Y 1), .int (er_ed X Y 1), .int (er_lw (er_ea X Y 1) (er_ed X Y 1))])), (h3, .inr (0, [.int (X 2), .int (Y 2), .int (D 2), .int (Q 2), .ref v2, .int (er_ex X Y 2), .int (er_ey X Y 2), .int (er_ea X Y 2), .int (er_ed X Y 2), .int (er_lw (er_ea X Y 2) (er_ed X Y 2))]))])) (vp_Si (fun r : Int32 => r = nI (er_cnt (er_f X Y a b c9) (d * c9)))) 0 0 (fun _ => False) := by
  refine Met.ofW (cc := b_E_many) (maxL := 4) (ret := (some .int)) (by decide +kernel) rfl ?_
  intro p e s m args below meth c s₁ B hml hv
  obtain ⟨rfl, hN, hK, hP⟩ := hv
  have hx := B.exec
  have hb := B.bytes
  have hr := B.returns
  have hts := er_hts (atoms_spec (ws := w_E_many) B.pre)
  have hown : s.vm.findClass R_E = some m.cls := findClass_of_methodNamed B.named
  have hlocks := B.notSynchronized
  have hP : va_P (dC, dI) classes [(h0, .inr (1, [.ref h1, .ref h2, .ref h3, .long (er_ar X Y), .int (nI a), .int (nI b), .int (nI c9), .int (nI d), .int wk, .int on, .int lx, .int ly])), (h1, .inr (0, [.int (X 0), .int (Y 0), .int (D 0), .int (Q 0), .ref v0, .int (er_ex X Y 0), .int (er_ey X Y 0), .int (er_ea X Y 0), .int (er_ed X Y 0), .int (er_lw (er_ea X Y 0) (er_ed X Y 0))])), (h2, .inr (0, [.int (X 1), .int (Y 1), .int (D 1), .int (Q 1), .ref v1, .int (er_ex X Y 1), .int (er_ey X Y 1), .int (er_ea X Y 1), .int (er_ed X Y 1), .int (er_lw (er_ea X Y 1) (er_ed X Y 1))])), (h3, .inr (0, [.int (X 2), .int (Y 2), .int (D 2), .int (Q 2), .ref v2, .int (er_ex X Y 2), .int (er_ey X Y 2), .int (er_ea X Y 2), .int (er_ed X Y 2), .int (er_lw (er_ea X Y 2) (er_ed X Y 2))]))] s.heap := hP
  have hl := lv_entry ([.ref h0]) (n := 4) (Nat.le_of_ble_eq_true rfl)
  rw [lg_entry_eq]
  generalize (lg_sl ([.ref h0]) ++ List.replicate (4 - (lg_sl ([.ref h0])).length) Slot.unset).toArray = ls at hl ⊢
  have hl : lv_has ls 4 [(0, .ref h0)] := hl
  refine lv_iconst (v := 0) hx hb d_E_many_0 (by decide) ?_
  refine lv_istore_n (lv' := [(1, .int 0), (0, .ref h0)]) hx hb d_E_many_1 rfl hl (by decide) rfl (fun ls hl => ?_)
  refine lv_aload_n hx hb d_E_many_2 rfl (lv_at hl 1 rfl) ?_
  refine va_get (D := (dC, dI)) (ci := 1) (v := .int (nI b)) (C := R_E) (T := F_E) (N := 12) hx hb hts i_E hown hK hP 0 rfl rfl 5 (by decide) (hts _ k_77) (fun _ h9 => h9) rfl d_E_many_3 ?_
  refine lv_istore_n (lv' := [(2, .int (nI b)), (1, .int 0), (0, .ref h0)]) hx hb d_E_many_6 rfl hl (by decide) rfl (fun ls hl => ?_)
  obtain ⟨j, b1, hl2⟩ : ∃ j : Nat, (j ≤ d) ∧ lv_has ls 4 [(2, .int (nI (b + j))), (1, .int (nI (er_cnt (er_f X Y a b c9) (j * c9)))), (0, .ref h0)] := ⟨0, by omega, (by rw [Nat.zero_mul]; exact lv_sub hl [0, 1, 2] rfl)⟩
  clear hl
  have hl := hl2
  clear hl2
  induction hnj : d - j using Nat.strongRecOn generalizing j ls with
  | ind nj ihj =>
    refine lv_iload_n hx hb d_E_many_7 rfl (lv_at hl 0 rfl) ?_
    refine lv_aload_n hx hb d_E_many_8 rfl (lv_at hl 2 rfl) ?_
    refine va_get (D := (dC, dI)) (ci := 1) (v := .int (nI b)) (C := R_E) (T := F_E) (N := 12) hx hb hts i_E hown hK hP 0 rfl rfl 5 (by decide) (hts _ k_77) (fun _ h9 => h9) rfl d_E_many_9 ?_
    refine lv_aload_n hx hb d_E_many_12 rfl (lv_at hl 2 rfl) ?_
    refine va_get (D := (dC, dI)) (ci := 1) (v := .int (nI d)) (C := R_E) (T := F_E) (N := 12) hx hb hts i_E hown hK hP 0 rfl rfl 7 (by decide) (hts _ k_79) (fun _ h9 => h9) rfl d_E_many_13 ?_
    refine lv_iadd hx hb d_E_many_16 ?_
    refine lv_icmp_ge (tgt := 62) hx hb d_E_many_17 (by decide) (fun c_1 => ?_) (fun c_1 => ?_)
    · rw [nI_add] at c_1
      have c_1 := er_le c_1 (by omega) (by omega)
      refine lv_iload_n hx hb d_E_many_62 rfl (lv_at hl 1 rfl) ?_
      exact W.iret (v := nI (er_cnt (er_f X Y a b c9) (j * c9))) hx hb hr (fun u9 ht hW => ⟨_, rfl, (by rw [show j = d by omega]), ht⟩) (fun q hq => by cases hq) d_E_many_63
    · rw [nI_add] at c_1
      have c_1 := er_nle c_1 (by omega) (by omega)
      refine lv_aload_n hx hb d_E_many_20 rfl (lv_at hl 2 rfl) ?_
      refine va_get (D := (dC, dI)) (ci := 1) (v := .int (nI a)) (C := R_E) (T := F_E) (N := 12) hx hb hts i_E hown hK hP 0 rfl rfl 4 (by decide) (hts _ k_76) (fun _ h9 => h9) rfl d_E_many_21 ?_
      refine lv_istore_n (lv' := [(3, .int (nI a)), (2, .int (nI (b + j))), (1, .int (nI (er_cnt (er_f X Y a b c9) (j * c9)))), (0, .ref h0)]) hx hb d_E_many_24 rfl hl (by decide) rfl (fun ls hl => ?_)
      obtain ⟨i, e1, hl2⟩ : ∃ i : Nat, (i ≤ c9) ∧ lv_has ls 4 [(3, .int (nI (a + i))), (2, .int (nI (b + j))), (1, .int (nI (er_cnt (er_f X Y a b c9) (j * c9 + i)))), (0, .ref h0)] := ⟨0, by omega, lv_sub hl [0, 1, 2, 3] rfl⟩
      clear hl
      have hl := hl2
      clear hl2
      induction hni : c9 - i using Nat.strongRecOn generalizing i ls with
      | ind ni ihi =>
        refine lv_iload_n hx hb d_E_many_25 rfl (lv_at hl 0 rfl) ?_
        refine lv_aload_n hx hb d_E_many_26 rfl (lv_at hl 3 rfl) ?_
        refine va_get (D := (dC, dI)) (ci := 1) (v := .int (nI a)) (C := R_E) (T := F_E) (N := 12) hx hb hts i_E hown hK hP 0 rfl rfl 4 (by decide) (hts _ k_76) (fun _ h9 => h9) rfl d_E_many_27 ?_
        refine lv_aload_n hx hb d_E_many_30 rfl (lv_at hl 3 rfl) ?_
        refine va_get (D := (dC, dI)) (ci := 1) (v := .int (nI c9)) (C := R_E) (T := F_E) (N := 12) hx hb hts i_E hown hK hP 0 rfl rfl 6 (by decide) (hts _ k_78) (fun _ h9 => h9) rfl d_E_many_31 ?_
        refine lv_iadd hx hb d_E_many_34 ?_
        refine lv_icmp_ge (tgt := 56) hx hb d_E_many_35 (by decide) (fun c_2 => ?_) (fun c_2 => ?_)
        · rw [nI_add] at c_2
          have c_2 := er_le c_2 (by omega) (by omega)
          refine lv_iinc (v := (nI (b + j)) + 1) (lv' := [(2, .int ((nI (b + j)) + 1)), (3, .int (nI (a + i))), (1, .int (nI (er_cnt (er_f X Y a b c9) (j * c9 + i)))), (0, .ref h0)]) hx hb d_E_many_56 hl (k := 1) rfl (by first | rfl | decide) (by decide) rfl (fun ls hl => ?_)
          refine lv_goto (tgt := 7) hx hb d_E_many_59 (by decide) ?_
          exact ihj _ (by omega) (ls := ls) (j := j + 1) (b1 := by omega) (hl := by have hl := lv_sub hl [0, 2, 3] rfl; rw [nI_1 (b + j), show j * c9 + i = (j + 1) * c9 by rw [Nat.succ_mul]; omega] at hl; exact hl) (hnj := rfl)
        · rw [nI_add] at c_2
          have c_2 := er_nle c_2 (by omega) (by omega)
          refine lv_aload_n hx hb d_E_many_38 rfl (lv_at hl 3 rfl) ?_
          refine lv_iload_n hx hb d_E_many_39 rfl (lv_at hl 0 rfl) ?_
          refine lv_iload_n hx hb d_E_many_40 rfl (lv_at hl 1 rfl) ?_
          have hPc := hP.sub (ws' := [(h0, .inr (1, [.ref h1, .ref h2, .ref h3, .long (er_ar X Y), .int (nI a), .int (nI b), .int (nI c9), .int (nI d), .int wk, .int on, .int lx, .int ly])), (h1, .inr (0, [.int (X 0), .int (Y 0), .int (D 0), .int (Q 0), .ref v0, .int (er_ex X Y 0), .int (er_ey X Y 0), .int (er_ea X Y 0), .int (er_ed X Y 0), .int (er_lw (er_ea X Y 0) (er_ed X Y 0))])), (h2, .inr (0, [.int (X 1), .int (Y 1), .int (D 1), .int (Q 1), .ref v1, .int (er_ex X Y 1), .int (er_ey X Y 1), .int (er_ea X Y 1), .int (er_ed X Y 1), .int (er_lw (er_ea X Y 1) (er_ed X Y 1))])), (h3, .inr (0, [.int (X 2), .int (Y 2), .int (D 2), .int (Q 2), .ref v2, .int (er_ex X Y 2), .int (er_ey X Y 2), .int (er_ea X Y 2), .int (er_ed X Y 2), .int (er_lw (er_ea X Y 2) (er_ed X Y 2))]))]) [0, 1, 2, 3] rfl
          have hKc := hK.sub (tys' := []) [] rfl
          refine vp_callSi (va_runV (As := [.int (nI (a + i)), .int (nI (b + j))]) (rest := []) ⟨hx, hb, hml, hown, hts⟩ (c_E_isCovered l dC dI h0 h1 h2 h3 v0 v1 v2 X Y D Q (nI a) (nI b) (nI c9) (nI d) wk on lx ly (nI (a + i)) (nI (b + j))) (cwV 2 hts (er_gV k_117 k_118 k_0 k_18 k_119) rfl rfl rfl (by decide +kernel) ⟨Nat.le_of_ble_eq_true rfl, Nat.le_of_ble_eq_true rfl⟩) ⟨PP.blind, va_recv hKc hPc (ci := 1) (q0 := 0) rfl rfl, PP.at hN hKc hPc⟩ rfl rfl hl.1 rfl (lv_room (Nat.le_of_ble_eq_true rfl)) d_E_many_41 ⟨Nat.zero_le _, Nat.zero_le _⟩).run (fun r_3 hr_3 => ?_)
          obtain rfl : er_b (er_cov X Y (nI (a + i)) (nI (b + j))) = r_3 := Eq.symm hr_3
          refine lv_if_eq (tgt := 50) hx hb d_E_many_44 (by decide) (fun c_4 => ?_) (fun c_4 => ?_)
          · have c_4 := er_b_0.mp c_4
            refine lv_iinc (v := (nI (a + i)) + 1) (lv' := [(3, .int ((nI (a + i)) + 1)), (2, .int (nI (b + j))), (1, .int (nI (er_cnt (er_f X Y a b c9) (j * c9 + i)))), (0, .ref h0)]) hx hb d_E_many_50 hl (k := 0) rfl (by first | rfl | decide) (by decide) rfl (fun ls hl => ?_)
            refine lv_goto (tgt := 25) hx hb d_E_many_53 (by decide) ?_
            exact ihi _ (by omega) (ls := ls) (i := i + 1) (e1 := by omega) (hl := by have hl := lv_sub hl [0, 1, 2, 3] rfl; rw [nI_1 (a + i), er_cnt_f (er_f_at (by omega) c_4)] at hl; exact hl) (hni := rfl)
          · have c_4 := er_b_n.mp c_4
            refine lv_iinc (v := (nI (er_cnt (er_f X Y a b c9) (j * c9 + i))) + 1) (lv' := [(1, .int ((nI (er_cnt (er_f X Y a b c9) (j * c9 + i))) + 1)), (3, .int (nI (a + i))), (2, .int (nI (b + j))), (0, .ref h0)]) hx hb d_E_many_47 hl (k := 2) rfl (by first | rfl | decide) (by decide) rfl (fun ls hl => ?_)
            refine lv_iinc (v := (nI (a + i)) + 1) (lv' := [(3, .int ((nI (a + i)) + 1)), (1, .int ((nI (er_cnt (er_f X Y a b c9) (j * c9 + i))) + 1)), (2, .int (nI (b + j))), (0, .ref h0)]) hx hb d_E_many_50 hl (k := 1) rfl (by first | rfl | decide) (by decide) rfl (fun ls hl => ?_)
            refine lv_goto (tgt := 25) hx hb d_E_many_53 (by decide) ?_
            exact ihi _ (by omega) (ls := ls) (i := i + 1) (e1 := by omega) (hl := by have hl := lv_sub hl [0, 2, 1, 3] rfl; rw [nI_1 (a + i), er_cnt_t (er_f_at (by omega) c_4)] at hl; exact hl) (hni := rfl)
end
section
set_option maxHeartbeats 1000000 in
set_option maxRecDepth 100000 in
theorem c_J_floorDiv (l : Launch) (dC : Nat → ClassId) (dI : Nat → Nat → Nat) (p0 p1 : Int64) (hne : ¬ p1 = 0) : Met l y_J_floorDiv w_J_floorDiv ({ frames := 0, cells := 0, slots := 0, locals := 0 }) (va_Pc [.long p0, .long p1] (PP dC dI [] [])) (vp_Sl (fun r : Int64 => r = er_fd p0 p1)) 0 0 (fun _ => False) := by
  refine va_MetF (cc := b_J_floorDiv) (maxL := 6) (ret := (some .long)) (by decide +kernel) rfl ?_
  intro p e s m args below meth c s₁ B hml hv
  obtain ⟨rfl, hN, hK, hP⟩ := hv
  have hx := B.exec
  have hb := B.bytes
  have hr := B.returns
  have hts := er_hts (atoms_spec (ws := w_J_floorDiv) B.pre)
  have hown : s.vm.findClass R_J = some m.cls := findClass_of_methodNamed B.named
  have hlocks := B.notSynchronized
  have hP : va_P (dC, dI) classes [] s.heap := hP
  have hl := lv_entry ([.long p0, .long p1]) (n := 6) (Nat.le_of_ble_eq_true rfl)
  rw [lg_entry_eq]
  generalize (lg_sl ([.long p0, .long p1]) ++ List.replicate (6 - (lg_sl ([.long p0, .long p1])).length) Slot.unset).toArray = ls at hl ⊢
  have hl : lv_has ls 6 [(0, .long p0), (2, .long p1)] := hl
  refine lv_lload_n hx hb d_J_floorDiv_0 rfl (lv_at hl 0 rfl) ?_
  refine lv_lload_n hx hb d_J_floorDiv_1 rfl (lv_at hl 1 rfl) ?_
  refine lv_ldiv hx hb d_J_floorDiv_2 hne ?_
  refine lv_lstore (lv' := [(4, .long (p0 / p1)), (0, .long p0), (2, .long p1)]) hx hb d_J_floorDiv_3 hl (by decide) rfl (fun ls hl => ?_)
  refine lv_lload_n hx hb d_J_floorDiv_5 rfl (lv_at hl 1 rfl) ?_
  refine lv_lload_n hx hb d_J_floorDiv_6 rfl (lv_at hl 2 rfl) ?_
  refine lv_lxor hx hb d_J_floorDiv_7 ?_
  refine lv_lconst (v := 0) hx hb d_J_floorDiv_8 (by decide) ?_
  refine W.lcmp hx hb d_J_floorDiv_9 ?_
  refine lv_if_ge (tgt := 27) hx hb d_J_floorDiv_10 (by decide) (fun c_1 => ?_) (fun c_1 => ?_)
  · rw [lg_cmp_ge] at c_1
    refine lv_lload hx hb d_J_floorDiv_27 (lv_at hl 0 rfl) ?_
    exact W.lret (v := p0 / p1) hx hb hr (fun u9 ht hW => ⟨_, rfl, (er_fd0 c_1), ht⟩) (fun q hq => by cases hq) d_J_floorDiv_29
  · rw [lg_cmp_ge] at c_1
    refine lv_lload hx hb d_J_floorDiv_13 (lv_at hl 0 rfl) ?_
    refine lv_lload_n hx hb d_J_floorDiv_15 rfl (lv_at hl 2 rfl) ?_
    refine lv_lmul hx hb d_J_floorDiv_16 ?_
    refine lv_lload_n hx hb d_J_floorDiv_17 rfl (lv_at hl 1 rfl) ?_
    refine W.lcmp hx hb d_J_floorDiv_18 ?_
    refine lv_if_eq (tgt := 27) hx hb d_J_floorDiv_19 (by decide) (fun c_2 => ?_) (fun c_2 => ?_)
    · rw [lg_cmp_eq] at c_2
      refine lv_lload hx hb d_J_floorDiv_27 (lv_at hl 0 rfl) ?_
      exact W.lret (v := p0 / p1) hx hb hr (fun u9 ht hW => ⟨_, rfl, (er_fd1 c_2), ht⟩) (fun q hq => by cases hq) d_J_floorDiv_29
    · rw [lg_cmp_eq] at c_2
      refine lv_lload hx hb d_J_floorDiv_22 (lv_at hl 0 rfl) ?_
      refine lv_lconst (v := 1) hx hb d_J_floorDiv_24 (by decide) ?_
      refine lv_lsub hx hb d_J_floorDiv_25 ?_
      exact W.lret (v := (p0 / p1) - 1) hx hb hr (fun u9 ht hW => ⟨_, rfl, (er_fd2 c_1 c_2), ht⟩) (fun q hq => by cases hq) d_J_floorDiv_26

set_option maxHeartbeats 1000000 in
set_option maxRecDepth 100000 in
theorem c_E_dividedDown (l : Launch) (dC : Nat → ClassId) (dI : Nat → Nat → Nat) (p0 p1 : Int64) : Met l y_E_dividedDown w_E_dividedDown ({ frames := 1, cells := 0, slots := 0, locals := 25 }) (va_Pc [.long p0, .long p1] (PP dC dI [] [])) (vp_Sl (fun r : Int64 => r = er_dd p0 p1)) 0 0 (fun _ => False) := by
  refine Met.ofW (cc := b_E_dividedDown) (maxL := 4) (ret := (some .long)) (by decide +kernel) rfl ?_
  intro p e s m args below meth c s₁ B hml hv
  obtain ⟨rfl, hN, hK, hP⟩ := hv
  have hx := B.exec
  have hb := B.bytes
  have hr := B.returns
  have hts := er_hts (atoms_spec (ws := w_E_dividedDown) B.pre)
  have hown : s.vm.findClass R_E = some m.cls := findClass_of_methodNamed B.named
  have hlocks := B.notSynchronized
  have hP : va_P (dC, dI) classes [] s.heap := hP
  have hl := lv_entry ([.long p0, .long p1]) (n := 4) (Nat.le_of_ble_eq_true rfl)
  rw [lg_entry_eq]
  generalize (lg_sl ([.long p0, .long p1]) ++ List.replicate (4 - (lg_sl ([.long p0, .long p1])).length) Slot.unset).toArray = ls at hl ⊢
  have hl : lv_has ls 4 [(0, .long p0), (2, .long p1)] := hl
  refine lv_lload_n hx hb d_E_dividedDown_0 rfl (lv_at hl 1 rfl) ?_
  refine lv_lconst (v := 0) hx hb d_E_dividedDown_1 (by decide) ?_
  refine W.lcmp hx hb d_E_dividedDown_2 ?_
  refine lv_if_le (tgt := 14) hx hb d_E_dividedDown_3 (by decide) (fun c_1 => ?_) (fun c_1 => ?_)
  · rw [lg_cmp_le] at c_1
    refine lv_lconst (v := 0) hx hb d_E_dividedDown_14 (by decide) ?_
    exact W.lret (v := 0) hx hb hr (fun u9 ht hW => ⟨_, rfl, (er_dd0 c_1), ht⟩) (fun q hq => by cases hq) d_E_dividedDown_15
  · rw [lg_cmp_le] at c_1
    refine lv_lload_n hx hb d_E_dividedDown_6 rfl (lv_at hl 0 rfl) ?_
    refine lv_lload_n hx hb d_E_dividedDown_7 rfl (lv_at hl 1 rfl) ?_
    have hPc := hP.sub (ws' := []) [] rfl
    have hKc := hK.sub (tys' := []) [] rfl
    refine vp_callSl (va_runS (As := [.long p0, .long p1]) (rest := []) ⟨hx, hb, hml, hown, hts⟩ (c_J_floorDiv l dC dI p0 p1 (er_ne0 c_1)) (va_cwS 2 hts (er_gS k_281 k_282 k_26 k_283) rfl rfl rfl (by decide +kernel) ⟨Nat.le_of_ble_eq_true rfl, Nat.le_of_ble_eq_true rfl⟩) ⟨PP.blind, PP.at hN hKc hPc⟩ rfl rfl hl.1 rfl (lv_room (Nat.le_of_ble_eq_true rfl)) d_E_dividedDown_8 ⟨Nat.zero_le _, Nat.zero_le _⟩).run (fun r_2 hr_2 => ?_)
    obtain rfl : er_fd p0 p1 = r_2 := Eq.symm hr_2
    refine lv_goto (tgt := 15) hx hb d_E_dividedDown_11 (by decide) ?_
    exact W.lret (v := er_fd p0 p1) hx hb hr (fun u9 ht hW => ⟨_, rfl, (er_dd1 c_1), ht⟩) (fun q hq => by cases hq) d_E_dividedDown_15

set_option maxHeartbeats 1000000 in
set_option maxRecDepth 100000 in
theorem c_E_shareShift (l : Launch) (dC : Nat → ClassId) (dI : Nat → Nat → Nat) (p0 : Int64) : Met l y_E_shareShift w_E_shareShift ({ frames := 0, cells := 0, slots := 0, locals := 0 }) (va_Pc [.long p0] (PP dC dI [] [])) (vp_Si (fun r : Int32 => ∃ n : Nat, r = nI n ∧ n ≤ 34 ∧ er_first p0 n)) 0 0 (fun _ => False) := by
  refine Met.ofW (cc := b_E_shareShift) (maxL := 3) (ret := (some .int)) (by decide +kernel) rfl ?_
  intro p e s m args below meth c s₁ B hml hv
  obtain ⟨rfl, hN, hK, hP⟩ := hv
  have hx := B.exec
  have hb := B.bytes
  have hr := B.returns
  have hts := er_hts (atoms_spec (ws := w_E_shareShift) B.pre)
  have hown : s.vm.findClass R_E = some m.cls := findClass_of_methodNamed B.named
  have hlocks := B.notSynchronized
  have hP : va_P (dC, dI) classes [] s.heap := hP
  have hl := lv_entry ([.long p0]) (n := 3) (Nat.le_of_ble_eq_true rfl)
  rw [lg_entry_eq]
  generalize (lg_sl ([.long p0]) ++ List.replicate (3 - (lg_sl ([.long p0])).length) Slot.unset).toArray = ls at hl ⊢
  have hl : lv_has ls 3 [(0, .long p0)] := hl
  refine lv_iconst (v := 0) hx hb d_E_shareShift_0 (by decide) ?_
  refine lv_istore_n (lv' := [(2, .int 0), (0, .long p0)]) hx hb d_E_shareShift_1 rfl hl (by decide) rfl (fun ls hl => ?_)
  obtain ⟨n, b1, b2, hl2⟩ : ∃ n : Nat, (n ≤ 34) ∧ (∀ t, t < n → ¬ er_sh p0 t < 536870912) ∧ lv_has ls 3 [(2, .int (nI n)), (0, .long p0)] := ⟨0, by omega, fun t q => absurd q (by omega), lv_sub hl [0, 1] rfl⟩
  clear hl
  have hl := hl2
  clear hl2
  induction hnn : 34 - n using Nat.strongRecOn generalizing n ls with
  | ind nn ihn =>
    refine lv_iload_n hx hb d_E_shareShift_2 rfl (lv_at hl 0 rfl) ?_
    refine lv_bipush (v := 63) hx hb d_E_shareShift_3 (by decide) ?_
    refine lv_icmp_ge (tgt := 24) hx hb d_E_shareShift_5 (by decide) (fun c_1 => ?_) (fun c_1 => ?_)
    · exact absurd (er_le (a := 63) c_1 (by omega) (by omega)) (by omega)
    · refine lv_lload_n hx hb d_E_shareShift_8 rfl (lv_at hl 1 rfl) ?_
      refine lv_iload_n hx hb d_E_shareShift_9 rfl (lv_at hl 0 rfl) ?_
      refine lv_lshr (v := p0 >>> ((nI n).toInt64 &&& 63)) hx hb d_E_shareShift_10 rfl ?_
      refine lv_ldc2 (v := 536870912) hx hb hown (hts (.constantLong R_E 161 536870912) (by decide +kernel)) d_E_shareShift_11 ?_
      refine W.lcmp hx hb d_E_shareShift_14 ?_
      refine lv_if_lt (tgt := 24) hx hb d_E_shareShift_15 (by decide) (fun c_2 => ?_) (fun c_2 => ?_)
      · rw [lg_cmp_lt] at c_2
        have c_2 : er_sh p0 n < 536870912 := c_2
        refine lv_iload_n hx hb d_E_shareShift_24 rfl (lv_at hl 0 rfl) ?_
        exact W.iret (v := nI n) hx hb hr (fun u9 ht hW => ⟨_, rfl, ⟨n, rfl, b1, c_2, b2⟩, ht⟩) (fun q hq => by cases hq) d_E_shareShift_25
      · rw [lg_cmp_lt] at c_2
        have c_2 : ¬ er_sh p0 n < 536870912 := c_2
        have q7 := er_sh_step b1 c_2
        refine lv_iinc (v := (nI n) + 1) (lv' := [(2, .int ((nI n) + 1)), (0, .long p0)]) hx hb d_E_shareShift_18 hl (k := 0) rfl (by first | rfl | decide) (by decide) rfl (fun ls hl => ?_)
        refine lv_goto (tgt := 2) hx hb d_E_shareShift_21 (by decide) ?_
        exact ihn _ (by omega) (ls := ls) (n := n + 1) (b1 := er_sh_step b1 c_2) (b2 := fun t q => by rcases Nat.lt_or_ge t n with h | h; exact b2 t h; rw [show t = n by omega]; exact c_2) (hl := by have hl := lv_sub hl [0, 1] rfl; rw [nI_1] at hl; exact hl) (hnn := rfl)
end
section
set_option maxHeartbeats 1000000 in
set_option maxRecDepth 100000 in
theorem c_E_covers (l : Launch) (dC : Nat → ClassId) (dI : Nat → Nat → Nat) (h0 h1 h2 h3 v0 v1 v2 : Nat) (X Y D Q : Nat → Int32) (wx wy ww wh wk on lx ly : Int32) (p0 p1 : Int32) (u1 : er_win p0 (-1024) 2047 = true) (u2 : er_win p1 (-1024) 2047 = true) : Met l y_E_covers w_E_covers ({ frames := 6, cells := 0, slots := 0, locals := 82 }) (va_Pc [.ref h0, .int p0, .int p1] (PP dC dI [] [(h0, .inr (1, [.ref h1, .ref h2, .ref h3, .long (er_ar X Y), .int wx, .int wy, .int ww, .int wh, .int wk, .int on, .int lx, .int ly])), (h1, .inr (0, [.int (X 0), .int (Y 0), .int (D 0), .int (Q 0), .ref v0, .int (er_ex X Y 0), .int (er_ey X Y 0), .int (er_ea X Y 0), .int (er_ed X Y 0), .int (er_lw (er_ea X Y 0) (er_ed X Y 0))])), (h2, .inr (0, [.int (X 1), .int (Y 1), .int (D 1), .int (Q 1), .ref v1, .int (er_ex X Y 1), .int (er_ey X Y 1), .int (er_ea X Y 1), .int (er_ed X Y 1), .int (er_lw (er_ea X Y 1) (er_ed X Y 1))])), (h3, .inr (0, [.int (X 2), .int (Y 2), .int (D 2), .int (Q 2), .ref v2, .int (er_ex X Y 2), .int (er_ey X Y 2), .int (er_ea X Y 2), .int (er_ed X Y 2), .int (er_lw (er_ea X Y 2) (er_ed X Y 2))]))])) (vp_Si (fun r : Int32 => r = er_b (er_cov X Y p0 p1))) 0 0 (fun _ => False) := by
  refine Met.ofW (cc := b_E_covers) (maxL := 3) (ret := (some .boolean)) (by decide +kernel) rfl ?_
  intro p e s m args below meth c s₁ B hml hv
  obtain ⟨rfl, hN, hK, hP⟩ := hv
  have hx := B.exec
  have hb := B.bytes
  have hr := B.returns
  have hts := er_hts (atoms_spec (ws := w_E_covers) B.pre)
  have hown : s.vm.findClass R_E = some m.cls := findClass_of_methodNamed B.named
  have hlocks := B.notSynchronized
  have hP : va_P (dC, dI) classes [(h0, .inr (1, [.ref h1, .ref h2, .ref h3, .long (er_ar X Y), .int wx, .int wy, .int ww, .int wh, .int wk, .int on, .int lx, .int ly])), (h1, .inr (0, [.int (X 0), .int (Y 0), .int (D 0), .int (Q 0), .ref v0, .int (er_ex X Y 0), .int (er_ey X Y 0), .int (er_ea X Y 0), .int (er_ed X Y 0), .int (er_lw (er_ea X Y 0) (er_ed X Y 0))])), (h2, .inr (0, [.int (X 1), .int (Y 1), .int (D 1), .int (Q 1), .ref v1, .int (er_ex X Y 1), .int (er_ey X Y 1), .int (er_ea X Y 1), .int (er_ed X Y 1), .int (er_lw (er_ea X Y 1) (er_ed X Y 1))])), (h3, .inr (0, [.int (X 2), .int (Y 2), .int (D 2), .int (Q 2), .ref v2, .int (er_ex X Y 2), .int (er_ey X Y 2), .int (er_ea X Y 2), .int (er_ed X Y 2), .int (er_lw (er_ea X Y 2) (er_ed X Y 2))]))] s.heap := hP
  have hl := lv_entry ([.ref h0, .int p0, .int p1]) (n := 3) (Nat.le_of_ble_eq_true rfl)
  rw [lg_entry_eq]
  generalize (lg_sl ([.ref h0, .int p0, .int p1]) ++ List.replicate (3 - (lg_sl ([.ref h0, .int p0, .int p1])).length) Slot.unset).toArray = ls at hl ⊢
  have hl : lv_has ls 3 [(0, .ref h0), (1, .int p0), (2, .int p1)] := hl
  refine lv_iload_n hx hb d_E_covers_0 rfl (lv_at hl 1 rfl) ?_
  refine lv_sipush (v := (-1024)) hx hb d_E_covers_1 (by decide) ?_
  refine lv_sipush (v := 2047) hx hb d_E_covers_4 (by decide) ?_
  have hPc := hP.sub (ws' := []) [] rfl
  have hKc := hK.sub (tys' := []) [] rfl
  refine vp_callSi (va_runS (As := [.int p0, .int (-1024), .int 2047]) (rest := []) ⟨hx, hb, hml, hown, hts⟩ (c_E_within l dC dI p0 (-1024) 2047) (va_cwS 3 hts (er_gS k_140 k_141 k_18 k_142) rfl rfl rfl (by decide +kernel) ⟨Nat.le_of_ble_eq_true rfl, Nat.le_of_ble_eq_true rfl⟩) ⟨PP.blind, PP.at hN hKc hPc⟩ rfl rfl hl.1 rfl (lv_room (Nat.le_of_ble_eq_true rfl)) d_E_covers_7 ⟨Nat.zero_le _, Nat.zero_le _⟩).run (fun r_1 hr_1 => ?_)
  obtain rfl : er_b (er_win p0 (-1024) 2047) = r_1 := Eq.symm hr_1
  refine lv_if_eq (tgt := 26) hx hb d_E_covers_10 (by decide) (fun c_2 => ?_) (fun c_2 => ?_)
  · have c_2 := er_b_0.mp c_2
    exact absurd c_2 (by simp_all)
  · have c_2 := er_b_n.mp c_2
    refine lv_iload_n hx hb d_E_covers_13 rfl (lv_at hl 2 rfl) ?_
    refine lv_sipush (v := (-1024)) hx hb d_E_covers_14 (by decide) ?_
    refine lv_sipush (v := 2047) hx hb d_E_covers_17 (by decide) ?_
    have hPc := hP.sub (ws' := []) [] rfl
    have hKc := hK.sub (tys' := []) [] rfl
    refine vp_callSi (va_runS (As := [.int p1, .int (-1024), .int 2047]) (rest := []) ⟨hx, hb, hml, hown, hts⟩ (c_E_within l dC dI p1 (-1024) 2047) (va_cwS 3 hts (er_gS k_140 k_141 k_18 k_142) rfl rfl rfl (by decide +kernel) ⟨Nat.le_of_ble_eq_true rfl, Nat.le_of_ble_eq_true rfl⟩) ⟨PP.blind, PP.at hN hKc hPc⟩ rfl rfl hl.1 rfl (lv_room (Nat.le_of_ble_eq_true rfl)) d_E_covers_20 ⟨Nat.zero_le _, Nat.zero_le _⟩).run (fun r_3 hr_3 => ?_)
    obtain rfl : er_b (er_win p1 (-1024) 2047) = r_3 := Eq.symm hr_3
    refine lv_if_ne (tgt := 36) hx hb d_E_covers_23 (by decide) (fun c_4 => ?_) (fun c_4 => ?_)
    · have c_4 := er_b_n.mp c_4
      refine lv_aload_n hx hb d_E_covers_36 rfl (lv_at hl 0 rfl) ?_
      refine lv_iload_n hx hb d_E_covers_37 rfl (lv_at hl 1 rfl) ?_
      refine lv_iload_n hx hb d_E_covers_38 rfl (lv_at hl 2 rfl) ?_
      have hPc := hP.sub (ws' := [(h0, .inr (1, [.ref h1, .ref h2, .ref h3, .long (er_ar X Y), .int wx, .int wy, .int ww, .int wh, .int wk, .int on, .int lx, .int ly])), (h1, .inr (0, [.int (X 0), .int (Y 0), .int (D 0), .int (Q 0), .ref v0, .int (er_ex X Y 0), .int (er_ey X Y 0), .int (er_ea X Y 0), .int (er_ed X Y 0), .int (er_lw (er_ea X Y 0) (er_ed X Y 0))])), (h2, .inr (0, [.int (X 1), .int (Y 1), .int (D 1), .int (Q 1), .ref v1, .int (er_ex X Y 1), .int (er_ey X Y 1), .int (er_ea X Y 1), .int (er_ed X Y 1), .int (er_lw (er_ea X Y 1) (er_ed X Y 1))])), (h3, .inr (0, [.int (X 2), .int (Y 2), .int (D 2), .int (Q 2), .ref v2, .int (er_ex X Y 2), .int (er_ey X Y 2), .int (er_ea X Y 2), .int (er_ed X Y 2), .int (er_lw (er_ea X Y 2) (er_ed X Y 2))]))]) [0, 1, 2, 3] rfl
      have hKc := hK.sub (tys' := []) [] rfl
      refine vp_callSi (va_runV (As := [.int p0, .int p1]) (rest := []) ⟨hx, hb, hml, hown, hts⟩ (c_E_isCovered l dC dI h0 h1 h2 h3 v0 v1 v2 X Y D Q wx wy ww wh wk on lx ly p0 p1) (cwV 2 hts (er_gV k_117 k_118 k_0 k_18 k_119) rfl rfl rfl (by decide +kernel) ⟨Nat.le_of_ble_eq_true rfl, Nat.le_of_ble_eq_true rfl⟩) ⟨PP.blind, va_recv hKc hPc (ci := 1) (q0 := 0) rfl rfl, PP.at hN hKc hPc⟩ rfl rfl hl.1 rfl (lv_room (Nat.le_of_ble_eq_true rfl)) d_E_covers_39 ⟨Nat.zero_le _, Nat.zero_le _⟩).run (fun r_5 hr_5 => ?_)
      obtain rfl : er_b (er_cov X Y p0 p1) = r_5 := Eq.symm hr_5
      exact W.zret (v := er_b (er_cov X Y p0 p1)) (ty := .boolean) hx hb hr (er_b_nar _) (fun u9 ht hW => ⟨_, rfl, rfl, ht⟩) (fun q hq => by cases hq) d_E_covers_42
    · have c_4 := er_b_0.mp c_4
      exact absurd c_4 (by simp_all)

set_option maxHeartbeats 1000000 in
set_option maxRecDepth 100000 in
theorem c_E_weight0 (l : Launch) (dC : Nat → ClassId) (dI : Nat → Nat → Nat) (h0 h1 h2 h3 v0 v1 v2 : Nat) (X Y D Q : Nat → Int32) (wx wy ww wh wk lx ly : Int32) : Met l y_E_weight w_E_weight ({ frames := 6, cells := 0, slots := 0, locals := 82 }) (va_Pc [.ref h0, .int 0] (PP dC dI [] [(h0, .inr (1, [.ref h1, .ref h2, .ref h3, .long (er_ar X Y), .int wx, .int wy, .int ww, .int wh, .int wk, .int 1, .int lx, .int ly])), (h1, .inr (0, [.int (X 0), .int (Y 0), .int (D 0), .int (Q 0), .ref v0, .int (er_ex X Y 0), .int (er_ey X Y 0), .int (er_ea X Y 0), .int (er_ed X Y 0), .int (er_lw (er_ea X Y 0) (er_ed X Y 0))])), (h2, .inr (0, [.int (X 1), .int (Y 1), .int (D 1), .int (Q 1), .ref v1, .int (er_ex X Y 1), .int (er_ey X Y 1), .int (er_ea X Y 1), .int (er_ed X Y 1), .int (er_lw (er_ea X Y 1) (er_ed X Y 1))])), (h3, .inr (0, [.int (X 2), .int (Y 2), .int (D 2), .int (Q 2), .ref v2, .int (er_ex X Y 2), .int (er_ey X Y 2), .int (er_ea X Y 2), .int (er_ed X Y 2), .int (er_lw (er_ea X Y 2) (er_ed X Y 2))]))])) (vp_Sl (fun r : Int64 => r = er_W X Y 0 lx ly)) 0 0 (fun _ => False) := by
  refine Met.ofW (cc := b_E_weight) (maxL := 2) (ret := (some .long)) (by decide +kernel) rfl ?_
  intro p e s m args below meth c s₁ B hml hv
  obtain ⟨rfl, hN, hK, hP⟩ := hv
  have hx := B.exec
  have hb := B.bytes
  have hr := B.returns
  have hts := er_hts (atoms_spec (ws := w_E_weight) B.pre)
  have hown : s.vm.findClass R_E = some m.cls := findClass_of_methodNamed B.named
  have hlocks := B.notSynchronized
  have hP : va_P (dC, dI) classes [(h0, .inr (1, [.ref h1, .ref h2, .ref h3, .long (er_ar X Y), .int wx, .int wy, .int ww, .int wh, .int wk, .int 1, .int lx, .int ly])), (h1, .inr (0, [.int (X 0), .int (Y 0), .int (D 0), .int (Q 0), .ref v0, .int (er_ex X Y 0), .int (er_ey X Y 0), .int (er_ea X Y 0), .int (er_ed X Y 0), .int (er_lw (er_ea X Y 0) (er_ed X Y 0))])), (h2, .inr (0, [.int (X 1), .int (Y 1), .int (D 1), .int (Q 1), .ref v1, .int (er_ex X Y 1), .int (er_ey X Y 1), .int (er_ea X Y 1), .int (er_ed X Y 1), .int (er_lw (er_ea X Y 1) (er_ed X Y 1))])), (h3, .inr (0, [.int (X 2), .int (Y 2), .int (D 2), .int (Q 2), .ref v2, .int (er_ex X Y 2), .int (er_ey X Y 2), .int (er_ea X Y 2), .int (er_ed X Y 2), .int (er_lw (er_ea X Y 2) (er_ed X Y 2))]))] s.heap := hP
  have hl := lv_entry ([.ref h0, .int 0]) (n := 2) (Nat.le_of_ble_eq_true rfl)
  rw [lg_entry_eq]
  generalize (lg_sl ([.ref h0, .int 0]) ++ List.replicate (2 - (lg_sl ([.ref h0, .int 0])).length) Slot.unset).toArray = ls at hl ⊢
  have hl : lv_has ls 2 [(0, .ref h0), (1, .int 0)] := hl
  have u1 : er_win 0 0 2 = true := by decide
  refine lv_iload_n hx hb d_E_weight_0 rfl (lv_at hl 1 rfl) ?_
  have hPc := hP.sub (ws' := []) [] rfl
  have hKc := hK.sub (tys' := []) [] rfl
  refine vp_callSi (va_runS (As := [.int 0]) (rest := []) ⟨hx, hb, hml, hown, hts⟩ (c_E_isCorner l dC dI 0) (va_cwS 1 hts (er_gS k_137 k_138 k_18 k_139) rfl rfl rfl (by decide +kernel) ⟨Nat.le_of_ble_eq_true rfl, Nat.le_of_ble_eq_true rfl⟩) ⟨PP.blind, PP.at hN hKc hPc⟩ rfl rfl hl.1 rfl (lv_room (Nat.le_of_ble_eq_true rfl)) d_E_weight_1 ⟨Nat.zero_le _, Nat.zero_le _⟩).run (fun r_1 hr_1 => ?_)
  obtain rfl : er_b (er_win 0 0 2) = r_1 := Eq.symm hr_1
  refine lv_if_ne (tgt := 17) hx hb d_E_weight_4 (by decide) (fun c_2 => ?_) (fun c_2 => ?_)
  · have c_2 := er_b_n.mp c_2
    refine lv_aload_n hx hb d_E_weight_17 rfl (lv_at hl 0 rfl) ?_
    refine va_get (D := (dC, dI)) (ci := 1) (v := .int 1) (C := R_E) (T := F_E) (N := 12) hx hb hts i_E hown hK hP 0 rfl rfl 9 (by decide) (hts _ k_81) (fun _ h9 => h9) rfl d_E_weight_18 ?_
    refine lv_if_ne (tgt := 34) hx hb d_E_weight_21 (by decide) (fun _ => ?_) (fun c_3 => absurd c_3 (by decide))
    refine lv_aload_n hx hb d_E_weight_34 rfl (lv_at hl 0 rfl) ?_
    refine lv_iload_n hx hb d_E_weight_35 rfl (lv_at hl 1 rfl) ?_
    have hPc := hP.sub (ws' := [(h0, .inr (1, [.ref h1, .ref h2, .ref h3, .long (er_ar X Y), .int wx, .int wy, .int ww, .int wh, .int wk, .int 1, .int lx, .int ly]))]) [0] rfl
    have hKc := hK.sub (tys' := []) [] rfl
    refine va_csr (va_runV (As := [.int 0]) (rest := []) ⟨hx, hb, hml, hown, hts⟩ (c_E_cornerOf0 l dC dI h0 h1 h2 h3 (er_ar X Y) wx wy ww wh wk 1 lx ly) (cwV 1 hts (er_gV k_200 k_201 k_4 k_18 k_202) rfl rfl rfl (by decide +kernel) ⟨Nat.le_of_ble_eq_true rfl, Nat.le_of_ble_eq_true rfl⟩) ⟨PP.blind, va_recv hKc hPc (ci := 1) (q0 := 0) rfl rfl, PP.at hN hKc hPc⟩ rfl rfl hl.1 rfl (lv_room (Nat.le_of_ble_eq_true rfl)) d_E_weight_36 ⟨Nat.zero_le _, Nat.zero_le _⟩).run (fun r_4 hr_4 => ?_)
    obtain rfl : h1 = r_4 := Eq.symm hr_4
    refine lv_aload_n hx hb d_E_weight_39 rfl (lv_at hl 0 rfl) ?_
    refine va_get (D := (dC, dI)) (ci := 1) (v := .int lx) (C := R_E) (T := F_E) (N := 12) hx hb hts i_E hown hK hP 0 rfl rfl 10 (by decide) (hts _ k_82) (fun _ h9 => h9) rfl d_E_weight_40 ?_
    refine lv_aload_n hx hb d_E_weight_43 rfl (lv_at hl 0 rfl) ?_
    refine va_get (D := (dC, dI)) (ci := 1) (v := .int ly) (C := R_E) (T := F_E) (N := 12) hx hb hts i_E hown hK hP 0 rfl rfl 11 (by decide) (hts _ k_83) (fun _ h9 => h9) rfl d_E_weight_44 ?_
    have hPc := hP.sub (ws' := [(h1, .inr (0, [.int (X 0), .int (Y 0), .int (D 0), .int (Q 0), .ref v0, .int (er_ex X Y 0), .int (er_ey X Y 0), .int (er_ea X Y 0), .int (er_ed X Y 0), .int (er_lw (er_ea X Y 0) (er_ed X Y 0))]))]) [1] rfl
    have hKc := hK.sub (tys' := []) [] rfl
    refine vp_callSl (va_runVN (As := [.int lx, .int ly]) (rest := []) ⟨hx, hb, hml, hown, hts⟩ (c_C_weightAt l dC dI h1 v0 (X 0) (Y 0) (D 0) (Q 0) (er_ex X Y 0) (er_ey X Y 0) (er_ea X Y 0) (er_ed X Y 0) (er_lw (er_ea X Y 0) (er_ed X Y 0)) lx ly) ⟨va_cnB 2 hts (er_gB k_124) rfl rfl rfl (hN _ kn_8) (hts _ k_19) (by decide +kernel) ⟨Nat.le_of_ble_eq_true rfl, Nat.le_of_ble_eq_true rfl⟩, hts _ k_123, hts _ k_2⟩ ⟨PP.blind, va_recv hKc hPc (ci := 0) (q0 := 0) rfl rfl, PP.at hN hKc hPc⟩ rfl rfl hl.1 rfl (lv_room (Nat.le_of_ble_eq_true rfl)) d_E_weight_47 ⟨Nat.zero_le _, Nat.zero_le _⟩).run (fun r_5 hr_5 => ?_)
    obtain rfl : er_wt (er_ex X Y 0) (er_ey X Y 0) (er_ea X Y 0) (er_ed X Y 0) lx ly = r_5 := Eq.symm hr_5
    exact W.lret (v := er_wt (er_ex X Y 0) (er_ey X Y 0) (er_ea X Y 0) (er_ed X Y 0) lx ly) hx hb hr (fun u9 ht hW => ⟨_, rfl, rfl, ht⟩) (fun q hq => by cases hq) d_E_weight_50
  · have c_2 := er_b_0.mp c_2
    exact absurd c_2 (by simp_all)

set_option maxHeartbeats 1000000 in
set_option maxRecDepth 100000 in
theorem c_E_weight1 (l : Launch) (dC : Nat → ClassId) (dI : Nat → Nat → Nat) (h0 h1 h2 h3 v0 v1 v2 : Nat) (X Y D Q : Nat → Int32) (wx wy ww wh wk lx ly : Int32) : Met l y_E_weight w_E_weight ({ frames := 6, cells := 0, slots := 0, locals := 82 }) (va_Pc [.ref h0, .int 1] (PP dC dI [] [(h0, .inr (1, [.ref h1, .ref h2, .ref h3, .long (er_ar X Y), .int wx, .int wy, .int ww, .int wh, .int wk, .int 1, .int lx, .int ly])), (h1, .inr (0, [.int (X 0), .int (Y 0), .int (D 0), .int (Q 0), .ref v0, .int (er_ex X Y 0), .int (er_ey X Y 0), .int (er_ea X Y 0), .int (er_ed X Y 0), .int (er_lw (er_ea X Y 0) (er_ed X Y 0))])), (h2, .inr (0, [.int (X 1), .int (Y 1), .int (D 1), .int (Q 1), .ref v1, .int (er_ex X Y 1), .int (er_ey X Y 1), .int (er_ea X Y 1), .int (er_ed X Y 1), .int (er_lw (er_ea X Y 1) (er_ed X Y 1))])), (h3, .inr (0, [.int (X 2), .int (Y 2), .int (D 2), .int (Q 2), .ref v2, .int (er_ex X Y 2), .int (er_ey X Y 2), .int (er_ea X Y 2), .int (er_ed X Y 2), .int (er_lw (er_ea X Y 2) (er_ed X Y 2))]))])) (vp_Sl (fun r : Int64 => r = er_W X Y 1 lx ly)) 0 0 (fun _ => False) := by
  refine Met.ofW (cc := b_E_weight) (maxL := 2) (ret := (some .long)) (by decide +kernel) rfl ?_
  intro p e s m args below meth c s₁ B hml hv
  obtain ⟨rfl, hN, hK, hP⟩ := hv
  have hx := B.exec
  have hb := B.bytes
  have hr := B.returns
  have hts := er_hts (atoms_spec (ws := w_E_weight) B.pre)
  have hown : s.vm.findClass R_E = some m.cls := findClass_of_methodNamed B.named
  have hlocks := B.notSynchronized
  have hP : va_P (dC, dI) classes [(h0, .inr (1, [.ref h1, .ref h2, .ref h3, .long (er_ar X Y), .int wx, .int wy, .int ww, .int wh, .int wk, .int 1, .int lx, .int ly])), (h1, .inr (0, [.int (X 0), .int (Y 0), .int (D 0), .int (Q 0), .ref v0, .int (er_ex X Y 0), .int (er_ey X Y 0), .int (er_ea X Y 0), .int (er_ed X Y 0), .int (er_lw (er_ea X Y 0) (er_ed X Y 0))])), (h2, .inr (0, [.int (X 1), .int (Y 1), .int (D 1), .int (Q 1), .ref v1, .int (er_ex X Y 1), .int (er_ey X Y 1), .int (er_ea X Y 1), .int (er_ed X Y 1), .int (er_lw (er_ea X Y 1) (er_ed X Y 1))])), (h3, .inr (0, [.int (X 2), .int (Y 2), .int (D 2), .int (Q 2), .ref v2, .int (er_ex X Y 2), .int (er_ey X Y 2), .int (er_ea X Y 2), .int (er_ed X Y 2), .int (er_lw (er_ea X Y 2) (er_ed X Y 2))]))] s.heap := hP
  have hl := lv_entry ([.ref h0, .int 1]) (n := 2) (Nat.le_of_ble_eq_true rfl)
  rw [lg_entry_eq]
  generalize (lg_sl ([.ref h0, .int 1]) ++ List.replicate (2 - (lg_sl ([.ref h0, .int 1])).length) Slot.unset).toArray = ls at hl ⊢
  have hl : lv_has ls 2 [(0, .ref h0), (1, .int 1)] := hl
  have u1 : er_win 1 0 2 = true := by decide
  refine lv_iload_n hx hb d_E_weight_0 rfl (lv_at hl 1 rfl) ?_
  have hPc := hP.sub (ws' := []) [] rfl
  have hKc := hK.sub (tys' := []) [] rfl
  refine vp_callSi (va_runS (As := [.int 1]) (rest := []) ⟨hx, hb, hml, hown, hts⟩ (c_E_isCorner l dC dI 1) (va_cwS 1 hts (er_gS k_137 k_138 k_18 k_139) rfl rfl rfl (by decide +kernel) ⟨Nat.le_of_ble_eq_true rfl, Nat.le_of_ble_eq_true rfl⟩) ⟨PP.blind, PP.at hN hKc hPc⟩ rfl rfl hl.1 rfl (lv_room (Nat.le_of_ble_eq_true rfl)) d_E_weight_1 ⟨Nat.zero_le _, Nat.zero_le _⟩).run (fun r_1 hr_1 => ?_)
  obtain rfl : er_b (er_win 1 0 2) = r_1 := Eq.symm hr_1
  refine lv_if_ne (tgt := 17) hx hb d_E_weight_4 (by decide) (fun c_2 => ?_) (fun c_2 => ?_)
  · have c_2 := er_b_n.mp c_2
    refine lv_aload_n hx hb d_E_weight_17 rfl (lv_at hl 0 rfl) ?_
    refine va_get (D := (dC, dI)) (ci := 1) (v := .int 1) (C := R_E) (T := F_E) (N := 12) hx hb hts i_E hown hK hP 0 rfl rfl 9 (by decide) (hts _ k_81) (fun _ h9 => h9) rfl d_E_weight_18 ?_
    refine lv_if_ne (tgt := 34) hx hb d_E_weight_21 (by decide) (fun _ => ?_) (fun c_3 => absurd c_3 (by decide))
    refine lv_aload_n hx hb d_E_weight_34 rfl (lv_at hl 0 rfl) ?_
    refine lv_iload_n hx hb d_E_weight_35 rfl (lv_at hl 1 rfl) ?_
    have hPc := hP.sub (ws' := [(h0, .inr (1, [.ref h1, .ref h2, .ref h3, .long (er_ar X Y), .int wx, .int wy, .int ww, .int wh, .int wk, .int 1, .int lx, .int ly]))]) [0] rfl
    have hKc := hK.sub (tys' := []) [] rfl
    refine va_csr (va_runV (As := [.int 1]) (rest := []) ⟨hx, hb, hml, hown, hts⟩ (c_E_cornerOf1 l dC dI h0 h1 h2 h3 (er_ar X Y) wx wy ww wh wk 1 lx ly) (cwV 1 hts (er_gV k_200 k_201 k_4 k_18 k_202) rfl rfl rfl (by decide +kernel) ⟨Nat.le_of_ble_eq_true rfl, Nat.le_of_ble_eq_true rfl⟩) ⟨PP.blind, va_recv hKc hPc (ci := 1) (q0 := 0) rfl rfl, PP.at hN hKc hPc⟩ rfl rfl hl.1 rfl (lv_room (Nat.le_of_ble_eq_true rfl)) d_E_weight_36 ⟨Nat.zero_le _, Nat.zero_le _⟩).run (fun r_4 hr_4 => ?_)
    obtain rfl : h2 = r_4 := Eq.symm hr_4
    refine lv_aload_n hx hb d_E_weight_39 rfl (lv_at hl 0 rfl) ?_
    refine va_get (D := (dC, dI)) (ci := 1) (v := .int lx) (C := R_E) (T := F_E) (N := 12) hx hb hts i_E hown hK hP 0 rfl rfl 10 (by decide) (hts _ k_82) (fun _ h9 => h9) rfl d_E_weight_40 ?_
    refine lv_aload_n hx hb d_E_weight_43 rfl (lv_at hl 0 rfl) ?_
    refine va_get (D := (dC, dI)) (ci := 1) (v := .int ly) (C := R_E) (T := F_E) (N := 12) hx hb hts i_E hown hK hP 0 rfl rfl 11 (by decide) (hts _ k_83) (fun _ h9 => h9) rfl d_E_weight_44 ?_
    have hPc := hP.sub (ws' := [(h2, .inr (0, [.int (X 1), .int (Y 1), .int (D 1), .int (Q 1), .ref v1, .int (er_ex X Y 1), .int (er_ey X Y 1), .int (er_ea X Y 1), .int (er_ed X Y 1), .int (er_lw (er_ea X Y 1) (er_ed X Y 1))]))]) [2] rfl
    have hKc := hK.sub (tys' := []) [] rfl
    refine vp_callSl (va_runVN (As := [.int lx, .int ly]) (rest := []) ⟨hx, hb, hml, hown, hts⟩ (c_C_weightAt l dC dI h2 v1 (X 1) (Y 1) (D 1) (Q 1) (er_ex X Y 1) (er_ey X Y 1) (er_ea X Y 1) (er_ed X Y 1) (er_lw (er_ea X Y 1) (er_ed X Y 1)) lx ly) ⟨va_cnB 2 hts (er_gB k_124) rfl rfl rfl (hN _ kn_8) (hts _ k_19) (by decide +kernel) ⟨Nat.le_of_ble_eq_true rfl, Nat.le_of_ble_eq_true rfl⟩, hts _ k_123, hts _ k_2⟩ ⟨PP.blind, va_recv hKc hPc (ci := 0) (q0 := 0) rfl rfl, PP.at hN hKc hPc⟩ rfl rfl hl.1 rfl (lv_room (Nat.le_of_ble_eq_true rfl)) d_E_weight_47 ⟨Nat.zero_le _, Nat.zero_le _⟩).run (fun r_5 hr_5 => ?_)
    obtain rfl : er_wt (er_ex X Y 1) (er_ey X Y 1) (er_ea X Y 1) (er_ed X Y 1) lx ly = r_5 := Eq.symm hr_5
    exact W.lret (v := er_wt (er_ex X Y 1) (er_ey X Y 1) (er_ea X Y 1) (er_ed X Y 1) lx ly) hx hb hr (fun u9 ht hW => ⟨_, rfl, rfl, ht⟩) (fun q hq => by cases hq) d_E_weight_50
  · have c_2 := er_b_0.mp c_2
    exact absurd c_2 (by simp_all)

set_option maxHeartbeats 1000000 in
set_option maxRecDepth 100000 in
theorem c_E_weight2 (l : Launch) (dC : Nat → ClassId) (dI : Nat → Nat → Nat) (h0 h1 h2 h3 v0 v1 v2 : Nat) (X Y D Q : Nat → Int32) (wx wy ww wh wk lx ly : Int32) : Met l y_E_weight w_E_weight ({ frames := 6, cells := 0, slots := 0, locals := 82 }) (va_Pc [.ref h0, .int 2] (PP dC dI [] [(h0, .inr (1, [.ref h1, .ref h2, .ref h3, .long (er_ar X Y), .int wx, .int wy, .int ww, .int wh, .int wk, .int 1, .int lx, .int ly])), (h1, .inr (0, [.int (X 0), .int (Y 0), .int (D 0), .int (Q 0), .ref v0, .int (er_ex X Y 0), .int (er_ey X Y 0), .int (er_ea X Y 0), .int (er_ed X Y 0), .int (er_lw (er_ea X Y 0) (er_ed X Y 0))])), (h2, .inr (0, [.int (X 1), .int (Y 1), .int (D 1), .int (Q 1), .ref v1, .int (er_ex X Y 1), .int (er_ey X Y 1), .int (er_ea X Y 1), .int (er_ed X Y 1), .int (er_lw (er_ea X Y 1) (er_ed X Y 1))])), (h3, .inr (0, [.int (X 2), .int (Y 2), .int (D 2), .int (Q 2), .ref v2, .int (er_ex X Y 2), .int (er_ey X Y 2), .int (er_ea X Y 2), .int (er_ed X Y 2), .int (er_lw (er_ea X Y 2) (er_ed X Y 2))]))])) (vp_Sl (fun r : Int64 => r = er_W X Y 2 lx ly)) 0 0 (fun _ => False) := by
  refine Met.ofW (cc := b_E_weight) (maxL := 2) (ret := (some .long)) (by decide +kernel) rfl ?_
  intro p e s m args below meth c s₁ B hml hv
  obtain ⟨rfl, hN, hK, hP⟩ := hv
  have hx := B.exec
  have hb := B.bytes
  have hr := B.returns
  have hts := er_hts (atoms_spec (ws := w_E_weight) B.pre)
  have hown : s.vm.findClass R_E = some m.cls := findClass_of_methodNamed B.named
  have hlocks := B.notSynchronized
  have hP : va_P (dC, dI) classes [(h0, .inr (1, [.ref h1, .ref h2, .ref h3, .long (er_ar X Y), .int wx, .int wy, .int ww, .int wh, .int wk, .int 1, .int lx, .int ly])), (h1, .inr (0, [.int (X 0), .int (Y 0), .int (D 0), .int (Q 0), .ref v0, .int (er_ex X Y 0), .int (er_ey X Y 0), .int (er_ea X Y 0), .int (er_ed X Y 0), .int (er_lw (er_ea X Y 0) (er_ed X Y 0))])), (h2, .inr (0, [.int (X 1), .int (Y 1), .int (D 1), .int (Q 1), .ref v1, .int (er_ex X Y 1), .int (er_ey X Y 1), .int (er_ea X Y 1), .int (er_ed X Y 1), .int (er_lw (er_ea X Y 1) (er_ed X Y 1))])), (h3, .inr (0, [.int (X 2), .int (Y 2), .int (D 2), .int (Q 2), .ref v2, .int (er_ex X Y 2), .int (er_ey X Y 2), .int (er_ea X Y 2), .int (er_ed X Y 2), .int (er_lw (er_ea X Y 2) (er_ed X Y 2))]))] s.heap := hP
  have hl := lv_entry ([.ref h0, .int 2]) (n := 2) (Nat.le_of_ble_eq_true rfl)
  rw [lg_entry_eq]
  generalize (lg_sl ([.ref h0, .int 2]) ++ List.replicate (2 - (lg_sl ([.ref h0, .int 2])).length) Slot.unset).toArray = ls at hl ⊢
  have hl : lv_has ls 2 [(0, .ref h0), (1, .int 2)] := hl
  have u1 : er_win 2 0 2 = true := by decide
  refine lv_iload_n hx hb d_E_weight_0 rfl (lv_at hl 1 rfl) ?_
  have hPc := hP.sub (ws' := []) [] rfl
  have hKc := hK.sub (tys' := []) [] rfl
  refine vp_callSi (va_runS (As := [.int 2]) (rest := []) ⟨hx, hb, hml, hown, hts⟩ (c_E_isCorner l dC dI 2) (va_cwS 1 hts (er_gS k_137 k_138 k_18 k_139) rfl rfl rfl (by decide +kernel) ⟨Nat.le_of_ble_eq_true rfl, Nat.le_of_ble_eq_true rfl⟩) ⟨PP.blind, PP.at hN hKc hPc⟩ rfl rfl hl.1 rfl (lv_room (Nat.le_of_ble_eq_true rfl)) d_E_weight_1 ⟨Nat.zero_le _, Nat.zero_le _⟩).run (fun r_1 hr_1 => ?_)
  obtain rfl : er_b (er_win 2 0 2) = r_1 := Eq.symm hr_1
  refine lv_if_ne (tgt := 17) hx hb d_E_weight_4 (by decide) (fun c_2 => ?_) (fun c_2 => ?_)
  · have c_2 := er_b_n.mp c_2
    refine lv_aload_n hx hb d_E_weight_17 rfl (lv_at hl 0 rfl) ?_
    refine va_get (D := (dC, dI)) (ci := 1) (v := .int 1) (C := R_E) (T := F_E) (N := 12) hx hb hts i_E hown hK hP 0 rfl rfl 9 (by decide) (hts _ k_81) (fun _ h9 => h9) rfl d_E_weight_18 ?_
    refine lv_if_ne (tgt := 34) hx hb d_E_weight_21 (by decide) (fun _ => ?_) (fun c_3 => absurd c_3 (by decide))
    refine lv_aload_n hx hb d_E_weight_34 rfl (lv_at hl 0 rfl) ?_
    refine lv_iload_n hx hb d_E_weight_35 rfl (lv_at hl 1 rfl) ?_
    have hPc := hP.sub (ws' := [(h0, .inr (1, [.ref h1, .ref h2, .ref h3, .long (er_ar X Y), .int wx, .int wy, .int ww, .int wh, .int wk, .int 1, .int lx, .int ly]))]) [0] rfl
    have hKc := hK.sub (tys' := []) [] rfl
    refine va_csr (va_runV (As := [.int 2]) (rest := []) ⟨hx, hb, hml, hown, hts⟩ (c_E_cornerOf2 l dC dI h0 h1 h2 h3 (er_ar X Y) wx wy ww wh wk 1 lx ly) (cwV 1 hts (er_gV k_200 k_201 k_4 k_18 k_202) rfl rfl rfl (by decide +kernel) ⟨Nat.le_of_ble_eq_true rfl, Nat.le_of_ble_eq_true rfl⟩) ⟨PP.blind, va_recv hKc hPc (ci := 1) (q0 := 0) rfl rfl, PP.at hN hKc hPc⟩ rfl rfl hl.1 rfl (lv_room (Nat.le_of_ble_eq_true rfl)) d_E_weight_36 ⟨Nat.zero_le _, Nat.zero_le _⟩).run (fun r_4 hr_4 => ?_)
    obtain rfl : h3 = r_4 := Eq.symm hr_4
    refine lv_aload_n hx hb d_E_weight_39 rfl (lv_at hl 0 rfl) ?_
    refine va_get (D := (dC, dI)) (ci := 1) (v := .int lx) (C := R_E) (T := F_E) (N := 12) hx hb hts i_E hown hK hP 0 rfl rfl 10 (by decide) (hts _ k_82) (fun _ h9 => h9) rfl d_E_weight_40 ?_
    refine lv_aload_n hx hb d_E_weight_43 rfl (lv_at hl 0 rfl) ?_
    refine va_get (D := (dC, dI)) (ci := 1) (v := .int ly) (C := R_E) (T := F_E) (N := 12) hx hb hts i_E hown hK hP 0 rfl rfl 11 (by decide) (hts _ k_83) (fun _ h9 => h9) rfl d_E_weight_44 ?_
    have hPc := hP.sub (ws' := [(h3, .inr (0, [.int (X 2), .int (Y 2), .int (D 2), .int (Q 2), .ref v2, .int (er_ex X Y 2), .int (er_ey X Y 2), .int (er_ea X Y 2), .int (er_ed X Y 2), .int (er_lw (er_ea X Y 2) (er_ed X Y 2))]))]) [3] rfl
    have hKc := hK.sub (tys' := []) [] rfl
    refine vp_callSl (va_runVN (As := [.int lx, .int ly]) (rest := []) ⟨hx, hb, hml, hown, hts⟩ (c_C_weightAt l dC dI h3 v2 (X 2) (Y 2) (D 2) (Q 2) (er_ex X Y 2) (er_ey X Y 2) (er_ea X Y 2) (er_ed X Y 2) (er_lw (er_ea X Y 2) (er_ed X Y 2)) lx ly) ⟨va_cnB 2 hts (er_gB k_124) rfl rfl rfl (hN _ kn_8) (hts _ k_19) (by decide +kernel) ⟨Nat.le_of_ble_eq_true rfl, Nat.le_of_ble_eq_true rfl⟩, hts _ k_123, hts _ k_2⟩ ⟨PP.blind, va_recv hKc hPc (ci := 0) (q0 := 0) rfl rfl, PP.at hN hKc hPc⟩ rfl rfl hl.1 rfl (lv_room (Nat.le_of_ble_eq_true rfl)) d_E_weight_47 ⟨Nat.zero_le _, Nat.zero_le _⟩).run (fun r_5 hr_5 => ?_)
    obtain rfl : er_wt (er_ex X Y 2) (er_ey X Y 2) (er_ea X Y 2) (er_ed X Y 2) lx ly = r_5 := Eq.symm hr_5
    exact W.lret (v := er_wt (er_ex X Y 2) (er_ey X Y 2) (er_ea X Y 2) (er_ed X Y 2) lx ly) hx hb hr (fun u9 ht hW => ⟨_, rfl, rfl, ht⟩) (fun q hq => by cases hq) d_E_weight_50
  · have c_2 := er_b_0.mp c_2
    exact absurd c_2 (by simp_all)

set_option maxHeartbeats 1000000 in
set_option maxRecDepth 100000 in
theorem c_E_depth (l : Launch) (dC : Nat → ClassId) (dI : Nat → Nat → Nat) (h0 h1 h2 h3 v0 v1 v2 : Nat) (X Y D Q : Nat → Int32) (wx wy ww wh wk lx ly : Int32) : Met l y_E_depth w_E_depth ({ frames := 6, cells := 0, slots := 0, locals := 100 }) (va_Pc [.ref h0] (PP dC dI [] [(h0, .inr (1, [.ref h1, .ref h2, .ref h3, .long (er_ar X Y), .int wx, .int wy, .int ww, .int wh, .int wk, .int 1, .int lx, .int ly])), (h1, .inr (0, [.int (X 0), .int (Y 0), .int (D 0), .int (Q 0), .ref v0, .int (er_ex X Y 0), .int (er_ey X Y 0), .int (er_ea X Y 0), .int (er_ed X Y 0), .int (er_lw (er_ea X Y 0) (er_ed X Y 0))])), (h2, .inr (0, [.int (X 1), .int (Y 1), .int (D 1), .int (Q 1), .ref v1, .int (er_ex X Y 1), .int (er_ey X Y 1), .int (er_ea X Y 1), .int (er_ed X Y 1), .int (er_lw (er_ea X Y 1) (er_ed X Y 1))])), (h3, .inr (0, [.int (X 2), .int (Y 2), .int (D 2), .int (Q 2), .ref v2, .int (er_ex X Y 2), .int (er_ey X Y 2), .int (er_ea X Y 2), .int (er_ed X Y 2), .int (er_lw (er_ea X Y 2) (er_ed X Y 2))]))])) (vp_Si (fun r : Int32 => r = (er_dd (er_ds X Y D lx ly) (er_abs (er_ar X Y))).toInt32)) 0 0 (fun _ => False) := by
  refine Met.ofW (cc := b_E_depth) (maxL := 3) (ret := (some .int)) (by decide +kernel) rfl ?_
  intro p e s m args below meth c s₁ B hml hv
  obtain ⟨rfl, hN, hK, hP⟩ := hv
  have hx := B.exec
  have hb := B.bytes
  have hr := B.returns
  have hts := er_hts (atoms_spec (ws := w_E_depth) B.pre)
  have hown : s.vm.findClass R_E = some m.cls := findClass_of_methodNamed B.named
  have hlocks := B.notSynchronized
  have hP : va_P (dC, dI) classes [(h0, .inr (1, [.ref h1, .ref h2, .ref h3, .long (er_ar X Y), .int wx, .int wy, .int ww, .int wh, .int wk, .int 1, .int lx, .int ly])), (h1, .inr (0, [.int (X 0), .int (Y 0), .int (D 0), .int (Q 0), .ref v0, .int (er_ex X Y 0), .int (er_ey X Y 0), .int (er_ea X Y 0), .int (er_ed X Y 0), .int (er_lw (er_ea X Y 0) (er_ed X Y 0))])), (h2, .inr (0, [.int (X 1), .int (Y 1), .int (D 1), .int (Q 1), .ref v1, .int (er_ex X Y 1), .int (er_ey X Y 1), .int (er_ea X Y 1), .int (er_ed X Y 1), .int (er_lw (er_ea X Y 1) (er_ed X Y 1))])), (h3, .inr (0, [.int (X 2), .int (Y 2), .int (D 2), .int (Q 2), .ref v2, .int (er_ex X Y 2), .int (er_ey X Y 2), .int (er_ea X Y 2), .int (er_ed X Y 2), .int (er_lw (er_ea X Y 2) (er_ed X Y 2))]))] s.heap := hP
  have hl := lv_entry ([.ref h0]) (n := 3) (Nat.le_of_ble_eq_true rfl)
  rw [lg_entry_eq]
  generalize (lg_sl ([.ref h0]) ++ List.replicate (3 - (lg_sl ([.ref h0])).length) Slot.unset).toArray = ls at hl ⊢
  have hl : lv_has ls 3 [(0, .ref h0)] := hl
  refine lv_aload_n hx hb d_E_depth_0 rfl (lv_at hl 0 rfl) ?_
  refine va_get (D := (dC, dI)) (ci := 1) (v := .int 1) (C := R_E) (T := F_E) (N := 12) hx hb hts i_E hown hK hP 0 rfl rfl 9 (by decide) (hts _ k_81) (fun _ h9 => h9) rfl d_E_depth_1 ?_
  refine lv_if_ne (tgt := 17) hx hb d_E_depth_4 (by decide) (fun _ => ?_) (fun c_1 => absurd c_1 (by decide))
  refine lv_aload_n hx hb d_E_depth_17 rfl (lv_at hl 0 rfl) ?_
  refine va_get (D := (dC, dI)) (ci := 1) (v := .ref h1) (C := R_E) (T := F_E) (N := 12) hx hb hts i_E hown hK hP 0 rfl rfl 0 (by decide) (hts _ k_72) (fun _ h9 => h9) rfl d_E_depth_18 ?_
  refine lv_aload_n hx hb d_E_depth_21 rfl (lv_at hl 0 rfl) ?_
  refine va_get (D := (dC, dI)) (ci := 1) (v := .int lx) (C := R_E) (T := F_E) (N := 12) hx hb hts i_E hown hK hP 0 rfl rfl 10 (by decide) (hts _ k_82) (fun _ h9 => h9) rfl d_E_depth_22 ?_
  refine lv_aload_n hx hb d_E_depth_25 rfl (lv_at hl 0 rfl) ?_
  refine va_get (D := (dC, dI)) (ci := 1) (v := .int ly) (C := R_E) (T := F_E) (N := 12) hx hb hts i_E hown hK hP 0 rfl rfl 11 (by decide) (hts _ k_83) (fun _ h9 => h9) rfl d_E_depth_26 ?_
  have hPc := hP.sub (ws' := [(h1, .inr (0, [.int (X 0), .int (Y 0), .int (D 0), .int (Q 0), .ref v0, .int (er_ex X Y 0), .int (er_ey X Y 0), .int (er_ea X Y 0), .int (er_ed X Y 0), .int (er_lw (er_ea X Y 0) (er_ed X Y 0))]))]) [1] rfl
  have hKc := hK.sub (tys' := []) [] rfl
  refine vp_callSl (va_runVN (As := [.int lx, .int ly]) (rest := []) ⟨hx, hb, hml, hown, hts⟩ (c_C_weightAt l dC dI h1 v0 (X 0) (Y 0) (D 0) (Q 0) (er_ex X Y 0) (er_ey X Y 0) (er_ea X Y 0) (er_ed X Y 0) (er_lw (er_ea X Y 0) (er_ed X Y 0)) lx ly) ⟨va_cnB 2 hts (er_gB k_124) rfl rfl rfl (hN _ kn_8) (hts _ k_19) (by decide +kernel) ⟨Nat.le_of_ble_eq_true rfl, Nat.le_of_ble_eq_true rfl⟩, hts _ k_123, hts _ k_2⟩ ⟨PP.blind, va_recv hKc hPc (ci := 0) (q0 := 0) rfl rfl, PP.at hN hKc hPc⟩ rfl rfl hl.1 rfl (lv_room (Nat.le_of_ble_eq_true rfl)) d_E_depth_29 ⟨Nat.zero_le _, Nat.zero_le _⟩).run (fun r_2 hr_2 => ?_)
  obtain rfl : er_wt (er_ex X Y 0) (er_ey X Y 0) (er_ea X Y 0) (er_ed X Y 0) lx ly = r_2 := Eq.symm hr_2
  refine lv_aload_n hx hb d_E_depth_32 rfl (lv_at hl 0 rfl) ?_
  refine va_get (D := (dC, dI)) (ci := 1) (v := .ref h1) (C := R_E) (T := F_E) (N := 12) hx hb hts i_E hown hK hP 0 rfl rfl 0 (by decide) (hts _ k_72) (fun _ h9 => h9) rfl d_E_depth_33 ?_
  refine va_getN (D := (dC, dI)) (ci := 0) (v := .int (D 0)) (C := R_C) (T := F_C) (N := 10) hx hb hts i_C hown hK hP 1 rfl rfl 2 (by decide) (va_Nw.use rfl (hN _ kn_3)) (fun _ h9 => h9) rfl d_E_depth_36 ?_
  refine lv_i2l (v := (D 0).toInt64) hx hb d_E_depth_39 rfl ?_
  refine lv_lmul hx hb d_E_depth_40 ?_
  refine lv_aload_n hx hb d_E_depth_41 rfl (lv_at hl 0 rfl) ?_
  refine va_get (D := (dC, dI)) (ci := 1) (v := .ref h2) (C := R_E) (T := F_E) (N := 12) hx hb hts i_E hown hK hP 0 rfl rfl 1 (by decide) (hts _ k_73) (fun _ h9 => h9) rfl d_E_depth_42 ?_
  refine lv_aload_n hx hb d_E_depth_45 rfl (lv_at hl 0 rfl) ?_
  refine va_get (D := (dC, dI)) (ci := 1) (v := .int lx) (C := R_E) (T := F_E) (N := 12) hx hb hts i_E hown hK hP 0 rfl rfl 10 (by decide) (hts _ k_82) (fun _ h9 => h9) rfl d_E_depth_46 ?_
  refine lv_aload_n hx hb d_E_depth_49 rfl (lv_at hl 0 rfl) ?_
  refine va_get (D := (dC, dI)) (ci := 1) (v := .int ly) (C := R_E) (T := F_E) (N := 12) hx hb hts i_E hown hK hP 0 rfl rfl 11 (by decide) (hts _ k_83) (fun _ h9 => h9) rfl d_E_depth_50 ?_
  have hPc := hP.sub (ws' := [(h2, .inr (0, [.int (X 1), .int (Y 1), .int (D 1), .int (Q 1), .ref v1, .int (er_ex X Y 1), .int (er_ey X Y 1), .int (er_ea X Y 1), .int (er_ed X Y 1), .int (er_lw (er_ea X Y 1) (er_ed X Y 1))]))]) [2] rfl
  have hKc := hK.sub (tys' := []) [] rfl
  refine vp_callSl (va_runVN (As := [.int lx, .int ly]) (rest := [.long ((er_wt (er_ex X Y 0) (er_ey X Y 0) (er_ea X Y 0) (er_ed X Y 0) lx ly) * ((D 0).toInt64))]) ⟨hx, hb, hml, hown, hts⟩ (c_C_weightAt l dC dI h2 v1 (X 1) (Y 1) (D 1) (Q 1) (er_ex X Y 1) (er_ey X Y 1) (er_ea X Y 1) (er_ed X Y 1) (er_lw (er_ea X Y 1) (er_ed X Y 1)) lx ly) ⟨va_cnB 2 hts (er_gB k_124) rfl rfl rfl (hN _ kn_8) (hts _ k_19) (by decide +kernel) ⟨Nat.le_of_ble_eq_true rfl, Nat.le_of_ble_eq_true rfl⟩, hts _ k_123, hts _ k_2⟩ ⟨PP.blind, va_recv hKc hPc (ci := 0) (q0 := 0) rfl rfl, PP.at hN hKc hPc⟩ rfl rfl hl.1 rfl (lv_room (Nat.le_of_ble_eq_true rfl)) d_E_depth_53 ⟨Nat.zero_le _, Nat.zero_le _⟩).run (fun r_3 hr_3 => ?_)
  obtain rfl : er_wt (er_ex X Y 1) (er_ey X Y 1) (er_ea X Y 1) (er_ed X Y 1) lx ly = r_3 := Eq.symm hr_3
  refine lv_aload_n hx hb d_E_depth_56 rfl (lv_at hl 0 rfl) ?_
  refine va_get (D := (dC, dI)) (ci := 1) (v := .ref h2) (C := R_E) (T := F_E) (N := 12) hx hb hts i_E hown hK hP 0 rfl rfl 1 (by decide) (hts _ k_73) (fun _ h9 => h9) rfl d_E_depth_57 ?_
  refine va_getN (D := (dC, dI)) (ci := 0) (v := .int (D 1)) (C := R_C) (T := F_C) (N := 10) hx hb hts i_C hown hK hP 2 rfl rfl 2 (by decide) (va_Nw.use rfl (hN _ kn_3)) (fun _ h9 => h9) rfl d_E_depth_60 ?_
  refine lv_i2l (v := (D 1).toInt64) hx hb d_E_depth_63 rfl ?_
  refine lv_lmul hx hb d_E_depth_64 ?_
  refine lv_ladd hx hb d_E_depth_65 ?_
  refine lv_aload_n hx hb d_E_depth_66 rfl (lv_at hl 0 rfl) ?_
  refine va_get (D := (dC, dI)) (ci := 1) (v := .ref h3) (C := R_E) (T := F_E) (N := 12) hx hb hts i_E hown hK hP 0 rfl rfl 2 (by decide) (hts _ k_74) (fun _ h9 => h9) rfl d_E_depth_67 ?_
  refine lv_aload_n hx hb d_E_depth_70 rfl (lv_at hl 0 rfl) ?_
  refine va_get (D := (dC, dI)) (ci := 1) (v := .int lx) (C := R_E) (T := F_E) (N := 12) hx hb hts i_E hown hK hP 0 rfl rfl 10 (by decide) (hts _ k_82) (fun _ h9 => h9) rfl d_E_depth_71 ?_
  refine lv_aload_n hx hb d_E_depth_74 rfl (lv_at hl 0 rfl) ?_
  refine va_get (D := (dC, dI)) (ci := 1) (v := .int ly) (C := R_E) (T := F_E) (N := 12) hx hb hts i_E hown hK hP 0 rfl rfl 11 (by decide) (hts _ k_83) (fun _ h9 => h9) rfl d_E_depth_75 ?_
  have hPc := hP.sub (ws' := [(h3, .inr (0, [.int (X 2), .int (Y 2), .int (D 2), .int (Q 2), .ref v2, .int (er_ex X Y 2), .int (er_ey X Y 2), .int (er_ea X Y 2), .int (er_ed X Y 2), .int (er_lw (er_ea X Y 2) (er_ed X Y 2))]))]) [3] rfl
  have hKc := hK.sub (tys' := []) [] rfl
  refine vp_callSl (va_runVN (As := [.int lx, .int ly]) (rest := [.long (((er_wt (er_ex X Y 0) (er_ey X Y 0) (er_ea X Y 0) (er_ed X Y 0) lx ly) * ((D 0).toInt64)) + ((er_wt (er_ex X Y 1) (er_ey X Y 1) (er_ea X Y 1) (er_ed X Y 1) lx ly) * ((D 1).toInt64)))]) ⟨hx, hb, hml, hown, hts⟩ (c_C_weightAt l dC dI h3 v2 (X 2) (Y 2) (D 2) (Q 2) (er_ex X Y 2) (er_ey X Y 2) (er_ea X Y 2) (er_ed X Y 2) (er_lw (er_ea X Y 2) (er_ed X Y 2)) lx ly) ⟨va_cnB 2 hts (er_gB k_124) rfl rfl rfl (hN _ kn_8) (hts _ k_19) (by decide +kernel) ⟨Nat.le_of_ble_eq_true rfl, Nat.le_of_ble_eq_true rfl⟩, hts _ k_123, hts _ k_2⟩ ⟨PP.blind, va_recv hKc hPc (ci := 0) (q0 := 0) rfl rfl, PP.at hN hKc hPc⟩ rfl rfl hl.1 rfl (lv_room (Nat.le_of_ble_eq_true rfl)) d_E_depth_78 ⟨Nat.zero_le _, Nat.zero_le _⟩).run (fun r_4 hr_4 => ?_)
  obtain rfl : er_wt (er_ex X Y 2) (er_ey X Y 2) (er_ea X Y 2) (er_ed X Y 2) lx ly = r_4 := Eq.symm hr_4
  refine lv_aload_n hx hb d_E_depth_81 rfl (lv_at hl 0 rfl) ?_
  refine va_get (D := (dC, dI)) (ci := 1) (v := .ref h3) (C := R_E) (T := F_E) (N := 12) hx hb hts i_E hown hK hP 0 rfl rfl 2 (by decide) (hts _ k_74) (fun _ h9 => h9) rfl d_E_depth_82 ?_
  refine va_getN (D := (dC, dI)) (ci := 0) (v := .int (D 2)) (C := R_C) (T := F_C) (N := 10) hx hb hts i_C hown hK hP 3 rfl rfl 2 (by decide) (va_Nw.use rfl (hN _ kn_3)) (fun _ h9 => h9) rfl d_E_depth_85 ?_
  refine lv_i2l (v := (D 2).toInt64) hx hb d_E_depth_88 rfl ?_
  refine lv_lmul hx hb d_E_depth_89 ?_
  refine lv_ladd hx hb d_E_depth_90 ?_
  refine lv_lstore_n (lv' := [(1, .long ((((er_wt (er_ex X Y 0) (er_ey X Y 0) (er_ea X Y 0) (er_ed X Y 0) lx ly) * ((D 0).toInt64)) + ((er_wt (er_ex X Y 1) (er_ey X Y 1) (er_ea X Y 1) (er_ed X Y 1) lx ly) * ((D 1).toInt64))) + ((er_wt (er_ex X Y 2) (er_ey X Y 2) (er_ea X Y 2) (er_ed X Y 2) lx ly) * ((D 2).toInt64)))), (0, .ref h0)]) hx hb d_E_depth_91 rfl hl (by decide) rfl (fun ls hl => ?_)
  refine lv_lload_n hx hb d_E_depth_92 rfl (lv_at hl 0 rfl) ?_
  refine lv_aload_n hx hb d_E_depth_93 rfl (lv_at hl 1 rfl) ?_
  refine va_get (D := (dC, dI)) (ci := 1) (v := .long (er_ar X Y)) (C := R_E) (T := F_E) (N := 12) hx hb hts i_E hown hK hP 0 rfl rfl 3 (by decide) (hts _ k_75) (fun _ h9 => h9) rfl d_E_depth_94 ?_
  refine va_mabs_long hx hb (hml.trans hl.1.symm) hown (hts _ k_275) (hts _ k_276) (hts _ k_26) (hts _ k_277) (Nat.le_of_ble_eq_true rfl) (Nat.le_of_ble_eq_true rfl) (Nat.zero_le _) (Nat.zero_le _) d_E_depth_97 ?_
  have hPc := hP.sub (ws' := []) [] rfl
  have hKc := hK.sub (tys' := []) [] rfl
  refine vp_callSl (va_runS (As := [.long ((((er_wt (er_ex X Y 0) (er_ey X Y 0) (er_ea X Y 0) (er_ed X Y 0) lx ly) * ((D 0).toInt64)) + ((er_wt (er_ex X Y 1) (er_ey X Y 1) (er_ea X Y 1) (er_ed X Y 1) lx ly) * ((D 1).toInt64))) + ((er_wt (er_ex X Y 2) (er_ey X Y 2) (er_ea X Y 2) (er_ed X Y 2) lx ly) * ((D 2).toInt64))), .long (if 0 < (er_ar X Y) then (er_ar X Y) else -(er_ar X Y))]) (rest := []) ⟨hx, hb, hml, hown, hts⟩ (c_E_dividedDown l dC dI ((((er_wt (er_ex X Y 0) (er_ey X Y 0) (er_ea X Y 0) (er_ed X Y 0) lx ly) * ((D 0).toInt64)) + ((er_wt (er_ex X Y 1) (er_ey X Y 1) (er_ea X Y 1) (er_ed X Y 1) lx ly) * ((D 1).toInt64))) + ((er_wt (er_ex X Y 2) (er_ey X Y 2) (er_ea X Y 2) (er_ed X Y 2) lx ly) * ((D 2).toInt64))) (if 0 < (er_ar X Y) then (er_ar X Y) else -(er_ar X Y))) (va_cwS 2 hts (er_gS k_278 k_279 k_18 k_280) rfl rfl rfl (by decide +kernel) ⟨Nat.le_of_ble_eq_true rfl, Nat.le_of_ble_eq_true rfl⟩) ⟨PP.blind, PP.at hN hKc hPc⟩ rfl rfl hl.1 rfl (lv_room (Nat.le_of_ble_eq_true rfl)) d_E_depth_100 ⟨Nat.zero_le _, Nat.zero_le _⟩).run (fun r_5 hr_5 => ?_)
  obtain rfl : er_dd ((((er_wt (er_ex X Y 0) (er_ey X Y 0) (er_ea X Y 0) (er_ed X Y 0) lx ly) * ((D 0).toInt64)) + ((er_wt (er_ex X Y 1) (er_ey X Y 1) (er_ea X Y 1) (er_ed X Y 1) lx ly) * ((D 1).toInt64))) + ((er_wt (er_ex X Y 2) (er_ey X Y 2) (er_ea X Y 2) (er_ed X Y 2) lx ly) * ((D 2).toInt64))) (if 0 < (er_ar X Y) then (er_ar X Y) else -(er_ar X Y)) = r_5 := Eq.symm hr_5
  refine lv_l2i (v := (er_dd ((((er_wt (er_ex X Y 0) (er_ey X Y 0) (er_ea X Y 0) (er_ed X Y 0) lx ly) * ((D 0).toInt64)) + ((er_wt (er_ex X Y 1) (er_ey X Y 1) (er_ea X Y 1) (er_ed X Y 1) lx ly) * ((D 1).toInt64))) + ((er_wt (er_ex X Y 2) (er_ey X Y 2) (er_ea X Y 2) (er_ed X Y 2) lx ly) * ((D 2).toInt64))) (if 0 < (er_ar X Y) then (er_ar X Y) else -(er_ar X Y))).toInt32) hx hb d_E_depth_103 rfl ?_
  exact W.iret (v := (er_dd ((((er_wt (er_ex X Y 0) (er_ey X Y 0) (er_ea X Y 0) (er_ed X Y 0) lx ly) * ((D 0).toInt64)) + ((er_wt (er_ex X Y 1) (er_ey X Y 1) (er_ea X Y 1) (er_ed X Y 1) lx ly) * ((D 1).toInt64))) + ((er_wt (er_ex X Y 2) (er_ey X Y 2) (er_ea X Y 2) (er_ed X Y 2) lx ly) * ((D 2).toInt64))) (if 0 < (er_ar X Y) then (er_ar X Y) else -(er_ar X Y))).toInt32) hx hb hr (fun u9 ht hW => ⟨_, rfl, rfl, ht⟩) (fun q hq => by cases hq) d_E_depth_104

set_option maxHeartbeats 1000000 in
set_option maxRecDepth 100000 in
theorem c_E_at (l : Launch) (dC : Nat → ClassId) (dI : Nat → Nat → Nat) (h0 h1 h2 h3 v0 v1 v2 : Nat) (X Y D Q : Nat → Int32) (wx wy ww wh wk lx ly : Int32) (k0 k1 k2 : ClassId) (f0 f1 f2 : Nat → Int32) (n : Nat) (hn : n < 28) : Met l y_E_at w_E_at ({ frames := 6, cells := 0, slots := 0, locals := 100 }) (va_Pc [.ref h0, .int (nI n)] (PP dC dI [(k0, .int), (k1, .int), (k2, .int)] [(h0, .inr (1, [.ref h1, .ref h2, .ref h3, .long (er_ar X Y), .int wx, .int wy, .int ww, .int wh, .int wk, .int 1, .int lx, .int ly])), (h1, .inr (0, [.int (X 0), .int (Y 0), .int (D 0), .int (Q 0), .ref v0, .int (er_ex X Y 0), .int (er_ey X Y 0), .int (er_ea X Y 0), .int (er_ed X Y 0), .int (er_lw (er_ea X Y 0) (er_ed X Y 0))])), (h2, .inr (0, [.int (X 1), .int (Y 1), .int (D 1), .int (Q 1), .ref v1, .int (er_ex X Y 1), .int (er_ey X Y 1), .int (er_ea X Y 1), .int (er_ed X Y 1), .int (er_lw (er_ea X Y 1) (er_ed X Y 1))])), (h3, .inr (0, [.int (X 2), .int (Y 2), .int (D 2), .int (Q 2), .ref v2, .int (er_ex X Y 2), .int (er_ey X Y 2), .int (er_ea X Y 2), .int (er_ed X Y 2), .int (er_lw (er_ea X Y 2) (er_ed X Y 2))])), (v0, .inl (k0, 28, .inl f0)), (v1, .inl (k1, 28, .inl f1)), (v2, .inl (k2, 28, .inl f2))])) (vp_Si (fun r : Int32 => ∃ z : Nat, z ≤ 34 ∧ er_first (er_m3 X Y Q lx ly) z ∧ r = er_at X Y Q lx ly z (f0 n) (f1 n) (f2 n))) 0 0 (fun _ => False) := by
  refine Met.ofW (cc := b_E_at) (maxL := 17) (ret := (some .int)) (by decide +kernel) rfl ?_
  intro p e s m args below meth c s₁ B hml hv
  obtain ⟨rfl, hN, hK, hP⟩ := hv
  have hx := B.exec
  have hb := B.bytes
  have hr := B.returns
  have hts := er_hts (atoms_spec (ws := w_E_at) B.pre)
  have hown : s.vm.findClass R_E = some m.cls := findClass_of_methodNamed B.named
  have hlocks := B.notSynchronized
  have hP : va_P (dC, dI) classes [(h0, .inr (1, [.ref h1, .ref h2, .ref h3, .long (er_ar X Y), .int wx, .int wy, .int ww, .int wh, .int wk, .int 1, .int lx, .int ly])), (h1, .inr (0, [.int (X 0), .int (Y 0), .int (D 0), .int (Q 0), .ref v0, .int (er_ex X Y 0), .int (er_ey X Y 0), .int (er_ea X Y 0), .int (er_ed X Y 0), .int (er_lw (er_ea X Y 0) (er_ed X Y 0))])), (h2, .inr (0, [.int (X 1), .int (Y 1), .int (D 1), .int (Q 1), .ref v1, .int (er_ex X Y 1), .int (er_ey X Y 1), .int (er_ea X Y 1), .int (er_ed X Y 1), .int (er_lw (er_ea X Y 1) (er_ed X Y 1))])), (h3, .inr (0, [.int (X 2), .int (Y 2), .int (D 2), .int (Q 2), .ref v2, .int (er_ex X Y 2), .int (er_ey X Y 2), .int (er_ea X Y 2), .int (er_ed X Y 2), .int (er_lw (er_ea X Y 2) (er_ed X Y 2))])), (v0, .inl (k0, 28, .inl f0)), (v1, .inl (k1, 28, .inl f1)), (v2, .inl (k2, 28, .inl f2))] s.heap := hP
  have hl := lv_entry ([.ref h0, .int (nI n)]) (n := 17) (Nat.le_of_ble_eq_true rfl)
  rw [lg_entry_eq]
  generalize (lg_sl ([.ref h0, .int (nI n)]) ++ List.replicate (17 - (lg_sl ([.ref h0, .int (nI n)])).length) Slot.unset).toArray = ls at hl ⊢
  have hl : lv_has ls 17 [(0, .ref h0), (1, .int (nI n))] := hl
  have u1 : er_win (nI n) 0 27 = true := er_win_nI (k := 27) (by omega) (by decide)
  refine lv_iload_n hx hb d_E_at_0 rfl (lv_at hl 1 rfl) ?_
  have hPc := hP.sub (ws' := []) [] rfl
  have hKc := hK.sub (tys' := []) [] rfl
  refine vp_callSi (va_runS (As := [.int (nI n)]) (rest := []) ⟨hx, hb, hml, hown, hts⟩ (c_E_isValue l dC dI (nI n)) (va_cwS 1 hts (er_gS k_218 k_219 k_18 k_220) rfl rfl rfl (by decide +kernel) ⟨Nat.le_of_ble_eq_true rfl, Nat.le_of_ble_eq_true rfl⟩) ⟨PP.blind, PP.at hN hKc hPc⟩ rfl rfl hl.1 rfl (lv_room (Nat.le_of_ble_eq_true rfl)) d_E_at_1 ⟨Nat.zero_le _, Nat.zero_le _⟩).run (fun r_1 hr_1 => ?_)
  obtain rfl : er_b (er_win (nI n) 0 27) = r_1 := Eq.symm hr_1
  refine lv_if_ne (tgt := 17) hx hb d_E_at_4 (by decide) (fun c_2 => ?_) (fun c_2 => ?_)
  · have c_2 := er_b_n.mp c_2
    refine lv_aload_n hx hb d_E_at_17 rfl (lv_at hl 0 rfl) ?_
    refine va_get (D := (dC, dI)) (ci := 1) (v := .int 1) (C := R_E) (T := F_E) (N := 12) hx hb hts i_E hown hK hP 0 rfl rfl 9 (by decide) (hts _ k_81) (fun _ h9 => h9) rfl d_E_at_18 ?_
    refine lv_if_ne (tgt := 34) hx hb d_E_at_21 (by decide) (fun _ => ?_) (fun c_3 => absurd c_3 (by decide))
    refine lv_aload_n hx hb d_E_at_34 rfl (lv_at hl 0 rfl) ?_
    refine va_get (D := (dC, dI)) (ci := 1) (v := .ref h1) (C := R_E) (T := F_E) (N := 12) hx hb hts i_E hown hK hP 0 rfl rfl 0 (by decide) (hts _ k_72) (fun _ h9 => h9) rfl d_E_at_35 ?_
    refine lv_aload_n hx hb d_E_at_38 rfl (lv_at hl 0 rfl) ?_
    refine va_get (D := (dC, dI)) (ci := 1) (v := .int lx) (C := R_E) (T := F_E) (N := 12) hx hb hts i_E hown hK hP 0 rfl rfl 10 (by decide) (hts _ k_82) (fun _ h9 => h9) rfl d_E_at_39 ?_
    refine lv_aload_n hx hb d_E_at_42 rfl (lv_at hl 0 rfl) ?_
    refine va_get (D := (dC, dI)) (ci := 1) (v := .int ly) (C := R_E) (T := F_E) (N := 12) hx hb hts i_E hown hK hP 0 rfl rfl 11 (by decide) (hts _ k_83) (fun _ h9 => h9) rfl d_E_at_43 ?_
    have hPc := hP.sub (ws' := [(h1, .inr (0, [.int (X 0), .int (Y 0), .int (D 0), .int (Q 0), .ref v0, .int (er_ex X Y 0), .int (er_ey X Y 0), .int (er_ea X Y 0), .int (er_ed X Y 0), .int (er_lw (er_ea X Y 0) (er_ed X Y 0))]))]) [1] rfl
    have hKc := hK.sub (tys' := []) [] rfl
    refine vp_callSl (va_runVN (As := [.int lx, .int ly]) (rest := []) ⟨hx, hb, hml, hown, hts⟩ (c_C_nearWeightAt l dC dI h1 v0 (X 0) (Y 0) (D 0) (Q 0) (er_ex X Y 0) (er_ey X Y 0) (er_ea X Y 0) (er_ed X Y 0) (er_lw (er_ea X Y 0) (er_ed X Y 0)) lx ly) ⟨va_cnB 2 hts (er_gB k_292) rfl rfl rfl (hN _ kn_9) (hts _ k_19) (by decide +kernel) ⟨Nat.le_of_ble_eq_true rfl, Nat.le_of_ble_eq_true rfl⟩, hts _ k_291, hts _ k_9⟩ ⟨PP.blind, va_recv hKc hPc (ci := 0) (q0 := 0) rfl rfl, PP.at hN hKc hPc⟩ rfl rfl hl.1 rfl (lv_room (Nat.le_of_ble_eq_true rfl)) d_E_at_46 ⟨Nat.zero_le _, Nat.zero_le _⟩).run (fun r_4 hr_4 => ?_)
    obtain rfl : er_wt (er_ex X Y 0) (er_ey X Y 0) (er_ea X Y 0) (er_ed X Y 0) lx ly * (Q 0).toInt64 = r_4 := Eq.symm hr_4
    refine lv_lstore_n (lv' := [(2, .long (er_wt (er_ex X Y 0) (er_ey X Y 0) (er_ea X Y 0) (er_ed X Y 0) lx ly * (Q 0).toInt64)), (0, .ref h0), (1, .int (nI n))]) hx hb d_E_at_49 rfl hl (by decide) rfl (fun ls hl => ?_)
    refine lv_aload_n hx hb d_E_at_50 rfl (lv_at hl 1 rfl) ?_
    refine va_get (D := (dC, dI)) (ci := 1) (v := .ref h2) (C := R_E) (T := F_E) (N := 12) hx hb hts i_E hown hK hP 0 rfl rfl 1 (by decide) (hts _ k_73) (fun _ h9 => h9) rfl d_E_at_51 ?_
    refine lv_aload_n hx hb d_E_at_54 rfl (lv_at hl 1 rfl) ?_
    refine va_get (D := (dC, dI)) (ci := 1) (v := .int lx) (C := R_E) (T := F_E) (N := 12) hx hb hts i_E hown hK hP 0 rfl rfl 10 (by decide) (hts _ k_82) (fun _ h9 => h9) rfl d_E_at_55 ?_
    refine lv_aload_n hx hb d_E_at_58 rfl (lv_at hl 1 rfl) ?_
    refine va_get (D := (dC, dI)) (ci := 1) (v := .int ly) (C := R_E) (T := F_E) (N := 12) hx hb hts i_E hown hK hP 0 rfl rfl 11 (by decide) (hts _ k_83) (fun _ h9 => h9) rfl d_E_at_59 ?_
    have hPc := hP.sub (ws' := [(h2, .inr (0, [.int (X 1), .int (Y 1), .int (D 1), .int (Q 1), .ref v1, .int (er_ex X Y 1), .int (er_ey X Y 1), .int (er_ea X Y 1), .int (er_ed X Y 1), .int (er_lw (er_ea X Y 1) (er_ed X Y 1))]))]) [2] rfl
    have hKc := hK.sub (tys' := []) [] rfl
    refine vp_callSl (va_runVN (As := [.int lx, .int ly]) (rest := []) ⟨hx, hb, hml, hown, hts⟩ (c_C_nearWeightAt l dC dI h2 v1 (X 1) (Y 1) (D 1) (Q 1) (er_ex X Y 1) (er_ey X Y 1) (er_ea X Y 1) (er_ed X Y 1) (er_lw (er_ea X Y 1) (er_ed X Y 1)) lx ly) ⟨va_cnB 2 hts (er_gB k_292) rfl rfl rfl (hN _ kn_9) (hts _ k_19) (by decide +kernel) ⟨Nat.le_of_ble_eq_true rfl, Nat.le_of_ble_eq_true rfl⟩, hts _ k_291, hts _ k_9⟩ ⟨PP.blind, va_recv hKc hPc (ci := 0) (q0 := 0) rfl rfl, PP.at hN hKc hPc⟩ rfl rfl hl.1 rfl (lv_room (Nat.le_of_ble_eq_true rfl)) d_E_at_62 ⟨Nat.zero_le _, Nat.zero_le _⟩).run (fun r_5 hr_5 => ?_)
    obtain rfl : er_wt (er_ex X Y 1) (er_ey X Y 1) (er_ea X Y 1) (er_ed X Y 1) lx ly * (Q 1).toInt64 = r_5 := Eq.symm hr_5
    refine lv_lstore (lv' := [(4, .long (er_wt (er_ex X Y 1) (er_ey X Y 1) (er_ea X Y 1) (er_ed X Y 1) lx ly * (Q 1).toInt64)), (2, .long (er_wt (er_ex X Y 0) (er_ey X Y 0) (er_ea X Y 0) (er_ed X Y 0) lx ly * (Q 0).toInt64)), (0, .ref h0), (1, .int (nI n))]) hx hb d_E_at_65 hl (by decide) rfl (fun ls hl => ?_)
    refine lv_aload_n hx hb d_E_at_67 rfl (lv_at hl 2 rfl) ?_
    refine va_get (D := (dC, dI)) (ci := 1) (v := .ref h3) (C := R_E) (T := F_E) (N := 12) hx hb hts i_E hown hK hP 0 rfl rfl 2 (by decide) (hts _ k_74) (fun _ h9 => h9) rfl d_E_at_68 ?_
    refine lv_aload_n hx hb d_E_at_71 rfl (lv_at hl 2 rfl) ?_
    refine va_get (D := (dC, dI)) (ci := 1) (v := .int lx) (C := R_E) (T := F_E) (N := 12) hx hb hts i_E hown hK hP 0 rfl rfl 10 (by decide) (hts _ k_82) (fun _ h9 => h9) rfl d_E_at_72 ?_
    refine lv_aload_n hx hb d_E_at_75 rfl (lv_at hl 2 rfl) ?_
    refine va_get (D := (dC, dI)) (ci := 1) (v := .int ly) (C := R_E) (T := F_E) (N := 12) hx hb hts i_E hown hK hP 0 rfl rfl 11 (by decide) (hts _ k_83) (fun _ h9 => h9) rfl d_E_at_76 ?_
    have hPc := hP.sub (ws' := [(h3, .inr (0, [.int (X 2), .int (Y 2), .int (D 2), .int (Q 2), .ref v2, .int (er_ex X Y 2), .int (er_ey X Y 2), .int (er_ea X Y 2), .int (er_ed X Y 2), .int (er_lw (er_ea X Y 2) (er_ed X Y 2))]))]) [3] rfl
    have hKc := hK.sub (tys' := []) [] rfl
    refine vp_callSl (va_runVN (As := [.int lx, .int ly]) (rest := []) ⟨hx, hb, hml, hown, hts⟩ (c_C_nearWeightAt l dC dI h3 v2 (X 2) (Y 2) (D 2) (Q 2) (er_ex X Y 2) (er_ey X Y 2) (er_ea X Y 2) (er_ed X Y 2) (er_lw (er_ea X Y 2) (er_ed X Y 2)) lx ly) ⟨va_cnB 2 hts (er_gB k_292) rfl rfl rfl (hN _ kn_9) (hts _ k_19) (by decide +kernel) ⟨Nat.le_of_ble_eq_true rfl, Nat.le_of_ble_eq_true rfl⟩, hts _ k_291, hts _ k_9⟩ ⟨PP.blind, va_recv hKc hPc (ci := 0) (q0 := 0) rfl rfl, PP.at hN hKc hPc⟩ rfl rfl hl.1 rfl (lv_room (Nat.le_of_ble_eq_true rfl)) d_E_at_79 ⟨Nat.zero_le _, Nat.zero_le _⟩).run (fun r_6 hr_6 => ?_)
    obtain rfl : er_wt (er_ex X Y 2) (er_ey X Y 2) (er_ea X Y 2) (er_ed X Y 2) lx ly * (Q 2).toInt64 = r_6 := Eq.symm hr_6
    refine lv_lstore (lv' := [(6, .long (er_wt (er_ex X Y 2) (er_ey X Y 2) (er_ea X Y 2) (er_ed X Y 2) lx ly * (Q 2).toInt64)), (4, .long (er_wt (er_ex X Y 1) (er_ey X Y 1) (er_ea X Y 1) (er_ed X Y 1) lx ly * (Q 1).toInt64)), (2, .long (er_wt (er_ex X Y 0) (er_ey X Y 0) (er_ea X Y 0) (er_ed X Y 0) lx ly * (Q 0).toInt64)), (0, .ref h0), (1, .int (nI n))]) hx hb d_E_at_82 hl (by decide) rfl (fun ls hl => ?_)
    refine lv_lload_n hx hb d_E_at_84 rfl (lv_at hl 2 rfl) ?_
    refine lv_lload hx hb d_E_at_85 (lv_at hl 1 rfl) ?_
    refine lv_lload hx hb d_E_at_87 (lv_at hl 0 rfl) ?_
    refine va_mmax_long hx hb (hml.trans hl.1.symm) hown (hts _ k_293) (hts _ k_294) (hts _ k_26) (hts _ k_295) (Nat.le_of_ble_eq_true rfl) (Nat.le_of_ble_eq_true rfl) (Nat.zero_le _) (Nat.zero_le _) d_E_at_89 ?_
    refine lv_topl (fun y9 e9 => ?_)
    obtain rfl : y9 = er_mx (er_wt (er_ex X Y 1) (er_ey X Y 1) (er_ea X Y 1) (er_ed X Y 1) lx ly * (Q 1).toInt64) (er_wt (er_ex X Y 2) (er_ey X Y 2) (er_ea X Y 2) (er_ed X Y 2) lx ly * (Q 2).toInt64) := e9
    refine va_mmax_long hx hb (hml.trans hl.1.symm) hown (hts _ k_293) (hts _ k_294) (hts _ k_26) (hts _ k_295) (Nat.le_of_ble_eq_true rfl) (Nat.le_of_ble_eq_true rfl) (Nat.zero_le _) (Nat.zero_le _) d_E_at_92 ?_
    refine lv_topl (fun y9 e9 => ?_)
    obtain rfl : y9 = er_mx (er_wt (er_ex X Y 0) (er_ey X Y 0) (er_ea X Y 0) (er_ed X Y 0) lx ly * (Q 0).toInt64) (er_mx (er_wt (er_ex X Y 1) (er_ey X Y 1) (er_ea X Y 1) (er_ed X Y 1) lx ly * (Q 1).toInt64) (er_wt (er_ex X Y 2) (er_ey X Y 2) (er_ea X Y 2) (er_ed X Y 2) lx ly * (Q 2).toInt64)) := e9
    have hPc := hP.sub (ws' := []) [] rfl
    have hKc := hK.sub (tys' := []) [] rfl
    refine vp_callSi (va_runS (As := [.long (er_mx (er_wt (er_ex X Y 0) (er_ey X Y 0) (er_ea X Y 0) (er_ed X Y 0) lx ly * (Q 0).toInt64) (er_mx (er_wt (er_ex X Y 1) (er_ey X Y 1) (er_ea X Y 1) (er_ed X Y 1) lx ly * (Q 1).toInt64) (er_wt (er_ex X Y 2) (er_ey X Y 2) (er_ea X Y 2) (er_ed X Y 2) lx ly * (Q 2).toInt64)))]) (rest := []) ⟨hx, hb, hml, hown, hts⟩ (c_E_shareShift l dC dI (er_mx (er_wt (er_ex X Y 0) (er_ey X Y 0) (er_ea X Y 0) (er_ed X Y 0) lx ly * (Q 0).toInt64) (er_mx (er_wt (er_ex X Y 1) (er_ey X Y 1) (er_ea X Y 1) (er_ed X Y 1) lx ly * (Q 1).toInt64) (er_wt (er_ex X Y 2) (er_ey X Y 2) (er_ea X Y 2) (er_ed X Y 2) lx ly * (Q 2).toInt64)))) (va_cwS 1 hts (er_gS k_296 k_297 k_18 k_298) rfl rfl rfl (by decide +kernel) ⟨Nat.le_of_ble_eq_true rfl, Nat.le_of_ble_eq_true rfl⟩) ⟨PP.blind, PP.at hN hKc hPc⟩ rfl rfl hl.1 rfl (lv_room (Nat.le_of_ble_eq_true rfl)) d_E_at_95 ⟨Nat.zero_le _, Nat.zero_le _⟩).run (fun r_7 hr_7 => ?_)
    have hr_7 : ∃ n : Nat, r_7 = nI n ∧ n ≤ 34 ∧ er_first (er_mx (er_wt (er_ex X Y 0) (er_ey X Y 0) (er_ea X Y 0) (er_ed X Y 0) lx ly * (Q 0).toInt64) (er_mx (er_wt (er_ex X Y 1) (er_ey X Y 1) (er_ea X Y 1) (er_ed X Y 1) lx ly * (Q 1).toInt64) (er_wt (er_ex X Y 2) (er_ey X Y 2) (er_ea X Y 2) (er_ed X Y 2) lx ly * (Q 2).toInt64))) n := hr_7
    obtain ⟨z, rfl, hz, hz2⟩ := hr_7
    refine lv_istore (lv' := [(8, .int (nI z)), (6, .long (er_wt (er_ex X Y 2) (er_ey X Y 2) (er_ea X Y 2) (er_ed X Y 2) lx ly * (Q 2).toInt64)), (4, .long (er_wt (er_ex X Y 1) (er_ey X Y 1) (er_ea X Y 1) (er_ed X Y 1) lx ly * (Q 1).toInt64)), (2, .long (er_wt (er_ex X Y 0) (er_ey X Y 0) (er_ea X Y 0) (er_ed X Y 0) lx ly * (Q 0).toInt64)), (0, .ref h0), (1, .int (nI n))]) hx hb d_E_at_98 hl (by decide) rfl (fun ls hl => ?_)
    refine lv_lload_n hx hb d_E_at_100 rfl (lv_at hl 3 rfl) ?_
    refine lv_iload hx hb d_E_at_101 (lv_at hl 0 rfl) ?_
    refine lv_lshr (v := (er_wt (er_ex X Y 0) (er_ey X Y 0) (er_ea X Y 0) (er_ed X Y 0) lx ly * (Q 0).toInt64) >>> ((nI z).toInt64 &&& 63)) hx hb d_E_at_103 rfl ?_
    refine lv_lstore (lv' := [(9, .long ((er_wt (er_ex X Y 0) (er_ey X Y 0) (er_ea X Y 0) (er_ed X Y 0) lx ly * (Q 0).toInt64) >>> ((nI z).toInt64 &&& 63))), (8, .int (nI z)), (6, .long (er_wt (er_ex X Y 2) (er_ey X Y 2) (er_ea X Y 2) (er_ed X Y 2) lx ly * (Q 2).toInt64)), (4, .long (er_wt (er_ex X Y 1) (er_ey X Y 1) (er_ea X Y 1) (er_ed X Y 1) lx ly * (Q 1).toInt64)), (2, .long (er_wt (er_ex X Y 0) (er_ey X Y 0) (er_ea X Y 0) (er_ed X Y 0) lx ly * (Q 0).toInt64)), (0, .ref h0), (1, .int (nI n))]) hx hb d_E_at_104 hl (by decide) rfl (fun ls hl => ?_)
    refine lv_lload hx hb d_E_at_106 (lv_at hl 3 rfl) ?_
    refine lv_iload hx hb d_E_at_108 (lv_at hl 1 rfl) ?_
    refine lv_lshr (v := (er_wt (er_ex X Y 1) (er_ey X Y 1) (er_ea X Y 1) (er_ed X Y 1) lx ly * (Q 1).toInt64) >>> ((nI z).toInt64 &&& 63)) hx hb d_E_at_110 rfl ?_
    refine lv_lstore (lv' := [(11, .long ((er_wt (er_ex X Y 1) (er_ey X Y 1) (er_ea X Y 1) (er_ed X Y 1) lx ly * (Q 1).toInt64) >>> ((nI z).toInt64 &&& 63))), (9, .long ((er_wt (er_ex X Y 0) (er_ey X Y 0) (er_ea X Y 0) (er_ed X Y 0) lx ly * (Q 0).toInt64) >>> ((nI z).toInt64 &&& 63))), (8, .int (nI z)), (6, .long (er_wt (er_ex X Y 2) (er_ey X Y 2) (er_ea X Y 2) (er_ed X Y 2) lx ly * (Q 2).toInt64)), (4, .long (er_wt (er_ex X Y 1) (er_ey X Y 1) (er_ea X Y 1) (er_ed X Y 1) lx ly * (Q 1).toInt64)), (2, .long (er_wt (er_ex X Y 0) (er_ey X Y 0) (er_ea X Y 0) (er_ed X Y 0) lx ly * (Q 0).toInt64)), (0, .ref h0), (1, .int (nI n))]) hx hb d_E_at_111 hl (by decide) rfl (fun ls hl => ?_)
    refine lv_lload hx hb d_E_at_113 (lv_at hl 3 rfl) ?_
    refine lv_iload hx hb d_E_at_115 (lv_at hl 2 rfl) ?_
    refine lv_lshr (v := (er_wt (er_ex X Y 2) (er_ey X Y 2) (er_ea X Y 2) (er_ed X Y 2) lx ly * (Q 2).toInt64) >>> ((nI z).toInt64 &&& 63)) hx hb d_E_at_117 rfl ?_
    refine lv_lstore (lv' := [(13, .long ((er_wt (er_ex X Y 2) (er_ey X Y 2) (er_ea X Y 2) (er_ed X Y 2) lx ly * (Q 2).toInt64) >>> ((nI z).toInt64 &&& 63))), (11, .long ((er_wt (er_ex X Y 1) (er_ey X Y 1) (er_ea X Y 1) (er_ed X Y 1) lx ly * (Q 1).toInt64) >>> ((nI z).toInt64 &&& 63))), (9, .long ((er_wt (er_ex X Y 0) (er_ey X Y 0) (er_ea X Y 0) (er_ed X Y 0) lx ly * (Q 0).toInt64) >>> ((nI z).toInt64 &&& 63))), (8, .int (nI z)), (6, .long (er_wt (er_ex X Y 2) (er_ey X Y 2) (er_ea X Y 2) (er_ed X Y 2) lx ly * (Q 2).toInt64)), (4, .long (er_wt (er_ex X Y 1) (er_ey X Y 1) (er_ea X Y 1) (er_ed X Y 1) lx ly * (Q 1).toInt64)), (2, .long (er_wt (er_ex X Y 0) (er_ey X Y 0) (er_ea X Y 0) (er_ed X Y 0) lx ly * (Q 0).toInt64)), (0, .ref h0), (1, .int (nI n))]) hx hb d_E_at_118 hl (by decide) rfl (fun ls hl => ?_)
    refine lv_lload hx hb d_E_at_120 (lv_at hl 2 rfl) ?_
    refine lv_aload_n hx hb d_E_at_122 rfl (lv_at hl 7 rfl) ?_
    refine va_get (D := (dC, dI)) (ci := 1) (v := .ref h1) (C := R_E) (T := F_E) (N := 12) hx hb hts i_E hown hK hP 0 rfl rfl 0 (by decide) (hts _ k_72) (fun _ h9 => h9) rfl d_E_at_123 ?_
    refine va_getN (D := (dC, dI)) (ci := 0) (v := .ref v0) (C := R_C) (T := F_C) (N := 10) hx hb hts i_C hown hK hP 1 rfl rfl 4 (by decide) (va_Nw.use rfl (hN _ kn_5)) (fun _ h9 => h9) rfl d_E_at_126 ?_
    refine lv_iload_n hx hb d_E_at_129 rfl (lv_at hl 8 rfl) ?_
    refine va_iald (i := nI n) hx hb hK hP 4 0 rfl rfl (vp_in_nI (by omega) (by decide)) d_E_at_130 ?_
    refine lv_topi (x := f0 (nI n).toNatClampNeg) (fun y9 e9 => ?_)
    obtain rfl : y9 = f0 n := by rw [e9, nI_clamp (by omega)]
    refine lv_i2l (v := (f0 n).toInt64) hx hb d_E_at_131 rfl ?_
    refine lv_lmul hx hb d_E_at_132 ?_
    refine lv_lload hx hb d_E_at_133 (lv_at hl 1 rfl) ?_
    refine lv_aload_n hx hb d_E_at_135 rfl (lv_at hl 7 rfl) ?_
    refine va_get (D := (dC, dI)) (ci := 1) (v := .ref h2) (C := R_E) (T := F_E) (N := 12) hx hb hts i_E hown hK hP 0 rfl rfl 1 (by decide) (hts _ k_73) (fun _ h9 => h9) rfl d_E_at_136 ?_
    refine va_getN (D := (dC, dI)) (ci := 0) (v := .ref v1) (C := R_C) (T := F_C) (N := 10) hx hb hts i_C hown hK hP 2 rfl rfl 4 (by decide) (va_Nw.use rfl (hN _ kn_5)) (fun _ h9 => h9) rfl d_E_at_139 ?_
    refine lv_iload_n hx hb d_E_at_142 rfl (lv_at hl 8 rfl) ?_
    refine va_iald (i := nI n) hx hb hK hP 5 1 rfl rfl (vp_in_nI (by omega) (by decide)) d_E_at_143 ?_
    refine lv_topi (x := f1 (nI n).toNatClampNeg) (fun y9 e9 => ?_)
    obtain rfl : y9 = f1 n := by rw [e9, nI_clamp (by omega)]
    refine lv_i2l (v := (f1 n).toInt64) hx hb d_E_at_144 rfl ?_
    refine lv_lmul hx hb d_E_at_145 ?_
    refine lv_ladd hx hb d_E_at_146 ?_
    refine lv_lload hx hb d_E_at_147 (lv_at hl 0 rfl) ?_
    refine lv_aload_n hx hb d_E_at_149 rfl (lv_at hl 7 rfl) ?_
    refine va_get (D := (dC, dI)) (ci := 1) (v := .ref h3) (C := R_E) (T := F_E) (N := 12) hx hb hts i_E hown hK hP 0 rfl rfl 2 (by decide) (hts _ k_74) (fun _ h9 => h9) rfl d_E_at_150 ?_
    refine va_getN (D := (dC, dI)) (ci := 0) (v := .ref v2) (C := R_C) (T := F_C) (N := 10) hx hb hts i_C hown hK hP 3 rfl rfl 4 (by decide) (va_Nw.use rfl (hN _ kn_5)) (fun _ h9 => h9) rfl d_E_at_153 ?_
    refine lv_iload_n hx hb d_E_at_156 rfl (lv_at hl 8 rfl) ?_
    refine va_iald (i := nI n) hx hb hK hP 6 2 rfl rfl (vp_in_nI (by omega) (by decide)) d_E_at_157 ?_
    refine lv_topi (x := f2 (nI n).toNatClampNeg) (fun y9 e9 => ?_)
    obtain rfl : y9 = f2 n := by rw [e9, nI_clamp (by omega)]
    refine lv_i2l (v := (f2 n).toInt64) hx hb d_E_at_158 rfl ?_
    refine lv_lmul hx hb d_E_at_159 ?_
    refine lv_ladd hx hb d_E_at_160 ?_
    refine lv_lstore (lv' := [(15, .long (((((er_wt (er_ex X Y 0) (er_ey X Y 0) (er_ea X Y 0) (er_ed X Y 0) lx ly * (Q 0).toInt64) >>> ((nI z).toInt64 &&& 63)) * ((f0 n).toInt64)) + (((er_wt (er_ex X Y 1) (er_ey X Y 1) (er_ea X Y 1) (er_ed X Y 1) lx ly * (Q 1).toInt64) >>> ((nI z).toInt64 &&& 63)) * ((f1 n).toInt64))) + (((er_wt (er_ex X Y 2) (er_ey X Y 2) (er_ea X Y 2) (er_ed X Y 2) lx ly * (Q 2).toInt64) >>> ((nI z).toInt64 &&& 63)) * ((f2 n).toInt64)))), (13, .long ((er_wt (er_ex X Y 2) (er_ey X Y 2) (er_ea X Y 2) (er_ed X Y 2) lx ly * (Q 2).toInt64) >>> ((nI z).toInt64 &&& 63))), (11, .long ((er_wt (er_ex X Y 1) (er_ey X Y 1) (er_ea X Y 1) (er_ed X Y 1) lx ly * (Q 1).toInt64) >>> ((nI z).toInt64 &&& 63))), (9, .long ((er_wt (er_ex X Y 0) (er_ey X Y 0) (er_ea X Y 0) (er_ed X Y 0) lx ly * (Q 0).toInt64) >>> ((nI z).toInt64 &&& 63))), (8, .int (nI z)), (6, .long (er_wt (er_ex X Y 2) (er_ey X Y 2) (er_ea X Y 2) (er_ed X Y 2) lx ly * (Q 2).toInt64)), (4, .long (er_wt (er_ex X Y 1) (er_ey X Y 1) (er_ea X Y 1) (er_ed X Y 1) lx ly * (Q 1).toInt64)), (2, .long (er_wt (er_ex X Y 0) (er_ey X Y 0) (er_ea X Y 0) (er_ed X Y 0) lx ly * (Q 0).toInt64)), (0, .ref h0), (1, .int (nI n))]) hx hb d_E_at_161 hl (by decide) rfl (fun ls hl => ?_)
    refine lv_lload hx hb d_E_at_163 (lv_at hl 0 rfl) ?_
    refine lv_lload hx hb d_E_at_165 (lv_at hl 3 rfl) ?_
    refine lv_lload hx hb d_E_at_167 (lv_at hl 2 rfl) ?_
    refine lv_ladd hx hb d_E_at_169 ?_
    refine lv_lload hx hb d_E_at_170 (lv_at hl 1 rfl) ?_
    refine lv_ladd hx hb d_E_at_172 ?_
    have hPc := hP.sub (ws' := []) [] rfl
    have hKc := hK.sub (tys' := []) [] rfl
    refine vp_callSl (va_runS (As := [.long (((((er_wt (er_ex X Y 0) (er_ey X Y 0) (er_ea X Y 0) (er_ed X Y 0) lx ly * (Q 0).toInt64) >>> ((nI z).toInt64 &&& 63)) * ((f0 n).toInt64)) + (((er_wt (er_ex X Y 1) (er_ey X Y 1) (er_ea X Y 1) (er_ed X Y 1) lx ly * (Q 1).toInt64) >>> ((nI z).toInt64 &&& 63)) * ((f1 n).toInt64))) + (((er_wt (er_ex X Y 2) (er_ey X Y 2) (er_ea X Y 2) (er_ed X Y 2) lx ly * (Q 2).toInt64) >>> ((nI z).toInt64 &&& 63)) * ((f2 n).toInt64))), .long ((((er_wt (er_ex X Y 0) (er_ey X Y 0) (er_ea X Y 0) (er_ed X Y 0) lx ly * (Q 0).toInt64) >>> ((nI z).toInt64 &&& 63)) + ((er_wt (er_ex X Y 1) (er_ey X Y 1) (er_ea X Y 1) (er_ed X Y 1) lx ly * (Q 1).toInt64) >>> ((nI z).toInt64 &&& 63))) + ((er_wt (er_ex X Y 2) (er_ey X Y 2) (er_ea X Y 2) (er_ed X Y 2) lx ly * (Q 2).toInt64) >>> ((nI z).toInt64 &&& 63)))]) (rest := []) ⟨hx, hb, hml, hown, hts⟩ (c_E_dividedDown l dC dI (((((er_wt (er_ex X Y 0) (er_ey X Y 0) (er_ea X Y 0) (er_ed X Y 0) lx ly * (Q 0).toInt64) >>> ((nI z).toInt64 &&& 63)) * ((f0 n).toInt64)) + (((er_wt (er_ex X Y 1) (er_ey X Y 1) (er_ea X Y 1) (er_ed X Y 1) lx ly * (Q 1).toInt64) >>> ((nI z).toInt64 &&& 63)) * ((f1 n).toInt64))) + (((er_wt (er_ex X Y 2) (er_ey X Y 2) (er_ea X Y 2) (er_ed X Y 2) lx ly * (Q 2).toInt64) >>> ((nI z).toInt64 &&& 63)) * ((f2 n).toInt64))) ((((er_wt (er_ex X Y 0) (er_ey X Y 0) (er_ea X Y 0) (er_ed X Y 0) lx ly * (Q 0).toInt64) >>> ((nI z).toInt64 &&& 63)) + ((er_wt (er_ex X Y 1) (er_ey X Y 1) (er_ea X Y 1) (er_ed X Y 1) lx ly * (Q 1).toInt64) >>> ((nI z).toInt64 &&& 63))) + ((er_wt (er_ex X Y 2) (er_ey X Y 2) (er_ea X Y 2) (er_ed X Y 2) lx ly * (Q 2).toInt64) >>> ((nI z).toInt64 &&& 63)))) (va_cwS 2 hts (er_gS k_278 k_279 k_18 k_280) rfl rfl rfl (by decide +kernel) ⟨Nat.le_of_ble_eq_true rfl, Nat.le_of_ble_eq_true rfl⟩) ⟨PP.blind, PP.at hN hKc hPc⟩ rfl rfl hl.1 rfl (lv_room (Nat.le_of_ble_eq_true rfl)) d_E_at_173 ⟨Nat.zero_le _, Nat.zero_le _⟩).run (fun r_8 hr_8 => ?_)
    obtain rfl : er_dd (((((er_wt (er_ex X Y 0) (er_ey X Y 0) (er_ea X Y 0) (er_ed X Y 0) lx ly * (Q 0).toInt64) >>> ((nI z).toInt64 &&& 63)) * ((f0 n).toInt64)) + (((er_wt (er_ex X Y 1) (er_ey X Y 1) (er_ea X Y 1) (er_ed X Y 1) lx ly * (Q 1).toInt64) >>> ((nI z).toInt64 &&& 63)) * ((f1 n).toInt64))) + (((er_wt (er_ex X Y 2) (er_ey X Y 2) (er_ea X Y 2) (er_ed X Y 2) lx ly * (Q 2).toInt64) >>> ((nI z).toInt64 &&& 63)) * ((f2 n).toInt64))) ((((er_wt (er_ex X Y 0) (er_ey X Y 0) (er_ea X Y 0) (er_ed X Y 0) lx ly * (Q 0).toInt64) >>> ((nI z).toInt64 &&& 63)) + ((er_wt (er_ex X Y 1) (er_ey X Y 1) (er_ea X Y 1) (er_ed X Y 1) lx ly * (Q 1).toInt64) >>> ((nI z).toInt64 &&& 63))) + ((er_wt (er_ex X Y 2) (er_ey X Y 2) (er_ea X Y 2) (er_ed X Y 2) lx ly * (Q 2).toInt64) >>> ((nI z).toInt64 &&& 63))) = r_8 := Eq.symm hr_8
    refine lv_l2i (v := (er_dd (((((er_wt (er_ex X Y 0) (er_ey X Y 0) (er_ea X Y 0) (er_ed X Y 0) lx ly * (Q 0).toInt64) >>> ((nI z).toInt64 &&& 63)) * ((f0 n).toInt64)) + (((er_wt (er_ex X Y 1) (er_ey X Y 1) (er_ea X Y 1) (er_ed X Y 1) lx ly * (Q 1).toInt64) >>> ((nI z).toInt64 &&& 63)) * ((f1 n).toInt64))) + (((er_wt (er_ex X Y 2) (er_ey X Y 2) (er_ea X Y 2) (er_ed X Y 2) lx ly * (Q 2).toInt64) >>> ((nI z).toInt64 &&& 63)) * ((f2 n).toInt64))) ((((er_wt (er_ex X Y 0) (er_ey X Y 0) (er_ea X Y 0) (er_ed X Y 0) lx ly * (Q 0).toInt64) >>> ((nI z).toInt64 &&& 63)) + ((er_wt (er_ex X Y 1) (er_ey X Y 1) (er_ea X Y 1) (er_ed X Y 1) lx ly * (Q 1).toInt64) >>> ((nI z).toInt64 &&& 63))) + ((er_wt (er_ex X Y 2) (er_ey X Y 2) (er_ea X Y 2) (er_ed X Y 2) lx ly * (Q 2).toInt64) >>> ((nI z).toInt64 &&& 63)))).toInt32) hx hb d_E_at_176 rfl ?_
    exact W.iret (v := (er_dd (((((er_wt (er_ex X Y 0) (er_ey X Y 0) (er_ea X Y 0) (er_ed X Y 0) lx ly * (Q 0).toInt64) >>> ((nI z).toInt64 &&& 63)) * ((f0 n).toInt64)) + (((er_wt (er_ex X Y 1) (er_ey X Y 1) (er_ea X Y 1) (er_ed X Y 1) lx ly * (Q 1).toInt64) >>> ((nI z).toInt64 &&& 63)) * ((f1 n).toInt64))) + (((er_wt (er_ex X Y 2) (er_ey X Y 2) (er_ea X Y 2) (er_ed X Y 2) lx ly * (Q 2).toInt64) >>> ((nI z).toInt64 &&& 63)) * ((f2 n).toInt64))) ((((er_wt (er_ex X Y 0) (er_ey X Y 0) (er_ea X Y 0) (er_ed X Y 0) lx ly * (Q 0).toInt64) >>> ((nI z).toInt64 &&& 63)) + ((er_wt (er_ex X Y 1) (er_ey X Y 1) (er_ea X Y 1) (er_ed X Y 1) lx ly * (Q 1).toInt64) >>> ((nI z).toInt64 &&& 63))) + ((er_wt (er_ex X Y 2) (er_ey X Y 2) (er_ea X Y 2) (er_ed X Y 2) lx ly * (Q 2).toInt64) >>> ((nI z).toInt64 &&& 63)))).toInt32) hx hb hr (fun u9 ht hW => ⟨_, rfl, ⟨z, hz, hz2, rfl⟩, ht⟩) (fun q hq => by cases hq) d_E_at_177
  · have c_2 := er_b_0.mp c_2
    exact absurd c_2 (by simp_all)
end
section
set_option maxHeartbeats 1000000 in
set_option maxRecDepth 100000 in
theorem c_C_init (l : Launch) (dC : Nat → ClassId) (dI : Nat → Nat → Nat) (h : Nat) (sz : Nat) : Met l y_C_init w_C_init ({ frames := 1, cells := 1, slots := 28, locals := 12 }) (va_Pc [.ref h] (PI dC dI [] [(h, .inr (0, [.int 0, .int 0, .int 0, .int 0, .null, .int 0, .int 0, .int 0, .int 0, .int 0]))] sz)) (va_Qv (fun (u : Unit) => True) (fun (u : Unit) t => ∃ (hv : Nat) (cA : ClassId), EI dC dI [(cA, .int)] [(h, .inr (0, [.int 0, .int 0, .int 0, .int 1, .ref hv, .int 0, .int 0, .int 0, .int 0, .int 1])), (hv, .inl (cA, 28, .inl (fun _ => 0)))] (va_A [(h, .inr (0, [.int 0, .int 0, .int 0, .int 0, .null, .int 0, .int 0, .int 0, .int 0, .int 0]))] sz) t) (va_A [(h, .inr (0, [.int 0, .int 0, .int 0, .int 0, .null, .int 0, .int 0, .int 0, .int 0, .int 0]))] sz)) 1 28 (va_A [(h, .inr (0, [.int 0, .int 0, .int 0, .int 0, .null, .int 0, .int 0, .int 0, .int 0, .int 0]))] sz) := by
  refine Met.ofW (cc := b_C_init) (maxL := 1) (ret := none) (by decide +kernel) rfl ?_
  intro p e s m args below meth c s₁ B hml hv
  obtain ⟨rfl, hsz, hN, hK, hP, hD0⟩ := hv
  have hx := B.exec
  have hb := B.bytes
  have hr := B.returns
  have hts := er_hts (atoms_spec (ws := w_C_init) B.pre)
  have hown : s.vm.findClass R_C = some m.cls := findClass_of_methodNamed B.named
  have hlocks := B.notSynchronized
  have hin : meth.name = "<init>" := (name_of_methodNamed B.named B.method).1
  subst hsz
  have hD := hD0.self (sz := s.heap.size)
  generalize hAe : va_A [(h, .inr (0, [.int 0, .int 0, .int 0, .int 0, .null, .int 0, .int 0, .int 0, .int 0, .int 0]))] s.heap.size = A at hD ⊢
  have hA : ∀ q : Nat, s.heap.size ≤ q → A q := fun q h => by rw [← hAe]; exact Or.inr h
  have hS : va_S A s.heap s.heap [] := va_S.rf
  have hP : va_P (dC, dI) classes [(h, .inr (0, [.int 0, .int 0, .int 0, .int 0, .null, .int 0, .int 0, .int 0, .int 0, .int 0]))] s.heap := hP
  have hl := lv_entry ([.ref h]) (n := 1) (Nat.le_of_ble_eq_true rfl)
  rw [lg_entry_eq]
  generalize (lg_sl ([.ref h]) ++ List.replicate (1 - (lg_sl ([.ref h])).length) Slot.unset).toArray = ls at hl ⊢
  have hl : lv_has ls 1 [(0, .ref h)] := hl
  refine lv_aload_n hx hb d_C_init_0 rfl (lv_at hl 0 rfl) ?_
  refine W.objInit hx hb hown (hts _ k_39) (hts _ k_33) (hts _ k_34) rfl (by rw [hml]; exact hl.1) rfl d_C_init_1 (Nat.le_of_ble_eq_true rfl) (Nat.le_of_ble_eq_true rfl) ?_
  refine W.eq (g2 := F0 m 4 ls []) rfl ?_
  refine lv_aload_n hx hb d_C_init_4 rfl (lv_at hl 0 rfl) ?_
  refine lv_iconst (v := 0) hx hb d_C_init_5 (by decide) ?_
  refine va_put (D := (dC, dI)) (ci := 0) (v := .int 0) (ty := .int) (C := R_C) (T := F_C) (N := 10) hx hb hts i_C t_C t_C_ok n_C hown hK hP hD hS 0 rfl rfl 0 (by decide) (hts _ k_40) (fun _ h9 => h9) rfl (by decide +kernel) rfl rfl (Nat.le_of_ble_eq_true rfl) d_C_init_6 (fun H locs hP hD hS => ?_)
  have hP : va_P (dC, dI) classes [(h, .inr (0, [.int 0, .int 0, .int 0, .int 0, .null, .int 0, .int 0, .int 0, .int 0, .int 0]))] H := hP
  have hD : va_D A [(h, .inr (0, [.int 0, .int 0, .int 0, .int 0, .null, .int 0, .int 0, .int 0, .int 0, .int 0]))] := hD
  refine lv_aload_n hx hb d_C_init_9 rfl (lv_at hl 0 rfl) ?_
  refine lv_iconst (v := 0) hx hb d_C_init_10 (by decide) ?_
  refine va_put (D := (dC, dI)) (ci := 0) (v := .int 0) (ty := .int) (C := R_C) (T := F_C) (N := 10) hx hb hts i_C t_C t_C_ok n_C hown hK hP hD hS 0 rfl rfl 1 (by decide) (hts _ k_41) (fun _ h9 => h9) rfl (by decide +kernel) rfl rfl (Nat.le_of_ble_eq_true rfl) d_C_init_11 (fun H locs hP hD hS => ?_)
  have hP : va_P (dC, dI) classes [(h, .inr (0, [.int 0, .int 0, .int 0, .int 0, .null, .int 0, .int 0, .int 0, .int 0, .int 0]))] H := hP
  have hD : va_D A [(h, .inr (0, [.int 0, .int 0, .int 0, .int 0, .null, .int 0, .int 0, .int 0, .int 0, .int 0]))] := hD
  refine lv_aload_n hx hb d_C_init_14 rfl (lv_at hl 0 rfl) ?_
  refine lv_iconst (v := 0) hx hb d_C_init_15 (by decide) ?_
  refine va_put (D := (dC, dI)) (ci := 0) (v := .int 0) (ty := .int) (C := R_C) (T := F_C) (N := 10) hx hb hts i_C t_C t_C_ok n_C hown hK hP hD hS 0 rfl rfl 2 (by decide) (hts _ k_42) (fun _ h9 => h9) rfl (by decide +kernel) rfl rfl (Nat.le_of_ble_eq_true rfl) d_C_init_16 (fun H locs hP hD hS => ?_)
  have hP : va_P (dC, dI) classes [(h, .inr (0, [.int 0, .int 0, .int 0, .int 0, .null, .int 0, .int 0, .int 0, .int 0, .int 0]))] H := hP
  have hD : va_D A [(h, .inr (0, [.int 0, .int 0, .int 0, .int 0, .null, .int 0, .int 0, .int 0, .int 0, .int 0]))] := hD
  refine lv_aload_n hx hb d_C_init_19 rfl (lv_at hl 0 rfl) ?_
  refine lv_iconst (v := 1) hx hb d_C_init_20 (by decide) ?_
  refine va_put (D := (dC, dI)) (ci := 0) (v := .int 1) (ty := .int) (C := R_C) (T := F_C) (N := 10) hx hb hts i_C t_C t_C_ok n_C hown hK hP hD hS 0 rfl rfl 3 (by decide) (hts _ k_43) (fun _ h9 => h9) rfl (by decide +kernel) rfl rfl (Nat.le_of_ble_eq_true rfl) d_C_init_21 (fun H locs hP hD hS => ?_)
  have hP : va_P (dC, dI) classes [(h, .inr (0, [.int 0, .int 0, .int 0, .int 1, .null, .int 0, .int 0, .int 0, .int 0, .int 0]))] H := hP
  have hD : va_D A [(h, .inr (0, [.int 0, .int 0, .int 0, .int 1, .null, .int 0, .int 0, .int 0, .int 0, .int 0]))] := hD
  refine lv_aload_n hx hb d_C_init_24 rfl (lv_at hl 0 rfl) ?_
  refine lv_bipush (v := 28) hx hb d_C_init_25 (by decide) ?_
  refine va_newa (atype := .int) (N' := 28) (a0 := (28, .inl (fun _ => 0))) hx hb (hts _ k_71) rfl hK hP hD hS hA (fun _ => rfl) (by decide) (by decide) (by decide) (Nat.le_of_ble_eq_true rfl) (Nat.le_of_ble_eq_true rfl) d_C_init_27 (fun q_27 cA_27 H hK hP hD hS => ?_)
  have hP : va_P (dC, dI) classes [(h, .inr (0, [.int 0, .int 0, .int 0, .int 1, .null, .int 0, .int 0, .int 0, .int 0, .int 0])), (q_27, .inl (cA_27, 28, .inl (fun _ => 0)))] H := hP
  have hD : va_D A [(h, .inr (0, [.int 0, .int 0, .int 0, .int 1, .null, .int 0, .int 0, .int 0, .int 0, .int 0])), (q_27, .inl (cA_27, 28, .inl (fun _ => 0)))] := hD
  have hK : va_K (dC, dI) classes [(cA_27, .int)] s := hK
  refine W.widen (k := 1) (n := 28) (by omega) (by omega) ?_
  refine va_putF (D := (dC, dI)) (ci := 0) (v := .ref q_27) (ty := (.array .int)) (C := R_C) (T := F_C) (N := 10) hx hb hts i_C t_C t_C_ok n_C hown hK hP hD hS 0 rfl rfl 4 (by decide) (hts _ k_44) (fun _ h9 => h9) rfl hin rfl (by decide +kernel) rfl rfl (Nat.le_of_ble_eq_true rfl) d_C_init_29 (fun H locs hP hD hS => ?_)
  have hP : va_P (dC, dI) classes [(h, .inr (0, [.int 0, .int 0, .int 0, .int 1, .ref q_27, .int 0, .int 0, .int 0, .int 0, .int 0])), (q_27, .inl (cA_27, 28, .inl (fun _ => 0)))] H := hP
  have hD : va_D A [(h, .inr (0, [.int 0, .int 0, .int 0, .int 1, .ref q_27, .int 0, .int 0, .int 0, .int 0, .int 0])), (q_27, .inl (cA_27, 28, .inl (fun _ => 0)))] := hD
  refine lv_aload_n hx hb d_C_init_32 rfl (lv_at hl 0 rfl) ?_
  refine lv_iconst (v := 0) hx hb d_C_init_33 (by decide) ?_
  refine va_put (D := (dC, dI)) (ci := 0) (v := .int 0) (ty := .int) (C := R_C) (T := F_C) (N := 10) hx hb hts i_C t_C t_C_ok n_C hown hK hP hD hS 0 rfl rfl 5 (by decide) (hts _ k_45) (fun _ h9 => h9) rfl (by decide +kernel) rfl rfl (Nat.le_of_ble_eq_true rfl) d_C_init_34 (fun H locs hP hD hS => ?_)
  have hP : va_P (dC, dI) classes [(h, .inr (0, [.int 0, .int 0, .int 0, .int 1, .ref q_27, .int 0, .int 0, .int 0, .int 0, .int 0])), (q_27, .inl (cA_27, 28, .inl (fun _ => 0)))] H := hP
  have hD : va_D A [(h, .inr (0, [.int 0, .int 0, .int 0, .int 1, .ref q_27, .int 0, .int 0, .int 0, .int 0, .int 0])), (q_27, .inl (cA_27, 28, .inl (fun _ => 0)))] := hD
  refine lv_aload_n hx hb d_C_init_37 rfl (lv_at hl 0 rfl) ?_
  refine lv_iconst (v := 0) hx hb d_C_init_38 (by decide) ?_
  refine va_put (D := (dC, dI)) (ci := 0) (v := .int 0) (ty := .int) (C := R_C) (T := F_C) (N := 10) hx hb hts i_C t_C t_C_ok n_C hown hK hP hD hS 0 rfl rfl 6 (by decide) (hts _ k_46) (fun _ h9 => h9) rfl (by decide +kernel) rfl rfl (Nat.le_of_ble_eq_true rfl) d_C_init_39 (fun H locs hP hD hS => ?_)
  have hP : va_P (dC, dI) classes [(h, .inr (0, [.int 0, .int 0, .int 0, .int 1, .ref q_27, .int 0, .int 0, .int 0, .int 0, .int 0])), (q_27, .inl (cA_27, 28, .inl (fun _ => 0)))] H := hP
  have hD : va_D A [(h, .inr (0, [.int 0, .int 0, .int 0, .int 1, .ref q_27, .int 0, .int 0, .int 0, .int 0, .int 0])), (q_27, .inl (cA_27, 28, .inl (fun _ => 0)))] := hD
  refine lv_aload_n hx hb d_C_init_42 rfl (lv_at hl 0 rfl) ?_
  refine lv_iconst (v := 0) hx hb d_C_init_43 (by decide) ?_
  refine va_put (D := (dC, dI)) (ci := 0) (v := .int 0) (ty := .int) (C := R_C) (T := F_C) (N := 10) hx hb hts i_C t_C t_C_ok n_C hown hK hP hD hS 0 rfl rfl 7 (by decide) (hts _ k_47) (fun _ h9 => h9) rfl (by decide +kernel) rfl rfl (Nat.le_of_ble_eq_true rfl) d_C_init_44 (fun H locs hP hD hS => ?_)
  have hP : va_P (dC, dI) classes [(h, .inr (0, [.int 0, .int 0, .int 0, .int 1, .ref q_27, .int 0, .int 0, .int 0, .int 0, .int 0])), (q_27, .inl (cA_27, 28, .inl (fun _ => 0)))] H := hP
  have hD : va_D A [(h, .inr (0, [.int 0, .int 0, .int 0, .int 1, .ref q_27, .int 0, .int 0, .int 0, .int 0, .int 0])), (q_27, .inl (cA_27, 28, .inl (fun _ => 0)))] := hD
  refine lv_aload_n hx hb d_C_init_47 rfl (lv_at hl 0 rfl) ?_
  refine lv_iconst (v := 0) hx hb d_C_init_48 (by decide) ?_
  refine va_put (D := (dC, dI)) (ci := 0) (v := .int 0) (ty := .int) (C := R_C) (T := F_C) (N := 10) hx hb hts i_C t_C t_C_ok n_C hown hK hP hD hS 0 rfl rfl 8 (by decide) (hts _ k_48) (fun _ h9 => h9) rfl (by decide +kernel) rfl rfl (Nat.le_of_ble_eq_true rfl) d_C_init_49 (fun H locs hP hD hS => ?_)
  have hP : va_P (dC, dI) classes [(h, .inr (0, [.int 0, .int 0, .int 0, .int 1, .ref q_27, .int 0, .int 0, .int 0, .int 0, .int 0])), (q_27, .inl (cA_27, 28, .inl (fun _ => 0)))] H := hP
  have hD : va_D A [(h, .inr (0, [.int 0, .int 0, .int 0, .int 1, .ref q_27, .int 0, .int 0, .int 0, .int 0, .int 0])), (q_27, .inl (cA_27, 28, .inl (fun _ => 0)))] := hD
  refine lv_aload_n hx hb d_C_init_52 rfl (lv_at hl 0 rfl) ?_
  refine lv_iconst (v := 1) hx hb d_C_init_53 (by decide) ?_
  refine va_put (D := (dC, dI)) (ci := 0) (v := .int 1) (ty := .int) (C := R_C) (T := F_C) (N := 10) hx hb hts i_C t_C t_C_ok n_C hown hK hP hD hS 0 rfl rfl 9 (by decide) (hts _ k_49) (fun _ h9 => h9) rfl (by decide +kernel) rfl rfl (Nat.le_of_ble_eq_true rfl) d_C_init_54 (fun H locs hP hD hS => ?_)
  have hP : va_P (dC, dI) classes [(h, .inr (0, [.int 0, .int 0, .int 0, .int 1, .ref q_27, .int 0, .int 0, .int 0, .int 0, .int 1])), (q_27, .inl (cA_27, 28, .inl (fun _ => 0)))] H := hP
  have hD : va_D A [(h, .inr (0, [.int 0, .int 0, .int 0, .int 1, .ref q_27, .int 0, .int 0, .int 0, .int 0, .int 1])), (q_27, .inl (cA_27, 28, .inl (fun _ => 0)))] := hD
  have hP9 := hP.sub (ws' := [(h, .inr (0, [.int 0, .int 0, .int 0, .int 1, .ref q_27, .int 0, .int 0, .int 0, .int 0, .int 1])), (q_27, .inl (cA_27, 28, .inl (fun _ => 0)))]) [0, 1] rfl
  have hD9 := hD.sub (ws' := [(h, .inr (0, [.int 0, .int 0, .int 0, .int 1, .ref q_27, .int 0, .int 0, .int 0, .int 0, .int 1])), (q_27, .inl (cA_27, 28, .inl (fun _ => 0)))]) [0, 1] (by decide) rfl
  have hK9 := hK.sub (tys' := [(cA_27, .int)]) [0] rfl
  exact W.vret hx hb hr (fun u9 ht hW => ⟨⟨(), rfl, trivial, ⟨q_27, cA_27, by rw [ht]; exact hP9, va_K.moved hW.alike hK9, hD9⟩⟩, hS.F ht⟩) hS.2.2 d_C_init_57

set_option maxHeartbeats 1000000 in
set_option maxRecDepth 100000 in
theorem c_E_init (l : Launch) (dC : Nat → ClassId) (dI : Nat → Nat → Nat) (h0 : Nat) (sz : Nat) : Met l y_E_init w_E_init ({ frames := 2, cells := 6, slots := 114, locals := 32 }) (va_Pc [.ref h0] (PI dC dI [] [(h0, .inr (1, [.null, .null, .null, .long 0, .int 0, .int 0, .int 0, .int 0, .int 0, .int 0, .int 0, .int 0]))] sz)) (va_Qv (fun (u : Unit) => True) (fun (u : Unit) t => ∃ (h1 h2 h3 v0 v1 v2 : Nat) (k0 k1 k2 : ClassId), EI dC dI [(k0, .int), (k1, .int), (k2, .int)] [(h0, .inr (1, [.ref h1, .ref h2, .ref h3, .long 0, .int 0, .int 0, .int 1, .int 1, .int 0, .int 0, .int 0, .int 0])), (h1, .inr (0, [.int 0, .int 0, .int 0, .int 1, .ref v0, .int 0, .int 0, .int 0, .int 0, .int 1])), (h2, .inr (0, [.int 0, .int 0, .int 0, .int 1, .ref v1, .int 0, .int 0, .int 0, .int 0, .int 1])), (h3, .inr (0, [.int 0, .int 0, .int 0, .int 1, .ref v2, .int 0, .int 0, .int 0, .int 0, .int 1])), (v0, .inl (k0, 28, .inl (fun _ => 0))), (v1, .inl (k1, 28, .inl (fun _ => 0))), (v2, .inl (k2, 28, .inl (fun _ => 0)))] (va_A [(h0, .inr (1, [.null, .null, .null, .long 0, .int 0, .int 0, .int 0, .int 0, .int 0, .int 0, .int 0, .int 0]))] sz) t) (va_A [(h0, .inr (1, [.null, .null, .null, .long 0, .int 0, .int 0, .int 0, .int 0, .int 0, .int 0, .int 0, .int 0]))] sz)) 6 114 (va_A [(h0, .inr (1, [.null, .null, .null, .long 0, .int 0, .int 0, .int 0, .int 0, .int 0, .int 0, .int 0, .int 0]))] sz) := by
  refine Met.ofW (cc := b_E_init) (maxL := 1) (ret := none) (by decide +kernel) rfl ?_
  intro p e s m args below meth c s₁ B hml hv
  obtain ⟨rfl, hsz, hN, hK, hP, hD0⟩ := hv
  have hx := B.exec
  have hb := B.bytes
  have hr := B.returns
  have hts := er_hts (atoms_spec (ws := w_E_init) B.pre)
  have hown : s.vm.findClass R_E = some m.cls := findClass_of_methodNamed B.named
  have hlocks := B.notSynchronized
  have hin : meth.name = "<init>" := (name_of_methodNamed B.named B.method).1
  subst hsz
  have hD := hD0.self (sz := s.heap.size)
  generalize hAe : va_A [(h0, .inr (1, [.null, .null, .null, .long 0, .int 0, .int 0, .int 0, .int 0, .int 0, .int 0, .int 0, .int 0]))] s.heap.size = A at hD ⊢
  have hA : ∀ q : Nat, s.heap.size ≤ q → A q := fun q h => by rw [← hAe]; exact Or.inr h
  have hS : va_S A s.heap s.heap [] := va_S.rf
  have hP : va_P (dC, dI) classes [(h0, .inr (1, [.null, .null, .null, .long 0, .int 0, .int 0, .int 0, .int 0, .int 0, .int 0, .int 0, .int 0]))] s.heap := hP
  have hl := lv_entry ([.ref h0]) (n := 1) (Nat.le_of_ble_eq_true rfl)
  rw [lg_entry_eq]
  generalize (lg_sl ([.ref h0]) ++ List.replicate (1 - (lg_sl ([.ref h0])).length) Slot.unset).toArray = ls at hl ⊢
  have hl : lv_has ls 1 [(0, .ref h0)] := hl
  refine lv_aload_n hx hb d_E_init_0 rfl (lv_at hl 0 rfl) ?_
  refine W.objInit hx hb hown (hts _ k_32) (hts _ k_33) (hts _ k_34) rfl (by rw [hml]; exact hl.1) rfl d_E_init_1 (Nat.le_of_ble_eq_true rfl) (Nat.le_of_ble_eq_true rfl) ?_
  refine W.eq (g2 := F0 m 4 ls []) rfl ?_
  refine lv_aload_n hx hb d_E_init_4 rfl (lv_at hl 0 rfl) ?_
  refine va_new (ci := 0) (fs := [.int 0, .int 0, .int 0, .int 0, .null, .int 0, .int 0, .int 0, .int 0, .int 0]) (C := R_C) (T := F_C) (N := 10) hx hb hts i_C t_C t_C_ok hown (hts _ k_35) (hts _ k_36) (hts _ k_19) hK hP hD hS hA rfl (fun j hj => by rcases (show j = 0 ∨ j = 1 ∨ j = 2 ∨ j = 3 ∨ j = 4 ∨ j = 5 ∨ j = 6 ∨ j = 7 ∨ j = 8 ∨ j = 9 by omega) with rfl | rfl | rfl | rfl | rfl | rfl | rfl | rfl | rfl | rfl <;> rfl) (Nat.le_of_ble_eq_true rfl) (Nat.le_of_ble_eq_true rfl) d_E_init_5 (fun q_5 H hP hD hS => ?_)
  have hP : va_P (dC, dI) classes [(h0, .inr (1, [.null, .null, .null, .long 0, .int 0, .int 0, .int 0, .int 0, .int 0, .int 0, .int 0, .int 0])), (q_5, .inr (0, [.int 0, .int 0, .int 0, .int 0, .null, .int 0, .int 0, .int 0, .int 0, .int 0]))] H := hP
  have hD : va_D A [(h0, .inr (1, [.null, .null, .null, .long 0, .int 0, .int 0, .int 0, .int 0, .int 0, .int 0, .int 0, .int 0])), (q_5, .inr (0, [.int 0, .int 0, .int 0, .int 0, .null, .int 0, .int 0, .int 0, .int 0, .int 0]))] := hD
  refine W.widen (k := 1) (n := 10) (by omega) (by omega) ?_
  refine lv_dup hx hb d_E_init_8 rfl ?_
  have hPc := hP.sub (ws' := [(q_5, .inr (0, [.int 0, .int 0, .int 0, .int 0, .null, .int 0, .int 0, .int 0, .int 0, .int 0]))]) [1] rfl
  have hDc := hD.sub (ws' := [(q_5, .inr (0, [.int 0, .int 0, .int 0, .int 0, .null, .int 0, .int 0, .int 0, .int 0, .int 0]))]) [1] (by decide) rfl
  have hKc := hK.sub (tys' := []) [] rfl
  have hFc := va_free (wc := [(q_5, .inr (0, [.int 0, .int 0, .int 0, .int 0, .null, .int 0, .int 0, .int 0, .int 0, .int 0]))]) hD hS hA [1] rfl
  refine va_callv (va_runIN (As := []) (rest := [.ref q_5, .ref h0]) ⟨hx, hb, hml, hown, hts⟩ (c_C_init l dC dI q_5 H.size) ⟨va_cnB 0 hts (er_gB k_38) rfl rfl rfl (hN _ kn_0) (hts _ k_19) (by decide +kernel) ⟨Nat.le_of_ble_eq_true rfl, Nat.le_of_ble_eq_true rfl⟩, rfl, hts _ k_37⟩ ⟨PI.blind, PI.at hN hKc hPc hDc⟩ rfl rfl hl.1 rfl (lv_room (Nat.le_of_ble_eq_true rfl)) d_E_init_9 ⟨Nat.le_of_ble_eq_true rfl, Nat.le_of_ble_eq_true rfl⟩) hS (fun q _ h => hFc q h) hFc (fun u t H1 locs ht hvm hw hB hz1 hk1 hS => ?_)
  obtain ⟨hv_2, cA_3, hP1, hK1, hD1⟩ := hB
  rw [ht] at hP1
  have hK1 := va_K.moved hvm.symm hK1
  obtain ⟨hP, hD⟩ := va_join (wr := [(h0, .inr (1, [.null, .null, .null, .long 0, .int 0, .int 0, .int 0, .int 0, .int 0, .int 0, .int 0, .int 0]))]) (w1 := [(q_5, .inr (0, [.int 0, .int 0, .int 0, .int 1, .ref hv_2, .int 0, .int 0, .int 0, .int 0, .int 1])), (hv_2, .inl (cA_3, 28, .inl (fun _ => 0)))]) hP hD [1] [0] rfl rfl (by decide) (by decide) hk1 hFc hP1 hD1
  have hK := (hK.sub (tys' := []) [] rfl).app hK1
  generalize H1 = H at hP hS ⊢
  have hP : va_P (dC, dI) classes [(h0, .inr (1, [.null, .null, .null, .long 0, .int 0, .int 0, .int 0, .int 0, .int 0, .int 0, .int 0, .int 0])), (q_5, .inr (0, [.int 0, .int 0, .int 0, .int 1, .ref hv_2, .int 0, .int 0, .int 0, .int 0, .int 1])), (hv_2, .inl (cA_3, 28, .inl (fun _ => 0)))] H := hP
  have hD : va_D A [(h0, .inr (1, [.null, .null, .null, .long 0, .int 0, .int 0, .int 0, .int 0, .int 0, .int 0, .int 0, .int 0])), (q_5, .inr (0, [.int 0, .int 0, .int 0, .int 1, .ref hv_2, .int 0, .int 0, .int 0, .int 0, .int 1])), (hv_2, .inl (cA_3, 28, .inl (fun _ => 0)))] := hD
  have hK : va_K (dC, dI) classes [(cA_3, .int)] s := hK
  refine va_putF (D := (dC, dI)) (ci := 1) (v := .ref q_5) (ty := (.object "EdgeRaster$Corner")) (C := R_E) (T := F_E) (N := 12) hx hb hts i_E t_E t_E_ok n_E hown hK hP hD hS 0 rfl rfl 0 (by decide) (hts _ k_72) (fun _ h9 => h9) rfl hin rfl (by decide +kernel) rfl rfl (Nat.le_of_ble_eq_true rfl) d_E_init_12 (fun H locs hP hD hS => ?_)
  have hP : va_P (dC, dI) classes [(h0, .inr (1, [.ref q_5, .null, .null, .long 0, .int 0, .int 0, .int 0, .int 0, .int 0, .int 0, .int 0, .int 0])), (q_5, .inr (0, [.int 0, .int 0, .int 0, .int 1, .ref hv_2, .int 0, .int 0, .int 0, .int 0, .int 1])), (hv_2, .inl (cA_3, 28, .inl (fun _ => 0)))] H := hP
  have hD : va_D A [(h0, .inr (1, [.ref q_5, .null, .null, .long 0, .int 0, .int 0, .int 0, .int 0, .int 0, .int 0, .int 0, .int 0])), (q_5, .inr (0, [.int 0, .int 0, .int 0, .int 1, .ref hv_2, .int 0, .int 0, .int 0, .int 0, .int 1])), (hv_2, .inl (cA_3, 28, .inl (fun _ => 0)))] := hD
  refine lv_aload_n hx hb d_E_init_15 rfl (lv_at hl 0 rfl) ?_
  refine va_new (ci := 0) (fs := [.int 0, .int 0, .int 0, .int 0, .null, .int 0, .int 0, .int 0, .int 0, .int 0]) (C := R_C) (T := F_C) (N := 10) hx hb hts i_C t_C t_C_ok hown (hts _ k_35) (hts _ k_36) (hts _ k_19) hK hP hD hS hA rfl (fun j hj => by rcases (show j = 0 ∨ j = 1 ∨ j = 2 ∨ j = 3 ∨ j = 4 ∨ j = 5 ∨ j = 6 ∨ j = 7 ∨ j = 8 ∨ j = 9 by omega) with rfl | rfl | rfl | rfl | rfl | rfl | rfl | rfl | rfl | rfl <;> rfl) (Nat.le_of_ble_eq_true rfl) (Nat.le_of_ble_eq_true rfl) d_E_init_16 (fun q_16 H hP hD hS => ?_)
  have hP : va_P (dC, dI) classes [(h0, .inr (1, [.ref q_5, .null, .null, .long 0, .int 0, .int 0, .int 0, .int 0, .int 0, .int 0, .int 0, .int 0])), (q_5, .inr (0, [.int 0, .int 0, .int 0, .int 1, .ref hv_2, .int 0, .int 0, .int 0, .int 0, .int 1])), (hv_2, .inl (cA_3, 28, .inl (fun _ => 0))), (q_16, .inr (0, [.int 0, .int 0, .int 0, .int 0, .null, .int 0, .int 0, .int 0, .int 0, .int 0]))] H := hP
  have hD : va_D A [(h0, .inr (1, [.ref q_5, .null, .null, .long 0, .int 0, .int 0, .int 0, .int 0, .int 0, .int 0, .int 0, .int 0])), (q_5, .inr (0, [.int 0, .int 0, .int 0, .int 1, .ref hv_2, .int 0, .int 0, .int 0, .int 0, .int 1])), (hv_2, .inl (cA_3, 28, .inl (fun _ => 0))), (q_16, .inr (0, [.int 0, .int 0, .int 0, .int 0, .null, .int 0, .int 0, .int 0, .int 0, .int 0]))] := hD
  refine W.widen (k := 3) (n := 48) (by omega) (by omega) ?_
  refine lv_dup hx hb d_E_init_19 rfl ?_
  have hPc := hP.sub (ws' := [(q_16, .inr (0, [.int 0, .int 0, .int 0, .int 0, .null, .int 0, .int 0, .int 0, .int 0, .int 0]))]) [3] rfl
  have hDc := hD.sub (ws' := [(q_16, .inr (0, [.int 0, .int 0, .int 0, .int 0, .null, .int 0, .int 0, .int 0, .int 0, .int 0]))]) [3] (by decide) rfl
  have hKc := hK.sub (tys' := []) [] rfl
  have hFc := va_free (wc := [(q_16, .inr (0, [.int 0, .int 0, .int 0, .int 0, .null, .int 0, .int 0, .int 0, .int 0, .int 0]))]) hD hS hA [3] rfl
  refine va_callv (va_runIN (As := []) (rest := [.ref q_16, .ref h0]) ⟨hx, hb, hml, hown, hts⟩ (c_C_init l dC dI q_16 H.size) ⟨va_cnB 0 hts (er_gB k_38) rfl rfl rfl (hN _ kn_0) (hts _ k_19) (by decide +kernel) ⟨Nat.le_of_ble_eq_true rfl, Nat.le_of_ble_eq_true rfl⟩, rfl, hts _ k_37⟩ ⟨PI.blind, PI.at hN hKc hPc hDc⟩ rfl rfl hl.1 rfl (lv_room (Nat.le_of_ble_eq_true rfl)) d_E_init_20 ⟨Nat.le_of_ble_eq_true rfl, Nat.le_of_ble_eq_true rfl⟩) hS (fun q _ h => hFc q h) hFc (fun u t H1 locs ht hvm hw hB hz1 hk1 hS => ?_)
  obtain ⟨hv_5, cA_6, hP1, hK1, hD1⟩ := hB
  rw [ht] at hP1
  have hK1 := va_K.moved hvm.symm hK1
  obtain ⟨hP, hD⟩ := va_join (wr := [(h0, .inr (1, [.ref q_5, .null, .null, .long 0, .int 0, .int 0, .int 0, .int 0, .int 0, .int 0, .int 0, .int 0])), (q_5, .inr (0, [.int 0, .int 0, .int 0, .int 1, .ref hv_2, .int 0, .int 0, .int 0, .int 0, .int 1])), (hv_2, .inl (cA_3, 28, .inl (fun _ => 0)))]) (w1 := [(q_16, .inr (0, [.int 0, .int 0, .int 0, .int 1, .ref hv_5, .int 0, .int 0, .int 0, .int 0, .int 1])), (hv_5, .inl (cA_6, 28, .inl (fun _ => 0)))]) hP hD [3] [0, 1, 2] rfl rfl (by decide) (by decide) hk1 hFc hP1 hD1
  have hK := (hK.sub (tys' := [(cA_3, .int)]) [0] rfl).app hK1
  generalize H1 = H at hP hS ⊢
  have hP : va_P (dC, dI) classes [(h0, .inr (1, [.ref q_5, .null, .null, .long 0, .int 0, .int 0, .int 0, .int 0, .int 0, .int 0, .int 0, .int 0])), (q_5, .inr (0, [.int 0, .int 0, .int 0, .int 1, .ref hv_2, .int 0, .int 0, .int 0, .int 0, .int 1])), (hv_2, .inl (cA_3, 28, .inl (fun _ => 0))), (q_16, .inr (0, [.int 0, .int 0, .int 0, .int 1, .ref hv_5, .int 0, .int 0, .int 0, .int 0, .int 1])), (hv_5, .inl (cA_6, 28, .inl (fun _ => 0)))] H := hP
  have hD : va_D A [(h0, .inr (1, [.ref q_5, .null, .null, .long 0, .int 0, .int 0, .int 0, .int 0, .int 0, .int 0, .int 0, .int 0])), (q_5, .inr (0, [.int 0, .int 0, .int 0, .int 1, .ref hv_2, .int 0, .int 0, .int 0, .int 0, .int 1])), (hv_2, .inl (cA_3, 28, .inl (fun _ => 0))), (q_16, .inr (0, [.int 0, .int 0, .int 0, .int 1, .ref hv_5, .int 0, .int 0, .int 0, .int 0, .int 1])), (hv_5, .inl (cA_6, 28, .inl (fun _ => 0)))] := hD
  have hK : va_K (dC, dI) classes [(cA_3, .int), (cA_6, .int)] s := hK
  refine va_putF (D := (dC, dI)) (ci := 1) (v := .ref q_16) (ty := (.object "EdgeRaster$Corner")) (C := R_E) (T := F_E) (N := 12) hx hb hts i_E t_E t_E_ok n_E hown hK hP hD hS 0 rfl rfl 1 (by decide) (hts _ k_73) (fun _ h9 => h9) rfl hin rfl (by decide +kernel) rfl rfl (Nat.le_of_ble_eq_true rfl) d_E_init_23 (fun H locs hP hD hS => ?_)
  have hP : va_P (dC, dI) classes [(h0, .inr (1, [.ref q_5, .ref q_16, .null, .long 0, .int 0, .int 0, .int 0, .int 0, .int 0, .int 0, .int 0, .int 0])), (q_5, .inr (0, [.int 0, .int 0, .int 0, .int 1, .ref hv_2, .int 0, .int 0, .int 0, .int 0, .int 1])), (hv_2, .inl (cA_3, 28, .inl (fun _ => 0))), (q_16, .inr (0, [.int 0, .int 0, .int 0, .int 1, .ref hv_5, .int 0, .int 0, .int 0, .int 0, .int 1])), (hv_5, .inl (cA_6, 28, .inl (fun _ => 0)))] H := hP
  have hD : va_D A [(h0, .inr (1, [.ref q_5, .ref q_16, .null, .long 0, .int 0, .int 0, .int 0, .int 0, .int 0, .int 0, .int 0, .int 0])), (q_5, .inr (0, [.int 0, .int 0, .int 0, .int 1, .ref hv_2, .int 0, .int 0, .int 0, .int 0, .int 1])), (hv_2, .inl (cA_3, 28, .inl (fun _ => 0))), (q_16, .inr (0, [.int 0, .int 0, .int 0, .int 1, .ref hv_5, .int 0, .int 0, .int 0, .int 0, .int 1])), (hv_5, .inl (cA_6, 28, .inl (fun _ => 0)))] := hD
  refine lv_aload_n hx hb d_E_init_26 rfl (lv_at hl 0 rfl) ?_
  refine va_new (ci := 0) (fs := [.int 0, .int 0, .int 0, .int 0, .null, .int 0, .int 0, .int 0, .int 0, .int 0]) (C := R_C) (T := F_C) (N := 10) hx hb hts i_C t_C t_C_ok hown (hts _ k_35) (hts _ k_36) (hts _ k_19) hK hP hD hS hA rfl (fun j hj => by rcases (show j = 0 ∨ j = 1 ∨ j = 2 ∨ j = 3 ∨ j = 4 ∨ j = 5 ∨ j = 6 ∨ j = 7 ∨ j = 8 ∨ j = 9 by omega) with rfl | rfl | rfl | rfl | rfl | rfl | rfl | rfl | rfl | rfl <;> rfl) (Nat.le_of_ble_eq_true rfl) (Nat.le_of_ble_eq_true rfl) d_E_init_27 (fun q_27 H hP hD hS => ?_)
  have hP : va_P (dC, dI) classes [(h0, .inr (1, [.ref q_5, .ref q_16, .null, .long 0, .int 0, .int 0, .int 0, .int 0, .int 0, .int 0, .int 0, .int 0])), (q_5, .inr (0, [.int 0, .int 0, .int 0, .int 1, .ref hv_2, .int 0, .int 0, .int 0, .int 0, .int 1])), (hv_2, .inl (cA_3, 28, .inl (fun _ => 0))), (q_16, .inr (0, [.int 0, .int 0, .int 0, .int 1, .ref hv_5, .int 0, .int 0, .int 0, .int 0, .int 1])), (hv_5, .inl (cA_6, 28, .inl (fun _ => 0))), (q_27, .inr (0, [.int 0, .int 0, .int 0, .int 0, .null, .int 0, .int 0, .int 0, .int 0, .int 0]))] H := hP
  have hD : va_D A [(h0, .inr (1, [.ref q_5, .ref q_16, .null, .long 0, .int 0, .int 0, .int 0, .int 0, .int 0, .int 0, .int 0, .int 0])), (q_5, .inr (0, [.int 0, .int 0, .int 0, .int 1, .ref hv_2, .int 0, .int 0, .int 0, .int 0, .int 1])), (hv_2, .inl (cA_3, 28, .inl (fun _ => 0))), (q_16, .inr (0, [.int 0, .int 0, .int 0, .int 1, .ref hv_5, .int 0, .int 0, .int 0, .int 0, .int 1])), (hv_5, .inl (cA_6, 28, .inl (fun _ => 0))), (q_27, .inr (0, [.int 0, .int 0, .int 0, .int 0, .null, .int 0, .int 0, .int 0, .int 0, .int 0]))] := hD
  refine W.widen (k := 5) (n := 86) (by omega) (by omega) ?_
  refine lv_dup hx hb d_E_init_30 rfl ?_
  have hPc := hP.sub (ws' := [(q_27, .inr (0, [.int 0, .int 0, .int 0, .int 0, .null, .int 0, .int 0, .int 0, .int 0, .int 0]))]) [5] rfl
  have hDc := hD.sub (ws' := [(q_27, .inr (0, [.int 0, .int 0, .int 0, .int 0, .null, .int 0, .int 0, .int 0, .int 0, .int 0]))]) [5] (by decide) rfl
  have hKc := hK.sub (tys' := []) [] rfl
  have hFc := va_free (wc := [(q_27, .inr (0, [.int 0, .int 0, .int 0, .int 0, .null, .int 0, .int 0, .int 0, .int 0, .int 0]))]) hD hS hA [5] rfl
  refine va_callv (va_runIN (As := []) (rest := [.ref q_27, .ref h0]) ⟨hx, hb, hml, hown, hts⟩ (c_C_init l dC dI q_27 H.size) ⟨va_cnB 0 hts (er_gB k_38) rfl rfl rfl (hN _ kn_0) (hts _ k_19) (by decide +kernel) ⟨Nat.le_of_ble_eq_true rfl, Nat.le_of_ble_eq_true rfl⟩, rfl, hts _ k_37⟩ ⟨PI.blind, PI.at hN hKc hPc hDc⟩ rfl rfl hl.1 rfl (lv_room (Nat.le_of_ble_eq_true rfl)) d_E_init_31 ⟨Nat.le_of_ble_eq_true rfl, Nat.le_of_ble_eq_true rfl⟩) hS (fun q _ h => hFc q h) hFc (fun u t H1 locs ht hvm hw hB hz1 hk1 hS => ?_)
  obtain ⟨hv_8, cA_9, hP1, hK1, hD1⟩ := hB
  rw [ht] at hP1
  have hK1 := va_K.moved hvm.symm hK1
  obtain ⟨hP, hD⟩ := va_join (wr := [(h0, .inr (1, [.ref q_5, .ref q_16, .null, .long 0, .int 0, .int 0, .int 0, .int 0, .int 0, .int 0, .int 0, .int 0])), (q_5, .inr (0, [.int 0, .int 0, .int 0, .int 1, .ref hv_2, .int 0, .int 0, .int 0, .int 0, .int 1])), (hv_2, .inl (cA_3, 28, .inl (fun _ => 0))), (q_16, .inr (0, [.int 0, .int 0, .int 0, .int 1, .ref hv_5, .int 0, .int 0, .int 0, .int 0, .int 1])), (hv_5, .inl (cA_6, 28, .inl (fun _ => 0)))]) (w1 := [(q_27, .inr (0, [.int 0, .int 0, .int 0, .int 1, .ref hv_8, .int 0, .int 0, .int 0, .int 0, .int 1])), (hv_8, .inl (cA_9, 28, .inl (fun _ => 0)))]) hP hD [5] [0, 1, 2, 3, 4] rfl rfl (by decide) (by decide) hk1 hFc hP1 hD1
  have hK := (hK.sub (tys' := [(cA_3, .int), (cA_6, .int)]) [0, 1] rfl).app hK1
  generalize H1 = H at hP hS ⊢
  have hP : va_P (dC, dI) classes [(h0, .inr (1, [.ref q_5, .ref q_16, .null, .long 0, .int 0, .int 0, .int 0, .int 0, .int 0, .int 0, .int 0, .int 0])), (q_5, .inr (0, [.int 0, .int 0, .int 0, .int 1, .ref hv_2, .int 0, .int 0, .int 0, .int 0, .int 1])), (hv_2, .inl (cA_3, 28, .inl (fun _ => 0))), (q_16, .inr (0, [.int 0, .int 0, .int 0, .int 1, .ref hv_5, .int 0, .int 0, .int 0, .int 0, .int 1])), (hv_5, .inl (cA_6, 28, .inl (fun _ => 0))), (q_27, .inr (0, [.int 0, .int 0, .int 0, .int 1, .ref hv_8, .int 0, .int 0, .int 0, .int 0, .int 1])), (hv_8, .inl (cA_9, 28, .inl (fun _ => 0)))] H := hP
  have hD : va_D A [(h0, .inr (1, [.ref q_5, .ref q_16, .null, .long 0, .int 0, .int 0, .int 0, .int 0, .int 0, .int 0, .int 0, .int 0])), (q_5, .inr (0, [.int 0, .int 0, .int 0, .int 1, .ref hv_2, .int 0, .int 0, .int 0, .int 0, .int 1])), (hv_2, .inl (cA_3, 28, .inl (fun _ => 0))), (q_16, .inr (0, [.int 0, .int 0, .int 0, .int 1, .ref hv_5, .int 0, .int 0, .int 0, .int 0, .int 1])), (hv_5, .inl (cA_6, 28, .inl (fun _ => 0))), (q_27, .inr (0, [.int 0, .int 0, .int 0, .int 1, .ref hv_8, .int 0, .int 0, .int 0, .int 0, .int 1])), (hv_8, .inl (cA_9, 28, .inl (fun _ => 0)))] := hD
  have hK : va_K (dC, dI) classes [(cA_3, .int), (cA_6, .int), (cA_9, .int)] s := hK
  refine va_putF (D := (dC, dI)) (ci := 1) (v := .ref q_27) (ty := (.object "EdgeRaster$Corner")) (C := R_E) (T := F_E) (N := 12) hx hb hts i_E t_E t_E_ok n_E hown hK hP hD hS 0 rfl rfl 2 (by decide) (hts _ k_74) (fun _ h9 => h9) rfl hin rfl (by decide +kernel) rfl rfl (Nat.le_of_ble_eq_true rfl) d_E_init_34 (fun H locs hP hD hS => ?_)
  have hP : va_P (dC, dI) classes [(h0, .inr (1, [.ref q_5, .ref q_16, .ref q_27, .long 0, .int 0, .int 0, .int 0, .int 0, .int 0, .int 0, .int 0, .int 0])), (q_5, .inr (0, [.int 0, .int 0, .int 0, .int 1, .ref hv_2, .int 0, .int 0, .int 0, .int 0, .int 1])), (hv_2, .inl (cA_3, 28, .inl (fun _ => 0))), (q_16, .inr (0, [.int 0, .int 0, .int 0, .int 1, .ref hv_5, .int 0, .int 0, .int 0, .int 0, .int 1])), (hv_5, .inl (cA_6, 28, .inl (fun _ => 0))), (q_27, .inr (0, [.int 0, .int 0, .int 0, .int 1, .ref hv_8, .int 0, .int 0, .int 0, .int 0, .int 1])), (hv_8, .inl (cA_9, 28, .inl (fun _ => 0)))] H := hP
  have hD : va_D A [(h0, .inr (1, [.ref q_5, .ref q_16, .ref q_27, .long 0, .int 0, .int 0, .int 0, .int 0, .int 0, .int 0, .int 0, .int 0])), (q_5, .inr (0, [.int 0, .int 0, .int 0, .int 1, .ref hv_2, .int 0, .int 0, .int 0, .int 0, .int 1])), (hv_2, .inl (cA_3, 28, .inl (fun _ => 0))), (q_16, .inr (0, [.int 0, .int 0, .int 0, .int 1, .ref hv_5, .int 0, .int 0, .int 0, .int 0, .int 1])), (hv_5, .inl (cA_6, 28, .inl (fun _ => 0))), (q_27, .inr (0, [.int 0, .int 0, .int 0, .int 1, .ref hv_8, .int 0, .int 0, .int 0, .int 0, .int 1])), (hv_8, .inl (cA_9, 28, .inl (fun _ => 0)))] := hD
  refine lv_aload_n hx hb d_E_init_37 rfl (lv_at hl 0 rfl) ?_
  refine lv_lconst (v := 0) hx hb d_E_init_38 (by decide) ?_
  refine va_put (D := (dC, dI)) (ci := 1) (v := .long 0) (ty := .long) (C := R_E) (T := F_E) (N := 12) hx hb hts i_E t_E t_E_ok n_E hown hK hP hD hS 0 rfl rfl 3 (by decide) (hts _ k_75) (fun _ h9 => h9) rfl (by decide +kernel) rfl rfl (Nat.le_of_ble_eq_true rfl) d_E_init_39 (fun H locs hP hD hS => ?_)
  have hP : va_P (dC, dI) classes [(h0, .inr (1, [.ref q_5, .ref q_16, .ref q_27, .long 0, .int 0, .int 0, .int 0, .int 0, .int 0, .int 0, .int 0, .int 0])), (q_5, .inr (0, [.int 0, .int 0, .int 0, .int 1, .ref hv_2, .int 0, .int 0, .int 0, .int 0, .int 1])), (hv_2, .inl (cA_3, 28, .inl (fun _ => 0))), (q_16, .inr (0, [.int 0, .int 0, .int 0, .int 1, .ref hv_5, .int 0, .int 0, .int 0, .int 0, .int 1])), (hv_5, .inl (cA_6, 28, .inl (fun _ => 0))), (q_27, .inr (0, [.int 0, .int 0, .int 0, .int 1, .ref hv_8, .int 0, .int 0, .int 0, .int 0, .int 1])), (hv_8, .inl (cA_9, 28, .inl (fun _ => 0)))] H := hP
  have hD : va_D A [(h0, .inr (1, [.ref q_5, .ref q_16, .ref q_27, .long 0, .int 0, .int 0, .int 0, .int 0, .int 0, .int 0, .int 0, .int 0])), (q_5, .inr (0, [.int 0, .int 0, .int 0, .int 1, .ref hv_2, .int 0, .int 0, .int 0, .int 0, .int 1])), (hv_2, .inl (cA_3, 28, .inl (fun _ => 0))), (q_16, .inr (0, [.int 0, .int 0, .int 0, .int 1, .ref hv_5, .int 0, .int 0, .int 0, .int 0, .int 1])), (hv_5, .inl (cA_6, 28, .inl (fun _ => 0))), (q_27, .inr (0, [.int 0, .int 0, .int 0, .int 1, .ref hv_8, .int 0, .int 0, .int 0, .int 0, .int 1])), (hv_8, .inl (cA_9, 28, .inl (fun _ => 0)))] := hD
  refine lv_aload_n hx hb d_E_init_42 rfl (lv_at hl 0 rfl) ?_
  refine lv_iconst (v := 0) hx hb d_E_init_43 (by decide) ?_
  refine va_put (D := (dC, dI)) (ci := 1) (v := .int 0) (ty := .int) (C := R_E) (T := F_E) (N := 12) hx hb hts i_E t_E t_E_ok n_E hown hK hP hD hS 0 rfl rfl 4 (by decide) (hts _ k_76) (fun _ h9 => h9) rfl (by decide +kernel) rfl rfl (Nat.le_of_ble_eq_true rfl) d_E_init_44 (fun H locs hP hD hS => ?_)
  have hP : va_P (dC, dI) classes [(h0, .inr (1, [.ref q_5, .ref q_16, .ref q_27, .long 0, .int 0, .int 0, .int 0, .int 0, .int 0, .int 0, .int 0, .int 0])), (q_5, .inr (0, [.int 0, .int 0, .int 0, .int 1, .ref hv_2, .int 0, .int 0, .int 0, .int 0, .int 1])), (hv_2, .inl (cA_3, 28, .inl (fun _ => 0))), (q_16, .inr (0, [.int 0, .int 0, .int 0, .int 1, .ref hv_5, .int 0, .int 0, .int 0, .int 0, .int 1])), (hv_5, .inl (cA_6, 28, .inl (fun _ => 0))), (q_27, .inr (0, [.int 0, .int 0, .int 0, .int 1, .ref hv_8, .int 0, .int 0, .int 0, .int 0, .int 1])), (hv_8, .inl (cA_9, 28, .inl (fun _ => 0)))] H := hP
  have hD : va_D A [(h0, .inr (1, [.ref q_5, .ref q_16, .ref q_27, .long 0, .int 0, .int 0, .int 0, .int 0, .int 0, .int 0, .int 0, .int 0])), (q_5, .inr (0, [.int 0, .int 0, .int 0, .int 1, .ref hv_2, .int 0, .int 0, .int 0, .int 0, .int 1])), (hv_2, .inl (cA_3, 28, .inl (fun _ => 0))), (q_16, .inr (0, [.int 0, .int 0, .int 0, .int 1, .ref hv_5, .int 0, .int 0, .int 0, .int 0, .int 1])), (hv_5, .inl (cA_6, 28, .inl (fun _ => 0))), (q_27, .inr (0, [.int 0, .int 0, .int 0, .int 1, .ref hv_8, .int 0, .int 0, .int 0, .int 0, .int 1])), (hv_8, .inl (cA_9, 28, .inl (fun _ => 0)))] := hD
  refine lv_aload_n hx hb d_E_init_47 rfl (lv_at hl 0 rfl) ?_
  refine lv_iconst (v := 0) hx hb d_E_init_48 (by decide) ?_
  refine va_put (D := (dC, dI)) (ci := 1) (v := .int 0) (ty := .int) (C := R_E) (T := F_E) (N := 12) hx hb hts i_E t_E t_E_ok n_E hown hK hP hD hS 0 rfl rfl 5 (by decide) (hts _ k_77) (fun _ h9 => h9) rfl (by decide +kernel) rfl rfl (Nat.le_of_ble_eq_true rfl) d_E_init_49 (fun H locs hP hD hS => ?_)
  have hP : va_P (dC, dI) classes [(h0, .inr (1, [.ref q_5, .ref q_16, .ref q_27, .long 0, .int 0, .int 0, .int 0, .int 0, .int 0, .int 0, .int 0, .int 0])), (q_5, .inr (0, [.int 0, .int 0, .int 0, .int 1, .ref hv_2, .int 0, .int 0, .int 0, .int 0, .int 1])), (hv_2, .inl (cA_3, 28, .inl (fun _ => 0))), (q_16, .inr (0, [.int 0, .int 0, .int 0, .int 1, .ref hv_5, .int 0, .int 0, .int 0, .int 0, .int 1])), (hv_5, .inl (cA_6, 28, .inl (fun _ => 0))), (q_27, .inr (0, [.int 0, .int 0, .int 0, .int 1, .ref hv_8, .int 0, .int 0, .int 0, .int 0, .int 1])), (hv_8, .inl (cA_9, 28, .inl (fun _ => 0)))] H := hP
  have hD : va_D A [(h0, .inr (1, [.ref q_5, .ref q_16, .ref q_27, .long 0, .int 0, .int 0, .int 0, .int 0, .int 0, .int 0, .int 0, .int 0])), (q_5, .inr (0, [.int 0, .int 0, .int 0, .int 1, .ref hv_2, .int 0, .int 0, .int 0, .int 0, .int 1])), (hv_2, .inl (cA_3, 28, .inl (fun _ => 0))), (q_16, .inr (0, [.int 0, .int 0, .int 0, .int 1, .ref hv_5, .int 0, .int 0, .int 0, .int 0, .int 1])), (hv_5, .inl (cA_6, 28, .inl (fun _ => 0))), (q_27, .inr (0, [.int 0, .int 0, .int 0, .int 1, .ref hv_8, .int 0, .int 0, .int 0, .int 0, .int 1])), (hv_8, .inl (cA_9, 28, .inl (fun _ => 0)))] := hD
  refine lv_aload_n hx hb d_E_init_52 rfl (lv_at hl 0 rfl) ?_
  refine lv_iconst (v := 1) hx hb d_E_init_53 (by decide) ?_
  refine va_put (D := (dC, dI)) (ci := 1) (v := .int 1) (ty := .int) (C := R_E) (T := F_E) (N := 12) hx hb hts i_E t_E t_E_ok n_E hown hK hP hD hS 0 rfl rfl 6 (by decide) (hts _ k_78) (fun _ h9 => h9) rfl (by decide +kernel) rfl rfl (Nat.le_of_ble_eq_true rfl) d_E_init_54 (fun H locs hP hD hS => ?_)
  have hP : va_P (dC, dI) classes [(h0, .inr (1, [.ref q_5, .ref q_16, .ref q_27, .long 0, .int 0, .int 0, .int 1, .int 0, .int 0, .int 0, .int 0, .int 0])), (q_5, .inr (0, [.int 0, .int 0, .int 0, .int 1, .ref hv_2, .int 0, .int 0, .int 0, .int 0, .int 1])), (hv_2, .inl (cA_3, 28, .inl (fun _ => 0))), (q_16, .inr (0, [.int 0, .int 0, .int 0, .int 1, .ref hv_5, .int 0, .int 0, .int 0, .int 0, .int 1])), (hv_5, .inl (cA_6, 28, .inl (fun _ => 0))), (q_27, .inr (0, [.int 0, .int 0, .int 0, .int 1, .ref hv_8, .int 0, .int 0, .int 0, .int 0, .int 1])), (hv_8, .inl (cA_9, 28, .inl (fun _ => 0)))] H := hP
  have hD : va_D A [(h0, .inr (1, [.ref q_5, .ref q_16, .ref q_27, .long 0, .int 0, .int 0, .int 1, .int 0, .int 0, .int 0, .int 0, .int 0])), (q_5, .inr (0, [.int 0, .int 0, .int 0, .int 1, .ref hv_2, .int 0, .int 0, .int 0, .int 0, .int 1])), (hv_2, .inl (cA_3, 28, .inl (fun _ => 0))), (q_16, .inr (0, [.int 0, .int 0, .int 0, .int 1, .ref hv_5, .int 0, .int 0, .int 0, .int 0, .int 1])), (hv_5, .inl (cA_6, 28, .inl (fun _ => 0))), (q_27, .inr (0, [.int 0, .int 0, .int 0, .int 1, .ref hv_8, .int 0, .int 0, .int 0, .int 0, .int 1])), (hv_8, .inl (cA_9, 28, .inl (fun _ => 0)))] := hD
  refine lv_aload_n hx hb d_E_init_57 rfl (lv_at hl 0 rfl) ?_
  refine lv_iconst (v := 1) hx hb d_E_init_58 (by decide) ?_
  refine va_put (D := (dC, dI)) (ci := 1) (v := .int 1) (ty := .int) (C := R_E) (T := F_E) (N := 12) hx hb hts i_E t_E t_E_ok n_E hown hK hP hD hS 0 rfl rfl 7 (by decide) (hts _ k_79) (fun _ h9 => h9) rfl (by decide +kernel) rfl rfl (Nat.le_of_ble_eq_true rfl) d_E_init_59 (fun H locs hP hD hS => ?_)
  have hP : va_P (dC, dI) classes [(h0, .inr (1, [.ref q_5, .ref q_16, .ref q_27, .long 0, .int 0, .int 0, .int 1, .int 1, .int 0, .int 0, .int 0, .int 0])), (q_5, .inr (0, [.int 0, .int 0, .int 0, .int 1, .ref hv_2, .int 0, .int 0, .int 0, .int 0, .int 1])), (hv_2, .inl (cA_3, 28, .inl (fun _ => 0))), (q_16, .inr (0, [.int 0, .int 0, .int 0, .int 1, .ref hv_5, .int 0, .int 0, .int 0, .int 0, .int 1])), (hv_5, .inl (cA_6, 28, .inl (fun _ => 0))), (q_27, .inr (0, [.int 0, .int 0, .int 0, .int 1, .ref hv_8, .int 0, .int 0, .int 0, .int 0, .int 1])), (hv_8, .inl (cA_9, 28, .inl (fun _ => 0)))] H := hP
  have hD : va_D A [(h0, .inr (1, [.ref q_5, .ref q_16, .ref q_27, .long 0, .int 0, .int 0, .int 1, .int 1, .int 0, .int 0, .int 0, .int 0])), (q_5, .inr (0, [.int 0, .int 0, .int 0, .int 1, .ref hv_2, .int 0, .int 0, .int 0, .int 0, .int 1])), (hv_2, .inl (cA_3, 28, .inl (fun _ => 0))), (q_16, .inr (0, [.int 0, .int 0, .int 0, .int 1, .ref hv_5, .int 0, .int 0, .int 0, .int 0, .int 1])), (hv_5, .inl (cA_6, 28, .inl (fun _ => 0))), (q_27, .inr (0, [.int 0, .int 0, .int 0, .int 1, .ref hv_8, .int 0, .int 0, .int 0, .int 0, .int 1])), (hv_8, .inl (cA_9, 28, .inl (fun _ => 0)))] := hD
  refine lv_aload_n hx hb d_E_init_62 rfl (lv_at hl 0 rfl) ?_
  refine lv_iconst (v := 0) hx hb d_E_init_63 (by decide) ?_
  refine va_put (D := (dC, dI)) (ci := 1) (v := .int 0) (ty := .boolean) (C := R_E) (T := F_E) (N := 12) hx hb hts i_E t_E t_E_ok n_E hown hK hP hD hS 0 rfl rfl 8 (by decide) (hts _ k_80) (fun _ h9 => h9) rfl (by decide +kernel) (by decide) rfl (Nat.le_of_ble_eq_true rfl) d_E_init_64 (fun H locs hP hD hS => ?_)
  have hP : va_P (dC, dI) classes [(h0, .inr (1, [.ref q_5, .ref q_16, .ref q_27, .long 0, .int 0, .int 0, .int 1, .int 1, .int 0, .int 0, .int 0, .int 0])), (q_5, .inr (0, [.int 0, .int 0, .int 0, .int 1, .ref hv_2, .int 0, .int 0, .int 0, .int 0, .int 1])), (hv_2, .inl (cA_3, 28, .inl (fun _ => 0))), (q_16, .inr (0, [.int 0, .int 0, .int 0, .int 1, .ref hv_5, .int 0, .int 0, .int 0, .int 0, .int 1])), (hv_5, .inl (cA_6, 28, .inl (fun _ => 0))), (q_27, .inr (0, [.int 0, .int 0, .int 0, .int 1, .ref hv_8, .int 0, .int 0, .int 0, .int 0, .int 1])), (hv_8, .inl (cA_9, 28, .inl (fun _ => 0)))] H := hP
  have hD : va_D A [(h0, .inr (1, [.ref q_5, .ref q_16, .ref q_27, .long 0, .int 0, .int 0, .int 1, .int 1, .int 0, .int 0, .int 0, .int 0])), (q_5, .inr (0, [.int 0, .int 0, .int 0, .int 1, .ref hv_2, .int 0, .int 0, .int 0, .int 0, .int 1])), (hv_2, .inl (cA_3, 28, .inl (fun _ => 0))), (q_16, .inr (0, [.int 0, .int 0, .int 0, .int 1, .ref hv_5, .int 0, .int 0, .int 0, .int 0, .int 1])), (hv_5, .inl (cA_6, 28, .inl (fun _ => 0))), (q_27, .inr (0, [.int 0, .int 0, .int 0, .int 1, .ref hv_8, .int 0, .int 0, .int 0, .int 0, .int 1])), (hv_8, .inl (cA_9, 28, .inl (fun _ => 0)))] := hD
  refine lv_aload_n hx hb d_E_init_67 rfl (lv_at hl 0 rfl) ?_
  refine lv_iconst (v := 0) hx hb d_E_init_68 (by decide) ?_
  refine va_put (D := (dC, dI)) (ci := 1) (v := .int 0) (ty := .boolean) (C := R_E) (T := F_E) (N := 12) hx hb hts i_E t_E t_E_ok n_E hown hK hP hD hS 0 rfl rfl 9 (by decide) (hts _ k_81) (fun _ h9 => h9) rfl (by decide +kernel) (by decide) rfl (Nat.le_of_ble_eq_true rfl) d_E_init_69 (fun H locs hP hD hS => ?_)
  have hP : va_P (dC, dI) classes [(h0, .inr (1, [.ref q_5, .ref q_16, .ref q_27, .long 0, .int 0, .int 0, .int 1, .int 1, .int 0, .int 0, .int 0, .int 0])), (q_5, .inr (0, [.int 0, .int 0, .int 0, .int 1, .ref hv_2, .int 0, .int 0, .int 0, .int 0, .int 1])), (hv_2, .inl (cA_3, 28, .inl (fun _ => 0))), (q_16, .inr (0, [.int 0, .int 0, .int 0, .int 1, .ref hv_5, .int 0, .int 0, .int 0, .int 0, .int 1])), (hv_5, .inl (cA_6, 28, .inl (fun _ => 0))), (q_27, .inr (0, [.int 0, .int 0, .int 0, .int 1, .ref hv_8, .int 0, .int 0, .int 0, .int 0, .int 1])), (hv_8, .inl (cA_9, 28, .inl (fun _ => 0)))] H := hP
  have hD : va_D A [(h0, .inr (1, [.ref q_5, .ref q_16, .ref q_27, .long 0, .int 0, .int 0, .int 1, .int 1, .int 0, .int 0, .int 0, .int 0])), (q_5, .inr (0, [.int 0, .int 0, .int 0, .int 1, .ref hv_2, .int 0, .int 0, .int 0, .int 0, .int 1])), (hv_2, .inl (cA_3, 28, .inl (fun _ => 0))), (q_16, .inr (0, [.int 0, .int 0, .int 0, .int 1, .ref hv_5, .int 0, .int 0, .int 0, .int 0, .int 1])), (hv_5, .inl (cA_6, 28, .inl (fun _ => 0))), (q_27, .inr (0, [.int 0, .int 0, .int 0, .int 1, .ref hv_8, .int 0, .int 0, .int 0, .int 0, .int 1])), (hv_8, .inl (cA_9, 28, .inl (fun _ => 0)))] := hD
  refine lv_aload_n hx hb d_E_init_72 rfl (lv_at hl 0 rfl) ?_
  refine lv_iconst (v := 0) hx hb d_E_init_73 (by decide) ?_
  refine va_put (D := (dC, dI)) (ci := 1) (v := .int 0) (ty := .int) (C := R_E) (T := F_E) (N := 12) hx hb hts i_E t_E t_E_ok n_E hown hK hP hD hS 0 rfl rfl 10 (by decide) (hts _ k_82) (fun _ h9 => h9) rfl (by decide +kernel) rfl rfl (Nat.le_of_ble_eq_true rfl) d_E_init_74 (fun H locs hP hD hS => ?_)
  have hP : va_P (dC, dI) classes [(h0, .inr (1, [.ref q_5, .ref q_16, .ref q_27, .long 0, .int 0, .int 0, .int 1, .int 1, .int 0, .int 0, .int 0, .int 0])), (q_5, .inr (0, [.int 0, .int 0, .int 0, .int 1, .ref hv_2, .int 0, .int 0, .int 0, .int 0, .int 1])), (hv_2, .inl (cA_3, 28, .inl (fun _ => 0))), (q_16, .inr (0, [.int 0, .int 0, .int 0, .int 1, .ref hv_5, .int 0, .int 0, .int 0, .int 0, .int 1])), (hv_5, .inl (cA_6, 28, .inl (fun _ => 0))), (q_27, .inr (0, [.int 0, .int 0, .int 0, .int 1, .ref hv_8, .int 0, .int 0, .int 0, .int 0, .int 1])), (hv_8, .inl (cA_9, 28, .inl (fun _ => 0)))] H := hP
  have hD : va_D A [(h0, .inr (1, [.ref q_5, .ref q_16, .ref q_27, .long 0, .int 0, .int 0, .int 1, .int 1, .int 0, .int 0, .int 0, .int 0])), (q_5, .inr (0, [.int 0, .int 0, .int 0, .int 1, .ref hv_2, .int 0, .int 0, .int 0, .int 0, .int 1])), (hv_2, .inl (cA_3, 28, .inl (fun _ => 0))), (q_16, .inr (0, [.int 0, .int 0, .int 0, .int 1, .ref hv_5, .int 0, .int 0, .int 0, .int 0, .int 1])), (hv_5, .inl (cA_6, 28, .inl (fun _ => 0))), (q_27, .inr (0, [.int 0, .int 0, .int 0, .int 1, .ref hv_8, .int 0, .int 0, .int 0, .int 0, .int 1])), (hv_8, .inl (cA_9, 28, .inl (fun _ => 0)))] := hD
  refine lv_aload_n hx hb d_E_init_77 rfl (lv_at hl 0 rfl) ?_
  refine lv_iconst (v := 0) hx hb d_E_init_78 (by decide) ?_
  refine va_put (D := (dC, dI)) (ci := 1) (v := .int 0) (ty := .int) (C := R_E) (T := F_E) (N := 12) hx hb hts i_E t_E t_E_ok n_E hown hK hP hD hS 0 rfl rfl 11 (by decide) (hts _ k_83) (fun _ h9 => h9) rfl (by decide +kernel) rfl rfl (Nat.le_of_ble_eq_true rfl) d_E_init_79 (fun H locs hP hD hS => ?_)
  have hP : va_P (dC, dI) classes [(h0, .inr (1, [.ref q_5, .ref q_16, .ref q_27, .long 0, .int 0, .int 0, .int 1, .int 1, .int 0, .int 0, .int 0, .int 0])), (q_5, .inr (0, [.int 0, .int 0, .int 0, .int 1, .ref hv_2, .int 0, .int 0, .int 0, .int 0, .int 1])), (hv_2, .inl (cA_3, 28, .inl (fun _ => 0))), (q_16, .inr (0, [.int 0, .int 0, .int 0, .int 1, .ref hv_5, .int 0, .int 0, .int 0, .int 0, .int 1])), (hv_5, .inl (cA_6, 28, .inl (fun _ => 0))), (q_27, .inr (0, [.int 0, .int 0, .int 0, .int 1, .ref hv_8, .int 0, .int 0, .int 0, .int 0, .int 1])), (hv_8, .inl (cA_9, 28, .inl (fun _ => 0)))] H := hP
  have hD : va_D A [(h0, .inr (1, [.ref q_5, .ref q_16, .ref q_27, .long 0, .int 0, .int 0, .int 1, .int 1, .int 0, .int 0, .int 0, .int 0])), (q_5, .inr (0, [.int 0, .int 0, .int 0, .int 1, .ref hv_2, .int 0, .int 0, .int 0, .int 0, .int 1])), (hv_2, .inl (cA_3, 28, .inl (fun _ => 0))), (q_16, .inr (0, [.int 0, .int 0, .int 0, .int 1, .ref hv_5, .int 0, .int 0, .int 0, .int 0, .int 1])), (hv_5, .inl (cA_6, 28, .inl (fun _ => 0))), (q_27, .inr (0, [.int 0, .int 0, .int 0, .int 1, .ref hv_8, .int 0, .int 0, .int 0, .int 0, .int 1])), (hv_8, .inl (cA_9, 28, .inl (fun _ => 0)))] := hD
  have hP9 := hP.sub (ws' := [(h0, .inr (1, [.ref q_5, .ref q_16, .ref q_27, .long 0, .int 0, .int 0, .int 1, .int 1, .int 0, .int 0, .int 0, .int 0])), (q_5, .inr (0, [.int 0, .int 0, .int 0, .int 1, .ref hv_2, .int 0, .int 0, .int 0, .int 0, .int 1])), (q_16, .inr (0, [.int 0, .int 0, .int 0, .int 1, .ref hv_5, .int 0, .int 0, .int 0, .int 0, .int 1])), (q_27, .inr (0, [.int 0, .int 0, .int 0, .int 1, .ref hv_8, .int 0, .int 0, .int 0, .int 0, .int 1])), (hv_2, .inl (cA_3, 28, .inl (fun _ => 0))), (hv_5, .inl (cA_6, 28, .inl (fun _ => 0))), (hv_8, .inl (cA_9, 28, .inl (fun _ => 0)))]) [0, 1, 3, 5, 2, 4, 6] rfl
  have hD9 := hD.sub (ws' := [(h0, .inr (1, [.ref q_5, .ref q_16, .ref q_27, .long 0, .int 0, .int 0, .int 1, .int 1, .int 0, .int 0, .int 0, .int 0])), (q_5, .inr (0, [.int 0, .int 0, .int 0, .int 1, .ref hv_2, .int 0, .int 0, .int 0, .int 0, .int 1])), (q_16, .inr (0, [.int 0, .int 0, .int 0, .int 1, .ref hv_5, .int 0, .int 0, .int 0, .int 0, .int 1])), (q_27, .inr (0, [.int 0, .int 0, .int 0, .int 1, .ref hv_8, .int 0, .int 0, .int 0, .int 0, .int 1])), (hv_2, .inl (cA_3, 28, .inl (fun _ => 0))), (hv_5, .inl (cA_6, 28, .inl (fun _ => 0))), (hv_8, .inl (cA_9, 28, .inl (fun _ => 0)))]) [0, 1, 3, 5, 2, 4, 6] (by decide) rfl
  have hK9 := hK.sub (tys' := [(cA_3, .int), (cA_6, .int), (cA_9, .int)]) [0, 1, 2] rfl
  exact W.vret hx hb hr (fun u9 ht hW => ⟨⟨(), rfl, trivial, ⟨q_5, q_16, q_27, hv_2, hv_5, hv_8, cA_3, cA_6, cA_9, by rw [ht]; exact hP9, va_K.moved hW.alike hK9, hD9⟩⟩, hS.F ht⟩) hS.2.2 d_E_init_82
end
section
set_option maxHeartbeats 1000000 in
set_option maxRecDepth 100000 in
theorem c_C_layEdge (l : Launch) (dC : Nat → ClassId) (dI : Nat → Nat → Nat) (h hv g gv k kv : Nat) (x y dp q ex ey ea ed lw x1 y1 dp1 q1 ex1 ey1 ea1 ed1 lw1 x2 y2 dp2 q2 ex2 ey2 ea2 ed2 lw2 : Int32) (sz : Nat) : Met l y_C_layEdge w_C_layEdge ({ frames := 0, cells := 0, slots := 0, locals := 0 }) (va_Pc [.ref h, .ref g, .ref k] (PI dC dI [] [(h, .inr (0, [.int x, .int y, .int dp, .int q, .ref hv, .int ex, .int ey, .int ea, .int ed, .int lw])), (g, .inr (0, [.int x1, .int y1, .int dp1, .int q1, .ref gv, .int ex1, .int ey1, .int ea1, .int ed1, .int lw1])), (k, .inr (0, [.int x2, .int y2, .int dp2, .int q2, .ref kv, .int ex2, .int ey2, .int ea2, .int ed2, .int lw2]))] sz)) (va_Qv (fun (u : Unit) => True) (fun (u : Unit) t => EI dC dI [] [(h, .inr (0, [.int x, .int y, .int dp, .int q, .ref hv, .int x1, .int y1, .int (x2 - x1), .int (y2 - y1), .int (er_lw (x2 - x1) (y2 - y1))])), (g, .inr (0, [.int x1, .int y1, .int dp1, .int q1, .ref gv, .int ex1, .int ey1, .int ea1, .int ed1, .int lw1])), (k, .inr (0, [.int x2, .int y2, .int dp2, .int q2, .ref kv, .int ex2, .int ey2, .int ea2, .int ed2, .int lw2]))] (va_A [(h, .inr (0, [.int x, .int y, .int dp, .int q, .ref hv, .int ex, .int ey, .int ea, .int ed, .int lw])), (g, .inr (0, [.int x1, .int y1, .int dp1, .int q1, .ref gv, .int ex1, .int ey1, .int ea1, .int ed1, .int lw1])), (k, .inr (0, [.int x2, .int y2, .int dp2, .int q2, .ref kv, .int ex2, .int ey2, .int ea2, .int ed2, .int lw2]))] sz) t) (va_A [(h, .inr (0, [.int x, .int y, .int dp, .int q, .ref hv, .int ex, .int ey, .int ea, .int ed, .int lw])), (g, .inr (0, [.int x1, .int y1, .int dp1, .int q1, .ref gv, .int ex1, .int ey1, .int ea1, .int ed1, .int lw1])), (k, .inr (0, [.int x2, .int y2, .int dp2, .int q2, .ref kv, .int ex2, .int ey2, .int ea2, .int ed2, .int lw2]))] sz)) 0 0 (va_A [(h, .inr (0, [.int x, .int y, .int dp, .int q, .ref hv, .int ex, .int ey, .int ea, .int ed, .int lw])), (g, .inr (0, [.int x1, .int y1, .int dp1, .int q1, .ref gv, .int ex1, .int ey1, .int ea1, .int ed1, .int lw1])), (k, .inr (0, [.int x2, .int y2, .int dp2, .int q2, .ref kv, .int ex2, .int ey2, .int ea2, .int ed2, .int lw2]))] sz) := by
  refine Met.ofW (cc := b_C_layEdge) (maxL := 5) (ret := none) (by decide +kernel) rfl ?_
  intro p e s m args below meth c s₁ B hml hv
  obtain ⟨rfl, hsz, hN, hK, hP, hD0⟩ := hv
  have hx := B.exec
  have hb := B.bytes
  have hr := B.returns
  have hts := er_hts (atoms_spec (ws := w_C_layEdge) B.pre)
  have hown : s.vm.findClass R_C = some m.cls := findClass_of_methodNamed B.named
  have hlocks := B.notSynchronized
  subst hsz
  have hD := hD0.self (sz := s.heap.size)
  generalize hAe : va_A [(h, .inr (0, [.int x, .int y, .int dp, .int q, .ref hv, .int ex, .int ey, .int ea, .int ed, .int lw])), (g, .inr (0, [.int x1, .int y1, .int dp1, .int q1, .ref gv, .int ex1, .int ey1, .int ea1, .int ed1, .int lw1])), (k, .inr (0, [.int x2, .int y2, .int dp2, .int q2, .ref kv, .int ex2, .int ey2, .int ea2, .int ed2, .int lw2]))] s.heap.size = A at hD ⊢
  have hA : ∀ q : Nat, s.heap.size ≤ q → A q := fun q h => by rw [← hAe]; exact Or.inr h
  have hS : va_S A s.heap s.heap [] := va_S.rf
  have hP : va_P (dC, dI) classes [(h, .inr (0, [.int x, .int y, .int dp, .int q, .ref hv, .int ex, .int ey, .int ea, .int ed, .int lw])), (g, .inr (0, [.int x1, .int y1, .int dp1, .int q1, .ref gv, .int ex1, .int ey1, .int ea1, .int ed1, .int lw1])), (k, .inr (0, [.int x2, .int y2, .int dp2, .int q2, .ref kv, .int ex2, .int ey2, .int ea2, .int ed2, .int lw2]))] s.heap := hP
  have hl := lv_entry ([.ref h, .ref g, .ref k]) (n := 5) (Nat.le_of_ble_eq_true rfl)
  rw [lg_entry_eq]
  generalize (lg_sl ([.ref h, .ref g, .ref k]) ++ List.replicate (5 - (lg_sl ([.ref h, .ref g, .ref k])).length) Slot.unset).toArray = ls at hl ⊢
  have hl : lv_has ls 5 [(0, .ref h), (1, .ref g), (2, .ref k)] := hl
  refine lv_aload_n hx hb d_C_layEdge_0 rfl (lv_at hl 0 rfl) ?_
  refine lv_aload_n hx hb d_C_layEdge_1 rfl (lv_at hl 1 rfl) ?_
  refine va_get (D := (dC, dI)) (ci := 0) (v := .int x1) (C := R_C) (T := F_C) (N := 10) hx hb hts i_C hown hK hP 1 rfl rfl 0 (by decide) (hts _ k_40) (fun _ h9 => h9) rfl d_C_layEdge_2 ?_
  refine va_put (D := (dC, dI)) (ci := 0) (v := .int x1) (ty := .int) (C := R_C) (T := F_C) (N := 10) hx hb hts i_C t_C t_C_ok n_C hown hK hP hD hS 0 rfl rfl 5 (by decide) (hts _ k_45) (fun _ h9 => h9) rfl (by decide +kernel) rfl rfl (Nat.le_of_ble_eq_true rfl) d_C_layEdge_5 (fun H locs hP hD hS => ?_)
  have hP : va_P (dC, dI) classes [(h, .inr (0, [.int x, .int y, .int dp, .int q, .ref hv, .int x1, .int ey, .int ea, .int ed, .int lw])), (g, .inr (0, [.int x1, .int y1, .int dp1, .int q1, .ref gv, .int ex1, .int ey1, .int ea1, .int ed1, .int lw1])), (k, .inr (0, [.int x2, .int y2, .int dp2, .int q2, .ref kv, .int ex2, .int ey2, .int ea2, .int ed2, .int lw2]))] H := hP
  have hD : va_D A [(h, .inr (0, [.int x, .int y, .int dp, .int q, .ref hv, .int x1, .int ey, .int ea, .int ed, .int lw])), (g, .inr (0, [.int x1, .int y1, .int dp1, .int q1, .ref gv, .int ex1, .int ey1, .int ea1, .int ed1, .int lw1])), (k, .inr (0, [.int x2, .int y2, .int dp2, .int q2, .ref kv, .int ex2, .int ey2, .int ea2, .int ed2, .int lw2]))] := hD
  refine lv_aload_n hx hb d_C_layEdge_8 rfl (lv_at hl 0 rfl) ?_
  refine lv_aload_n hx hb d_C_layEdge_9 rfl (lv_at hl 1 rfl) ?_
  refine va_get (D := (dC, dI)) (ci := 0) (v := .int y1) (C := R_C) (T := F_C) (N := 10) hx hb hts i_C hown hK hP 1 rfl rfl 1 (by decide) (hts _ k_41) (fun _ h9 => h9) rfl d_C_layEdge_10 ?_
  refine va_put (D := (dC, dI)) (ci := 0) (v := .int y1) (ty := .int) (C := R_C) (T := F_C) (N := 10) hx hb hts i_C t_C t_C_ok n_C hown hK hP hD hS 0 rfl rfl 6 (by decide) (hts _ k_46) (fun _ h9 => h9) rfl (by decide +kernel) rfl rfl (Nat.le_of_ble_eq_true rfl) d_C_layEdge_13 (fun H locs hP hD hS => ?_)
  have hP : va_P (dC, dI) classes [(h, .inr (0, [.int x, .int y, .int dp, .int q, .ref hv, .int x1, .int y1, .int ea, .int ed, .int lw])), (g, .inr (0, [.int x1, .int y1, .int dp1, .int q1, .ref gv, .int ex1, .int ey1, .int ea1, .int ed1, .int lw1])), (k, .inr (0, [.int x2, .int y2, .int dp2, .int q2, .ref kv, .int ex2, .int ey2, .int ea2, .int ed2, .int lw2]))] H := hP
  have hD : va_D A [(h, .inr (0, [.int x, .int y, .int dp, .int q, .ref hv, .int x1, .int y1, .int ea, .int ed, .int lw])), (g, .inr (0, [.int x1, .int y1, .int dp1, .int q1, .ref gv, .int ex1, .int ey1, .int ea1, .int ed1, .int lw1])), (k, .inr (0, [.int x2, .int y2, .int dp2, .int q2, .ref kv, .int ex2, .int ey2, .int ea2, .int ed2, .int lw2]))] := hD
  refine lv_aload_n hx hb d_C_layEdge_16 rfl (lv_at hl 0 rfl) ?_
  refine lv_aload_n hx hb d_C_layEdge_17 rfl (lv_at hl 2 rfl) ?_
  refine va_get (D := (dC, dI)) (ci := 0) (v := .int x2) (C := R_C) (T := F_C) (N := 10) hx hb hts i_C hown hK hP 2 rfl rfl 0 (by decide) (hts _ k_40) (fun _ h9 => h9) rfl d_C_layEdge_18 ?_
  refine lv_aload_n hx hb d_C_layEdge_21 rfl (lv_at hl 1 rfl) ?_
  refine va_get (D := (dC, dI)) (ci := 0) (v := .int x1) (C := R_C) (T := F_C) (N := 10) hx hb hts i_C hown hK hP 1 rfl rfl 0 (by decide) (hts _ k_40) (fun _ h9 => h9) rfl d_C_layEdge_22 ?_
  refine lv_isub hx hb d_C_layEdge_25 ?_
  refine va_put (D := (dC, dI)) (ci := 0) (v := .int (x2 - x1)) (ty := .int) (C := R_C) (T := F_C) (N := 10) hx hb hts i_C t_C t_C_ok n_C hown hK hP hD hS 0 rfl rfl 7 (by decide) (hts _ k_47) (fun _ h9 => h9) rfl (by decide +kernel) rfl rfl (Nat.le_of_ble_eq_true rfl) d_C_layEdge_26 (fun H locs hP hD hS => ?_)
  have hP : va_P (dC, dI) classes [(h, .inr (0, [.int x, .int y, .int dp, .int q, .ref hv, .int x1, .int y1, .int (x2 - x1), .int ed, .int lw])), (g, .inr (0, [.int x1, .int y1, .int dp1, .int q1, .ref gv, .int ex1, .int ey1, .int ea1, .int ed1, .int lw1])), (k, .inr (0, [.int x2, .int y2, .int dp2, .int q2, .ref kv, .int ex2, .int ey2, .int ea2, .int ed2, .int lw2]))] H := hP
  have hD : va_D A [(h, .inr (0, [.int x, .int y, .int dp, .int q, .ref hv, .int x1, .int y1, .int (x2 - x1), .int ed, .int lw])), (g, .inr (0, [.int x1, .int y1, .int dp1, .int q1, .ref gv, .int ex1, .int ey1, .int ea1, .int ed1, .int lw1])), (k, .inr (0, [.int x2, .int y2, .int dp2, .int q2, .ref kv, .int ex2, .int ey2, .int ea2, .int ed2, .int lw2]))] := hD
  refine lv_aload_n hx hb d_C_layEdge_29 rfl (lv_at hl 0 rfl) ?_
  refine lv_aload_n hx hb d_C_layEdge_30 rfl (lv_at hl 2 rfl) ?_
  refine va_get (D := (dC, dI)) (ci := 0) (v := .int y2) (C := R_C) (T := F_C) (N := 10) hx hb hts i_C hown hK hP 2 rfl rfl 1 (by decide) (hts _ k_41) (fun _ h9 => h9) rfl d_C_layEdge_31 ?_
  refine lv_aload_n hx hb d_C_layEdge_34 rfl (lv_at hl 1 rfl) ?_
  refine va_get (D := (dC, dI)) (ci := 0) (v := .int y1) (C := R_C) (T := F_C) (N := 10) hx hb hts i_C hown hK hP 1 rfl rfl 1 (by decide) (hts _ k_41) (fun _ h9 => h9) rfl d_C_layEdge_35 ?_
  refine lv_isub hx hb d_C_layEdge_38 ?_
  refine va_put (D := (dC, dI)) (ci := 0) (v := .int (y2 - y1)) (ty := .int) (C := R_C) (T := F_C) (N := 10) hx hb hts i_C t_C t_C_ok n_C hown hK hP hD hS 0 rfl rfl 8 (by decide) (hts _ k_48) (fun _ h9 => h9) rfl (by decide +kernel) rfl rfl (Nat.le_of_ble_eq_true rfl) d_C_layEdge_39 (fun H locs hP hD hS => ?_)
  have hP : va_P (dC, dI) classes [(h, .inr (0, [.int x, .int y, .int dp, .int q, .ref hv, .int x1, .int y1, .int (x2 - x1), .int (y2 - y1), .int lw])), (g, .inr (0, [.int x1, .int y1, .int dp1, .int q1, .ref gv, .int ex1, .int ey1, .int ea1, .int ed1, .int lw1])), (k, .inr (0, [.int x2, .int y2, .int dp2, .int q2, .ref kv, .int ex2, .int ey2, .int ea2, .int ed2, .int lw2]))] H := hP
  have hD : va_D A [(h, .inr (0, [.int x, .int y, .int dp, .int q, .ref hv, .int x1, .int y1, .int (x2 - x1), .int (y2 - y1), .int lw])), (g, .inr (0, [.int x1, .int y1, .int dp1, .int q1, .ref gv, .int ex1, .int ey1, .int ea1, .int ed1, .int lw1])), (k, .inr (0, [.int x2, .int y2, .int dp2, .int q2, .ref kv, .int ex2, .int ey2, .int ea2, .int ed2, .int lw2]))] := hD
  refine lv_aload_n hx hb d_C_layEdge_42 rfl (lv_at hl 0 rfl) ?_
  refine va_get (D := (dC, dI)) (ci := 0) (v := .int (y2 - y1)) (C := R_C) (T := F_C) (N := 10) hx hb hts i_C hown hK hP 0 rfl rfl 8 (by decide) (hts _ k_48) (fun _ h9 => h9) rfl d_C_layEdge_43 ?_
  refine lv_if_ne (tgt := 60) hx hb d_C_layEdge_46 (by decide) (fun c_1 => ?_) (fun c_1 => ?_)
  · refine lv_iconst (v := 0) hx hb d_C_layEdge_60 (by decide) ?_
    refine lv_istore_n (lv' := [(3, .int 0), (0, .ref h), (1, .ref g), (2, .ref k)]) hx hb d_C_layEdge_61 rfl hl (by decide) rfl (fun ls hl => ?_)
    refine lv_aload_n hx hb d_C_layEdge_62 rfl (lv_at hl 1 rfl) ?_
    refine va_get (D := (dC, dI)) (ci := 0) (v := .int (y2 - y1)) (C := R_C) (T := F_C) (N := 10) hx hb hts i_C hown hK hP 0 rfl rfl 8 (by decide) (hts _ k_48) (fun _ h9 => h9) rfl d_C_layEdge_63 ?_
    refine lv_if_ge (tgt := 73) hx hb d_C_layEdge_66 (by decide) (fun c_2 => ?_) (fun c_2 => ?_)
    · refine lv_iconst (v := 0) hx hb d_C_layEdge_73 (by decide) ?_
      refine lv_istore (lv' := [(4, .int 0), (3, .int 0), (0, .ref h), (1, .ref g), (2, .ref k)]) hx hb d_C_layEdge_74 hl (by decide) rfl (fun ls hl => ?_)
      refine lv_aload_n hx hb d_C_layEdge_76 rfl (lv_at hl 2 rfl) ?_
      refine lv_iload_n hx hb d_C_layEdge_77 rfl (lv_at hl 1 rfl) ?_
      refine lv_if_ne (tgt := 86) hx hb d_C_layEdge_78 (by decide) (fun c_3 => absurd c_3 (by decide)) (fun _ => ?_)
      refine lv_iload hx hb d_C_layEdge_81 (lv_at hl 0 rfl) ?_
      refine lv_if_eq (tgt := 90) hx hb d_C_layEdge_83 (by decide) (fun _ => ?_) (fun c_4 => absurd c_4 (by decide))
      refine lv_iconst (v := 1) hx hb d_C_layEdge_90 (by decide) ?_
      refine lv_topi (x := 1) (fun y9 e9 => ?_)
      obtain rfl : y9 = er_lw (x2 - x1) (y2 - y1) := by rw [e9]; exact (er_lw1 (by simp_all)).symm
      refine va_put (D := (dC, dI)) (ci := 0) (v := .int (er_lw (x2 - x1) (y2 - y1))) (ty := .int) (C := R_C) (T := F_C) (N := 10) hx hb hts i_C t_C t_C_ok n_C hown hK hP hD hS 0 rfl rfl 9 (by decide) (hts _ k_49) (fun _ h9 => h9) rfl (by decide +kernel) rfl rfl (Nat.le_of_ble_eq_true rfl) d_C_layEdge_91 (fun H locs hP hD hS => ?_)
      have hP : va_P (dC, dI) classes [(h, .inr (0, [.int x, .int y, .int dp, .int q, .ref hv, .int x1, .int y1, .int (x2 - x1), .int (y2 - y1), .int (er_lw (x2 - x1) (y2 - y1))])), (g, .inr (0, [.int x1, .int y1, .int dp1, .int q1, .ref gv, .int ex1, .int ey1, .int ea1, .int ed1, .int lw1])), (k, .inr (0, [.int x2, .int y2, .int dp2, .int q2, .ref kv, .int ex2, .int ey2, .int ea2, .int ed2, .int lw2]))] H := hP
      have hD : va_D A [(h, .inr (0, [.int x, .int y, .int dp, .int q, .ref hv, .int x1, .int y1, .int (x2 - x1), .int (y2 - y1), .int (er_lw (x2 - x1) (y2 - y1))])), (g, .inr (0, [.int x1, .int y1, .int dp1, .int q1, .ref gv, .int ex1, .int ey1, .int ea1, .int ed1, .int lw1])), (k, .inr (0, [.int x2, .int y2, .int dp2, .int q2, .ref kv, .int ex2, .int ey2, .int ea2, .int ed2, .int lw2]))] := hD
      have hP9 := hP.sub (ws' := [(h, .inr (0, [.int x, .int y, .int dp, .int q, .ref hv, .int x1, .int y1, .int (x2 - x1), .int (y2 - y1), .int (er_lw (x2 - x1) (y2 - y1))])), (g, .inr (0, [.int x1, .int y1, .int dp1, .int q1, .ref gv, .int ex1, .int ey1, .int ea1, .int ed1, .int lw1])), (k, .inr (0, [.int x2, .int y2, .int dp2, .int q2, .ref kv, .int ex2, .int ey2, .int ea2, .int ed2, .int lw2]))]) [0, 1, 2] rfl
      have hD9 := hD.sub (ws' := [(h, .inr (0, [.int x, .int y, .int dp, .int q, .ref hv, .int x1, .int y1, .int (x2 - x1), .int (y2 - y1), .int (er_lw (x2 - x1) (y2 - y1))])), (g, .inr (0, [.int x1, .int y1, .int dp1, .int q1, .ref gv, .int ex1, .int ey1, .int ea1, .int ed1, .int lw1])), (k, .inr (0, [.int x2, .int y2, .int dp2, .int q2, .ref kv, .int ex2, .int ey2, .int ea2, .int ed2, .int lw2]))]) [0, 1, 2] (by decide) rfl
      have hK9 := hK.sub (tys' := []) [] rfl
      exact W.vret hx hb hr (fun u9 ht hW => ⟨⟨(), rfl, trivial, ⟨by rw [ht]; exact hP9, va_K.moved hW.alike hK9, hD9⟩⟩, hS.F ht⟩) hS.2.2 d_C_layEdge_94
    · refine lv_iconst (v := 1) hx hb d_C_layEdge_69 (by decide) ?_
      refine lv_goto (tgt := 74) hx hb d_C_layEdge_70 (by decide) ?_
      refine lv_istore (lv' := [(4, .int 1), (3, .int 0), (0, .ref h), (1, .ref g), (2, .ref k)]) hx hb d_C_layEdge_74 hl (by decide) rfl (fun ls hl => ?_)
      refine lv_aload_n hx hb d_C_layEdge_76 rfl (lv_at hl 2 rfl) ?_
      refine lv_iload_n hx hb d_C_layEdge_77 rfl (lv_at hl 1 rfl) ?_
      refine lv_if_ne (tgt := 86) hx hb d_C_layEdge_78 (by decide) (fun c_5 => absurd c_5 (by decide)) (fun _ => ?_)
      refine lv_iload hx hb d_C_layEdge_81 (lv_at hl 0 rfl) ?_
      refine lv_if_eq (tgt := 90) hx hb d_C_layEdge_83 (by decide) (fun c_6 => absurd c_6 (by decide)) (fun _ => ?_)
      refine lv_iconst (v := 0) hx hb d_C_layEdge_86 (by decide) ?_
      refine lv_goto (tgt := 91) hx hb d_C_layEdge_87 (by decide) ?_
      refine lv_topi (x := 0) (fun y9 e9 => ?_)
      obtain rfl : y9 = er_lw (x2 - x1) (y2 - y1) := by rw [e9]; exact (er_lw0 (by simp_all)).symm
      refine va_put (D := (dC, dI)) (ci := 0) (v := .int (er_lw (x2 - x1) (y2 - y1))) (ty := .int) (C := R_C) (T := F_C) (N := 10) hx hb hts i_C t_C t_C_ok n_C hown hK hP hD hS 0 rfl rfl 9 (by decide) (hts _ k_49) (fun _ h9 => h9) rfl (by decide +kernel) rfl rfl (Nat.le_of_ble_eq_true rfl) d_C_layEdge_91 (fun H locs hP hD hS => ?_)
      have hP : va_P (dC, dI) classes [(h, .inr (0, [.int x, .int y, .int dp, .int q, .ref hv, .int x1, .int y1, .int (x2 - x1), .int (y2 - y1), .int (er_lw (x2 - x1) (y2 - y1))])), (g, .inr (0, [.int x1, .int y1, .int dp1, .int q1, .ref gv, .int ex1, .int ey1, .int ea1, .int ed1, .int lw1])), (k, .inr (0, [.int x2, .int y2, .int dp2, .int q2, .ref kv, .int ex2, .int ey2, .int ea2, .int ed2, .int lw2]))] H := hP
      have hD : va_D A [(h, .inr (0, [.int x, .int y, .int dp, .int q, .ref hv, .int x1, .int y1, .int (x2 - x1), .int (y2 - y1), .int (er_lw (x2 - x1) (y2 - y1))])), (g, .inr (0, [.int x1, .int y1, .int dp1, .int q1, .ref gv, .int ex1, .int ey1, .int ea1, .int ed1, .int lw1])), (k, .inr (0, [.int x2, .int y2, .int dp2, .int q2, .ref kv, .int ex2, .int ey2, .int ea2, .int ed2, .int lw2]))] := hD
      have hP9 := hP.sub (ws' := [(h, .inr (0, [.int x, .int y, .int dp, .int q, .ref hv, .int x1, .int y1, .int (x2 - x1), .int (y2 - y1), .int (er_lw (x2 - x1) (y2 - y1))])), (g, .inr (0, [.int x1, .int y1, .int dp1, .int q1, .ref gv, .int ex1, .int ey1, .int ea1, .int ed1, .int lw1])), (k, .inr (0, [.int x2, .int y2, .int dp2, .int q2, .ref kv, .int ex2, .int ey2, .int ea2, .int ed2, .int lw2]))]) [0, 1, 2] rfl
      have hD9 := hD.sub (ws' := [(h, .inr (0, [.int x, .int y, .int dp, .int q, .ref hv, .int x1, .int y1, .int (x2 - x1), .int (y2 - y1), .int (er_lw (x2 - x1) (y2 - y1))])), (g, .inr (0, [.int x1, .int y1, .int dp1, .int q1, .ref gv, .int ex1, .int ey1, .int ea1, .int ed1, .int lw1])), (k, .inr (0, [.int x2, .int y2, .int dp2, .int q2, .ref kv, .int ex2, .int ey2, .int ea2, .int ed2, .int lw2]))]) [0, 1, 2] (by decide) rfl
      have hK9 := hK.sub (tys' := []) [] rfl
      exact W.vret hx hb hr (fun u9 ht hW => ⟨⟨(), rfl, trivial, ⟨by rw [ht]; exact hP9, va_K.moved hW.alike hK9, hD9⟩⟩, hS.F ht⟩) hS.2.2 d_C_layEdge_94
  · refine lv_aload_n hx hb d_C_layEdge_49 rfl (lv_at hl 0 rfl) ?_
    refine va_get (D := (dC, dI)) (ci := 0) (v := .int (x2 - x1)) (C := R_C) (T := F_C) (N := 10) hx hb hts i_C hown hK hP 0 rfl rfl 7 (by decide) (hts _ k_47) (fun _ h9 => h9) rfl d_C_layEdge_50 ?_
    refine lv_if_le (tgt := 60) hx hb d_C_layEdge_53 (by decide) (fun c_7 => ?_) (fun c_7 => ?_)
    · refine lv_iconst (v := 0) hx hb d_C_layEdge_60 (by decide) ?_
      refine lv_istore_n (lv' := [(3, .int 0), (0, .ref h), (1, .ref g), (2, .ref k)]) hx hb d_C_layEdge_61 rfl hl (by decide) rfl (fun ls hl => ?_)
      refine lv_aload_n hx hb d_C_layEdge_62 rfl (lv_at hl 1 rfl) ?_
      refine va_get (D := (dC, dI)) (ci := 0) (v := .int (y2 - y1)) (C := R_C) (T := F_C) (N := 10) hx hb hts i_C hown hK hP 0 rfl rfl 8 (by decide) (hts _ k_48) (fun _ h9 => h9) rfl d_C_layEdge_63 ?_
      refine lv_if_ge (tgt := 73) hx hb d_C_layEdge_66 (by decide) (fun c_8 => ?_) (fun c_8 => ?_)
      · refine lv_iconst (v := 0) hx hb d_C_layEdge_73 (by decide) ?_
        refine lv_istore (lv' := [(4, .int 0), (3, .int 0), (0, .ref h), (1, .ref g), (2, .ref k)]) hx hb d_C_layEdge_74 hl (by decide) rfl (fun ls hl => ?_)
        refine lv_aload_n hx hb d_C_layEdge_76 rfl (lv_at hl 2 rfl) ?_
        refine lv_iload_n hx hb d_C_layEdge_77 rfl (lv_at hl 1 rfl) ?_
        refine lv_if_ne (tgt := 86) hx hb d_C_layEdge_78 (by decide) (fun c_9 => absurd c_9 (by decide)) (fun _ => ?_)
        refine lv_iload hx hb d_C_layEdge_81 (lv_at hl 0 rfl) ?_
        refine lv_if_eq (tgt := 90) hx hb d_C_layEdge_83 (by decide) (fun _ => ?_) (fun c_10 => absurd c_10 (by decide))
        refine lv_iconst (v := 1) hx hb d_C_layEdge_90 (by decide) ?_
        refine lv_topi (x := 1) (fun y9 e9 => ?_)
        obtain rfl : y9 = er_lw (x2 - x1) (y2 - y1) := by rw [e9]; exact (er_lw1 (by simp_all)).symm
        refine va_put (D := (dC, dI)) (ci := 0) (v := .int (er_lw (x2 - x1) (y2 - y1))) (ty := .int) (C := R_C) (T := F_C) (N := 10) hx hb hts i_C t_C t_C_ok n_C hown hK hP hD hS 0 rfl rfl 9 (by decide) (hts _ k_49) (fun _ h9 => h9) rfl (by decide +kernel) rfl rfl (Nat.le_of_ble_eq_true rfl) d_C_layEdge_91 (fun H locs hP hD hS => ?_)
        have hP : va_P (dC, dI) classes [(h, .inr (0, [.int x, .int y, .int dp, .int q, .ref hv, .int x1, .int y1, .int (x2 - x1), .int (y2 - y1), .int (er_lw (x2 - x1) (y2 - y1))])), (g, .inr (0, [.int x1, .int y1, .int dp1, .int q1, .ref gv, .int ex1, .int ey1, .int ea1, .int ed1, .int lw1])), (k, .inr (0, [.int x2, .int y2, .int dp2, .int q2, .ref kv, .int ex2, .int ey2, .int ea2, .int ed2, .int lw2]))] H := hP
        have hD : va_D A [(h, .inr (0, [.int x, .int y, .int dp, .int q, .ref hv, .int x1, .int y1, .int (x2 - x1), .int (y2 - y1), .int (er_lw (x2 - x1) (y2 - y1))])), (g, .inr (0, [.int x1, .int y1, .int dp1, .int q1, .ref gv, .int ex1, .int ey1, .int ea1, .int ed1, .int lw1])), (k, .inr (0, [.int x2, .int y2, .int dp2, .int q2, .ref kv, .int ex2, .int ey2, .int ea2, .int ed2, .int lw2]))] := hD
        have hP9 := hP.sub (ws' := [(h, .inr (0, [.int x, .int y, .int dp, .int q, .ref hv, .int x1, .int y1, .int (x2 - x1), .int (y2 - y1), .int (er_lw (x2 - x1) (y2 - y1))])), (g, .inr (0, [.int x1, .int y1, .int dp1, .int q1, .ref gv, .int ex1, .int ey1, .int ea1, .int ed1, .int lw1])), (k, .inr (0, [.int x2, .int y2, .int dp2, .int q2, .ref kv, .int ex2, .int ey2, .int ea2, .int ed2, .int lw2]))]) [0, 1, 2] rfl
        have hD9 := hD.sub (ws' := [(h, .inr (0, [.int x, .int y, .int dp, .int q, .ref hv, .int x1, .int y1, .int (x2 - x1), .int (y2 - y1), .int (er_lw (x2 - x1) (y2 - y1))])), (g, .inr (0, [.int x1, .int y1, .int dp1, .int q1, .ref gv, .int ex1, .int ey1, .int ea1, .int ed1, .int lw1])), (k, .inr (0, [.int x2, .int y2, .int dp2, .int q2, .ref kv, .int ex2, .int ey2, .int ea2, .int ed2, .int lw2]))]) [0, 1, 2] (by decide) rfl
        have hK9 := hK.sub (tys' := []) [] rfl
        exact W.vret hx hb hr (fun u9 ht hW => ⟨⟨(), rfl, trivial, ⟨by rw [ht]; exact hP9, va_K.moved hW.alike hK9, hD9⟩⟩, hS.F ht⟩) hS.2.2 d_C_layEdge_94
      · refine lv_iconst (v := 1) hx hb d_C_layEdge_69 (by decide) ?_
        refine lv_goto (tgt := 74) hx hb d_C_layEdge_70 (by decide) ?_
        refine lv_istore (lv' := [(4, .int 1), (3, .int 0), (0, .ref h), (1, .ref g), (2, .ref k)]) hx hb d_C_layEdge_74 hl (by decide) rfl (fun ls hl => ?_)
        refine lv_aload_n hx hb d_C_layEdge_76 rfl (lv_at hl 2 rfl) ?_
        refine lv_iload_n hx hb d_C_layEdge_77 rfl (lv_at hl 1 rfl) ?_
        refine lv_if_ne (tgt := 86) hx hb d_C_layEdge_78 (by decide) (fun c_11 => absurd c_11 (by decide)) (fun _ => ?_)
        refine lv_iload hx hb d_C_layEdge_81 (lv_at hl 0 rfl) ?_
        refine lv_if_eq (tgt := 90) hx hb d_C_layEdge_83 (by decide) (fun c_12 => absurd c_12 (by decide)) (fun _ => ?_)
        refine lv_iconst (v := 0) hx hb d_C_layEdge_86 (by decide) ?_
        refine lv_goto (tgt := 91) hx hb d_C_layEdge_87 (by decide) ?_
        refine lv_topi (x := 0) (fun y9 e9 => ?_)
        obtain rfl : y9 = er_lw (x2 - x1) (y2 - y1) := by rw [e9]; exact (er_lw0 (by simp_all)).symm
        refine va_put (D := (dC, dI)) (ci := 0) (v := .int (er_lw (x2 - x1) (y2 - y1))) (ty := .int) (C := R_C) (T := F_C) (N := 10) hx hb hts i_C t_C t_C_ok n_C hown hK hP hD hS 0 rfl rfl 9 (by decide) (hts _ k_49) (fun _ h9 => h9) rfl (by decide +kernel) rfl rfl (Nat.le_of_ble_eq_true rfl) d_C_layEdge_91 (fun H locs hP hD hS => ?_)
        have hP : va_P (dC, dI) classes [(h, .inr (0, [.int x, .int y, .int dp, .int q, .ref hv, .int x1, .int y1, .int (x2 - x1), .int (y2 - y1), .int (er_lw (x2 - x1) (y2 - y1))])), (g, .inr (0, [.int x1, .int y1, .int dp1, .int q1, .ref gv, .int ex1, .int ey1, .int ea1, .int ed1, .int lw1])), (k, .inr (0, [.int x2, .int y2, .int dp2, .int q2, .ref kv, .int ex2, .int ey2, .int ea2, .int ed2, .int lw2]))] H := hP
        have hD : va_D A [(h, .inr (0, [.int x, .int y, .int dp, .int q, .ref hv, .int x1, .int y1, .int (x2 - x1), .int (y2 - y1), .int (er_lw (x2 - x1) (y2 - y1))])), (g, .inr (0, [.int x1, .int y1, .int dp1, .int q1, .ref gv, .int ex1, .int ey1, .int ea1, .int ed1, .int lw1])), (k, .inr (0, [.int x2, .int y2, .int dp2, .int q2, .ref kv, .int ex2, .int ey2, .int ea2, .int ed2, .int lw2]))] := hD
        have hP9 := hP.sub (ws' := [(h, .inr (0, [.int x, .int y, .int dp, .int q, .ref hv, .int x1, .int y1, .int (x2 - x1), .int (y2 - y1), .int (er_lw (x2 - x1) (y2 - y1))])), (g, .inr (0, [.int x1, .int y1, .int dp1, .int q1, .ref gv, .int ex1, .int ey1, .int ea1, .int ed1, .int lw1])), (k, .inr (0, [.int x2, .int y2, .int dp2, .int q2, .ref kv, .int ex2, .int ey2, .int ea2, .int ed2, .int lw2]))]) [0, 1, 2] rfl
        have hD9 := hD.sub (ws' := [(h, .inr (0, [.int x, .int y, .int dp, .int q, .ref hv, .int x1, .int y1, .int (x2 - x1), .int (y2 - y1), .int (er_lw (x2 - x1) (y2 - y1))])), (g, .inr (0, [.int x1, .int y1, .int dp1, .int q1, .ref gv, .int ex1, .int ey1, .int ea1, .int ed1, .int lw1])), (k, .inr (0, [.int x2, .int y2, .int dp2, .int q2, .ref kv, .int ex2, .int ey2, .int ea2, .int ed2, .int lw2]))]) [0, 1, 2] (by decide) rfl
        have hK9 := hK.sub (tys' := []) [] rfl
        exact W.vret hx hb hr (fun u9 ht hW => ⟨⟨(), rfl, trivial, ⟨by rw [ht]; exact hP9, va_K.moved hW.alike hK9, hD9⟩⟩, hS.F ht⟩) hS.2.2 d_C_layEdge_94
    · refine lv_iconst (v := 1) hx hb d_C_layEdge_56 (by decide) ?_
      refine lv_goto (tgt := 61) hx hb d_C_layEdge_57 (by decide) ?_
      refine lv_istore_n (lv' := [(3, .int 1), (0, .ref h), (1, .ref g), (2, .ref k)]) hx hb d_C_layEdge_61 rfl hl (by decide) rfl (fun ls hl => ?_)
      refine lv_aload_n hx hb d_C_layEdge_62 rfl (lv_at hl 1 rfl) ?_
      refine va_get (D := (dC, dI)) (ci := 0) (v := .int (y2 - y1)) (C := R_C) (T := F_C) (N := 10) hx hb hts i_C hown hK hP 0 rfl rfl 8 (by decide) (hts _ k_48) (fun _ h9 => h9) rfl d_C_layEdge_63 ?_
      refine lv_if_ge (tgt := 73) hx hb d_C_layEdge_66 (by decide) (fun c_13 => ?_) (fun c_13 => ?_)
      · refine lv_iconst (v := 0) hx hb d_C_layEdge_73 (by decide) ?_
        refine lv_istore (lv' := [(4, .int 0), (3, .int 1), (0, .ref h), (1, .ref g), (2, .ref k)]) hx hb d_C_layEdge_74 hl (by decide) rfl (fun ls hl => ?_)
        refine lv_aload_n hx hb d_C_layEdge_76 rfl (lv_at hl 2 rfl) ?_
        refine lv_iload_n hx hb d_C_layEdge_77 rfl (lv_at hl 1 rfl) ?_
        refine lv_if_ne (tgt := 86) hx hb d_C_layEdge_78 (by decide) (fun _ => ?_) (fun c_14 => absurd c_14 (by decide))
        refine lv_iconst (v := 0) hx hb d_C_layEdge_86 (by decide) ?_
        refine lv_goto (tgt := 91) hx hb d_C_layEdge_87 (by decide) ?_
        refine lv_topi (x := 0) (fun y9 e9 => ?_)
        obtain rfl : y9 = er_lw (x2 - x1) (y2 - y1) := by rw [e9]; exact (er_lw0 (by simp_all)).symm
        refine va_put (D := (dC, dI)) (ci := 0) (v := .int (er_lw (x2 - x1) (y2 - y1))) (ty := .int) (C := R_C) (T := F_C) (N := 10) hx hb hts i_C t_C t_C_ok n_C hown hK hP hD hS 0 rfl rfl 9 (by decide) (hts _ k_49) (fun _ h9 => h9) rfl (by decide +kernel) rfl rfl (Nat.le_of_ble_eq_true rfl) d_C_layEdge_91 (fun H locs hP hD hS => ?_)
        have hP : va_P (dC, dI) classes [(h, .inr (0, [.int x, .int y, .int dp, .int q, .ref hv, .int x1, .int y1, .int (x2 - x1), .int (y2 - y1), .int (er_lw (x2 - x1) (y2 - y1))])), (g, .inr (0, [.int x1, .int y1, .int dp1, .int q1, .ref gv, .int ex1, .int ey1, .int ea1, .int ed1, .int lw1])), (k, .inr (0, [.int x2, .int y2, .int dp2, .int q2, .ref kv, .int ex2, .int ey2, .int ea2, .int ed2, .int lw2]))] H := hP
        have hD : va_D A [(h, .inr (0, [.int x, .int y, .int dp, .int q, .ref hv, .int x1, .int y1, .int (x2 - x1), .int (y2 - y1), .int (er_lw (x2 - x1) (y2 - y1))])), (g, .inr (0, [.int x1, .int y1, .int dp1, .int q1, .ref gv, .int ex1, .int ey1, .int ea1, .int ed1, .int lw1])), (k, .inr (0, [.int x2, .int y2, .int dp2, .int q2, .ref kv, .int ex2, .int ey2, .int ea2, .int ed2, .int lw2]))] := hD
        have hP9 := hP.sub (ws' := [(h, .inr (0, [.int x, .int y, .int dp, .int q, .ref hv, .int x1, .int y1, .int (x2 - x1), .int (y2 - y1), .int (er_lw (x2 - x1) (y2 - y1))])), (g, .inr (0, [.int x1, .int y1, .int dp1, .int q1, .ref gv, .int ex1, .int ey1, .int ea1, .int ed1, .int lw1])), (k, .inr (0, [.int x2, .int y2, .int dp2, .int q2, .ref kv, .int ex2, .int ey2, .int ea2, .int ed2, .int lw2]))]) [0, 1, 2] rfl
        have hD9 := hD.sub (ws' := [(h, .inr (0, [.int x, .int y, .int dp, .int q, .ref hv, .int x1, .int y1, .int (x2 - x1), .int (y2 - y1), .int (er_lw (x2 - x1) (y2 - y1))])), (g, .inr (0, [.int x1, .int y1, .int dp1, .int q1, .ref gv, .int ex1, .int ey1, .int ea1, .int ed1, .int lw1])), (k, .inr (0, [.int x2, .int y2, .int dp2, .int q2, .ref kv, .int ex2, .int ey2, .int ea2, .int ed2, .int lw2]))]) [0, 1, 2] (by decide) rfl
        have hK9 := hK.sub (tys' := []) [] rfl
        exact W.vret hx hb hr (fun u9 ht hW => ⟨⟨(), rfl, trivial, ⟨by rw [ht]; exact hP9, va_K.moved hW.alike hK9, hD9⟩⟩, hS.F ht⟩) hS.2.2 d_C_layEdge_94
      · refine lv_iconst (v := 1) hx hb d_C_layEdge_69 (by decide) ?_
        refine lv_goto (tgt := 74) hx hb d_C_layEdge_70 (by decide) ?_
        refine lv_istore (lv' := [(4, .int 1), (3, .int 1), (0, .ref h), (1, .ref g), (2, .ref k)]) hx hb d_C_layEdge_74 hl (by decide) rfl (fun ls hl => ?_)
        refine lv_aload_n hx hb d_C_layEdge_76 rfl (lv_at hl 2 rfl) ?_
        refine lv_iload_n hx hb d_C_layEdge_77 rfl (lv_at hl 1 rfl) ?_
        refine lv_if_ne (tgt := 86) hx hb d_C_layEdge_78 (by decide) (fun _ => ?_) (fun c_15 => absurd c_15 (by decide))
        refine lv_iconst (v := 0) hx hb d_C_layEdge_86 (by decide) ?_
        refine lv_goto (tgt := 91) hx hb d_C_layEdge_87 (by decide) ?_
        refine lv_topi (x := 0) (fun y9 e9 => ?_)
        obtain rfl : y9 = er_lw (x2 - x1) (y2 - y1) := by rw [e9]; exact (er_lw0 (by simp_all)).symm
        refine va_put (D := (dC, dI)) (ci := 0) (v := .int (er_lw (x2 - x1) (y2 - y1))) (ty := .int) (C := R_C) (T := F_C) (N := 10) hx hb hts i_C t_C t_C_ok n_C hown hK hP hD hS 0 rfl rfl 9 (by decide) (hts _ k_49) (fun _ h9 => h9) rfl (by decide +kernel) rfl rfl (Nat.le_of_ble_eq_true rfl) d_C_layEdge_91 (fun H locs hP hD hS => ?_)
        have hP : va_P (dC, dI) classes [(h, .inr (0, [.int x, .int y, .int dp, .int q, .ref hv, .int x1, .int y1, .int (x2 - x1), .int (y2 - y1), .int (er_lw (x2 - x1) (y2 - y1))])), (g, .inr (0, [.int x1, .int y1, .int dp1, .int q1, .ref gv, .int ex1, .int ey1, .int ea1, .int ed1, .int lw1])), (k, .inr (0, [.int x2, .int y2, .int dp2, .int q2, .ref kv, .int ex2, .int ey2, .int ea2, .int ed2, .int lw2]))] H := hP
        have hD : va_D A [(h, .inr (0, [.int x, .int y, .int dp, .int q, .ref hv, .int x1, .int y1, .int (x2 - x1), .int (y2 - y1), .int (er_lw (x2 - x1) (y2 - y1))])), (g, .inr (0, [.int x1, .int y1, .int dp1, .int q1, .ref gv, .int ex1, .int ey1, .int ea1, .int ed1, .int lw1])), (k, .inr (0, [.int x2, .int y2, .int dp2, .int q2, .ref kv, .int ex2, .int ey2, .int ea2, .int ed2, .int lw2]))] := hD
        have hP9 := hP.sub (ws' := [(h, .inr (0, [.int x, .int y, .int dp, .int q, .ref hv, .int x1, .int y1, .int (x2 - x1), .int (y2 - y1), .int (er_lw (x2 - x1) (y2 - y1))])), (g, .inr (0, [.int x1, .int y1, .int dp1, .int q1, .ref gv, .int ex1, .int ey1, .int ea1, .int ed1, .int lw1])), (k, .inr (0, [.int x2, .int y2, .int dp2, .int q2, .ref kv, .int ex2, .int ey2, .int ea2, .int ed2, .int lw2]))]) [0, 1, 2] rfl
        have hD9 := hD.sub (ws' := [(h, .inr (0, [.int x, .int y, .int dp, .int q, .ref hv, .int x1, .int y1, .int (x2 - x1), .int (y2 - y1), .int (er_lw (x2 - x1) (y2 - y1))])), (g, .inr (0, [.int x1, .int y1, .int dp1, .int q1, .ref gv, .int ex1, .int ey1, .int ea1, .int ed1, .int lw1])), (k, .inr (0, [.int x2, .int y2, .int dp2, .int q2, .ref kv, .int ex2, .int ey2, .int ea2, .int ed2, .int lw2]))]) [0, 1, 2] (by decide) rfl
        have hK9 := hK.sub (tys' := []) [] rfl
        exact W.vret hx hb hr (fun u9 ht hW => ⟨⟨(), rfl, trivial, ⟨by rw [ht]; exact hP9, va_K.moved hW.alike hK9, hD9⟩⟩, hS.F ht⟩) hS.2.2 d_C_layEdge_94

set_option maxHeartbeats 1000000 in
set_option maxRecDepth 100000 in
theorem c_E_layTriangle (l : Launch) (dC : Nat → ClassId) (dI : Nat → Nat → Nat) (h0 h1 h2 h3 v0 v1 v2 : Nat) (X Y D Q : Nat → Int32) (ar : Int64) (wx wy ww wh wk on lx ly : Int32) (ex0 ey0 ea0 ed0 lw0 : Int32) (ex1 ey1 ea1 ed1 lw1 : Int32) (ex2 ey2 ea2 ed2 lw2 : Int32) (sz : Nat) : Met l y_E_layTriangle w_E_layTriangle ({ frames := 1, cells := 0, slots := 0, locals := 24 }) (va_Pc [.ref h0] (PI dC dI [] [(h0, .inr (1, [.ref h1, .ref h2, .ref h3, .long ar, .int wx, .int wy, .int ww, .int wh, .int wk, .int on, .int lx, .int ly])), (h1, .inr (0, [.int (X 0), .int (Y 0), .int (D 0), .int (Q 0), .ref v0, .int ex0, .int ey0, .int ea0, .int ed0, .int lw0])), (h2, .inr (0, [.int (X 1), .int (Y 1), .int (D 1), .int (Q 1), .ref v1, .int ex1, .int ey1, .int ea1, .int ed1, .int lw1])), (h3, .inr (0, [.int (X 2), .int (Y 2), .int (D 2), .int (Q 2), .ref v2, .int ex2, .int ey2, .int ea2, .int ed2, .int lw2]))] sz)) (va_Qv (fun (u : Unit) => True) (fun (u : Unit) t => EI dC dI [] [(h0, .inr (1, [.ref h1, .ref h2, .ref h3, .long (er_ar X Y), .int wx, .int wy, .int ww, .int wh, .int wk, .int on, .int lx, .int ly])), (h1, .inr (0, [.int (X 0), .int (Y 0), .int (D 0), .int (Q 0), .ref v0, .int (er_ex X Y 0), .int (er_ey X Y 0), .int (er_ea X Y 0), .int (er_ed X Y 0), .int (er_lw (er_ea X Y 0) (er_ed X Y 0))])), (h2, .inr (0, [.int (X 1), .int (Y 1), .int (D 1), .int (Q 1), .ref v1, .int (er_ex X Y 1), .int (er_ey X Y 1), .int (er_ea X Y 1), .int (er_ed X Y 1), .int (er_lw (er_ea X Y 1) (er_ed X Y 1))])), (h3, .inr (0, [.int (X 2), .int (Y 2), .int (D 2), .int (Q 2), .ref v2, .int (er_ex X Y 2), .int (er_ey X Y 2), .int (er_ea X Y 2), .int (er_ed X Y 2), .int (er_lw (er_ea X Y 2) (er_ed X Y 2))]))] (va_A [(h0, .inr (1, [.ref h1, .ref h2, .ref h3, .long ar, .int wx, .int wy, .int ww, .int wh, .int wk, .int on, .int lx, .int ly])), (h1, .inr (0, [.int (X 0), .int (Y 0), .int (D 0), .int (Q 0), .ref v0, .int ex0, .int ey0, .int ea0, .int ed0, .int lw0])), (h2, .inr (0, [.int (X 1), .int (Y 1), .int (D 1), .int (Q 1), .ref v1, .int ex1, .int ey1, .int ea1, .int ed1, .int lw1])), (h3, .inr (0, [.int (X 2), .int (Y 2), .int (D 2), .int (Q 2), .ref v2, .int ex2, .int ey2, .int ea2, .int ed2, .int lw2]))] sz) t) (va_A [(h0, .inr (1, [.ref h1, .ref h2, .ref h3, .long ar, .int wx, .int wy, .int ww, .int wh, .int wk, .int on, .int lx, .int ly])), (h1, .inr (0, [.int (X 0), .int (Y 0), .int (D 0), .int (Q 0), .ref v0, .int ex0, .int ey0, .int ea0, .int ed0, .int lw0])), (h2, .inr (0, [.int (X 1), .int (Y 1), .int (D 1), .int (Q 1), .ref v1, .int ex1, .int ey1, .int ea1, .int ed1, .int lw1])), (h3, .inr (0, [.int (X 2), .int (Y 2), .int (D 2), .int (Q 2), .ref v2, .int ex2, .int ey2, .int ea2, .int ed2, .int lw2]))] sz)) 0 0 (va_A [(h0, .inr (1, [.ref h1, .ref h2, .ref h3, .long ar, .int wx, .int wy, .int ww, .int wh, .int wk, .int on, .int lx, .int ly])), (h1, .inr (0, [.int (X 0), .int (Y 0), .int (D 0), .int (Q 0), .ref v0, .int ex0, .int ey0, .int ea0, .int ed0, .int lw0])), (h2, .inr (0, [.int (X 1), .int (Y 1), .int (D 1), .int (Q 1), .ref v1, .int ex1, .int ey1, .int ea1, .int ed1, .int lw1])), (h3, .inr (0, [.int (X 2), .int (Y 2), .int (D 2), .int (Q 2), .ref v2, .int ex2, .int ey2, .int ea2, .int ed2, .int lw2]))] sz) := by
  refine Met.ofW (cc := b_E_layTriangle) (maxL := 1) (ret := none) (by decide +kernel) rfl ?_
  intro p e s m args below meth c s₁ B hml hv
  obtain ⟨rfl, hsz, hN, hK, hP, hD0⟩ := hv
  have hx := B.exec
  have hb := B.bytes
  have hr := B.returns
  have hts := er_hts (atoms_spec (ws := w_E_layTriangle) B.pre)
  have hown : s.vm.findClass R_E = some m.cls := findClass_of_methodNamed B.named
  have hlocks := B.notSynchronized
  subst hsz
  have hD := hD0.self (sz := s.heap.size)
  generalize hAe : va_A [(h0, .inr (1, [.ref h1, .ref h2, .ref h3, .long ar, .int wx, .int wy, .int ww, .int wh, .int wk, .int on, .int lx, .int ly])), (h1, .inr (0, [.int (X 0), .int (Y 0), .int (D 0), .int (Q 0), .ref v0, .int ex0, .int ey0, .int ea0, .int ed0, .int lw0])), (h2, .inr (0, [.int (X 1), .int (Y 1), .int (D 1), .int (Q 1), .ref v1, .int ex1, .int ey1, .int ea1, .int ed1, .int lw1])), (h3, .inr (0, [.int (X 2), .int (Y 2), .int (D 2), .int (Q 2), .ref v2, .int ex2, .int ey2, .int ea2, .int ed2, .int lw2]))] s.heap.size = A at hD ⊢
  have hA : ∀ q : Nat, s.heap.size ≤ q → A q := fun q h => by rw [← hAe]; exact Or.inr h
  have hS : va_S A s.heap s.heap [] := va_S.rf
  have hP : va_P (dC, dI) classes [(h0, .inr (1, [.ref h1, .ref h2, .ref h3, .long ar, .int wx, .int wy, .int ww, .int wh, .int wk, .int on, .int lx, .int ly])), (h1, .inr (0, [.int (X 0), .int (Y 0), .int (D 0), .int (Q 0), .ref v0, .int ex0, .int ey0, .int ea0, .int ed0, .int lw0])), (h2, .inr (0, [.int (X 1), .int (Y 1), .int (D 1), .int (Q 1), .ref v1, .int ex1, .int ey1, .int ea1, .int ed1, .int lw1])), (h3, .inr (0, [.int (X 2), .int (Y 2), .int (D 2), .int (Q 2), .ref v2, .int ex2, .int ey2, .int ea2, .int ed2, .int lw2]))] s.heap := hP
  have hl := lv_entry ([.ref h0]) (n := 1) (Nat.le_of_ble_eq_true rfl)
  rw [lg_entry_eq]
  generalize (lg_sl ([.ref h0]) ++ List.replicate (1 - (lg_sl ([.ref h0])).length) Slot.unset).toArray = ls at hl ⊢
  have hl : lv_has ls 1 [(0, .ref h0)] := hl
  refine lv_aload_n hx hb d_E_layTriangle_0 rfl (lv_at hl 0 rfl) ?_
  refine lv_aload_n hx hb d_E_layTriangle_1 rfl (lv_at hl 0 rfl) ?_
  refine va_get (D := (dC, dI)) (ci := 1) (v := .ref h2) (C := R_E) (T := F_E) (N := 12) hx hb hts i_E hown hK hP 0 rfl rfl 1 (by decide) (hts _ k_73) (fun _ h9 => h9) rfl d_E_layTriangle_2 ?_
  refine va_getN (D := (dC, dI)) (ci := 0) (v := .int (X 1)) (C := R_C) (T := F_C) (N := 10) hx hb hts i_C hown hK hP 2 rfl rfl 0 (by decide) (va_Nw.use rfl (hN _ kn_1)) (fun _ h9 => h9) rfl d_E_layTriangle_5 ?_
  refine lv_aload_n hx hb d_E_layTriangle_8 rfl (lv_at hl 0 rfl) ?_
  refine va_get (D := (dC, dI)) (ci := 1) (v := .ref h1) (C := R_E) (T := F_E) (N := 12) hx hb hts i_E hown hK hP 0 rfl rfl 0 (by decide) (hts _ k_72) (fun _ h9 => h9) rfl d_E_layTriangle_9 ?_
  refine va_getN (D := (dC, dI)) (ci := 0) (v := .int (X 0)) (C := R_C) (T := F_C) (N := 10) hx hb hts i_C hown hK hP 1 rfl rfl 0 (by decide) (va_Nw.use rfl (hN _ kn_1)) (fun _ h9 => h9) rfl d_E_layTriangle_12 ?_
  refine lv_isub hx hb d_E_layTriangle_15 ?_
  refine lv_i2l (v := ((X 1) - (X 0)).toInt64) hx hb d_E_layTriangle_16 rfl ?_
  refine lv_aload_n hx hb d_E_layTriangle_17 rfl (lv_at hl 0 rfl) ?_
  refine va_get (D := (dC, dI)) (ci := 1) (v := .ref h3) (C := R_E) (T := F_E) (N := 12) hx hb hts i_E hown hK hP 0 rfl rfl 2 (by decide) (hts _ k_74) (fun _ h9 => h9) rfl d_E_layTriangle_18 ?_
  refine va_getN (D := (dC, dI)) (ci := 0) (v := .int (Y 2)) (C := R_C) (T := F_C) (N := 10) hx hb hts i_C hown hK hP 3 rfl rfl 1 (by decide) (va_Nw.use rfl (hN _ kn_2)) (fun _ h9 => h9) rfl d_E_layTriangle_21 ?_
  refine lv_aload_n hx hb d_E_layTriangle_24 rfl (lv_at hl 0 rfl) ?_
  refine va_get (D := (dC, dI)) (ci := 1) (v := .ref h1) (C := R_E) (T := F_E) (N := 12) hx hb hts i_E hown hK hP 0 rfl rfl 0 (by decide) (hts _ k_72) (fun _ h9 => h9) rfl d_E_layTriangle_25 ?_
  refine va_getN (D := (dC, dI)) (ci := 0) (v := .int (Y 0)) (C := R_C) (T := F_C) (N := 10) hx hb hts i_C hown hK hP 1 rfl rfl 1 (by decide) (va_Nw.use rfl (hN _ kn_2)) (fun _ h9 => h9) rfl d_E_layTriangle_28 ?_
  refine lv_isub hx hb d_E_layTriangle_31 ?_
  refine lv_i2l (v := ((Y 2) - (Y 0)).toInt64) hx hb d_E_layTriangle_32 rfl ?_
  refine lv_lmul hx hb d_E_layTriangle_33 ?_
  refine lv_aload_n hx hb d_E_layTriangle_34 rfl (lv_at hl 0 rfl) ?_
  refine va_get (D := (dC, dI)) (ci := 1) (v := .ref h3) (C := R_E) (T := F_E) (N := 12) hx hb hts i_E hown hK hP 0 rfl rfl 2 (by decide) (hts _ k_74) (fun _ h9 => h9) rfl d_E_layTriangle_35 ?_
  refine va_getN (D := (dC, dI)) (ci := 0) (v := .int (X 2)) (C := R_C) (T := F_C) (N := 10) hx hb hts i_C hown hK hP 3 rfl rfl 0 (by decide) (va_Nw.use rfl (hN _ kn_1)) (fun _ h9 => h9) rfl d_E_layTriangle_38 ?_
  refine lv_aload_n hx hb d_E_layTriangle_41 rfl (lv_at hl 0 rfl) ?_
  refine va_get (D := (dC, dI)) (ci := 1) (v := .ref h1) (C := R_E) (T := F_E) (N := 12) hx hb hts i_E hown hK hP 0 rfl rfl 0 (by decide) (hts _ k_72) (fun _ h9 => h9) rfl d_E_layTriangle_42 ?_
  refine va_getN (D := (dC, dI)) (ci := 0) (v := .int (X 0)) (C := R_C) (T := F_C) (N := 10) hx hb hts i_C hown hK hP 1 rfl rfl 0 (by decide) (va_Nw.use rfl (hN _ kn_1)) (fun _ h9 => h9) rfl d_E_layTriangle_45 ?_
  refine lv_isub hx hb d_E_layTriangle_48 ?_
  refine lv_i2l (v := ((X 2) - (X 0)).toInt64) hx hb d_E_layTriangle_49 rfl ?_
  refine lv_aload_n hx hb d_E_layTriangle_50 rfl (lv_at hl 0 rfl) ?_
  refine va_get (D := (dC, dI)) (ci := 1) (v := .ref h2) (C := R_E) (T := F_E) (N := 12) hx hb hts i_E hown hK hP 0 rfl rfl 1 (by decide) (hts _ k_73) (fun _ h9 => h9) rfl d_E_layTriangle_51 ?_
  refine va_getN (D := (dC, dI)) (ci := 0) (v := .int (Y 1)) (C := R_C) (T := F_C) (N := 10) hx hb hts i_C hown hK hP 2 rfl rfl 1 (by decide) (va_Nw.use rfl (hN _ kn_2)) (fun _ h9 => h9) rfl d_E_layTriangle_54 ?_
  refine lv_aload_n hx hb d_E_layTriangle_57 rfl (lv_at hl 0 rfl) ?_
  refine va_get (D := (dC, dI)) (ci := 1) (v := .ref h1) (C := R_E) (T := F_E) (N := 12) hx hb hts i_E hown hK hP 0 rfl rfl 0 (by decide) (hts _ k_72) (fun _ h9 => h9) rfl d_E_layTriangle_58 ?_
  refine va_getN (D := (dC, dI)) (ci := 0) (v := .int (Y 0)) (C := R_C) (T := F_C) (N := 10) hx hb hts i_C hown hK hP 1 rfl rfl 1 (by decide) (va_Nw.use rfl (hN _ kn_2)) (fun _ h9 => h9) rfl d_E_layTriangle_61 ?_
  refine lv_isub hx hb d_E_layTriangle_64 ?_
  refine lv_i2l (v := ((Y 1) - (Y 0)).toInt64) hx hb d_E_layTriangle_65 rfl ?_
  refine lv_lmul hx hb d_E_layTriangle_66 ?_
  refine lv_lsub hx hb d_E_layTriangle_67 ?_
  refine lv_topl (x := ((((X 1) - (X 0)).toInt64) * (((Y 2) - (Y 0)).toInt64)) - ((((X 2) - (X 0)).toInt64) * (((Y 1) - (Y 0)).toInt64))) (fun y9 e9 => ?_)
  obtain rfl : y9 = er_ar X Y := by rw [e9]; exact er_ar_c X Y
  refine va_put (D := (dC, dI)) (ci := 1) (v := .long (er_ar X Y)) (ty := .long) (C := R_E) (T := F_E) (N := 12) hx hb hts i_E t_E t_E_ok n_E hown hK hP hD hS 0 rfl rfl 3 (by decide) (hts _ k_75) (fun _ h9 => h9) rfl (by decide +kernel) rfl rfl (Nat.le_of_ble_eq_true rfl) d_E_layTriangle_68 (fun H locs hP hD hS => ?_)
  have hP : va_P (dC, dI) classes [(h0, .inr (1, [.ref h1, .ref h2, .ref h3, .long (er_ar X Y), .int wx, .int wy, .int ww, .int wh, .int wk, .int on, .int lx, .int ly])), (h1, .inr (0, [.int (X 0), .int (Y 0), .int (D 0), .int (Q 0), .ref v0, .int ex0, .int ey0, .int ea0, .int ed0, .int lw0])), (h2, .inr (0, [.int (X 1), .int (Y 1), .int (D 1), .int (Q 1), .ref v1, .int ex1, .int ey1, .int ea1, .int ed1, .int lw1])), (h3, .inr (0, [.int (X 2), .int (Y 2), .int (D 2), .int (Q 2), .ref v2, .int ex2, .int ey2, .int ea2, .int ed2, .int lw2]))] H := hP
  have hD : va_D A [(h0, .inr (1, [.ref h1, .ref h2, .ref h3, .long (er_ar X Y), .int wx, .int wy, .int ww, .int wh, .int wk, .int on, .int lx, .int ly])), (h1, .inr (0, [.int (X 0), .int (Y 0), .int (D 0), .int (Q 0), .ref v0, .int ex0, .int ey0, .int ea0, .int ed0, .int lw0])), (h2, .inr (0, [.int (X 1), .int (Y 1), .int (D 1), .int (Q 1), .ref v1, .int ex1, .int ey1, .int ea1, .int ed1, .int lw1])), (h3, .inr (0, [.int (X 2), .int (Y 2), .int (D 2), .int (Q 2), .ref v2, .int ex2, .int ey2, .int ea2, .int ed2, .int lw2]))] := hD
  refine lv_aload_n hx hb d_E_layTriangle_71 rfl (lv_at hl 0 rfl) ?_
  refine va_get (D := (dC, dI)) (ci := 1) (v := .long (er_ar X Y)) (C := R_E) (T := F_E) (N := 12) hx hb hts i_E hown hK hP 0 rfl rfl 3 (by decide) (hts _ k_75) (fun _ h9 => h9) rfl d_E_layTriangle_72 ?_
  refine lv_lconst (v := 0) hx hb d_E_layTriangle_75 (by decide) ?_
  refine W.lcmp hx hb d_E_layTriangle_76 ?_
  refine lv_if_ge (tgt := 128) hx hb d_E_layTriangle_77 (by decide) (fun c_1 => ?_) (fun c_1 => ?_)
  · rw [lg_cmp_ge] at c_1
    refine lv_aload_n hx hb d_E_layTriangle_128 rfl (lv_at hl 0 rfl) ?_
    refine va_get (D := (dC, dI)) (ci := 1) (v := .ref h1) (C := R_E) (T := F_E) (N := 12) hx hb hts i_E hown hK hP 0 rfl rfl 0 (by decide) (hts _ k_72) (fun _ h9 => h9) rfl d_E_layTriangle_129 ?_
    refine lv_aload_n hx hb d_E_layTriangle_132 rfl (lv_at hl 0 rfl) ?_
    refine va_get (D := (dC, dI)) (ci := 1) (v := .ref h2) (C := R_E) (T := F_E) (N := 12) hx hb hts i_E hown hK hP 0 rfl rfl 1 (by decide) (hts _ k_73) (fun _ h9 => h9) rfl d_E_layTriangle_133 ?_
    refine lv_aload_n hx hb d_E_layTriangle_136 rfl (lv_at hl 0 rfl) ?_
    refine va_get (D := (dC, dI)) (ci := 1) (v := .ref h3) (C := R_E) (T := F_E) (N := 12) hx hb hts i_E hown hK hP 0 rfl rfl 2 (by decide) (hts _ k_74) (fun _ h9 => h9) rfl d_E_layTriangle_137 ?_
    have hPc := hP.sub (ws' := [(h1, .inr (0, [.int (X 0), .int (Y 0), .int (D 0), .int (Q 0), .ref v0, .int ex0, .int ey0, .int ea0, .int ed0, .int lw0])), (h2, .inr (0, [.int (X 1), .int (Y 1), .int (D 1), .int (Q 1), .ref v1, .int ex1, .int ey1, .int ea1, .int ed1, .int lw1])), (h3, .inr (0, [.int (X 2), .int (Y 2), .int (D 2), .int (Q 2), .ref v2, .int ex2, .int ey2, .int ea2, .int ed2, .int lw2]))]) [1, 2, 3] rfl
    have hDc := hD.sub (ws' := [(h1, .inr (0, [.int (X 0), .int (Y 0), .int (D 0), .int (Q 0), .ref v0, .int ex0, .int ey0, .int ea0, .int ed0, .int lw0])), (h2, .inr (0, [.int (X 1), .int (Y 1), .int (D 1), .int (Q 1), .ref v1, .int ex1, .int ey1, .int ea1, .int ed1, .int lw1])), (h3, .inr (0, [.int (X 2), .int (Y 2), .int (D 2), .int (Q 2), .ref v2, .int ex2, .int ey2, .int ea2, .int ed2, .int lw2]))]) [1, 2, 3] (by decide) rfl
    have hKc := hK.sub (tys' := []) [] rfl
    have hFc := va_free (wc := [(h1, .inr (0, [.int (X 0), .int (Y 0), .int (D 0), .int (Q 0), .ref v0, .int ex0, .int ey0, .int ea0, .int ed0, .int lw0])), (h2, .inr (0, [.int (X 1), .int (Y 1), .int (D 1), .int (Q 1), .ref v1, .int ex1, .int ey1, .int ea1, .int ed1, .int lw1])), (h3, .inr (0, [.int (X 2), .int (Y 2), .int (D 2), .int (Q 2), .ref v2, .int ex2, .int ey2, .int ea2, .int ed2, .int lw2]))]) hD hS hA [1, 2, 3] rfl
    refine va_callv (va_runVN (As := [.ref h2, .ref h3]) (rest := []) ⟨hx, hb, hml, hown, hts⟩ (c_C_layEdge l dC dI h1 v0 h2 v1 h3 v2 (X 0) (Y 0) (D 0) (Q 0) ex0 ey0 ea0 ed0 lw0 (X 1) (Y 1) (D 1) (Q 1) ex1 ey1 ea1 ed1 lw1 (X 2) (Y 2) (D 2) (Q 2) ex2 ey2 ea2 ed2 lw2 H.size) ⟨va_cnB 2 hts (er_gB k_207) rfl rfl rfl (hN _ kn_7) (hts _ k_19) (by decide +kernel) ⟨Nat.le_of_ble_eq_true rfl, Nat.le_of_ble_eq_true rfl⟩, hts _ k_206, hts _ k_6⟩ ⟨PI.blind, va_recv hKc hPc (ci := 0) (q0 := 0) rfl rfl, PI.at hN hKc hPc hDc⟩ rfl rfl hl.1 rfl (lv_room (Nat.le_of_ble_eq_true rfl)) d_E_layTriangle_140 ⟨Nat.le_of_ble_eq_true rfl, Nat.le_of_ble_eq_true rfl⟩) hS (fun q _ h => hFc q h) hFc (fun u t H1 locs ht hvm hw hB hz1 hk1 hS => ?_)
    obtain ⟨hP1, hK1, hD1⟩ := hB
    rw [ht] at hP1
    have hK1 := va_K.moved hvm.symm hK1
    obtain ⟨hP, hD⟩ := va_join (wr := [(h0, .inr (1, [.ref h1, .ref h2, .ref h3, .long (er_ar X Y), .int wx, .int wy, .int ww, .int wh, .int wk, .int on, .int lx, .int ly]))]) (w1 := [(h1, .inr (0, [.int (X 0), .int (Y 0), .int (D 0), .int (Q 0), .ref v0, .int (X 1), .int (Y 1), .int ((X 2) - (X 1)), .int ((Y 2) - (Y 1)), .int (er_lw ((X 2) - (X 1)) ((Y 2) - (Y 1)))])), (h2, .inr (0, [.int (X 1), .int (Y 1), .int (D 1), .int (Q 1), .ref v1, .int ex1, .int ey1, .int ea1, .int ed1, .int lw1])), (h3, .inr (0, [.int (X 2), .int (Y 2), .int (D 2), .int (Q 2), .ref v2, .int ex2, .int ey2, .int ea2, .int ed2, .int lw2]))]) hP hD [1, 2, 3] [0] rfl rfl (by decide) (by decide) hk1 hFc hP1 hD1
    have hK := (hK.sub (tys' := []) [] rfl).app hK1
    generalize H1 = H at hP hS ⊢
    have hP : va_P (dC, dI) classes [(h0, .inr (1, [.ref h1, .ref h2, .ref h3, .long (er_ar X Y), .int wx, .int wy, .int ww, .int wh, .int wk, .int on, .int lx, .int ly])), (h1, .inr (0, [.int (X 0), .int (Y 0), .int (D 0), .int (Q 0), .ref v0, .int (X 1), .int (Y 1), .int ((X 2) - (X 1)), .int ((Y 2) - (Y 1)), .int (er_lw ((X 2) - (X 1)) ((Y 2) - (Y 1)))])), (h2, .inr (0, [.int (X 1), .int (Y 1), .int (D 1), .int (Q 1), .ref v1, .int ex1, .int ey1, .int ea1, .int ed1, .int lw1])), (h3, .inr (0, [.int (X 2), .int (Y 2), .int (D 2), .int (Q 2), .ref v2, .int ex2, .int ey2, .int ea2, .int ed2, .int lw2]))] H := hP
    have hD : va_D A [(h0, .inr (1, [.ref h1, .ref h2, .ref h3, .long (er_ar X Y), .int wx, .int wy, .int ww, .int wh, .int wk, .int on, .int lx, .int ly])), (h1, .inr (0, [.int (X 0), .int (Y 0), .int (D 0), .int (Q 0), .ref v0, .int (X 1), .int (Y 1), .int ((X 2) - (X 1)), .int ((Y 2) - (Y 1)), .int (er_lw ((X 2) - (X 1)) ((Y 2) - (Y 1)))])), (h2, .inr (0, [.int (X 1), .int (Y 1), .int (D 1), .int (Q 1), .ref v1, .int ex1, .int ey1, .int ea1, .int ed1, .int lw1])), (h3, .inr (0, [.int (X 2), .int (Y 2), .int (D 2), .int (Q 2), .ref v2, .int ex2, .int ey2, .int ea2, .int ed2, .int lw2]))] := hD
    have hK : va_K (dC, dI) classes [] s := hK
    refine lv_aload_n hx hb d_E_layTriangle_143 rfl (lv_at hl 0 rfl) ?_
    refine va_get (D := (dC, dI)) (ci := 1) (v := .ref h2) (C := R_E) (T := F_E) (N := 12) hx hb hts i_E hown hK hP 0 rfl rfl 1 (by decide) (hts _ k_73) (fun _ h9 => h9) rfl d_E_layTriangle_144 ?_
    refine lv_aload_n hx hb d_E_layTriangle_147 rfl (lv_at hl 0 rfl) ?_
    refine va_get (D := (dC, dI)) (ci := 1) (v := .ref h3) (C := R_E) (T := F_E) (N := 12) hx hb hts i_E hown hK hP 0 rfl rfl 2 (by decide) (hts _ k_74) (fun _ h9 => h9) rfl d_E_layTriangle_148 ?_
    refine lv_aload_n hx hb d_E_layTriangle_151 rfl (lv_at hl 0 rfl) ?_
    refine va_get (D := (dC, dI)) (ci := 1) (v := .ref h1) (C := R_E) (T := F_E) (N := 12) hx hb hts i_E hown hK hP 0 rfl rfl 0 (by decide) (hts _ k_72) (fun _ h9 => h9) rfl d_E_layTriangle_152 ?_
    have hPc := hP.sub (ws' := [(h2, .inr (0, [.int (X 1), .int (Y 1), .int (D 1), .int (Q 1), .ref v1, .int ex1, .int ey1, .int ea1, .int ed1, .int lw1])), (h3, .inr (0, [.int (X 2), .int (Y 2), .int (D 2), .int (Q 2), .ref v2, .int ex2, .int ey2, .int ea2, .int ed2, .int lw2])), (h1, .inr (0, [.int (X 0), .int (Y 0), .int (D 0), .int (Q 0), .ref v0, .int (X 1), .int (Y 1), .int ((X 2) - (X 1)), .int ((Y 2) - (Y 1)), .int (er_lw ((X 2) - (X 1)) ((Y 2) - (Y 1)))]))]) [2, 3, 1] rfl
    have hDc := hD.sub (ws' := [(h2, .inr (0, [.int (X 1), .int (Y 1), .int (D 1), .int (Q 1), .ref v1, .int ex1, .int ey1, .int ea1, .int ed1, .int lw1])), (h3, .inr (0, [.int (X 2), .int (Y 2), .int (D 2), .int (Q 2), .ref v2, .int ex2, .int ey2, .int ea2, .int ed2, .int lw2])), (h1, .inr (0, [.int (X 0), .int (Y 0), .int (D 0), .int (Q 0), .ref v0, .int (X 1), .int (Y 1), .int ((X 2) - (X 1)), .int ((Y 2) - (Y 1)), .int (er_lw ((X 2) - (X 1)) ((Y 2) - (Y 1)))]))]) [2, 3, 1] (by decide) rfl
    have hKc := hK.sub (tys' := []) [] rfl
    have hFc := va_free (wc := [(h2, .inr (0, [.int (X 1), .int (Y 1), .int (D 1), .int (Q 1), .ref v1, .int ex1, .int ey1, .int ea1, .int ed1, .int lw1])), (h3, .inr (0, [.int (X 2), .int (Y 2), .int (D 2), .int (Q 2), .ref v2, .int ex2, .int ey2, .int ea2, .int ed2, .int lw2])), (h1, .inr (0, [.int (X 0), .int (Y 0), .int (D 0), .int (Q 0), .ref v0, .int (X 1), .int (Y 1), .int ((X 2) - (X 1)), .int ((Y 2) - (Y 1)), .int (er_lw ((X 2) - (X 1)) ((Y 2) - (Y 1)))]))]) hD hS hA [2, 3, 1] rfl
    refine va_callv (va_runVN (As := [.ref h3, .ref h1]) (rest := []) ⟨hx, hb, hml, hown, hts⟩ (c_C_layEdge l dC dI h2 v1 h3 v2 h1 v0 (X 1) (Y 1) (D 1) (Q 1) ex1 ey1 ea1 ed1 lw1 (X 2) (Y 2) (D 2) (Q 2) ex2 ey2 ea2 ed2 lw2 (X 0) (Y 0) (D 0) (Q 0) (X 1) (Y 1) ((X 2) - (X 1)) ((Y 2) - (Y 1)) (er_lw ((X 2) - (X 1)) ((Y 2) - (Y 1))) H.size) ⟨va_cnB 2 hts (er_gB k_207) rfl rfl rfl (hN _ kn_7) (hts _ k_19) (by decide +kernel) ⟨Nat.le_of_ble_eq_true rfl, Nat.le_of_ble_eq_true rfl⟩, hts _ k_206, hts _ k_6⟩ ⟨PI.blind, va_recv hKc hPc (ci := 0) (q0 := 0) rfl rfl, PI.at hN hKc hPc hDc⟩ rfl rfl hl.1 rfl (lv_room (Nat.le_of_ble_eq_true rfl)) d_E_layTriangle_155 ⟨Nat.le_of_ble_eq_true rfl, Nat.le_of_ble_eq_true rfl⟩) hS (fun q _ h => hFc q h) hFc (fun u t H1 locs ht hvm hw hB hz1 hk1 hS => ?_)
    obtain ⟨hP1, hK1, hD1⟩ := hB
    rw [ht] at hP1
    have hK1 := va_K.moved hvm.symm hK1
    obtain ⟨hP, hD⟩ := va_join (wr := [(h0, .inr (1, [.ref h1, .ref h2, .ref h3, .long (er_ar X Y), .int wx, .int wy, .int ww, .int wh, .int wk, .int on, .int lx, .int ly]))]) (w1 := [(h2, .inr (0, [.int (X 1), .int (Y 1), .int (D 1), .int (Q 1), .ref v1, .int (X 2), .int (Y 2), .int ((X 0) - (X 2)), .int ((Y 0) - (Y 2)), .int (er_lw ((X 0) - (X 2)) ((Y 0) - (Y 2)))])), (h3, .inr (0, [.int (X 2), .int (Y 2), .int (D 2), .int (Q 2), .ref v2, .int ex2, .int ey2, .int ea2, .int ed2, .int lw2])), (h1, .inr (0, [.int (X 0), .int (Y 0), .int (D 0), .int (Q 0), .ref v0, .int (X 1), .int (Y 1), .int ((X 2) - (X 1)), .int ((Y 2) - (Y 1)), .int (er_lw ((X 2) - (X 1)) ((Y 2) - (Y 1)))]))]) hP hD [2, 3, 1] [0] rfl rfl (by decide) (by decide) hk1 hFc hP1 hD1
    have hK := (hK.sub (tys' := []) [] rfl).app hK1
    generalize H1 = H at hP hS ⊢
    have hP : va_P (dC, dI) classes [(h0, .inr (1, [.ref h1, .ref h2, .ref h3, .long (er_ar X Y), .int wx, .int wy, .int ww, .int wh, .int wk, .int on, .int lx, .int ly])), (h2, .inr (0, [.int (X 1), .int (Y 1), .int (D 1), .int (Q 1), .ref v1, .int (X 2), .int (Y 2), .int ((X 0) - (X 2)), .int ((Y 0) - (Y 2)), .int (er_lw ((X 0) - (X 2)) ((Y 0) - (Y 2)))])), (h3, .inr (0, [.int (X 2), .int (Y 2), .int (D 2), .int (Q 2), .ref v2, .int ex2, .int ey2, .int ea2, .int ed2, .int lw2])), (h1, .inr (0, [.int (X 0), .int (Y 0), .int (D 0), .int (Q 0), .ref v0, .int (X 1), .int (Y 1), .int ((X 2) - (X 1)), .int ((Y 2) - (Y 1)), .int (er_lw ((X 2) - (X 1)) ((Y 2) - (Y 1)))]))] H := hP
    have hD : va_D A [(h0, .inr (1, [.ref h1, .ref h2, .ref h3, .long (er_ar X Y), .int wx, .int wy, .int ww, .int wh, .int wk, .int on, .int lx, .int ly])), (h2, .inr (0, [.int (X 1), .int (Y 1), .int (D 1), .int (Q 1), .ref v1, .int (X 2), .int (Y 2), .int ((X 0) - (X 2)), .int ((Y 0) - (Y 2)), .int (er_lw ((X 0) - (X 2)) ((Y 0) - (Y 2)))])), (h3, .inr (0, [.int (X 2), .int (Y 2), .int (D 2), .int (Q 2), .ref v2, .int ex2, .int ey2, .int ea2, .int ed2, .int lw2])), (h1, .inr (0, [.int (X 0), .int (Y 0), .int (D 0), .int (Q 0), .ref v0, .int (X 1), .int (Y 1), .int ((X 2) - (X 1)), .int ((Y 2) - (Y 1)), .int (er_lw ((X 2) - (X 1)) ((Y 2) - (Y 1)))]))] := hD
    have hK : va_K (dC, dI) classes [] s := hK
    refine lv_aload_n hx hb d_E_layTriangle_158 rfl (lv_at hl 0 rfl) ?_
    refine va_get (D := (dC, dI)) (ci := 1) (v := .ref h3) (C := R_E) (T := F_E) (N := 12) hx hb hts i_E hown hK hP 0 rfl rfl 2 (by decide) (hts _ k_74) (fun _ h9 => h9) rfl d_E_layTriangle_159 ?_
    refine lv_aload_n hx hb d_E_layTriangle_162 rfl (lv_at hl 0 rfl) ?_
    refine va_get (D := (dC, dI)) (ci := 1) (v := .ref h1) (C := R_E) (T := F_E) (N := 12) hx hb hts i_E hown hK hP 0 rfl rfl 0 (by decide) (hts _ k_72) (fun _ h9 => h9) rfl d_E_layTriangle_163 ?_
    refine lv_aload_n hx hb d_E_layTriangle_166 rfl (lv_at hl 0 rfl) ?_
    refine va_get (D := (dC, dI)) (ci := 1) (v := .ref h2) (C := R_E) (T := F_E) (N := 12) hx hb hts i_E hown hK hP 0 rfl rfl 1 (by decide) (hts _ k_73) (fun _ h9 => h9) rfl d_E_layTriangle_167 ?_
    have hPc := hP.sub (ws' := [(h3, .inr (0, [.int (X 2), .int (Y 2), .int (D 2), .int (Q 2), .ref v2, .int ex2, .int ey2, .int ea2, .int ed2, .int lw2])), (h1, .inr (0, [.int (X 0), .int (Y 0), .int (D 0), .int (Q 0), .ref v0, .int (X 1), .int (Y 1), .int ((X 2) - (X 1)), .int ((Y 2) - (Y 1)), .int (er_lw ((X 2) - (X 1)) ((Y 2) - (Y 1)))])), (h2, .inr (0, [.int (X 1), .int (Y 1), .int (D 1), .int (Q 1), .ref v1, .int (X 2), .int (Y 2), .int ((X 0) - (X 2)), .int ((Y 0) - (Y 2)), .int (er_lw ((X 0) - (X 2)) ((Y 0) - (Y 2)))]))]) [2, 3, 1] rfl
    have hDc := hD.sub (ws' := [(h3, .inr (0, [.int (X 2), .int (Y 2), .int (D 2), .int (Q 2), .ref v2, .int ex2, .int ey2, .int ea2, .int ed2, .int lw2])), (h1, .inr (0, [.int (X 0), .int (Y 0), .int (D 0), .int (Q 0), .ref v0, .int (X 1), .int (Y 1), .int ((X 2) - (X 1)), .int ((Y 2) - (Y 1)), .int (er_lw ((X 2) - (X 1)) ((Y 2) - (Y 1)))])), (h2, .inr (0, [.int (X 1), .int (Y 1), .int (D 1), .int (Q 1), .ref v1, .int (X 2), .int (Y 2), .int ((X 0) - (X 2)), .int ((Y 0) - (Y 2)), .int (er_lw ((X 0) - (X 2)) ((Y 0) - (Y 2)))]))]) [2, 3, 1] (by decide) rfl
    have hKc := hK.sub (tys' := []) [] rfl
    have hFc := va_free (wc := [(h3, .inr (0, [.int (X 2), .int (Y 2), .int (D 2), .int (Q 2), .ref v2, .int ex2, .int ey2, .int ea2, .int ed2, .int lw2])), (h1, .inr (0, [.int (X 0), .int (Y 0), .int (D 0), .int (Q 0), .ref v0, .int (X 1), .int (Y 1), .int ((X 2) - (X 1)), .int ((Y 2) - (Y 1)), .int (er_lw ((X 2) - (X 1)) ((Y 2) - (Y 1)))])), (h2, .inr (0, [.int (X 1), .int (Y 1), .int (D 1), .int (Q 1), .ref v1, .int (X 2), .int (Y 2), .int ((X 0) - (X 2)), .int ((Y 0) - (Y 2)), .int (er_lw ((X 0) - (X 2)) ((Y 0) - (Y 2)))]))]) hD hS hA [2, 3, 1] rfl
    refine va_callv (va_runVN (As := [.ref h1, .ref h2]) (rest := []) ⟨hx, hb, hml, hown, hts⟩ (c_C_layEdge l dC dI h3 v2 h1 v0 h2 v1 (X 2) (Y 2) (D 2) (Q 2) ex2 ey2 ea2 ed2 lw2 (X 0) (Y 0) (D 0) (Q 0) (X 1) (Y 1) ((X 2) - (X 1)) ((Y 2) - (Y 1)) (er_lw ((X 2) - (X 1)) ((Y 2) - (Y 1))) (X 1) (Y 1) (D 1) (Q 1) (X 2) (Y 2) ((X 0) - (X 2)) ((Y 0) - (Y 2)) (er_lw ((X 0) - (X 2)) ((Y 0) - (Y 2))) H.size) ⟨va_cnB 2 hts (er_gB k_207) rfl rfl rfl (hN _ kn_7) (hts _ k_19) (by decide +kernel) ⟨Nat.le_of_ble_eq_true rfl, Nat.le_of_ble_eq_true rfl⟩, hts _ k_206, hts _ k_6⟩ ⟨PI.blind, va_recv hKc hPc (ci := 0) (q0 := 0) rfl rfl, PI.at hN hKc hPc hDc⟩ rfl rfl hl.1 rfl (lv_room (Nat.le_of_ble_eq_true rfl)) d_E_layTriangle_170 ⟨Nat.le_of_ble_eq_true rfl, Nat.le_of_ble_eq_true rfl⟩) hS (fun q _ h => hFc q h) hFc (fun u t H1 locs ht hvm hw hB hz1 hk1 hS => ?_)
    obtain ⟨hP1, hK1, hD1⟩ := hB
    rw [ht] at hP1
    have hK1 := va_K.moved hvm.symm hK1
    obtain ⟨hP, hD⟩ := va_join (wr := [(h0, .inr (1, [.ref h1, .ref h2, .ref h3, .long (er_ar X Y), .int wx, .int wy, .int ww, .int wh, .int wk, .int on, .int lx, .int ly]))]) (w1 := [(h3, .inr (0, [.int (X 2), .int (Y 2), .int (D 2), .int (Q 2), .ref v2, .int (X 0), .int (Y 0), .int ((X 1) - (X 0)), .int ((Y 1) - (Y 0)), .int (er_lw ((X 1) - (X 0)) ((Y 1) - (Y 0)))])), (h1, .inr (0, [.int (X 0), .int (Y 0), .int (D 0), .int (Q 0), .ref v0, .int (X 1), .int (Y 1), .int ((X 2) - (X 1)), .int ((Y 2) - (Y 1)), .int (er_lw ((X 2) - (X 1)) ((Y 2) - (Y 1)))])), (h2, .inr (0, [.int (X 1), .int (Y 1), .int (D 1), .int (Q 1), .ref v1, .int (X 2), .int (Y 2), .int ((X 0) - (X 2)), .int ((Y 0) - (Y 2)), .int (er_lw ((X 0) - (X 2)) ((Y 0) - (Y 2)))]))]) hP hD [2, 3, 1] [0] rfl rfl (by decide) (by decide) hk1 hFc hP1 hD1
    have hK := (hK.sub (tys' := []) [] rfl).app hK1
    generalize H1 = H at hP hS ⊢
    have hP : va_P (dC, dI) classes [(h0, .inr (1, [.ref h1, .ref h2, .ref h3, .long (er_ar X Y), .int wx, .int wy, .int ww, .int wh, .int wk, .int on, .int lx, .int ly])), (h3, .inr (0, [.int (X 2), .int (Y 2), .int (D 2), .int (Q 2), .ref v2, .int (X 0), .int (Y 0), .int ((X 1) - (X 0)), .int ((Y 1) - (Y 0)), .int (er_lw ((X 1) - (X 0)) ((Y 1) - (Y 0)))])), (h1, .inr (0, [.int (X 0), .int (Y 0), .int (D 0), .int (Q 0), .ref v0, .int (X 1), .int (Y 1), .int ((X 2) - (X 1)), .int ((Y 2) - (Y 1)), .int (er_lw ((X 2) - (X 1)) ((Y 2) - (Y 1)))])), (h2, .inr (0, [.int (X 1), .int (Y 1), .int (D 1), .int (Q 1), .ref v1, .int (X 2), .int (Y 2), .int ((X 0) - (X 2)), .int ((Y 0) - (Y 2)), .int (er_lw ((X 0) - (X 2)) ((Y 0) - (Y 2)))]))] H := hP
    have hD : va_D A [(h0, .inr (1, [.ref h1, .ref h2, .ref h3, .long (er_ar X Y), .int wx, .int wy, .int ww, .int wh, .int wk, .int on, .int lx, .int ly])), (h3, .inr (0, [.int (X 2), .int (Y 2), .int (D 2), .int (Q 2), .ref v2, .int (X 0), .int (Y 0), .int ((X 1) - (X 0)), .int ((Y 1) - (Y 0)), .int (er_lw ((X 1) - (X 0)) ((Y 1) - (Y 0)))])), (h1, .inr (0, [.int (X 0), .int (Y 0), .int (D 0), .int (Q 0), .ref v0, .int (X 1), .int (Y 1), .int ((X 2) - (X 1)), .int ((Y 2) - (Y 1)), .int (er_lw ((X 2) - (X 1)) ((Y 2) - (Y 1)))])), (h2, .inr (0, [.int (X 1), .int (Y 1), .int (D 1), .int (Q 1), .ref v1, .int (X 2), .int (Y 2), .int ((X 0) - (X 2)), .int ((Y 0) - (Y 2)), .int (er_lw ((X 0) - (X 2)) ((Y 0) - (Y 2)))]))] := hD
    have hK : va_K (dC, dI) classes [] s := hK
    have hP9 := hP.sub (ws' := [(h0, .inr (1, [.ref h1, .ref h2, .ref h3, .long (er_ar X Y), .int wx, .int wy, .int ww, .int wh, .int wk, .int on, .int lx, .int ly])), (h1, .inr (0, [.int (X 0), .int (Y 0), .int (D 0), .int (Q 0), .ref v0, .int (X 1), .int (Y 1), .int ((X 2) - (X 1)), .int ((Y 2) - (Y 1)), .int (er_lw ((X 2) - (X 1)) ((Y 2) - (Y 1)))])), (h2, .inr (0, [.int (X 1), .int (Y 1), .int (D 1), .int (Q 1), .ref v1, .int (X 2), .int (Y 2), .int ((X 0) - (X 2)), .int ((Y 0) - (Y 2)), .int (er_lw ((X 0) - (X 2)) ((Y 0) - (Y 2)))])), (h3, .inr (0, [.int (X 2), .int (Y 2), .int (D 2), .int (Q 2), .ref v2, .int (X 0), .int (Y 0), .int ((X 1) - (X 0)), .int ((Y 1) - (Y 0)), .int (er_lw ((X 1) - (X 0)) ((Y 1) - (Y 0)))]))]) [0, 2, 3, 1] rfl
    have hD9 := hD.sub (ws' := [(h0, .inr (1, [.ref h1, .ref h2, .ref h3, .long (er_ar X Y), .int wx, .int wy, .int ww, .int wh, .int wk, .int on, .int lx, .int ly])), (h1, .inr (0, [.int (X 0), .int (Y 0), .int (D 0), .int (Q 0), .ref v0, .int (X 1), .int (Y 1), .int ((X 2) - (X 1)), .int ((Y 2) - (Y 1)), .int (er_lw ((X 2) - (X 1)) ((Y 2) - (Y 1)))])), (h2, .inr (0, [.int (X 1), .int (Y 1), .int (D 1), .int (Q 1), .ref v1, .int (X 2), .int (Y 2), .int ((X 0) - (X 2)), .int ((Y 0) - (Y 2)), .int (er_lw ((X 0) - (X 2)) ((Y 0) - (Y 2)))])), (h3, .inr (0, [.int (X 2), .int (Y 2), .int (D 2), .int (Q 2), .ref v2, .int (X 0), .int (Y 0), .int ((X 1) - (X 0)), .int ((Y 1) - (Y 0)), .int (er_lw ((X 1) - (X 0)) ((Y 1) - (Y 0)))]))]) [0, 2, 3, 1] (by decide) rfl
    have hK9 := hK.sub (tys' := []) [] rfl
    have hP9 : va_P (dC, dI) classes [(h0, .inr (1, [.ref h1, .ref h2, .ref h3, .long (er_ar X Y), .int wx, .int wy, .int ww, .int wh, .int wk, .int on, .int lx, .int ly])), (h1, .inr (0, [.int (X 0), .int (Y 0), .int (D 0), .int (Q 0), .ref v0, .int (er_ex X Y 0), .int (er_ey X Y 0), .int (er_ea X Y 0), .int (er_ed X Y 0), .int (er_lw (er_ea X Y 0) (er_ed X Y 0))])), (h2, .inr (0, [.int (X 1), .int (Y 1), .int (D 1), .int (Q 1), .ref v1, .int (er_ex X Y 1), .int (er_ey X Y 1), .int (er_ea X Y 1), .int (er_ed X Y 1), .int (er_lw (er_ea X Y 1) (er_ed X Y 1))])), (h3, .inr (0, [.int (X 2), .int (Y 2), .int (D 2), .int (Q 2), .ref v2, .int (er_ex X Y 2), .int (er_ey X Y 2), .int (er_ea X Y 2), .int (er_ed X Y 2), .int (er_lw (er_ea X Y 2) (er_ed X Y 2))]))] H := by rw [er_enx_0 c_1, er_eny_0 c_1, er_ena_0 c_1, er_end_0 c_1, er_enx_1 c_1, er_eny_1 c_1, er_ena_1 c_1, er_end_1 c_1, er_enx_2 c_1, er_eny_2 c_1, er_ena_2 c_1, er_end_2 c_1]; exact hP9
    have hD9 : va_D A [(h0, .inr (1, [.ref h1, .ref h2, .ref h3, .long (er_ar X Y), .int wx, .int wy, .int ww, .int wh, .int wk, .int on, .int lx, .int ly])), (h1, .inr (0, [.int (X 0), .int (Y 0), .int (D 0), .int (Q 0), .ref v0, .int (er_ex X Y 0), .int (er_ey X Y 0), .int (er_ea X Y 0), .int (er_ed X Y 0), .int (er_lw (er_ea X Y 0) (er_ed X Y 0))])), (h2, .inr (0, [.int (X 1), .int (Y 1), .int (D 1), .int (Q 1), .ref v1, .int (er_ex X Y 1), .int (er_ey X Y 1), .int (er_ea X Y 1), .int (er_ed X Y 1), .int (er_lw (er_ea X Y 1) (er_ed X Y 1))])), (h3, .inr (0, [.int (X 2), .int (Y 2), .int (D 2), .int (Q 2), .ref v2, .int (er_ex X Y 2), .int (er_ey X Y 2), .int (er_ea X Y 2), .int (er_ed X Y 2), .int (er_lw (er_ea X Y 2) (er_ed X Y 2))]))] := by rw [er_enx_0 c_1, er_eny_0 c_1, er_ena_0 c_1, er_end_0 c_1, er_enx_1 c_1, er_eny_1 c_1, er_ena_1 c_1, er_end_1 c_1, er_enx_2 c_1, er_eny_2 c_1, er_ena_2 c_1, er_end_2 c_1]; exact hD9
    exact W.vret hx hb hr (fun u9 ht hW => ⟨⟨(), rfl, trivial, ⟨by rw [ht]; exact hP9, va_K.moved hW.alike hK9, hD9⟩⟩, hS.F ht⟩) hS.2.2 d_E_layTriangle_173
  · rw [lg_cmp_ge] at c_1
    refine lv_aload_n hx hb d_E_layTriangle_80 rfl (lv_at hl 0 rfl) ?_
    refine va_get (D := (dC, dI)) (ci := 1) (v := .ref h1) (C := R_E) (T := F_E) (N := 12) hx hb hts i_E hown hK hP 0 rfl rfl 0 (by decide) (hts _ k_72) (fun _ h9 => h9) rfl d_E_layTriangle_81 ?_
    refine lv_aload_n hx hb d_E_layTriangle_84 rfl (lv_at hl 0 rfl) ?_
    refine va_get (D := (dC, dI)) (ci := 1) (v := .ref h3) (C := R_E) (T := F_E) (N := 12) hx hb hts i_E hown hK hP 0 rfl rfl 2 (by decide) (hts _ k_74) (fun _ h9 => h9) rfl d_E_layTriangle_85 ?_
    refine lv_aload_n hx hb d_E_layTriangle_88 rfl (lv_at hl 0 rfl) ?_
    refine va_get (D := (dC, dI)) (ci := 1) (v := .ref h2) (C := R_E) (T := F_E) (N := 12) hx hb hts i_E hown hK hP 0 rfl rfl 1 (by decide) (hts _ k_73) (fun _ h9 => h9) rfl d_E_layTriangle_89 ?_
    have hPc := hP.sub (ws' := [(h1, .inr (0, [.int (X 0), .int (Y 0), .int (D 0), .int (Q 0), .ref v0, .int ex0, .int ey0, .int ea0, .int ed0, .int lw0])), (h3, .inr (0, [.int (X 2), .int (Y 2), .int (D 2), .int (Q 2), .ref v2, .int ex2, .int ey2, .int ea2, .int ed2, .int lw2])), (h2, .inr (0, [.int (X 1), .int (Y 1), .int (D 1), .int (Q 1), .ref v1, .int ex1, .int ey1, .int ea1, .int ed1, .int lw1]))]) [1, 3, 2] rfl
    have hDc := hD.sub (ws' := [(h1, .inr (0, [.int (X 0), .int (Y 0), .int (D 0), .int (Q 0), .ref v0, .int ex0, .int ey0, .int ea0, .int ed0, .int lw0])), (h3, .inr (0, [.int (X 2), .int (Y 2), .int (D 2), .int (Q 2), .ref v2, .int ex2, .int ey2, .int ea2, .int ed2, .int lw2])), (h2, .inr (0, [.int (X 1), .int (Y 1), .int (D 1), .int (Q 1), .ref v1, .int ex1, .int ey1, .int ea1, .int ed1, .int lw1]))]) [1, 3, 2] (by decide) rfl
    have hKc := hK.sub (tys' := []) [] rfl
    have hFc := va_free (wc := [(h1, .inr (0, [.int (X 0), .int (Y 0), .int (D 0), .int (Q 0), .ref v0, .int ex0, .int ey0, .int ea0, .int ed0, .int lw0])), (h3, .inr (0, [.int (X 2), .int (Y 2), .int (D 2), .int (Q 2), .ref v2, .int ex2, .int ey2, .int ea2, .int ed2, .int lw2])), (h2, .inr (0, [.int (X 1), .int (Y 1), .int (D 1), .int (Q 1), .ref v1, .int ex1, .int ey1, .int ea1, .int ed1, .int lw1]))]) hD hS hA [1, 3, 2] rfl
    refine va_callv (va_runVN (As := [.ref h3, .ref h2]) (rest := []) ⟨hx, hb, hml, hown, hts⟩ (c_C_layEdge l dC dI h1 v0 h3 v2 h2 v1 (X 0) (Y 0) (D 0) (Q 0) ex0 ey0 ea0 ed0 lw0 (X 2) (Y 2) (D 2) (Q 2) ex2 ey2 ea2 ed2 lw2 (X 1) (Y 1) (D 1) (Q 1) ex1 ey1 ea1 ed1 lw1 H.size) ⟨va_cnB 2 hts (er_gB k_207) rfl rfl rfl (hN _ kn_7) (hts _ k_19) (by decide +kernel) ⟨Nat.le_of_ble_eq_true rfl, Nat.le_of_ble_eq_true rfl⟩, hts _ k_206, hts _ k_6⟩ ⟨PI.blind, va_recv hKc hPc (ci := 0) (q0 := 0) rfl rfl, PI.at hN hKc hPc hDc⟩ rfl rfl hl.1 rfl (lv_room (Nat.le_of_ble_eq_true rfl)) d_E_layTriangle_92 ⟨Nat.le_of_ble_eq_true rfl, Nat.le_of_ble_eq_true rfl⟩) hS (fun q _ h => hFc q h) hFc (fun u t H1 locs ht hvm hw hB hz1 hk1 hS => ?_)
    obtain ⟨hP1, hK1, hD1⟩ := hB
    rw [ht] at hP1
    have hK1 := va_K.moved hvm.symm hK1
    obtain ⟨hP, hD⟩ := va_join (wr := [(h0, .inr (1, [.ref h1, .ref h2, .ref h3, .long (er_ar X Y), .int wx, .int wy, .int ww, .int wh, .int wk, .int on, .int lx, .int ly]))]) (w1 := [(h1, .inr (0, [.int (X 0), .int (Y 0), .int (D 0), .int (Q 0), .ref v0, .int (X 2), .int (Y 2), .int ((X 1) - (X 2)), .int ((Y 1) - (Y 2)), .int (er_lw ((X 1) - (X 2)) ((Y 1) - (Y 2)))])), (h3, .inr (0, [.int (X 2), .int (Y 2), .int (D 2), .int (Q 2), .ref v2, .int ex2, .int ey2, .int ea2, .int ed2, .int lw2])), (h2, .inr (0, [.int (X 1), .int (Y 1), .int (D 1), .int (Q 1), .ref v1, .int ex1, .int ey1, .int ea1, .int ed1, .int lw1]))]) hP hD [1, 3, 2] [0] rfl rfl (by decide) (by decide) hk1 hFc hP1 hD1
    have hK := (hK.sub (tys' := []) [] rfl).app hK1
    generalize H1 = H at hP hS ⊢
    have hP : va_P (dC, dI) classes [(h0, .inr (1, [.ref h1, .ref h2, .ref h3, .long (er_ar X Y), .int wx, .int wy, .int ww, .int wh, .int wk, .int on, .int lx, .int ly])), (h1, .inr (0, [.int (X 0), .int (Y 0), .int (D 0), .int (Q 0), .ref v0, .int (X 2), .int (Y 2), .int ((X 1) - (X 2)), .int ((Y 1) - (Y 2)), .int (er_lw ((X 1) - (X 2)) ((Y 1) - (Y 2)))])), (h3, .inr (0, [.int (X 2), .int (Y 2), .int (D 2), .int (Q 2), .ref v2, .int ex2, .int ey2, .int ea2, .int ed2, .int lw2])), (h2, .inr (0, [.int (X 1), .int (Y 1), .int (D 1), .int (Q 1), .ref v1, .int ex1, .int ey1, .int ea1, .int ed1, .int lw1]))] H := hP
    have hD : va_D A [(h0, .inr (1, [.ref h1, .ref h2, .ref h3, .long (er_ar X Y), .int wx, .int wy, .int ww, .int wh, .int wk, .int on, .int lx, .int ly])), (h1, .inr (0, [.int (X 0), .int (Y 0), .int (D 0), .int (Q 0), .ref v0, .int (X 2), .int (Y 2), .int ((X 1) - (X 2)), .int ((Y 1) - (Y 2)), .int (er_lw ((X 1) - (X 2)) ((Y 1) - (Y 2)))])), (h3, .inr (0, [.int (X 2), .int (Y 2), .int (D 2), .int (Q 2), .ref v2, .int ex2, .int ey2, .int ea2, .int ed2, .int lw2])), (h2, .inr (0, [.int (X 1), .int (Y 1), .int (D 1), .int (Q 1), .ref v1, .int ex1, .int ey1, .int ea1, .int ed1, .int lw1]))] := hD
    have hK : va_K (dC, dI) classes [] s := hK
    refine lv_aload_n hx hb d_E_layTriangle_95 rfl (lv_at hl 0 rfl) ?_
    refine va_get (D := (dC, dI)) (ci := 1) (v := .ref h2) (C := R_E) (T := F_E) (N := 12) hx hb hts i_E hown hK hP 0 rfl rfl 1 (by decide) (hts _ k_73) (fun _ h9 => h9) rfl d_E_layTriangle_96 ?_
    refine lv_aload_n hx hb d_E_layTriangle_99 rfl (lv_at hl 0 rfl) ?_
    refine va_get (D := (dC, dI)) (ci := 1) (v := .ref h1) (C := R_E) (T := F_E) (N := 12) hx hb hts i_E hown hK hP 0 rfl rfl 0 (by decide) (hts _ k_72) (fun _ h9 => h9) rfl d_E_layTriangle_100 ?_
    refine lv_aload_n hx hb d_E_layTriangle_103 rfl (lv_at hl 0 rfl) ?_
    refine va_get (D := (dC, dI)) (ci := 1) (v := .ref h3) (C := R_E) (T := F_E) (N := 12) hx hb hts i_E hown hK hP 0 rfl rfl 2 (by decide) (hts _ k_74) (fun _ h9 => h9) rfl d_E_layTriangle_104 ?_
    have hPc := hP.sub (ws' := [(h2, .inr (0, [.int (X 1), .int (Y 1), .int (D 1), .int (Q 1), .ref v1, .int ex1, .int ey1, .int ea1, .int ed1, .int lw1])), (h1, .inr (0, [.int (X 0), .int (Y 0), .int (D 0), .int (Q 0), .ref v0, .int (X 2), .int (Y 2), .int ((X 1) - (X 2)), .int ((Y 1) - (Y 2)), .int (er_lw ((X 1) - (X 2)) ((Y 1) - (Y 2)))])), (h3, .inr (0, [.int (X 2), .int (Y 2), .int (D 2), .int (Q 2), .ref v2, .int ex2, .int ey2, .int ea2, .int ed2, .int lw2]))]) [3, 1, 2] rfl
    have hDc := hD.sub (ws' := [(h2, .inr (0, [.int (X 1), .int (Y 1), .int (D 1), .int (Q 1), .ref v1, .int ex1, .int ey1, .int ea1, .int ed1, .int lw1])), (h1, .inr (0, [.int (X 0), .int (Y 0), .int (D 0), .int (Q 0), .ref v0, .int (X 2), .int (Y 2), .int ((X 1) - (X 2)), .int ((Y 1) - (Y 2)), .int (er_lw ((X 1) - (X 2)) ((Y 1) - (Y 2)))])), (h3, .inr (0, [.int (X 2), .int (Y 2), .int (D 2), .int (Q 2), .ref v2, .int ex2, .int ey2, .int ea2, .int ed2, .int lw2]))]) [3, 1, 2] (by decide) rfl
    have hKc := hK.sub (tys' := []) [] rfl
    have hFc := va_free (wc := [(h2, .inr (0, [.int (X 1), .int (Y 1), .int (D 1), .int (Q 1), .ref v1, .int ex1, .int ey1, .int ea1, .int ed1, .int lw1])), (h1, .inr (0, [.int (X 0), .int (Y 0), .int (D 0), .int (Q 0), .ref v0, .int (X 2), .int (Y 2), .int ((X 1) - (X 2)), .int ((Y 1) - (Y 2)), .int (er_lw ((X 1) - (X 2)) ((Y 1) - (Y 2)))])), (h3, .inr (0, [.int (X 2), .int (Y 2), .int (D 2), .int (Q 2), .ref v2, .int ex2, .int ey2, .int ea2, .int ed2, .int lw2]))]) hD hS hA [3, 1, 2] rfl
    refine va_callv (va_runVN (As := [.ref h1, .ref h3]) (rest := []) ⟨hx, hb, hml, hown, hts⟩ (c_C_layEdge l dC dI h2 v1 h1 v0 h3 v2 (X 1) (Y 1) (D 1) (Q 1) ex1 ey1 ea1 ed1 lw1 (X 0) (Y 0) (D 0) (Q 0) (X 2) (Y 2) ((X 1) - (X 2)) ((Y 1) - (Y 2)) (er_lw ((X 1) - (X 2)) ((Y 1) - (Y 2))) (X 2) (Y 2) (D 2) (Q 2) ex2 ey2 ea2 ed2 lw2 H.size) ⟨va_cnB 2 hts (er_gB k_207) rfl rfl rfl (hN _ kn_7) (hts _ k_19) (by decide +kernel) ⟨Nat.le_of_ble_eq_true rfl, Nat.le_of_ble_eq_true rfl⟩, hts _ k_206, hts _ k_6⟩ ⟨PI.blind, va_recv hKc hPc (ci := 0) (q0 := 0) rfl rfl, PI.at hN hKc hPc hDc⟩ rfl rfl hl.1 rfl (lv_room (Nat.le_of_ble_eq_true rfl)) d_E_layTriangle_107 ⟨Nat.le_of_ble_eq_true rfl, Nat.le_of_ble_eq_true rfl⟩) hS (fun q _ h => hFc q h) hFc (fun u t H1 locs ht hvm hw hB hz1 hk1 hS => ?_)
    obtain ⟨hP1, hK1, hD1⟩ := hB
    rw [ht] at hP1
    have hK1 := va_K.moved hvm.symm hK1
    obtain ⟨hP, hD⟩ := va_join (wr := [(h0, .inr (1, [.ref h1, .ref h2, .ref h3, .long (er_ar X Y), .int wx, .int wy, .int ww, .int wh, .int wk, .int on, .int lx, .int ly]))]) (w1 := [(h2, .inr (0, [.int (X 1), .int (Y 1), .int (D 1), .int (Q 1), .ref v1, .int (X 0), .int (Y 0), .int ((X 2) - (X 0)), .int ((Y 2) - (Y 0)), .int (er_lw ((X 2) - (X 0)) ((Y 2) - (Y 0)))])), (h1, .inr (0, [.int (X 0), .int (Y 0), .int (D 0), .int (Q 0), .ref v0, .int (X 2), .int (Y 2), .int ((X 1) - (X 2)), .int ((Y 1) - (Y 2)), .int (er_lw ((X 1) - (X 2)) ((Y 1) - (Y 2)))])), (h3, .inr (0, [.int (X 2), .int (Y 2), .int (D 2), .int (Q 2), .ref v2, .int ex2, .int ey2, .int ea2, .int ed2, .int lw2]))]) hP hD [3, 1, 2] [0] rfl rfl (by decide) (by decide) hk1 hFc hP1 hD1
    have hK := (hK.sub (tys' := []) [] rfl).app hK1
    generalize H1 = H at hP hS ⊢
    have hP : va_P (dC, dI) classes [(h0, .inr (1, [.ref h1, .ref h2, .ref h3, .long (er_ar X Y), .int wx, .int wy, .int ww, .int wh, .int wk, .int on, .int lx, .int ly])), (h2, .inr (0, [.int (X 1), .int (Y 1), .int (D 1), .int (Q 1), .ref v1, .int (X 0), .int (Y 0), .int ((X 2) - (X 0)), .int ((Y 2) - (Y 0)), .int (er_lw ((X 2) - (X 0)) ((Y 2) - (Y 0)))])), (h1, .inr (0, [.int (X 0), .int (Y 0), .int (D 0), .int (Q 0), .ref v0, .int (X 2), .int (Y 2), .int ((X 1) - (X 2)), .int ((Y 1) - (Y 2)), .int (er_lw ((X 1) - (X 2)) ((Y 1) - (Y 2)))])), (h3, .inr (0, [.int (X 2), .int (Y 2), .int (D 2), .int (Q 2), .ref v2, .int ex2, .int ey2, .int ea2, .int ed2, .int lw2]))] H := hP
    have hD : va_D A [(h0, .inr (1, [.ref h1, .ref h2, .ref h3, .long (er_ar X Y), .int wx, .int wy, .int ww, .int wh, .int wk, .int on, .int lx, .int ly])), (h2, .inr (0, [.int (X 1), .int (Y 1), .int (D 1), .int (Q 1), .ref v1, .int (X 0), .int (Y 0), .int ((X 2) - (X 0)), .int ((Y 2) - (Y 0)), .int (er_lw ((X 2) - (X 0)) ((Y 2) - (Y 0)))])), (h1, .inr (0, [.int (X 0), .int (Y 0), .int (D 0), .int (Q 0), .ref v0, .int (X 2), .int (Y 2), .int ((X 1) - (X 2)), .int ((Y 1) - (Y 2)), .int (er_lw ((X 1) - (X 2)) ((Y 1) - (Y 2)))])), (h3, .inr (0, [.int (X 2), .int (Y 2), .int (D 2), .int (Q 2), .ref v2, .int ex2, .int ey2, .int ea2, .int ed2, .int lw2]))] := hD
    have hK : va_K (dC, dI) classes [] s := hK
    refine lv_aload_n hx hb d_E_layTriangle_110 rfl (lv_at hl 0 rfl) ?_
    refine va_get (D := (dC, dI)) (ci := 1) (v := .ref h3) (C := R_E) (T := F_E) (N := 12) hx hb hts i_E hown hK hP 0 rfl rfl 2 (by decide) (hts _ k_74) (fun _ h9 => h9) rfl d_E_layTriangle_111 ?_
    refine lv_aload_n hx hb d_E_layTriangle_114 rfl (lv_at hl 0 rfl) ?_
    refine va_get (D := (dC, dI)) (ci := 1) (v := .ref h2) (C := R_E) (T := F_E) (N := 12) hx hb hts i_E hown hK hP 0 rfl rfl 1 (by decide) (hts _ k_73) (fun _ h9 => h9) rfl d_E_layTriangle_115 ?_
    refine lv_aload_n hx hb d_E_layTriangle_118 rfl (lv_at hl 0 rfl) ?_
    refine va_get (D := (dC, dI)) (ci := 1) (v := .ref h1) (C := R_E) (T := F_E) (N := 12) hx hb hts i_E hown hK hP 0 rfl rfl 0 (by decide) (hts _ k_72) (fun _ h9 => h9) rfl d_E_layTriangle_119 ?_
    have hPc := hP.sub (ws' := [(h3, .inr (0, [.int (X 2), .int (Y 2), .int (D 2), .int (Q 2), .ref v2, .int ex2, .int ey2, .int ea2, .int ed2, .int lw2])), (h2, .inr (0, [.int (X 1), .int (Y 1), .int (D 1), .int (Q 1), .ref v1, .int (X 0), .int (Y 0), .int ((X 2) - (X 0)), .int ((Y 2) - (Y 0)), .int (er_lw ((X 2) - (X 0)) ((Y 2) - (Y 0)))])), (h1, .inr (0, [.int (X 0), .int (Y 0), .int (D 0), .int (Q 0), .ref v0, .int (X 2), .int (Y 2), .int ((X 1) - (X 2)), .int ((Y 1) - (Y 2)), .int (er_lw ((X 1) - (X 2)) ((Y 1) - (Y 2)))]))]) [3, 1, 2] rfl
    have hDc := hD.sub (ws' := [(h3, .inr (0, [.int (X 2), .int (Y 2), .int (D 2), .int (Q 2), .ref v2, .int ex2, .int ey2, .int ea2, .int ed2, .int lw2])), (h2, .inr (0, [.int (X 1), .int (Y 1), .int (D 1), .int (Q 1), .ref v1, .int (X 0), .int (Y 0), .int ((X 2) - (X 0)), .int ((Y 2) - (Y 0)), .int (er_lw ((X 2) - (X 0)) ((Y 2) - (Y 0)))])), (h1, .inr (0, [.int (X 0), .int (Y 0), .int (D 0), .int (Q 0), .ref v0, .int (X 2), .int (Y 2), .int ((X 1) - (X 2)), .int ((Y 1) - (Y 2)), .int (er_lw ((X 1) - (X 2)) ((Y 1) - (Y 2)))]))]) [3, 1, 2] (by decide) rfl
    have hKc := hK.sub (tys' := []) [] rfl
    have hFc := va_free (wc := [(h3, .inr (0, [.int (X 2), .int (Y 2), .int (D 2), .int (Q 2), .ref v2, .int ex2, .int ey2, .int ea2, .int ed2, .int lw2])), (h2, .inr (0, [.int (X 1), .int (Y 1), .int (D 1), .int (Q 1), .ref v1, .int (X 0), .int (Y 0), .int ((X 2) - (X 0)), .int ((Y 2) - (Y 0)), .int (er_lw ((X 2) - (X 0)) ((Y 2) - (Y 0)))])), (h1, .inr (0, [.int (X 0), .int (Y 0), .int (D 0), .int (Q 0), .ref v0, .int (X 2), .int (Y 2), .int ((X 1) - (X 2)), .int ((Y 1) - (Y 2)), .int (er_lw ((X 1) - (X 2)) ((Y 1) - (Y 2)))]))]) hD hS hA [3, 1, 2] rfl
    refine va_callv (va_runVN (As := [.ref h2, .ref h1]) (rest := []) ⟨hx, hb, hml, hown, hts⟩ (c_C_layEdge l dC dI h3 v2 h2 v1 h1 v0 (X 2) (Y 2) (D 2) (Q 2) ex2 ey2 ea2 ed2 lw2 (X 1) (Y 1) (D 1) (Q 1) (X 0) (Y 0) ((X 2) - (X 0)) ((Y 2) - (Y 0)) (er_lw ((X 2) - (X 0)) ((Y 2) - (Y 0))) (X 0) (Y 0) (D 0) (Q 0) (X 2) (Y 2) ((X 1) - (X 2)) ((Y 1) - (Y 2)) (er_lw ((X 1) - (X 2)) ((Y 1) - (Y 2))) H.size) ⟨va_cnB 2 hts (er_gB k_207) rfl rfl rfl (hN _ kn_7) (hts _ k_19) (by decide +kernel) ⟨Nat.le_of_ble_eq_true rfl, Nat.le_of_ble_eq_true rfl⟩, hts _ k_206, hts _ k_6⟩ ⟨PI.blind, va_recv hKc hPc (ci := 0) (q0 := 0) rfl rfl, PI.at hN hKc hPc hDc⟩ rfl rfl hl.1 rfl (lv_room (Nat.le_of_ble_eq_true rfl)) d_E_layTriangle_122 ⟨Nat.le_of_ble_eq_true rfl, Nat.le_of_ble_eq_true rfl⟩) hS (fun q _ h => hFc q h) hFc (fun u t H1 locs ht hvm hw hB hz1 hk1 hS => ?_)
    obtain ⟨hP1, hK1, hD1⟩ := hB
    rw [ht] at hP1
    have hK1 := va_K.moved hvm.symm hK1
    obtain ⟨hP, hD⟩ := va_join (wr := [(h0, .inr (1, [.ref h1, .ref h2, .ref h3, .long (er_ar X Y), .int wx, .int wy, .int ww, .int wh, .int wk, .int on, .int lx, .int ly]))]) (w1 := [(h3, .inr (0, [.int (X 2), .int (Y 2), .int (D 2), .int (Q 2), .ref v2, .int (X 1), .int (Y 1), .int ((X 0) - (X 1)), .int ((Y 0) - (Y 1)), .int (er_lw ((X 0) - (X 1)) ((Y 0) - (Y 1)))])), (h2, .inr (0, [.int (X 1), .int (Y 1), .int (D 1), .int (Q 1), .ref v1, .int (X 0), .int (Y 0), .int ((X 2) - (X 0)), .int ((Y 2) - (Y 0)), .int (er_lw ((X 2) - (X 0)) ((Y 2) - (Y 0)))])), (h1, .inr (0, [.int (X 0), .int (Y 0), .int (D 0), .int (Q 0), .ref v0, .int (X 2), .int (Y 2), .int ((X 1) - (X 2)), .int ((Y 1) - (Y 2)), .int (er_lw ((X 1) - (X 2)) ((Y 1) - (Y 2)))]))]) hP hD [3, 1, 2] [0] rfl rfl (by decide) (by decide) hk1 hFc hP1 hD1
    have hK := (hK.sub (tys' := []) [] rfl).app hK1
    generalize H1 = H at hP hS ⊢
    have hP : va_P (dC, dI) classes [(h0, .inr (1, [.ref h1, .ref h2, .ref h3, .long (er_ar X Y), .int wx, .int wy, .int ww, .int wh, .int wk, .int on, .int lx, .int ly])), (h3, .inr (0, [.int (X 2), .int (Y 2), .int (D 2), .int (Q 2), .ref v2, .int (X 1), .int (Y 1), .int ((X 0) - (X 1)), .int ((Y 0) - (Y 1)), .int (er_lw ((X 0) - (X 1)) ((Y 0) - (Y 1)))])), (h2, .inr (0, [.int (X 1), .int (Y 1), .int (D 1), .int (Q 1), .ref v1, .int (X 0), .int (Y 0), .int ((X 2) - (X 0)), .int ((Y 2) - (Y 0)), .int (er_lw ((X 2) - (X 0)) ((Y 2) - (Y 0)))])), (h1, .inr (0, [.int (X 0), .int (Y 0), .int (D 0), .int (Q 0), .ref v0, .int (X 2), .int (Y 2), .int ((X 1) - (X 2)), .int ((Y 1) - (Y 2)), .int (er_lw ((X 1) - (X 2)) ((Y 1) - (Y 2)))]))] H := hP
    have hD : va_D A [(h0, .inr (1, [.ref h1, .ref h2, .ref h3, .long (er_ar X Y), .int wx, .int wy, .int ww, .int wh, .int wk, .int on, .int lx, .int ly])), (h3, .inr (0, [.int (X 2), .int (Y 2), .int (D 2), .int (Q 2), .ref v2, .int (X 1), .int (Y 1), .int ((X 0) - (X 1)), .int ((Y 0) - (Y 1)), .int (er_lw ((X 0) - (X 1)) ((Y 0) - (Y 1)))])), (h2, .inr (0, [.int (X 1), .int (Y 1), .int (D 1), .int (Q 1), .ref v1, .int (X 0), .int (Y 0), .int ((X 2) - (X 0)), .int ((Y 2) - (Y 0)), .int (er_lw ((X 2) - (X 0)) ((Y 2) - (Y 0)))])), (h1, .inr (0, [.int (X 0), .int (Y 0), .int (D 0), .int (Q 0), .ref v0, .int (X 2), .int (Y 2), .int ((X 1) - (X 2)), .int ((Y 1) - (Y 2)), .int (er_lw ((X 1) - (X 2)) ((Y 1) - (Y 2)))]))] := hD
    have hK : va_K (dC, dI) classes [] s := hK
    refine lv_goto (tgt := 173) hx hb d_E_layTriangle_125 (by decide) ?_
    have hP9 := hP.sub (ws' := [(h0, .inr (1, [.ref h1, .ref h2, .ref h3, .long (er_ar X Y), .int wx, .int wy, .int ww, .int wh, .int wk, .int on, .int lx, .int ly])), (h1, .inr (0, [.int (X 0), .int (Y 0), .int (D 0), .int (Q 0), .ref v0, .int (X 2), .int (Y 2), .int ((X 1) - (X 2)), .int ((Y 1) - (Y 2)), .int (er_lw ((X 1) - (X 2)) ((Y 1) - (Y 2)))])), (h2, .inr (0, [.int (X 1), .int (Y 1), .int (D 1), .int (Q 1), .ref v1, .int (X 0), .int (Y 0), .int ((X 2) - (X 0)), .int ((Y 2) - (Y 0)), .int (er_lw ((X 2) - (X 0)) ((Y 2) - (Y 0)))])), (h3, .inr (0, [.int (X 2), .int (Y 2), .int (D 2), .int (Q 2), .ref v2, .int (X 1), .int (Y 1), .int ((X 0) - (X 1)), .int ((Y 0) - (Y 1)), .int (er_lw ((X 0) - (X 1)) ((Y 0) - (Y 1)))]))]) [0, 3, 2, 1] rfl
    have hD9 := hD.sub (ws' := [(h0, .inr (1, [.ref h1, .ref h2, .ref h3, .long (er_ar X Y), .int wx, .int wy, .int ww, .int wh, .int wk, .int on, .int lx, .int ly])), (h1, .inr (0, [.int (X 0), .int (Y 0), .int (D 0), .int (Q 0), .ref v0, .int (X 2), .int (Y 2), .int ((X 1) - (X 2)), .int ((Y 1) - (Y 2)), .int (er_lw ((X 1) - (X 2)) ((Y 1) - (Y 2)))])), (h2, .inr (0, [.int (X 1), .int (Y 1), .int (D 1), .int (Q 1), .ref v1, .int (X 0), .int (Y 0), .int ((X 2) - (X 0)), .int ((Y 2) - (Y 0)), .int (er_lw ((X 2) - (X 0)) ((Y 2) - (Y 0)))])), (h3, .inr (0, [.int (X 2), .int (Y 2), .int (D 2), .int (Q 2), .ref v2, .int (X 1), .int (Y 1), .int ((X 0) - (X 1)), .int ((Y 0) - (Y 1)), .int (er_lw ((X 0) - (X 1)) ((Y 0) - (Y 1)))]))]) [0, 3, 2, 1] (by decide) rfl
    have hK9 := hK.sub (tys' := []) [] rfl
    have hP9 : va_P (dC, dI) classes [(h0, .inr (1, [.ref h1, .ref h2, .ref h3, .long (er_ar X Y), .int wx, .int wy, .int ww, .int wh, .int wk, .int on, .int lx, .int ly])), (h1, .inr (0, [.int (X 0), .int (Y 0), .int (D 0), .int (Q 0), .ref v0, .int (er_ex X Y 0), .int (er_ey X Y 0), .int (er_ea X Y 0), .int (er_ed X Y 0), .int (er_lw (er_ea X Y 0) (er_ed X Y 0))])), (h2, .inr (0, [.int (X 1), .int (Y 1), .int (D 1), .int (Q 1), .ref v1, .int (er_ex X Y 1), .int (er_ey X Y 1), .int (er_ea X Y 1), .int (er_ed X Y 1), .int (er_lw (er_ea X Y 1) (er_ed X Y 1))])), (h3, .inr (0, [.int (X 2), .int (Y 2), .int (D 2), .int (Q 2), .ref v2, .int (er_ex X Y 2), .int (er_ey X Y 2), .int (er_ea X Y 2), .int (er_ed X Y 2), .int (er_lw (er_ea X Y 2) (er_ed X Y 2))]))] H := by rw [er_etx_0 c_1, er_ety_0 c_1, er_eta_0 c_1, er_etd_0 c_1, er_etx_1 c_1, er_ety_1 c_1, er_eta_1 c_1, er_etd_1 c_1, er_etx_2 c_1, er_ety_2 c_1, er_eta_2 c_1, er_etd_2 c_1]; exact hP9
    have hD9 : va_D A [(h0, .inr (1, [.ref h1, .ref h2, .ref h3, .long (er_ar X Y), .int wx, .int wy, .int ww, .int wh, .int wk, .int on, .int lx, .int ly])), (h1, .inr (0, [.int (X 0), .int (Y 0), .int (D 0), .int (Q 0), .ref v0, .int (er_ex X Y 0), .int (er_ey X Y 0), .int (er_ea X Y 0), .int (er_ed X Y 0), .int (er_lw (er_ea X Y 0) (er_ed X Y 0))])), (h2, .inr (0, [.int (X 1), .int (Y 1), .int (D 1), .int (Q 1), .ref v1, .int (er_ex X Y 1), .int (er_ey X Y 1), .int (er_ea X Y 1), .int (er_ed X Y 1), .int (er_lw (er_ea X Y 1) (er_ed X Y 1))])), (h3, .inr (0, [.int (X 2), .int (Y 2), .int (D 2), .int (Q 2), .ref v2, .int (er_ex X Y 2), .int (er_ey X Y 2), .int (er_ea X Y 2), .int (er_ed X Y 2), .int (er_lw (er_ea X Y 2) (er_ed X Y 2))]))] := by rw [er_etx_0 c_1, er_ety_0 c_1, er_eta_0 c_1, er_etd_0 c_1, er_etx_1 c_1, er_ety_1 c_1, er_eta_1 c_1, er_etd_1 c_1, er_etx_2 c_1, er_ety_2 c_1, er_eta_2 c_1, er_etd_2 c_1]; exact hD9
    exact W.vret hx hb hr (fun u9 ht hW => ⟨⟨(), rfl, trivial, ⟨by rw [ht]; exact hP9, va_K.moved hW.alike hK9, hD9⟩⟩, hS.F ht⟩) hS.2.2 d_E_layTriangle_173

set_option maxHeartbeats 1000000 in
set_option maxRecDepth 100000 in
theorem c_E_endWalk (l : Launch) (dC : Nat → ClassId) (dI : Nat → Nat → Nat) (h0 h1 h2 h3 : Nat) (ar : Int64) (wx wy ww wh wk on lx ly : Int32) (sz : Nat) : Met l y_E_endWalk w_E_endWalk ({ frames := 0, cells := 0, slots := 0, locals := 0 }) (va_Pc [.ref h0] (PI dC dI [] [(h0, .inr (1, [.ref h1, .ref h2, .ref h3, .long ar, .int wx, .int wy, .int ww, .int wh, .int wk, .int on, .int lx, .int ly]))] sz)) (va_Qv (fun (u : Unit) => True) (fun (u : Unit) t => EI dC dI [] [(h0, .inr (1, [.ref h1, .ref h2, .ref h3, .long ar, .int wx, .int wy, .int ww, .int wh, .int 0, .int 0, .int lx, .int ly]))] (va_A [(h0, .inr (1, [.ref h1, .ref h2, .ref h3, .long ar, .int wx, .int wy, .int ww, .int wh, .int wk, .int on, .int lx, .int ly]))] sz) t) (va_A [(h0, .inr (1, [.ref h1, .ref h2, .ref h3, .long ar, .int wx, .int wy, .int ww, .int wh, .int wk, .int on, .int lx, .int ly]))] sz)) 0 0 (va_A [(h0, .inr (1, [.ref h1, .ref h2, .ref h3, .long ar, .int wx, .int wy, .int ww, .int wh, .int wk, .int on, .int lx, .int ly]))] sz) := by
  refine Met.ofW (cc := b_E_endWalk) (maxL := 1) (ret := none) (by decide +kernel) rfl ?_
  intro p e s m args below meth c s₁ B hml hv
  obtain ⟨rfl, hsz, hN, hK, hP, hD0⟩ := hv
  have hx := B.exec
  have hb := B.bytes
  have hr := B.returns
  have hts := er_hts (atoms_spec (ws := w_E_endWalk) B.pre)
  have hown : s.vm.findClass R_E = some m.cls := findClass_of_methodNamed B.named
  have hlocks := B.notSynchronized
  subst hsz
  have hD := hD0.self (sz := s.heap.size)
  generalize hAe : va_A [(h0, .inr (1, [.ref h1, .ref h2, .ref h3, .long ar, .int wx, .int wy, .int ww, .int wh, .int wk, .int on, .int lx, .int ly]))] s.heap.size = A at hD ⊢
  have hA : ∀ q : Nat, s.heap.size ≤ q → A q := fun q h => by rw [← hAe]; exact Or.inr h
  have hS : va_S A s.heap s.heap [] := va_S.rf
  have hP : va_P (dC, dI) classes [(h0, .inr (1, [.ref h1, .ref h2, .ref h3, .long ar, .int wx, .int wy, .int ww, .int wh, .int wk, .int on, .int lx, .int ly]))] s.heap := hP
  have hl := lv_entry ([.ref h0]) (n := 1) (Nat.le_of_ble_eq_true rfl)
  rw [lg_entry_eq]
  generalize (lg_sl ([.ref h0]) ++ List.replicate (1 - (lg_sl ([.ref h0])).length) Slot.unset).toArray = ls at hl ⊢
  have hl : lv_has ls 1 [(0, .ref h0)] := hl
  refine lv_aload_n hx hb d_E_endWalk_0 rfl (lv_at hl 0 rfl) ?_
  refine lv_iconst (v := 0) hx hb d_E_endWalk_1 (by decide) ?_
  refine va_put (D := (dC, dI)) (ci := 1) (v := .int 0) (ty := .boolean) (C := R_E) (T := F_E) (N := 12) hx hb hts i_E t_E t_E_ok n_E hown hK hP hD hS 0 rfl rfl 8 (by decide) (hts _ k_80) (fun _ h9 => h9) rfl (by decide +kernel) (by decide) rfl (Nat.le_of_ble_eq_true rfl) d_E_endWalk_2 (fun H locs hP hD hS => ?_)
  have hP : va_P (dC, dI) classes [(h0, .inr (1, [.ref h1, .ref h2, .ref h3, .long ar, .int wx, .int wy, .int ww, .int wh, .int 0, .int on, .int lx, .int ly]))] H := hP
  have hD : va_D A [(h0, .inr (1, [.ref h1, .ref h2, .ref h3, .long ar, .int wx, .int wy, .int ww, .int wh, .int 0, .int on, .int lx, .int ly]))] := hD
  refine lv_aload_n hx hb d_E_endWalk_5 rfl (lv_at hl 0 rfl) ?_
  refine lv_iconst (v := 0) hx hb d_E_endWalk_6 (by decide) ?_
  refine va_put (D := (dC, dI)) (ci := 1) (v := .int 0) (ty := .boolean) (C := R_E) (T := F_E) (N := 12) hx hb hts i_E t_E t_E_ok n_E hown hK hP hD hS 0 rfl rfl 9 (by decide) (hts _ k_81) (fun _ h9 => h9) rfl (by decide +kernel) (by decide) rfl (Nat.le_of_ble_eq_true rfl) d_E_endWalk_7 (fun H locs hP hD hS => ?_)
  have hP : va_P (dC, dI) classes [(h0, .inr (1, [.ref h1, .ref h2, .ref h3, .long ar, .int wx, .int wy, .int ww, .int wh, .int 0, .int 0, .int lx, .int ly]))] H := hP
  have hD : va_D A [(h0, .inr (1, [.ref h1, .ref h2, .ref h3, .long ar, .int wx, .int wy, .int ww, .int wh, .int 0, .int 0, .int lx, .int ly]))] := hD
  have hP9 := hP.sub (ws' := [(h0, .inr (1, [.ref h1, .ref h2, .ref h3, .long ar, .int wx, .int wy, .int ww, .int wh, .int 0, .int 0, .int lx, .int ly]))]) [0] rfl
  have hD9 := hD.sub (ws' := [(h0, .inr (1, [.ref h1, .ref h2, .ref h3, .long ar, .int wx, .int wy, .int ww, .int wh, .int 0, .int 0, .int lx, .int ly]))]) [0] (by decide) rfl
  have hK9 := hK.sub (tys' := []) [] rfl
  exact W.vret hx hb hr (fun u9 ht hW => ⟨⟨(), rfl, trivial, ⟨by rw [ht]; exact hP9, va_K.moved hW.alike hK9, hD9⟩⟩, hS.F ht⟩) hS.2.2 d_E_endWalk_10

set_option maxHeartbeats 1000000 in
set_option maxRecDepth 100000 in
theorem c_E_walk (l : Launch) (dC : Nat → ClassId) (dI : Nat → Nat → Nat) (h0 h1 h2 h3 : Nat) (ar : Int64) (wx wy ww wh wk on lx ly : Int32) (sz : Nat) : Met l y_E_walk w_E_walk ({ frames := 0, cells := 0, slots := 0, locals := 0 }) (va_Pc [.ref h0] (PI dC dI [] [(h0, .inr (1, [.ref h1, .ref h2, .ref h3, .long ar, .int wx, .int wy, .int ww, .int wh, .int wk, .int on, .int lx, .int ly]))] sz)) (va_Qv (fun (u : Unit) => True) (fun (u : Unit) t => EI dC dI [] [(h0, .inr (1, [.ref h1, .ref h2, .ref h3, .long ar, .int wx, .int wy, .int ww, .int wh, .int 1, .int 0, .int (wx - 1), .int wy]))] (va_A [(h0, .inr (1, [.ref h1, .ref h2, .ref h3, .long ar, .int wx, .int wy, .int ww, .int wh, .int wk, .int on, .int lx, .int ly]))] sz) t) (va_A [(h0, .inr (1, [.ref h1, .ref h2, .ref h3, .long ar, .int wx, .int wy, .int ww, .int wh, .int wk, .int on, .int lx, .int ly]))] sz)) 0 0 (va_A [(h0, .inr (1, [.ref h1, .ref h2, .ref h3, .long ar, .int wx, .int wy, .int ww, .int wh, .int wk, .int on, .int lx, .int ly]))] sz) := by
  refine Met.ofW (cc := b_E_walk) (maxL := 1) (ret := none) (by decide +kernel) rfl ?_
  intro p e s m args below meth c s₁ B hml hv
  obtain ⟨rfl, hsz, hN, hK, hP, hD0⟩ := hv
  have hx := B.exec
  have hb := B.bytes
  have hr := B.returns
  have hts := er_hts (atoms_spec (ws := w_E_walk) B.pre)
  have hown : s.vm.findClass R_E = some m.cls := findClass_of_methodNamed B.named
  have hlocks := B.notSynchronized
  subst hsz
  have hD := hD0.self (sz := s.heap.size)
  generalize hAe : va_A [(h0, .inr (1, [.ref h1, .ref h2, .ref h3, .long ar, .int wx, .int wy, .int ww, .int wh, .int wk, .int on, .int lx, .int ly]))] s.heap.size = A at hD ⊢
  have hA : ∀ q : Nat, s.heap.size ≤ q → A q := fun q h => by rw [← hAe]; exact Or.inr h
  have hS : va_S A s.heap s.heap [] := va_S.rf
  have hP : va_P (dC, dI) classes [(h0, .inr (1, [.ref h1, .ref h2, .ref h3, .long ar, .int wx, .int wy, .int ww, .int wh, .int wk, .int on, .int lx, .int ly]))] s.heap := hP
  have hl := lv_entry ([.ref h0]) (n := 1) (Nat.le_of_ble_eq_true rfl)
  rw [lg_entry_eq]
  generalize (lg_sl ([.ref h0]) ++ List.replicate (1 - (lg_sl ([.ref h0])).length) Slot.unset).toArray = ls at hl ⊢
  have hl : lv_has ls 1 [(0, .ref h0)] := hl
  refine lv_aload_n hx hb d_E_walk_0 rfl (lv_at hl 0 rfl) ?_
  refine lv_iconst (v := 1) hx hb d_E_walk_1 (by decide) ?_
  refine va_put (D := (dC, dI)) (ci := 1) (v := .int 1) (ty := .boolean) (C := R_E) (T := F_E) (N := 12) hx hb hts i_E t_E t_E_ok n_E hown hK hP hD hS 0 rfl rfl 8 (by decide) (hts _ k_80) (fun _ h9 => h9) rfl (by decide +kernel) (by decide) rfl (Nat.le_of_ble_eq_true rfl) d_E_walk_2 (fun H locs hP hD hS => ?_)
  have hP : va_P (dC, dI) classes [(h0, .inr (1, [.ref h1, .ref h2, .ref h3, .long ar, .int wx, .int wy, .int ww, .int wh, .int 1, .int on, .int lx, .int ly]))] H := hP
  have hD : va_D A [(h0, .inr (1, [.ref h1, .ref h2, .ref h3, .long ar, .int wx, .int wy, .int ww, .int wh, .int 1, .int on, .int lx, .int ly]))] := hD
  refine lv_aload_n hx hb d_E_walk_5 rfl (lv_at hl 0 rfl) ?_
  refine lv_iconst (v := 0) hx hb d_E_walk_6 (by decide) ?_
  refine va_put (D := (dC, dI)) (ci := 1) (v := .int 0) (ty := .boolean) (C := R_E) (T := F_E) (N := 12) hx hb hts i_E t_E t_E_ok n_E hown hK hP hD hS 0 rfl rfl 9 (by decide) (hts _ k_81) (fun _ h9 => h9) rfl (by decide +kernel) (by decide) rfl (Nat.le_of_ble_eq_true rfl) d_E_walk_7 (fun H locs hP hD hS => ?_)
  have hP : va_P (dC, dI) classes [(h0, .inr (1, [.ref h1, .ref h2, .ref h3, .long ar, .int wx, .int wy, .int ww, .int wh, .int 1, .int 0, .int lx, .int ly]))] H := hP
  have hD : va_D A [(h0, .inr (1, [.ref h1, .ref h2, .ref h3, .long ar, .int wx, .int wy, .int ww, .int wh, .int 1, .int 0, .int lx, .int ly]))] := hD
  refine lv_aload_n hx hb d_E_walk_10 rfl (lv_at hl 0 rfl) ?_
  refine lv_aload_n hx hb d_E_walk_11 rfl (lv_at hl 0 rfl) ?_
  refine va_get (D := (dC, dI)) (ci := 1) (v := .int wx) (C := R_E) (T := F_E) (N := 12) hx hb hts i_E hown hK hP 0 rfl rfl 4 (by decide) (hts _ k_76) (fun _ h9 => h9) rfl d_E_walk_12 ?_
  refine lv_iconst (v := 1) hx hb d_E_walk_15 (by decide) ?_
  refine lv_isub hx hb d_E_walk_16 ?_
  refine va_put (D := (dC, dI)) (ci := 1) (v := .int (wx - 1)) (ty := .int) (C := R_E) (T := F_E) (N := 12) hx hb hts i_E t_E t_E_ok n_E hown hK hP hD hS 0 rfl rfl 10 (by decide) (hts _ k_82) (fun _ h9 => h9) rfl (by decide +kernel) rfl rfl (Nat.le_of_ble_eq_true rfl) d_E_walk_17 (fun H locs hP hD hS => ?_)
  have hP : va_P (dC, dI) classes [(h0, .inr (1, [.ref h1, .ref h2, .ref h3, .long ar, .int wx, .int wy, .int ww, .int wh, .int 1, .int 0, .int (wx - 1), .int ly]))] H := hP
  have hD : va_D A [(h0, .inr (1, [.ref h1, .ref h2, .ref h3, .long ar, .int wx, .int wy, .int ww, .int wh, .int 1, .int 0, .int (wx - 1), .int ly]))] := hD
  refine lv_aload_n hx hb d_E_walk_20 rfl (lv_at hl 0 rfl) ?_
  refine lv_aload_n hx hb d_E_walk_21 rfl (lv_at hl 0 rfl) ?_
  refine va_get (D := (dC, dI)) (ci := 1) (v := .int wy) (C := R_E) (T := F_E) (N := 12) hx hb hts i_E hown hK hP 0 rfl rfl 5 (by decide) (hts _ k_77) (fun _ h9 => h9) rfl d_E_walk_22 ?_
  refine va_put (D := (dC, dI)) (ci := 1) (v := .int wy) (ty := .int) (C := R_E) (T := F_E) (N := 12) hx hb hts i_E t_E t_E_ok n_E hown hK hP hD hS 0 rfl rfl 11 (by decide) (hts _ k_83) (fun _ h9 => h9) rfl (by decide +kernel) rfl rfl (Nat.le_of_ble_eq_true rfl) d_E_walk_25 (fun H locs hP hD hS => ?_)
  have hP : va_P (dC, dI) classes [(h0, .inr (1, [.ref h1, .ref h2, .ref h3, .long ar, .int wx, .int wy, .int ww, .int wh, .int 1, .int 0, .int (wx - 1), .int wy]))] H := hP
  have hD : va_D A [(h0, .inr (1, [.ref h1, .ref h2, .ref h3, .long ar, .int wx, .int wy, .int ww, .int wh, .int 1, .int 0, .int (wx - 1), .int wy]))] := hD
  have hP9 := hP.sub (ws' := [(h0, .inr (1, [.ref h1, .ref h2, .ref h3, .long ar, .int wx, .int wy, .int ww, .int wh, .int 1, .int 0, .int (wx - 1), .int wy]))]) [0] rfl
  have hD9 := hD.sub (ws' := [(h0, .inr (1, [.ref h1, .ref h2, .ref h3, .long ar, .int wx, .int wy, .int ww, .int wh, .int 1, .int 0, .int (wx - 1), .int wy]))]) [0] (by decide) rfl
  have hK9 := hK.sub (tys' := []) [] rfl
  exact W.vret hx hb hr (fun u9 ht hW => ⟨⟨(), rfl, trivial, ⟨by rw [ht]; exact hP9, va_K.moved hW.alike hK9, hD9⟩⟩, hS.F ht⟩) hS.2.2 d_E_walk_28
end
section
set_option maxHeartbeats 1000000 in
set_option maxRecDepth 100000 in
theorem c_E_window (l : Launch) (dC : Nat → ClassId) (dI : Nat → Nat → Nat) (h0 h1 h2 h3 : Nat) (ar : Int64) (wx wy ww wh wk on lx ly : Int32) (p0 p1 p2 p3 : Int32) (u1 : er_win p0 0 1023 = true) (u2 : er_win p1 0 1023 = true) (u3 : er_win p2 1 64 = true) (u4 : er_win p3 1 64 = true) (sz : Nat) : Met l y_E_window w_E_window ({ frames := 6, cells := 0, slots := 0, locals := 82 }) (va_Pc [.ref h0, .int p0, .int p1, .int p2, .int p3] (PI dC dI [] [(h0, .inr (1, [.ref h1, .ref h2, .ref h3, .long ar, .int wx, .int wy, .int ww, .int wh, .int wk, .int on, .int lx, .int ly]))] sz)) (va_Qv (fun (u : Unit) => True) (fun (u : Unit) t => EI dC dI [] [(h0, .inr (1, [.ref h1, .ref h2, .ref h3, .long ar, .int p0, .int p1, .int p2, .int p3, .int 0, .int 0, .int lx, .int ly]))] (va_A [(h0, .inr (1, [.ref h1, .ref h2, .ref h3, .long ar, .int wx, .int wy, .int ww, .int wh, .int wk, .int on, .int lx, .int ly]))] sz) t) (va_A [(h0, .inr (1, [.ref h1, .ref h2, .ref h3, .long ar, .int wx, .int wy, .int ww, .int wh, .int wk, .int on, .int lx, .int ly]))] sz)) 0 0 (va_A [(h0, .inr (1, [.ref h1, .ref h2, .ref h3, .long ar, .int wx, .int wy, .int ww, .int wh, .int wk, .int on, .int lx, .int ly]))] sz) := by
  refine Met.ofW (cc := b_E_window) (maxL := 5) (ret := none) (by decide +kernel) rfl ?_
  intro p e s m args below meth c s₁ B hml hv
  obtain ⟨rfl, hsz, hN, hK, hP, hD0⟩ := hv
  have hx := B.exec
  have hb := B.bytes
  have hr := B.returns
  have hts := er_hts (atoms_spec (ws := w_E_window) B.pre)
  have hown : s.vm.findClass R_E = some m.cls := findClass_of_methodNamed B.named
  have hlocks := B.notSynchronized
  subst hsz
  have hD := hD0.self (sz := s.heap.size)
  generalize hAe : va_A [(h0, .inr (1, [.ref h1, .ref h2, .ref h3, .long ar, .int wx, .int wy, .int ww, .int wh, .int wk, .int on, .int lx, .int ly]))] s.heap.size = A at hD ⊢
  have hA : ∀ q : Nat, s.heap.size ≤ q → A q := fun q h => by rw [← hAe]; exact Or.inr h
  have hS : va_S A s.heap s.heap [] := va_S.rf
  have hP : va_P (dC, dI) classes [(h0, .inr (1, [.ref h1, .ref h2, .ref h3, .long ar, .int wx, .int wy, .int ww, .int wh, .int wk, .int on, .int lx, .int ly]))] s.heap := hP
  have hl := lv_entry ([.ref h0, .int p0, .int p1, .int p2, .int p3]) (n := 5) (Nat.le_of_ble_eq_true rfl)
  rw [lg_entry_eq]
  generalize (lg_sl ([.ref h0, .int p0, .int p1, .int p2, .int p3]) ++ List.replicate (5 - (lg_sl ([.ref h0, .int p0, .int p1, .int p2, .int p3])).length) Slot.unset).toArray = ls at hl ⊢
  have hl : lv_has ls 5 [(0, .ref h0), (1, .int p0), (2, .int p1), (3, .int p2), (4, .int p3)] := hl
  refine lv_iload_n hx hb d_E_window_0 rfl (lv_at hl 1 rfl) ?_
  refine lv_iconst (v := 0) hx hb d_E_window_1 (by decide) ?_
  refine lv_sipush (v := 1023) hx hb d_E_window_2 (by decide) ?_
  have hPc := hP.sub (ws' := []) [] rfl
  have hKc := hK.sub (tys' := []) [] rfl
  refine vp_callSi (va_runS (As := [.int p0, .int 0, .int 1023]) (rest := []) ⟨hx, hb, hml, hown, hts⟩ (c_E_within l dC dI p0 0 1023) (va_cwS 3 hts (er_gS k_140 k_141 k_18 k_142) rfl rfl rfl (by decide +kernel) ⟨Nat.le_of_ble_eq_true rfl, Nat.le_of_ble_eq_true rfl⟩) ⟨PP.blind, PP.at hN hKc hPc⟩ rfl rfl hl.1 rfl (lv_room (Nat.le_of_ble_eq_true rfl)) d_E_window_5 ⟨Nat.zero_le _, Nat.zero_le _⟩).run (fun r_1 hr_1 => ?_)
  obtain rfl : er_b (er_win p0 0 1023) = r_1 := Eq.symm hr_1
  refine lv_if_eq (tgt := 22) hx hb d_E_window_8 (by decide) (fun c_2 => ?_) (fun c_2 => ?_)
  · have c_2 := er_b_0.mp c_2
    exact absurd c_2 (by simp_all)
  · have c_2 := er_b_n.mp c_2
    refine lv_iload_n hx hb d_E_window_11 rfl (lv_at hl 2 rfl) ?_
    refine lv_iconst (v := 0) hx hb d_E_window_12 (by decide) ?_
    refine lv_sipush (v := 1023) hx hb d_E_window_13 (by decide) ?_
    have hPc := hP.sub (ws' := []) [] rfl
    have hKc := hK.sub (tys' := []) [] rfl
    refine vp_callSi (va_runS (As := [.int p1, .int 0, .int 1023]) (rest := []) ⟨hx, hb, hml, hown, hts⟩ (c_E_within l dC dI p1 0 1023) (va_cwS 3 hts (er_gS k_140 k_141 k_18 k_142) rfl rfl rfl (by decide +kernel) ⟨Nat.le_of_ble_eq_true rfl, Nat.le_of_ble_eq_true rfl⟩) ⟨PP.blind, PP.at hN hKc hPc⟩ rfl rfl hl.1 rfl (lv_room (Nat.le_of_ble_eq_true rfl)) d_E_window_16 ⟨Nat.zero_le _, Nat.zero_le _⟩).run (fun r_3 hr_3 => ?_)
    obtain rfl : er_b (er_win p1 0 1023) = r_3 := Eq.symm hr_3
    refine lv_if_ne (tgt := 32) hx hb d_E_window_19 (by decide) (fun c_4 => ?_) (fun c_4 => ?_)
    · have c_4 := er_b_n.mp c_4
      refine lv_iload_n hx hb d_E_window_32 rfl (lv_at hl 3 rfl) ?_
      refine lv_iconst (v := 1) hx hb d_E_window_33 (by decide) ?_
      refine lv_bipush (v := 64) hx hb d_E_window_34 (by decide) ?_
      have hPc := hP.sub (ws' := []) [] rfl
      have hKc := hK.sub (tys' := []) [] rfl
      refine vp_callSi (va_runS (As := [.int p2, .int 1, .int 64]) (rest := []) ⟨hx, hb, hml, hown, hts⟩ (c_E_within l dC dI p2 1 64) (va_cwS 3 hts (er_gS k_140 k_141 k_18 k_142) rfl rfl rfl (by decide +kernel) ⟨Nat.le_of_ble_eq_true rfl, Nat.le_of_ble_eq_true rfl⟩) ⟨PP.blind, PP.at hN hKc hPc⟩ rfl rfl hl.1 rfl (lv_room (Nat.le_of_ble_eq_true rfl)) d_E_window_36 ⟨Nat.zero_le _, Nat.zero_le _⟩).run (fun r_5 hr_5 => ?_)
      obtain rfl : er_b (er_win p2 1 64) = r_5 := Eq.symm hr_5
      refine lv_if_eq (tgt := 53) hx hb d_E_window_39 (by decide) (fun c_6 => ?_) (fun c_6 => ?_)
      · have c_6 := er_b_0.mp c_6
        exact absurd c_6 (by simp_all)
      · have c_6 := er_b_n.mp c_6
        refine lv_iload hx hb d_E_window_42 (lv_at hl 4 rfl) ?_
        refine lv_iconst (v := 1) hx hb d_E_window_44 (by decide) ?_
        refine lv_bipush (v := 64) hx hb d_E_window_45 (by decide) ?_
        have hPc := hP.sub (ws' := []) [] rfl
        have hKc := hK.sub (tys' := []) [] rfl
        refine vp_callSi (va_runS (As := [.int p3, .int 1, .int 64]) (rest := []) ⟨hx, hb, hml, hown, hts⟩ (c_E_within l dC dI p3 1 64) (va_cwS 3 hts (er_gS k_140 k_141 k_18 k_142) rfl rfl rfl (by decide +kernel) ⟨Nat.le_of_ble_eq_true rfl, Nat.le_of_ble_eq_true rfl⟩) ⟨PP.blind, PP.at hN hKc hPc⟩ rfl rfl hl.1 rfl (lv_room (Nat.le_of_ble_eq_true rfl)) d_E_window_47 ⟨Nat.zero_le _, Nat.zero_le _⟩).run (fun r_7 hr_7 => ?_)
        obtain rfl : er_b (er_win p3 1 64) = r_7 := Eq.symm hr_7
        refine lv_if_ne (tgt := 63) hx hb d_E_window_50 (by decide) (fun c_8 => ?_) (fun c_8 => ?_)
        · have c_8 := er_b_n.mp c_8
          refine lv_aload_n hx hb d_E_window_63 rfl (lv_at hl 0 rfl) ?_
          refine lv_iload_n hx hb d_E_window_64 rfl (lv_at hl 1 rfl) ?_
          refine va_put (D := (dC, dI)) (ci := 1) (v := .int p0) (ty := .int) (C := R_E) (T := F_E) (N := 12) hx hb hts i_E t_E t_E_ok n_E hown hK hP hD hS 0 rfl rfl 4 (by decide) (hts _ k_76) (fun _ h9 => h9) rfl (by decide +kernel) rfl rfl (Nat.le_of_ble_eq_true rfl) d_E_window_65 (fun H locs hP hD hS => ?_)
          have hP : va_P (dC, dI) classes [(h0, .inr (1, [.ref h1, .ref h2, .ref h3, .long ar, .int p0, .int wy, .int ww, .int wh, .int wk, .int on, .int lx, .int ly]))] H := hP
          have hD : va_D A [(h0, .inr (1, [.ref h1, .ref h2, .ref h3, .long ar, .int p0, .int wy, .int ww, .int wh, .int wk, .int on, .int lx, .int ly]))] := hD
          refine lv_aload_n hx hb d_E_window_68 rfl (lv_at hl 0 rfl) ?_
          refine lv_iload_n hx hb d_E_window_69 rfl (lv_at hl 2 rfl) ?_
          refine va_put (D := (dC, dI)) (ci := 1) (v := .int p1) (ty := .int) (C := R_E) (T := F_E) (N := 12) hx hb hts i_E t_E t_E_ok n_E hown hK hP hD hS 0 rfl rfl 5 (by decide) (hts _ k_77) (fun _ h9 => h9) rfl (by decide +kernel) rfl rfl (Nat.le_of_ble_eq_true rfl) d_E_window_70 (fun H locs hP hD hS => ?_)
          have hP : va_P (dC, dI) classes [(h0, .inr (1, [.ref h1, .ref h2, .ref h3, .long ar, .int p0, .int p1, .int ww, .int wh, .int wk, .int on, .int lx, .int ly]))] H := hP
          have hD : va_D A [(h0, .inr (1, [.ref h1, .ref h2, .ref h3, .long ar, .int p0, .int p1, .int ww, .int wh, .int wk, .int on, .int lx, .int ly]))] := hD
          refine lv_aload_n hx hb d_E_window_73 rfl (lv_at hl 0 rfl) ?_
          refine lv_iload_n hx hb d_E_window_74 rfl (lv_at hl 3 rfl) ?_
          refine va_put (D := (dC, dI)) (ci := 1) (v := .int p2) (ty := .int) (C := R_E) (T := F_E) (N := 12) hx hb hts i_E t_E t_E_ok n_E hown hK hP hD hS 0 rfl rfl 6 (by decide) (hts _ k_78) (fun _ h9 => h9) rfl (by decide +kernel) rfl rfl (Nat.le_of_ble_eq_true rfl) d_E_window_75 (fun H locs hP hD hS => ?_)
          have hP : va_P (dC, dI) classes [(h0, .inr (1, [.ref h1, .ref h2, .ref h3, .long ar, .int p0, .int p1, .int p2, .int wh, .int wk, .int on, .int lx, .int ly]))] H := hP
          have hD : va_D A [(h0, .inr (1, [.ref h1, .ref h2, .ref h3, .long ar, .int p0, .int p1, .int p2, .int wh, .int wk, .int on, .int lx, .int ly]))] := hD
          refine lv_aload_n hx hb d_E_window_78 rfl (lv_at hl 0 rfl) ?_
          refine lv_iload hx hb d_E_window_79 (lv_at hl 4 rfl) ?_
          refine va_put (D := (dC, dI)) (ci := 1) (v := .int p3) (ty := .int) (C := R_E) (T := F_E) (N := 12) hx hb hts i_E t_E t_E_ok n_E hown hK hP hD hS 0 rfl rfl 7 (by decide) (hts _ k_79) (fun _ h9 => h9) rfl (by decide +kernel) rfl rfl (Nat.le_of_ble_eq_true rfl) d_E_window_81 (fun H locs hP hD hS => ?_)
          have hP : va_P (dC, dI) classes [(h0, .inr (1, [.ref h1, .ref h2, .ref h3, .long ar, .int p0, .int p1, .int p2, .int p3, .int wk, .int on, .int lx, .int ly]))] H := hP
          have hD : va_D A [(h0, .inr (1, [.ref h1, .ref h2, .ref h3, .long ar, .int p0, .int p1, .int p2, .int p3, .int wk, .int on, .int lx, .int ly]))] := hD
          refine lv_aload_n hx hb d_E_window_84 rfl (lv_at hl 0 rfl) ?_
          have hPc := hP.sub (ws' := [(h0, .inr (1, [.ref h1, .ref h2, .ref h3, .long ar, .int p0, .int p1, .int p2, .int p3, .int wk, .int on, .int lx, .int ly]))]) [0] rfl
          have hDc := hD.sub (ws' := [(h0, .inr (1, [.ref h1, .ref h2, .ref h3, .long ar, .int p0, .int p1, .int p2, .int p3, .int wk, .int on, .int lx, .int ly]))]) [0] (by decide) rfl
          have hKc := hK.sub (tys' := []) [] rfl
          have hFc := va_free (wc := [(h0, .inr (1, [.ref h1, .ref h2, .ref h3, .long ar, .int p0, .int p1, .int p2, .int p3, .int wk, .int on, .int lx, .int ly]))]) hD hS hA [0] rfl
          refine va_callv (va_runV (As := []) (rest := []) ⟨hx, hb, hml, hown, hts⟩ (c_E_endWalk l dC dI h0 h1 h2 h3 ar p0 p1 p2 p3 wk on lx ly H.size) (cwV 0 hts (er_gV k_208 k_209 k_7 k_18 k_210) rfl rfl rfl (by decide +kernel) ⟨Nat.le_of_ble_eq_true rfl, Nat.le_of_ble_eq_true rfl⟩) ⟨PI.blind, va_recv hKc hPc (ci := 1) (q0 := 0) rfl rfl, PI.at hN hKc hPc hDc⟩ rfl rfl hl.1 rfl (lv_room (Nat.le_of_ble_eq_true rfl)) d_E_window_85 ⟨Nat.le_of_ble_eq_true rfl, Nat.le_of_ble_eq_true rfl⟩) hS (fun q _ h => hFc q h) hFc (fun u t H1 locs ht hvm hw hB hz1 hk1 hS => ?_)
          obtain ⟨hP1, hK1, hD1⟩ := hB
          rw [ht] at hP1
          have hK1 := va_K.moved hvm.symm hK1
          obtain ⟨hP, hD⟩ := va_join (wr := []) (w1 := [(h0, .inr (1, [.ref h1, .ref h2, .ref h3, .long ar, .int p0, .int p1, .int p2, .int p3, .int 0, .int 0, .int lx, .int ly]))]) hP hD [0] [] rfl rfl (by decide) (by decide) hk1 hFc hP1 hD1
          have hK := (hK.sub (tys' := []) [] rfl).app hK1
          generalize H1 = H at hP hS ⊢
          have hP : va_P (dC, dI) classes [(h0, .inr (1, [.ref h1, .ref h2, .ref h3, .long ar, .int p0, .int p1, .int p2, .int p3, .int 0, .int 0, .int lx, .int ly]))] H := hP
          have hD : va_D A [(h0, .inr (1, [.ref h1, .ref h2, .ref h3, .long ar, .int p0, .int p1, .int p2, .int p3, .int 0, .int 0, .int lx, .int ly]))] := hD
          have hK : va_K (dC, dI) classes [] s := hK
          have hP9 := hP.sub (ws' := [(h0, .inr (1, [.ref h1, .ref h2, .ref h3, .long ar, .int p0, .int p1, .int p2, .int p3, .int 0, .int 0, .int lx, .int ly]))]) [0] rfl
          have hD9 := hD.sub (ws' := [(h0, .inr (1, [.ref h1, .ref h2, .ref h3, .long ar, .int p0, .int p1, .int p2, .int p3, .int 0, .int 0, .int lx, .int ly]))]) [0] (by decide) rfl
          have hK9 := hK.sub (tys' := []) [] rfl
          exact W.vret hx hb hr (fun u9 ht hW => ⟨⟨(), rfl, trivial, ⟨by rw [ht]; exact hP9, va_K.moved hW.alike hK9, hD9⟩⟩, hS.F ht⟩) hS.2.2 d_E_window_88
        · have c_8 := er_b_0.mp c_8
          exact absurd c_8 (by simp_all)
    · have c_4 := er_b_0.mp c_4
      exact absurd c_4 (by simp_all)

set_option maxHeartbeats 1000000 in
set_option maxRecDepth 100000 in
theorem c_E_corner0 (l : Launch) (dC : Nat → ClassId) (dI : Nat → Nat → Nat) (h0 h1 h2 h3 v0 v1 v2 : Nat) (X Y D Q : Nat → Int32) (wx wy ww wh wk on lx ly : Int32) (p1 p2 p3 p4 : Int32) (u1 : er_win p1 (-16384) 16383 = true) (u2 : er_win p2 (-16384) 16383 = true) (u3 : er_win p3 0 16777215 = true) (u4 : er_win p4 1 8388608 = true) (sz : Nat) : Met l y_E_corner w_E_corner ({ frames := 6, cells := 0, slots := 0, locals := 82 }) (va_Pc [.ref h0, .int 0, .int p1, .int p2, .int p3, .int p4] (PI dC dI [] [(h0, .inr (1, [.ref h1, .ref h2, .ref h3, .long (er_ar X Y), .int wx, .int wy, .int ww, .int wh, .int wk, .int on, .int lx, .int ly])), (h1, .inr (0, [.int (X 0), .int (Y 0), .int (D 0), .int (Q 0), .ref v0, .int (er_ex X Y 0), .int (er_ey X Y 0), .int (er_ea X Y 0), .int (er_ed X Y 0), .int (er_lw (er_ea X Y 0) (er_ed X Y 0))])), (h2, .inr (0, [.int (X 1), .int (Y 1), .int (D 1), .int (Q 1), .ref v1, .int (er_ex X Y 1), .int (er_ey X Y 1), .int (er_ea X Y 1), .int (er_ed X Y 1), .int (er_lw (er_ea X Y 1) (er_ed X Y 1))])), (h3, .inr (0, [.int (X 2), .int (Y 2), .int (D 2), .int (Q 2), .ref v2, .int (er_ex X Y 2), .int (er_ey X Y 2), .int (er_ea X Y 2), .int (er_ed X Y 2), .int (er_lw (er_ea X Y 2) (er_ed X Y 2))]))] sz)) (va_Qv (fun (u : Unit) => True) (fun (u : Unit) t => EI dC dI [] [(h0, .inr (1, [.ref h1, .ref h2, .ref h3, .long (er_ar (upd X 0 p1) (upd Y 0 p2)), .int wx, .int wy, .int ww, .int wh, .int 0, .int 0, .int lx, .int ly])), (h1, .inr (0, [.int ((upd X 0 p1) 0), .int ((upd Y 0 p2) 0), .int ((upd D 0 p3) 0), .int ((upd Q 0 p4) 0), .ref v0, .int (er_ex (upd X 0 p1) (upd Y 0 p2) 0), .int (er_ey (upd X 0 p1) (upd Y 0 p2) 0), .int (er_ea (upd X 0 p1) (upd Y 0 p2) 0), .int (er_ed (upd X 0 p1) (upd Y 0 p2) 0), .int (er_lw (er_ea (upd X 0 p1) (upd Y 0 p2) 0) (er_ed (upd X 0 p1) (upd Y 0 p2) 0))])), (h2, .inr (0, [.int ((upd X 0 p1) 1), .int ((upd Y 0 p2) 1), .int ((upd D 0 p3) 1), .int ((upd Q 0 p4) 1), .ref v1, .int (er_ex (upd X 0 p1) (upd Y 0 p2) 1), .int (er_ey (upd X 0 p1) (upd Y 0 p2) 1), .int (er_ea (upd X 0 p1) (upd Y 0 p2) 1), .int (er_ed (upd X 0 p1) (upd Y 0 p2) 1), .int (er_lw (er_ea (upd X 0 p1) (upd Y 0 p2) 1) (er_ed (upd X 0 p1) (upd Y 0 p2) 1))])), (h3, .inr (0, [.int ((upd X 0 p1) 2), .int ((upd Y 0 p2) 2), .int ((upd D 0 p3) 2), .int ((upd Q 0 p4) 2), .ref v2, .int (er_ex (upd X 0 p1) (upd Y 0 p2) 2), .int (er_ey (upd X 0 p1) (upd Y 0 p2) 2), .int (er_ea (upd X 0 p1) (upd Y 0 p2) 2), .int (er_ed (upd X 0 p1) (upd Y 0 p2) 2), .int (er_lw (er_ea (upd X 0 p1) (upd Y 0 p2) 2) (er_ed (upd X 0 p1) (upd Y 0 p2) 2))]))] (va_A [(h0, .inr (1, [.ref h1, .ref h2, .ref h3, .long (er_ar X Y), .int wx, .int wy, .int ww, .int wh, .int wk, .int on, .int lx, .int ly])), (h1, .inr (0, [.int (X 0), .int (Y 0), .int (D 0), .int (Q 0), .ref v0, .int (er_ex X Y 0), .int (er_ey X Y 0), .int (er_ea X Y 0), .int (er_ed X Y 0), .int (er_lw (er_ea X Y 0) (er_ed X Y 0))])), (h2, .inr (0, [.int (X 1), .int (Y 1), .int (D 1), .int (Q 1), .ref v1, .int (er_ex X Y 1), .int (er_ey X Y 1), .int (er_ea X Y 1), .int (er_ed X Y 1), .int (er_lw (er_ea X Y 1) (er_ed X Y 1))])), (h3, .inr (0, [.int (X 2), .int (Y 2), .int (D 2), .int (Q 2), .ref v2, .int (er_ex X Y 2), .int (er_ey X Y 2), .int (er_ea X Y 2), .int (er_ed X Y 2), .int (er_lw (er_ea X Y 2) (er_ed X Y 2))]))] sz) t) (va_A [(h0, .inr (1, [.ref h1, .ref h2, .ref h3, .long (er_ar X Y), .int wx, .int wy, .int ww, .int wh, .int wk, .int on, .int lx, .int ly])), (h1, .inr (0, [.int (X 0), .int (Y 0), .int (D 0), .int (Q 0), .ref v0, .int (er_ex X Y 0), .int (er_ey X Y 0), .int (er_ea X Y 0), .int (er_ed X Y 0), .int (er_lw (er_ea X Y 0) (er_ed X Y 0))])), (h2, .inr (0, [.int (X 1), .int (Y 1), .int (D 1), .int (Q 1), .ref v1, .int (er_ex X Y 1), .int (er_ey X Y 1), .int (er_ea X Y 1), .int (er_ed X Y 1), .int (er_lw (er_ea X Y 1) (er_ed X Y 1))])), (h3, .inr (0, [.int (X 2), .int (Y 2), .int (D 2), .int (Q 2), .ref v2, .int (er_ex X Y 2), .int (er_ey X Y 2), .int (er_ea X Y 2), .int (er_ed X Y 2), .int (er_lw (er_ea X Y 2) (er_ed X Y 2))]))] sz)) 0 0 (va_A [(h0, .inr (1, [.ref h1, .ref h2, .ref h3, .long (er_ar X Y), .int wx, .int wy, .int ww, .int wh, .int wk, .int on, .int lx, .int ly])), (h1, .inr (0, [.int (X 0), .int (Y 0), .int (D 0), .int (Q 0), .ref v0, .int (er_ex X Y 0), .int (er_ey X Y 0), .int (er_ea X Y 0), .int (er_ed X Y 0), .int (er_lw (er_ea X Y 0) (er_ed X Y 0))])), (h2, .inr (0, [.int (X 1), .int (Y 1), .int (D 1), .int (Q 1), .ref v1, .int (er_ex X Y 1), .int (er_ey X Y 1), .int (er_ea X Y 1), .int (er_ed X Y 1), .int (er_lw (er_ea X Y 1) (er_ed X Y 1))])), (h3, .inr (0, [.int (X 2), .int (Y 2), .int (D 2), .int (Q 2), .ref v2, .int (er_ex X Y 2), .int (er_ey X Y 2), .int (er_ea X Y 2), .int (er_ed X Y 2), .int (er_lw (er_ea X Y 2) (er_ed X Y 2))]))] sz) := by
  refine Met.ofW (cc := b_E_corner) (maxL := 7) (ret := none) (by decide +kernel) rfl ?_
  intro p e s m args below meth c s₁ B hml hv
  obtain ⟨rfl, hsz, hN, hK, hP, hD0⟩ := hv
  have hx := B.exec
  have hb := B.bytes
  have hr := B.returns
  have hts := er_hts (atoms_spec (ws := w_E_corner) B.pre)
  have hown : s.vm.findClass R_E = some m.cls := findClass_of_methodNamed B.named
  have hlocks := B.notSynchronized
  subst hsz
  have hD := hD0.self (sz := s.heap.size)
  generalize hAe : va_A [(h0, .inr (1, [.ref h1, .ref h2, .ref h3, .long (er_ar X Y), .int wx, .int wy, .int ww, .int wh, .int wk, .int on, .int lx, .int ly])), (h1, .inr (0, [.int (X 0), .int (Y 0), .int (D 0), .int (Q 0), .ref v0, .int (er_ex X Y 0), .int (er_ey X Y 0), .int (er_ea X Y 0), .int (er_ed X Y 0), .int (er_lw (er_ea X Y 0) (er_ed X Y 0))])), (h2, .inr (0, [.int (X 1), .int (Y 1), .int (D 1), .int (Q 1), .ref v1, .int (er_ex X Y 1), .int (er_ey X Y 1), .int (er_ea X Y 1), .int (er_ed X Y 1), .int (er_lw (er_ea X Y 1) (er_ed X Y 1))])), (h3, .inr (0, [.int (X 2), .int (Y 2), .int (D 2), .int (Q 2), .ref v2, .int (er_ex X Y 2), .int (er_ey X Y 2), .int (er_ea X Y 2), .int (er_ed X Y 2), .int (er_lw (er_ea X Y 2) (er_ed X Y 2))]))] s.heap.size = A at hD ⊢
  have hA : ∀ q : Nat, s.heap.size ≤ q → A q := fun q h => by rw [← hAe]; exact Or.inr h
  have hS : va_S A s.heap s.heap [] := va_S.rf
  have hP : va_P (dC, dI) classes [(h0, .inr (1, [.ref h1, .ref h2, .ref h3, .long (er_ar X Y), .int wx, .int wy, .int ww, .int wh, .int wk, .int on, .int lx, .int ly])), (h1, .inr (0, [.int (X 0), .int (Y 0), .int (D 0), .int (Q 0), .ref v0, .int (er_ex X Y 0), .int (er_ey X Y 0), .int (er_ea X Y 0), .int (er_ed X Y 0), .int (er_lw (er_ea X Y 0) (er_ed X Y 0))])), (h2, .inr (0, [.int (X 1), .int (Y 1), .int (D 1), .int (Q 1), .ref v1, .int (er_ex X Y 1), .int (er_ey X Y 1), .int (er_ea X Y 1), .int (er_ed X Y 1), .int (er_lw (er_ea X Y 1) (er_ed X Y 1))])), (h3, .inr (0, [.int (X 2), .int (Y 2), .int (D 2), .int (Q 2), .ref v2, .int (er_ex X Y 2), .int (er_ey X Y 2), .int (er_ea X Y 2), .int (er_ed X Y 2), .int (er_lw (er_ea X Y 2) (er_ed X Y 2))]))] s.heap := hP
  have hl := lv_entry ([.ref h0, .int 0, .int p1, .int p2, .int p3, .int p4]) (n := 7) (Nat.le_of_ble_eq_true rfl)
  rw [lg_entry_eq]
  generalize (lg_sl ([.ref h0, .int 0, .int p1, .int p2, .int p3, .int p4]) ++ List.replicate (7 - (lg_sl ([.ref h0, .int 0, .int p1, .int p2, .int p3, .int p4])).length) Slot.unset).toArray = ls at hl ⊢
  have hl : lv_has ls 7 [(0, .ref h0), (1, .int 0), (2, .int p1), (3, .int p2), (4, .int p3), (5, .int p4)] := hl
  have u0 : er_win 0 0 2 = true := by decide
  refine lv_iload_n hx hb d_E_corner_0 rfl (lv_at hl 1 rfl) ?_
  have hPc := hP.sub (ws' := []) [] rfl
  have hKc := hK.sub (tys' := []) [] rfl
  refine vp_callSi (va_runS (As := [.int 0]) (rest := []) ⟨hx, hb, hml, hown, hts⟩ (c_E_isCorner l dC dI 0) (va_cwS 1 hts (er_gS k_137 k_138 k_18 k_139) rfl rfl rfl (by decide +kernel) ⟨Nat.le_of_ble_eq_true rfl, Nat.le_of_ble_eq_true rfl⟩) ⟨PP.blind, PP.at hN hKc hPc⟩ rfl rfl hl.1 rfl (lv_room (Nat.le_of_ble_eq_true rfl)) d_E_corner_1 ⟨Nat.zero_le _, Nat.zero_le _⟩).run (fun r_1 hr_1 => ?_)
  obtain rfl : er_b (er_win 0 0 2) = r_1 := Eq.symm hr_1
  refine lv_if_ne (tgt := 17) hx hb d_E_corner_4 (by decide) (fun c_2 => ?_) (fun c_2 => ?_)
  · have c_2 := er_b_n.mp c_2
    refine lv_iload_n hx hb d_E_corner_17 rfl (lv_at hl 2 rfl) ?_
    refine lv_sipush (v := (-16384)) hx hb d_E_corner_18 (by decide) ?_
    refine lv_sipush (v := 16383) hx hb d_E_corner_21 (by decide) ?_
    have hPc := hP.sub (ws' := []) [] rfl
    have hKc := hK.sub (tys' := []) [] rfl
    refine vp_callSi (va_runS (As := [.int p1, .int (-16384), .int 16383]) (rest := []) ⟨hx, hb, hml, hown, hts⟩ (c_E_within l dC dI p1 (-16384) 16383) (va_cwS 3 hts (er_gS k_140 k_141 k_18 k_142) rfl rfl rfl (by decide +kernel) ⟨Nat.le_of_ble_eq_true rfl, Nat.le_of_ble_eq_true rfl⟩) ⟨PP.blind, PP.at hN hKc hPc⟩ rfl rfl hl.1 rfl (lv_room (Nat.le_of_ble_eq_true rfl)) d_E_corner_24 ⟨Nat.zero_le _, Nat.zero_le _⟩).run (fun r_3 hr_3 => ?_)
    obtain rfl : er_b (er_win p1 (-16384) 16383) = r_3 := Eq.symm hr_3
    refine lv_if_eq (tgt := 43) hx hb d_E_corner_27 (by decide) (fun c_4 => ?_) (fun c_4 => ?_)
    · have c_4 := er_b_0.mp c_4
      exact absurd c_4 (by simp_all)
    · have c_4 := er_b_n.mp c_4
      refine lv_iload_n hx hb d_E_corner_30 rfl (lv_at hl 3 rfl) ?_
      refine lv_sipush (v := (-16384)) hx hb d_E_corner_31 (by decide) ?_
      refine lv_sipush (v := 16383) hx hb d_E_corner_34 (by decide) ?_
      have hPc := hP.sub (ws' := []) [] rfl
      have hKc := hK.sub (tys' := []) [] rfl
      refine vp_callSi (va_runS (As := [.int p2, .int (-16384), .int 16383]) (rest := []) ⟨hx, hb, hml, hown, hts⟩ (c_E_within l dC dI p2 (-16384) 16383) (va_cwS 3 hts (er_gS k_140 k_141 k_18 k_142) rfl rfl rfl (by decide +kernel) ⟨Nat.le_of_ble_eq_true rfl, Nat.le_of_ble_eq_true rfl⟩) ⟨PP.blind, PP.at hN hKc hPc⟩ rfl rfl hl.1 rfl (lv_room (Nat.le_of_ble_eq_true rfl)) d_E_corner_37 ⟨Nat.zero_le _, Nat.zero_le _⟩).run (fun r_5 hr_5 => ?_)
      obtain rfl : er_b (er_win p2 (-16384) 16383) = r_5 := Eq.symm hr_5
      refine lv_if_ne (tgt := 53) hx hb d_E_corner_40 (by decide) (fun c_6 => ?_) (fun c_6 => ?_)
      · have c_6 := er_b_n.mp c_6
        refine lv_iload hx hb d_E_corner_53 (lv_at hl 4 rfl) ?_
        refine lv_iconst (v := 0) hx hb d_E_corner_55 (by decide) ?_
        refine lv_ldc (v := 16777215) hx hb hown (hts (.constant R_E 69 16777215) (by decide +kernel)) d_E_corner_56 ?_
        have hPc := hP.sub (ws' := []) [] rfl
        have hKc := hK.sub (tys' := []) [] rfl
        refine vp_callSi (va_runS (As := [.int p3, .int 0, .int 16777215]) (rest := []) ⟨hx, hb, hml, hown, hts⟩ (c_E_within l dC dI p3 0 16777215) (va_cwS 3 hts (er_gS k_140 k_141 k_18 k_142) rfl rfl rfl (by decide +kernel) ⟨Nat.le_of_ble_eq_true rfl, Nat.le_of_ble_eq_true rfl⟩) ⟨PP.blind, PP.at hN hKc hPc⟩ rfl rfl hl.1 rfl (lv_room (Nat.le_of_ble_eq_true rfl)) d_E_corner_58 ⟨Nat.zero_le _, Nat.zero_le _⟩).run (fun r_7 hr_7 => ?_)
        obtain rfl : er_b (er_win p3 0 16777215) = r_7 := Eq.symm hr_7
        refine lv_if_ne (tgt := 74) hx hb d_E_corner_61 (by decide) (fun c_8 => ?_) (fun c_8 => ?_)
        · have c_8 := er_b_n.mp c_8
          refine lv_iload hx hb d_E_corner_74 (lv_at hl 5 rfl) ?_
          refine lv_iconst (v := 1) hx hb d_E_corner_76 (by decide) ?_
          refine lv_ldc (v := 8388608) hx hb hown (hts (.constant R_E 72 8388608) (by decide +kernel)) d_E_corner_77 ?_
          have hPc := hP.sub (ws' := []) [] rfl
          have hKc := hK.sub (tys' := []) [] rfl
          refine vp_callSi (va_runS (As := [.int p4, .int 1, .int 8388608]) (rest := []) ⟨hx, hb, hml, hown, hts⟩ (c_E_within l dC dI p4 1 8388608) (va_cwS 3 hts (er_gS k_140 k_141 k_18 k_142) rfl rfl rfl (by decide +kernel) ⟨Nat.le_of_ble_eq_true rfl, Nat.le_of_ble_eq_true rfl⟩) ⟨PP.blind, PP.at hN hKc hPc⟩ rfl rfl hl.1 rfl (lv_room (Nat.le_of_ble_eq_true rfl)) d_E_corner_79 ⟨Nat.zero_le _, Nat.zero_le _⟩).run (fun r_9 hr_9 => ?_)
          obtain rfl : er_b (er_win p4 1 8388608) = r_9 := Eq.symm hr_9
          refine lv_if_ne (tgt := 95) hx hb d_E_corner_82 (by decide) (fun c_10 => ?_) (fun c_10 => ?_)
          · have c_10 := er_b_n.mp c_10
            refine lv_aload_n hx hb d_E_corner_95 rfl (lv_at hl 0 rfl) ?_
            refine lv_iload_n hx hb d_E_corner_96 rfl (lv_at hl 1 rfl) ?_
            have hPc := hP.sub (ws' := [(h0, .inr (1, [.ref h1, .ref h2, .ref h3, .long (er_ar X Y), .int wx, .int wy, .int ww, .int wh, .int wk, .int on, .int lx, .int ly]))]) [0] rfl
            have hKc := hK.sub (tys' := []) [] rfl
            refine va_csr (va_runV (As := [.int 0]) (rest := []) ⟨hx, hb, hml, hown, hts⟩ (c_E_cornerOf0 l dC dI h0 h1 h2 h3 (er_ar X Y) wx wy ww wh wk on lx ly) (cwV 1 hts (er_gV k_200 k_201 k_4 k_18 k_202) rfl rfl rfl (by decide +kernel) ⟨Nat.le_of_ble_eq_true rfl, Nat.le_of_ble_eq_true rfl⟩) ⟨PP.blind, va_recv hKc hPc (ci := 1) (q0 := 0) rfl rfl, PP.at hN hKc hPc⟩ rfl rfl hl.1 rfl (lv_room (Nat.le_of_ble_eq_true rfl)) d_E_corner_97 ⟨Nat.zero_le _, Nat.zero_le _⟩).run (fun r_11 hr_11 => ?_)
            obtain rfl : h1 = r_11 := Eq.symm hr_11
            refine lv_astore (lv' := [(6, .ref h1), (0, .ref h0), (1, .int 0), (2, .int p1), (3, .int p2), (4, .int p3), (5, .int p4)]) hx hb d_E_corner_100 hl (by decide) rfl (fun ls hl => ?_)
            refine lv_aload hx hb d_E_corner_102 (lv_at hl 0 rfl) ?_
            refine lv_iload_n hx hb d_E_corner_104 rfl (lv_at hl 3 rfl) ?_
            refine va_putN (D := (dC, dI)) (ci := 0) (v := .int p1) (ty := .int) (C := R_C) (T := F_C) (N := 10) hx hb hts i_C t_C t_C_ok n_C hown hK hP hD hS 1 rfl rfl 0 (by decide) (va_Nw.use rfl (hN _ kn_1)) (fun _ h9 => h9) rfl (by decide +kernel) rfl rfl (Nat.le_of_ble_eq_true rfl) d_E_corner_105 (fun H locs hP hD hS => ?_)
            have hP : va_P (dC, dI) classes [(h0, .inr (1, [.ref h1, .ref h2, .ref h3, .long (er_ar X Y), .int wx, .int wy, .int ww, .int wh, .int wk, .int on, .int lx, .int ly])), (h1, .inr (0, [.int p1, .int (Y 0), .int (D 0), .int (Q 0), .ref v0, .int (er_ex X Y 0), .int (er_ey X Y 0), .int (er_ea X Y 0), .int (er_ed X Y 0), .int (er_lw (er_ea X Y 0) (er_ed X Y 0))])), (h2, .inr (0, [.int (X 1), .int (Y 1), .int (D 1), .int (Q 1), .ref v1, .int (er_ex X Y 1), .int (er_ey X Y 1), .int (er_ea X Y 1), .int (er_ed X Y 1), .int (er_lw (er_ea X Y 1) (er_ed X Y 1))])), (h3, .inr (0, [.int (X 2), .int (Y 2), .int (D 2), .int (Q 2), .ref v2, .int (er_ex X Y 2), .int (er_ey X Y 2), .int (er_ea X Y 2), .int (er_ed X Y 2), .int (er_lw (er_ea X Y 2) (er_ed X Y 2))]))] H := hP
            have hD : va_D A [(h0, .inr (1, [.ref h1, .ref h2, .ref h3, .long (er_ar X Y), .int wx, .int wy, .int ww, .int wh, .int wk, .int on, .int lx, .int ly])), (h1, .inr (0, [.int p1, .int (Y 0), .int (D 0), .int (Q 0), .ref v0, .int (er_ex X Y 0), .int (er_ey X Y 0), .int (er_ea X Y 0), .int (er_ed X Y 0), .int (er_lw (er_ea X Y 0) (er_ed X Y 0))])), (h2, .inr (0, [.int (X 1), .int (Y 1), .int (D 1), .int (Q 1), .ref v1, .int (er_ex X Y 1), .int (er_ey X Y 1), .int (er_ea X Y 1), .int (er_ed X Y 1), .int (er_lw (er_ea X Y 1) (er_ed X Y 1))])), (h3, .inr (0, [.int (X 2), .int (Y 2), .int (D 2), .int (Q 2), .ref v2, .int (er_ex X Y 2), .int (er_ey X Y 2), .int (er_ea X Y 2), .int (er_ed X Y 2), .int (er_lw (er_ea X Y 2) (er_ed X Y 2))]))] := hD
            refine lv_aload hx hb d_E_corner_108 (lv_at hl 0 rfl) ?_
            refine lv_iload_n hx hb d_E_corner_110 rfl (lv_at hl 4 rfl) ?_
            refine va_putN (D := (dC, dI)) (ci := 0) (v := .int p2) (ty := .int) (C := R_C) (T := F_C) (N := 10) hx hb hts i_C t_C t_C_ok n_C hown hK hP hD hS 1 rfl rfl 1 (by decide) (va_Nw.use rfl (hN _ kn_2)) (fun _ h9 => h9) rfl (by decide +kernel) rfl rfl (Nat.le_of_ble_eq_true rfl) d_E_corner_111 (fun H locs hP hD hS => ?_)
            have hP : va_P (dC, dI) classes [(h0, .inr (1, [.ref h1, .ref h2, .ref h3, .long (er_ar X Y), .int wx, .int wy, .int ww, .int wh, .int wk, .int on, .int lx, .int ly])), (h1, .inr (0, [.int p1, .int p2, .int (D 0), .int (Q 0), .ref v0, .int (er_ex X Y 0), .int (er_ey X Y 0), .int (er_ea X Y 0), .int (er_ed X Y 0), .int (er_lw (er_ea X Y 0) (er_ed X Y 0))])), (h2, .inr (0, [.int (X 1), .int (Y 1), .int (D 1), .int (Q 1), .ref v1, .int (er_ex X Y 1), .int (er_ey X Y 1), .int (er_ea X Y 1), .int (er_ed X Y 1), .int (er_lw (er_ea X Y 1) (er_ed X Y 1))])), (h3, .inr (0, [.int (X 2), .int (Y 2), .int (D 2), .int (Q 2), .ref v2, .int (er_ex X Y 2), .int (er_ey X Y 2), .int (er_ea X Y 2), .int (er_ed X Y 2), .int (er_lw (er_ea X Y 2) (er_ed X Y 2))]))] H := hP
            have hD : va_D A [(h0, .inr (1, [.ref h1, .ref h2, .ref h3, .long (er_ar X Y), .int wx, .int wy, .int ww, .int wh, .int wk, .int on, .int lx, .int ly])), (h1, .inr (0, [.int p1, .int p2, .int (D 0), .int (Q 0), .ref v0, .int (er_ex X Y 0), .int (er_ey X Y 0), .int (er_ea X Y 0), .int (er_ed X Y 0), .int (er_lw (er_ea X Y 0) (er_ed X Y 0))])), (h2, .inr (0, [.int (X 1), .int (Y 1), .int (D 1), .int (Q 1), .ref v1, .int (er_ex X Y 1), .int (er_ey X Y 1), .int (er_ea X Y 1), .int (er_ed X Y 1), .int (er_lw (er_ea X Y 1) (er_ed X Y 1))])), (h3, .inr (0, [.int (X 2), .int (Y 2), .int (D 2), .int (Q 2), .ref v2, .int (er_ex X Y 2), .int (er_ey X Y 2), .int (er_ea X Y 2), .int (er_ed X Y 2), .int (er_lw (er_ea X Y 2) (er_ed X Y 2))]))] := hD
            refine lv_aload hx hb d_E_corner_114 (lv_at hl 0 rfl) ?_
            refine lv_iload hx hb d_E_corner_116 (lv_at hl 5 rfl) ?_
            refine va_putN (D := (dC, dI)) (ci := 0) (v := .int p3) (ty := .int) (C := R_C) (T := F_C) (N := 10) hx hb hts i_C t_C t_C_ok n_C hown hK hP hD hS 1 rfl rfl 2 (by decide) (va_Nw.use rfl (hN _ kn_3)) (fun _ h9 => h9) rfl (by decide +kernel) rfl rfl (Nat.le_of_ble_eq_true rfl) d_E_corner_118 (fun H locs hP hD hS => ?_)
            have hP : va_P (dC, dI) classes [(h0, .inr (1, [.ref h1, .ref h2, .ref h3, .long (er_ar X Y), .int wx, .int wy, .int ww, .int wh, .int wk, .int on, .int lx, .int ly])), (h1, .inr (0, [.int p1, .int p2, .int p3, .int (Q 0), .ref v0, .int (er_ex X Y 0), .int (er_ey X Y 0), .int (er_ea X Y 0), .int (er_ed X Y 0), .int (er_lw (er_ea X Y 0) (er_ed X Y 0))])), (h2, .inr (0, [.int (X 1), .int (Y 1), .int (D 1), .int (Q 1), .ref v1, .int (er_ex X Y 1), .int (er_ey X Y 1), .int (er_ea X Y 1), .int (er_ed X Y 1), .int (er_lw (er_ea X Y 1) (er_ed X Y 1))])), (h3, .inr (0, [.int (X 2), .int (Y 2), .int (D 2), .int (Q 2), .ref v2, .int (er_ex X Y 2), .int (er_ey X Y 2), .int (er_ea X Y 2), .int (er_ed X Y 2), .int (er_lw (er_ea X Y 2) (er_ed X Y 2))]))] H := hP
            have hD : va_D A [(h0, .inr (1, [.ref h1, .ref h2, .ref h3, .long (er_ar X Y), .int wx, .int wy, .int ww, .int wh, .int wk, .int on, .int lx, .int ly])), (h1, .inr (0, [.int p1, .int p2, .int p3, .int (Q 0), .ref v0, .int (er_ex X Y 0), .int (er_ey X Y 0), .int (er_ea X Y 0), .int (er_ed X Y 0), .int (er_lw (er_ea X Y 0) (er_ed X Y 0))])), (h2, .inr (0, [.int (X 1), .int (Y 1), .int (D 1), .int (Q 1), .ref v1, .int (er_ex X Y 1), .int (er_ey X Y 1), .int (er_ea X Y 1), .int (er_ed X Y 1), .int (er_lw (er_ea X Y 1) (er_ed X Y 1))])), (h3, .inr (0, [.int (X 2), .int (Y 2), .int (D 2), .int (Q 2), .ref v2, .int (er_ex X Y 2), .int (er_ey X Y 2), .int (er_ea X Y 2), .int (er_ed X Y 2), .int (er_lw (er_ea X Y 2) (er_ed X Y 2))]))] := hD
            refine lv_aload hx hb d_E_corner_121 (lv_at hl 0 rfl) ?_
            refine lv_iload hx hb d_E_corner_123 (lv_at hl 6 rfl) ?_
            refine va_putN (D := (dC, dI)) (ci := 0) (v := .int p4) (ty := .int) (C := R_C) (T := F_C) (N := 10) hx hb hts i_C t_C t_C_ok n_C hown hK hP hD hS 1 rfl rfl 3 (by decide) (va_Nw.use rfl (hN _ kn_4)) (fun _ h9 => h9) rfl (by decide +kernel) rfl rfl (Nat.le_of_ble_eq_true rfl) d_E_corner_125 (fun H locs hP hD hS => ?_)
            have hP : va_P (dC, dI) classes [(h0, .inr (1, [.ref h1, .ref h2, .ref h3, .long (er_ar X Y), .int wx, .int wy, .int ww, .int wh, .int wk, .int on, .int lx, .int ly])), (h1, .inr (0, [.int p1, .int p2, .int p3, .int p4, .ref v0, .int (er_ex X Y 0), .int (er_ey X Y 0), .int (er_ea X Y 0), .int (er_ed X Y 0), .int (er_lw (er_ea X Y 0) (er_ed X Y 0))])), (h2, .inr (0, [.int (X 1), .int (Y 1), .int (D 1), .int (Q 1), .ref v1, .int (er_ex X Y 1), .int (er_ey X Y 1), .int (er_ea X Y 1), .int (er_ed X Y 1), .int (er_lw (er_ea X Y 1) (er_ed X Y 1))])), (h3, .inr (0, [.int (X 2), .int (Y 2), .int (D 2), .int (Q 2), .ref v2, .int (er_ex X Y 2), .int (er_ey X Y 2), .int (er_ea X Y 2), .int (er_ed X Y 2), .int (er_lw (er_ea X Y 2) (er_ed X Y 2))]))] H := hP
            have hD : va_D A [(h0, .inr (1, [.ref h1, .ref h2, .ref h3, .long (er_ar X Y), .int wx, .int wy, .int ww, .int wh, .int wk, .int on, .int lx, .int ly])), (h1, .inr (0, [.int p1, .int p2, .int p3, .int p4, .ref v0, .int (er_ex X Y 0), .int (er_ey X Y 0), .int (er_ea X Y 0), .int (er_ed X Y 0), .int (er_lw (er_ea X Y 0) (er_ed X Y 0))])), (h2, .inr (0, [.int (X 1), .int (Y 1), .int (D 1), .int (Q 1), .ref v1, .int (er_ex X Y 1), .int (er_ey X Y 1), .int (er_ea X Y 1), .int (er_ed X Y 1), .int (er_lw (er_ea X Y 1) (er_ed X Y 1))])), (h3, .inr (0, [.int (X 2), .int (Y 2), .int (D 2), .int (Q 2), .ref v2, .int (er_ex X Y 2), .int (er_ey X Y 2), .int (er_ea X Y 2), .int (er_ed X Y 2), .int (er_lw (er_ea X Y 2) (er_ed X Y 2))]))] := hD
            have hP : va_P (dC, dI) classes [(h0, .inr (1, [.ref h1, .ref h2, .ref h3, .long (er_ar X Y), .int wx, .int wy, .int ww, .int wh, .int wk, .int on, .int lx, .int ly])), (h1, .inr (0, [.int ((upd X 0 p1) 0), .int ((upd Y 0 p2) 0), .int ((upd D 0 p3) 0), .int ((upd Q 0 p4) 0), .ref v0, .int (er_ex X Y 0), .int (er_ey X Y 0), .int (er_ea X Y 0), .int (er_ed X Y 0), .int (er_lw (er_ea X Y 0) (er_ed X Y 0))])), (h2, .inr (0, [.int ((upd X 0 p1) 1), .int ((upd Y 0 p2) 1), .int ((upd D 0 p3) 1), .int ((upd Q 0 p4) 1), .ref v1, .int (er_ex X Y 1), .int (er_ey X Y 1), .int (er_ea X Y 1), .int (er_ed X Y 1), .int (er_lw (er_ea X Y 1) (er_ed X Y 1))])), (h3, .inr (0, [.int ((upd X 0 p1) 2), .int ((upd Y 0 p2) 2), .int ((upd D 0 p3) 2), .int ((upd Q 0 p4) 2), .ref v2, .int (er_ex X Y 2), .int (er_ey X Y 2), .int (er_ea X Y 2), .int (er_ed X Y 2), .int (er_lw (er_ea X Y 2) (er_ed X Y 2))]))] H := hP
            have hD : va_D A [(h0, .inr (1, [.ref h1, .ref h2, .ref h3, .long (er_ar X Y), .int wx, .int wy, .int ww, .int wh, .int wk, .int on, .int lx, .int ly])), (h1, .inr (0, [.int ((upd X 0 p1) 0), .int ((upd Y 0 p2) 0), .int ((upd D 0 p3) 0), .int ((upd Q 0 p4) 0), .ref v0, .int (er_ex X Y 0), .int (er_ey X Y 0), .int (er_ea X Y 0), .int (er_ed X Y 0), .int (er_lw (er_ea X Y 0) (er_ed X Y 0))])), (h2, .inr (0, [.int ((upd X 0 p1) 1), .int ((upd Y 0 p2) 1), .int ((upd D 0 p3) 1), .int ((upd Q 0 p4) 1), .ref v1, .int (er_ex X Y 1), .int (er_ey X Y 1), .int (er_ea X Y 1), .int (er_ed X Y 1), .int (er_lw (er_ea X Y 1) (er_ed X Y 1))])), (h3, .inr (0, [.int ((upd X 0 p1) 2), .int ((upd Y 0 p2) 2), .int ((upd D 0 p3) 2), .int ((upd Q 0 p4) 2), .ref v2, .int (er_ex X Y 2), .int (er_ey X Y 2), .int (er_ea X Y 2), .int (er_ed X Y 2), .int (er_lw (er_ea X Y 2) (er_ed X Y 2))]))] := hD
            refine lv_aload_n hx hb d_E_corner_128 rfl (lv_at hl 1 rfl) ?_
            have hPc := hP.sub (ws' := [(h0, .inr (1, [.ref h1, .ref h2, .ref h3, .long (er_ar X Y), .int wx, .int wy, .int ww, .int wh, .int wk, .int on, .int lx, .int ly])), (h1, .inr (0, [.int ((upd X 0 p1) 0), .int ((upd Y 0 p2) 0), .int ((upd D 0 p3) 0), .int ((upd Q 0 p4) 0), .ref v0, .int (er_ex X Y 0), .int (er_ey X Y 0), .int (er_ea X Y 0), .int (er_ed X Y 0), .int (er_lw (er_ea X Y 0) (er_ed X Y 0))])), (h2, .inr (0, [.int ((upd X 0 p1) 1), .int ((upd Y 0 p2) 1), .int ((upd D 0 p3) 1), .int ((upd Q 0 p4) 1), .ref v1, .int (er_ex X Y 1), .int (er_ey X Y 1), .int (er_ea X Y 1), .int (er_ed X Y 1), .int (er_lw (er_ea X Y 1) (er_ed X Y 1))])), (h3, .inr (0, [.int ((upd X 0 p1) 2), .int ((upd Y 0 p2) 2), .int ((upd D 0 p3) 2), .int ((upd Q 0 p4) 2), .ref v2, .int (er_ex X Y 2), .int (er_ey X Y 2), .int (er_ea X Y 2), .int (er_ed X Y 2), .int (er_lw (er_ea X Y 2) (er_ed X Y 2))]))]) [0, 1, 2, 3] rfl
            have hDc := hD.sub (ws' := [(h0, .inr (1, [.ref h1, .ref h2, .ref h3, .long (er_ar X Y), .int wx, .int wy, .int ww, .int wh, .int wk, .int on, .int lx, .int ly])), (h1, .inr (0, [.int ((upd X 0 p1) 0), .int ((upd Y 0 p2) 0), .int ((upd D 0 p3) 0), .int ((upd Q 0 p4) 0), .ref v0, .int (er_ex X Y 0), .int (er_ey X Y 0), .int (er_ea X Y 0), .int (er_ed X Y 0), .int (er_lw (er_ea X Y 0) (er_ed X Y 0))])), (h2, .inr (0, [.int ((upd X 0 p1) 1), .int ((upd Y 0 p2) 1), .int ((upd D 0 p3) 1), .int ((upd Q 0 p4) 1), .ref v1, .int (er_ex X Y 1), .int (er_ey X Y 1), .int (er_ea X Y 1), .int (er_ed X Y 1), .int (er_lw (er_ea X Y 1) (er_ed X Y 1))])), (h3, .inr (0, [.int ((upd X 0 p1) 2), .int ((upd Y 0 p2) 2), .int ((upd D 0 p3) 2), .int ((upd Q 0 p4) 2), .ref v2, .int (er_ex X Y 2), .int (er_ey X Y 2), .int (er_ea X Y 2), .int (er_ed X Y 2), .int (er_lw (er_ea X Y 2) (er_ed X Y 2))]))]) [0, 1, 2, 3] (by decide) rfl
            have hKc := hK.sub (tys' := []) [] rfl
            have hFc := va_free (wc := [(h0, .inr (1, [.ref h1, .ref h2, .ref h3, .long (er_ar X Y), .int wx, .int wy, .int ww, .int wh, .int wk, .int on, .int lx, .int ly])), (h1, .inr (0, [.int ((upd X 0 p1) 0), .int ((upd Y 0 p2) 0), .int ((upd D 0 p3) 0), .int ((upd Q 0 p4) 0), .ref v0, .int (er_ex X Y 0), .int (er_ey X Y 0), .int (er_ea X Y 0), .int (er_ed X Y 0), .int (er_lw (er_ea X Y 0) (er_ed X Y 0))])), (h2, .inr (0, [.int ((upd X 0 p1) 1), .int ((upd Y 0 p2) 1), .int ((upd D 0 p3) 1), .int ((upd Q 0 p4) 1), .ref v1, .int (er_ex X Y 1), .int (er_ey X Y 1), .int (er_ea X Y 1), .int (er_ed X Y 1), .int (er_lw (er_ea X Y 1) (er_ed X Y 1))])), (h3, .inr (0, [.int ((upd X 0 p1) 2), .int ((upd Y 0 p2) 2), .int ((upd D 0 p3) 2), .int ((upd Q 0 p4) 2), .ref v2, .int (er_ex X Y 2), .int (er_ey X Y 2), .int (er_ea X Y 2), .int (er_ed X Y 2), .int (er_lw (er_ea X Y 2) (er_ed X Y 2))]))]) hD hS hA [0, 1, 2, 3] rfl
            refine va_callv (va_runV (As := []) (rest := []) ⟨hx, hb, hml, hown, hts⟩ (c_E_layTriangle l dC dI h0 h1 h2 h3 v0 v1 v2 (upd X 0 p1) (upd Y 0 p2) (upd D 0 p3) (upd Q 0 p4) (er_ar X Y) wx wy ww wh wk on lx ly (er_ex X Y 0) (er_ey X Y 0) (er_ea X Y 0) (er_ed X Y 0) (er_lw (er_ea X Y 0) (er_ed X Y 0)) (er_ex X Y 1) (er_ey X Y 1) (er_ea X Y 1) (er_ed X Y 1) (er_lw (er_ea X Y 1) (er_ed X Y 1)) (er_ex X Y 2) (er_ey X Y 2) (er_ea X Y 2) (er_ed X Y 2) (er_lw (er_ea X Y 2) (er_ed X Y 2)) H.size) (cwV 0 hts (er_gV k_203 k_204 k_5 k_18 k_205) rfl rfl rfl (by decide +kernel) ⟨Nat.le_of_ble_eq_true rfl, Nat.le_of_ble_eq_true rfl⟩) ⟨PI.blind, va_recv hKc hPc (ci := 1) (q0 := 0) rfl rfl, PI.at hN hKc hPc hDc⟩ rfl rfl hl.1 rfl (lv_room (Nat.le_of_ble_eq_true rfl)) d_E_corner_129 ⟨Nat.le_of_ble_eq_true rfl, Nat.le_of_ble_eq_true rfl⟩) hS (fun q _ h => hFc q h) hFc (fun u t H1 locs ht hvm hw hB hz1 hk1 hS => ?_)
            obtain ⟨hP1, hK1, hD1⟩ := hB
            rw [ht] at hP1
            have hK1 := va_K.moved hvm.symm hK1
            obtain ⟨hP, hD⟩ := va_join (wr := []) (w1 := [(h0, .inr (1, [.ref h1, .ref h2, .ref h3, .long (er_ar (upd X 0 p1) (upd Y 0 p2)), .int wx, .int wy, .int ww, .int wh, .int wk, .int on, .int lx, .int ly])), (h1, .inr (0, [.int ((upd X 0 p1) 0), .int ((upd Y 0 p2) 0), .int ((upd D 0 p3) 0), .int ((upd Q 0 p4) 0), .ref v0, .int (er_ex (upd X 0 p1) (upd Y 0 p2) 0), .int (er_ey (upd X 0 p1) (upd Y 0 p2) 0), .int (er_ea (upd X 0 p1) (upd Y 0 p2) 0), .int (er_ed (upd X 0 p1) (upd Y 0 p2) 0), .int (er_lw (er_ea (upd X 0 p1) (upd Y 0 p2) 0) (er_ed (upd X 0 p1) (upd Y 0 p2) 0))])), (h2, .inr (0, [.int ((upd X 0 p1) 1), .int ((upd Y 0 p2) 1), .int ((upd D 0 p3) 1), .int ((upd Q 0 p4) 1), .ref v1, .int (er_ex (upd X 0 p1) (upd Y 0 p2) 1), .int (er_ey (upd X 0 p1) (upd Y 0 p2) 1), .int (er_ea (upd X 0 p1) (upd Y 0 p2) 1), .int (er_ed (upd X 0 p1) (upd Y 0 p2) 1), .int (er_lw (er_ea (upd X 0 p1) (upd Y 0 p2) 1) (er_ed (upd X 0 p1) (upd Y 0 p2) 1))])), (h3, .inr (0, [.int ((upd X 0 p1) 2), .int ((upd Y 0 p2) 2), .int ((upd D 0 p3) 2), .int ((upd Q 0 p4) 2), .ref v2, .int (er_ex (upd X 0 p1) (upd Y 0 p2) 2), .int (er_ey (upd X 0 p1) (upd Y 0 p2) 2), .int (er_ea (upd X 0 p1) (upd Y 0 p2) 2), .int (er_ed (upd X 0 p1) (upd Y 0 p2) 2), .int (er_lw (er_ea (upd X 0 p1) (upd Y 0 p2) 2) (er_ed (upd X 0 p1) (upd Y 0 p2) 2))]))]) hP hD [0, 1, 2, 3] [] rfl rfl (by decide) (by decide) hk1 hFc hP1 hD1
            have hK := (hK.sub (tys' := []) [] rfl).app hK1
            generalize H1 = H at hP hS ⊢
            have hP : va_P (dC, dI) classes [(h0, .inr (1, [.ref h1, .ref h2, .ref h3, .long (er_ar (upd X 0 p1) (upd Y 0 p2)), .int wx, .int wy, .int ww, .int wh, .int wk, .int on, .int lx, .int ly])), (h1, .inr (0, [.int ((upd X 0 p1) 0), .int ((upd Y 0 p2) 0), .int ((upd D 0 p3) 0), .int ((upd Q 0 p4) 0), .ref v0, .int (er_ex (upd X 0 p1) (upd Y 0 p2) 0), .int (er_ey (upd X 0 p1) (upd Y 0 p2) 0), .int (er_ea (upd X 0 p1) (upd Y 0 p2) 0), .int (er_ed (upd X 0 p1) (upd Y 0 p2) 0), .int (er_lw (er_ea (upd X 0 p1) (upd Y 0 p2) 0) (er_ed (upd X 0 p1) (upd Y 0 p2) 0))])), (h2, .inr (0, [.int ((upd X 0 p1) 1), .int ((upd Y 0 p2) 1), .int ((upd D 0 p3) 1), .int ((upd Q 0 p4) 1), .ref v1, .int (er_ex (upd X 0 p1) (upd Y 0 p2) 1), .int (er_ey (upd X 0 p1) (upd Y 0 p2) 1), .int (er_ea (upd X 0 p1) (upd Y 0 p2) 1), .int (er_ed (upd X 0 p1) (upd Y 0 p2) 1), .int (er_lw (er_ea (upd X 0 p1) (upd Y 0 p2) 1) (er_ed (upd X 0 p1) (upd Y 0 p2) 1))])), (h3, .inr (0, [.int ((upd X 0 p1) 2), .int ((upd Y 0 p2) 2), .int ((upd D 0 p3) 2), .int ((upd Q 0 p4) 2), .ref v2, .int (er_ex (upd X 0 p1) (upd Y 0 p2) 2), .int (er_ey (upd X 0 p1) (upd Y 0 p2) 2), .int (er_ea (upd X 0 p1) (upd Y 0 p2) 2), .int (er_ed (upd X 0 p1) (upd Y 0 p2) 2), .int (er_lw (er_ea (upd X 0 p1) (upd Y 0 p2) 2) (er_ed (upd X 0 p1) (upd Y 0 p2) 2))]))] H := hP
            have hD : va_D A [(h0, .inr (1, [.ref h1, .ref h2, .ref h3, .long (er_ar (upd X 0 p1) (upd Y 0 p2)), .int wx, .int wy, .int ww, .int wh, .int wk, .int on, .int lx, .int ly])), (h1, .inr (0, [.int ((upd X 0 p1) 0), .int ((upd Y 0 p2) 0), .int ((upd D 0 p3) 0), .int ((upd Q 0 p4) 0), .ref v0, .int (er_ex (upd X 0 p1) (upd Y 0 p2) 0), .int (er_ey (upd X 0 p1) (upd Y 0 p2) 0), .int (er_ea (upd X 0 p1) (upd Y 0 p2) 0), .int (er_ed (upd X 0 p1) (upd Y 0 p2) 0), .int (er_lw (er_ea (upd X 0 p1) (upd Y 0 p2) 0) (er_ed (upd X 0 p1) (upd Y 0 p2) 0))])), (h2, .inr (0, [.int ((upd X 0 p1) 1), .int ((upd Y 0 p2) 1), .int ((upd D 0 p3) 1), .int ((upd Q 0 p4) 1), .ref v1, .int (er_ex (upd X 0 p1) (upd Y 0 p2) 1), .int (er_ey (upd X 0 p1) (upd Y 0 p2) 1), .int (er_ea (upd X 0 p1) (upd Y 0 p2) 1), .int (er_ed (upd X 0 p1) (upd Y 0 p2) 1), .int (er_lw (er_ea (upd X 0 p1) (upd Y 0 p2) 1) (er_ed (upd X 0 p1) (upd Y 0 p2) 1))])), (h3, .inr (0, [.int ((upd X 0 p1) 2), .int ((upd Y 0 p2) 2), .int ((upd D 0 p3) 2), .int ((upd Q 0 p4) 2), .ref v2, .int (er_ex (upd X 0 p1) (upd Y 0 p2) 2), .int (er_ey (upd X 0 p1) (upd Y 0 p2) 2), .int (er_ea (upd X 0 p1) (upd Y 0 p2) 2), .int (er_ed (upd X 0 p1) (upd Y 0 p2) 2), .int (er_lw (er_ea (upd X 0 p1) (upd Y 0 p2) 2) (er_ed (upd X 0 p1) (upd Y 0 p2) 2))]))] := hD
            have hK : va_K (dC, dI) classes [] s := hK
            refine lv_aload_n hx hb d_E_corner_132 rfl (lv_at hl 1 rfl) ?_
            have hPc := hP.sub (ws' := [(h0, .inr (1, [.ref h1, .ref h2, .ref h3, .long (er_ar (upd X 0 p1) (upd Y 0 p2)), .int wx, .int wy, .int ww, .int wh, .int wk, .int on, .int lx, .int ly]))]) [0] rfl
            have hDc := hD.sub (ws' := [(h0, .inr (1, [.ref h1, .ref h2, .ref h3, .long (er_ar (upd X 0 p1) (upd Y 0 p2)), .int wx, .int wy, .int ww, .int wh, .int wk, .int on, .int lx, .int ly]))]) [0] (by decide) rfl
            have hKc := hK.sub (tys' := []) [] rfl
            have hFc := va_free (wc := [(h0, .inr (1, [.ref h1, .ref h2, .ref h3, .long (er_ar (upd X 0 p1) (upd Y 0 p2)), .int wx, .int wy, .int ww, .int wh, .int wk, .int on, .int lx, .int ly]))]) hD hS hA [0] rfl
            refine va_callv (va_runV (As := []) (rest := []) ⟨hx, hb, hml, hown, hts⟩ (c_E_endWalk l dC dI h0 h1 h2 h3 (er_ar (upd X 0 p1) (upd Y 0 p2)) wx wy ww wh wk on lx ly H.size) (cwV 0 hts (er_gV k_208 k_209 k_7 k_18 k_210) rfl rfl rfl (by decide +kernel) ⟨Nat.le_of_ble_eq_true rfl, Nat.le_of_ble_eq_true rfl⟩) ⟨PI.blind, va_recv hKc hPc (ci := 1) (q0 := 0) rfl rfl, PI.at hN hKc hPc hDc⟩ rfl rfl hl.1 rfl (lv_room (Nat.le_of_ble_eq_true rfl)) d_E_corner_133 ⟨Nat.le_of_ble_eq_true rfl, Nat.le_of_ble_eq_true rfl⟩) hS (fun q _ h => hFc q h) hFc (fun u t H1 locs ht hvm hw hB hz1 hk1 hS => ?_)
            obtain ⟨hP1, hK1, hD1⟩ := hB
            rw [ht] at hP1
            have hK1 := va_K.moved hvm.symm hK1
            obtain ⟨hP, hD⟩ := va_join (wr := [(h1, .inr (0, [.int ((upd X 0 p1) 0), .int ((upd Y 0 p2) 0), .int ((upd D 0 p3) 0), .int ((upd Q 0 p4) 0), .ref v0, .int (er_ex (upd X 0 p1) (upd Y 0 p2) 0), .int (er_ey (upd X 0 p1) (upd Y 0 p2) 0), .int (er_ea (upd X 0 p1) (upd Y 0 p2) 0), .int (er_ed (upd X 0 p1) (upd Y 0 p2) 0), .int (er_lw (er_ea (upd X 0 p1) (upd Y 0 p2) 0) (er_ed (upd X 0 p1) (upd Y 0 p2) 0))])), (h2, .inr (0, [.int ((upd X 0 p1) 1), .int ((upd Y 0 p2) 1), .int ((upd D 0 p3) 1), .int ((upd Q 0 p4) 1), .ref v1, .int (er_ex (upd X 0 p1) (upd Y 0 p2) 1), .int (er_ey (upd X 0 p1) (upd Y 0 p2) 1), .int (er_ea (upd X 0 p1) (upd Y 0 p2) 1), .int (er_ed (upd X 0 p1) (upd Y 0 p2) 1), .int (er_lw (er_ea (upd X 0 p1) (upd Y 0 p2) 1) (er_ed (upd X 0 p1) (upd Y 0 p2) 1))])), (h3, .inr (0, [.int ((upd X 0 p1) 2), .int ((upd Y 0 p2) 2), .int ((upd D 0 p3) 2), .int ((upd Q 0 p4) 2), .ref v2, .int (er_ex (upd X 0 p1) (upd Y 0 p2) 2), .int (er_ey (upd X 0 p1) (upd Y 0 p2) 2), .int (er_ea (upd X 0 p1) (upd Y 0 p2) 2), .int (er_ed (upd X 0 p1) (upd Y 0 p2) 2), .int (er_lw (er_ea (upd X 0 p1) (upd Y 0 p2) 2) (er_ed (upd X 0 p1) (upd Y 0 p2) 2))]))]) (w1 := [(h0, .inr (1, [.ref h1, .ref h2, .ref h3, .long (er_ar (upd X 0 p1) (upd Y 0 p2)), .int wx, .int wy, .int ww, .int wh, .int 0, .int 0, .int lx, .int ly]))]) hP hD [0] [1, 2, 3] rfl rfl (by decide) (by decide) hk1 hFc hP1 hD1
            have hK := (hK.sub (tys' := []) [] rfl).app hK1
            generalize H1 = H at hP hS ⊢
            have hP : va_P (dC, dI) classes [(h1, .inr (0, [.int ((upd X 0 p1) 0), .int ((upd Y 0 p2) 0), .int ((upd D 0 p3) 0), .int ((upd Q 0 p4) 0), .ref v0, .int (er_ex (upd X 0 p1) (upd Y 0 p2) 0), .int (er_ey (upd X 0 p1) (upd Y 0 p2) 0), .int (er_ea (upd X 0 p1) (upd Y 0 p2) 0), .int (er_ed (upd X 0 p1) (upd Y 0 p2) 0), .int (er_lw (er_ea (upd X 0 p1) (upd Y 0 p2) 0) (er_ed (upd X 0 p1) (upd Y 0 p2) 0))])), (h2, .inr (0, [.int ((upd X 0 p1) 1), .int ((upd Y 0 p2) 1), .int ((upd D 0 p3) 1), .int ((upd Q 0 p4) 1), .ref v1, .int (er_ex (upd X 0 p1) (upd Y 0 p2) 1), .int (er_ey (upd X 0 p1) (upd Y 0 p2) 1), .int (er_ea (upd X 0 p1) (upd Y 0 p2) 1), .int (er_ed (upd X 0 p1) (upd Y 0 p2) 1), .int (er_lw (er_ea (upd X 0 p1) (upd Y 0 p2) 1) (er_ed (upd X 0 p1) (upd Y 0 p2) 1))])), (h3, .inr (0, [.int ((upd X 0 p1) 2), .int ((upd Y 0 p2) 2), .int ((upd D 0 p3) 2), .int ((upd Q 0 p4) 2), .ref v2, .int (er_ex (upd X 0 p1) (upd Y 0 p2) 2), .int (er_ey (upd X 0 p1) (upd Y 0 p2) 2), .int (er_ea (upd X 0 p1) (upd Y 0 p2) 2), .int (er_ed (upd X 0 p1) (upd Y 0 p2) 2), .int (er_lw (er_ea (upd X 0 p1) (upd Y 0 p2) 2) (er_ed (upd X 0 p1) (upd Y 0 p2) 2))])), (h0, .inr (1, [.ref h1, .ref h2, .ref h3, .long (er_ar (upd X 0 p1) (upd Y 0 p2)), .int wx, .int wy, .int ww, .int wh, .int 0, .int 0, .int lx, .int ly]))] H := hP
            have hD : va_D A [(h1, .inr (0, [.int ((upd X 0 p1) 0), .int ((upd Y 0 p2) 0), .int ((upd D 0 p3) 0), .int ((upd Q 0 p4) 0), .ref v0, .int (er_ex (upd X 0 p1) (upd Y 0 p2) 0), .int (er_ey (upd X 0 p1) (upd Y 0 p2) 0), .int (er_ea (upd X 0 p1) (upd Y 0 p2) 0), .int (er_ed (upd X 0 p1) (upd Y 0 p2) 0), .int (er_lw (er_ea (upd X 0 p1) (upd Y 0 p2) 0) (er_ed (upd X 0 p1) (upd Y 0 p2) 0))])), (h2, .inr (0, [.int ((upd X 0 p1) 1), .int ((upd Y 0 p2) 1), .int ((upd D 0 p3) 1), .int ((upd Q 0 p4) 1), .ref v1, .int (er_ex (upd X 0 p1) (upd Y 0 p2) 1), .int (er_ey (upd X 0 p1) (upd Y 0 p2) 1), .int (er_ea (upd X 0 p1) (upd Y 0 p2) 1), .int (er_ed (upd X 0 p1) (upd Y 0 p2) 1), .int (er_lw (er_ea (upd X 0 p1) (upd Y 0 p2) 1) (er_ed (upd X 0 p1) (upd Y 0 p2) 1))])), (h3, .inr (0, [.int ((upd X 0 p1) 2), .int ((upd Y 0 p2) 2), .int ((upd D 0 p3) 2), .int ((upd Q 0 p4) 2), .ref v2, .int (er_ex (upd X 0 p1) (upd Y 0 p2) 2), .int (er_ey (upd X 0 p1) (upd Y 0 p2) 2), .int (er_ea (upd X 0 p1) (upd Y 0 p2) 2), .int (er_ed (upd X 0 p1) (upd Y 0 p2) 2), .int (er_lw (er_ea (upd X 0 p1) (upd Y 0 p2) 2) (er_ed (upd X 0 p1) (upd Y 0 p2) 2))])), (h0, .inr (1, [.ref h1, .ref h2, .ref h3, .long (er_ar (upd X 0 p1) (upd Y 0 p2)), .int wx, .int wy, .int ww, .int wh, .int 0, .int 0, .int lx, .int ly]))] := hD
            have hK : va_K (dC, dI) classes [] s := hK
            have hP9 := hP.sub (ws' := [(h0, .inr (1, [.ref h1, .ref h2, .ref h3, .long (er_ar (upd X 0 p1) (upd Y 0 p2)), .int wx, .int wy, .int ww, .int wh, .int 0, .int 0, .int lx, .int ly])), (h1, .inr (0, [.int ((upd X 0 p1) 0), .int ((upd Y 0 p2) 0), .int ((upd D 0 p3) 0), .int ((upd Q 0 p4) 0), .ref v0, .int (er_ex (upd X 0 p1) (upd Y 0 p2) 0), .int (er_ey (upd X 0 p1) (upd Y 0 p2) 0), .int (er_ea (upd X 0 p1) (upd Y 0 p2) 0), .int (er_ed (upd X 0 p1) (upd Y 0 p2) 0), .int (er_lw (er_ea (upd X 0 p1) (upd Y 0 p2) 0) (er_ed (upd X 0 p1) (upd Y 0 p2) 0))])), (h2, .inr (0, [.int ((upd X 0 p1) 1), .int ((upd Y 0 p2) 1), .int ((upd D 0 p3) 1), .int ((upd Q 0 p4) 1), .ref v1, .int (er_ex (upd X 0 p1) (upd Y 0 p2) 1), .int (er_ey (upd X 0 p1) (upd Y 0 p2) 1), .int (er_ea (upd X 0 p1) (upd Y 0 p2) 1), .int (er_ed (upd X 0 p1) (upd Y 0 p2) 1), .int (er_lw (er_ea (upd X 0 p1) (upd Y 0 p2) 1) (er_ed (upd X 0 p1) (upd Y 0 p2) 1))])), (h3, .inr (0, [.int ((upd X 0 p1) 2), .int ((upd Y 0 p2) 2), .int ((upd D 0 p3) 2), .int ((upd Q 0 p4) 2), .ref v2, .int (er_ex (upd X 0 p1) (upd Y 0 p2) 2), .int (er_ey (upd X 0 p1) (upd Y 0 p2) 2), .int (er_ea (upd X 0 p1) (upd Y 0 p2) 2), .int (er_ed (upd X 0 p1) (upd Y 0 p2) 2), .int (er_lw (er_ea (upd X 0 p1) (upd Y 0 p2) 2) (er_ed (upd X 0 p1) (upd Y 0 p2) 2))]))]) [3, 0, 1, 2] rfl
            have hD9 := hD.sub (ws' := [(h0, .inr (1, [.ref h1, .ref h2, .ref h3, .long (er_ar (upd X 0 p1) (upd Y 0 p2)), .int wx, .int wy, .int ww, .int wh, .int 0, .int 0, .int lx, .int ly])), (h1, .inr (0, [.int ((upd X 0 p1) 0), .int ((upd Y 0 p2) 0), .int ((upd D 0 p3) 0), .int ((upd Q 0 p4) 0), .ref v0, .int (er_ex (upd X 0 p1) (upd Y 0 p2) 0), .int (er_ey (upd X 0 p1) (upd Y 0 p2) 0), .int (er_ea (upd X 0 p1) (upd Y 0 p2) 0), .int (er_ed (upd X 0 p1) (upd Y 0 p2) 0), .int (er_lw (er_ea (upd X 0 p1) (upd Y 0 p2) 0) (er_ed (upd X 0 p1) (upd Y 0 p2) 0))])), (h2, .inr (0, [.int ((upd X 0 p1) 1), .int ((upd Y 0 p2) 1), .int ((upd D 0 p3) 1), .int ((upd Q 0 p4) 1), .ref v1, .int (er_ex (upd X 0 p1) (upd Y 0 p2) 1), .int (er_ey (upd X 0 p1) (upd Y 0 p2) 1), .int (er_ea (upd X 0 p1) (upd Y 0 p2) 1), .int (er_ed (upd X 0 p1) (upd Y 0 p2) 1), .int (er_lw (er_ea (upd X 0 p1) (upd Y 0 p2) 1) (er_ed (upd X 0 p1) (upd Y 0 p2) 1))])), (h3, .inr (0, [.int ((upd X 0 p1) 2), .int ((upd Y 0 p2) 2), .int ((upd D 0 p3) 2), .int ((upd Q 0 p4) 2), .ref v2, .int (er_ex (upd X 0 p1) (upd Y 0 p2) 2), .int (er_ey (upd X 0 p1) (upd Y 0 p2) 2), .int (er_ea (upd X 0 p1) (upd Y 0 p2) 2), .int (er_ed (upd X 0 p1) (upd Y 0 p2) 2), .int (er_lw (er_ea (upd X 0 p1) (upd Y 0 p2) 2) (er_ed (upd X 0 p1) (upd Y 0 p2) 2))]))]) [3, 0, 1, 2] (by decide) rfl
            have hK9 := hK.sub (tys' := []) [] rfl
            exact W.vret hx hb hr (fun u9 ht hW => ⟨⟨(), rfl, trivial, ⟨by rw [ht]; exact hP9, va_K.moved hW.alike hK9, hD9⟩⟩, hS.F ht⟩) hS.2.2 d_E_corner_136
          · have c_10 := er_b_0.mp c_10
            exact absurd c_10 (by simp_all)
        · have c_8 := er_b_0.mp c_8
          exact absurd c_8 (by simp_all)
      · have c_6 := er_b_0.mp c_6
        exact absurd c_6 (by simp_all)
  · have c_2 := er_b_0.mp c_2
    exact absurd c_2 (by simp_all)

set_option maxHeartbeats 1000000 in
set_option maxRecDepth 100000 in
theorem c_E_value0 (l : Launch) (dC : Nat → ClassId) (dI : Nat → Nat → Nat) (h0 h1 h2 h3 v0 v1 v2 : Nat) (X Y D Q : Nat → Int32) (wx wy ww wh wk on lx ly : Int32) (k0 k1 k2 : ClassId) (f0 f1 f2 : Nat → Int32) (n : Nat) (p2 : Int32) (hn : n < 28) (sz : Nat) : Met l y_E_value w_E_value ({ frames := 6, cells := 0, slots := 0, locals := 82 }) (va_Pc [.ref h0, .int 0, .int (nI n), .int p2] (PI dC dI [(k0, .int), (k1, .int), (k2, .int)] [(h0, .inr (1, [.ref h1, .ref h2, .ref h3, .long (er_ar X Y), .int wx, .int wy, .int ww, .int wh, .int wk, .int on, .int lx, .int ly])), (h1, .inr (0, [.int (X 0), .int (Y 0), .int (D 0), .int (Q 0), .ref v0, .int (er_ex X Y 0), .int (er_ey X Y 0), .int (er_ea X Y 0), .int (er_ed X Y 0), .int (er_lw (er_ea X Y 0) (er_ed X Y 0))])), (h2, .inr (0, [.int (X 1), .int (Y 1), .int (D 1), .int (Q 1), .ref v1, .int (er_ex X Y 1), .int (er_ey X Y 1), .int (er_ea X Y 1), .int (er_ed X Y 1), .int (er_lw (er_ea X Y 1) (er_ed X Y 1))])), (h3, .inr (0, [.int (X 2), .int (Y 2), .int (D 2), .int (Q 2), .ref v2, .int (er_ex X Y 2), .int (er_ey X Y 2), .int (er_ea X Y 2), .int (er_ed X Y 2), .int (er_lw (er_ea X Y 2) (er_ed X Y 2))])), (v0, .inl (k0, 28, .inl f0)), (v1, .inl (k1, 28, .inl f1)), (v2, .inl (k2, 28, .inl f2))] sz)) (va_Qv (fun (u : Unit) => True) (fun (u : Unit) t => EI dC dI [(k0, .int), (k1, .int), (k2, .int)] [(h0, .inr (1, [.ref h1, .ref h2, .ref h3, .long (er_ar X Y), .int wx, .int wy, .int ww, .int wh, .int 0, .int 0, .int lx, .int ly])), (h1, .inr (0, [.int (X 0), .int (Y 0), .int (D 0), .int (Q 0), .ref v0, .int (er_ex X Y 0), .int (er_ey X Y 0), .int (er_ea X Y 0), .int (er_ed X Y 0), .int (er_lw (er_ea X Y 0) (er_ed X Y 0))])), (h2, .inr (0, [.int (X 1), .int (Y 1), .int (D 1), .int (Q 1), .ref v1, .int (er_ex X Y 1), .int (er_ey X Y 1), .int (er_ea X Y 1), .int (er_ed X Y 1), .int (er_lw (er_ea X Y 1) (er_ed X Y 1))])), (h3, .inr (0, [.int (X 2), .int (Y 2), .int (D 2), .int (Q 2), .ref v2, .int (er_ex X Y 2), .int (er_ey X Y 2), .int (er_ea X Y 2), .int (er_ed X Y 2), .int (er_lw (er_ea X Y 2) (er_ed X Y 2))])), (v0, .inl (k0, 28, .inl (upd f0 n p2))), (v1, .inl (k1, 28, .inl f1)), (v2, .inl (k2, 28, .inl f2))] (va_A [(h0, .inr (1, [.ref h1, .ref h2, .ref h3, .long (er_ar X Y), .int wx, .int wy, .int ww, .int wh, .int wk, .int on, .int lx, .int ly])), (h1, .inr (0, [.int (X 0), .int (Y 0), .int (D 0), .int (Q 0), .ref v0, .int (er_ex X Y 0), .int (er_ey X Y 0), .int (er_ea X Y 0), .int (er_ed X Y 0), .int (er_lw (er_ea X Y 0) (er_ed X Y 0))])), (h2, .inr (0, [.int (X 1), .int (Y 1), .int (D 1), .int (Q 1), .ref v1, .int (er_ex X Y 1), .int (er_ey X Y 1), .int (er_ea X Y 1), .int (er_ed X Y 1), .int (er_lw (er_ea X Y 1) (er_ed X Y 1))])), (h3, .inr (0, [.int (X 2), .int (Y 2), .int (D 2), .int (Q 2), .ref v2, .int (er_ex X Y 2), .int (er_ey X Y 2), .int (er_ea X Y 2), .int (er_ed X Y 2), .int (er_lw (er_ea X Y 2) (er_ed X Y 2))])), (v0, .inl (k0, 28, .inl f0)), (v1, .inl (k1, 28, .inl f1)), (v2, .inl (k2, 28, .inl f2))] sz) t) (va_A [(h0, .inr (1, [.ref h1, .ref h2, .ref h3, .long (er_ar X Y), .int wx, .int wy, .int ww, .int wh, .int wk, .int on, .int lx, .int ly])), (h1, .inr (0, [.int (X 0), .int (Y 0), .int (D 0), .int (Q 0), .ref v0, .int (er_ex X Y 0), .int (er_ey X Y 0), .int (er_ea X Y 0), .int (er_ed X Y 0), .int (er_lw (er_ea X Y 0) (er_ed X Y 0))])), (h2, .inr (0, [.int (X 1), .int (Y 1), .int (D 1), .int (Q 1), .ref v1, .int (er_ex X Y 1), .int (er_ey X Y 1), .int (er_ea X Y 1), .int (er_ed X Y 1), .int (er_lw (er_ea X Y 1) (er_ed X Y 1))])), (h3, .inr (0, [.int (X 2), .int (Y 2), .int (D 2), .int (Q 2), .ref v2, .int (er_ex X Y 2), .int (er_ey X Y 2), .int (er_ea X Y 2), .int (er_ed X Y 2), .int (er_lw (er_ea X Y 2) (er_ed X Y 2))])), (v0, .inl (k0, 28, .inl f0)), (v1, .inl (k1, 28, .inl f1)), (v2, .inl (k2, 28, .inl f2))] sz)) 0 0 (va_A [(h0, .inr (1, [.ref h1, .ref h2, .ref h3, .long (er_ar X Y), .int wx, .int wy, .int ww, .int wh, .int wk, .int on, .int lx, .int ly])), (h1, .inr (0, [.int (X 0), .int (Y 0), .int (D 0), .int (Q 0), .ref v0, .int (er_ex X Y 0), .int (er_ey X Y 0), .int (er_ea X Y 0), .int (er_ed X Y 0), .int (er_lw (er_ea X Y 0) (er_ed X Y 0))])), (h2, .inr (0, [.int (X 1), .int (Y 1), .int (D 1), .int (Q 1), .ref v1, .int (er_ex X Y 1), .int (er_ey X Y 1), .int (er_ea X Y 1), .int (er_ed X Y 1), .int (er_lw (er_ea X Y 1) (er_ed X Y 1))])), (h3, .inr (0, [.int (X 2), .int (Y 2), .int (D 2), .int (Q 2), .ref v2, .int (er_ex X Y 2), .int (er_ey X Y 2), .int (er_ea X Y 2), .int (er_ed X Y 2), .int (er_lw (er_ea X Y 2) (er_ed X Y 2))])), (v0, .inl (k0, 28, .inl f0)), (v1, .inl (k1, 28, .inl f1)), (v2, .inl (k2, 28, .inl f2))] sz) := by
  refine Met.ofW (cc := b_E_value) (maxL := 4) (ret := none) (by decide +kernel) rfl ?_
  intro p e s m args below meth c s₁ B hml hv
  obtain ⟨rfl, hsz, hN, hK, hP, hD0⟩ := hv
  have hx := B.exec
  have hb := B.bytes
  have hr := B.returns
  have hts := er_hts (atoms_spec (ws := w_E_value) B.pre)
  have hown : s.vm.findClass R_E = some m.cls := findClass_of_methodNamed B.named
  have hlocks := B.notSynchronized
  subst hsz
  have hD := hD0.self (sz := s.heap.size)
  generalize hAe : va_A [(h0, .inr (1, [.ref h1, .ref h2, .ref h3, .long (er_ar X Y), .int wx, .int wy, .int ww, .int wh, .int wk, .int on, .int lx, .int ly])), (h1, .inr (0, [.int (X 0), .int (Y 0), .int (D 0), .int (Q 0), .ref v0, .int (er_ex X Y 0), .int (er_ey X Y 0), .int (er_ea X Y 0), .int (er_ed X Y 0), .int (er_lw (er_ea X Y 0) (er_ed X Y 0))])), (h2, .inr (0, [.int (X 1), .int (Y 1), .int (D 1), .int (Q 1), .ref v1, .int (er_ex X Y 1), .int (er_ey X Y 1), .int (er_ea X Y 1), .int (er_ed X Y 1), .int (er_lw (er_ea X Y 1) (er_ed X Y 1))])), (h3, .inr (0, [.int (X 2), .int (Y 2), .int (D 2), .int (Q 2), .ref v2, .int (er_ex X Y 2), .int (er_ey X Y 2), .int (er_ea X Y 2), .int (er_ed X Y 2), .int (er_lw (er_ea X Y 2) (er_ed X Y 2))])), (v0, .inl (k0, 28, .inl f0)), (v1, .inl (k1, 28, .inl f1)), (v2, .inl (k2, 28, .inl f2))] s.heap.size = A at hD ⊢
  have hA : ∀ q : Nat, s.heap.size ≤ q → A q := fun q h => by rw [← hAe]; exact Or.inr h
  have hS : va_S A s.heap s.heap [] := va_S.rf
  have hP : va_P (dC, dI) classes [(h0, .inr (1, [.ref h1, .ref h2, .ref h3, .long (er_ar X Y), .int wx, .int wy, .int ww, .int wh, .int wk, .int on, .int lx, .int ly])), (h1, .inr (0, [.int (X 0), .int (Y 0), .int (D 0), .int (Q 0), .ref v0, .int (er_ex X Y 0), .int (er_ey X Y 0), .int (er_ea X Y 0), .int (er_ed X Y 0), .int (er_lw (er_ea X Y 0) (er_ed X Y 0))])), (h2, .inr (0, [.int (X 1), .int (Y 1), .int (D 1), .int (Q 1), .ref v1, .int (er_ex X Y 1), .int (er_ey X Y 1), .int (er_ea X Y 1), .int (er_ed X Y 1), .int (er_lw (er_ea X Y 1) (er_ed X Y 1))])), (h3, .inr (0, [.int (X 2), .int (Y 2), .int (D 2), .int (Q 2), .ref v2, .int (er_ex X Y 2), .int (er_ey X Y 2), .int (er_ea X Y 2), .int (er_ed X Y 2), .int (er_lw (er_ea X Y 2) (er_ed X Y 2))])), (v0, .inl (k0, 28, .inl f0)), (v1, .inl (k1, 28, .inl f1)), (v2, .inl (k2, 28, .inl f2))] s.heap := hP
  have hl := lv_entry ([.ref h0, .int 0, .int (nI n), .int p2]) (n := 4) (Nat.le_of_ble_eq_true rfl)
  rw [lg_entry_eq]
  generalize (lg_sl ([.ref h0, .int 0, .int (nI n), .int p2]) ++ List.replicate (4 - (lg_sl ([.ref h0, .int 0, .int (nI n), .int p2])).length) Slot.unset).toArray = ls at hl ⊢
  have hl : lv_has ls 4 [(0, .ref h0), (1, .int 0), (2, .int (nI n)), (3, .int p2)] := hl
  have u0 : er_win 0 0 2 = true := by decide
  have u1 : er_win (nI n) 0 27 = true := er_win_nI (k := 27) (by omega) (by decide)
  refine lv_iload_n hx hb d_E_value_0 rfl (lv_at hl 1 rfl) ?_
  have hPc := hP.sub (ws' := []) [] rfl
  have hKc := hK.sub (tys' := []) [] rfl
  refine vp_callSi (va_runS (As := [.int 0]) (rest := []) ⟨hx, hb, hml, hown, hts⟩ (c_E_isCorner l dC dI 0) (va_cwS 1 hts (er_gS k_137 k_138 k_18 k_139) rfl rfl rfl (by decide +kernel) ⟨Nat.le_of_ble_eq_true rfl, Nat.le_of_ble_eq_true rfl⟩) ⟨PP.blind, PP.at hN hKc hPc⟩ rfl rfl hl.1 rfl (lv_room (Nat.le_of_ble_eq_true rfl)) d_E_value_1 ⟨Nat.zero_le _, Nat.zero_le _⟩).run (fun r_1 hr_1 => ?_)
  obtain rfl : er_b (er_win 0 0 2) = r_1 := Eq.symm hr_1
  refine lv_if_eq (tgt := 14) hx hb d_E_value_4 (by decide) (fun c_2 => ?_) (fun c_2 => ?_)
  · have c_2 := er_b_0.mp c_2
    exact absurd c_2 (by simp_all)
  · have c_2 := er_b_n.mp c_2
    refine lv_iload_n hx hb d_E_value_7 rfl (lv_at hl 2 rfl) ?_
    have hPc := hP.sub (ws' := []) [] rfl
    have hKc := hK.sub (tys' := []) [] rfl
    refine vp_callSi (va_runS (As := [.int (nI n)]) (rest := []) ⟨hx, hb, hml, hown, hts⟩ (c_E_isValue l dC dI (nI n)) (va_cwS 1 hts (er_gS k_218 k_219 k_18 k_220) rfl rfl rfl (by decide +kernel) ⟨Nat.le_of_ble_eq_true rfl, Nat.le_of_ble_eq_true rfl⟩) ⟨PP.blind, PP.at hN hKc hPc⟩ rfl rfl hl.1 rfl (lv_room (Nat.le_of_ble_eq_true rfl)) d_E_value_8 ⟨Nat.zero_le _, Nat.zero_le _⟩).run (fun r_3 hr_3 => ?_)
    obtain rfl : er_b (er_win (nI n) 0 27) = r_3 := Eq.symm hr_3
    refine lv_if_ne (tgt := 24) hx hb d_E_value_11 (by decide) (fun c_4 => ?_) (fun c_4 => ?_)
    · have c_4 := er_b_n.mp c_4
      refine lv_aload_n hx hb d_E_value_24 rfl (lv_at hl 0 rfl) ?_
      refine lv_iload_n hx hb d_E_value_25 rfl (lv_at hl 1 rfl) ?_
      have hPc := hP.sub (ws' := [(h0, .inr (1, [.ref h1, .ref h2, .ref h3, .long (er_ar X Y), .int wx, .int wy, .int ww, .int wh, .int wk, .int on, .int lx, .int ly]))]) [0] rfl
      have hKc := hK.sub (tys' := []) [] rfl
      refine va_csr (va_runV (As := [.int 0]) (rest := []) ⟨hx, hb, hml, hown, hts⟩ (c_E_cornerOf0 l dC dI h0 h1 h2 h3 (er_ar X Y) wx wy ww wh wk on lx ly) (cwV 1 hts (er_gV k_200 k_201 k_4 k_18 k_202) rfl rfl rfl (by decide +kernel) ⟨Nat.le_of_ble_eq_true rfl, Nat.le_of_ble_eq_true rfl⟩) ⟨PP.blind, va_recv hKc hPc (ci := 1) (q0 := 0) rfl rfl, PP.at hN hKc hPc⟩ rfl rfl hl.1 rfl (lv_room (Nat.le_of_ble_eq_true rfl)) d_E_value_26 ⟨Nat.zero_le _, Nat.zero_le _⟩).run (fun r_5 hr_5 => ?_)
      obtain rfl : h1 = r_5 := Eq.symm hr_5
      refine va_getN (D := (dC, dI)) (ci := 0) (v := .ref v0) (C := R_C) (T := F_C) (N := 10) hx hb hts i_C hown hK hP 1 rfl rfl 4 (by decide) (va_Nw.use rfl (hN _ kn_5)) (fun _ h9 => h9) rfl d_E_value_29 ?_
      refine lv_iload_n hx hb d_E_value_32 rfl (lv_at hl 2 rfl) ?_
      refine lv_iload_n hx hb d_E_value_33 rfl (lv_at hl 3 rfl) ?_
      refine va_iast (i := nI n) hx hb hK hP hD hS 4 0 rfl rfl (vp_in_nI (by omega) (by decide)) d_E_value_34 (fun H locs hP hD hS => ?_)
      rw [nI_clamp (by omega)] at hP hD
      have hP : va_P (dC, dI) classes [(h0, .inr (1, [.ref h1, .ref h2, .ref h3, .long (er_ar X Y), .int wx, .int wy, .int ww, .int wh, .int wk, .int on, .int lx, .int ly])), (h1, .inr (0, [.int (X 0), .int (Y 0), .int (D 0), .int (Q 0), .ref v0, .int (er_ex X Y 0), .int (er_ey X Y 0), .int (er_ea X Y 0), .int (er_ed X Y 0), .int (er_lw (er_ea X Y 0) (er_ed X Y 0))])), (h2, .inr (0, [.int (X 1), .int (Y 1), .int (D 1), .int (Q 1), .ref v1, .int (er_ex X Y 1), .int (er_ey X Y 1), .int (er_ea X Y 1), .int (er_ed X Y 1), .int (er_lw (er_ea X Y 1) (er_ed X Y 1))])), (h3, .inr (0, [.int (X 2), .int (Y 2), .int (D 2), .int (Q 2), .ref v2, .int (er_ex X Y 2), .int (er_ey X Y 2), .int (er_ea X Y 2), .int (er_ed X Y 2), .int (er_lw (er_ea X Y 2) (er_ed X Y 2))])), (v0, .inl (k0, 28, .inl (upd f0 n p2))), (v1, .inl (k1, 28, .inl f1)), (v2, .inl (k2, 28, .inl f2))] H := hP
      have hD : va_D A [(h0, .inr (1, [.ref h1, .ref h2, .ref h3, .long (er_ar X Y), .int wx, .int wy, .int ww, .int wh, .int wk, .int on, .int lx, .int ly])), (h1, .inr (0, [.int (X 0), .int (Y 0), .int (D 0), .int (Q 0), .ref v0, .int (er_ex X Y 0), .int (er_ey X Y 0), .int (er_ea X Y 0), .int (er_ed X Y 0), .int (er_lw (er_ea X Y 0) (er_ed X Y 0))])), (h2, .inr (0, [.int (X 1), .int (Y 1), .int (D 1), .int (Q 1), .ref v1, .int (er_ex X Y 1), .int (er_ey X Y 1), .int (er_ea X Y 1), .int (er_ed X Y 1), .int (er_lw (er_ea X Y 1) (er_ed X Y 1))])), (h3, .inr (0, [.int (X 2), .int (Y 2), .int (D 2), .int (Q 2), .ref v2, .int (er_ex X Y 2), .int (er_ey X Y 2), .int (er_ea X Y 2), .int (er_ed X Y 2), .int (er_lw (er_ea X Y 2) (er_ed X Y 2))])), (v0, .inl (k0, 28, .inl (upd f0 n p2))), (v1, .inl (k1, 28, .inl f1)), (v2, .inl (k2, 28, .inl f2))] := hD
      refine lv_aload_n hx hb d_E_value_35 rfl (lv_at hl 0 rfl) ?_
      have hPc := hP.sub (ws' := [(h0, .inr (1, [.ref h1, .ref h2, .ref h3, .long (er_ar X Y), .int wx, .int wy, .int ww, .int wh, .int wk, .int on, .int lx, .int ly]))]) [0] rfl
      have hDc := hD.sub (ws' := [(h0, .inr (1, [.ref h1, .ref h2, .ref h3, .long (er_ar X Y), .int wx, .int wy, .int ww, .int wh, .int wk, .int on, .int lx, .int ly]))]) [0] (by decide) rfl
      have hKc := hK.sub (tys' := []) [] rfl
      have hFc := va_free (wc := [(h0, .inr (1, [.ref h1, .ref h2, .ref h3, .long (er_ar X Y), .int wx, .int wy, .int ww, .int wh, .int wk, .int on, .int lx, .int ly]))]) hD hS hA [0] rfl
      refine va_callv (va_runV (As := []) (rest := []) ⟨hx, hb, hml, hown, hts⟩ (c_E_endWalk l dC dI h0 h1 h2 h3 (er_ar X Y) wx wy ww wh wk on lx ly H.size) (cwV 0 hts (er_gV k_208 k_209 k_7 k_18 k_210) rfl rfl rfl (by decide +kernel) ⟨Nat.le_of_ble_eq_true rfl, Nat.le_of_ble_eq_true rfl⟩) ⟨PI.blind, va_recv hKc hPc (ci := 1) (q0 := 0) rfl rfl, PI.at hN hKc hPc hDc⟩ rfl rfl hl.1 rfl (lv_room (Nat.le_of_ble_eq_true rfl)) d_E_value_36 ⟨Nat.le_of_ble_eq_true rfl, Nat.le_of_ble_eq_true rfl⟩) hS (fun q _ h => hFc q h) hFc (fun u t H1 locs ht hvm hw hB hz1 hk1 hS => ?_)
      obtain ⟨hP1, hK1, hD1⟩ := hB
      rw [ht] at hP1
      have hK1 := va_K.moved hvm.symm hK1
      obtain ⟨hP, hD⟩ := va_join (wr := [(h1, .inr (0, [.int (X 0), .int (Y 0), .int (D 0), .int (Q 0), .ref v0, .int (er_ex X Y 0), .int (er_ey X Y 0), .int (er_ea X Y 0), .int (er_ed X Y 0), .int (er_lw (er_ea X Y 0) (er_ed X Y 0))])), (h2, .inr (0, [.int (X 1), .int (Y 1), .int (D 1), .int (Q 1), .ref v1, .int (er_ex X Y 1), .int (er_ey X Y 1), .int (er_ea X Y 1), .int (er_ed X Y 1), .int (er_lw (er_ea X Y 1) (er_ed X Y 1))])), (h3, .inr (0, [.int (X 2), .int (Y 2), .int (D 2), .int (Q 2), .ref v2, .int (er_ex X Y 2), .int (er_ey X Y 2), .int (er_ea X Y 2), .int (er_ed X Y 2), .int (er_lw (er_ea X Y 2) (er_ed X Y 2))])), (v0, .inl (k0, 28, .inl (upd f0 n p2))), (v1, .inl (k1, 28, .inl f1)), (v2, .inl (k2, 28, .inl f2))]) (w1 := [(h0, .inr (1, [.ref h1, .ref h2, .ref h3, .long (er_ar X Y), .int wx, .int wy, .int ww, .int wh, .int 0, .int 0, .int lx, .int ly]))]) hP hD [0] [1, 2, 3, 4, 5, 6] rfl rfl (by decide) (by decide) hk1 hFc hP1 hD1
      have hK := (hK.sub (tys' := [(k0, .int), (k1, .int), (k2, .int)]) [0, 1, 2] rfl).app hK1
      generalize H1 = H at hP hS ⊢
      have hP : va_P (dC, dI) classes [(h1, .inr (0, [.int (X 0), .int (Y 0), .int (D 0), .int (Q 0), .ref v0, .int (er_ex X Y 0), .int (er_ey X Y 0), .int (er_ea X Y 0), .int (er_ed X Y 0), .int (er_lw (er_ea X Y 0) (er_ed X Y 0))])), (h2, .inr (0, [.int (X 1), .int (Y 1), .int (D 1), .int (Q 1), .ref v1, .int (er_ex X Y 1), .int (er_ey X Y 1), .int (er_ea X Y 1), .int (er_ed X Y 1), .int (er_lw (er_ea X Y 1) (er_ed X Y 1))])), (h3, .inr (0, [.int (X 2), .int (Y 2), .int (D 2), .int (Q 2), .ref v2, .int (er_ex X Y 2), .int (er_ey X Y 2), .int (er_ea X Y 2), .int (er_ed X Y 2), .int (er_lw (er_ea X Y 2) (er_ed X Y 2))])), (v0, .inl (k0, 28, .inl (upd f0 n p2))), (v1, .inl (k1, 28, .inl f1)), (v2, .inl (k2, 28, .inl f2)), (h0, .inr (1, [.ref h1, .ref h2, .ref h3, .long (er_ar X Y), .int wx, .int wy, .int ww, .int wh, .int 0, .int 0, .int lx, .int ly]))] H := hP
      have hD : va_D A [(h1, .inr (0, [.int (X 0), .int (Y 0), .int (D 0), .int (Q 0), .ref v0, .int (er_ex X Y 0), .int (er_ey X Y 0), .int (er_ea X Y 0), .int (er_ed X Y 0), .int (er_lw (er_ea X Y 0) (er_ed X Y 0))])), (h2, .inr (0, [.int (X 1), .int (Y 1), .int (D 1), .int (Q 1), .ref v1, .int (er_ex X Y 1), .int (er_ey X Y 1), .int (er_ea X Y 1), .int (er_ed X Y 1), .int (er_lw (er_ea X Y 1) (er_ed X Y 1))])), (h3, .inr (0, [.int (X 2), .int (Y 2), .int (D 2), .int (Q 2), .ref v2, .int (er_ex X Y 2), .int (er_ey X Y 2), .int (er_ea X Y 2), .int (er_ed X Y 2), .int (er_lw (er_ea X Y 2) (er_ed X Y 2))])), (v0, .inl (k0, 28, .inl (upd f0 n p2))), (v1, .inl (k1, 28, .inl f1)), (v2, .inl (k2, 28, .inl f2)), (h0, .inr (1, [.ref h1, .ref h2, .ref h3, .long (er_ar X Y), .int wx, .int wy, .int ww, .int wh, .int 0, .int 0, .int lx, .int ly]))] := hD
      have hK : va_K (dC, dI) classes [(k0, .int), (k1, .int), (k2, .int)] s := hK
      have hP9 := hP.sub (ws' := [(h0, .inr (1, [.ref h1, .ref h2, .ref h3, .long (er_ar X Y), .int wx, .int wy, .int ww, .int wh, .int 0, .int 0, .int lx, .int ly])), (h1, .inr (0, [.int (X 0), .int (Y 0), .int (D 0), .int (Q 0), .ref v0, .int (er_ex X Y 0), .int (er_ey X Y 0), .int (er_ea X Y 0), .int (er_ed X Y 0), .int (er_lw (er_ea X Y 0) (er_ed X Y 0))])), (h2, .inr (0, [.int (X 1), .int (Y 1), .int (D 1), .int (Q 1), .ref v1, .int (er_ex X Y 1), .int (er_ey X Y 1), .int (er_ea X Y 1), .int (er_ed X Y 1), .int (er_lw (er_ea X Y 1) (er_ed X Y 1))])), (h3, .inr (0, [.int (X 2), .int (Y 2), .int (D 2), .int (Q 2), .ref v2, .int (er_ex X Y 2), .int (er_ey X Y 2), .int (er_ea X Y 2), .int (er_ed X Y 2), .int (er_lw (er_ea X Y 2) (er_ed X Y 2))])), (v0, .inl (k0, 28, .inl (upd f0 n p2))), (v1, .inl (k1, 28, .inl f1)), (v2, .inl (k2, 28, .inl f2))]) [6, 0, 1, 2, 3, 4, 5] rfl
      have hD9 := hD.sub (ws' := [(h0, .inr (1, [.ref h1, .ref h2, .ref h3, .long (er_ar X Y), .int wx, .int wy, .int ww, .int wh, .int 0, .int 0, .int lx, .int ly])), (h1, .inr (0, [.int (X 0), .int (Y 0), .int (D 0), .int (Q 0), .ref v0, .int (er_ex X Y 0), .int (er_ey X Y 0), .int (er_ea X Y 0), .int (er_ed X Y 0), .int (er_lw (er_ea X Y 0) (er_ed X Y 0))])), (h2, .inr (0, [.int (X 1), .int (Y 1), .int (D 1), .int (Q 1), .ref v1, .int (er_ex X Y 1), .int (er_ey X Y 1), .int (er_ea X Y 1), .int (er_ed X Y 1), .int (er_lw (er_ea X Y 1) (er_ed X Y 1))])), (h3, .inr (0, [.int (X 2), .int (Y 2), .int (D 2), .int (Q 2), .ref v2, .int (er_ex X Y 2), .int (er_ey X Y 2), .int (er_ea X Y 2), .int (er_ed X Y 2), .int (er_lw (er_ea X Y 2) (er_ed X Y 2))])), (v0, .inl (k0, 28, .inl (upd f0 n p2))), (v1, .inl (k1, 28, .inl f1)), (v2, .inl (k2, 28, .inl f2))]) [6, 0, 1, 2, 3, 4, 5] (by decide) rfl
      have hK9 := hK.sub (tys' := [(k0, .int), (k1, .int), (k2, .int)]) [0, 1, 2] rfl
      exact W.vret hx hb hr (fun u9 ht hW => ⟨⟨(), rfl, trivial, ⟨by rw [ht]; exact hP9, va_K.moved hW.alike hK9, hD9⟩⟩, hS.F ht⟩) hS.2.2 d_E_value_39
    · have c_4 := er_b_0.mp c_4
      exact absurd c_4 (by simp_all)

set_option maxHeartbeats 1000000 in
set_option maxRecDepth 100000 in
theorem c_E_corner1 (l : Launch) (dC : Nat → ClassId) (dI : Nat → Nat → Nat) (h0 h1 h2 h3 v0 v1 v2 : Nat) (X Y D Q : Nat → Int32) (wx wy ww wh wk on lx ly : Int32) (p1 p2 p3 p4 : Int32) (u1 : er_win p1 (-16384) 16383 = true) (u2 : er_win p2 (-16384) 16383 = true) (u3 : er_win p3 0 16777215 = true) (u4 : er_win p4 1 8388608 = true) (sz : Nat) : Met l y_E_corner w_E_corner ({ frames := 6, cells := 0, slots := 0, locals := 82 }) (va_Pc [.ref h0, .int 1, .int p1, .int p2, .int p3, .int p4] (PI dC dI [] [(h0, .inr (1, [.ref h1, .ref h2, .ref h3, .long (er_ar X Y), .int wx, .int wy, .int ww, .int wh, .int wk, .int on, .int lx, .int ly])), (h1, .inr (0, [.int (X 0), .int (Y 0), .int (D 0), .int (Q 0), .ref v0, .int (er_ex X Y 0), .int (er_ey X Y 0), .int (er_ea X Y 0), .int (er_ed X Y 0), .int (er_lw (er_ea X Y 0) (er_ed X Y 0))])), (h2, .inr (0, [.int (X 1), .int (Y 1), .int (D 1), .int (Q 1), .ref v1, .int (er_ex X Y 1), .int (er_ey X Y 1), .int (er_ea X Y 1), .int (er_ed X Y 1), .int (er_lw (er_ea X Y 1) (er_ed X Y 1))])), (h3, .inr (0, [.int (X 2), .int (Y 2), .int (D 2), .int (Q 2), .ref v2, .int (er_ex X Y 2), .int (er_ey X Y 2), .int (er_ea X Y 2), .int (er_ed X Y 2), .int (er_lw (er_ea X Y 2) (er_ed X Y 2))]))] sz)) (va_Qv (fun (u : Unit) => True) (fun (u : Unit) t => EI dC dI [] [(h0, .inr (1, [.ref h1, .ref h2, .ref h3, .long (er_ar (upd X 1 p1) (upd Y 1 p2)), .int wx, .int wy, .int ww, .int wh, .int 0, .int 0, .int lx, .int ly])), (h1, .inr (0, [.int ((upd X 1 p1) 0), .int ((upd Y 1 p2) 0), .int ((upd D 1 p3) 0), .int ((upd Q 1 p4) 0), .ref v0, .int (er_ex (upd X 1 p1) (upd Y 1 p2) 0), .int (er_ey (upd X 1 p1) (upd Y 1 p2) 0), .int (er_ea (upd X 1 p1) (upd Y 1 p2) 0), .int (er_ed (upd X 1 p1) (upd Y 1 p2) 0), .int (er_lw (er_ea (upd X 1 p1) (upd Y 1 p2) 0) (er_ed (upd X 1 p1) (upd Y 1 p2) 0))])), (h2, .inr (0, [.int ((upd X 1 p1) 1), .int ((upd Y 1 p2) 1), .int ((upd D 1 p3) 1), .int ((upd Q 1 p4) 1), .ref v1, .int (er_ex (upd X 1 p1) (upd Y 1 p2) 1), .int (er_ey (upd X 1 p1) (upd Y 1 p2) 1), .int (er_ea (upd X 1 p1) (upd Y 1 p2) 1), .int (er_ed (upd X 1 p1) (upd Y 1 p2) 1), .int (er_lw (er_ea (upd X 1 p1) (upd Y 1 p2) 1) (er_ed (upd X 1 p1) (upd Y 1 p2) 1))])), (h3, .inr (0, [.int ((upd X 1 p1) 2), .int ((upd Y 1 p2) 2), .int ((upd D 1 p3) 2), .int ((upd Q 1 p4) 2), .ref v2, .int (er_ex (upd X 1 p1) (upd Y 1 p2) 2), .int (er_ey (upd X 1 p1) (upd Y 1 p2) 2), .int (er_ea (upd X 1 p1) (upd Y 1 p2) 2), .int (er_ed (upd X 1 p1) (upd Y 1 p2) 2), .int (er_lw (er_ea (upd X 1 p1) (upd Y 1 p2) 2) (er_ed (upd X 1 p1) (upd Y 1 p2) 2))]))] (va_A [(h0, .inr (1, [.ref h1, .ref h2, .ref h3, .long (er_ar X Y), .int wx, .int wy, .int ww, .int wh, .int wk, .int on, .int lx, .int ly])), (h1, .inr (0, [.int (X 0), .int (Y 0), .int (D 0), .int (Q 0), .ref v0, .int (er_ex X Y 0), .int (er_ey X Y 0), .int (er_ea X Y 0), .int (er_ed X Y 0), .int (er_lw (er_ea X Y 0) (er_ed X Y 0))])), (h2, .inr (0, [.int (X 1), .int (Y 1), .int (D 1), .int (Q 1), .ref v1, .int (er_ex X Y 1), .int (er_ey X Y 1), .int (er_ea X Y 1), .int (er_ed X Y 1), .int (er_lw (er_ea X Y 1) (er_ed X Y 1))])), (h3, .inr (0, [.int (X 2), .int (Y 2), .int (D 2), .int (Q 2), .ref v2, .int (er_ex X Y 2), .int (er_ey X Y 2), .int (er_ea X Y 2), .int (er_ed X Y 2), .int (er_lw (er_ea X Y 2) (er_ed X Y 2))]))] sz) t) (va_A [(h0, .inr (1, [.ref h1, .ref h2, .ref h3, .long (er_ar X Y), .int wx, .int wy, .int ww, .int wh, .int wk, .int on, .int lx, .int ly])), (h1, .inr (0, [.int (X 0), .int (Y 0), .int (D 0), .int (Q 0), .ref v0, .int (er_ex X Y 0), .int (er_ey X Y 0), .int (er_ea X Y 0), .int (er_ed X Y 0), .int (er_lw (er_ea X Y 0) (er_ed X Y 0))])), (h2, .inr (0, [.int (X 1), .int (Y 1), .int (D 1), .int (Q 1), .ref v1, .int (er_ex X Y 1), .int (er_ey X Y 1), .int (er_ea X Y 1), .int (er_ed X Y 1), .int (er_lw (er_ea X Y 1) (er_ed X Y 1))])), (h3, .inr (0, [.int (X 2), .int (Y 2), .int (D 2), .int (Q 2), .ref v2, .int (er_ex X Y 2), .int (er_ey X Y 2), .int (er_ea X Y 2), .int (er_ed X Y 2), .int (er_lw (er_ea X Y 2) (er_ed X Y 2))]))] sz)) 0 0 (va_A [(h0, .inr (1, [.ref h1, .ref h2, .ref h3, .long (er_ar X Y), .int wx, .int wy, .int ww, .int wh, .int wk, .int on, .int lx, .int ly])), (h1, .inr (0, [.int (X 0), .int (Y 0), .int (D 0), .int (Q 0), .ref v0, .int (er_ex X Y 0), .int (er_ey X Y 0), .int (er_ea X Y 0), .int (er_ed X Y 0), .int (er_lw (er_ea X Y 0) (er_ed X Y 0))])), (h2, .inr (0, [.int (X 1), .int (Y 1), .int (D 1), .int (Q 1), .ref v1, .int (er_ex X Y 1), .int (er_ey X Y 1), .int (er_ea X Y 1), .int (er_ed X Y 1), .int (er_lw (er_ea X Y 1) (er_ed X Y 1))])), (h3, .inr (0, [.int (X 2), .int (Y 2), .int (D 2), .int (Q 2), .ref v2, .int (er_ex X Y 2), .int (er_ey X Y 2), .int (er_ea X Y 2), .int (er_ed X Y 2), .int (er_lw (er_ea X Y 2) (er_ed X Y 2))]))] sz) := by
  refine Met.ofW (cc := b_E_corner) (maxL := 7) (ret := none) (by decide +kernel) rfl ?_
  intro p e s m args below meth c s₁ B hml hv
  obtain ⟨rfl, hsz, hN, hK, hP, hD0⟩ := hv
  have hx := B.exec
  have hb := B.bytes
  have hr := B.returns
  have hts := er_hts (atoms_spec (ws := w_E_corner) B.pre)
  have hown : s.vm.findClass R_E = some m.cls := findClass_of_methodNamed B.named
  have hlocks := B.notSynchronized
  subst hsz
  have hD := hD0.self (sz := s.heap.size)
  generalize hAe : va_A [(h0, .inr (1, [.ref h1, .ref h2, .ref h3, .long (er_ar X Y), .int wx, .int wy, .int ww, .int wh, .int wk, .int on, .int lx, .int ly])), (h1, .inr (0, [.int (X 0), .int (Y 0), .int (D 0), .int (Q 0), .ref v0, .int (er_ex X Y 0), .int (er_ey X Y 0), .int (er_ea X Y 0), .int (er_ed X Y 0), .int (er_lw (er_ea X Y 0) (er_ed X Y 0))])), (h2, .inr (0, [.int (X 1), .int (Y 1), .int (D 1), .int (Q 1), .ref v1, .int (er_ex X Y 1), .int (er_ey X Y 1), .int (er_ea X Y 1), .int (er_ed X Y 1), .int (er_lw (er_ea X Y 1) (er_ed X Y 1))])), (h3, .inr (0, [.int (X 2), .int (Y 2), .int (D 2), .int (Q 2), .ref v2, .int (er_ex X Y 2), .int (er_ey X Y 2), .int (er_ea X Y 2), .int (er_ed X Y 2), .int (er_lw (er_ea X Y 2) (er_ed X Y 2))]))] s.heap.size = A at hD ⊢
  have hA : ∀ q : Nat, s.heap.size ≤ q → A q := fun q h => by rw [← hAe]; exact Or.inr h
  have hS : va_S A s.heap s.heap [] := va_S.rf
  have hP : va_P (dC, dI) classes [(h0, .inr (1, [.ref h1, .ref h2, .ref h3, .long (er_ar X Y), .int wx, .int wy, .int ww, .int wh, .int wk, .int on, .int lx, .int ly])), (h1, .inr (0, [.int (X 0), .int (Y 0), .int (D 0), .int (Q 0), .ref v0, .int (er_ex X Y 0), .int (er_ey X Y 0), .int (er_ea X Y 0), .int (er_ed X Y 0), .int (er_lw (er_ea X Y 0) (er_ed X Y 0))])), (h2, .inr (0, [.int (X 1), .int (Y 1), .int (D 1), .int (Q 1), .ref v1, .int (er_ex X Y 1), .int (er_ey X Y 1), .int (er_ea X Y 1), .int (er_ed X Y 1), .int (er_lw (er_ea X Y 1) (er_ed X Y 1))])), (h3, .inr (0, [.int (X 2), .int (Y 2), .int (D 2), .int (Q 2), .ref v2, .int (er_ex X Y 2), .int (er_ey X Y 2), .int (er_ea X Y 2), .int (er_ed X Y 2), .int (er_lw (er_ea X Y 2) (er_ed X Y 2))]))] s.heap := hP
  have hl := lv_entry ([.ref h0, .int 1, .int p1, .int p2, .int p3, .int p4]) (n := 7) (Nat.le_of_ble_eq_true rfl)
  rw [lg_entry_eq]
  generalize (lg_sl ([.ref h0, .int 1, .int p1, .int p2, .int p3, .int p4]) ++ List.replicate (7 - (lg_sl ([.ref h0, .int 1, .int p1, .int p2, .int p3, .int p4])).length) Slot.unset).toArray = ls at hl ⊢
  have hl : lv_has ls 7 [(0, .ref h0), (1, .int 1), (2, .int p1), (3, .int p2), (4, .int p3), (5, .int p4)] := hl
  have u0 : er_win 1 0 2 = true := by decide
  refine lv_iload_n hx hb d_E_corner_0 rfl (lv_at hl 1 rfl) ?_
  have hPc := hP.sub (ws' := []) [] rfl
  have hKc := hK.sub (tys' := []) [] rfl
  refine vp_callSi (va_runS (As := [.int 1]) (rest := []) ⟨hx, hb, hml, hown, hts⟩ (c_E_isCorner l dC dI 1) (va_cwS 1 hts (er_gS k_137 k_138 k_18 k_139) rfl rfl rfl (by decide +kernel) ⟨Nat.le_of_ble_eq_true rfl, Nat.le_of_ble_eq_true rfl⟩) ⟨PP.blind, PP.at hN hKc hPc⟩ rfl rfl hl.1 rfl (lv_room (Nat.le_of_ble_eq_true rfl)) d_E_corner_1 ⟨Nat.zero_le _, Nat.zero_le _⟩).run (fun r_1 hr_1 => ?_)
  obtain rfl : er_b (er_win 1 0 2) = r_1 := Eq.symm hr_1
  refine lv_if_ne (tgt := 17) hx hb d_E_corner_4 (by decide) (fun c_2 => ?_) (fun c_2 => ?_)
  · have c_2 := er_b_n.mp c_2
    refine lv_iload_n hx hb d_E_corner_17 rfl (lv_at hl 2 rfl) ?_
    refine lv_sipush (v := (-16384)) hx hb d_E_corner_18 (by decide) ?_
    refine lv_sipush (v := 16383) hx hb d_E_corner_21 (by decide) ?_
    have hPc := hP.sub (ws' := []) [] rfl
    have hKc := hK.sub (tys' := []) [] rfl
    refine vp_callSi (va_runS (As := [.int p1, .int (-16384), .int 16383]) (rest := []) ⟨hx, hb, hml, hown, hts⟩ (c_E_within l dC dI p1 (-16384) 16383) (va_cwS 3 hts (er_gS k_140 k_141 k_18 k_142) rfl rfl rfl (by decide +kernel) ⟨Nat.le_of_ble_eq_true rfl, Nat.le_of_ble_eq_true rfl⟩) ⟨PP.blind, PP.at hN hKc hPc⟩ rfl rfl hl.1 rfl (lv_room (Nat.le_of_ble_eq_true rfl)) d_E_corner_24 ⟨Nat.zero_le _, Nat.zero_le _⟩).run (fun r_3 hr_3 => ?_)
    obtain rfl : er_b (er_win p1 (-16384) 16383) = r_3 := Eq.symm hr_3
    refine lv_if_eq (tgt := 43) hx hb d_E_corner_27 (by decide) (fun c_4 => ?_) (fun c_4 => ?_)
    · have c_4 := er_b_0.mp c_4
      exact absurd c_4 (by simp_all)
    · have c_4 := er_b_n.mp c_4
      refine lv_iload_n hx hb d_E_corner_30 rfl (lv_at hl 3 rfl) ?_
      refine lv_sipush (v := (-16384)) hx hb d_E_corner_31 (by decide) ?_
      refine lv_sipush (v := 16383) hx hb d_E_corner_34 (by decide) ?_
      have hPc := hP.sub (ws' := []) [] rfl
      have hKc := hK.sub (tys' := []) [] rfl
      refine vp_callSi (va_runS (As := [.int p2, .int (-16384), .int 16383]) (rest := []) ⟨hx, hb, hml, hown, hts⟩ (c_E_within l dC dI p2 (-16384) 16383) (va_cwS 3 hts (er_gS k_140 k_141 k_18 k_142) rfl rfl rfl (by decide +kernel) ⟨Nat.le_of_ble_eq_true rfl, Nat.le_of_ble_eq_true rfl⟩) ⟨PP.blind, PP.at hN hKc hPc⟩ rfl rfl hl.1 rfl (lv_room (Nat.le_of_ble_eq_true rfl)) d_E_corner_37 ⟨Nat.zero_le _, Nat.zero_le _⟩).run (fun r_5 hr_5 => ?_)
      obtain rfl : er_b (er_win p2 (-16384) 16383) = r_5 := Eq.symm hr_5
      refine lv_if_ne (tgt := 53) hx hb d_E_corner_40 (by decide) (fun c_6 => ?_) (fun c_6 => ?_)
      · have c_6 := er_b_n.mp c_6
        refine lv_iload hx hb d_E_corner_53 (lv_at hl 4 rfl) ?_
        refine lv_iconst (v := 0) hx hb d_E_corner_55 (by decide) ?_
        refine lv_ldc (v := 16777215) hx hb hown (hts (.constant R_E 69 16777215) (by decide +kernel)) d_E_corner_56 ?_
        have hPc := hP.sub (ws' := []) [] rfl
        have hKc := hK.sub (tys' := []) [] rfl
        refine vp_callSi (va_runS (As := [.int p3, .int 0, .int 16777215]) (rest := []) ⟨hx, hb, hml, hown, hts⟩ (c_E_within l dC dI p3 0 16777215) (va_cwS 3 hts (er_gS k_140 k_141 k_18 k_142) rfl rfl rfl (by decide +kernel) ⟨Nat.le_of_ble_eq_true rfl, Nat.le_of_ble_eq_true rfl⟩) ⟨PP.blind, PP.at hN hKc hPc⟩ rfl rfl hl.1 rfl (lv_room (Nat.le_of_ble_eq_true rfl)) d_E_corner_58 ⟨Nat.zero_le _, Nat.zero_le _⟩).run (fun r_7 hr_7 => ?_)
        obtain rfl : er_b (er_win p3 0 16777215) = r_7 := Eq.symm hr_7
        refine lv_if_ne (tgt := 74) hx hb d_E_corner_61 (by decide) (fun c_8 => ?_) (fun c_8 => ?_)
        · have c_8 := er_b_n.mp c_8
          refine lv_iload hx hb d_E_corner_74 (lv_at hl 5 rfl) ?_
          refine lv_iconst (v := 1) hx hb d_E_corner_76 (by decide) ?_
          refine lv_ldc (v := 8388608) hx hb hown (hts (.constant R_E 72 8388608) (by decide +kernel)) d_E_corner_77 ?_
          have hPc := hP.sub (ws' := []) [] rfl
          have hKc := hK.sub (tys' := []) [] rfl
          refine vp_callSi (va_runS (As := [.int p4, .int 1, .int 8388608]) (rest := []) ⟨hx, hb, hml, hown, hts⟩ (c_E_within l dC dI p4 1 8388608) (va_cwS 3 hts (er_gS k_140 k_141 k_18 k_142) rfl rfl rfl (by decide +kernel) ⟨Nat.le_of_ble_eq_true rfl, Nat.le_of_ble_eq_true rfl⟩) ⟨PP.blind, PP.at hN hKc hPc⟩ rfl rfl hl.1 rfl (lv_room (Nat.le_of_ble_eq_true rfl)) d_E_corner_79 ⟨Nat.zero_le _, Nat.zero_le _⟩).run (fun r_9 hr_9 => ?_)
          obtain rfl : er_b (er_win p4 1 8388608) = r_9 := Eq.symm hr_9
          refine lv_if_ne (tgt := 95) hx hb d_E_corner_82 (by decide) (fun c_10 => ?_) (fun c_10 => ?_)
          · have c_10 := er_b_n.mp c_10
            refine lv_aload_n hx hb d_E_corner_95 rfl (lv_at hl 0 rfl) ?_
            refine lv_iload_n hx hb d_E_corner_96 rfl (lv_at hl 1 rfl) ?_
            have hPc := hP.sub (ws' := [(h0, .inr (1, [.ref h1, .ref h2, .ref h3, .long (er_ar X Y), .int wx, .int wy, .int ww, .int wh, .int wk, .int on, .int lx, .int ly]))]) [0] rfl
            have hKc := hK.sub (tys' := []) [] rfl
            refine va_csr (va_runV (As := [.int 1]) (rest := []) ⟨hx, hb, hml, hown, hts⟩ (c_E_cornerOf1 l dC dI h0 h1 h2 h3 (er_ar X Y) wx wy ww wh wk on lx ly) (cwV 1 hts (er_gV k_200 k_201 k_4 k_18 k_202) rfl rfl rfl (by decide +kernel) ⟨Nat.le_of_ble_eq_true rfl, Nat.le_of_ble_eq_true rfl⟩) ⟨PP.blind, va_recv hKc hPc (ci := 1) (q0 := 0) rfl rfl, PP.at hN hKc hPc⟩ rfl rfl hl.1 rfl (lv_room (Nat.le_of_ble_eq_true rfl)) d_E_corner_97 ⟨Nat.zero_le _, Nat.zero_le _⟩).run (fun r_11 hr_11 => ?_)
            obtain rfl : h2 = r_11 := Eq.symm hr_11
            refine lv_astore (lv' := [(6, .ref h2), (0, .ref h0), (1, .int 1), (2, .int p1), (3, .int p2), (4, .int p3), (5, .int p4)]) hx hb d_E_corner_100 hl (by decide) rfl (fun ls hl => ?_)
            refine lv_aload hx hb d_E_corner_102 (lv_at hl 0 rfl) ?_
            refine lv_iload_n hx hb d_E_corner_104 rfl (lv_at hl 3 rfl) ?_
            refine va_putN (D := (dC, dI)) (ci := 0) (v := .int p1) (ty := .int) (C := R_C) (T := F_C) (N := 10) hx hb hts i_C t_C t_C_ok n_C hown hK hP hD hS 2 rfl rfl 0 (by decide) (va_Nw.use rfl (hN _ kn_1)) (fun _ h9 => h9) rfl (by decide +kernel) rfl rfl (Nat.le_of_ble_eq_true rfl) d_E_corner_105 (fun H locs hP hD hS => ?_)
            have hP : va_P (dC, dI) classes [(h0, .inr (1, [.ref h1, .ref h2, .ref h3, .long (er_ar X Y), .int wx, .int wy, .int ww, .int wh, .int wk, .int on, .int lx, .int ly])), (h1, .inr (0, [.int (X 0), .int (Y 0), .int (D 0), .int (Q 0), .ref v0, .int (er_ex X Y 0), .int (er_ey X Y 0), .int (er_ea X Y 0), .int (er_ed X Y 0), .int (er_lw (er_ea X Y 0) (er_ed X Y 0))])), (h2, .inr (0, [.int p1, .int (Y 1), .int (D 1), .int (Q 1), .ref v1, .int (er_ex X Y 1), .int (er_ey X Y 1), .int (er_ea X Y 1), .int (er_ed X Y 1), .int (er_lw (er_ea X Y 1) (er_ed X Y 1))])), (h3, .inr (0, [.int (X 2), .int (Y 2), .int (D 2), .int (Q 2), .ref v2, .int (er_ex X Y 2), .int (er_ey X Y 2), .int (er_ea X Y 2), .int (er_ed X Y 2), .int (er_lw (er_ea X Y 2) (er_ed X Y 2))]))] H := hP
            have hD : va_D A [(h0, .inr (1, [.ref h1, .ref h2, .ref h3, .long (er_ar X Y), .int wx, .int wy, .int ww, .int wh, .int wk, .int on, .int lx, .int ly])), (h1, .inr (0, [.int (X 0), .int (Y 0), .int (D 0), .int (Q 0), .ref v0, .int (er_ex X Y 0), .int (er_ey X Y 0), .int (er_ea X Y 0), .int (er_ed X Y 0), .int (er_lw (er_ea X Y 0) (er_ed X Y 0))])), (h2, .inr (0, [.int p1, .int (Y 1), .int (D 1), .int (Q 1), .ref v1, .int (er_ex X Y 1), .int (er_ey X Y 1), .int (er_ea X Y 1), .int (er_ed X Y 1), .int (er_lw (er_ea X Y 1) (er_ed X Y 1))])), (h3, .inr (0, [.int (X 2), .int (Y 2), .int (D 2), .int (Q 2), .ref v2, .int (er_ex X Y 2), .int (er_ey X Y 2), .int (er_ea X Y 2), .int (er_ed X Y 2), .int (er_lw (er_ea X Y 2) (er_ed X Y 2))]))] := hD
            refine lv_aload hx hb d_E_corner_108 (lv_at hl 0 rfl) ?_
            refine lv_iload_n hx hb d_E_corner_110 rfl (lv_at hl 4 rfl) ?_
            refine va_putN (D := (dC, dI)) (ci := 0) (v := .int p2) (ty := .int) (C := R_C) (T := F_C) (N := 10) hx hb hts i_C t_C t_C_ok n_C hown hK hP hD hS 2 rfl rfl 1 (by decide) (va_Nw.use rfl (hN _ kn_2)) (fun _ h9 => h9) rfl (by decide +kernel) rfl rfl (Nat.le_of_ble_eq_true rfl) d_E_corner_111 (fun H locs hP hD hS => ?_)
            have hP : va_P (dC, dI) classes [(h0, .inr (1, [.ref h1, .ref h2, .ref h3, .long (er_ar X Y), .int wx, .int wy, .int ww, .int wh, .int wk, .int on, .int lx, .int ly])), (h1, .inr (0, [.int (X 0), .int (Y 0), .int (D 0), .int (Q 0), .ref v0, .int (er_ex X Y 0), .int (er_ey X Y 0), .int (er_ea X Y 0), .int (er_ed X Y 0), .int (er_lw (er_ea X Y 0) (er_ed X Y 0))])), (h2, .inr (0, [.int p1, .int p2, .int (D 1), .int (Q 1), .ref v1, .int (er_ex X Y 1), .int (er_ey X Y 1), .int (er_ea X Y 1), .int (er_ed X Y 1), .int (er_lw (er_ea X Y 1) (er_ed X Y 1))])), (h3, .inr (0, [.int (X 2), .int (Y 2), .int (D 2), .int (Q 2), .ref v2, .int (er_ex X Y 2), .int (er_ey X Y 2), .int (er_ea X Y 2), .int (er_ed X Y 2), .int (er_lw (er_ea X Y 2) (er_ed X Y 2))]))] H := hP
            have hD : va_D A [(h0, .inr (1, [.ref h1, .ref h2, .ref h3, .long (er_ar X Y), .int wx, .int wy, .int ww, .int wh, .int wk, .int on, .int lx, .int ly])), (h1, .inr (0, [.int (X 0), .int (Y 0), .int (D 0), .int (Q 0), .ref v0, .int (er_ex X Y 0), .int (er_ey X Y 0), .int (er_ea X Y 0), .int (er_ed X Y 0), .int (er_lw (er_ea X Y 0) (er_ed X Y 0))])), (h2, .inr (0, [.int p1, .int p2, .int (D 1), .int (Q 1), .ref v1, .int (er_ex X Y 1), .int (er_ey X Y 1), .int (er_ea X Y 1), .int (er_ed X Y 1), .int (er_lw (er_ea X Y 1) (er_ed X Y 1))])), (h3, .inr (0, [.int (X 2), .int (Y 2), .int (D 2), .int (Q 2), .ref v2, .int (er_ex X Y 2), .int (er_ey X Y 2), .int (er_ea X Y 2), .int (er_ed X Y 2), .int (er_lw (er_ea X Y 2) (er_ed X Y 2))]))] := hD
            refine lv_aload hx hb d_E_corner_114 (lv_at hl 0 rfl) ?_
            refine lv_iload hx hb d_E_corner_116 (lv_at hl 5 rfl) ?_
            refine va_putN (D := (dC, dI)) (ci := 0) (v := .int p3) (ty := .int) (C := R_C) (T := F_C) (N := 10) hx hb hts i_C t_C t_C_ok n_C hown hK hP hD hS 2 rfl rfl 2 (by decide) (va_Nw.use rfl (hN _ kn_3)) (fun _ h9 => h9) rfl (by decide +kernel) rfl rfl (Nat.le_of_ble_eq_true rfl) d_E_corner_118 (fun H locs hP hD hS => ?_)
            have hP : va_P (dC, dI) classes [(h0, .inr (1, [.ref h1, .ref h2, .ref h3, .long (er_ar X Y), .int wx, .int wy, .int ww, .int wh, .int wk, .int on, .int lx, .int ly])), (h1, .inr (0, [.int (X 0), .int (Y 0), .int (D 0), .int (Q 0), .ref v0, .int (er_ex X Y 0), .int (er_ey X Y 0), .int (er_ea X Y 0), .int (er_ed X Y 0), .int (er_lw (er_ea X Y 0) (er_ed X Y 0))])), (h2, .inr (0, [.int p1, .int p2, .int p3, .int (Q 1), .ref v1, .int (er_ex X Y 1), .int (er_ey X Y 1), .int (er_ea X Y 1), .int (er_ed X Y 1), .int (er_lw (er_ea X Y 1) (er_ed X Y 1))])), (h3, .inr (0, [.int (X 2), .int (Y 2), .int (D 2), .int (Q 2), .ref v2, .int (er_ex X Y 2), .int (er_ey X Y 2), .int (er_ea X Y 2), .int (er_ed X Y 2), .int (er_lw (er_ea X Y 2) (er_ed X Y 2))]))] H := hP
            have hD : va_D A [(h0, .inr (1, [.ref h1, .ref h2, .ref h3, .long (er_ar X Y), .int wx, .int wy, .int ww, .int wh, .int wk, .int on, .int lx, .int ly])), (h1, .inr (0, [.int (X 0), .int (Y 0), .int (D 0), .int (Q 0), .ref v0, .int (er_ex X Y 0), .int (er_ey X Y 0), .int (er_ea X Y 0), .int (er_ed X Y 0), .int (er_lw (er_ea X Y 0) (er_ed X Y 0))])), (h2, .inr (0, [.int p1, .int p2, .int p3, .int (Q 1), .ref v1, .int (er_ex X Y 1), .int (er_ey X Y 1), .int (er_ea X Y 1), .int (er_ed X Y 1), .int (er_lw (er_ea X Y 1) (er_ed X Y 1))])), (h3, .inr (0, [.int (X 2), .int (Y 2), .int (D 2), .int (Q 2), .ref v2, .int (er_ex X Y 2), .int (er_ey X Y 2), .int (er_ea X Y 2), .int (er_ed X Y 2), .int (er_lw (er_ea X Y 2) (er_ed X Y 2))]))] := hD
            refine lv_aload hx hb d_E_corner_121 (lv_at hl 0 rfl) ?_
            refine lv_iload hx hb d_E_corner_123 (lv_at hl 6 rfl) ?_
            refine va_putN (D := (dC, dI)) (ci := 0) (v := .int p4) (ty := .int) (C := R_C) (T := F_C) (N := 10) hx hb hts i_C t_C t_C_ok n_C hown hK hP hD hS 2 rfl rfl 3 (by decide) (va_Nw.use rfl (hN _ kn_4)) (fun _ h9 => h9) rfl (by decide +kernel) rfl rfl (Nat.le_of_ble_eq_true rfl) d_E_corner_125 (fun H locs hP hD hS => ?_)
            have hP : va_P (dC, dI) classes [(h0, .inr (1, [.ref h1, .ref h2, .ref h3, .long (er_ar X Y), .int wx, .int wy, .int ww, .int wh, .int wk, .int on, .int lx, .int ly])), (h1, .inr (0, [.int (X 0), .int (Y 0), .int (D 0), .int (Q 0), .ref v0, .int (er_ex X Y 0), .int (er_ey X Y 0), .int (er_ea X Y 0), .int (er_ed X Y 0), .int (er_lw (er_ea X Y 0) (er_ed X Y 0))])), (h2, .inr (0, [.int p1, .int p2, .int p3, .int p4, .ref v1, .int (er_ex X Y 1), .int (er_ey X Y 1), .int (er_ea X Y 1), .int (er_ed X Y 1), .int (er_lw (er_ea X Y 1) (er_ed X Y 1))])), (h3, .inr (0, [.int (X 2), .int (Y 2), .int (D 2), .int (Q 2), .ref v2, .int (er_ex X Y 2), .int (er_ey X Y 2), .int (er_ea X Y 2), .int (er_ed X Y 2), .int (er_lw (er_ea X Y 2) (er_ed X Y 2))]))] H := hP
            have hD : va_D A [(h0, .inr (1, [.ref h1, .ref h2, .ref h3, .long (er_ar X Y), .int wx, .int wy, .int ww, .int wh, .int wk, .int on, .int lx, .int ly])), (h1, .inr (0, [.int (X 0), .int (Y 0), .int (D 0), .int (Q 0), .ref v0, .int (er_ex X Y 0), .int (er_ey X Y 0), .int (er_ea X Y 0), .int (er_ed X Y 0), .int (er_lw (er_ea X Y 0) (er_ed X Y 0))])), (h2, .inr (0, [.int p1, .int p2, .int p3, .int p4, .ref v1, .int (er_ex X Y 1), .int (er_ey X Y 1), .int (er_ea X Y 1), .int (er_ed X Y 1), .int (er_lw (er_ea X Y 1) (er_ed X Y 1))])), (h3, .inr (0, [.int (X 2), .int (Y 2), .int (D 2), .int (Q 2), .ref v2, .int (er_ex X Y 2), .int (er_ey X Y 2), .int (er_ea X Y 2), .int (er_ed X Y 2), .int (er_lw (er_ea X Y 2) (er_ed X Y 2))]))] := hD
            have hP : va_P (dC, dI) classes [(h0, .inr (1, [.ref h1, .ref h2, .ref h3, .long (er_ar X Y), .int wx, .int wy, .int ww, .int wh, .int wk, .int on, .int lx, .int ly])), (h1, .inr (0, [.int ((upd X 1 p1) 0), .int ((upd Y 1 p2) 0), .int ((upd D 1 p3) 0), .int ((upd Q 1 p4) 0), .ref v0, .int (er_ex X Y 0), .int (er_ey X Y 0), .int (er_ea X Y 0), .int (er_ed X Y 0), .int (er_lw (er_ea X Y 0) (er_ed X Y 0))])), (h2, .inr (0, [.int ((upd X 1 p1) 1), .int ((upd Y 1 p2) 1), .int ((upd D 1 p3) 1), .int ((upd Q 1 p4) 1), .ref v1, .int (er_ex X Y 1), .int (er_ey X Y 1), .int (er_ea X Y 1), .int (er_ed X Y 1), .int (er_lw (er_ea X Y 1) (er_ed X Y 1))])), (h3, .inr (0, [.int ((upd X 1 p1) 2), .int ((upd Y 1 p2) 2), .int ((upd D 1 p3) 2), .int ((upd Q 1 p4) 2), .ref v2, .int (er_ex X Y 2), .int (er_ey X Y 2), .int (er_ea X Y 2), .int (er_ed X Y 2), .int (er_lw (er_ea X Y 2) (er_ed X Y 2))]))] H := hP
            have hD : va_D A [(h0, .inr (1, [.ref h1, .ref h2, .ref h3, .long (er_ar X Y), .int wx, .int wy, .int ww, .int wh, .int wk, .int on, .int lx, .int ly])), (h1, .inr (0, [.int ((upd X 1 p1) 0), .int ((upd Y 1 p2) 0), .int ((upd D 1 p3) 0), .int ((upd Q 1 p4) 0), .ref v0, .int (er_ex X Y 0), .int (er_ey X Y 0), .int (er_ea X Y 0), .int (er_ed X Y 0), .int (er_lw (er_ea X Y 0) (er_ed X Y 0))])), (h2, .inr (0, [.int ((upd X 1 p1) 1), .int ((upd Y 1 p2) 1), .int ((upd D 1 p3) 1), .int ((upd Q 1 p4) 1), .ref v1, .int (er_ex X Y 1), .int (er_ey X Y 1), .int (er_ea X Y 1), .int (er_ed X Y 1), .int (er_lw (er_ea X Y 1) (er_ed X Y 1))])), (h3, .inr (0, [.int ((upd X 1 p1) 2), .int ((upd Y 1 p2) 2), .int ((upd D 1 p3) 2), .int ((upd Q 1 p4) 2), .ref v2, .int (er_ex X Y 2), .int (er_ey X Y 2), .int (er_ea X Y 2), .int (er_ed X Y 2), .int (er_lw (er_ea X Y 2) (er_ed X Y 2))]))] := hD
            refine lv_aload_n hx hb d_E_corner_128 rfl (lv_at hl 1 rfl) ?_
            have hPc := hP.sub (ws' := [(h0, .inr (1, [.ref h1, .ref h2, .ref h3, .long (er_ar X Y), .int wx, .int wy, .int ww, .int wh, .int wk, .int on, .int lx, .int ly])), (h1, .inr (0, [.int ((upd X 1 p1) 0), .int ((upd Y 1 p2) 0), .int ((upd D 1 p3) 0), .int ((upd Q 1 p4) 0), .ref v0, .int (er_ex X Y 0), .int (er_ey X Y 0), .int (er_ea X Y 0), .int (er_ed X Y 0), .int (er_lw (er_ea X Y 0) (er_ed X Y 0))])), (h2, .inr (0, [.int ((upd X 1 p1) 1), .int ((upd Y 1 p2) 1), .int ((upd D 1 p3) 1), .int ((upd Q 1 p4) 1), .ref v1, .int (er_ex X Y 1), .int (er_ey X Y 1), .int (er_ea X Y 1), .int (er_ed X Y 1), .int (er_lw (er_ea X Y 1) (er_ed X Y 1))])), (h3, .inr (0, [.int ((upd X 1 p1) 2), .int ((upd Y 1 p2) 2), .int ((upd D 1 p3) 2), .int ((upd Q 1 p4) 2), .ref v2, .int (er_ex X Y 2), .int (er_ey X Y 2), .int (er_ea X Y 2), .int (er_ed X Y 2), .int (er_lw (er_ea X Y 2) (er_ed X Y 2))]))]) [0, 1, 2, 3] rfl
            have hDc := hD.sub (ws' := [(h0, .inr (1, [.ref h1, .ref h2, .ref h3, .long (er_ar X Y), .int wx, .int wy, .int ww, .int wh, .int wk, .int on, .int lx, .int ly])), (h1, .inr (0, [.int ((upd X 1 p1) 0), .int ((upd Y 1 p2) 0), .int ((upd D 1 p3) 0), .int ((upd Q 1 p4) 0), .ref v0, .int (er_ex X Y 0), .int (er_ey X Y 0), .int (er_ea X Y 0), .int (er_ed X Y 0), .int (er_lw (er_ea X Y 0) (er_ed X Y 0))])), (h2, .inr (0, [.int ((upd X 1 p1) 1), .int ((upd Y 1 p2) 1), .int ((upd D 1 p3) 1), .int ((upd Q 1 p4) 1), .ref v1, .int (er_ex X Y 1), .int (er_ey X Y 1), .int (er_ea X Y 1), .int (er_ed X Y 1), .int (er_lw (er_ea X Y 1) (er_ed X Y 1))])), (h3, .inr (0, [.int ((upd X 1 p1) 2), .int ((upd Y 1 p2) 2), .int ((upd D 1 p3) 2), .int ((upd Q 1 p4) 2), .ref v2, .int (er_ex X Y 2), .int (er_ey X Y 2), .int (er_ea X Y 2), .int (er_ed X Y 2), .int (er_lw (er_ea X Y 2) (er_ed X Y 2))]))]) [0, 1, 2, 3] (by decide) rfl
            have hKc := hK.sub (tys' := []) [] rfl
            have hFc := va_free (wc := [(h0, .inr (1, [.ref h1, .ref h2, .ref h3, .long (er_ar X Y), .int wx, .int wy, .int ww, .int wh, .int wk, .int on, .int lx, .int ly])), (h1, .inr (0, [.int ((upd X 1 p1) 0), .int ((upd Y 1 p2) 0), .int ((upd D 1 p3) 0), .int ((upd Q 1 p4) 0), .ref v0, .int (er_ex X Y 0), .int (er_ey X Y 0), .int (er_ea X Y 0), .int (er_ed X Y 0), .int (er_lw (er_ea X Y 0) (er_ed X Y 0))])), (h2, .inr (0, [.int ((upd X 1 p1) 1), .int ((upd Y 1 p2) 1), .int ((upd D 1 p3) 1), .int ((upd Q 1 p4) 1), .ref v1, .int (er_ex X Y 1), .int (er_ey X Y 1), .int (er_ea X Y 1), .int (er_ed X Y 1), .int (er_lw (er_ea X Y 1) (er_ed X Y 1))])), (h3, .inr (0, [.int ((upd X 1 p1) 2), .int ((upd Y 1 p2) 2), .int ((upd D 1 p3) 2), .int ((upd Q 1 p4) 2), .ref v2, .int (er_ex X Y 2), .int (er_ey X Y 2), .int (er_ea X Y 2), .int (er_ed X Y 2), .int (er_lw (er_ea X Y 2) (er_ed X Y 2))]))]) hD hS hA [0, 1, 2, 3] rfl
            refine va_callv (va_runV (As := []) (rest := []) ⟨hx, hb, hml, hown, hts⟩ (c_E_layTriangle l dC dI h0 h1 h2 h3 v0 v1 v2 (upd X 1 p1) (upd Y 1 p2) (upd D 1 p3) (upd Q 1 p4) (er_ar X Y) wx wy ww wh wk on lx ly (er_ex X Y 0) (er_ey X Y 0) (er_ea X Y 0) (er_ed X Y 0) (er_lw (er_ea X Y 0) (er_ed X Y 0)) (er_ex X Y 1) (er_ey X Y 1) (er_ea X Y 1) (er_ed X Y 1) (er_lw (er_ea X Y 1) (er_ed X Y 1)) (er_ex X Y 2) (er_ey X Y 2) (er_ea X Y 2) (er_ed X Y 2) (er_lw (er_ea X Y 2) (er_ed X Y 2)) H.size) (cwV 0 hts (er_gV k_203 k_204 k_5 k_18 k_205) rfl rfl rfl (by decide +kernel) ⟨Nat.le_of_ble_eq_true rfl, Nat.le_of_ble_eq_true rfl⟩) ⟨PI.blind, va_recv hKc hPc (ci := 1) (q0 := 0) rfl rfl, PI.at hN hKc hPc hDc⟩ rfl rfl hl.1 rfl (lv_room (Nat.le_of_ble_eq_true rfl)) d_E_corner_129 ⟨Nat.le_of_ble_eq_true rfl, Nat.le_of_ble_eq_true rfl⟩) hS (fun q _ h => hFc q h) hFc (fun u t H1 locs ht hvm hw hB hz1 hk1 hS => ?_)
            obtain ⟨hP1, hK1, hD1⟩ := hB
            rw [ht] at hP1
            have hK1 := va_K.moved hvm.symm hK1
            obtain ⟨hP, hD⟩ := va_join (wr := []) (w1 := [(h0, .inr (1, [.ref h1, .ref h2, .ref h3, .long (er_ar (upd X 1 p1) (upd Y 1 p2)), .int wx, .int wy, .int ww, .int wh, .int wk, .int on, .int lx, .int ly])), (h1, .inr (0, [.int ((upd X 1 p1) 0), .int ((upd Y 1 p2) 0), .int ((upd D 1 p3) 0), .int ((upd Q 1 p4) 0), .ref v0, .int (er_ex (upd X 1 p1) (upd Y 1 p2) 0), .int (er_ey (upd X 1 p1) (upd Y 1 p2) 0), .int (er_ea (upd X 1 p1) (upd Y 1 p2) 0), .int (er_ed (upd X 1 p1) (upd Y 1 p2) 0), .int (er_lw (er_ea (upd X 1 p1) (upd Y 1 p2) 0) (er_ed (upd X 1 p1) (upd Y 1 p2) 0))])), (h2, .inr (0, [.int ((upd X 1 p1) 1), .int ((upd Y 1 p2) 1), .int ((upd D 1 p3) 1), .int ((upd Q 1 p4) 1), .ref v1, .int (er_ex (upd X 1 p1) (upd Y 1 p2) 1), .int (er_ey (upd X 1 p1) (upd Y 1 p2) 1), .int (er_ea (upd X 1 p1) (upd Y 1 p2) 1), .int (er_ed (upd X 1 p1) (upd Y 1 p2) 1), .int (er_lw (er_ea (upd X 1 p1) (upd Y 1 p2) 1) (er_ed (upd X 1 p1) (upd Y 1 p2) 1))])), (h3, .inr (0, [.int ((upd X 1 p1) 2), .int ((upd Y 1 p2) 2), .int ((upd D 1 p3) 2), .int ((upd Q 1 p4) 2), .ref v2, .int (er_ex (upd X 1 p1) (upd Y 1 p2) 2), .int (er_ey (upd X 1 p1) (upd Y 1 p2) 2), .int (er_ea (upd X 1 p1) (upd Y 1 p2) 2), .int (er_ed (upd X 1 p1) (upd Y 1 p2) 2), .int (er_lw (er_ea (upd X 1 p1) (upd Y 1 p2) 2) (er_ed (upd X 1 p1) (upd Y 1 p2) 2))]))]) hP hD [0, 1, 2, 3] [] rfl rfl (by decide) (by decide) hk1 hFc hP1 hD1
            have hK := (hK.sub (tys' := []) [] rfl).app hK1
            generalize H1 = H at hP hS ⊢
            have hP : va_P (dC, dI) classes [(h0, .inr (1, [.ref h1, .ref h2, .ref h3, .long (er_ar (upd X 1 p1) (upd Y 1 p2)), .int wx, .int wy, .int ww, .int wh, .int wk, .int on, .int lx, .int ly])), (h1, .inr (0, [.int ((upd X 1 p1) 0), .int ((upd Y 1 p2) 0), .int ((upd D 1 p3) 0), .int ((upd Q 1 p4) 0), .ref v0, .int (er_ex (upd X 1 p1) (upd Y 1 p2) 0), .int (er_ey (upd X 1 p1) (upd Y 1 p2) 0), .int (er_ea (upd X 1 p1) (upd Y 1 p2) 0), .int (er_ed (upd X 1 p1) (upd Y 1 p2) 0), .int (er_lw (er_ea (upd X 1 p1) (upd Y 1 p2) 0) (er_ed (upd X 1 p1) (upd Y 1 p2) 0))])), (h2, .inr (0, [.int ((upd X 1 p1) 1), .int ((upd Y 1 p2) 1), .int ((upd D 1 p3) 1), .int ((upd Q 1 p4) 1), .ref v1, .int (er_ex (upd X 1 p1) (upd Y 1 p2) 1), .int (er_ey (upd X 1 p1) (upd Y 1 p2) 1), .int (er_ea (upd X 1 p1) (upd Y 1 p2) 1), .int (er_ed (upd X 1 p1) (upd Y 1 p2) 1), .int (er_lw (er_ea (upd X 1 p1) (upd Y 1 p2) 1) (er_ed (upd X 1 p1) (upd Y 1 p2) 1))])), (h3, .inr (0, [.int ((upd X 1 p1) 2), .int ((upd Y 1 p2) 2), .int ((upd D 1 p3) 2), .int ((upd Q 1 p4) 2), .ref v2, .int (er_ex (upd X 1 p1) (upd Y 1 p2) 2), .int (er_ey (upd X 1 p1) (upd Y 1 p2) 2), .int (er_ea (upd X 1 p1) (upd Y 1 p2) 2), .int (er_ed (upd X 1 p1) (upd Y 1 p2) 2), .int (er_lw (er_ea (upd X 1 p1) (upd Y 1 p2) 2) (er_ed (upd X 1 p1) (upd Y 1 p2) 2))]))] H := hP
            have hD : va_D A [(h0, .inr (1, [.ref h1, .ref h2, .ref h3, .long (er_ar (upd X 1 p1) (upd Y 1 p2)), .int wx, .int wy, .int ww, .int wh, .int wk, .int on, .int lx, .int ly])), (h1, .inr (0, [.int ((upd X 1 p1) 0), .int ((upd Y 1 p2) 0), .int ((upd D 1 p3) 0), .int ((upd Q 1 p4) 0), .ref v0, .int (er_ex (upd X 1 p1) (upd Y 1 p2) 0), .int (er_ey (upd X 1 p1) (upd Y 1 p2) 0), .int (er_ea (upd X 1 p1) (upd Y 1 p2) 0), .int (er_ed (upd X 1 p1) (upd Y 1 p2) 0), .int (er_lw (er_ea (upd X 1 p1) (upd Y 1 p2) 0) (er_ed (upd X 1 p1) (upd Y 1 p2) 0))])), (h2, .inr (0, [.int ((upd X 1 p1) 1), .int ((upd Y 1 p2) 1), .int ((upd D 1 p3) 1), .int ((upd Q 1 p4) 1), .ref v1, .int (er_ex (upd X 1 p1) (upd Y 1 p2) 1), .int (er_ey (upd X 1 p1) (upd Y 1 p2) 1), .int (er_ea (upd X 1 p1) (upd Y 1 p2) 1), .int (er_ed (upd X 1 p1) (upd Y 1 p2) 1), .int (er_lw (er_ea (upd X 1 p1) (upd Y 1 p2) 1) (er_ed (upd X 1 p1) (upd Y 1 p2) 1))])), (h3, .inr (0, [.int ((upd X 1 p1) 2), .int ((upd Y 1 p2) 2), .int ((upd D 1 p3) 2), .int ((upd Q 1 p4) 2), .ref v2, .int (er_ex (upd X 1 p1) (upd Y 1 p2) 2), .int (er_ey (upd X 1 p1) (upd Y 1 p2) 2), .int (er_ea (upd X 1 p1) (upd Y 1 p2) 2), .int (er_ed (upd X 1 p1) (upd Y 1 p2) 2), .int (er_lw (er_ea (upd X 1 p1) (upd Y 1 p2) 2) (er_ed (upd X 1 p1) (upd Y 1 p2) 2))]))] := hD
            have hK : va_K (dC, dI) classes [] s := hK
            refine lv_aload_n hx hb d_E_corner_132 rfl (lv_at hl 1 rfl) ?_
            have hPc := hP.sub (ws' := [(h0, .inr (1, [.ref h1, .ref h2, .ref h3, .long (er_ar (upd X 1 p1) (upd Y 1 p2)), .int wx, .int wy, .int ww, .int wh, .int wk, .int on, .int lx, .int ly]))]) [0] rfl
            have hDc := hD.sub (ws' := [(h0, .inr (1, [.ref h1, .ref h2, .ref h3, .long (er_ar (upd X 1 p1) (upd Y 1 p2)), .int wx, .int wy, .int ww, .int wh, .int wk, .int on, .int lx, .int ly]))]) [0] (by decide) rfl
            have hKc := hK.sub (tys' := []) [] rfl
            have hFc := va_free (wc := [(h0, .inr (1, [.ref h1, .ref h2, .ref h3, .long (er_ar (upd X 1 p1) (upd Y 1 p2)), .int wx, .int wy, .int ww, .int wh, .int wk, .int on, .int lx, .int ly]))]) hD hS hA [0] rfl
            refine va_callv (va_runV (As := []) (rest := []) ⟨hx, hb, hml, hown, hts⟩ (c_E_endWalk l dC dI h0 h1 h2 h3 (er_ar (upd X 1 p1) (upd Y 1 p2)) wx wy ww wh wk on lx ly H.size) (cwV 0 hts (er_gV k_208 k_209 k_7 k_18 k_210) rfl rfl rfl (by decide +kernel) ⟨Nat.le_of_ble_eq_true rfl, Nat.le_of_ble_eq_true rfl⟩) ⟨PI.blind, va_recv hKc hPc (ci := 1) (q0 := 0) rfl rfl, PI.at hN hKc hPc hDc⟩ rfl rfl hl.1 rfl (lv_room (Nat.le_of_ble_eq_true rfl)) d_E_corner_133 ⟨Nat.le_of_ble_eq_true rfl, Nat.le_of_ble_eq_true rfl⟩) hS (fun q _ h => hFc q h) hFc (fun u t H1 locs ht hvm hw hB hz1 hk1 hS => ?_)
            obtain ⟨hP1, hK1, hD1⟩ := hB
            rw [ht] at hP1
            have hK1 := va_K.moved hvm.symm hK1
            obtain ⟨hP, hD⟩ := va_join (wr := [(h1, .inr (0, [.int ((upd X 1 p1) 0), .int ((upd Y 1 p2) 0), .int ((upd D 1 p3) 0), .int ((upd Q 1 p4) 0), .ref v0, .int (er_ex (upd X 1 p1) (upd Y 1 p2) 0), .int (er_ey (upd X 1 p1) (upd Y 1 p2) 0), .int (er_ea (upd X 1 p1) (upd Y 1 p2) 0), .int (er_ed (upd X 1 p1) (upd Y 1 p2) 0), .int (er_lw (er_ea (upd X 1 p1) (upd Y 1 p2) 0) (er_ed (upd X 1 p1) (upd Y 1 p2) 0))])), (h2, .inr (0, [.int ((upd X 1 p1) 1), .int ((upd Y 1 p2) 1), .int ((upd D 1 p3) 1), .int ((upd Q 1 p4) 1), .ref v1, .int (er_ex (upd X 1 p1) (upd Y 1 p2) 1), .int (er_ey (upd X 1 p1) (upd Y 1 p2) 1), .int (er_ea (upd X 1 p1) (upd Y 1 p2) 1), .int (er_ed (upd X 1 p1) (upd Y 1 p2) 1), .int (er_lw (er_ea (upd X 1 p1) (upd Y 1 p2) 1) (er_ed (upd X 1 p1) (upd Y 1 p2) 1))])), (h3, .inr (0, [.int ((upd X 1 p1) 2), .int ((upd Y 1 p2) 2), .int ((upd D 1 p3) 2), .int ((upd Q 1 p4) 2), .ref v2, .int (er_ex (upd X 1 p1) (upd Y 1 p2) 2), .int (er_ey (upd X 1 p1) (upd Y 1 p2) 2), .int (er_ea (upd X 1 p1) (upd Y 1 p2) 2), .int (er_ed (upd X 1 p1) (upd Y 1 p2) 2), .int (er_lw (er_ea (upd X 1 p1) (upd Y 1 p2) 2) (er_ed (upd X 1 p1) (upd Y 1 p2) 2))]))]) (w1 := [(h0, .inr (1, [.ref h1, .ref h2, .ref h3, .long (er_ar (upd X 1 p1) (upd Y 1 p2)), .int wx, .int wy, .int ww, .int wh, .int 0, .int 0, .int lx, .int ly]))]) hP hD [0] [1, 2, 3] rfl rfl (by decide) (by decide) hk1 hFc hP1 hD1
            have hK := (hK.sub (tys' := []) [] rfl).app hK1
            generalize H1 = H at hP hS ⊢
            have hP : va_P (dC, dI) classes [(h1, .inr (0, [.int ((upd X 1 p1) 0), .int ((upd Y 1 p2) 0), .int ((upd D 1 p3) 0), .int ((upd Q 1 p4) 0), .ref v0, .int (er_ex (upd X 1 p1) (upd Y 1 p2) 0), .int (er_ey (upd X 1 p1) (upd Y 1 p2) 0), .int (er_ea (upd X 1 p1) (upd Y 1 p2) 0), .int (er_ed (upd X 1 p1) (upd Y 1 p2) 0), .int (er_lw (er_ea (upd X 1 p1) (upd Y 1 p2) 0) (er_ed (upd X 1 p1) (upd Y 1 p2) 0))])), (h2, .inr (0, [.int ((upd X 1 p1) 1), .int ((upd Y 1 p2) 1), .int ((upd D 1 p3) 1), .int ((upd Q 1 p4) 1), .ref v1, .int (er_ex (upd X 1 p1) (upd Y 1 p2) 1), .int (er_ey (upd X 1 p1) (upd Y 1 p2) 1), .int (er_ea (upd X 1 p1) (upd Y 1 p2) 1), .int (er_ed (upd X 1 p1) (upd Y 1 p2) 1), .int (er_lw (er_ea (upd X 1 p1) (upd Y 1 p2) 1) (er_ed (upd X 1 p1) (upd Y 1 p2) 1))])), (h3, .inr (0, [.int ((upd X 1 p1) 2), .int ((upd Y 1 p2) 2), .int ((upd D 1 p3) 2), .int ((upd Q 1 p4) 2), .ref v2, .int (er_ex (upd X 1 p1) (upd Y 1 p2) 2), .int (er_ey (upd X 1 p1) (upd Y 1 p2) 2), .int (er_ea (upd X 1 p1) (upd Y 1 p2) 2), .int (er_ed (upd X 1 p1) (upd Y 1 p2) 2), .int (er_lw (er_ea (upd X 1 p1) (upd Y 1 p2) 2) (er_ed (upd X 1 p1) (upd Y 1 p2) 2))])), (h0, .inr (1, [.ref h1, .ref h2, .ref h3, .long (er_ar (upd X 1 p1) (upd Y 1 p2)), .int wx, .int wy, .int ww, .int wh, .int 0, .int 0, .int lx, .int ly]))] H := hP
            have hD : va_D A [(h1, .inr (0, [.int ((upd X 1 p1) 0), .int ((upd Y 1 p2) 0), .int ((upd D 1 p3) 0), .int ((upd Q 1 p4) 0), .ref v0, .int (er_ex (upd X 1 p1) (upd Y 1 p2) 0), .int (er_ey (upd X 1 p1) (upd Y 1 p2) 0), .int (er_ea (upd X 1 p1) (upd Y 1 p2) 0), .int (er_ed (upd X 1 p1) (upd Y 1 p2) 0), .int (er_lw (er_ea (upd X 1 p1) (upd Y 1 p2) 0) (er_ed (upd X 1 p1) (upd Y 1 p2) 0))])), (h2, .inr (0, [.int ((upd X 1 p1) 1), .int ((upd Y 1 p2) 1), .int ((upd D 1 p3) 1), .int ((upd Q 1 p4) 1), .ref v1, .int (er_ex (upd X 1 p1) (upd Y 1 p2) 1), .int (er_ey (upd X 1 p1) (upd Y 1 p2) 1), .int (er_ea (upd X 1 p1) (upd Y 1 p2) 1), .int (er_ed (upd X 1 p1) (upd Y 1 p2) 1), .int (er_lw (er_ea (upd X 1 p1) (upd Y 1 p2) 1) (er_ed (upd X 1 p1) (upd Y 1 p2) 1))])), (h3, .inr (0, [.int ((upd X 1 p1) 2), .int ((upd Y 1 p2) 2), .int ((upd D 1 p3) 2), .int ((upd Q 1 p4) 2), .ref v2, .int (er_ex (upd X 1 p1) (upd Y 1 p2) 2), .int (er_ey (upd X 1 p1) (upd Y 1 p2) 2), .int (er_ea (upd X 1 p1) (upd Y 1 p2) 2), .int (er_ed (upd X 1 p1) (upd Y 1 p2) 2), .int (er_lw (er_ea (upd X 1 p1) (upd Y 1 p2) 2) (er_ed (upd X 1 p1) (upd Y 1 p2) 2))])), (h0, .inr (1, [.ref h1, .ref h2, .ref h3, .long (er_ar (upd X 1 p1) (upd Y 1 p2)), .int wx, .int wy, .int ww, .int wh, .int 0, .int 0, .int lx, .int ly]))] := hD
            have hK : va_K (dC, dI) classes [] s := hK
            have hP9 := hP.sub (ws' := [(h0, .inr (1, [.ref h1, .ref h2, .ref h3, .long (er_ar (upd X 1 p1) (upd Y 1 p2)), .int wx, .int wy, .int ww, .int wh, .int 0, .int 0, .int lx, .int ly])), (h1, .inr (0, [.int ((upd X 1 p1) 0), .int ((upd Y 1 p2) 0), .int ((upd D 1 p3) 0), .int ((upd Q 1 p4) 0), .ref v0, .int (er_ex (upd X 1 p1) (upd Y 1 p2) 0), .int (er_ey (upd X 1 p1) (upd Y 1 p2) 0), .int (er_ea (upd X 1 p1) (upd Y 1 p2) 0), .int (er_ed (upd X 1 p1) (upd Y 1 p2) 0), .int (er_lw (er_ea (upd X 1 p1) (upd Y 1 p2) 0) (er_ed (upd X 1 p1) (upd Y 1 p2) 0))])), (h2, .inr (0, [.int ((upd X 1 p1) 1), .int ((upd Y 1 p2) 1), .int ((upd D 1 p3) 1), .int ((upd Q 1 p4) 1), .ref v1, .int (er_ex (upd X 1 p1) (upd Y 1 p2) 1), .int (er_ey (upd X 1 p1) (upd Y 1 p2) 1), .int (er_ea (upd X 1 p1) (upd Y 1 p2) 1), .int (er_ed (upd X 1 p1) (upd Y 1 p2) 1), .int (er_lw (er_ea (upd X 1 p1) (upd Y 1 p2) 1) (er_ed (upd X 1 p1) (upd Y 1 p2) 1))])), (h3, .inr (0, [.int ((upd X 1 p1) 2), .int ((upd Y 1 p2) 2), .int ((upd D 1 p3) 2), .int ((upd Q 1 p4) 2), .ref v2, .int (er_ex (upd X 1 p1) (upd Y 1 p2) 2), .int (er_ey (upd X 1 p1) (upd Y 1 p2) 2), .int (er_ea (upd X 1 p1) (upd Y 1 p2) 2), .int (er_ed (upd X 1 p1) (upd Y 1 p2) 2), .int (er_lw (er_ea (upd X 1 p1) (upd Y 1 p2) 2) (er_ed (upd X 1 p1) (upd Y 1 p2) 2))]))]) [3, 0, 1, 2] rfl
            have hD9 := hD.sub (ws' := [(h0, .inr (1, [.ref h1, .ref h2, .ref h3, .long (er_ar (upd X 1 p1) (upd Y 1 p2)), .int wx, .int wy, .int ww, .int wh, .int 0, .int 0, .int lx, .int ly])), (h1, .inr (0, [.int ((upd X 1 p1) 0), .int ((upd Y 1 p2) 0), .int ((upd D 1 p3) 0), .int ((upd Q 1 p4) 0), .ref v0, .int (er_ex (upd X 1 p1) (upd Y 1 p2) 0), .int (er_ey (upd X 1 p1) (upd Y 1 p2) 0), .int (er_ea (upd X 1 p1) (upd Y 1 p2) 0), .int (er_ed (upd X 1 p1) (upd Y 1 p2) 0), .int (er_lw (er_ea (upd X 1 p1) (upd Y 1 p2) 0) (er_ed (upd X 1 p1) (upd Y 1 p2) 0))])), (h2, .inr (0, [.int ((upd X 1 p1) 1), .int ((upd Y 1 p2) 1), .int ((upd D 1 p3) 1), .int ((upd Q 1 p4) 1), .ref v1, .int (er_ex (upd X 1 p1) (upd Y 1 p2) 1), .int (er_ey (upd X 1 p1) (upd Y 1 p2) 1), .int (er_ea (upd X 1 p1) (upd Y 1 p2) 1), .int (er_ed (upd X 1 p1) (upd Y 1 p2) 1), .int (er_lw (er_ea (upd X 1 p1) (upd Y 1 p2) 1) (er_ed (upd X 1 p1) (upd Y 1 p2) 1))])), (h3, .inr (0, [.int ((upd X 1 p1) 2), .int ((upd Y 1 p2) 2), .int ((upd D 1 p3) 2), .int ((upd Q 1 p4) 2), .ref v2, .int (er_ex (upd X 1 p1) (upd Y 1 p2) 2), .int (er_ey (upd X 1 p1) (upd Y 1 p2) 2), .int (er_ea (upd X 1 p1) (upd Y 1 p2) 2), .int (er_ed (upd X 1 p1) (upd Y 1 p2) 2), .int (er_lw (er_ea (upd X 1 p1) (upd Y 1 p2) 2) (er_ed (upd X 1 p1) (upd Y 1 p2) 2))]))]) [3, 0, 1, 2] (by decide) rfl
            have hK9 := hK.sub (tys' := []) [] rfl
            exact W.vret hx hb hr (fun u9 ht hW => ⟨⟨(), rfl, trivial, ⟨by rw [ht]; exact hP9, va_K.moved hW.alike hK9, hD9⟩⟩, hS.F ht⟩) hS.2.2 d_E_corner_136
          · have c_10 := er_b_0.mp c_10
            exact absurd c_10 (by simp_all)
        · have c_8 := er_b_0.mp c_8
          exact absurd c_8 (by simp_all)
      · have c_6 := er_b_0.mp c_6
        exact absurd c_6 (by simp_all)
  · have c_2 := er_b_0.mp c_2
    exact absurd c_2 (by simp_all)

set_option maxHeartbeats 1000000 in
set_option maxRecDepth 100000 in
theorem c_E_value1 (l : Launch) (dC : Nat → ClassId) (dI : Nat → Nat → Nat) (h0 h1 h2 h3 v0 v1 v2 : Nat) (X Y D Q : Nat → Int32) (wx wy ww wh wk on lx ly : Int32) (k0 k1 k2 : ClassId) (f0 f1 f2 : Nat → Int32) (n : Nat) (p2 : Int32) (hn : n < 28) (sz : Nat) : Met l y_E_value w_E_value ({ frames := 6, cells := 0, slots := 0, locals := 82 }) (va_Pc [.ref h0, .int 1, .int (nI n), .int p2] (PI dC dI [(k0, .int), (k1, .int), (k2, .int)] [(h0, .inr (1, [.ref h1, .ref h2, .ref h3, .long (er_ar X Y), .int wx, .int wy, .int ww, .int wh, .int wk, .int on, .int lx, .int ly])), (h1, .inr (0, [.int (X 0), .int (Y 0), .int (D 0), .int (Q 0), .ref v0, .int (er_ex X Y 0), .int (er_ey X Y 0), .int (er_ea X Y 0), .int (er_ed X Y 0), .int (er_lw (er_ea X Y 0) (er_ed X Y 0))])), (h2, .inr (0, [.int (X 1), .int (Y 1), .int (D 1), .int (Q 1), .ref v1, .int (er_ex X Y 1), .int (er_ey X Y 1), .int (er_ea X Y 1), .int (er_ed X Y 1), .int (er_lw (er_ea X Y 1) (er_ed X Y 1))])), (h3, .inr (0, [.int (X 2), .int (Y 2), .int (D 2), .int (Q 2), .ref v2, .int (er_ex X Y 2), .int (er_ey X Y 2), .int (er_ea X Y 2), .int (er_ed X Y 2), .int (er_lw (er_ea X Y 2) (er_ed X Y 2))])), (v0, .inl (k0, 28, .inl f0)), (v1, .inl (k1, 28, .inl f1)), (v2, .inl (k2, 28, .inl f2))] sz)) (va_Qv (fun (u : Unit) => True) (fun (u : Unit) t => EI dC dI [(k0, .int), (k1, .int), (k2, .int)] [(h0, .inr (1, [.ref h1, .ref h2, .ref h3, .long (er_ar X Y), .int wx, .int wy, .int ww, .int wh, .int 0, .int 0, .int lx, .int ly])), (h1, .inr (0, [.int (X 0), .int (Y 0), .int (D 0), .int (Q 0), .ref v0, .int (er_ex X Y 0), .int (er_ey X Y 0), .int (er_ea X Y 0), .int (er_ed X Y 0), .int (er_lw (er_ea X Y 0) (er_ed X Y 0))])), (h2, .inr (0, [.int (X 1), .int (Y 1), .int (D 1), .int (Q 1), .ref v1, .int (er_ex X Y 1), .int (er_ey X Y 1), .int (er_ea X Y 1), .int (er_ed X Y 1), .int (er_lw (er_ea X Y 1) (er_ed X Y 1))])), (h3, .inr (0, [.int (X 2), .int (Y 2), .int (D 2), .int (Q 2), .ref v2, .int (er_ex X Y 2), .int (er_ey X Y 2), .int (er_ea X Y 2), .int (er_ed X Y 2), .int (er_lw (er_ea X Y 2) (er_ed X Y 2))])), (v0, .inl (k0, 28, .inl f0)), (v1, .inl (k1, 28, .inl (upd f1 n p2))), (v2, .inl (k2, 28, .inl f2))] (va_A [(h0, .inr (1, [.ref h1, .ref h2, .ref h3, .long (er_ar X Y), .int wx, .int wy, .int ww, .int wh, .int wk, .int on, .int lx, .int ly])), (h1, .inr (0, [.int (X 0), .int (Y 0), .int (D 0), .int (Q 0), .ref v0, .int (er_ex X Y 0), .int (er_ey X Y 0), .int (er_ea X Y 0), .int (er_ed X Y 0), .int (er_lw (er_ea X Y 0) (er_ed X Y 0))])), (h2, .inr (0, [.int (X 1), .int (Y 1), .int (D 1), .int (Q 1), .ref v1, .int (er_ex X Y 1), .int (er_ey X Y 1), .int (er_ea X Y 1), .int (er_ed X Y 1), .int (er_lw (er_ea X Y 1) (er_ed X Y 1))])), (h3, .inr (0, [.int (X 2), .int (Y 2), .int (D 2), .int (Q 2), .ref v2, .int (er_ex X Y 2), .int (er_ey X Y 2), .int (er_ea X Y 2), .int (er_ed X Y 2), .int (er_lw (er_ea X Y 2) (er_ed X Y 2))])), (v0, .inl (k0, 28, .inl f0)), (v1, .inl (k1, 28, .inl f1)), (v2, .inl (k2, 28, .inl f2))] sz) t) (va_A [(h0, .inr (1, [.ref h1, .ref h2, .ref h3, .long (er_ar X Y), .int wx, .int wy, .int ww, .int wh, .int wk, .int on, .int lx, .int ly])), (h1, .inr (0, [.int (X 0), .int (Y 0), .int (D 0), .int (Q 0), .ref v0, .int (er_ex X Y 0), .int (er_ey X Y 0), .int (er_ea X Y 0), .int (er_ed X Y 0), .int (er_lw (er_ea X Y 0) (er_ed X Y 0))])), (h2, .inr (0, [.int (X 1), .int (Y 1), .int (D 1), .int (Q 1), .ref v1, .int (er_ex X Y 1), .int (er_ey X Y 1), .int (er_ea X Y 1), .int (er_ed X Y 1), .int (er_lw (er_ea X Y 1) (er_ed X Y 1))])), (h3, .inr (0, [.int (X 2), .int (Y 2), .int (D 2), .int (Q 2), .ref v2, .int (er_ex X Y 2), .int (er_ey X Y 2), .int (er_ea X Y 2), .int (er_ed X Y 2), .int (er_lw (er_ea X Y 2) (er_ed X Y 2))])), (v0, .inl (k0, 28, .inl f0)), (v1, .inl (k1, 28, .inl f1)), (v2, .inl (k2, 28, .inl f2))] sz)) 0 0 (va_A [(h0, .inr (1, [.ref h1, .ref h2, .ref h3, .long (er_ar X Y), .int wx, .int wy, .int ww, .int wh, .int wk, .int on, .int lx, .int ly])), (h1, .inr (0, [.int (X 0), .int (Y 0), .int (D 0), .int (Q 0), .ref v0, .int (er_ex X Y 0), .int (er_ey X Y 0), .int (er_ea X Y 0), .int (er_ed X Y 0), .int (er_lw (er_ea X Y 0) (er_ed X Y 0))])), (h2, .inr (0, [.int (X 1), .int (Y 1), .int (D 1), .int (Q 1), .ref v1, .int (er_ex X Y 1), .int (er_ey X Y 1), .int (er_ea X Y 1), .int (er_ed X Y 1), .int (er_lw (er_ea X Y 1) (er_ed X Y 1))])), (h3, .inr (0, [.int (X 2), .int (Y 2), .int (D 2), .int (Q 2), .ref v2, .int (er_ex X Y 2), .int (er_ey X Y 2), .int (er_ea X Y 2), .int (er_ed X Y 2), .int (er_lw (er_ea X Y 2) (er_ed X Y 2))])), (v0, .inl (k0, 28, .inl f0)), (v1, .inl (k1, 28, .inl f1)), (v2, .inl (k2, 28, .inl f2))] sz) := by
  refine Met.ofW (cc := b_E_value) (maxL := 4) (ret := none) (by decide +kernel) rfl ?_
  intro p e s m args below meth c s₁ B hml hv
  obtain ⟨rfl, hsz, hN, hK, hP, hD0⟩ := hv
  have hx := B.exec
  have hb := B.bytes
  have hr := B.returns
  have hts := er_hts (atoms_spec (ws := w_E_value) B.pre)
  have hown : s.vm.findClass R_E = some m.cls := findClass_of_methodNamed B.named
  have hlocks := B.notSynchronized
  subst hsz
  have hD := hD0.self (sz := s.heap.size)
  generalize hAe : va_A [(h0, .inr (1, [.ref h1, .ref h2, .ref h3, .long (er_ar X Y), .int wx, .int wy, .int ww, .int wh, .int wk, .int on, .int lx, .int ly])), (h1, .inr (0, [.int (X 0), .int (Y 0), .int (D 0), .int (Q 0), .ref v0, .int (er_ex X Y 0), .int (er_ey X Y 0), .int (er_ea X Y 0), .int (er_ed X Y 0), .int (er_lw (er_ea X Y 0) (er_ed X Y 0))])), (h2, .inr (0, [.int (X 1), .int (Y 1), .int (D 1), .int (Q 1), .ref v1, .int (er_ex X Y 1), .int (er_ey X Y 1), .int (er_ea X Y 1), .int (er_ed X Y 1), .int (er_lw (er_ea X Y 1) (er_ed X Y 1))])), (h3, .inr (0, [.int (X 2), .int (Y 2), .int (D 2), .int (Q 2), .ref v2, .int (er_ex X Y 2), .int (er_ey X Y 2), .int (er_ea X Y 2), .int (er_ed X Y 2), .int (er_lw (er_ea X Y 2) (er_ed X Y 2))])), (v0, .inl (k0, 28, .inl f0)), (v1, .inl (k1, 28, .inl f1)), (v2, .inl (k2, 28, .inl f2))] s.heap.size = A at hD ⊢
  have hA : ∀ q : Nat, s.heap.size ≤ q → A q := fun q h => by rw [← hAe]; exact Or.inr h
  have hS : va_S A s.heap s.heap [] := va_S.rf
  have hP : va_P (dC, dI) classes [(h0, .inr (1, [.ref h1, .ref h2, .ref h3, .long (er_ar X Y), .int wx, .int wy, .int ww, .int wh, .int wk, .int on, .int lx, .int ly])), (h1, .inr (0, [.int (X 0), .int (Y 0), .int (D 0), .int (Q 0), .ref v0, .int (er_ex X Y 0), .int (er_ey X Y 0), .int (er_ea X Y 0), .int (er_ed X Y 0), .int (er_lw (er_ea X Y 0) (er_ed X Y 0))])), (h2, .inr (0, [.int (X 1), .int (Y 1), .int (D 1), .int (Q 1), .ref v1, .int (er_ex X Y 1), .int (er_ey X Y 1), .int (er_ea X Y 1), .int (er_ed X Y 1), .int (er_lw (er_ea X Y 1) (er_ed X Y 1))])), (h3, .inr (0, [.int (X 2), .int (Y 2), .int (D 2), .int (Q 2), .ref v2, .int (er_ex X Y 2), .int (er_ey X Y 2), .int (er_ea X Y 2), .int (er_ed X Y 2), .int (er_lw (er_ea X Y 2) (er_ed X Y 2))])), (v0, .inl (k0, 28, .inl f0)), (v1, .inl (k1, 28, .inl f1)), (v2, .inl (k2, 28, .inl f2))] s.heap := hP
  have hl := lv_entry ([.ref h0, .int 1, .int (nI n), .int p2]) (n := 4) (Nat.le_of_ble_eq_true rfl)
  rw [lg_entry_eq]
  generalize (lg_sl ([.ref h0, .int 1, .int (nI n), .int p2]) ++ List.replicate (4 - (lg_sl ([.ref h0, .int 1, .int (nI n), .int p2])).length) Slot.unset).toArray = ls at hl ⊢
  have hl : lv_has ls 4 [(0, .ref h0), (1, .int 1), (2, .int (nI n)), (3, .int p2)] := hl
  have u0 : er_win 1 0 2 = true := by decide
  have u1 : er_win (nI n) 0 27 = true := er_win_nI (k := 27) (by omega) (by decide)
  refine lv_iload_n hx hb d_E_value_0 rfl (lv_at hl 1 rfl) ?_
  have hPc := hP.sub (ws' := []) [] rfl
  have hKc := hK.sub (tys' := []) [] rfl
  refine vp_callSi (va_runS (As := [.int 1]) (rest := []) ⟨hx, hb, hml, hown, hts⟩ (c_E_isCorner l dC dI 1) (va_cwS 1 hts (er_gS k_137 k_138 k_18 k_139) rfl rfl rfl (by decide +kernel) ⟨Nat.le_of_ble_eq_true rfl, Nat.le_of_ble_eq_true rfl⟩) ⟨PP.blind, PP.at hN hKc hPc⟩ rfl rfl hl.1 rfl (lv_room (Nat.le_of_ble_eq_true rfl)) d_E_value_1 ⟨Nat.zero_le _, Nat.zero_le _⟩).run (fun r_1 hr_1 => ?_)
  obtain rfl : er_b (er_win 1 0 2) = r_1 := Eq.symm hr_1
  refine lv_if_eq (tgt := 14) hx hb d_E_value_4 (by decide) (fun c_2 => ?_) (fun c_2 => ?_)
  · have c_2 := er_b_0.mp c_2
    exact absurd c_2 (by simp_all)
  · have c_2 := er_b_n.mp c_2
    refine lv_iload_n hx hb d_E_value_7 rfl (lv_at hl 2 rfl) ?_
    have hPc := hP.sub (ws' := []) [] rfl
    have hKc := hK.sub (tys' := []) [] rfl
    refine vp_callSi (va_runS (As := [.int (nI n)]) (rest := []) ⟨hx, hb, hml, hown, hts⟩ (c_E_isValue l dC dI (nI n)) (va_cwS 1 hts (er_gS k_218 k_219 k_18 k_220) rfl rfl rfl (by decide +kernel) ⟨Nat.le_of_ble_eq_true rfl, Nat.le_of_ble_eq_true rfl⟩) ⟨PP.blind, PP.at hN hKc hPc⟩ rfl rfl hl.1 rfl (lv_room (Nat.le_of_ble_eq_true rfl)) d_E_value_8 ⟨Nat.zero_le _, Nat.zero_le _⟩).run (fun r_3 hr_3 => ?_)
    obtain rfl : er_b (er_win (nI n) 0 27) = r_3 := Eq.symm hr_3
    refine lv_if_ne (tgt := 24) hx hb d_E_value_11 (by decide) (fun c_4 => ?_) (fun c_4 => ?_)
    · have c_4 := er_b_n.mp c_4
      refine lv_aload_n hx hb d_E_value_24 rfl (lv_at hl 0 rfl) ?_
      refine lv_iload_n hx hb d_E_value_25 rfl (lv_at hl 1 rfl) ?_
      have hPc := hP.sub (ws' := [(h0, .inr (1, [.ref h1, .ref h2, .ref h3, .long (er_ar X Y), .int wx, .int wy, .int ww, .int wh, .int wk, .int on, .int lx, .int ly]))]) [0] rfl
      have hKc := hK.sub (tys' := []) [] rfl
      refine va_csr (va_runV (As := [.int 1]) (rest := []) ⟨hx, hb, hml, hown, hts⟩ (c_E_cornerOf1 l dC dI h0 h1 h2 h3 (er_ar X Y) wx wy ww wh wk on lx ly) (cwV 1 hts (er_gV k_200 k_201 k_4 k_18 k_202) rfl rfl rfl (by decide +kernel) ⟨Nat.le_of_ble_eq_true rfl, Nat.le_of_ble_eq_true rfl⟩) ⟨PP.blind, va_recv hKc hPc (ci := 1) (q0 := 0) rfl rfl, PP.at hN hKc hPc⟩ rfl rfl hl.1 rfl (lv_room (Nat.le_of_ble_eq_true rfl)) d_E_value_26 ⟨Nat.zero_le _, Nat.zero_le _⟩).run (fun r_5 hr_5 => ?_)
      obtain rfl : h2 = r_5 := Eq.symm hr_5
      refine va_getN (D := (dC, dI)) (ci := 0) (v := .ref v1) (C := R_C) (T := F_C) (N := 10) hx hb hts i_C hown hK hP 2 rfl rfl 4 (by decide) (va_Nw.use rfl (hN _ kn_5)) (fun _ h9 => h9) rfl d_E_value_29 ?_
      refine lv_iload_n hx hb d_E_value_32 rfl (lv_at hl 2 rfl) ?_
      refine lv_iload_n hx hb d_E_value_33 rfl (lv_at hl 3 rfl) ?_
      refine va_iast (i := nI n) hx hb hK hP hD hS 5 1 rfl rfl (vp_in_nI (by omega) (by decide)) d_E_value_34 (fun H locs hP hD hS => ?_)
      rw [nI_clamp (by omega)] at hP hD
      have hP : va_P (dC, dI) classes [(h0, .inr (1, [.ref h1, .ref h2, .ref h3, .long (er_ar X Y), .int wx, .int wy, .int ww, .int wh, .int wk, .int on, .int lx, .int ly])), (h1, .inr (0, [.int (X 0), .int (Y 0), .int (D 0), .int (Q 0), .ref v0, .int (er_ex X Y 0), .int (er_ey X Y 0), .int (er_ea X Y 0), .int (er_ed X Y 0), .int (er_lw (er_ea X Y 0) (er_ed X Y 0))])), (h2, .inr (0, [.int (X 1), .int (Y 1), .int (D 1), .int (Q 1), .ref v1, .int (er_ex X Y 1), .int (er_ey X Y 1), .int (er_ea X Y 1), .int (er_ed X Y 1), .int (er_lw (er_ea X Y 1) (er_ed X Y 1))])), (h3, .inr (0, [.int (X 2), .int (Y 2), .int (D 2), .int (Q 2), .ref v2, .int (er_ex X Y 2), .int (er_ey X Y 2), .int (er_ea X Y 2), .int (er_ed X Y 2), .int (er_lw (er_ea X Y 2) (er_ed X Y 2))])), (v0, .inl (k0, 28, .inl f0)), (v1, .inl (k1, 28, .inl (upd f1 n p2))), (v2, .inl (k2, 28, .inl f2))] H := hP
      have hD : va_D A [(h0, .inr (1, [.ref h1, .ref h2, .ref h3, .long (er_ar X Y), .int wx, .int wy, .int ww, .int wh, .int wk, .int on, .int lx, .int ly])), (h1, .inr (0, [.int (X 0), .int (Y 0), .int (D 0), .int (Q 0), .ref v0, .int (er_ex X Y 0), .int (er_ey X Y 0), .int (er_ea X Y 0), .int (er_ed X Y 0), .int (er_lw (er_ea X Y 0) (er_ed X Y 0))])), (h2, .inr (0, [.int (X 1), .int (Y 1), .int (D 1), .int (Q 1), .ref v1, .int (er_ex X Y 1), .int (er_ey X Y 1), .int (er_ea X Y 1), .int (er_ed X Y 1), .int (er_lw (er_ea X Y 1) (er_ed X Y 1))])), (h3, .inr (0, [.int (X 2), .int (Y 2), .int (D 2), .int (Q 2), .ref v2, .int (er_ex X Y 2), .int (er_ey X Y 2), .int (er_ea X Y 2), .int (er_ed X Y 2), .int (er_lw (er_ea X Y 2) (er_ed X Y 2))])), (v0, .inl (k0, 28, .inl f0)), (v1, .inl (k1, 28, .inl (upd f1 n p2))), (v2, .inl (k2, 28, .inl f2))] := hD
      refine lv_aload_n hx hb d_E_value_35 rfl (lv_at hl 0 rfl) ?_
      have hPc := hP.sub (ws' := [(h0, .inr (1, [.ref h1, .ref h2, .ref h3, .long (er_ar X Y), .int wx, .int wy, .int ww, .int wh, .int wk, .int on, .int lx, .int ly]))]) [0] rfl
      have hDc := hD.sub (ws' := [(h0, .inr (1, [.ref h1, .ref h2, .ref h3, .long (er_ar X Y), .int wx, .int wy, .int ww, .int wh, .int wk, .int on, .int lx, .int ly]))]) [0] (by decide) rfl
      have hKc := hK.sub (tys' := []) [] rfl
      have hFc := va_free (wc := [(h0, .inr (1, [.ref h1, .ref h2, .ref h3, .long (er_ar X Y), .int wx, .int wy, .int ww, .int wh, .int wk, .int on, .int lx, .int ly]))]) hD hS hA [0] rfl
      refine va_callv (va_runV (As := []) (rest := []) ⟨hx, hb, hml, hown, hts⟩ (c_E_endWalk l dC dI h0 h1 h2 h3 (er_ar X Y) wx wy ww wh wk on lx ly H.size) (cwV 0 hts (er_gV k_208 k_209 k_7 k_18 k_210) rfl rfl rfl (by decide +kernel) ⟨Nat.le_of_ble_eq_true rfl, Nat.le_of_ble_eq_true rfl⟩) ⟨PI.blind, va_recv hKc hPc (ci := 1) (q0 := 0) rfl rfl, PI.at hN hKc hPc hDc⟩ rfl rfl hl.1 rfl (lv_room (Nat.le_of_ble_eq_true rfl)) d_E_value_36 ⟨Nat.le_of_ble_eq_true rfl, Nat.le_of_ble_eq_true rfl⟩) hS (fun q _ h => hFc q h) hFc (fun u t H1 locs ht hvm hw hB hz1 hk1 hS => ?_)
      obtain ⟨hP1, hK1, hD1⟩ := hB
      rw [ht] at hP1
      have hK1 := va_K.moved hvm.symm hK1
      obtain ⟨hP, hD⟩ := va_join (wr := [(h1, .inr (0, [.int (X 0), .int (Y 0), .int (D 0), .int (Q 0), .ref v0, .int (er_ex X Y 0), .int (er_ey X Y 0), .int (er_ea X Y 0), .int (er_ed X Y 0), .int (er_lw (er_ea X Y 0) (er_ed X Y 0))])), (h2, .inr (0, [.int (X 1), .int (Y 1), .int (D 1), .int (Q 1), .ref v1, .int (er_ex X Y 1), .int (er_ey X Y 1), .int (er_ea X Y 1), .int (er_ed X Y 1), .int (er_lw (er_ea X Y 1) (er_ed X Y 1))])), (h3, .inr (0, [.int (X 2), .int (Y 2), .int (D 2), .int (Q 2), .ref v2, .int (er_ex X Y 2), .int (er_ey X Y 2), .int (er_ea X Y 2), .int (er_ed X Y 2), .int (er_lw (er_ea X Y 2) (er_ed X Y 2))])), (v0, .inl (k0, 28, .inl f0)), (v1, .inl (k1, 28, .inl (upd f1 n p2))), (v2, .inl (k2, 28, .inl f2))]) (w1 := [(h0, .inr (1, [.ref h1, .ref h2, .ref h3, .long (er_ar X Y), .int wx, .int wy, .int ww, .int wh, .int 0, .int 0, .int lx, .int ly]))]) hP hD [0] [1, 2, 3, 4, 5, 6] rfl rfl (by decide) (by decide) hk1 hFc hP1 hD1
      have hK := (hK.sub (tys' := [(k0, .int), (k1, .int), (k2, .int)]) [0, 1, 2] rfl).app hK1
      generalize H1 = H at hP hS ⊢
      have hP : va_P (dC, dI) classes [(h1, .inr (0, [.int (X 0), .int (Y 0), .int (D 0), .int (Q 0), .ref v0, .int (er_ex X Y 0), .int (er_ey X Y 0), .int (er_ea X Y 0), .int (er_ed X Y 0), .int (er_lw (er_ea X Y 0) (er_ed X Y 0))])), (h2, .inr (0, [.int (X 1), .int (Y 1), .int (D 1), .int (Q 1), .ref v1, .int (er_ex X Y 1), .int (er_ey X Y 1), .int (er_ea X Y 1), .int (er_ed X Y 1), .int (er_lw (er_ea X Y 1) (er_ed X Y 1))])), (h3, .inr (0, [.int (X 2), .int (Y 2), .int (D 2), .int (Q 2), .ref v2, .int (er_ex X Y 2), .int (er_ey X Y 2), .int (er_ea X Y 2), .int (er_ed X Y 2), .int (er_lw (er_ea X Y 2) (er_ed X Y 2))])), (v0, .inl (k0, 28, .inl f0)), (v1, .inl (k1, 28, .inl (upd f1 n p2))), (v2, .inl (k2, 28, .inl f2)), (h0, .inr (1, [.ref h1, .ref h2, .ref h3, .long (er_ar X Y), .int wx, .int wy, .int ww, .int wh, .int 0, .int 0, .int lx, .int ly]))] H := hP
      have hD : va_D A [(h1, .inr (0, [.int (X 0), .int (Y 0), .int (D 0), .int (Q 0), .ref v0, .int (er_ex X Y 0), .int (er_ey X Y 0), .int (er_ea X Y 0), .int (er_ed X Y 0), .int (er_lw (er_ea X Y 0) (er_ed X Y 0))])), (h2, .inr (0, [.int (X 1), .int (Y 1), .int (D 1), .int (Q 1), .ref v1, .int (er_ex X Y 1), .int (er_ey X Y 1), .int (er_ea X Y 1), .int (er_ed X Y 1), .int (er_lw (er_ea X Y 1) (er_ed X Y 1))])), (h3, .inr (0, [.int (X 2), .int (Y 2), .int (D 2), .int (Q 2), .ref v2, .int (er_ex X Y 2), .int (er_ey X Y 2), .int (er_ea X Y 2), .int (er_ed X Y 2), .int (er_lw (er_ea X Y 2) (er_ed X Y 2))])), (v0, .inl (k0, 28, .inl f0)), (v1, .inl (k1, 28, .inl (upd f1 n p2))), (v2, .inl (k2, 28, .inl f2)), (h0, .inr (1, [.ref h1, .ref h2, .ref h3, .long (er_ar X Y), .int wx, .int wy, .int ww, .int wh, .int 0, .int 0, .int lx, .int ly]))] := hD
      have hK : va_K (dC, dI) classes [(k0, .int), (k1, .int), (k2, .int)] s := hK
      have hP9 := hP.sub (ws' := [(h0, .inr (1, [.ref h1, .ref h2, .ref h3, .long (er_ar X Y), .int wx, .int wy, .int ww, .int wh, .int 0, .int 0, .int lx, .int ly])), (h1, .inr (0, [.int (X 0), .int (Y 0), .int (D 0), .int (Q 0), .ref v0, .int (er_ex X Y 0), .int (er_ey X Y 0), .int (er_ea X Y 0), .int (er_ed X Y 0), .int (er_lw (er_ea X Y 0) (er_ed X Y 0))])), (h2, .inr (0, [.int (X 1), .int (Y 1), .int (D 1), .int (Q 1), .ref v1, .int (er_ex X Y 1), .int (er_ey X Y 1), .int (er_ea X Y 1), .int (er_ed X Y 1), .int (er_lw (er_ea X Y 1) (er_ed X Y 1))])), (h3, .inr (0, [.int (X 2), .int (Y 2), .int (D 2), .int (Q 2), .ref v2, .int (er_ex X Y 2), .int (er_ey X Y 2), .int (er_ea X Y 2), .int (er_ed X Y 2), .int (er_lw (er_ea X Y 2) (er_ed X Y 2))])), (v0, .inl (k0, 28, .inl f0)), (v1, .inl (k1, 28, .inl (upd f1 n p2))), (v2, .inl (k2, 28, .inl f2))]) [6, 0, 1, 2, 3, 4, 5] rfl
      have hD9 := hD.sub (ws' := [(h0, .inr (1, [.ref h1, .ref h2, .ref h3, .long (er_ar X Y), .int wx, .int wy, .int ww, .int wh, .int 0, .int 0, .int lx, .int ly])), (h1, .inr (0, [.int (X 0), .int (Y 0), .int (D 0), .int (Q 0), .ref v0, .int (er_ex X Y 0), .int (er_ey X Y 0), .int (er_ea X Y 0), .int (er_ed X Y 0), .int (er_lw (er_ea X Y 0) (er_ed X Y 0))])), (h2, .inr (0, [.int (X 1), .int (Y 1), .int (D 1), .int (Q 1), .ref v1, .int (er_ex X Y 1), .int (er_ey X Y 1), .int (er_ea X Y 1), .int (er_ed X Y 1), .int (er_lw (er_ea X Y 1) (er_ed X Y 1))])), (h3, .inr (0, [.int (X 2), .int (Y 2), .int (D 2), .int (Q 2), .ref v2, .int (er_ex X Y 2), .int (er_ey X Y 2), .int (er_ea X Y 2), .int (er_ed X Y 2), .int (er_lw (er_ea X Y 2) (er_ed X Y 2))])), (v0, .inl (k0, 28, .inl f0)), (v1, .inl (k1, 28, .inl (upd f1 n p2))), (v2, .inl (k2, 28, .inl f2))]) [6, 0, 1, 2, 3, 4, 5] (by decide) rfl
      have hK9 := hK.sub (tys' := [(k0, .int), (k1, .int), (k2, .int)]) [0, 1, 2] rfl
      exact W.vret hx hb hr (fun u9 ht hW => ⟨⟨(), rfl, trivial, ⟨by rw [ht]; exact hP9, va_K.moved hW.alike hK9, hD9⟩⟩, hS.F ht⟩) hS.2.2 d_E_value_39
    · have c_4 := er_b_0.mp c_4
      exact absurd c_4 (by simp_all)

set_option maxHeartbeats 1000000 in
set_option maxRecDepth 100000 in
theorem c_E_corner2 (l : Launch) (dC : Nat → ClassId) (dI : Nat → Nat → Nat) (h0 h1 h2 h3 v0 v1 v2 : Nat) (X Y D Q : Nat → Int32) (wx wy ww wh wk on lx ly : Int32) (p1 p2 p3 p4 : Int32) (u1 : er_win p1 (-16384) 16383 = true) (u2 : er_win p2 (-16384) 16383 = true) (u3 : er_win p3 0 16777215 = true) (u4 : er_win p4 1 8388608 = true) (sz : Nat) : Met l y_E_corner w_E_corner ({ frames := 6, cells := 0, slots := 0, locals := 82 }) (va_Pc [.ref h0, .int 2, .int p1, .int p2, .int p3, .int p4] (PI dC dI [] [(h0, .inr (1, [.ref h1, .ref h2, .ref h3, .long (er_ar X Y), .int wx, .int wy, .int ww, .int wh, .int wk, .int on, .int lx, .int ly])), (h1, .inr (0, [.int (X 0), .int (Y 0), .int (D 0), .int (Q 0), .ref v0, .int (er_ex X Y 0), .int (er_ey X Y 0), .int (er_ea X Y 0), .int (er_ed X Y 0), .int (er_lw (er_ea X Y 0) (er_ed X Y 0))])), (h2, .inr (0, [.int (X 1), .int (Y 1), .int (D 1), .int (Q 1), .ref v1, .int (er_ex X Y 1), .int (er_ey X Y 1), .int (er_ea X Y 1), .int (er_ed X Y 1), .int (er_lw (er_ea X Y 1) (er_ed X Y 1))])), (h3, .inr (0, [.int (X 2), .int (Y 2), .int (D 2), .int (Q 2), .ref v2, .int (er_ex X Y 2), .int (er_ey X Y 2), .int (er_ea X Y 2), .int (er_ed X Y 2), .int (er_lw (er_ea X Y 2) (er_ed X Y 2))]))] sz)) (va_Qv (fun (u : Unit) => True) (fun (u : Unit) t => EI dC dI [] [(h0, .inr (1, [.ref h1, .ref h2, .ref h3, .long (er_ar (upd X 2 p1) (upd Y 2 p2)), .int wx, .int wy, .int ww, .int wh, .int 0, .int 0, .int lx, .int ly])), (h1, .inr (0, [.int ((upd X 2 p1) 0), .int ((upd Y 2 p2) 0), .int ((upd D 2 p3) 0), .int ((upd Q 2 p4) 0), .ref v0, .int (er_ex (upd X 2 p1) (upd Y 2 p2) 0), .int (er_ey (upd X 2 p1) (upd Y 2 p2) 0), .int (er_ea (upd X 2 p1) (upd Y 2 p2) 0), .int (er_ed (upd X 2 p1) (upd Y 2 p2) 0), .int (er_lw (er_ea (upd X 2 p1) (upd Y 2 p2) 0) (er_ed (upd X 2 p1) (upd Y 2 p2) 0))])), (h2, .inr (0, [.int ((upd X 2 p1) 1), .int ((upd Y 2 p2) 1), .int ((upd D 2 p3) 1), .int ((upd Q 2 p4) 1), .ref v1, .int (er_ex (upd X 2 p1) (upd Y 2 p2) 1), .int (er_ey (upd X 2 p1) (upd Y 2 p2) 1), .int (er_ea (upd X 2 p1) (upd Y 2 p2) 1), .int (er_ed (upd X 2 p1) (upd Y 2 p2) 1), .int (er_lw (er_ea (upd X 2 p1) (upd Y 2 p2) 1) (er_ed (upd X 2 p1) (upd Y 2 p2) 1))])), (h3, .inr (0, [.int ((upd X 2 p1) 2), .int ((upd Y 2 p2) 2), .int ((upd D 2 p3) 2), .int ((upd Q 2 p4) 2), .ref v2, .int (er_ex (upd X 2 p1) (upd Y 2 p2) 2), .int (er_ey (upd X 2 p1) (upd Y 2 p2) 2), .int (er_ea (upd X 2 p1) (upd Y 2 p2) 2), .int (er_ed (upd X 2 p1) (upd Y 2 p2) 2), .int (er_lw (er_ea (upd X 2 p1) (upd Y 2 p2) 2) (er_ed (upd X 2 p1) (upd Y 2 p2) 2))]))] (va_A [(h0, .inr (1, [.ref h1, .ref h2, .ref h3, .long (er_ar X Y), .int wx, .int wy, .int ww, .int wh, .int wk, .int on, .int lx, .int ly])), (h1, .inr (0, [.int (X 0), .int (Y 0), .int (D 0), .int (Q 0), .ref v0, .int (er_ex X Y 0), .int (er_ey X Y 0), .int (er_ea X Y 0), .int (er_ed X Y 0), .int (er_lw (er_ea X Y 0) (er_ed X Y 0))])), (h2, .inr (0, [.int (X 1), .int (Y 1), .int (D 1), .int (Q 1), .ref v1, .int (er_ex X Y 1), .int (er_ey X Y 1), .int (er_ea X Y 1), .int (er_ed X Y 1), .int (er_lw (er_ea X Y 1) (er_ed X Y 1))])), (h3, .inr (0, [.int (X 2), .int (Y 2), .int (D 2), .int (Q 2), .ref v2, .int (er_ex X Y 2), .int (er_ey X Y 2), .int (er_ea X Y 2), .int (er_ed X Y 2), .int (er_lw (er_ea X Y 2) (er_ed X Y 2))]))] sz) t) (va_A [(h0, .inr (1, [.ref h1, .ref h2, .ref h3, .long (er_ar X Y), .int wx, .int wy, .int ww, .int wh, .int wk, .int on, .int lx, .int ly])), (h1, .inr (0, [.int (X 0), .int (Y 0), .int (D 0), .int (Q 0), .ref v0, .int (er_ex X Y 0), .int (er_ey X Y 0), .int (er_ea X Y 0), .int (er_ed X Y 0), .int (er_lw (er_ea X Y 0) (er_ed X Y 0))])), (h2, .inr (0, [.int (X 1), .int (Y 1), .int (D 1), .int (Q 1), .ref v1, .int (er_ex X Y 1), .int (er_ey X Y 1), .int (er_ea X Y 1), .int (er_ed X Y 1), .int (er_lw (er_ea X Y 1) (er_ed X Y 1))])), (h3, .inr (0, [.int (X 2), .int (Y 2), .int (D 2), .int (Q 2), .ref v2, .int (er_ex X Y 2), .int (er_ey X Y 2), .int (er_ea X Y 2), .int (er_ed X Y 2), .int (er_lw (er_ea X Y 2) (er_ed X Y 2))]))] sz)) 0 0 (va_A [(h0, .inr (1, [.ref h1, .ref h2, .ref h3, .long (er_ar X Y), .int wx, .int wy, .int ww, .int wh, .int wk, .int on, .int lx, .int ly])), (h1, .inr (0, [.int (X 0), .int (Y 0), .int (D 0), .int (Q 0), .ref v0, .int (er_ex X Y 0), .int (er_ey X Y 0), .int (er_ea X Y 0), .int (er_ed X Y 0), .int (er_lw (er_ea X Y 0) (er_ed X Y 0))])), (h2, .inr (0, [.int (X 1), .int (Y 1), .int (D 1), .int (Q 1), .ref v1, .int (er_ex X Y 1), .int (er_ey X Y 1), .int (er_ea X Y 1), .int (er_ed X Y 1), .int (er_lw (er_ea X Y 1) (er_ed X Y 1))])), (h3, .inr (0, [.int (X 2), .int (Y 2), .int (D 2), .int (Q 2), .ref v2, .int (er_ex X Y 2), .int (er_ey X Y 2), .int (er_ea X Y 2), .int (er_ed X Y 2), .int (er_lw (er_ea X Y 2) (er_ed X Y 2))]))] sz) := by
  refine Met.ofW (cc := b_E_corner) (maxL := 7) (ret := none) (by decide +kernel) rfl ?_
  intro p e s m args below meth c s₁ B hml hv
  obtain ⟨rfl, hsz, hN, hK, hP, hD0⟩ := hv
  have hx := B.exec
  have hb := B.bytes
  have hr := B.returns
  have hts := er_hts (atoms_spec (ws := w_E_corner) B.pre)
  have hown : s.vm.findClass R_E = some m.cls := findClass_of_methodNamed B.named
  have hlocks := B.notSynchronized
  subst hsz
  have hD := hD0.self (sz := s.heap.size)
  generalize hAe : va_A [(h0, .inr (1, [.ref h1, .ref h2, .ref h3, .long (er_ar X Y), .int wx, .int wy, .int ww, .int wh, .int wk, .int on, .int lx, .int ly])), (h1, .inr (0, [.int (X 0), .int (Y 0), .int (D 0), .int (Q 0), .ref v0, .int (er_ex X Y 0), .int (er_ey X Y 0), .int (er_ea X Y 0), .int (er_ed X Y 0), .int (er_lw (er_ea X Y 0) (er_ed X Y 0))])), (h2, .inr (0, [.int (X 1), .int (Y 1), .int (D 1), .int (Q 1), .ref v1, .int (er_ex X Y 1), .int (er_ey X Y 1), .int (er_ea X Y 1), .int (er_ed X Y 1), .int (er_lw (er_ea X Y 1) (er_ed X Y 1))])), (h3, .inr (0, [.int (X 2), .int (Y 2), .int (D 2), .int (Q 2), .ref v2, .int (er_ex X Y 2), .int (er_ey X Y 2), .int (er_ea X Y 2), .int (er_ed X Y 2), .int (er_lw (er_ea X Y 2) (er_ed X Y 2))]))] s.heap.size = A at hD ⊢
  have hA : ∀ q : Nat, s.heap.size ≤ q → A q := fun q h => by rw [← hAe]; exact Or.inr h
  have hS : va_S A s.heap s.heap [] := va_S.rf
  have hP : va_P (dC, dI) classes [(h0, .inr (1, [.ref h1, .ref h2, .ref h3, .long (er_ar X Y), .int wx, .int wy, .int ww, .int wh, .int wk, .int on, .int lx, .int ly])), (h1, .inr (0, [.int (X 0), .int (Y 0), .int (D 0), .int (Q 0), .ref v0, .int (er_ex X Y 0), .int (er_ey X Y 0), .int (er_ea X Y 0), .int (er_ed X Y 0), .int (er_lw (er_ea X Y 0) (er_ed X Y 0))])), (h2, .inr (0, [.int (X 1), .int (Y 1), .int (D 1), .int (Q 1), .ref v1, .int (er_ex X Y 1), .int (er_ey X Y 1), .int (er_ea X Y 1), .int (er_ed X Y 1), .int (er_lw (er_ea X Y 1) (er_ed X Y 1))])), (h3, .inr (0, [.int (X 2), .int (Y 2), .int (D 2), .int (Q 2), .ref v2, .int (er_ex X Y 2), .int (er_ey X Y 2), .int (er_ea X Y 2), .int (er_ed X Y 2), .int (er_lw (er_ea X Y 2) (er_ed X Y 2))]))] s.heap := hP
  have hl := lv_entry ([.ref h0, .int 2, .int p1, .int p2, .int p3, .int p4]) (n := 7) (Nat.le_of_ble_eq_true rfl)
  rw [lg_entry_eq]
  generalize (lg_sl ([.ref h0, .int 2, .int p1, .int p2, .int p3, .int p4]) ++ List.replicate (7 - (lg_sl ([.ref h0, .int 2, .int p1, .int p2, .int p3, .int p4])).length) Slot.unset).toArray = ls at hl ⊢
  have hl : lv_has ls 7 [(0, .ref h0), (1, .int 2), (2, .int p1), (3, .int p2), (4, .int p3), (5, .int p4)] := hl
  have u0 : er_win 2 0 2 = true := by decide
  refine lv_iload_n hx hb d_E_corner_0 rfl (lv_at hl 1 rfl) ?_
  have hPc := hP.sub (ws' := []) [] rfl
  have hKc := hK.sub (tys' := []) [] rfl
  refine vp_callSi (va_runS (As := [.int 2]) (rest := []) ⟨hx, hb, hml, hown, hts⟩ (c_E_isCorner l dC dI 2) (va_cwS 1 hts (er_gS k_137 k_138 k_18 k_139) rfl rfl rfl (by decide +kernel) ⟨Nat.le_of_ble_eq_true rfl, Nat.le_of_ble_eq_true rfl⟩) ⟨PP.blind, PP.at hN hKc hPc⟩ rfl rfl hl.1 rfl (lv_room (Nat.le_of_ble_eq_true rfl)) d_E_corner_1 ⟨Nat.zero_le _, Nat.zero_le _⟩).run (fun r_1 hr_1 => ?_)
  obtain rfl : er_b (er_win 2 0 2) = r_1 := Eq.symm hr_1
  refine lv_if_ne (tgt := 17) hx hb d_E_corner_4 (by decide) (fun c_2 => ?_) (fun c_2 => ?_)
  · have c_2 := er_b_n.mp c_2
    refine lv_iload_n hx hb d_E_corner_17 rfl (lv_at hl 2 rfl) ?_
    refine lv_sipush (v := (-16384)) hx hb d_E_corner_18 (by decide) ?_
    refine lv_sipush (v := 16383) hx hb d_E_corner_21 (by decide) ?_
    have hPc := hP.sub (ws' := []) [] rfl
    have hKc := hK.sub (tys' := []) [] rfl
    refine vp_callSi (va_runS (As := [.int p1, .int (-16384), .int 16383]) (rest := []) ⟨hx, hb, hml, hown, hts⟩ (c_E_within l dC dI p1 (-16384) 16383) (va_cwS 3 hts (er_gS k_140 k_141 k_18 k_142) rfl rfl rfl (by decide +kernel) ⟨Nat.le_of_ble_eq_true rfl, Nat.le_of_ble_eq_true rfl⟩) ⟨PP.blind, PP.at hN hKc hPc⟩ rfl rfl hl.1 rfl (lv_room (Nat.le_of_ble_eq_true rfl)) d_E_corner_24 ⟨Nat.zero_le _, Nat.zero_le _⟩).run (fun r_3 hr_3 => ?_)
    obtain rfl : er_b (er_win p1 (-16384) 16383) = r_3 := Eq.symm hr_3
    refine lv_if_eq (tgt := 43) hx hb d_E_corner_27 (by decide) (fun c_4 => ?_) (fun c_4 => ?_)
    · have c_4 := er_b_0.mp c_4
      exact absurd c_4 (by simp_all)
    · have c_4 := er_b_n.mp c_4
      refine lv_iload_n hx hb d_E_corner_30 rfl (lv_at hl 3 rfl) ?_
      refine lv_sipush (v := (-16384)) hx hb d_E_corner_31 (by decide) ?_
      refine lv_sipush (v := 16383) hx hb d_E_corner_34 (by decide) ?_
      have hPc := hP.sub (ws' := []) [] rfl
      have hKc := hK.sub (tys' := []) [] rfl
      refine vp_callSi (va_runS (As := [.int p2, .int (-16384), .int 16383]) (rest := []) ⟨hx, hb, hml, hown, hts⟩ (c_E_within l dC dI p2 (-16384) 16383) (va_cwS 3 hts (er_gS k_140 k_141 k_18 k_142) rfl rfl rfl (by decide +kernel) ⟨Nat.le_of_ble_eq_true rfl, Nat.le_of_ble_eq_true rfl⟩) ⟨PP.blind, PP.at hN hKc hPc⟩ rfl rfl hl.1 rfl (lv_room (Nat.le_of_ble_eq_true rfl)) d_E_corner_37 ⟨Nat.zero_le _, Nat.zero_le _⟩).run (fun r_5 hr_5 => ?_)
      obtain rfl : er_b (er_win p2 (-16384) 16383) = r_5 := Eq.symm hr_5
      refine lv_if_ne (tgt := 53) hx hb d_E_corner_40 (by decide) (fun c_6 => ?_) (fun c_6 => ?_)
      · have c_6 := er_b_n.mp c_6
        refine lv_iload hx hb d_E_corner_53 (lv_at hl 4 rfl) ?_
        refine lv_iconst (v := 0) hx hb d_E_corner_55 (by decide) ?_
        refine lv_ldc (v := 16777215) hx hb hown (hts (.constant R_E 69 16777215) (by decide +kernel)) d_E_corner_56 ?_
        have hPc := hP.sub (ws' := []) [] rfl
        have hKc := hK.sub (tys' := []) [] rfl
        refine vp_callSi (va_runS (As := [.int p3, .int 0, .int 16777215]) (rest := []) ⟨hx, hb, hml, hown, hts⟩ (c_E_within l dC dI p3 0 16777215) (va_cwS 3 hts (er_gS k_140 k_141 k_18 k_142) rfl rfl rfl (by decide +kernel) ⟨Nat.le_of_ble_eq_true rfl, Nat.le_of_ble_eq_true rfl⟩) ⟨PP.blind, PP.at hN hKc hPc⟩ rfl rfl hl.1 rfl (lv_room (Nat.le_of_ble_eq_true rfl)) d_E_corner_58 ⟨Nat.zero_le _, Nat.zero_le _⟩).run (fun r_7 hr_7 => ?_)
        obtain rfl : er_b (er_win p3 0 16777215) = r_7 := Eq.symm hr_7
        refine lv_if_ne (tgt := 74) hx hb d_E_corner_61 (by decide) (fun c_8 => ?_) (fun c_8 => ?_)
        · have c_8 := er_b_n.mp c_8
          refine lv_iload hx hb d_E_corner_74 (lv_at hl 5 rfl) ?_
          refine lv_iconst (v := 1) hx hb d_E_corner_76 (by decide) ?_
          refine lv_ldc (v := 8388608) hx hb hown (hts (.constant R_E 72 8388608) (by decide +kernel)) d_E_corner_77 ?_
          have hPc := hP.sub (ws' := []) [] rfl
          have hKc := hK.sub (tys' := []) [] rfl
          refine vp_callSi (va_runS (As := [.int p4, .int 1, .int 8388608]) (rest := []) ⟨hx, hb, hml, hown, hts⟩ (c_E_within l dC dI p4 1 8388608) (va_cwS 3 hts (er_gS k_140 k_141 k_18 k_142) rfl rfl rfl (by decide +kernel) ⟨Nat.le_of_ble_eq_true rfl, Nat.le_of_ble_eq_true rfl⟩) ⟨PP.blind, PP.at hN hKc hPc⟩ rfl rfl hl.1 rfl (lv_room (Nat.le_of_ble_eq_true rfl)) d_E_corner_79 ⟨Nat.zero_le _, Nat.zero_le _⟩).run (fun r_9 hr_9 => ?_)
          obtain rfl : er_b (er_win p4 1 8388608) = r_9 := Eq.symm hr_9
          refine lv_if_ne (tgt := 95) hx hb d_E_corner_82 (by decide) (fun c_10 => ?_) (fun c_10 => ?_)
          · have c_10 := er_b_n.mp c_10
            refine lv_aload_n hx hb d_E_corner_95 rfl (lv_at hl 0 rfl) ?_
            refine lv_iload_n hx hb d_E_corner_96 rfl (lv_at hl 1 rfl) ?_
            have hPc := hP.sub (ws' := [(h0, .inr (1, [.ref h1, .ref h2, .ref h3, .long (er_ar X Y), .int wx, .int wy, .int ww, .int wh, .int wk, .int on, .int lx, .int ly]))]) [0] rfl
            have hKc := hK.sub (tys' := []) [] rfl
            refine va_csr (va_runV (As := [.int 2]) (rest := []) ⟨hx, hb, hml, hown, hts⟩ (c_E_cornerOf2 l dC dI h0 h1 h2 h3 (er_ar X Y) wx wy ww wh wk on lx ly) (cwV 1 hts (er_gV k_200 k_201 k_4 k_18 k_202) rfl rfl rfl (by decide +kernel) ⟨Nat.le_of_ble_eq_true rfl, Nat.le_of_ble_eq_true rfl⟩) ⟨PP.blind, va_recv hKc hPc (ci := 1) (q0 := 0) rfl rfl, PP.at hN hKc hPc⟩ rfl rfl hl.1 rfl (lv_room (Nat.le_of_ble_eq_true rfl)) d_E_corner_97 ⟨Nat.zero_le _, Nat.zero_le _⟩).run (fun r_11 hr_11 => ?_)
            obtain rfl : h3 = r_11 := Eq.symm hr_11
            refine lv_astore (lv' := [(6, .ref h3), (0, .ref h0), (1, .int 2), (2, .int p1), (3, .int p2), (4, .int p3), (5, .int p4)]) hx hb d_E_corner_100 hl (by decide) rfl (fun ls hl => ?_)
            refine lv_aload hx hb d_E_corner_102 (lv_at hl 0 rfl) ?_
            refine lv_iload_n hx hb d_E_corner_104 rfl (lv_at hl 3 rfl) ?_
            refine va_putN (D := (dC, dI)) (ci := 0) (v := .int p1) (ty := .int) (C := R_C) (T := F_C) (N := 10) hx hb hts i_C t_C t_C_ok n_C hown hK hP hD hS 3 rfl rfl 0 (by decide) (va_Nw.use rfl (hN _ kn_1)) (fun _ h9 => h9) rfl (by decide +kernel) rfl rfl (Nat.le_of_ble_eq_true rfl) d_E_corner_105 (fun H locs hP hD hS => ?_)
            have hP : va_P (dC, dI) classes [(h0, .inr (1, [.ref h1, .ref h2, .ref h3, .long (er_ar X Y), .int wx, .int wy, .int ww, .int wh, .int wk, .int on, .int lx, .int ly])), (h1, .inr (0, [.int (X 0), .int (Y 0), .int (D 0), .int (Q 0), .ref v0, .int (er_ex X Y 0), .int (er_ey X Y 0), .int (er_ea X Y 0), .int (er_ed X Y 0), .int (er_lw (er_ea X Y 0) (er_ed X Y 0))])), (h2, .inr (0, [.int (X 1), .int (Y 1), .int (D 1), .int (Q 1), .ref v1, .int (er_ex X Y 1), .int (er_ey X Y 1), .int (er_ea X Y 1), .int (er_ed X Y 1), .int (er_lw (er_ea X Y 1) (er_ed X Y 1))])), (h3, .inr (0, [.int p1, .int (Y 2), .int (D 2), .int (Q 2), .ref v2, .int (er_ex X Y 2), .int (er_ey X Y 2), .int (er_ea X Y 2), .int (er_ed X Y 2), .int (er_lw (er_ea X Y 2) (er_ed X Y 2))]))] H := hP
            have hD : va_D A [(h0, .inr (1, [.ref h1, .ref h2, .ref h3, .long (er_ar X Y), .int wx, .int wy, .int ww, .int wh, .int wk, .int on, .int lx, .int ly])), (h1, .inr (0, [.int (X 0), .int (Y 0), .int (D 0), .int (Q 0), .ref v0, .int (er_ex X Y 0), .int (er_ey X Y 0), .int (er_ea X Y 0), .int (er_ed X Y 0), .int (er_lw (er_ea X Y 0) (er_ed X Y 0))])), (h2, .inr (0, [.int (X 1), .int (Y 1), .int (D 1), .int (Q 1), .ref v1, .int (er_ex X Y 1), .int (er_ey X Y 1), .int (er_ea X Y 1), .int (er_ed X Y 1), .int (er_lw (er_ea X Y 1) (er_ed X Y 1))])), (h3, .inr (0, [.int p1, .int (Y 2), .int (D 2), .int (Q 2), .ref v2, .int (er_ex X Y 2), .int (er_ey X Y 2), .int (er_ea X Y 2), .int (er_ed X Y 2), .int (er_lw (er_ea X Y 2) (er_ed X Y 2))]))] := hD
            refine lv_aload hx hb d_E_corner_108 (lv_at hl 0 rfl) ?_
            refine lv_iload_n hx hb d_E_corner_110 rfl (lv_at hl 4 rfl) ?_
            refine va_putN (D := (dC, dI)) (ci := 0) (v := .int p2) (ty := .int) (C := R_C) (T := F_C) (N := 10) hx hb hts i_C t_C t_C_ok n_C hown hK hP hD hS 3 rfl rfl 1 (by decide) (va_Nw.use rfl (hN _ kn_2)) (fun _ h9 => h9) rfl (by decide +kernel) rfl rfl (Nat.le_of_ble_eq_true rfl) d_E_corner_111 (fun H locs hP hD hS => ?_)
            have hP : va_P (dC, dI) classes [(h0, .inr (1, [.ref h1, .ref h2, .ref h3, .long (er_ar X Y), .int wx, .int wy, .int ww, .int wh, .int wk, .int on, .int lx, .int ly])), (h1, .inr (0, [.int (X 0), .int (Y 0), .int (D 0), .int (Q 0), .ref v0, .int (er_ex X Y 0), .int (er_ey X Y 0), .int (er_ea X Y 0), .int (er_ed X Y 0), .int (er_lw (er_ea X Y 0) (er_ed X Y 0))])), (h2, .inr (0, [.int (X 1), .int (Y 1), .int (D 1), .int (Q 1), .ref v1, .int (er_ex X Y 1), .int (er_ey X Y 1), .int (er_ea X Y 1), .int (er_ed X Y 1), .int (er_lw (er_ea X Y 1) (er_ed X Y 1))])), (h3, .inr (0, [.int p1, .int p2, .int (D 2), .int (Q 2), .ref v2, .int (er_ex X Y 2), .int (er_ey X Y 2), .int (er_ea X Y 2), .int (er_ed X Y 2), .int (er_lw (er_ea X Y 2) (er_ed X Y 2))]))] H := hP
            have hD : va_D A [(h0, .inr (1, [.ref h1, .ref h2, .ref h3, .long (er_ar X Y), .int wx, .int wy, .int ww, .int wh, .int wk, .int on, .int lx, .int ly])), (h1, .inr (0, [.int (X 0), .int (Y 0), .int (D 0), .int (Q 0), .ref v0, .int (er_ex X Y 0), .int (er_ey X Y 0), .int (er_ea X Y 0), .int (er_ed X Y 0), .int (er_lw (er_ea X Y 0) (er_ed X Y 0))])), (h2, .inr (0, [.int (X 1), .int (Y 1), .int (D 1), .int (Q 1), .ref v1, .int (er_ex X Y 1), .int (er_ey X Y 1), .int (er_ea X Y 1), .int (er_ed X Y 1), .int (er_lw (er_ea X Y 1) (er_ed X Y 1))])), (h3, .inr (0, [.int p1, .int p2, .int (D 2), .int (Q 2), .ref v2, .int (er_ex X Y 2), .int (er_ey X Y 2), .int (er_ea X Y 2), .int (er_ed X Y 2), .int (er_lw (er_ea X Y 2) (er_ed X Y 2))]))] := hD
            refine lv_aload hx hb d_E_corner_114 (lv_at hl 0 rfl) ?_
            refine lv_iload hx hb d_E_corner_116 (lv_at hl 5 rfl) ?_
            refine va_putN (D := (dC, dI)) (ci := 0) (v := .int p3) (ty := .int) (C := R_C) (T := F_C) (N := 10) hx hb hts i_C t_C t_C_ok n_C hown hK hP hD hS 3 rfl rfl 2 (by decide) (va_Nw.use rfl (hN _ kn_3)) (fun _ h9 => h9) rfl (by decide +kernel) rfl rfl (Nat.le_of_ble_eq_true rfl) d_E_corner_118 (fun H locs hP hD hS => ?_)
            have hP : va_P (dC, dI) classes [(h0, .inr (1, [.ref h1, .ref h2, .ref h3, .long (er_ar X Y), .int wx, .int wy, .int ww, .int wh, .int wk, .int on, .int lx, .int ly])), (h1, .inr (0, [.int (X 0), .int (Y 0), .int (D 0), .int (Q 0), .ref v0, .int (er_ex X Y 0), .int (er_ey X Y 0), .int (er_ea X Y 0), .int (er_ed X Y 0), .int (er_lw (er_ea X Y 0) (er_ed X Y 0))])), (h2, .inr (0, [.int (X 1), .int (Y 1), .int (D 1), .int (Q 1), .ref v1, .int (er_ex X Y 1), .int (er_ey X Y 1), .int (er_ea X Y 1), .int (er_ed X Y 1), .int (er_lw (er_ea X Y 1) (er_ed X Y 1))])), (h3, .inr (0, [.int p1, .int p2, .int p3, .int (Q 2), .ref v2, .int (er_ex X Y 2), .int (er_ey X Y 2), .int (er_ea X Y 2), .int (er_ed X Y 2), .int (er_lw (er_ea X Y 2) (er_ed X Y 2))]))] H := hP
            have hD : va_D A [(h0, .inr (1, [.ref h1, .ref h2, .ref h3, .long (er_ar X Y), .int wx, .int wy, .int ww, .int wh, .int wk, .int on, .int lx, .int ly])), (h1, .inr (0, [.int (X 0), .int (Y 0), .int (D 0), .int (Q 0), .ref v0, .int (er_ex X Y 0), .int (er_ey X Y 0), .int (er_ea X Y 0), .int (er_ed X Y 0), .int (er_lw (er_ea X Y 0) (er_ed X Y 0))])), (h2, .inr (0, [.int (X 1), .int (Y 1), .int (D 1), .int (Q 1), .ref v1, .int (er_ex X Y 1), .int (er_ey X Y 1), .int (er_ea X Y 1), .int (er_ed X Y 1), .int (er_lw (er_ea X Y 1) (er_ed X Y 1))])), (h3, .inr (0, [.int p1, .int p2, .int p3, .int (Q 2), .ref v2, .int (er_ex X Y 2), .int (er_ey X Y 2), .int (er_ea X Y 2), .int (er_ed X Y 2), .int (er_lw (er_ea X Y 2) (er_ed X Y 2))]))] := hD
            refine lv_aload hx hb d_E_corner_121 (lv_at hl 0 rfl) ?_
            refine lv_iload hx hb d_E_corner_123 (lv_at hl 6 rfl) ?_
            refine va_putN (D := (dC, dI)) (ci := 0) (v := .int p4) (ty := .int) (C := R_C) (T := F_C) (N := 10) hx hb hts i_C t_C t_C_ok n_C hown hK hP hD hS 3 rfl rfl 3 (by decide) (va_Nw.use rfl (hN _ kn_4)) (fun _ h9 => h9) rfl (by decide +kernel) rfl rfl (Nat.le_of_ble_eq_true rfl) d_E_corner_125 (fun H locs hP hD hS => ?_)
            have hP : va_P (dC, dI) classes [(h0, .inr (1, [.ref h1, .ref h2, .ref h3, .long (er_ar X Y), .int wx, .int wy, .int ww, .int wh, .int wk, .int on, .int lx, .int ly])), (h1, .inr (0, [.int (X 0), .int (Y 0), .int (D 0), .int (Q 0), .ref v0, .int (er_ex X Y 0), .int (er_ey X Y 0), .int (er_ea X Y 0), .int (er_ed X Y 0), .int (er_lw (er_ea X Y 0) (er_ed X Y 0))])), (h2, .inr (0, [.int (X 1), .int (Y 1), .int (D 1), .int (Q 1), .ref v1, .int (er_ex X Y 1), .int (er_ey X Y 1), .int (er_ea X Y 1), .int (er_ed X Y 1), .int (er_lw (er_ea X Y 1) (er_ed X Y 1))])), (h3, .inr (0, [.int p1, .int p2, .int p3, .int p4, .ref v2, .int (er_ex X Y 2), .int (er_ey X Y 2), .int (er_ea X Y 2), .int (er_ed X Y 2), .int (er_lw (er_ea X Y 2) (er_ed X Y 2))]))] H := hP
            have hD : va_D A [(h0, .inr (1, [.ref h1, .ref h2, .ref h3, .long (er_ar X Y), .int wx, .int wy, .int ww, .int wh, .int wk, .int on, .int lx, .int ly])), (h1, .inr (0, [.int (X 0), .int (Y 0), .int (D 0), .int (Q 0), .ref v0, .int (er_ex X Y 0), .int (er_ey X Y 0), .int (er_ea X Y 0), .int (er_ed X Y 0), .int (er_lw (er_ea X Y 0) (er_ed X Y 0))])), (h2, .inr (0, [.int (X 1), .int (Y 1), .int (D 1), .int (Q 1), .ref v1, .int (er_ex X Y 1), .int (er_ey X Y 1), .int (er_ea X Y 1), .int (er_ed X Y 1), .int (er_lw (er_ea X Y 1) (er_ed X Y 1))])), (h3, .inr (0, [.int p1, .int p2, .int p3, .int p4, .ref v2, .int (er_ex X Y 2), .int (er_ey X Y 2), .int (er_ea X Y 2), .int (er_ed X Y 2), .int (er_lw (er_ea X Y 2) (er_ed X Y 2))]))] := hD
            have hP : va_P (dC, dI) classes [(h0, .inr (1, [.ref h1, .ref h2, .ref h3, .long (er_ar X Y), .int wx, .int wy, .int ww, .int wh, .int wk, .int on, .int lx, .int ly])), (h1, .inr (0, [.int ((upd X 2 p1) 0), .int ((upd Y 2 p2) 0), .int ((upd D 2 p3) 0), .int ((upd Q 2 p4) 0), .ref v0, .int (er_ex X Y 0), .int (er_ey X Y 0), .int (er_ea X Y 0), .int (er_ed X Y 0), .int (er_lw (er_ea X Y 0) (er_ed X Y 0))])), (h2, .inr (0, [.int ((upd X 2 p1) 1), .int ((upd Y 2 p2) 1), .int ((upd D 2 p3) 1), .int ((upd Q 2 p4) 1), .ref v1, .int (er_ex X Y 1), .int (er_ey X Y 1), .int (er_ea X Y 1), .int (er_ed X Y 1), .int (er_lw (er_ea X Y 1) (er_ed X Y 1))])), (h3, .inr (0, [.int ((upd X 2 p1) 2), .int ((upd Y 2 p2) 2), .int ((upd D 2 p3) 2), .int ((upd Q 2 p4) 2), .ref v2, .int (er_ex X Y 2), .int (er_ey X Y 2), .int (er_ea X Y 2), .int (er_ed X Y 2), .int (er_lw (er_ea X Y 2) (er_ed X Y 2))]))] H := hP
            have hD : va_D A [(h0, .inr (1, [.ref h1, .ref h2, .ref h3, .long (er_ar X Y), .int wx, .int wy, .int ww, .int wh, .int wk, .int on, .int lx, .int ly])), (h1, .inr (0, [.int ((upd X 2 p1) 0), .int ((upd Y 2 p2) 0), .int ((upd D 2 p3) 0), .int ((upd Q 2 p4) 0), .ref v0, .int (er_ex X Y 0), .int (er_ey X Y 0), .int (er_ea X Y 0), .int (er_ed X Y 0), .int (er_lw (er_ea X Y 0) (er_ed X Y 0))])), (h2, .inr (0, [.int ((upd X 2 p1) 1), .int ((upd Y 2 p2) 1), .int ((upd D 2 p3) 1), .int ((upd Q 2 p4) 1), .ref v1, .int (er_ex X Y 1), .int (er_ey X Y 1), .int (er_ea X Y 1), .int (er_ed X Y 1), .int (er_lw (er_ea X Y 1) (er_ed X Y 1))])), (h3, .inr (0, [.int ((upd X 2 p1) 2), .int ((upd Y 2 p2) 2), .int ((upd D 2 p3) 2), .int ((upd Q 2 p4) 2), .ref v2, .int (er_ex X Y 2), .int (er_ey X Y 2), .int (er_ea X Y 2), .int (er_ed X Y 2), .int (er_lw (er_ea X Y 2) (er_ed X Y 2))]))] := hD
            refine lv_aload_n hx hb d_E_corner_128 rfl (lv_at hl 1 rfl) ?_
            have hPc := hP.sub (ws' := [(h0, .inr (1, [.ref h1, .ref h2, .ref h3, .long (er_ar X Y), .int wx, .int wy, .int ww, .int wh, .int wk, .int on, .int lx, .int ly])), (h1, .inr (0, [.int ((upd X 2 p1) 0), .int ((upd Y 2 p2) 0), .int ((upd D 2 p3) 0), .int ((upd Q 2 p4) 0), .ref v0, .int (er_ex X Y 0), .int (er_ey X Y 0), .int (er_ea X Y 0), .int (er_ed X Y 0), .int (er_lw (er_ea X Y 0) (er_ed X Y 0))])), (h2, .inr (0, [.int ((upd X 2 p1) 1), .int ((upd Y 2 p2) 1), .int ((upd D 2 p3) 1), .int ((upd Q 2 p4) 1), .ref v1, .int (er_ex X Y 1), .int (er_ey X Y 1), .int (er_ea X Y 1), .int (er_ed X Y 1), .int (er_lw (er_ea X Y 1) (er_ed X Y 1))])), (h3, .inr (0, [.int ((upd X 2 p1) 2), .int ((upd Y 2 p2) 2), .int ((upd D 2 p3) 2), .int ((upd Q 2 p4) 2), .ref v2, .int (er_ex X Y 2), .int (er_ey X Y 2), .int (er_ea X Y 2), .int (er_ed X Y 2), .int (er_lw (er_ea X Y 2) (er_ed X Y 2))]))]) [0, 1, 2, 3] rfl
            have hDc := hD.sub (ws' := [(h0, .inr (1, [.ref h1, .ref h2, .ref h3, .long (er_ar X Y), .int wx, .int wy, .int ww, .int wh, .int wk, .int on, .int lx, .int ly])), (h1, .inr (0, [.int ((upd X 2 p1) 0), .int ((upd Y 2 p2) 0), .int ((upd D 2 p3) 0), .int ((upd Q 2 p4) 0), .ref v0, .int (er_ex X Y 0), .int (er_ey X Y 0), .int (er_ea X Y 0), .int (er_ed X Y 0), .int (er_lw (er_ea X Y 0) (er_ed X Y 0))])), (h2, .inr (0, [.int ((upd X 2 p1) 1), .int ((upd Y 2 p2) 1), .int ((upd D 2 p3) 1), .int ((upd Q 2 p4) 1), .ref v1, .int (er_ex X Y 1), .int (er_ey X Y 1), .int (er_ea X Y 1), .int (er_ed X Y 1), .int (er_lw (er_ea X Y 1) (er_ed X Y 1))])), (h3, .inr (0, [.int ((upd X 2 p1) 2), .int ((upd Y 2 p2) 2), .int ((upd D 2 p3) 2), .int ((upd Q 2 p4) 2), .ref v2, .int (er_ex X Y 2), .int (er_ey X Y 2), .int (er_ea X Y 2), .int (er_ed X Y 2), .int (er_lw (er_ea X Y 2) (er_ed X Y 2))]))]) [0, 1, 2, 3] (by decide) rfl
            have hKc := hK.sub (tys' := []) [] rfl
            have hFc := va_free (wc := [(h0, .inr (1, [.ref h1, .ref h2, .ref h3, .long (er_ar X Y), .int wx, .int wy, .int ww, .int wh, .int wk, .int on, .int lx, .int ly])), (h1, .inr (0, [.int ((upd X 2 p1) 0), .int ((upd Y 2 p2) 0), .int ((upd D 2 p3) 0), .int ((upd Q 2 p4) 0), .ref v0, .int (er_ex X Y 0), .int (er_ey X Y 0), .int (er_ea X Y 0), .int (er_ed X Y 0), .int (er_lw (er_ea X Y 0) (er_ed X Y 0))])), (h2, .inr (0, [.int ((upd X 2 p1) 1), .int ((upd Y 2 p2) 1), .int ((upd D 2 p3) 1), .int ((upd Q 2 p4) 1), .ref v1, .int (er_ex X Y 1), .int (er_ey X Y 1), .int (er_ea X Y 1), .int (er_ed X Y 1), .int (er_lw (er_ea X Y 1) (er_ed X Y 1))])), (h3, .inr (0, [.int ((upd X 2 p1) 2), .int ((upd Y 2 p2) 2), .int ((upd D 2 p3) 2), .int ((upd Q 2 p4) 2), .ref v2, .int (er_ex X Y 2), .int (er_ey X Y 2), .int (er_ea X Y 2), .int (er_ed X Y 2), .int (er_lw (er_ea X Y 2) (er_ed X Y 2))]))]) hD hS hA [0, 1, 2, 3] rfl
            refine va_callv (va_runV (As := []) (rest := []) ⟨hx, hb, hml, hown, hts⟩ (c_E_layTriangle l dC dI h0 h1 h2 h3 v0 v1 v2 (upd X 2 p1) (upd Y 2 p2) (upd D 2 p3) (upd Q 2 p4) (er_ar X Y) wx wy ww wh wk on lx ly (er_ex X Y 0) (er_ey X Y 0) (er_ea X Y 0) (er_ed X Y 0) (er_lw (er_ea X Y 0) (er_ed X Y 0)) (er_ex X Y 1) (er_ey X Y 1) (er_ea X Y 1) (er_ed X Y 1) (er_lw (er_ea X Y 1) (er_ed X Y 1)) (er_ex X Y 2) (er_ey X Y 2) (er_ea X Y 2) (er_ed X Y 2) (er_lw (er_ea X Y 2) (er_ed X Y 2)) H.size) (cwV 0 hts (er_gV k_203 k_204 k_5 k_18 k_205) rfl rfl rfl (by decide +kernel) ⟨Nat.le_of_ble_eq_true rfl, Nat.le_of_ble_eq_true rfl⟩) ⟨PI.blind, va_recv hKc hPc (ci := 1) (q0 := 0) rfl rfl, PI.at hN hKc hPc hDc⟩ rfl rfl hl.1 rfl (lv_room (Nat.le_of_ble_eq_true rfl)) d_E_corner_129 ⟨Nat.le_of_ble_eq_true rfl, Nat.le_of_ble_eq_true rfl⟩) hS (fun q _ h => hFc q h) hFc (fun u t H1 locs ht hvm hw hB hz1 hk1 hS => ?_)
            obtain ⟨hP1, hK1, hD1⟩ := hB
            rw [ht] at hP1
            have hK1 := va_K.moved hvm.symm hK1
            obtain ⟨hP, hD⟩ := va_join (wr := []) (w1 := [(h0, .inr (1, [.ref h1, .ref h2, .ref h3, .long (er_ar (upd X 2 p1) (upd Y 2 p2)), .int wx, .int wy, .int ww, .int wh, .int wk, .int on, .int lx, .int ly])), (h1, .inr (0, [.int ((upd X 2 p1) 0), .int ((upd Y 2 p2) 0), .int ((upd D 2 p3) 0), .int ((upd Q 2 p4) 0), .ref v0, .int (er_ex (upd X 2 p1) (upd Y 2 p2) 0), .int (er_ey (upd X 2 p1) (upd Y 2 p2) 0), .int (er_ea (upd X 2 p1) (upd Y 2 p2) 0), .int (er_ed (upd X 2 p1) (upd Y 2 p2) 0), .int (er_lw (er_ea (upd X 2 p1) (upd Y 2 p2) 0) (er_ed (upd X 2 p1) (upd Y 2 p2) 0))])), (h2, .inr (0, [.int ((upd X 2 p1) 1), .int ((upd Y 2 p2) 1), .int ((upd D 2 p3) 1), .int ((upd Q 2 p4) 1), .ref v1, .int (er_ex (upd X 2 p1) (upd Y 2 p2) 1), .int (er_ey (upd X 2 p1) (upd Y 2 p2) 1), .int (er_ea (upd X 2 p1) (upd Y 2 p2) 1), .int (er_ed (upd X 2 p1) (upd Y 2 p2) 1), .int (er_lw (er_ea (upd X 2 p1) (upd Y 2 p2) 1) (er_ed (upd X 2 p1) (upd Y 2 p2) 1))])), (h3, .inr (0, [.int ((upd X 2 p1) 2), .int ((upd Y 2 p2) 2), .int ((upd D 2 p3) 2), .int ((upd Q 2 p4) 2), .ref v2, .int (er_ex (upd X 2 p1) (upd Y 2 p2) 2), .int (er_ey (upd X 2 p1) (upd Y 2 p2) 2), .int (er_ea (upd X 2 p1) (upd Y 2 p2) 2), .int (er_ed (upd X 2 p1) (upd Y 2 p2) 2), .int (er_lw (er_ea (upd X 2 p1) (upd Y 2 p2) 2) (er_ed (upd X 2 p1) (upd Y 2 p2) 2))]))]) hP hD [0, 1, 2, 3] [] rfl rfl (by decide) (by decide) hk1 hFc hP1 hD1
            have hK := (hK.sub (tys' := []) [] rfl).app hK1
            generalize H1 = H at hP hS ⊢
            have hP : va_P (dC, dI) classes [(h0, .inr (1, [.ref h1, .ref h2, .ref h3, .long (er_ar (upd X 2 p1) (upd Y 2 p2)), .int wx, .int wy, .int ww, .int wh, .int wk, .int on, .int lx, .int ly])), (h1, .inr (0, [.int ((upd X 2 p1) 0), .int ((upd Y 2 p2) 0), .int ((upd D 2 p3) 0), .int ((upd Q 2 p4) 0), .ref v0, .int (er_ex (upd X 2 p1) (upd Y 2 p2) 0), .int (er_ey (upd X 2 p1) (upd Y 2 p2) 0), .int (er_ea (upd X 2 p1) (upd Y 2 p2) 0), .int (er_ed (upd X 2 p1) (upd Y 2 p2) 0), .int (er_lw (er_ea (upd X 2 p1) (upd Y 2 p2) 0) (er_ed (upd X 2 p1) (upd Y 2 p2) 0))])), (h2, .inr (0, [.int ((upd X 2 p1) 1), .int ((upd Y 2 p2) 1), .int ((upd D 2 p3) 1), .int ((upd Q 2 p4) 1), .ref v1, .int (er_ex (upd X 2 p1) (upd Y 2 p2) 1), .int (er_ey (upd X 2 p1) (upd Y 2 p2) 1), .int (er_ea (upd X 2 p1) (upd Y 2 p2) 1), .int (er_ed (upd X 2 p1) (upd Y 2 p2) 1), .int (er_lw (er_ea (upd X 2 p1) (upd Y 2 p2) 1) (er_ed (upd X 2 p1) (upd Y 2 p2) 1))])), (h3, .inr (0, [.int ((upd X 2 p1) 2), .int ((upd Y 2 p2) 2), .int ((upd D 2 p3) 2), .int ((upd Q 2 p4) 2), .ref v2, .int (er_ex (upd X 2 p1) (upd Y 2 p2) 2), .int (er_ey (upd X 2 p1) (upd Y 2 p2) 2), .int (er_ea (upd X 2 p1) (upd Y 2 p2) 2), .int (er_ed (upd X 2 p1) (upd Y 2 p2) 2), .int (er_lw (er_ea (upd X 2 p1) (upd Y 2 p2) 2) (er_ed (upd X 2 p1) (upd Y 2 p2) 2))]))] H := hP
            have hD : va_D A [(h0, .inr (1, [.ref h1, .ref h2, .ref h3, .long (er_ar (upd X 2 p1) (upd Y 2 p2)), .int wx, .int wy, .int ww, .int wh, .int wk, .int on, .int lx, .int ly])), (h1, .inr (0, [.int ((upd X 2 p1) 0), .int ((upd Y 2 p2) 0), .int ((upd D 2 p3) 0), .int ((upd Q 2 p4) 0), .ref v0, .int (er_ex (upd X 2 p1) (upd Y 2 p2) 0), .int (er_ey (upd X 2 p1) (upd Y 2 p2) 0), .int (er_ea (upd X 2 p1) (upd Y 2 p2) 0), .int (er_ed (upd X 2 p1) (upd Y 2 p2) 0), .int (er_lw (er_ea (upd X 2 p1) (upd Y 2 p2) 0) (er_ed (upd X 2 p1) (upd Y 2 p2) 0))])), (h2, .inr (0, [.int ((upd X 2 p1) 1), .int ((upd Y 2 p2) 1), .int ((upd D 2 p3) 1), .int ((upd Q 2 p4) 1), .ref v1, .int (er_ex (upd X 2 p1) (upd Y 2 p2) 1), .int (er_ey (upd X 2 p1) (upd Y 2 p2) 1), .int (er_ea (upd X 2 p1) (upd Y 2 p2) 1), .int (er_ed (upd X 2 p1) (upd Y 2 p2) 1), .int (er_lw (er_ea (upd X 2 p1) (upd Y 2 p2) 1) (er_ed (upd X 2 p1) (upd Y 2 p2) 1))])), (h3, .inr (0, [.int ((upd X 2 p1) 2), .int ((upd Y 2 p2) 2), .int ((upd D 2 p3) 2), .int ((upd Q 2 p4) 2), .ref v2, .int (er_ex (upd X 2 p1) (upd Y 2 p2) 2), .int (er_ey (upd X 2 p1) (upd Y 2 p2) 2), .int (er_ea (upd X 2 p1) (upd Y 2 p2) 2), .int (er_ed (upd X 2 p1) (upd Y 2 p2) 2), .int (er_lw (er_ea (upd X 2 p1) (upd Y 2 p2) 2) (er_ed (upd X 2 p1) (upd Y 2 p2) 2))]))] := hD
            have hK : va_K (dC, dI) classes [] s := hK
            refine lv_aload_n hx hb d_E_corner_132 rfl (lv_at hl 1 rfl) ?_
            have hPc := hP.sub (ws' := [(h0, .inr (1, [.ref h1, .ref h2, .ref h3, .long (er_ar (upd X 2 p1) (upd Y 2 p2)), .int wx, .int wy, .int ww, .int wh, .int wk, .int on, .int lx, .int ly]))]) [0] rfl
            have hDc := hD.sub (ws' := [(h0, .inr (1, [.ref h1, .ref h2, .ref h3, .long (er_ar (upd X 2 p1) (upd Y 2 p2)), .int wx, .int wy, .int ww, .int wh, .int wk, .int on, .int lx, .int ly]))]) [0] (by decide) rfl
            have hKc := hK.sub (tys' := []) [] rfl
            have hFc := va_free (wc := [(h0, .inr (1, [.ref h1, .ref h2, .ref h3, .long (er_ar (upd X 2 p1) (upd Y 2 p2)), .int wx, .int wy, .int ww, .int wh, .int wk, .int on, .int lx, .int ly]))]) hD hS hA [0] rfl
            refine va_callv (va_runV (As := []) (rest := []) ⟨hx, hb, hml, hown, hts⟩ (c_E_endWalk l dC dI h0 h1 h2 h3 (er_ar (upd X 2 p1) (upd Y 2 p2)) wx wy ww wh wk on lx ly H.size) (cwV 0 hts (er_gV k_208 k_209 k_7 k_18 k_210) rfl rfl rfl (by decide +kernel) ⟨Nat.le_of_ble_eq_true rfl, Nat.le_of_ble_eq_true rfl⟩) ⟨PI.blind, va_recv hKc hPc (ci := 1) (q0 := 0) rfl rfl, PI.at hN hKc hPc hDc⟩ rfl rfl hl.1 rfl (lv_room (Nat.le_of_ble_eq_true rfl)) d_E_corner_133 ⟨Nat.le_of_ble_eq_true rfl, Nat.le_of_ble_eq_true rfl⟩) hS (fun q _ h => hFc q h) hFc (fun u t H1 locs ht hvm hw hB hz1 hk1 hS => ?_)
            obtain ⟨hP1, hK1, hD1⟩ := hB
            rw [ht] at hP1
            have hK1 := va_K.moved hvm.symm hK1
            obtain ⟨hP, hD⟩ := va_join (wr := [(h1, .inr (0, [.int ((upd X 2 p1) 0), .int ((upd Y 2 p2) 0), .int ((upd D 2 p3) 0), .int ((upd Q 2 p4) 0), .ref v0, .int (er_ex (upd X 2 p1) (upd Y 2 p2) 0), .int (er_ey (upd X 2 p1) (upd Y 2 p2) 0), .int (er_ea (upd X 2 p1) (upd Y 2 p2) 0), .int (er_ed (upd X 2 p1) (upd Y 2 p2) 0), .int (er_lw (er_ea (upd X 2 p1) (upd Y 2 p2) 0) (er_ed (upd X 2 p1) (upd Y 2 p2) 0))])), (h2, .inr (0, [.int ((upd X 2 p1) 1), .int ((upd Y 2 p2) 1), .int ((upd D 2 p3) 1), .int ((upd Q 2 p4) 1), .ref v1, .int (er_ex (upd X 2 p1) (upd Y 2 p2) 1), .int (er_ey (upd X 2 p1) (upd Y 2 p2) 1), .int (er_ea (upd X 2 p1) (upd Y 2 p2) 1), .int (er_ed (upd X 2 p1) (upd Y 2 p2) 1), .int (er_lw (er_ea (upd X 2 p1) (upd Y 2 p2) 1) (er_ed (upd X 2 p1) (upd Y 2 p2) 1))])), (h3, .inr (0, [.int ((upd X 2 p1) 2), .int ((upd Y 2 p2) 2), .int ((upd D 2 p3) 2), .int ((upd Q 2 p4) 2), .ref v2, .int (er_ex (upd X 2 p1) (upd Y 2 p2) 2), .int (er_ey (upd X 2 p1) (upd Y 2 p2) 2), .int (er_ea (upd X 2 p1) (upd Y 2 p2) 2), .int (er_ed (upd X 2 p1) (upd Y 2 p2) 2), .int (er_lw (er_ea (upd X 2 p1) (upd Y 2 p2) 2) (er_ed (upd X 2 p1) (upd Y 2 p2) 2))]))]) (w1 := [(h0, .inr (1, [.ref h1, .ref h2, .ref h3, .long (er_ar (upd X 2 p1) (upd Y 2 p2)), .int wx, .int wy, .int ww, .int wh, .int 0, .int 0, .int lx, .int ly]))]) hP hD [0] [1, 2, 3] rfl rfl (by decide) (by decide) hk1 hFc hP1 hD1
            have hK := (hK.sub (tys' := []) [] rfl).app hK1
            generalize H1 = H at hP hS ⊢
            have hP : va_P (dC, dI) classes [(h1, .inr (0, [.int ((upd X 2 p1) 0), .int ((upd Y 2 p2) 0), .int ((upd D 2 p3) 0), .int ((upd Q 2 p4) 0), .ref v0, .int (er_ex (upd X 2 p1) (upd Y 2 p2) 0), .int (er_ey (upd X 2 p1) (upd Y 2 p2) 0), .int (er_ea (upd X 2 p1) (upd Y 2 p2) 0), .int (er_ed (upd X 2 p1) (upd Y 2 p2) 0), .int (er_lw (er_ea (upd X 2 p1) (upd Y 2 p2) 0) (er_ed (upd X 2 p1) (upd Y 2 p2) 0))])), (h2, .inr (0, [.int ((upd X 2 p1) 1), .int ((upd Y 2 p2) 1), .int ((upd D 2 p3) 1), .int ((upd Q 2 p4) 1), .ref v1, .int (er_ex (upd X 2 p1) (upd Y 2 p2) 1), .int (er_ey (upd X 2 p1) (upd Y 2 p2) 1), .int (er_ea (upd X 2 p1) (upd Y 2 p2) 1), .int (er_ed (upd X 2 p1) (upd Y 2 p2) 1), .int (er_lw (er_ea (upd X 2 p1) (upd Y 2 p2) 1) (er_ed (upd X 2 p1) (upd Y 2 p2) 1))])), (h3, .inr (0, [.int ((upd X 2 p1) 2), .int ((upd Y 2 p2) 2), .int ((upd D 2 p3) 2), .int ((upd Q 2 p4) 2), .ref v2, .int (er_ex (upd X 2 p1) (upd Y 2 p2) 2), .int (er_ey (upd X 2 p1) (upd Y 2 p2) 2), .int (er_ea (upd X 2 p1) (upd Y 2 p2) 2), .int (er_ed (upd X 2 p1) (upd Y 2 p2) 2), .int (er_lw (er_ea (upd X 2 p1) (upd Y 2 p2) 2) (er_ed (upd X 2 p1) (upd Y 2 p2) 2))])), (h0, .inr (1, [.ref h1, .ref h2, .ref h3, .long (er_ar (upd X 2 p1) (upd Y 2 p2)), .int wx, .int wy, .int ww, .int wh, .int 0, .int 0, .int lx, .int ly]))] H := hP
            have hD : va_D A [(h1, .inr (0, [.int ((upd X 2 p1) 0), .int ((upd Y 2 p2) 0), .int ((upd D 2 p3) 0), .int ((upd Q 2 p4) 0), .ref v0, .int (er_ex (upd X 2 p1) (upd Y 2 p2) 0), .int (er_ey (upd X 2 p1) (upd Y 2 p2) 0), .int (er_ea (upd X 2 p1) (upd Y 2 p2) 0), .int (er_ed (upd X 2 p1) (upd Y 2 p2) 0), .int (er_lw (er_ea (upd X 2 p1) (upd Y 2 p2) 0) (er_ed (upd X 2 p1) (upd Y 2 p2) 0))])), (h2, .inr (0, [.int ((upd X 2 p1) 1), .int ((upd Y 2 p2) 1), .int ((upd D 2 p3) 1), .int ((upd Q 2 p4) 1), .ref v1, .int (er_ex (upd X 2 p1) (upd Y 2 p2) 1), .int (er_ey (upd X 2 p1) (upd Y 2 p2) 1), .int (er_ea (upd X 2 p1) (upd Y 2 p2) 1), .int (er_ed (upd X 2 p1) (upd Y 2 p2) 1), .int (er_lw (er_ea (upd X 2 p1) (upd Y 2 p2) 1) (er_ed (upd X 2 p1) (upd Y 2 p2) 1))])), (h3, .inr (0, [.int ((upd X 2 p1) 2), .int ((upd Y 2 p2) 2), .int ((upd D 2 p3) 2), .int ((upd Q 2 p4) 2), .ref v2, .int (er_ex (upd X 2 p1) (upd Y 2 p2) 2), .int (er_ey (upd X 2 p1) (upd Y 2 p2) 2), .int (er_ea (upd X 2 p1) (upd Y 2 p2) 2), .int (er_ed (upd X 2 p1) (upd Y 2 p2) 2), .int (er_lw (er_ea (upd X 2 p1) (upd Y 2 p2) 2) (er_ed (upd X 2 p1) (upd Y 2 p2) 2))])), (h0, .inr (1, [.ref h1, .ref h2, .ref h3, .long (er_ar (upd X 2 p1) (upd Y 2 p2)), .int wx, .int wy, .int ww, .int wh, .int 0, .int 0, .int lx, .int ly]))] := hD
            have hK : va_K (dC, dI) classes [] s := hK
            have hP9 := hP.sub (ws' := [(h0, .inr (1, [.ref h1, .ref h2, .ref h3, .long (er_ar (upd X 2 p1) (upd Y 2 p2)), .int wx, .int wy, .int ww, .int wh, .int 0, .int 0, .int lx, .int ly])), (h1, .inr (0, [.int ((upd X 2 p1) 0), .int ((upd Y 2 p2) 0), .int ((upd D 2 p3) 0), .int ((upd Q 2 p4) 0), .ref v0, .int (er_ex (upd X 2 p1) (upd Y 2 p2) 0), .int (er_ey (upd X 2 p1) (upd Y 2 p2) 0), .int (er_ea (upd X 2 p1) (upd Y 2 p2) 0), .int (er_ed (upd X 2 p1) (upd Y 2 p2) 0), .int (er_lw (er_ea (upd X 2 p1) (upd Y 2 p2) 0) (er_ed (upd X 2 p1) (upd Y 2 p2) 0))])), (h2, .inr (0, [.int ((upd X 2 p1) 1), .int ((upd Y 2 p2) 1), .int ((upd D 2 p3) 1), .int ((upd Q 2 p4) 1), .ref v1, .int (er_ex (upd X 2 p1) (upd Y 2 p2) 1), .int (er_ey (upd X 2 p1) (upd Y 2 p2) 1), .int (er_ea (upd X 2 p1) (upd Y 2 p2) 1), .int (er_ed (upd X 2 p1) (upd Y 2 p2) 1), .int (er_lw (er_ea (upd X 2 p1) (upd Y 2 p2) 1) (er_ed (upd X 2 p1) (upd Y 2 p2) 1))])), (h3, .inr (0, [.int ((upd X 2 p1) 2), .int ((upd Y 2 p2) 2), .int ((upd D 2 p3) 2), .int ((upd Q 2 p4) 2), .ref v2, .int (er_ex (upd X 2 p1) (upd Y 2 p2) 2), .int (er_ey (upd X 2 p1) (upd Y 2 p2) 2), .int (er_ea (upd X 2 p1) (upd Y 2 p2) 2), .int (er_ed (upd X 2 p1) (upd Y 2 p2) 2), .int (er_lw (er_ea (upd X 2 p1) (upd Y 2 p2) 2) (er_ed (upd X 2 p1) (upd Y 2 p2) 2))]))]) [3, 0, 1, 2] rfl
            have hD9 := hD.sub (ws' := [(h0, .inr (1, [.ref h1, .ref h2, .ref h3, .long (er_ar (upd X 2 p1) (upd Y 2 p2)), .int wx, .int wy, .int ww, .int wh, .int 0, .int 0, .int lx, .int ly])), (h1, .inr (0, [.int ((upd X 2 p1) 0), .int ((upd Y 2 p2) 0), .int ((upd D 2 p3) 0), .int ((upd Q 2 p4) 0), .ref v0, .int (er_ex (upd X 2 p1) (upd Y 2 p2) 0), .int (er_ey (upd X 2 p1) (upd Y 2 p2) 0), .int (er_ea (upd X 2 p1) (upd Y 2 p2) 0), .int (er_ed (upd X 2 p1) (upd Y 2 p2) 0), .int (er_lw (er_ea (upd X 2 p1) (upd Y 2 p2) 0) (er_ed (upd X 2 p1) (upd Y 2 p2) 0))])), (h2, .inr (0, [.int ((upd X 2 p1) 1), .int ((upd Y 2 p2) 1), .int ((upd D 2 p3) 1), .int ((upd Q 2 p4) 1), .ref v1, .int (er_ex (upd X 2 p1) (upd Y 2 p2) 1), .int (er_ey (upd X 2 p1) (upd Y 2 p2) 1), .int (er_ea (upd X 2 p1) (upd Y 2 p2) 1), .int (er_ed (upd X 2 p1) (upd Y 2 p2) 1), .int (er_lw (er_ea (upd X 2 p1) (upd Y 2 p2) 1) (er_ed (upd X 2 p1) (upd Y 2 p2) 1))])), (h3, .inr (0, [.int ((upd X 2 p1) 2), .int ((upd Y 2 p2) 2), .int ((upd D 2 p3) 2), .int ((upd Q 2 p4) 2), .ref v2, .int (er_ex (upd X 2 p1) (upd Y 2 p2) 2), .int (er_ey (upd X 2 p1) (upd Y 2 p2) 2), .int (er_ea (upd X 2 p1) (upd Y 2 p2) 2), .int (er_ed (upd X 2 p1) (upd Y 2 p2) 2), .int (er_lw (er_ea (upd X 2 p1) (upd Y 2 p2) 2) (er_ed (upd X 2 p1) (upd Y 2 p2) 2))]))]) [3, 0, 1, 2] (by decide) rfl
            have hK9 := hK.sub (tys' := []) [] rfl
            exact W.vret hx hb hr (fun u9 ht hW => ⟨⟨(), rfl, trivial, ⟨by rw [ht]; exact hP9, va_K.moved hW.alike hK9, hD9⟩⟩, hS.F ht⟩) hS.2.2 d_E_corner_136
          · have c_10 := er_b_0.mp c_10
            exact absurd c_10 (by simp_all)
        · have c_8 := er_b_0.mp c_8
          exact absurd c_8 (by simp_all)
      · have c_6 := er_b_0.mp c_6
        exact absurd c_6 (by simp_all)
  · have c_2 := er_b_0.mp c_2
    exact absurd c_2 (by simp_all)

set_option maxHeartbeats 1000000 in
set_option maxRecDepth 100000 in
theorem c_E_value2 (l : Launch) (dC : Nat → ClassId) (dI : Nat → Nat → Nat) (h0 h1 h2 h3 v0 v1 v2 : Nat) (X Y D Q : Nat → Int32) (wx wy ww wh wk on lx ly : Int32) (k0 k1 k2 : ClassId) (f0 f1 f2 : Nat → Int32) (n : Nat) (p2 : Int32) (hn : n < 28) (sz : Nat) : Met l y_E_value w_E_value ({ frames := 6, cells := 0, slots := 0, locals := 82 }) (va_Pc [.ref h0, .int 2, .int (nI n), .int p2] (PI dC dI [(k0, .int), (k1, .int), (k2, .int)] [(h0, .inr (1, [.ref h1, .ref h2, .ref h3, .long (er_ar X Y), .int wx, .int wy, .int ww, .int wh, .int wk, .int on, .int lx, .int ly])), (h1, .inr (0, [.int (X 0), .int (Y 0), .int (D 0), .int (Q 0), .ref v0, .int (er_ex X Y 0), .int (er_ey X Y 0), .int (er_ea X Y 0), .int (er_ed X Y 0), .int (er_lw (er_ea X Y 0) (er_ed X Y 0))])), (h2, .inr (0, [.int (X 1), .int (Y 1), .int (D 1), .int (Q 1), .ref v1, .int (er_ex X Y 1), .int (er_ey X Y 1), .int (er_ea X Y 1), .int (er_ed X Y 1), .int (er_lw (er_ea X Y 1) (er_ed X Y 1))])), (h3, .inr (0, [.int (X 2), .int (Y 2), .int (D 2), .int (Q 2), .ref v2, .int (er_ex X Y 2), .int (er_ey X Y 2), .int (er_ea X Y 2), .int (er_ed X Y 2), .int (er_lw (er_ea X Y 2) (er_ed X Y 2))])), (v0, .inl (k0, 28, .inl f0)), (v1, .inl (k1, 28, .inl f1)), (v2, .inl (k2, 28, .inl f2))] sz)) (va_Qv (fun (u : Unit) => True) (fun (u : Unit) t => EI dC dI [(k0, .int), (k1, .int), (k2, .int)] [(h0, .inr (1, [.ref h1, .ref h2, .ref h3, .long (er_ar X Y), .int wx, .int wy, .int ww, .int wh, .int 0, .int 0, .int lx, .int ly])), (h1, .inr (0, [.int (X 0), .int (Y 0), .int (D 0), .int (Q 0), .ref v0, .int (er_ex X Y 0), .int (er_ey X Y 0), .int (er_ea X Y 0), .int (er_ed X Y 0), .int (er_lw (er_ea X Y 0) (er_ed X Y 0))])), (h2, .inr (0, [.int (X 1), .int (Y 1), .int (D 1), .int (Q 1), .ref v1, .int (er_ex X Y 1), .int (er_ey X Y 1), .int (er_ea X Y 1), .int (er_ed X Y 1), .int (er_lw (er_ea X Y 1) (er_ed X Y 1))])), (h3, .inr (0, [.int (X 2), .int (Y 2), .int (D 2), .int (Q 2), .ref v2, .int (er_ex X Y 2), .int (er_ey X Y 2), .int (er_ea X Y 2), .int (er_ed X Y 2), .int (er_lw (er_ea X Y 2) (er_ed X Y 2))])), (v0, .inl (k0, 28, .inl f0)), (v1, .inl (k1, 28, .inl f1)), (v2, .inl (k2, 28, .inl (upd f2 n p2)))] (va_A [(h0, .inr (1, [.ref h1, .ref h2, .ref h3, .long (er_ar X Y), .int wx, .int wy, .int ww, .int wh, .int wk, .int on, .int lx, .int ly])), (h1, .inr (0, [.int (X 0), .int (Y 0), .int (D 0), .int (Q 0), .ref v0, .int (er_ex X Y 0), .int (er_ey X Y 0), .int (er_ea X Y 0), .int (er_ed X Y 0), .int (er_lw (er_ea X Y 0) (er_ed X Y 0))])), (h2, .inr (0, [.int (X 1), .int (Y 1), .int (D 1), .int (Q 1), .ref v1, .int (er_ex X Y 1), .int (er_ey X Y 1), .int (er_ea X Y 1), .int (er_ed X Y 1), .int (er_lw (er_ea X Y 1) (er_ed X Y 1))])), (h3, .inr (0, [.int (X 2), .int (Y 2), .int (D 2), .int (Q 2), .ref v2, .int (er_ex X Y 2), .int (er_ey X Y 2), .int (er_ea X Y 2), .int (er_ed X Y 2), .int (er_lw (er_ea X Y 2) (er_ed X Y 2))])), (v0, .inl (k0, 28, .inl f0)), (v1, .inl (k1, 28, .inl f1)), (v2, .inl (k2, 28, .inl f2))] sz) t) (va_A [(h0, .inr (1, [.ref h1, .ref h2, .ref h3, .long (er_ar X Y), .int wx, .int wy, .int ww, .int wh, .int wk, .int on, .int lx, .int ly])), (h1, .inr (0, [.int (X 0), .int (Y 0), .int (D 0), .int (Q 0), .ref v0, .int (er_ex X Y 0), .int (er_ey X Y 0), .int (er_ea X Y 0), .int (er_ed X Y 0), .int (er_lw (er_ea X Y 0) (er_ed X Y 0))])), (h2, .inr (0, [.int (X 1), .int (Y 1), .int (D 1), .int (Q 1), .ref v1, .int (er_ex X Y 1), .int (er_ey X Y 1), .int (er_ea X Y 1), .int (er_ed X Y 1), .int (er_lw (er_ea X Y 1) (er_ed X Y 1))])), (h3, .inr (0, [.int (X 2), .int (Y 2), .int (D 2), .int (Q 2), .ref v2, .int (er_ex X Y 2), .int (er_ey X Y 2), .int (er_ea X Y 2), .int (er_ed X Y 2), .int (er_lw (er_ea X Y 2) (er_ed X Y 2))])), (v0, .inl (k0, 28, .inl f0)), (v1, .inl (k1, 28, .inl f1)), (v2, .inl (k2, 28, .inl f2))] sz)) 0 0 (va_A [(h0, .inr (1, [.ref h1, .ref h2, .ref h3, .long (er_ar X Y), .int wx, .int wy, .int ww, .int wh, .int wk, .int on, .int lx, .int ly])), (h1, .inr (0, [.int (X 0), .int (Y 0), .int (D 0), .int (Q 0), .ref v0, .int (er_ex X Y 0), .int (er_ey X Y 0), .int (er_ea X Y 0), .int (er_ed X Y 0), .int (er_lw (er_ea X Y 0) (er_ed X Y 0))])), (h2, .inr (0, [.int (X 1), .int (Y 1), .int (D 1), .int (Q 1), .ref v1, .int (er_ex X Y 1), .int (er_ey X Y 1), .int (er_ea X Y 1), .int (er_ed X Y 1), .int (er_lw (er_ea X Y 1) (er_ed X Y 1))])), (h3, .inr (0, [.int (X 2), .int (Y 2), .int (D 2), .int (Q 2), .ref v2, .int (er_ex X Y 2), .int (er_ey X Y 2), .int (er_ea X Y 2), .int (er_ed X Y 2), .int (er_lw (er_ea X Y 2) (er_ed X Y 2))])), (v0, .inl (k0, 28, .inl f0)), (v1, .inl (k1, 28, .inl f1)), (v2, .inl (k2, 28, .inl f2))] sz) := by
  refine Met.ofW (cc := b_E_value) (maxL := 4) (ret := none) (by decide +kernel) rfl ?_
  intro p e s m args below meth c s₁ B hml hv
  obtain ⟨rfl, hsz, hN, hK, hP, hD0⟩ := hv
  have hx := B.exec
  have hb := B.bytes
  have hr := B.returns
  have hts := er_hts (atoms_spec (ws := w_E_value) B.pre)
  have hown : s.vm.findClass R_E = some m.cls := findClass_of_methodNamed B.named
  have hlocks := B.notSynchronized
  subst hsz
  have hD := hD0.self (sz := s.heap.size)
  generalize hAe : va_A [(h0, .inr (1, [.ref h1, .ref h2, .ref h3, .long (er_ar X Y), .int wx, .int wy, .int ww, .int wh, .int wk, .int on, .int lx, .int ly])), (h1, .inr (0, [.int (X 0), .int (Y 0), .int (D 0), .int (Q 0), .ref v0, .int (er_ex X Y 0), .int (er_ey X Y 0), .int (er_ea X Y 0), .int (er_ed X Y 0), .int (er_lw (er_ea X Y 0) (er_ed X Y 0))])), (h2, .inr (0, [.int (X 1), .int (Y 1), .int (D 1), .int (Q 1), .ref v1, .int (er_ex X Y 1), .int (er_ey X Y 1), .int (er_ea X Y 1), .int (er_ed X Y 1), .int (er_lw (er_ea X Y 1) (er_ed X Y 1))])), (h3, .inr (0, [.int (X 2), .int (Y 2), .int (D 2), .int (Q 2), .ref v2, .int (er_ex X Y 2), .int (er_ey X Y 2), .int (er_ea X Y 2), .int (er_ed X Y 2), .int (er_lw (er_ea X Y 2) (er_ed X Y 2))])), (v0, .inl (k0, 28, .inl f0)), (v1, .inl (k1, 28, .inl f1)), (v2, .inl (k2, 28, .inl f2))] s.heap.size = A at hD ⊢
  have hA : ∀ q : Nat, s.heap.size ≤ q → A q := fun q h => by rw [← hAe]; exact Or.inr h
  have hS : va_S A s.heap s.heap [] := va_S.rf
  have hP : va_P (dC, dI) classes [(h0, .inr (1, [.ref h1, .ref h2, .ref h3, .long (er_ar X Y), .int wx, .int wy, .int ww, .int wh, .int wk, .int on, .int lx, .int ly])), (h1, .inr (0, [.int (X 0), .int (Y 0), .int (D 0), .int (Q 0), .ref v0, .int (er_ex X Y 0), .int (er_ey X Y 0), .int (er_ea X Y 0), .int (er_ed X Y 0), .int (er_lw (er_ea X Y 0) (er_ed X Y 0))])), (h2, .inr (0, [.int (X 1), .int (Y 1), .int (D 1), .int (Q 1), .ref v1, .int (er_ex X Y 1), .int (er_ey X Y 1), .int (er_ea X Y 1), .int (er_ed X Y 1), .int (er_lw (er_ea X Y 1) (er_ed X Y 1))])), (h3, .inr (0, [.int (X 2), .int (Y 2), .int (D 2), .int (Q 2), .ref v2, .int (er_ex X Y 2), .int (er_ey X Y 2), .int (er_ea X Y 2), .int (er_ed X Y 2), .int (er_lw (er_ea X Y 2) (er_ed X Y 2))])), (v0, .inl (k0, 28, .inl f0)), (v1, .inl (k1, 28, .inl f1)), (v2, .inl (k2, 28, .inl f2))] s.heap := hP
  have hl := lv_entry ([.ref h0, .int 2, .int (nI n), .int p2]) (n := 4) (Nat.le_of_ble_eq_true rfl)
  rw [lg_entry_eq]
  generalize (lg_sl ([.ref h0, .int 2, .int (nI n), .int p2]) ++ List.replicate (4 - (lg_sl ([.ref h0, .int 2, .int (nI n), .int p2])).length) Slot.unset).toArray = ls at hl ⊢
  have hl : lv_has ls 4 [(0, .ref h0), (1, .int 2), (2, .int (nI n)), (3, .int p2)] := hl
  have u0 : er_win 2 0 2 = true := by decide
  have u1 : er_win (nI n) 0 27 = true := er_win_nI (k := 27) (by omega) (by decide)
  refine lv_iload_n hx hb d_E_value_0 rfl (lv_at hl 1 rfl) ?_
  have hPc := hP.sub (ws' := []) [] rfl
  have hKc := hK.sub (tys' := []) [] rfl
  refine vp_callSi (va_runS (As := [.int 2]) (rest := []) ⟨hx, hb, hml, hown, hts⟩ (c_E_isCorner l dC dI 2) (va_cwS 1 hts (er_gS k_137 k_138 k_18 k_139) rfl rfl rfl (by decide +kernel) ⟨Nat.le_of_ble_eq_true rfl, Nat.le_of_ble_eq_true rfl⟩) ⟨PP.blind, PP.at hN hKc hPc⟩ rfl rfl hl.1 rfl (lv_room (Nat.le_of_ble_eq_true rfl)) d_E_value_1 ⟨Nat.zero_le _, Nat.zero_le _⟩).run (fun r_1 hr_1 => ?_)
  obtain rfl : er_b (er_win 2 0 2) = r_1 := Eq.symm hr_1
  refine lv_if_eq (tgt := 14) hx hb d_E_value_4 (by decide) (fun c_2 => ?_) (fun c_2 => ?_)
  · have c_2 := er_b_0.mp c_2
    exact absurd c_2 (by simp_all)
  · have c_2 := er_b_n.mp c_2
    refine lv_iload_n hx hb d_E_value_7 rfl (lv_at hl 2 rfl) ?_
    have hPc := hP.sub (ws' := []) [] rfl
    have hKc := hK.sub (tys' := []) [] rfl
    refine vp_callSi (va_runS (As := [.int (nI n)]) (rest := []) ⟨hx, hb, hml, hown, hts⟩ (c_E_isValue l dC dI (nI n)) (va_cwS 1 hts (er_gS k_218 k_219 k_18 k_220) rfl rfl rfl (by decide +kernel) ⟨Nat.le_of_ble_eq_true rfl, Nat.le_of_ble_eq_true rfl⟩) ⟨PP.blind, PP.at hN hKc hPc⟩ rfl rfl hl.1 rfl (lv_room (Nat.le_of_ble_eq_true rfl)) d_E_value_8 ⟨Nat.zero_le _, Nat.zero_le _⟩).run (fun r_3 hr_3 => ?_)
    obtain rfl : er_b (er_win (nI n) 0 27) = r_3 := Eq.symm hr_3
    refine lv_if_ne (tgt := 24) hx hb d_E_value_11 (by decide) (fun c_4 => ?_) (fun c_4 => ?_)
    · have c_4 := er_b_n.mp c_4
      refine lv_aload_n hx hb d_E_value_24 rfl (lv_at hl 0 rfl) ?_
      refine lv_iload_n hx hb d_E_value_25 rfl (lv_at hl 1 rfl) ?_
      have hPc := hP.sub (ws' := [(h0, .inr (1, [.ref h1, .ref h2, .ref h3, .long (er_ar X Y), .int wx, .int wy, .int ww, .int wh, .int wk, .int on, .int lx, .int ly]))]) [0] rfl
      have hKc := hK.sub (tys' := []) [] rfl
      refine va_csr (va_runV (As := [.int 2]) (rest := []) ⟨hx, hb, hml, hown, hts⟩ (c_E_cornerOf2 l dC dI h0 h1 h2 h3 (er_ar X Y) wx wy ww wh wk on lx ly) (cwV 1 hts (er_gV k_200 k_201 k_4 k_18 k_202) rfl rfl rfl (by decide +kernel) ⟨Nat.le_of_ble_eq_true rfl, Nat.le_of_ble_eq_true rfl⟩) ⟨PP.blind, va_recv hKc hPc (ci := 1) (q0 := 0) rfl rfl, PP.at hN hKc hPc⟩ rfl rfl hl.1 rfl (lv_room (Nat.le_of_ble_eq_true rfl)) d_E_value_26 ⟨Nat.zero_le _, Nat.zero_le _⟩).run (fun r_5 hr_5 => ?_)
      obtain rfl : h3 = r_5 := Eq.symm hr_5
      refine va_getN (D := (dC, dI)) (ci := 0) (v := .ref v2) (C := R_C) (T := F_C) (N := 10) hx hb hts i_C hown hK hP 3 rfl rfl 4 (by decide) (va_Nw.use rfl (hN _ kn_5)) (fun _ h9 => h9) rfl d_E_value_29 ?_
      refine lv_iload_n hx hb d_E_value_32 rfl (lv_at hl 2 rfl) ?_
      refine lv_iload_n hx hb d_E_value_33 rfl (lv_at hl 3 rfl) ?_
      refine va_iast (i := nI n) hx hb hK hP hD hS 6 2 rfl rfl (vp_in_nI (by omega) (by decide)) d_E_value_34 (fun H locs hP hD hS => ?_)
      rw [nI_clamp (by omega)] at hP hD
      have hP : va_P (dC, dI) classes [(h0, .inr (1, [.ref h1, .ref h2, .ref h3, .long (er_ar X Y), .int wx, .int wy, .int ww, .int wh, .int wk, .int on, .int lx, .int ly])), (h1, .inr (0, [.int (X 0), .int (Y 0), .int (D 0), .int (Q 0), .ref v0, .int (er_ex X Y 0), .int (er_ey X Y 0), .int (er_ea X Y 0), .int (er_ed X Y 0), .int (er_lw (er_ea X Y 0) (er_ed X Y 0))])), (h2, .inr (0, [.int (X 1), .int (Y 1), .int (D 1), .int (Q 1), .ref v1, .int (er_ex X Y 1), .int (er_ey X Y 1), .int (er_ea X Y 1), .int (er_ed X Y 1), .int (er_lw (er_ea X Y 1) (er_ed X Y 1))])), (h3, .inr (0, [.int (X 2), .int (Y 2), .int (D 2), .int (Q 2), .ref v2, .int (er_ex X Y 2), .int (er_ey X Y 2), .int (er_ea X Y 2), .int (er_ed X Y 2), .int (er_lw (er_ea X Y 2) (er_ed X Y 2))])), (v0, .inl (k0, 28, .inl f0)), (v1, .inl (k1, 28, .inl f1)), (v2, .inl (k2, 28, .inl (upd f2 n p2)))] H := hP
      have hD : va_D A [(h0, .inr (1, [.ref h1, .ref h2, .ref h3, .long (er_ar X Y), .int wx, .int wy, .int ww, .int wh, .int wk, .int on, .int lx, .int ly])), (h1, .inr (0, [.int (X 0), .int (Y 0), .int (D 0), .int (Q 0), .ref v0, .int (er_ex X Y 0), .int (er_ey X Y 0), .int (er_ea X Y 0), .int (er_ed X Y 0), .int (er_lw (er_ea X Y 0) (er_ed X Y 0))])), (h2, .inr (0, [.int (X 1), .int (Y 1), .int (D 1), .int (Q 1), .ref v1, .int (er_ex X Y 1), .int (er_ey X Y 1), .int (er_ea X Y 1), .int (er_ed X Y 1), .int (er_lw (er_ea X Y 1) (er_ed X Y 1))])), (h3, .inr (0, [.int (X 2), .int (Y 2), .int (D 2), .int (Q 2), .ref v2, .int (er_ex X Y 2), .int (er_ey X Y 2), .int (er_ea X Y 2), .int (er_ed X Y 2), .int (er_lw (er_ea X Y 2) (er_ed X Y 2))])), (v0, .inl (k0, 28, .inl f0)), (v1, .inl (k1, 28, .inl f1)), (v2, .inl (k2, 28, .inl (upd f2 n p2)))] := hD
      refine lv_aload_n hx hb d_E_value_35 rfl (lv_at hl 0 rfl) ?_
      have hPc := hP.sub (ws' := [(h0, .inr (1, [.ref h1, .ref h2, .ref h3, .long (er_ar X Y), .int wx, .int wy, .int ww, .int wh, .int wk, .int on, .int lx, .int ly]))]) [0] rfl
      have hDc := hD.sub (ws' := [(h0, .inr (1, [.ref h1, .ref h2, .ref h3, .long (er_ar X Y), .int wx, .int wy, .int ww, .int wh, .int wk, .int on, .int lx, .int ly]))]) [0] (by decide) rfl
      have hKc := hK.sub (tys' := []) [] rfl
      have hFc := va_free (wc := [(h0, .inr (1, [.ref h1, .ref h2, .ref h3, .long (er_ar X Y), .int wx, .int wy, .int ww, .int wh, .int wk, .int on, .int lx, .int ly]))]) hD hS hA [0] rfl
      refine va_callv (va_runV (As := []) (rest := []) ⟨hx, hb, hml, hown, hts⟩ (c_E_endWalk l dC dI h0 h1 h2 h3 (er_ar X Y) wx wy ww wh wk on lx ly H.size) (cwV 0 hts (er_gV k_208 k_209 k_7 k_18 k_210) rfl rfl rfl (by decide +kernel) ⟨Nat.le_of_ble_eq_true rfl, Nat.le_of_ble_eq_true rfl⟩) ⟨PI.blind, va_recv hKc hPc (ci := 1) (q0 := 0) rfl rfl, PI.at hN hKc hPc hDc⟩ rfl rfl hl.1 rfl (lv_room (Nat.le_of_ble_eq_true rfl)) d_E_value_36 ⟨Nat.le_of_ble_eq_true rfl, Nat.le_of_ble_eq_true rfl⟩) hS (fun q _ h => hFc q h) hFc (fun u t H1 locs ht hvm hw hB hz1 hk1 hS => ?_)
      obtain ⟨hP1, hK1, hD1⟩ := hB
      rw [ht] at hP1
      have hK1 := va_K.moved hvm.symm hK1
      obtain ⟨hP, hD⟩ := va_join (wr := [(h1, .inr (0, [.int (X 0), .int (Y 0), .int (D 0), .int (Q 0), .ref v0, .int (er_ex X Y 0), .int (er_ey X Y 0), .int (er_ea X Y 0), .int (er_ed X Y 0), .int (er_lw (er_ea X Y 0) (er_ed X Y 0))])), (h2, .inr (0, [.int (X 1), .int (Y 1), .int (D 1), .int (Q 1), .ref v1, .int (er_ex X Y 1), .int (er_ey X Y 1), .int (er_ea X Y 1), .int (er_ed X Y 1), .int (er_lw (er_ea X Y 1) (er_ed X Y 1))])), (h3, .inr (0, [.int (X 2), .int (Y 2), .int (D 2), .int (Q 2), .ref v2, .int (er_ex X Y 2), .int (er_ey X Y 2), .int (er_ea X Y 2), .int (er_ed X Y 2), .int (er_lw (er_ea X Y 2) (er_ed X Y 2))])), (v0, .inl (k0, 28, .inl f0)), (v1, .inl (k1, 28, .inl f1)), (v2, .inl (k2, 28, .inl (upd f2 n p2)))]) (w1 := [(h0, .inr (1, [.ref h1, .ref h2, .ref h3, .long (er_ar X Y), .int wx, .int wy, .int ww, .int wh, .int 0, .int 0, .int lx, .int ly]))]) hP hD [0] [1, 2, 3, 4, 5, 6] rfl rfl (by decide) (by decide) hk1 hFc hP1 hD1
      have hK := (hK.sub (tys' := [(k0, .int), (k1, .int), (k2, .int)]) [0, 1, 2] rfl).app hK1
      generalize H1 = H at hP hS ⊢
      have hP : va_P (dC, dI) classes [(h1, .inr (0, [.int (X 0), .int (Y 0), .int (D 0), .int (Q 0), .ref v0, .int (er_ex X Y 0), .int (er_ey X Y 0), .int (er_ea X Y 0), .int (er_ed X Y 0), .int (er_lw (er_ea X Y 0) (er_ed X Y 0))])), (h2, .inr (0, [.int (X 1), .int (Y 1), .int (D 1), .int (Q 1), .ref v1, .int (er_ex X Y 1), .int (er_ey X Y 1), .int (er_ea X Y 1), .int (er_ed X Y 1), .int (er_lw (er_ea X Y 1) (er_ed X Y 1))])), (h3, .inr (0, [.int (X 2), .int (Y 2), .int (D 2), .int (Q 2), .ref v2, .int (er_ex X Y 2), .int (er_ey X Y 2), .int (er_ea X Y 2), .int (er_ed X Y 2), .int (er_lw (er_ea X Y 2) (er_ed X Y 2))])), (v0, .inl (k0, 28, .inl f0)), (v1, .inl (k1, 28, .inl f1)), (v2, .inl (k2, 28, .inl (upd f2 n p2))), (h0, .inr (1, [.ref h1, .ref h2, .ref h3, .long (er_ar X Y), .int wx, .int wy, .int ww, .int wh, .int 0, .int 0, .int lx, .int ly]))] H := hP
      have hD : va_D A [(h1, .inr (0, [.int (X 0), .int (Y 0), .int (D 0), .int (Q 0), .ref v0, .int (er_ex X Y 0), .int (er_ey X Y 0), .int (er_ea X Y 0), .int (er_ed X Y 0), .int (er_lw (er_ea X Y 0) (er_ed X Y 0))])), (h2, .inr (0, [.int (X 1), .int (Y 1), .int (D 1), .int (Q 1), .ref v1, .int (er_ex X Y 1), .int (er_ey X Y 1), .int (er_ea X Y 1), .int (er_ed X Y 1), .int (er_lw (er_ea X Y 1) (er_ed X Y 1))])), (h3, .inr (0, [.int (X 2), .int (Y 2), .int (D 2), .int (Q 2), .ref v2, .int (er_ex X Y 2), .int (er_ey X Y 2), .int (er_ea X Y 2), .int (er_ed X Y 2), .int (er_lw (er_ea X Y 2) (er_ed X Y 2))])), (v0, .inl (k0, 28, .inl f0)), (v1, .inl (k1, 28, .inl f1)), (v2, .inl (k2, 28, .inl (upd f2 n p2))), (h0, .inr (1, [.ref h1, .ref h2, .ref h3, .long (er_ar X Y), .int wx, .int wy, .int ww, .int wh, .int 0, .int 0, .int lx, .int ly]))] := hD
      have hK : va_K (dC, dI) classes [(k0, .int), (k1, .int), (k2, .int)] s := hK
      have hP9 := hP.sub (ws' := [(h0, .inr (1, [.ref h1, .ref h2, .ref h3, .long (er_ar X Y), .int wx, .int wy, .int ww, .int wh, .int 0, .int 0, .int lx, .int ly])), (h1, .inr (0, [.int (X 0), .int (Y 0), .int (D 0), .int (Q 0), .ref v0, .int (er_ex X Y 0), .int (er_ey X Y 0), .int (er_ea X Y 0), .int (er_ed X Y 0), .int (er_lw (er_ea X Y 0) (er_ed X Y 0))])), (h2, .inr (0, [.int (X 1), .int (Y 1), .int (D 1), .int (Q 1), .ref v1, .int (er_ex X Y 1), .int (er_ey X Y 1), .int (er_ea X Y 1), .int (er_ed X Y 1), .int (er_lw (er_ea X Y 1) (er_ed X Y 1))])), (h3, .inr (0, [.int (X 2), .int (Y 2), .int (D 2), .int (Q 2), .ref v2, .int (er_ex X Y 2), .int (er_ey X Y 2), .int (er_ea X Y 2), .int (er_ed X Y 2), .int (er_lw (er_ea X Y 2) (er_ed X Y 2))])), (v0, .inl (k0, 28, .inl f0)), (v1, .inl (k1, 28, .inl f1)), (v2, .inl (k2, 28, .inl (upd f2 n p2)))]) [6, 0, 1, 2, 3, 4, 5] rfl
      have hD9 := hD.sub (ws' := [(h0, .inr (1, [.ref h1, .ref h2, .ref h3, .long (er_ar X Y), .int wx, .int wy, .int ww, .int wh, .int 0, .int 0, .int lx, .int ly])), (h1, .inr (0, [.int (X 0), .int (Y 0), .int (D 0), .int (Q 0), .ref v0, .int (er_ex X Y 0), .int (er_ey X Y 0), .int (er_ea X Y 0), .int (er_ed X Y 0), .int (er_lw (er_ea X Y 0) (er_ed X Y 0))])), (h2, .inr (0, [.int (X 1), .int (Y 1), .int (D 1), .int (Q 1), .ref v1, .int (er_ex X Y 1), .int (er_ey X Y 1), .int (er_ea X Y 1), .int (er_ed X Y 1), .int (er_lw (er_ea X Y 1) (er_ed X Y 1))])), (h3, .inr (0, [.int (X 2), .int (Y 2), .int (D 2), .int (Q 2), .ref v2, .int (er_ex X Y 2), .int (er_ey X Y 2), .int (er_ea X Y 2), .int (er_ed X Y 2), .int (er_lw (er_ea X Y 2) (er_ed X Y 2))])), (v0, .inl (k0, 28, .inl f0)), (v1, .inl (k1, 28, .inl f1)), (v2, .inl (k2, 28, .inl (upd f2 n p2)))]) [6, 0, 1, 2, 3, 4, 5] (by decide) rfl
      have hK9 := hK.sub (tys' := [(k0, .int), (k1, .int), (k2, .int)]) [0, 1, 2] rfl
      exact W.vret hx hb hr (fun u9 ht hW => ⟨⟨(), rfl, trivial, ⟨by rw [ht]; exact hP9, va_K.moved hW.alike hK9, hD9⟩⟩, hS.F ht⟩) hS.2.2 d_E_value_39
    · have c_4 := er_b_0.mp c_4
      exact absurd c_4 (by simp_all)
end
section
set_option maxHeartbeats 1000000 in
set_option maxRecDepth 100000 in
theorem c_E_next (l : Launch) (dC : Nat → ClassId) (dI : Nat → Nat → Nat) (h0 h1 h2 h3 v0 v1 v2 : Nat) (X Y D Q : Nat → Int32) (a b c9 d i j k9 : Nat) (on lx : Int32) (hac : a + c9 < 100000) (hbd : b + d < 100000) (hlx : lx + 1 = nI (a + i)) (hi : i ≤ c9) (hk9 : (j < d ∧ k9 = j * c9 + i) ∨ (j = d ∧ k9 = d * c9)) (sz : Nat) : Met l y_E_next w_E_next ({ frames := 6, cells := 0, slots := 0, locals := 91 }) (va_Pc [.ref h0] (PI dC dI [] [(h0, .inr (1, [.ref h1, .ref h2, .ref h3, .long (er_ar X Y), .int (nI a), .int (nI b), .int (nI c9), .int (nI d), .int 1, .int on, .int lx, .int (nI (b + j))])), (h1, .inr (0, [.int (X 0), .int (Y 0), .int (D 0), .int (Q 0), .ref v0, .int (er_ex X Y 0), .int (er_ey X Y 0), .int (er_ea X Y 0), .int (er_ed X Y 0), .int (er_lw (er_ea X Y 0) (er_ed X Y 0))])), (h2, .inr (0, [.int (X 1), .int (Y 1), .int (D 1), .int (Q 1), .ref v1, .int (er_ex X Y 1), .int (er_ey X Y 1), .int (er_ea X Y 1), .int (er_ed X Y 1), .int (er_lw (er_ea X Y 1) (er_ed X Y 1))])), (h3, .inr (0, [.int (X 2), .int (Y 2), .int (D 2), .int (Q 2), .ref v2, .int (er_ex X Y 2), .int (er_ey X Y 2), .int (er_ea X Y 2), .int (er_ed X Y 2), .int (er_lw (er_ea X Y 2) (er_ed X Y 2))]))] sz)) (va_Qi (fun (r : Int32) (u : Nat) => er_next (er_f X Y a b c9) (d * c9) k9 u ∧ r = (if u < d * c9 then 65536 * er_py b c9 u + er_px a c9 u else -1)) (fun (u : Nat) t => EI dC dI [] [(h0, .inr (1, [.ref h1, .ref h2, .ref h3, .long (er_ar X Y), .int (nI a), .int (nI b), .int (nI c9), .int (nI d), .int 1, .int (er_b (decide (u < d * c9))), .int (if u < d * c9 then er_px a c9 u else lx), .int (if u < d * c9 then er_py b c9 u else nI (b + d))])), (h1, .inr (0, [.int (X 0), .int (Y 0), .int (D 0), .int (Q 0), .ref v0, .int (er_ex X Y 0), .int (er_ey X Y 0), .int (er_ea X Y 0), .int (er_ed X Y 0), .int (er_lw (er_ea X Y 0) (er_ed X Y 0))])), (h2, .inr (0, [.int (X 1), .int (Y 1), .int (D 1), .int (Q 1), .ref v1, .int (er_ex X Y 1), .int (er_ey X Y 1), .int (er_ea X Y 1), .int (er_ed X Y 1), .int (er_lw (er_ea X Y 1) (er_ed X Y 1))])), (h3, .inr (0, [.int (X 2), .int (Y 2), .int (D 2), .int (Q 2), .ref v2, .int (er_ex X Y 2), .int (er_ey X Y 2), .int (er_ea X Y 2), .int (er_ed X Y 2), .int (er_lw (er_ea X Y 2) (er_ed X Y 2))]))] (va_A [(h0, .inr (1, [.ref h1, .ref h2, .ref h3, .long (er_ar X Y), .int (nI a), .int (nI b), .int (nI c9), .int (nI d), .int 1, .int on, .int lx, .int (nI (b + j))])), (h1, .inr (0, [.int (X 0), .int (Y 0), .int (D 0), .int (Q 0), .ref v0, .int (er_ex X Y 0), .int (er_ey X Y 0), .int (er_ea X Y 0), .int (er_ed X Y 0), .int (er_lw (er_ea X Y 0) (er_ed X Y 0))])), (h2, .inr (0, [.int (X 1), .int (Y 1), .int (D 1), .int (Q 1), .ref v1, .int (er_ex X Y 1), .int (er_ey X Y 1), .int (er_ea X Y 1), .int (er_ed X Y 1), .int (er_lw (er_ea X Y 1) (er_ed X Y 1))])), (h3, .inr (0, [.int (X 2), .int (Y 2), .int (D 2), .int (Q 2), .ref v2, .int (er_ex X Y 2), .int (er_ey X Y 2), .int (er_ea X Y 2), .int (er_ed X Y 2), .int (er_lw (er_ea X Y 2) (er_ed X Y 2))]))] sz) t) (va_A [(h0, .inr (1, [.ref h1, .ref h2, .ref h3, .long (er_ar X Y), .int (nI a), .int (nI b), .int (nI c9), .int (nI d), .int 1, .int on, .int lx, .int (nI (b + j))])), (h1, .inr (0, [.int (X 0), .int (Y 0), .int (D 0), .int (Q 0), .ref v0, .int (er_ex X Y 0), .int (er_ey X Y 0), .int (er_ea X Y 0), .int (er_ed X Y 0), .int (er_lw (er_ea X Y 0) (er_ed X Y 0))])), (h2, .inr (0, [.int (X 1), .int (Y 1), .int (D 1), .int (Q 1), .ref v1, .int (er_ex X Y 1), .int (er_ey X Y 1), .int (er_ea X Y 1), .int (er_ed X Y 1), .int (er_lw (er_ea X Y 1) (er_ed X Y 1))])), (h3, .inr (0, [.int (X 2), .int (Y 2), .int (D 2), .int (Q 2), .ref v2, .int (er_ex X Y 2), .int (er_ey X Y 2), .int (er_ea X Y 2), .int (er_ed X Y 2), .int (er_lw (er_ea X Y 2) (er_ed X Y 2))]))] sz)) 0 0 (va_A [(h0, .inr (1, [.ref h1, .ref h2, .ref h3, .long (er_ar X Y), .int (nI a), .int (nI b), .int (nI c9), .int (nI d), .int 1, .int on, .int lx, .int (nI (b + j))])), (h1, .inr (0, [.int (X 0), .int (Y 0), .int (D 0), .int (Q 0), .ref v0, .int (er_ex X Y 0), .int (er_ey X Y 0), .int (er_ea X Y 0), .int (er_ed X Y 0), .int (er_lw (er_ea X Y 0) (er_ed X Y 0))])), (h2, .inr (0, [.int (X 1), .int (Y 1), .int (D 1), .int (Q 1), .ref v1, .int (er_ex X Y 1), .int (er_ey X Y 1), .int (er_ea X Y 1), .int (er_ed X Y 1), .int (er_lw (er_ea X Y 1) (er_ed X Y 1))])), (h3, .inr (0, [.int (X 2), .int (Y 2), .int (D 2), .int (Q 2), .ref v2, .int (er_ex X Y 2), .int (er_ey X Y 2), .int (er_ea X Y 2), .int (er_ed X Y 2), .int (er_lw (er_ea X Y 2) (er_ed X Y 2))]))] sz) := by
  refine Met.ofW (cc := b_E_next) (maxL := 4) (ret := (some .int)) (by decide +kernel) rfl ?_
  intro p e s m args below meth c s₁ B hml hv
  obtain ⟨rfl, hsz, hN, hK, hP, hD0⟩ := hv
  have hx := B.exec
  have hb := B.bytes
  have hr := B.returns
  have hts := er_hts (atoms_spec (ws := w_E_next) B.pre)
  have hown : s.vm.findClass R_E = some m.cls := findClass_of_methodNamed B.named
  have hlocks := B.notSynchronized
  subst hsz
  have hD := hD0.self (sz := s.heap.size)
  generalize hAe : va_A [(h0, .inr (1, [.ref h1, .ref h2, .ref h3, .long (er_ar X Y), .int (nI a), .int (nI b), .int (nI c9), .int (nI d), .int 1, .int on, .int lx, .int (nI (b + j))])), (h1, .inr (0, [.int (X 0), .int (Y 0), .int (D 0), .int (Q 0), .ref v0, .int (er_ex X Y 0), .int (er_ey X Y 0), .int (er_ea X Y 0), .int (er_ed X Y 0), .int (er_lw (er_ea X Y 0) (er_ed X Y 0))])), (h2, .inr (0, [.int (X 1), .int (Y 1), .int (D 1), .int (Q 1), .ref v1, .int (er_ex X Y 1), .int (er_ey X Y 1), .int (er_ea X Y 1), .int (er_ed X Y 1), .int (er_lw (er_ea X Y 1) (er_ed X Y 1))])), (h3, .inr (0, [.int (X 2), .int (Y 2), .int (D 2), .int (Q 2), .ref v2, .int (er_ex X Y 2), .int (er_ey X Y 2), .int (er_ea X Y 2), .int (er_ed X Y 2), .int (er_lw (er_ea X Y 2) (er_ed X Y 2))]))] s.heap.size = A at hD ⊢
  have hA : ∀ q : Nat, s.heap.size ≤ q → A q := fun q h => by rw [← hAe]; exact Or.inr h
  have hS : va_S A s.heap s.heap [] := va_S.rf
  have hP : va_P (dC, dI) classes [(h0, .inr (1, [.ref h1, .ref h2, .ref h3, .long (er_ar X Y), .int (nI a), .int (nI b), .int (nI c9), .int (nI d), .int 1, .int on, .int lx, .int (nI (b + j))])), (h1, .inr (0, [.int (X 0), .int (Y 0), .int (D 0), .int (Q 0), .ref v0, .int (er_ex X Y 0), .int (er_ey X Y 0), .int (er_ea X Y 0), .int (er_ed X Y 0), .int (er_lw (er_ea X Y 0) (er_ed X Y 0))])), (h2, .inr (0, [.int (X 1), .int (Y 1), .int (D 1), .int (Q 1), .ref v1, .int (er_ex X Y 1), .int (er_ey X Y 1), .int (er_ea X Y 1), .int (er_ed X Y 1), .int (er_lw (er_ea X Y 1) (er_ed X Y 1))])), (h3, .inr (0, [.int (X 2), .int (Y 2), .int (D 2), .int (Q 2), .ref v2, .int (er_ex X Y 2), .int (er_ey X Y 2), .int (er_ea X Y 2), .int (er_ed X Y 2), .int (er_lw (er_ea X Y 2) (er_ed X Y 2))]))] s.heap := hP
  have hl := lv_entry ([.ref h0]) (n := 4) (Nat.le_of_ble_eq_true rfl)
  rw [lg_entry_eq]
  generalize (lg_sl ([.ref h0]) ++ List.replicate (4 - (lg_sl ([.ref h0])).length) Slot.unset).toArray = ls at hl ⊢
  have hl : lv_has ls 4 [(0, .ref h0)] := hl
  refine lv_aload_n hx hb d_E_next_0 rfl (lv_at hl 0 rfl) ?_
  refine va_get (D := (dC, dI)) (ci := 1) (v := .int 1) (C := R_E) (T := F_E) (N := 12) hx hb hts i_E hown hK hP 0 rfl rfl 8 (by decide) (hts _ k_80) (fun _ h9 => h9) rfl d_E_next_1 ?_
  refine lv_if_ne (tgt := 17) hx hb d_E_next_4 (by decide) (fun _ => ?_) (fun c_1 => absurd c_1 (by decide))
  refine lv_aload_n hx hb d_E_next_17 rfl (lv_at hl 0 rfl) ?_
  refine va_get (D := (dC, dI)) (ci := 1) (v := .int lx) (C := R_E) (T := F_E) (N := 12) hx hb hts i_E hown hK hP 0 rfl rfl 10 (by decide) (hts _ k_82) (fun _ h9 => h9) rfl d_E_next_18 ?_
  refine lv_iconst (v := 1) hx hb d_E_next_21 (by decide) ?_
  refine lv_iadd hx hb d_E_next_22 ?_
  refine lv_istore_n (lv' := [(1, .int (lx + 1)), (0, .ref h0)]) hx hb d_E_next_23 rfl hl (by decide) rfl (fun ls hl => ?_)
  refine lv_aload_n hx hb d_E_next_24 rfl (lv_at hl 1 rfl) ?_
  refine va_get (D := (dC, dI)) (ci := 1) (v := .int (nI (b + j))) (C := R_E) (T := F_E) (N := 12) hx hb hts i_E hown hK hP 0 rfl rfl 11 (by decide) (hts _ k_83) (fun _ h9 => h9) rfl d_E_next_25 ?_
  refine lv_istore_n (lv' := [(2, .int (nI (b + j))), (1, .int (lx + 1)), (0, .ref h0)]) hx hb d_E_next_28 rfl hl (by decide) rfl (fun ls hl => ?_)
  rw [hlx] at hl
  obtain ⟨y, t, b1, b2, b3, hl2⟩ : ∃ y t : Nat, (y ≤ d) ∧ (t ≤ c9) ∧ ((y < d → k9 ≤ y * c9 + t ∧ ∀ z, k9 ≤ z → z < y * c9 + t → er_f X Y a b c9 z = false) ∧ (y = d → ∀ z, k9 ≤ z → z < d * c9 → er_f X Y a b c9 z = false)) ∧ lv_has ls 4 [(2, .int (nI (b + y))), (1, .int (nI (a + t))), (0, .ref h0)] := ⟨j, i, by omega, hi, er_row0 hk9, lv_sub hl [0, 1, 2] rfl⟩
  clear hl
  have hl := hl2
  clear hl2
  induction hny : d - y using Nat.strongRecOn generalizing y t ls with
  | ind ny ihy =>
    refine lv_iload_n hx hb d_E_next_29 rfl (lv_at hl 0 rfl) ?_
    refine lv_aload_n hx hb d_E_next_30 rfl (lv_at hl 2 rfl) ?_
    refine va_get (D := (dC, dI)) (ci := 1) (v := .int (nI b)) (C := R_E) (T := F_E) (N := 12) hx hb hts i_E hown hK hP 0 rfl rfl 5 (by decide) (hts _ k_77) (fun _ h9 => h9) rfl d_E_next_31 ?_
    refine lv_aload_n hx hb d_E_next_34 rfl (lv_at hl 2 rfl) ?_
    refine va_get (D := (dC, dI)) (ci := 1) (v := .int (nI d)) (C := R_E) (T := F_E) (N := 12) hx hb hts i_E hown hK hP 0 rfl rfl 7 (by decide) (hts _ k_79) (fun _ h9 => h9) rfl d_E_next_35 ?_
    refine lv_iadd hx hb d_E_next_38 ?_
    refine lv_icmp_ge (tgt := 95) hx hb d_E_next_39 (by decide) (fun c_2 => ?_) (fun c_2 => ?_)
    · rw [nI_add] at c_2
      have c_2 := er_le c_2 (by omega) (by omega)
      refine lv_aload_n hx hb d_E_next_95 rfl (lv_at hl 2 rfl) ?_
      refine lv_iconst (v := 0) hx hb d_E_next_96 (by decide) ?_
      refine va_put (D := (dC, dI)) (ci := 1) (v := .int 0) (ty := .boolean) (C := R_E) (T := F_E) (N := 12) hx hb hts i_E t_E t_E_ok n_E hown hK hP hD hS 0 rfl rfl 9 (by decide) (hts _ k_81) (fun _ h9 => h9) rfl (by decide +kernel) (by decide) rfl (Nat.le_of_ble_eq_true rfl) d_E_next_97 (fun H locs hP hD hS => ?_)
      have hP : va_P (dC, dI) classes [(h0, .inr (1, [.ref h1, .ref h2, .ref h3, .long (er_ar X Y), .int (nI a), .int (nI b), .int (nI c9), .int (nI d), .int 1, .int 0, .int lx, .int (nI (b + j))])), (h1, .inr (0, [.int (X 0), .int (Y 0), .int (D 0), .int (Q 0), .ref v0, .int (er_ex X Y 0), .int (er_ey X Y 0), .int (er_ea X Y 0), .int (er_ed X Y 0), .int (er_lw (er_ea X Y 0) (er_ed X Y 0))])), (h2, .inr (0, [.int (X 1), .int (Y 1), .int (D 1), .int (Q 1), .ref v1, .int (er_ex X Y 1), .int (er_ey X Y 1), .int (er_ea X Y 1), .int (er_ed X Y 1), .int (er_lw (er_ea X Y 1) (er_ed X Y 1))])), (h3, .inr (0, [.int (X 2), .int (Y 2), .int (D 2), .int (Q 2), .ref v2, .int (er_ex X Y 2), .int (er_ey X Y 2), .int (er_ea X Y 2), .int (er_ed X Y 2), .int (er_lw (er_ea X Y 2) (er_ed X Y 2))]))] H := hP
      have hD : va_D A [(h0, .inr (1, [.ref h1, .ref h2, .ref h3, .long (er_ar X Y), .int (nI a), .int (nI b), .int (nI c9), .int (nI d), .int 1, .int 0, .int lx, .int (nI (b + j))])), (h1, .inr (0, [.int (X 0), .int (Y 0), .int (D 0), .int (Q 0), .ref v0, .int (er_ex X Y 0), .int (er_ey X Y 0), .int (er_ea X Y 0), .int (er_ed X Y 0), .int (er_lw (er_ea X Y 0) (er_ed X Y 0))])), (h2, .inr (0, [.int (X 1), .int (Y 1), .int (D 1), .int (Q 1), .ref v1, .int (er_ex X Y 1), .int (er_ey X Y 1), .int (er_ea X Y 1), .int (er_ed X Y 1), .int (er_lw (er_ea X Y 1) (er_ed X Y 1))])), (h3, .inr (0, [.int (X 2), .int (Y 2), .int (D 2), .int (Q 2), .ref v2, .int (er_ex X Y 2), .int (er_ey X Y 2), .int (er_ea X Y 2), .int (er_ed X Y 2), .int (er_lw (er_ea X Y 2) (er_ed X Y 2))]))] := hD
      refine lv_aload_n hx hb d_E_next_100 rfl (lv_at hl 2 rfl) ?_
      refine lv_aload_n hx hb d_E_next_101 rfl (lv_at hl 2 rfl) ?_
      refine va_get (D := (dC, dI)) (ci := 1) (v := .int (nI b)) (C := R_E) (T := F_E) (N := 12) hx hb hts i_E hown hK hP 0 rfl rfl 5 (by decide) (hts _ k_77) (fun _ h9 => h9) rfl d_E_next_102 ?_
      refine lv_aload_n hx hb d_E_next_105 rfl (lv_at hl 2 rfl) ?_
      refine va_get (D := (dC, dI)) (ci := 1) (v := .int (nI d)) (C := R_E) (T := F_E) (N := 12) hx hb hts i_E hown hK hP 0 rfl rfl 7 (by decide) (hts _ k_79) (fun _ h9 => h9) rfl d_E_next_106 ?_
      refine lv_iadd hx hb d_E_next_109 ?_
      refine va_put (D := (dC, dI)) (ci := 1) (v := .int ((nI b) + (nI d))) (ty := .int) (C := R_E) (T := F_E) (N := 12) hx hb hts i_E t_E t_E_ok n_E hown hK hP hD hS 0 rfl rfl 11 (by decide) (hts _ k_83) (fun _ h9 => h9) rfl (by decide +kernel) rfl rfl (Nat.le_of_ble_eq_true rfl) d_E_next_110 (fun H locs hP hD hS => ?_)
      have hP : va_P (dC, dI) classes [(h0, .inr (1, [.ref h1, .ref h2, .ref h3, .long (er_ar X Y), .int (nI a), .int (nI b), .int (nI c9), .int (nI d), .int 1, .int 0, .int lx, .int ((nI b) + (nI d))])), (h1, .inr (0, [.int (X 0), .int (Y 0), .int (D 0), .int (Q 0), .ref v0, .int (er_ex X Y 0), .int (er_ey X Y 0), .int (er_ea X Y 0), .int (er_ed X Y 0), .int (er_lw (er_ea X Y 0) (er_ed X Y 0))])), (h2, .inr (0, [.int (X 1), .int (Y 1), .int (D 1), .int (Q 1), .ref v1, .int (er_ex X Y 1), .int (er_ey X Y 1), .int (er_ea X Y 1), .int (er_ed X Y 1), .int (er_lw (er_ea X Y 1) (er_ed X Y 1))])), (h3, .inr (0, [.int (X 2), .int (Y 2), .int (D 2), .int (Q 2), .ref v2, .int (er_ex X Y 2), .int (er_ey X Y 2), .int (er_ea X Y 2), .int (er_ed X Y 2), .int (er_lw (er_ea X Y 2) (er_ed X Y 2))]))] H := hP
      have hD : va_D A [(h0, .inr (1, [.ref h1, .ref h2, .ref h3, .long (er_ar X Y), .int (nI a), .int (nI b), .int (nI c9), .int (nI d), .int 1, .int 0, .int lx, .int ((nI b) + (nI d))])), (h1, .inr (0, [.int (X 0), .int (Y 0), .int (D 0), .int (Q 0), .ref v0, .int (er_ex X Y 0), .int (er_ey X Y 0), .int (er_ea X Y 0), .int (er_ed X Y 0), .int (er_lw (er_ea X Y 0) (er_ed X Y 0))])), (h2, .inr (0, [.int (X 1), .int (Y 1), .int (D 1), .int (Q 1), .ref v1, .int (er_ex X Y 1), .int (er_ey X Y 1), .int (er_ea X Y 1), .int (er_ed X Y 1), .int (er_lw (er_ea X Y 1) (er_ed X Y 1))])), (h3, .inr (0, [.int (X 2), .int (Y 2), .int (D 2), .int (Q 2), .ref v2, .int (er_ex X Y 2), .int (er_ey X Y 2), .int (er_ea X Y 2), .int (er_ed X Y 2), .int (er_lw (er_ea X Y 2) (er_ed X Y 2))]))] := hD
      refine lv_iconst (v := (-1)) hx hb d_E_next_113 (by decide) ?_
      have hP9 := hP.sub (ws' := [(h0, .inr (1, [.ref h1, .ref h2, .ref h3, .long (er_ar X Y), .int (nI a), .int (nI b), .int (nI c9), .int (nI d), .int 1, .int 0, .int lx, .int ((nI b) + (nI d))])), (h1, .inr (0, [.int (X 0), .int (Y 0), .int (D 0), .int (Q 0), .ref v0, .int (er_ex X Y 0), .int (er_ey X Y 0), .int (er_ea X Y 0), .int (er_ed X Y 0), .int (er_lw (er_ea X Y 0) (er_ed X Y 0))])), (h2, .inr (0, [.int (X 1), .int (Y 1), .int (D 1), .int (Q 1), .ref v1, .int (er_ex X Y 1), .int (er_ey X Y 1), .int (er_ea X Y 1), .int (er_ed X Y 1), .int (er_lw (er_ea X Y 1) (er_ed X Y 1))])), (h3, .inr (0, [.int (X 2), .int (Y 2), .int (D 2), .int (Q 2), .ref v2, .int (er_ex X Y 2), .int (er_ey X Y 2), .int (er_ea X Y 2), .int (er_ed X Y 2), .int (er_lw (er_ea X Y 2) (er_ed X Y 2))]))]) [0, 1, 2, 3] rfl
      have hD9 := hD.sub (ws' := [(h0, .inr (1, [.ref h1, .ref h2, .ref h3, .long (er_ar X Y), .int (nI a), .int (nI b), .int (nI c9), .int (nI d), .int 1, .int 0, .int lx, .int ((nI b) + (nI d))])), (h1, .inr (0, [.int (X 0), .int (Y 0), .int (D 0), .int (Q 0), .ref v0, .int (er_ex X Y 0), .int (er_ey X Y 0), .int (er_ea X Y 0), .int (er_ed X Y 0), .int (er_lw (er_ea X Y 0) (er_ed X Y 0))])), (h2, .inr (0, [.int (X 1), .int (Y 1), .int (D 1), .int (Q 1), .ref v1, .int (er_ex X Y 1), .int (er_ey X Y 1), .int (er_ea X Y 1), .int (er_ed X Y 1), .int (er_lw (er_ea X Y 1) (er_ed X Y 1))])), (h3, .inr (0, [.int (X 2), .int (Y 2), .int (D 2), .int (Q 2), .ref v2, .int (er_ex X Y 2), .int (er_ey X Y 2), .int (er_ea X Y 2), .int (er_ed X Y 2), .int (er_lw (er_ea X Y 2) (er_ed X Y 2))]))]) [0, 1, 2, 3] (by decide) rfl
      have hK9 := hK.sub (tys' := []) [] rfl
      have hP9 : va_P (dC, dI) classes [(h0, .inr (1, [.ref h1, .ref h2, .ref h3, .long (er_ar X Y), .int (nI a), .int (nI b), .int (nI c9), .int (nI d), .int 1, .int (er_b (decide ((d * c9) < d * c9))), .int (if (d * c9) < d * c9 then er_px a c9 (d * c9) else lx), .int (if (d * c9) < d * c9 then er_py b c9 (d * c9) else nI (b + d))])), (h1, .inr (0, [.int (X 0), .int (Y 0), .int (D 0), .int (Q 0), .ref v0, .int (er_ex X Y 0), .int (er_ey X Y 0), .int (er_ea X Y 0), .int (er_ed X Y 0), .int (er_lw (er_ea X Y 0) (er_ed X Y 0))])), (h2, .inr (0, [.int (X 1), .int (Y 1), .int (D 1), .int (Q 1), .ref v1, .int (er_ex X Y 1), .int (er_ey X Y 1), .int (er_ea X Y 1), .int (er_ed X Y 1), .int (er_lw (er_ea X Y 1) (er_ed X Y 1))])), (h3, .inr (0, [.int (X 2), .int (Y 2), .int (D 2), .int (Q 2), .ref v2, .int (er_ex X Y 2), .int (er_ey X Y 2), .int (er_ea X Y 2), .int (er_ed X Y 2), .int (er_lw (er_ea X Y 2) (er_ed X Y 2))]))] H := by rw [if_neg (Nat.lt_irrefl _), if_neg (Nat.lt_irrefl _), decide_eq_false (Nat.lt_irrefl _), ← nI_add]; exact hP9
      have hD9 : va_D A [(h0, .inr (1, [.ref h1, .ref h2, .ref h3, .long (er_ar X Y), .int (nI a), .int (nI b), .int (nI c9), .int (nI d), .int 1, .int (er_b (decide ((d * c9) < d * c9))), .int (if (d * c9) < d * c9 then er_px a c9 (d * c9) else lx), .int (if (d * c9) < d * c9 then er_py b c9 (d * c9) else nI (b + d))])), (h1, .inr (0, [.int (X 0), .int (Y 0), .int (D 0), .int (Q 0), .ref v0, .int (er_ex X Y 0), .int (er_ey X Y 0), .int (er_ea X Y 0), .int (er_ed X Y 0), .int (er_lw (er_ea X Y 0) (er_ed X Y 0))])), (h2, .inr (0, [.int (X 1), .int (Y 1), .int (D 1), .int (Q 1), .ref v1, .int (er_ex X Y 1), .int (er_ey X Y 1), .int (er_ea X Y 1), .int (er_ed X Y 1), .int (er_lw (er_ea X Y 1) (er_ed X Y 1))])), (h3, .inr (0, [.int (X 2), .int (Y 2), .int (D 2), .int (Q 2), .ref v2, .int (er_ex X Y 2), .int (er_ey X Y 2), .int (er_ea X Y 2), .int (er_ed X Y 2), .int (er_lw (er_ea X Y 2) (er_ed X Y 2))]))] := by rw [if_neg (Nat.lt_irrefl _), if_neg (Nat.lt_irrefl _), decide_eq_false (Nat.lt_irrefl _), ← nI_add]; exact hD9
      exact W.iret (v := (-1)) hx hb hr (fun u9 ht hW => ⟨⟨_, (d * c9), rfl, ⟨er_none (er_k9 hk9 hi) b3 (show y = d by omega), (by rw [if_neg (Nat.lt_irrefl _)])⟩, ⟨by rw [ht]; exact hP9, va_K.moved hW.alike hK9, hD9⟩⟩, hS.F ht⟩) hS.2.2 d_E_next_114
    · rw [nI_add] at c_2
      have c_2 := er_nle c_2 (by omega) (by omega)
      have hyd : y < d := by omega
      refine lv_aload_n hx hb d_E_next_42 rfl (lv_at hl 2 rfl) ?_
      refine lv_iload_n hx hb d_E_next_43 rfl (lv_at hl 1 rfl) ?_
      refine lv_iload_n hx hb d_E_next_44 rfl (lv_at hl 0 rfl) ?_
      have hPc := hP.sub (ws' := [(h0, .inr (1, [.ref h1, .ref h2, .ref h3, .long (er_ar X Y), .int (nI a), .int (nI b), .int (nI c9), .int (nI d), .int 1, .int on, .int lx, .int (nI (b + j))])), (h1, .inr (0, [.int (X 0), .int (Y 0), .int (D 0), .int (Q 0), .ref v0, .int (er_ex X Y 0), .int (er_ey X Y 0), .int (er_ea X Y 0), .int (er_ed X Y 0), .int (er_lw (er_ea X Y 0) (er_ed X Y 0))])), (h2, .inr (0, [.int (X 1), .int (Y 1), .int (D 1), .int (Q 1), .ref v1, .int (er_ex X Y 1), .int (er_ey X Y 1), .int (er_ea X Y 1), .int (er_ed X Y 1), .int (er_lw (er_ea X Y 1) (er_ed X Y 1))])), (h3, .inr (0, [.int (X 2), .int (Y 2), .int (D 2), .int (Q 2), .ref v2, .int (er_ex X Y 2), .int (er_ey X Y 2), .int (er_ea X Y 2), .int (er_ed X Y 2), .int (er_lw (er_ea X Y 2) (er_ed X Y 2))]))]) [0, 1, 2, 3] rfl
      have hKc := hK.sub (tys' := []) [] rfl
      refine vp_callSi (va_runV (As := [.int (nI (a + t)), .int (nI (b + y))]) (rest := []) ⟨hx, hb, hml, hown, hts⟩ (c_E_firstCovered l dC dI h0 h1 h2 h3 v0 v1 v2 X Y D Q a c9 t (nI b) (nI d) 1 on lx (nI (b + j)) (nI (b + y)) (by first | assumption | omega | decide | exact er_fr_lt _ _ _ | exact er_to_lt _ _ _) (by first | assumption | omega | decide | exact er_fr_lt _ _ _ | exact er_to_lt _ _ _)) (cwV 2 hts (er_gV k_257 k_258 k_8 k_18 k_259) rfl rfl rfl (by decide +kernel) ⟨Nat.le_of_ble_eq_true rfl, Nat.le_of_ble_eq_true rfl⟩) ⟨PP.blind, va_recv hKc hPc (ci := 1) (q0 := 0) rfl rfl, PP.at hN hKc hPc⟩ rfl rfl hl.1 rfl (lv_room (Nat.le_of_ble_eq_true rfl)) d_E_next_45 ⟨Nat.zero_le _, Nat.zero_le _⟩).run (fun r_3 hr_3 => ?_)
      have hr_3 : ∃ t7 : Nat, r_3 = nI (a + t7) ∧ er_next (fun k7 => er_cov X Y (nI (a + k7)) (nI (b + y))) c9 t t7 := hr_3
      obtain ⟨z, rfl, hz⟩ := hr_3
      have hz9 := hz.2.1
      refine lv_istore_n (lv' := [(3, .int (nI (a + z))), (2, .int (nI (b + y))), (1, .int (nI (a + t))), (0, .ref h0)]) hx hb d_E_next_48 rfl hl (by decide) rfl (fun ls hl => ?_)
      refine lv_iload_n hx hb d_E_next_49 rfl (lv_at hl 0 rfl) ?_
      refine lv_aload_n hx hb d_E_next_50 rfl (lv_at hl 3 rfl) ?_
      refine va_get (D := (dC, dI)) (ci := 1) (v := .int (nI a)) (C := R_E) (T := F_E) (N := 12) hx hb hts i_E hown hK hP 0 rfl rfl 4 (by decide) (hts _ k_76) (fun _ h9 => h9) rfl d_E_next_51 ?_
      refine lv_aload_n hx hb d_E_next_54 rfl (lv_at hl 3 rfl) ?_
      refine va_get (D := (dC, dI)) (ci := 1) (v := .int (nI c9)) (C := R_E) (T := F_E) (N := 12) hx hb hts i_E hown hK hP 0 rfl rfl 6 (by decide) (hts _ k_78) (fun _ h9 => h9) rfl d_E_next_55 ?_
      refine lv_iadd hx hb d_E_next_58 ?_
      refine lv_icmp_ge (tgt := 84) hx hb d_E_next_59 (by decide) (fun c_4 => ?_) (fun c_4 => ?_)
      · rw [nI_add] at c_4
        have c_4 := er_le c_4 (by omega) (by omega)
        refine lv_aload_n hx hb d_E_next_84 rfl (lv_at hl 3 rfl) ?_
        refine va_get (D := (dC, dI)) (ci := 1) (v := .int (nI a)) (C := R_E) (T := F_E) (N := 12) hx hb hts i_E hown hK hP 0 rfl rfl 4 (by decide) (hts _ k_76) (fun _ h9 => h9) rfl d_E_next_85 ?_
        refine lv_istore_n (lv' := [(1, .int (nI a)), (3, .int (nI (a + z))), (2, .int (nI (b + y))), (0, .ref h0)]) hx hb d_E_next_88 rfl hl (by decide) rfl (fun ls hl => ?_)
        refine lv_iinc (v := (nI (b + y)) + 1) (lv' := [(2, .int ((nI (b + y)) + 1)), (1, .int (nI a)), (3, .int (nI (a + z))), (0, .ref h0)]) hx hb d_E_next_89 hl (k := 2) rfl (by first | rfl | decide) (by decide) rfl (fun ls hl => ?_)
        refine lv_goto (tgt := 29) hx hb d_E_next_92 (by decide) ?_
        exact ihy _ (by omega) (ls := ls) (y := y + 1) (t := 0) (b1 := by omega) (b2 := by omega) (b3 := er_row b3 hyd hz c_4) (hl := by have hl := lv_sub hl [0, 1, 3] rfl; rw [nI_1 (b + y)] at hl; exact hl) (hny := rfl)
      · rw [nI_add] at c_4
        have c_4 := er_nle c_4 (by omega) (by omega)
        have hu := er_idx (c := c9) hyd (show z < c9 by omega)
        refine lv_aload_n hx hb d_E_next_62 rfl (lv_at hl 3 rfl) ?_
        refine lv_iconst (v := 1) hx hb d_E_next_63 (by decide) ?_
        refine va_put (D := (dC, dI)) (ci := 1) (v := .int 1) (ty := .boolean) (C := R_E) (T := F_E) (N := 12) hx hb hts i_E t_E t_E_ok n_E hown hK hP hD hS 0 rfl rfl 9 (by decide) (hts _ k_81) (fun _ h9 => h9) rfl (by decide +kernel) (by decide) rfl (Nat.le_of_ble_eq_true rfl) d_E_next_64 (fun H locs hP hD hS => ?_)
        have hP : va_P (dC, dI) classes [(h0, .inr (1, [.ref h1, .ref h2, .ref h3, .long (er_ar X Y), .int (nI a), .int (nI b), .int (nI c9), .int (nI d), .int 1, .int 1, .int lx, .int (nI (b + j))])), (h1, .inr (0, [.int (X 0), .int (Y 0), .int (D 0), .int (Q 0), .ref v0, .int (er_ex X Y 0), .int (er_ey X Y 0), .int (er_ea X Y 0), .int (er_ed X Y 0), .int (er_lw (er_ea X Y 0) (er_ed X Y 0))])), (h2, .inr (0, [.int (X 1), .int (Y 1), .int (D 1), .int (Q 1), .ref v1, .int (er_ex X Y 1), .int (er_ey X Y 1), .int (er_ea X Y 1), .int (er_ed X Y 1), .int (er_lw (er_ea X Y 1) (er_ed X Y 1))])), (h3, .inr (0, [.int (X 2), .int (Y 2), .int (D 2), .int (Q 2), .ref v2, .int (er_ex X Y 2), .int (er_ey X Y 2), .int (er_ea X Y 2), .int (er_ed X Y 2), .int (er_lw (er_ea X Y 2) (er_ed X Y 2))]))] H := hP
        have hD : va_D A [(h0, .inr (1, [.ref h1, .ref h2, .ref h3, .long (er_ar X Y), .int (nI a), .int (nI b), .int (nI c9), .int (nI d), .int 1, .int 1, .int lx, .int (nI (b + j))])), (h1, .inr (0, [.int (X 0), .int (Y 0), .int (D 0), .int (Q 0), .ref v0, .int (er_ex X Y 0), .int (er_ey X Y 0), .int (er_ea X Y 0), .int (er_ed X Y 0), .int (er_lw (er_ea X Y 0) (er_ed X Y 0))])), (h2, .inr (0, [.int (X 1), .int (Y 1), .int (D 1), .int (Q 1), .ref v1, .int (er_ex X Y 1), .int (er_ey X Y 1), .int (er_ea X Y 1), .int (er_ed X Y 1), .int (er_lw (er_ea X Y 1) (er_ed X Y 1))])), (h3, .inr (0, [.int (X 2), .int (Y 2), .int (D 2), .int (Q 2), .ref v2, .int (er_ex X Y 2), .int (er_ey X Y 2), .int (er_ea X Y 2), .int (er_ed X Y 2), .int (er_lw (er_ea X Y 2) (er_ed X Y 2))]))] := hD
        refine lv_aload_n hx hb d_E_next_67 rfl (lv_at hl 3 rfl) ?_
        refine lv_iload_n hx hb d_E_next_68 rfl (lv_at hl 0 rfl) ?_
        refine va_put (D := (dC, dI)) (ci := 1) (v := .int (nI (a + z))) (ty := .int) (C := R_E) (T := F_E) (N := 12) hx hb hts i_E t_E t_E_ok n_E hown hK hP hD hS 0 rfl rfl 10 (by decide) (hts _ k_82) (fun _ h9 => h9) rfl (by decide +kernel) rfl rfl (Nat.le_of_ble_eq_true rfl) d_E_next_69 (fun H locs hP hD hS => ?_)
        have hP : va_P (dC, dI) classes [(h0, .inr (1, [.ref h1, .ref h2, .ref h3, .long (er_ar X Y), .int (nI a), .int (nI b), .int (nI c9), .int (nI d), .int 1, .int 1, .int (nI (a + z)), .int (nI (b + j))])), (h1, .inr (0, [.int (X 0), .int (Y 0), .int (D 0), .int (Q 0), .ref v0, .int (er_ex X Y 0), .int (er_ey X Y 0), .int (er_ea X Y 0), .int (er_ed X Y 0), .int (er_lw (er_ea X Y 0) (er_ed X Y 0))])), (h2, .inr (0, [.int (X 1), .int (Y 1), .int (D 1), .int (Q 1), .ref v1, .int (er_ex X Y 1), .int (er_ey X Y 1), .int (er_ea X Y 1), .int (er_ed X Y 1), .int (er_lw (er_ea X Y 1) (er_ed X Y 1))])), (h3, .inr (0, [.int (X 2), .int (Y 2), .int (D 2), .int (Q 2), .ref v2, .int (er_ex X Y 2), .int (er_ey X Y 2), .int (er_ea X Y 2), .int (er_ed X Y 2), .int (er_lw (er_ea X Y 2) (er_ed X Y 2))]))] H := hP
        have hD : va_D A [(h0, .inr (1, [.ref h1, .ref h2, .ref h3, .long (er_ar X Y), .int (nI a), .int (nI b), .int (nI c9), .int (nI d), .int 1, .int 1, .int (nI (a + z)), .int (nI (b + j))])), (h1, .inr (0, [.int (X 0), .int (Y 0), .int (D 0), .int (Q 0), .ref v0, .int (er_ex X Y 0), .int (er_ey X Y 0), .int (er_ea X Y 0), .int (er_ed X Y 0), .int (er_lw (er_ea X Y 0) (er_ed X Y 0))])), (h2, .inr (0, [.int (X 1), .int (Y 1), .int (D 1), .int (Q 1), .ref v1, .int (er_ex X Y 1), .int (er_ey X Y 1), .int (er_ea X Y 1), .int (er_ed X Y 1), .int (er_lw (er_ea X Y 1) (er_ed X Y 1))])), (h3, .inr (0, [.int (X 2), .int (Y 2), .int (D 2), .int (Q 2), .ref v2, .int (er_ex X Y 2), .int (er_ey X Y 2), .int (er_ea X Y 2), .int (er_ed X Y 2), .int (er_lw (er_ea X Y 2) (er_ed X Y 2))]))] := hD
        refine lv_aload_n hx hb d_E_next_72 rfl (lv_at hl 3 rfl) ?_
        refine lv_iload_n hx hb d_E_next_73 rfl (lv_at hl 1 rfl) ?_
        refine va_put (D := (dC, dI)) (ci := 1) (v := .int (nI (b + y))) (ty := .int) (C := R_E) (T := F_E) (N := 12) hx hb hts i_E t_E t_E_ok n_E hown hK hP hD hS 0 rfl rfl 11 (by decide) (hts _ k_83) (fun _ h9 => h9) rfl (by decide +kernel) rfl rfl (Nat.le_of_ble_eq_true rfl) d_E_next_74 (fun H locs hP hD hS => ?_)
        have hP : va_P (dC, dI) classes [(h0, .inr (1, [.ref h1, .ref h2, .ref h3, .long (er_ar X Y), .int (nI a), .int (nI b), .int (nI c9), .int (nI d), .int 1, .int 1, .int (nI (a + z)), .int (nI (b + y))])), (h1, .inr (0, [.int (X 0), .int (Y 0), .int (D 0), .int (Q 0), .ref v0, .int (er_ex X Y 0), .int (er_ey X Y 0), .int (er_ea X Y 0), .int (er_ed X Y 0), .int (er_lw (er_ea X Y 0) (er_ed X Y 0))])), (h2, .inr (0, [.int (X 1), .int (Y 1), .int (D 1), .int (Q 1), .ref v1, .int (er_ex X Y 1), .int (er_ey X Y 1), .int (er_ea X Y 1), .int (er_ed X Y 1), .int (er_lw (er_ea X Y 1) (er_ed X Y 1))])), (h3, .inr (0, [.int (X 2), .int (Y 2), .int (D 2), .int (Q 2), .ref v2, .int (er_ex X Y 2), .int (er_ey X Y 2), .int (er_ea X Y 2), .int (er_ed X Y 2), .int (er_lw (er_ea X Y 2) (er_ed X Y 2))]))] H := hP
        have hD : va_D A [(h0, .inr (1, [.ref h1, .ref h2, .ref h3, .long (er_ar X Y), .int (nI a), .int (nI b), .int (nI c9), .int (nI d), .int 1, .int 1, .int (nI (a + z)), .int (nI (b + y))])), (h1, .inr (0, [.int (X 0), .int (Y 0), .int (D 0), .int (Q 0), .ref v0, .int (er_ex X Y 0), .int (er_ey X Y 0), .int (er_ea X Y 0), .int (er_ed X Y 0), .int (er_lw (er_ea X Y 0) (er_ed X Y 0))])), (h2, .inr (0, [.int (X 1), .int (Y 1), .int (D 1), .int (Q 1), .ref v1, .int (er_ex X Y 1), .int (er_ey X Y 1), .int (er_ea X Y 1), .int (er_ed X Y 1), .int (er_lw (er_ea X Y 1) (er_ed X Y 1))])), (h3, .inr (0, [.int (X 2), .int (Y 2), .int (D 2), .int (Q 2), .ref v2, .int (er_ex X Y 2), .int (er_ey X Y 2), .int (er_ea X Y 2), .int (er_ed X Y 2), .int (er_lw (er_ea X Y 2) (er_ed X Y 2))]))] := hD
        refine lv_ldc (v := 65536) hx hb hown (hts (.constant R_E 125 65536) (by decide +kernel)) d_E_next_77 ?_
        refine lv_iload_n hx hb d_E_next_79 rfl (lv_at hl 1 rfl) ?_
        refine lv_imul hx hb d_E_next_80 ?_
        refine lv_iload_n hx hb d_E_next_81 rfl (lv_at hl 0 rfl) ?_
        refine lv_iadd hx hb d_E_next_82 ?_
        have hP9 := hP.sub (ws' := [(h0, .inr (1, [.ref h1, .ref h2, .ref h3, .long (er_ar X Y), .int (nI a), .int (nI b), .int (nI c9), .int (nI d), .int 1, .int 1, .int (nI (a + z)), .int (nI (b + y))])), (h1, .inr (0, [.int (X 0), .int (Y 0), .int (D 0), .int (Q 0), .ref v0, .int (er_ex X Y 0), .int (er_ey X Y 0), .int (er_ea X Y 0), .int (er_ed X Y 0), .int (er_lw (er_ea X Y 0) (er_ed X Y 0))])), (h2, .inr (0, [.int (X 1), .int (Y 1), .int (D 1), .int (Q 1), .ref v1, .int (er_ex X Y 1), .int (er_ey X Y 1), .int (er_ea X Y 1), .int (er_ed X Y 1), .int (er_lw (er_ea X Y 1) (er_ed X Y 1))])), (h3, .inr (0, [.int (X 2), .int (Y 2), .int (D 2), .int (Q 2), .ref v2, .int (er_ex X Y 2), .int (er_ey X Y 2), .int (er_ea X Y 2), .int (er_ed X Y 2), .int (er_lw (er_ea X Y 2) (er_ed X Y 2))]))]) [0, 1, 2, 3] rfl
        have hD9 := hD.sub (ws' := [(h0, .inr (1, [.ref h1, .ref h2, .ref h3, .long (er_ar X Y), .int (nI a), .int (nI b), .int (nI c9), .int (nI d), .int 1, .int 1, .int (nI (a + z)), .int (nI (b + y))])), (h1, .inr (0, [.int (X 0), .int (Y 0), .int (D 0), .int (Q 0), .ref v0, .int (er_ex X Y 0), .int (er_ey X Y 0), .int (er_ea X Y 0), .int (er_ed X Y 0), .int (er_lw (er_ea X Y 0) (er_ed X Y 0))])), (h2, .inr (0, [.int (X 1), .int (Y 1), .int (D 1), .int (Q 1), .ref v1, .int (er_ex X Y 1), .int (er_ey X Y 1), .int (er_ea X Y 1), .int (er_ed X Y 1), .int (er_lw (er_ea X Y 1) (er_ed X Y 1))])), (h3, .inr (0, [.int (X 2), .int (Y 2), .int (D 2), .int (Q 2), .ref v2, .int (er_ex X Y 2), .int (er_ey X Y 2), .int (er_ea X Y 2), .int (er_ed X Y 2), .int (er_lw (er_ea X Y 2) (er_ed X Y 2))]))]) [0, 1, 2, 3] (by decide) rfl
        have hK9 := hK.sub (tys' := []) [] rfl
        have hP9 : va_P (dC, dI) classes [(h0, .inr (1, [.ref h1, .ref h2, .ref h3, .long (er_ar X Y), .int (nI a), .int (nI b), .int (nI c9), .int (nI d), .int 1, .int (er_b (decide ((y * c9 + z) < d * c9))), .int (if (y * c9 + z) < d * c9 then er_px a c9 (y * c9 + z) else lx), .int (if (y * c9 + z) < d * c9 then er_py b c9 (y * c9 + z) else nI (b + d))])), (h1, .inr (0, [.int (X 0), .int (Y 0), .int (D 0), .int (Q 0), .ref v0, .int (er_ex X Y 0), .int (er_ey X Y 0), .int (er_ea X Y 0), .int (er_ed X Y 0), .int (er_lw (er_ea X Y 0) (er_ed X Y 0))])), (h2, .inr (0, [.int (X 1), .int (Y 1), .int (D 1), .int (Q 1), .ref v1, .int (er_ex X Y 1), .int (er_ey X Y 1), .int (er_ea X Y 1), .int (er_ed X Y 1), .int (er_lw (er_ea X Y 1) (er_ed X Y 1))])), (h3, .inr (0, [.int (X 2), .int (Y 2), .int (D 2), .int (Q 2), .ref v2, .int (er_ex X Y 2), .int (er_ey X Y 2), .int (er_ea X Y 2), .int (er_ed X Y 2), .int (er_lw (er_ea X Y 2) (er_ed X Y 2))]))] H := by rw [if_pos hu, if_pos hu, decide_eq_true hu, er_pxa (show z < c9 by omega), er_pya (show z < c9 by omega)]; exact hP9
        have hD9 : va_D A [(h0, .inr (1, [.ref h1, .ref h2, .ref h3, .long (er_ar X Y), .int (nI a), .int (nI b), .int (nI c9), .int (nI d), .int 1, .int (er_b (decide ((y * c9 + z) < d * c9))), .int (if (y * c9 + z) < d * c9 then er_px a c9 (y * c9 + z) else lx), .int (if (y * c9 + z) < d * c9 then er_py b c9 (y * c9 + z) else nI (b + d))])), (h1, .inr (0, [.int (X 0), .int (Y 0), .int (D 0), .int (Q 0), .ref v0, .int (er_ex X Y 0), .int (er_ey X Y 0), .int (er_ea X Y 0), .int (er_ed X Y 0), .int (er_lw (er_ea X Y 0) (er_ed X Y 0))])), (h2, .inr (0, [.int (X 1), .int (Y 1), .int (D 1), .int (Q 1), .ref v1, .int (er_ex X Y 1), .int (er_ey X Y 1), .int (er_ea X Y 1), .int (er_ed X Y 1), .int (er_lw (er_ea X Y 1) (er_ed X Y 1))])), (h3, .inr (0, [.int (X 2), .int (Y 2), .int (D 2), .int (Q 2), .ref v2, .int (er_ex X Y 2), .int (er_ey X Y 2), .int (er_ea X Y 2), .int (er_ed X Y 2), .int (er_lw (er_ea X Y 2) (er_ed X Y 2))]))] := by rw [if_pos hu, if_pos hu, decide_eq_true hu, er_pxa (show z < c9 by omega), er_pya (show z < c9 by omega)]; exact hD9
        exact W.iret (v := (65536 * (nI (b + y))) + (nI (a + z))) hx hb hr (fun u9 ht hW => ⟨⟨_, (y * c9 + z), rfl, ⟨er_found b3 hyd hz (show z < c9 by omega), (by rw [if_pos hu, er_pxa (show z < c9 by omega), er_pya (show z < c9 by omega)])⟩, ⟨by rw [ht]; exact hP9, va_K.moved hW.alike hK9, hD9⟩⟩, hS.F ht⟩) hS.2.2 d_E_next_83
end
section
set_option maxHeartbeats 1000000 in
set_option maxRecDepth 100000 in
theorem c_M_in (l : Launch) (dC : Nat → ClassId) (dI : Nat → Nat → Nat) (p0 p1 p2 : Int32) : Met l y_M_in_ w_M_in_ ({ frames := 0, cells := 0, slots := 0, locals := 0 }) (va_Pc [.int p0, .int p1, .int p2] (PP dC dI [] [])) (vp_Si (fun r : Int32 => r = er_b (er_win p0 p1 p2))) 0 0 (fun _ => False) := by
  refine Met.ofW (cc := b_M_in_) (maxL := 3) (ret := (some .boolean)) (by decide +kernel) rfl ?_
  intro p e s m args below meth c s₁ B hml hv
  obtain ⟨rfl, hN, hK, hP⟩ := hv
  have hx := B.exec
  have hb := B.bytes
  have hr := B.returns
  have hts := er_hts (atoms_spec (ws := w_M_in_) B.pre)
  have hown : s.vm.findClass R_M = some m.cls := findClass_of_methodNamed B.named
  have hlocks := B.notSynchronized
  have hP : va_P (dC, dI) classes [] s.heap := hP
  have hl := lv_entry ([.int p0, .int p1, .int p2]) (n := 3) (Nat.le_of_ble_eq_true rfl)
  rw [lg_entry_eq]
  generalize (lg_sl ([.int p0, .int p1, .int p2]) ++ List.replicate (3 - (lg_sl ([.int p0, .int p1, .int p2])).length) Slot.unset).toArray = ls at hl ⊢
  have hl : lv_has ls 3 [(0, .int p0), (1, .int p1), (2, .int p2)] := hl
  refine lv_iload_n hx hb d_M_in__0 rfl (lv_at hl 0 rfl) ?_
  refine lv_iload_n hx hb d_M_in__1 rfl (lv_at hl 1 rfl) ?_
  refine lv_icmp_lt (tgt := 14) hx hb d_M_in__2 (by decide) (fun c_1 => ?_) (fun c_1 => ?_)
  · refine lv_iconst (v := 0) hx hb d_M_in__14 (by decide) ?_
    exact W.zret (v := 0) (ty := .boolean) hx hb hr (by decide) (fun u9 ht hW => ⟨_, rfl, (by simp_all [er_win, er_b]), ht⟩) (fun q hq => by cases hq) d_M_in__15
  · refine lv_iload_n hx hb d_M_in__5 rfl (lv_at hl 0 rfl) ?_
    refine lv_iload_n hx hb d_M_in__6 rfl (lv_at hl 2 rfl) ?_
    refine lv_icmp_gt (tgt := 14) hx hb d_M_in__7 (by decide) (fun c_2 => ?_) (fun c_2 => ?_)
    · refine lv_iconst (v := 0) hx hb d_M_in__14 (by decide) ?_
      exact W.zret (v := 0) (ty := .boolean) hx hb hr (by decide) (fun u9 ht hW => ⟨_, rfl, (by simp_all [er_win, er_b]), ht⟩) (fun q hq => by cases hq) d_M_in__15
    · refine lv_iconst (v := 1) hx hb d_M_in__10 (by decide) ?_
      refine lv_goto (tgt := 15) hx hb d_M_in__11 (by decide) ?_
      exact W.zret (v := 1) (ty := .boolean) hx hb hr (by decide) (fun u9 ht hW => ⟨_, rfl, (by simp_all [er_win, er_b]), ht⟩) (fun q hq => by cases hq) d_M_in__15

set_option maxHeartbeats 1000000 in
set_option maxRecDepth 100000 in
theorem c_M_room (l : Launch) (dC : Nat → ClassId) (dI : Nat → Nat → Nat) (m0 a1 a2 a3 a4 a5 : Nat) (g1 g2 : ClassId) (X Y : Nat → Int32) (th lf tp wd hg ws lk cm mx my : Int32) (i k : Nat) (p2 p3 : Int32) (hi : i < 3) (hk : k < 3) : Met l y_M_room w_M_room ({ frames := 0, cells := 0, slots := 0, locals := 0 }) (va_Pc [.ref m0, .int (nI i), .int (nI k), .int p2, .int p3] (PP dC dI [(g1, .int), (g2, .int)] [(m0, .inr (2, [.int th, .ref a1, .ref a2, .ref a3, .ref a4, .ref a5, .int lf, .int tp, .int wd, .int hg, .int ws, .int lk, .int cm, .int mx, .int my])), (a1, .inl (g1, 3, .inl X)), (a2, .inl (g2, 3, .inl Y))])) (vp_Sl (fun r : Int64 => r = er_room X Y i k p2 p3)) 0 0 (fun _ => False) := by
  refine Met.ofW (cc := b_M_room) (maxL := 9) (ret := (some .long)) (by decide +kernel) rfl ?_
  intro p e s m args below meth c s₁ B hml hv
  obtain ⟨rfl, hN, hK, hP⟩ := hv
  have hx := B.exec
  have hb := B.bytes
  have hr := B.returns
  have hts := er_hts (atoms_spec (ws := w_M_room) B.pre)
  have hown : s.vm.findClass R_M = some m.cls := findClass_of_methodNamed B.named
  have hlocks := B.notSynchronized
  have hP : va_P (dC, dI) classes [(m0, .inr (2, [.int th, .ref a1, .ref a2, .ref a3, .ref a4, .ref a5, .int lf, .int tp, .int wd, .int hg, .int ws, .int lk, .int cm, .int mx, .int my])), (a1, .inl (g1, 3, .inl X)), (a2, .inl (g2, 3, .inl Y))] s.heap := hP
  have hl := lv_entry ([.ref m0, .int (nI i), .int (nI k), .int p2, .int p3]) (n := 9) (Nat.le_of_ble_eq_true rfl)
  rw [lg_entry_eq]
  generalize (lg_sl ([.ref m0, .int (nI i), .int (nI k), .int p2, .int p3]) ++ List.replicate (9 - (lg_sl ([.ref m0, .int (nI i), .int (nI k), .int p2, .int p3])).length) Slot.unset).toArray = ls at hl ⊢
  have hl : lv_has ls 9 [(0, .ref m0), (1, .int (nI i)), (2, .int (nI k)), (3, .int p2), (4, .int p3)] := hl
  refine lv_aload_n hx hb d_M_room_0 rfl (lv_at hl 0 rfl) ?_
  refine va_get (D := (dC, dI)) (ci := 2) (v := .ref a1) (C := R_M) (T := F_M) (N := 15) hx hb hts i_M hown hK hP 0 rfl rfl 1 (by decide) (hts _ k_307) (fun _ h9 => h9) rfl d_M_room_1 ?_
  refine lv_iload_n hx hb d_M_room_4 rfl (lv_at hl 2 rfl) ?_
  refine va_iald (i := nI k) hx hb hK hP 1 0 rfl rfl (vp_in_nI (by omega) (by decide)) d_M_room_5 ?_
  refine lv_topi (x := X (nI k).toNatClampNeg) (fun y9 e9 => ?_)
  obtain rfl : y9 = X k := by rw [e9, nI_clamp (by omega)]
  refine lv_aload_n hx hb d_M_room_6 rfl (lv_at hl 0 rfl) ?_
  refine va_get (D := (dC, dI)) (ci := 2) (v := .ref a1) (C := R_M) (T := F_M) (N := 15) hx hb hts i_M hown hK hP 0 rfl rfl 1 (by decide) (hts _ k_307) (fun _ h9 => h9) rfl d_M_room_7 ?_
  refine lv_iload_n hx hb d_M_room_10 rfl (lv_at hl 1 rfl) ?_
  refine va_iald (i := nI i) hx hb hK hP 1 0 rfl rfl (vp_in_nI (by omega) (by decide)) d_M_room_11 ?_
  refine lv_topi (x := X (nI i).toNatClampNeg) (fun y9 e9 => ?_)
  obtain rfl : y9 = X i := by rw [e9, nI_clamp (by omega)]
  refine lv_isub hx hb d_M_room_12 ?_
  refine lv_i2l (v := ((X k) - (X i)).toInt64) hx hb d_M_room_13 rfl ?_
  refine lv_lstore (lv' := [(5, .long (((X k) - (X i)).toInt64)), (0, .ref m0), (1, .int (nI i)), (2, .int (nI k)), (3, .int p2), (4, .int p3)]) hx hb d_M_room_14 hl (by decide) rfl (fun ls hl => ?_)
  refine lv_aload_n hx hb d_M_room_16 rfl (lv_at hl 1 rfl) ?_
  refine va_get (D := (dC, dI)) (ci := 2) (v := .ref a2) (C := R_M) (T := F_M) (N := 15) hx hb hts i_M hown hK hP 0 rfl rfl 2 (by decide) (hts _ k_308) (fun _ h9 => h9) rfl d_M_room_17 ?_
  refine lv_iload_n hx hb d_M_room_20 rfl (lv_at hl 3 rfl) ?_
  refine va_iald (i := nI k) hx hb hK hP 2 1 rfl rfl (vp_in_nI (by omega) (by decide)) d_M_room_21 ?_
  refine lv_topi (x := Y (nI k).toNatClampNeg) (fun y9 e9 => ?_)
  obtain rfl : y9 = Y k := by rw [e9, nI_clamp (by omega)]
  refine lv_aload_n hx hb d_M_room_22 rfl (lv_at hl 1 rfl) ?_
  refine va_get (D := (dC, dI)) (ci := 2) (v := .ref a2) (C := R_M) (T := F_M) (N := 15) hx hb hts i_M hown hK hP 0 rfl rfl 2 (by decide) (hts _ k_308) (fun _ h9 => h9) rfl d_M_room_23 ?_
  refine lv_iload_n hx hb d_M_room_26 rfl (lv_at hl 2 rfl) ?_
  refine va_iald (i := nI i) hx hb hK hP 2 1 rfl rfl (vp_in_nI (by omega) (by decide)) d_M_room_27 ?_
  refine lv_topi (x := Y (nI i).toNatClampNeg) (fun y9 e9 => ?_)
  obtain rfl : y9 = Y i := by rw [e9, nI_clamp (by omega)]
  refine lv_isub hx hb d_M_room_28 ?_
  refine lv_i2l (v := ((Y k) - (Y i)).toInt64) hx hb d_M_room_29 rfl ?_
  refine lv_lstore (lv' := [(7, .long (((Y k) - (Y i)).toInt64)), (5, .long (((X k) - (X i)).toInt64)), (0, .ref m0), (1, .int (nI i)), (2, .int (nI k)), (3, .int p2), (4, .int p3)]) hx hb d_M_room_30 hl (by decide) rfl (fun ls hl => ?_)
  refine lv_lload hx hb d_M_room_32 (lv_at hl 1 rfl) ?_
  refine lv_iload hx hb d_M_room_34 (lv_at hl 6 rfl) ?_
  refine lv_aload_n hx hb d_M_room_36 rfl (lv_at hl 2 rfl) ?_
  refine va_get (D := (dC, dI)) (ci := 2) (v := .ref a2) (C := R_M) (T := F_M) (N := 15) hx hb hts i_M hown hK hP 0 rfl rfl 2 (by decide) (hts _ k_308) (fun _ h9 => h9) rfl d_M_room_37 ?_
  refine lv_iload_n hx hb d_M_room_40 rfl (lv_at hl 3 rfl) ?_
  refine va_iald (i := nI i) hx hb hK hP 2 1 rfl rfl (vp_in_nI (by omega) (by decide)) d_M_room_41 ?_
  refine lv_topi (x := Y (nI i).toNatClampNeg) (fun y9 e9 => ?_)
  obtain rfl : y9 = Y i := by rw [e9, nI_clamp (by omega)]
  refine lv_isub hx hb d_M_room_42 ?_
  refine lv_i2l (v := (p3 - (Y i)).toInt64) hx hb d_M_room_43 rfl ?_
  refine lv_lmul hx hb d_M_room_44 ?_
  refine lv_lload hx hb d_M_room_45 (lv_at hl 0 rfl) ?_
  refine lv_iload_n hx hb d_M_room_47 rfl (lv_at hl 5 rfl) ?_
  refine lv_aload_n hx hb d_M_room_48 rfl (lv_at hl 2 rfl) ?_
  refine va_get (D := (dC, dI)) (ci := 2) (v := .ref a1) (C := R_M) (T := F_M) (N := 15) hx hb hts i_M hown hK hP 0 rfl rfl 1 (by decide) (hts _ k_307) (fun _ h9 => h9) rfl d_M_room_49 ?_
  refine lv_iload_n hx hb d_M_room_52 rfl (lv_at hl 3 rfl) ?_
  refine va_iald (i := nI i) hx hb hK hP 1 0 rfl rfl (vp_in_nI (by omega) (by decide)) d_M_room_53 ?_
  refine lv_topi (x := X (nI i).toNatClampNeg) (fun y9 e9 => ?_)
  obtain rfl : y9 = X i := by rw [e9, nI_clamp (by omega)]
  refine lv_isub hx hb d_M_room_54 ?_
  refine lv_i2l (v := (p2 - (X i)).toInt64) hx hb d_M_room_55 rfl ?_
  refine lv_lmul hx hb d_M_room_56 ?_
  refine lv_lsub hx hb d_M_room_57 ?_
  exact W.lret (v := ((((X k) - (X i)).toInt64) * ((p3 - (Y i)).toInt64)) - ((((Y k) - (Y i)).toInt64) * ((p2 - (X i)).toInt64))) hx hb hr (fun u9 ht hW => ⟨_, rfl, rfl, ht⟩) (fun q hq => by cases hq) d_M_room_58

set_option maxHeartbeats 1000000 in
set_option maxRecDepth 100000 in
theorem c_M_whole (l : Launch) (dC : Nat → ClassId) (dI : Nat → Nat → Nat) (m0 a1 a2 a3 a4 a5 : Nat) (g1 g2 : ClassId) (X Y : Nat → Int32) (th lf tp wd hg ws lk cm mx my : Int32) : Met l y_M_whole w_M_whole ({ frames := 1, cells := 0, slots := 0, locals := 28 }) (va_Pc [.ref m0] (PP dC dI [(g1, .int), (g2, .int)] [(m0, .inr (2, [.int th, .ref a1, .ref a2, .ref a3, .ref a4, .ref a5, .int lf, .int tp, .int wd, .int hg, .int ws, .int lk, .int cm, .int mx, .int my])), (a1, .inl (g1, 3, .inl X)), (a2, .inl (g2, 3, .inl Y))])) (vp_Sl (fun r : Int64 => r = er_ar X Y)) 0 0 (fun _ => False) := by
  refine Met.ofW (cc := b_M_whole) (maxL := 1) (ret := (some .long)) (by decide +kernel) rfl ?_
  intro p e s m args below meth c s₁ B hml hv
  obtain ⟨rfl, hN, hK, hP⟩ := hv
  have hx := B.exec
  have hb := B.bytes
  have hr := B.returns
  have hts := er_hts (atoms_spec (ws := w_M_whole) B.pre)
  have hown : s.vm.findClass R_M = some m.cls := findClass_of_methodNamed B.named
  have hlocks := B.notSynchronized
  have hP : va_P (dC, dI) classes [(m0, .inr (2, [.int th, .ref a1, .ref a2, .ref a3, .ref a4, .ref a5, .int lf, .int tp, .int wd, .int hg, .int ws, .int lk, .int cm, .int mx, .int my])), (a1, .inl (g1, 3, .inl X)), (a2, .inl (g2, 3, .inl Y))] s.heap := hP
  have hl := lv_entry ([.ref m0]) (n := 1) (Nat.le_of_ble_eq_true rfl)
  rw [lg_entry_eq]
  generalize (lg_sl ([.ref m0]) ++ List.replicate (1 - (lg_sl ([.ref m0])).length) Slot.unset).toArray = ls at hl ⊢
  have hl : lv_has ls 1 [(0, .ref m0)] := hl
  refine lv_aload_n hx hb d_M_whole_0 rfl (lv_at hl 0 rfl) ?_
  refine lv_iconst (v := 0) hx hb d_M_whole_1 (by decide) ?_
  refine lv_iconst (v := 1) hx hb d_M_whole_2 (by decide) ?_
  refine lv_aload_n hx hb d_M_whole_3 rfl (lv_at hl 0 rfl) ?_
  refine va_get (D := (dC, dI)) (ci := 2) (v := .ref a1) (C := R_M) (T := F_M) (N := 15) hx hb hts i_M hown hK hP 0 rfl rfl 1 (by decide) (hts _ k_307) (fun _ h9 => h9) rfl d_M_whole_4 ?_
  refine lv_iconst (v := 2) hx hb d_M_whole_7 (by decide) ?_
  refine va_iald (i := 2) hx hb hK hP 1 0 rfl rfl (vp_in_nI (n := 2) (by decide) (by decide)) d_M_whole_8 ?_
  refine lv_aload_n hx hb d_M_whole_9 rfl (lv_at hl 0 rfl) ?_
  refine va_get (D := (dC, dI)) (ci := 2) (v := .ref a2) (C := R_M) (T := F_M) (N := 15) hx hb hts i_M hown hK hP 0 rfl rfl 2 (by decide) (hts _ k_308) (fun _ h9 => h9) rfl d_M_whole_10 ?_
  refine lv_iconst (v := 2) hx hb d_M_whole_13 (by decide) ?_
  refine va_iald (i := 2) hx hb hK hP 2 1 rfl rfl (vp_in_nI (n := 2) (by decide) (by decide)) d_M_whole_14 ?_
  have hPc := hP.sub (ws' := [(m0, .inr (2, [.int th, .ref a1, .ref a2, .ref a3, .ref a4, .ref a5, .int lf, .int tp, .int wd, .int hg, .int ws, .int lk, .int cm, .int mx, .int my])), (a1, .inl (g1, 3, .inl X)), (a2, .inl (g2, 3, .inl Y))]) [0, 1, 2] rfl
  have hKc := hK.sub (tys' := [(g1, .int), (g2, .int)]) [0, 1] rfl
  refine vp_callSl (va_runV (As := [.int 0, .int 1, .int (X 2), .int (Y 2)]) (rest := []) ⟨hx, hb, hml, hown, hts⟩ (c_M_room l dC dI m0 a1 a2 a3 a4 a5 g1 g2 X Y th lf tp wd hg ws lk cm mx my 0 1 (X 2) (Y 2) (by first | assumption | omega | decide | exact er_fr_lt _ _ _ | exact er_to_lt _ _ _) (by first | assumption | omega | decide | exact er_fr_lt _ _ _ | exact er_to_lt _ _ _)) (cwV 4 hts (er_gV k_383 k_384 k_12 k_20 k_385) rfl rfl rfl (by decide +kernel) ⟨Nat.le_of_ble_eq_true rfl, Nat.le_of_ble_eq_true rfl⟩) ⟨PP.blind, va_recv hKc hPc (ci := 2) (q0 := 0) rfl rfl, PP.at hN hKc hPc⟩ rfl rfl hl.1 rfl (lv_room (Nat.le_of_ble_eq_true rfl)) d_M_whole_15 ⟨Nat.zero_le _, Nat.zero_le _⟩).run (fun r_1 hr_1 => ?_)
  obtain rfl : er_room X Y 0 1 (X 2) (Y 2) = r_1 := Eq.symm hr_1
  exact W.lret (v := er_room X Y 0 1 (X 2) (Y 2)) hx hb hr (fun u9 ht hW => ⟨_, rfl, rfl, ht⟩) (fun q hq => by cases hq) d_M_whole_18

set_option maxHeartbeats 1000000 in
set_option maxRecDepth 100000 in
theorem c_M_from (l : Launch) (dC : Nat → ClassId) (dI : Nat → Nat → Nat) (m0 a1 a2 a3 a4 a5 : Nat) (g1 g2 : ClassId) (X Y : Nat → Int32) (th lf tp wd hg ws lk cm mx my : Int32) (j : Nat) (hj : j < 3) : Met l y_M_from w_M_from ({ frames := 2, cells := 0, slots := 0, locals := 48 }) (va_Pc [.ref m0, .int (nI j)] (PP dC dI [(g1, .int), (g2, .int)] [(m0, .inr (2, [.int th, .ref a1, .ref a2, .ref a3, .ref a4, .ref a5, .int lf, .int tp, .int wd, .int hg, .int ws, .int lk, .int cm, .int mx, .int my])), (a1, .inl (g1, 3, .inl X)), (a2, .inl (g2, 3, .inl Y))])) (vp_Si (fun r : Int32 => r = nI (er_fr X Y j))) 0 0 (fun _ => False) := by
  refine Met.ofW (cc := b_M_from) (maxL := 2) (ret := (some .int)) (by decide +kernel) rfl ?_
  intro p e s m args below meth c s₁ B hml hv
  obtain ⟨rfl, hN, hK, hP⟩ := hv
  have hx := B.exec
  have hb := B.bytes
  have hr := B.returns
  have hts := er_hts (atoms_spec (ws := w_M_from) B.pre)
  have hown : s.vm.findClass R_M = some m.cls := findClass_of_methodNamed B.named
  have hlocks := B.notSynchronized
  have hP : va_P (dC, dI) classes [(m0, .inr (2, [.int th, .ref a1, .ref a2, .ref a3, .ref a4, .ref a5, .int lf, .int tp, .int wd, .int hg, .int ws, .int lk, .int cm, .int mx, .int my])), (a1, .inl (g1, 3, .inl X)), (a2, .inl (g2, 3, .inl Y))] s.heap := hP
  have hl := lv_entry ([.ref m0, .int (nI j)]) (n := 2) (Nat.le_of_ble_eq_true rfl)
  rw [lg_entry_eq]
  generalize (lg_sl ([.ref m0, .int (nI j)]) ++ List.replicate (2 - (lg_sl ([.ref m0, .int (nI j)])).length) Slot.unset).toArray = ls at hl ⊢
  have hl : lv_has ls 2 [(0, .ref m0), (1, .int (nI j))] := hl
  refine lv_aload_n hx hb d_M_from_0 rfl (lv_at hl 0 rfl) ?_
  have hPc := hP.sub (ws' := [(m0, .inr (2, [.int th, .ref a1, .ref a2, .ref a3, .ref a4, .ref a5, .int lf, .int tp, .int wd, .int hg, .int ws, .int lk, .int cm, .int mx, .int my])), (a1, .inl (g1, 3, .inl X)), (a2, .inl (g2, 3, .inl Y))]) [0, 1, 2] rfl
  have hKc := hK.sub (tys' := [(g1, .int), (g2, .int)]) [0, 1] rfl
  refine vp_callSl (va_runV (As := []) (rest := []) ⟨hx, hb, hml, hown, hts⟩ (c_M_whole l dC dI m0 a1 a2 a3 a4 a5 g1 g2 X Y th lf tp wd hg ws lk cm mx my) (cwV 0 hts (er_gV k_380 k_381 k_11 k_20 k_382) rfl rfl rfl (by decide +kernel) ⟨Nat.le_of_ble_eq_true rfl, Nat.le_of_ble_eq_true rfl⟩) ⟨PP.blind, va_recv hKc hPc (ci := 2) (q0 := 0) rfl rfl, PP.at hN hKc hPc⟩ rfl rfl hl.1 rfl (lv_room (Nat.le_of_ble_eq_true rfl)) d_M_from_1 ⟨Nat.zero_le _, Nat.zero_le _⟩).run (fun r_1 hr_1 => ?_)
  obtain rfl : er_ar X Y = r_1 := Eq.symm hr_1
  refine lv_lconst (v := 0) hx hb d_M_from_4 (by decide) ?_
  refine W.lcmp hx hb d_M_from_5 ?_
  refine lv_if_ge (tgt := 17) hx hb d_M_from_6 (by decide) (fun c_2 => ?_) (fun c_2 => ?_)
  · rw [lg_cmp_ge] at c_2
    refine lv_iload_n hx hb d_M_from_17 rfl (lv_at hl 1 rfl) ?_
    refine lv_iconst (v := 1) hx hb d_M_from_18 (by decide) ?_
    refine lv_iadd hx hb d_M_from_19 ?_
    refine lv_iconst (v := 3) hx hb d_M_from_20 (by decide) ?_
    refine lv_irem hx hb d_M_from_21 (by decide) ?_
    exact W.iret (v := ((nI j) + 1) - ((nI j) + 1) / 3 * 3) hx hb hr (fun u9 ht hW => ⟨_, rfl, (er_fr_ok1 hj c_2), ht⟩) (fun q hq => by cases hq) d_M_from_22
  · rw [lg_cmp_ge] at c_2
    refine lv_iload_n hx hb d_M_from_9 rfl (lv_at hl 1 rfl) ?_
    refine lv_iconst (v := 2) hx hb d_M_from_10 (by decide) ?_
    refine lv_iadd hx hb d_M_from_11 ?_
    refine lv_iconst (v := 3) hx hb d_M_from_12 (by decide) ?_
    refine lv_irem hx hb d_M_from_13 (by decide) ?_
    refine lv_goto (tgt := 22) hx hb d_M_from_14 (by decide) ?_
    exact W.iret (v := ((nI j) + 2) - ((nI j) + 2) / 3 * 3) hx hb hr (fun u9 ht hW => ⟨_, rfl, (er_fr_ok2 hj c_2), ht⟩) (fun q hq => by cases hq) d_M_from_22

set_option maxHeartbeats 1000000 in
set_option maxRecDepth 100000 in
theorem c_M_to (l : Launch) (dC : Nat → ClassId) (dI : Nat → Nat → Nat) (m0 a1 a2 a3 a4 a5 : Nat) (g1 g2 : ClassId) (X Y : Nat → Int32) (th lf tp wd hg ws lk cm mx my : Int32) (j : Nat) (hj : j < 3) : Met l y_M_to w_M_to ({ frames := 2, cells := 0, slots := 0, locals := 48 }) (va_Pc [.ref m0, .int (nI j)] (PP dC dI [(g1, .int), (g2, .int)] [(m0, .inr (2, [.int th, .ref a1, .ref a2, .ref a3, .ref a4, .ref a5, .int lf, .int tp, .int wd, .int hg, .int ws, .int lk, .int cm, .int mx, .int my])), (a1, .inl (g1, 3, .inl X)), (a2, .inl (g2, 3, .inl Y))])) (vp_Si (fun r : Int32 => r = nI (er_to X Y j))) 0 0 (fun _ => False) := by
  refine Met.ofW (cc := b_M_to) (maxL := 2) (ret := (some .int)) (by decide +kernel) rfl ?_
  intro p e s m args below meth c s₁ B hml hv
  obtain ⟨rfl, hN, hK, hP⟩ := hv
  have hx := B.exec
  have hb := B.bytes
  have hr := B.returns
  have hts := er_hts (atoms_spec (ws := w_M_to) B.pre)
  have hown : s.vm.findClass R_M = some m.cls := findClass_of_methodNamed B.named
  have hlocks := B.notSynchronized
  have hP : va_P (dC, dI) classes [(m0, .inr (2, [.int th, .ref a1, .ref a2, .ref a3, .ref a4, .ref a5, .int lf, .int tp, .int wd, .int hg, .int ws, .int lk, .int cm, .int mx, .int my])), (a1, .inl (g1, 3, .inl X)), (a2, .inl (g2, 3, .inl Y))] s.heap := hP
  have hl := lv_entry ([.ref m0, .int (nI j)]) (n := 2) (Nat.le_of_ble_eq_true rfl)
  rw [lg_entry_eq]
  generalize (lg_sl ([.ref m0, .int (nI j)]) ++ List.replicate (2 - (lg_sl ([.ref m0, .int (nI j)])).length) Slot.unset).toArray = ls at hl ⊢
  have hl : lv_has ls 2 [(0, .ref m0), (1, .int (nI j))] := hl
  refine lv_aload_n hx hb d_M_to_0 rfl (lv_at hl 0 rfl) ?_
  have hPc := hP.sub (ws' := [(m0, .inr (2, [.int th, .ref a1, .ref a2, .ref a3, .ref a4, .ref a5, .int lf, .int tp, .int wd, .int hg, .int ws, .int lk, .int cm, .int mx, .int my])), (a1, .inl (g1, 3, .inl X)), (a2, .inl (g2, 3, .inl Y))]) [0, 1, 2] rfl
  have hKc := hK.sub (tys' := [(g1, .int), (g2, .int)]) [0, 1] rfl
  refine vp_callSl (va_runV (As := []) (rest := []) ⟨hx, hb, hml, hown, hts⟩ (c_M_whole l dC dI m0 a1 a2 a3 a4 a5 g1 g2 X Y th lf tp wd hg ws lk cm mx my) (cwV 0 hts (er_gV k_380 k_381 k_11 k_20 k_382) rfl rfl rfl (by decide +kernel) ⟨Nat.le_of_ble_eq_true rfl, Nat.le_of_ble_eq_true rfl⟩) ⟨PP.blind, va_recv hKc hPc (ci := 2) (q0 := 0) rfl rfl, PP.at hN hKc hPc⟩ rfl rfl hl.1 rfl (lv_room (Nat.le_of_ble_eq_true rfl)) d_M_to_1 ⟨Nat.zero_le _, Nat.zero_le _⟩).run (fun r_1 hr_1 => ?_)
  obtain rfl : er_ar X Y = r_1 := Eq.symm hr_1
  refine lv_lconst (v := 0) hx hb d_M_to_4 (by decide) ?_
  refine W.lcmp hx hb d_M_to_5 ?_
  refine lv_if_ge (tgt := 17) hx hb d_M_to_6 (by decide) (fun c_2 => ?_) (fun c_2 => ?_)
  · rw [lg_cmp_ge] at c_2
    refine lv_iload_n hx hb d_M_to_17 rfl (lv_at hl 1 rfl) ?_
    refine lv_iconst (v := 2) hx hb d_M_to_18 (by decide) ?_
    refine lv_iadd hx hb d_M_to_19 ?_
    refine lv_iconst (v := 3) hx hb d_M_to_20 (by decide) ?_
    refine lv_irem hx hb d_M_to_21 (by decide) ?_
    exact W.iret (v := ((nI j) + 2) - ((nI j) + 2) / 3 * 3) hx hb hr (fun u9 ht hW => ⟨_, rfl, (er_to_ok2 hj c_2), ht⟩) (fun q hq => by cases hq) d_M_to_22
  · rw [lg_cmp_ge] at c_2
    refine lv_iload_n hx hb d_M_to_9 rfl (lv_at hl 1 rfl) ?_
    refine lv_iconst (v := 1) hx hb d_M_to_10 (by decide) ?_
    refine lv_iadd hx hb d_M_to_11 ?_
    refine lv_iconst (v := 3) hx hb d_M_to_12 (by decide) ?_
    refine lv_irem hx hb d_M_to_13 (by decide) ?_
    refine lv_goto (tgt := 22) hx hb d_M_to_14 (by decide) ?_
    exact W.iret (v := ((nI j) + 1) - ((nI j) + 1) / 3 * 3) hx hb hr (fun u9 ht hW => ⟨_, rfl, (er_to_ok1 hj c_2), ht⟩) (fun q hq => by cases hq) d_M_to_22

set_option maxHeartbeats 1000000 in
set_option maxRecDepth 100000 in
theorem c_M_weightOf (l : Launch) (dC : Nat → ClassId) (dI : Nat → Nat → Nat) (m0 a1 a2 a3 a4 a5 : Nat) (g1 g2 : ClassId) (X Y : Nat → Int32) (th lf tp wd hg ws lk cm mx my : Int32) (j : Nat) (p1 p2 : Int32) (hj : j < 3) : Met l y_M_weightOf w_M_weightOf ({ frames := 3, cells := 0, slots := 0, locals := 69 }) (va_Pc [.ref m0, .int (nI j), .int p1, .int p2] (PP dC dI [(g1, .int), (g2, .int)] [(m0, .inr (2, [.int th, .ref a1, .ref a2, .ref a3, .ref a4, .ref a5, .int lf, .int tp, .int wd, .int hg, .int ws, .int lk, .int cm, .int mx, .int my])), (a1, .inl (g1, 3, .inl X)), (a2, .inl (g2, 3, .inl Y))])) (vp_Sl (fun r : Int64 => r = er_W X Y j p1 p2)) 0 0 (fun _ => False) := by
  refine Met.ofW (cc := b_M_weightOf) (maxL := 4) (ret := (some .long)) (by decide +kernel) rfl ?_
  intro p e s m args below meth c s₁ B hml hv
  obtain ⟨rfl, hN, hK, hP⟩ := hv
  have hx := B.exec
  have hb := B.bytes
  have hr := B.returns
  have hts := er_hts (atoms_spec (ws := w_M_weightOf) B.pre)
  have hown : s.vm.findClass R_M = some m.cls := findClass_of_methodNamed B.named
  have hlocks := B.notSynchronized
  have hP : va_P (dC, dI) classes [(m0, .inr (2, [.int th, .ref a1, .ref a2, .ref a3, .ref a4, .ref a5, .int lf, .int tp, .int wd, .int hg, .int ws, .int lk, .int cm, .int mx, .int my])), (a1, .inl (g1, 3, .inl X)), (a2, .inl (g2, 3, .inl Y))] s.heap := hP
  have hl := lv_entry ([.ref m0, .int (nI j), .int p1, .int p2]) (n := 4) (Nat.le_of_ble_eq_true rfl)
  rw [lg_entry_eq]
  generalize (lg_sl ([.ref m0, .int (nI j), .int p1, .int p2]) ++ List.replicate (4 - (lg_sl ([.ref m0, .int (nI j), .int p1, .int p2])).length) Slot.unset).toArray = ls at hl ⊢
  have hl : lv_has ls 4 [(0, .ref m0), (1, .int (nI j)), (2, .int p1), (3, .int p2)] := hl
  refine lv_aload_n hx hb d_M_weightOf_0 rfl (lv_at hl 0 rfl) ?_
  refine lv_aload_n hx hb d_M_weightOf_1 rfl (lv_at hl 0 rfl) ?_
  refine lv_iload_n hx hb d_M_weightOf_2 rfl (lv_at hl 1 rfl) ?_
  have hPc := hP.sub (ws' := [(m0, .inr (2, [.int th, .ref a1, .ref a2, .ref a3, .ref a4, .ref a5, .int lf, .int tp, .int wd, .int hg, .int ws, .int lk, .int cm, .int mx, .int my])), (a1, .inl (g1, 3, .inl X)), (a2, .inl (g2, 3, .inl Y))]) [0, 1, 2] rfl
  have hKc := hK.sub (tys' := [(g1, .int), (g2, .int)]) [0, 1] rfl
  refine vp_callSi (va_runV (As := [.int (nI j)]) (rest := [.ref m0]) ⟨hx, hb, hml, hown, hts⟩ (c_M_from l dC dI m0 a1 a2 a3 a4 a5 g1 g2 X Y th lf tp wd hg ws lk cm mx my j (by first | assumption | omega | decide | exact er_fr_lt _ _ _ | exact er_to_lt _ _ _)) (cwV 1 hts (er_gV k_396 k_397 k_15 k_20 k_398) rfl rfl rfl (by decide +kernel) ⟨Nat.le_of_ble_eq_true rfl, Nat.le_of_ble_eq_true rfl⟩) ⟨PP.blind, va_recv hKc hPc (ci := 2) (q0 := 0) rfl rfl, PP.at hN hKc hPc⟩ rfl rfl hl.1 rfl (lv_room (Nat.le_of_ble_eq_true rfl)) d_M_weightOf_3 ⟨Nat.zero_le _, Nat.zero_le _⟩).run (fun r_1 hr_1 => ?_)
  obtain rfl : nI (er_fr X Y j) = r_1 := Eq.symm hr_1
  refine lv_aload_n hx hb d_M_weightOf_6 rfl (lv_at hl 0 rfl) ?_
  refine lv_iload_n hx hb d_M_weightOf_7 rfl (lv_at hl 1 rfl) ?_
  have hPc := hP.sub (ws' := [(m0, .inr (2, [.int th, .ref a1, .ref a2, .ref a3, .ref a4, .ref a5, .int lf, .int tp, .int wd, .int hg, .int ws, .int lk, .int cm, .int mx, .int my])), (a1, .inl (g1, 3, .inl X)), (a2, .inl (g2, 3, .inl Y))]) [0, 1, 2] rfl
  have hKc := hK.sub (tys' := [(g1, .int), (g2, .int)]) [0, 1] rfl
  refine vp_callSi (va_runV (As := [.int (nI j)]) (rest := [.int (nI (er_fr X Y j)), .ref m0]) ⟨hx, hb, hml, hown, hts⟩ (c_M_to l dC dI m0 a1 a2 a3 a4 a5 g1 g2 X Y th lf tp wd hg ws lk cm mx my j (by first | assumption | omega | decide | exact er_fr_lt _ _ _ | exact er_to_lt _ _ _)) (cwV 1 hts (er_gV k_399 k_400 k_16 k_20 k_401) rfl rfl rfl (by decide +kernel) ⟨Nat.le_of_ble_eq_true rfl, Nat.le_of_ble_eq_true rfl⟩) ⟨PP.blind, va_recv hKc hPc (ci := 2) (q0 := 0) rfl rfl, PP.at hN hKc hPc⟩ rfl rfl hl.1 rfl (lv_room (Nat.le_of_ble_eq_true rfl)) d_M_weightOf_8 ⟨Nat.zero_le _, Nat.zero_le _⟩).run (fun r_2 hr_2 => ?_)
  obtain rfl : nI (er_to X Y j) = r_2 := Eq.symm hr_2
  refine lv_bipush (v := 16) hx hb d_M_weightOf_11 (by decide) ?_
  refine lv_iload_n hx hb d_M_weightOf_13 rfl (lv_at hl 2 rfl) ?_
  refine lv_imul hx hb d_M_weightOf_14 ?_
  refine lv_bipush (v := 8) hx hb d_M_weightOf_15 (by decide) ?_
  refine lv_iadd hx hb d_M_weightOf_17 ?_
  refine lv_bipush (v := 16) hx hb d_M_weightOf_18 (by decide) ?_
  refine lv_iload_n hx hb d_M_weightOf_20 rfl (lv_at hl 3 rfl) ?_
  refine lv_imul hx hb d_M_weightOf_21 ?_
  refine lv_bipush (v := 8) hx hb d_M_weightOf_22 (by decide) ?_
  refine lv_iadd hx hb d_M_weightOf_24 ?_
  have hPc := hP.sub (ws' := [(m0, .inr (2, [.int th, .ref a1, .ref a2, .ref a3, .ref a4, .ref a5, .int lf, .int tp, .int wd, .int hg, .int ws, .int lk, .int cm, .int mx, .int my])), (a1, .inl (g1, 3, .inl X)), (a2, .inl (g2, 3, .inl Y))]) [0, 1, 2] rfl
  have hKc := hK.sub (tys' := [(g1, .int), (g2, .int)]) [0, 1] rfl
  refine vp_callSl (va_runV (As := [.int (nI (er_fr X Y j)), .int (nI (er_to X Y j)), .int ((16 * p1) + 8), .int ((16 * p2) + 8)]) (rest := []) ⟨hx, hb, hml, hown, hts⟩ (c_M_room l dC dI m0 a1 a2 a3 a4 a5 g1 g2 X Y th lf tp wd hg ws lk cm mx my (er_fr X Y j) (er_to X Y j) ((16 * p1) + 8) ((16 * p2) + 8) (by first | assumption | omega | decide | exact er_fr_lt _ _ _ | exact er_to_lt _ _ _) (by first | assumption | omega | decide | exact er_fr_lt _ _ _ | exact er_to_lt _ _ _)) (cwV 4 hts (er_gV k_383 k_384 k_12 k_20 k_385) rfl rfl rfl (by decide +kernel) ⟨Nat.le_of_ble_eq_true rfl, Nat.le_of_ble_eq_true rfl⟩) ⟨PP.blind, va_recv hKc hPc (ci := 2) (q0 := 0) rfl rfl, PP.at hN hKc hPc⟩ rfl rfl hl.1 rfl (lv_room (Nat.le_of_ble_eq_true rfl)) d_M_weightOf_25 ⟨Nat.zero_le _, Nat.zero_le _⟩).run (fun r_3 hr_3 => ?_)
  obtain rfl : er_room X Y (er_fr X Y j) (er_to X Y j) ((16 * p1) + 8) ((16 * p2) + 8) = r_3 := Eq.symm hr_3
  exact W.lret (v := er_room X Y (er_fr X Y j) (er_to X Y j) ((16 * p1) + 8) ((16 * p2) + 8)) hx hb hr (fun u9 ht hW => ⟨_, rfl, rfl, ht⟩) (fun q hq => by cases hq) d_M_weightOf_28

set_option maxHeartbeats 1000000 in
set_option maxRecDepth 100000 in
theorem c_M_down (l : Launch) (dC : Nat → ClassId) (dI : Nat → Nat → Nat) (p0 p1 : Int64) (hne : ¬ p1 = 0) : Met l y_M_down w_M_down ({ frames := 0, cells := 0, slots := 0, locals := 0 }) (va_Pc [.long p0, .long p1] (PP dC dI [] [])) (vp_Sl (fun r : Int64 => r = er_down p0 p1)) 0 0 (fun _ => False) := by
  refine Met.ofW (cc := b_M_down) (maxL := 4) (ret := (some .long)) (by decide +kernel) rfl ?_
  intro p e s m args below meth c s₁ B hml hv
  obtain ⟨rfl, hN, hK, hP⟩ := hv
  have hx := B.exec
  have hb := B.bytes
  have hr := B.returns
  have hts := er_hts (atoms_spec (ws := w_M_down) B.pre)
  have hown : s.vm.findClass R_M = some m.cls := findClass_of_methodNamed B.named
  have hlocks := B.notSynchronized
  have hP : va_P (dC, dI) classes [] s.heap := hP
  have hl := lv_entry ([.long p0, .long p1]) (n := 4) (Nat.le_of_ble_eq_true rfl)
  rw [lg_entry_eq]
  generalize (lg_sl ([.long p0, .long p1]) ++ List.replicate (4 - (lg_sl ([.long p0, .long p1])).length) Slot.unset).toArray = ls at hl ⊢
  have hl : lv_has ls 4 [(0, .long p0), (2, .long p1)] := hl
  refine lv_lload_n hx hb d_M_down_0 rfl (lv_at hl 0 rfl) ?_
  refine lv_lload_n hx hb d_M_down_1 rfl (lv_at hl 1 rfl) ?_
  refine lv_ldiv hx hb d_M_down_2 hne ?_
  refine lv_lload_n hx hb d_M_down_3 rfl (lv_at hl 0 rfl) ?_
  refine lv_lload_n hx hb d_M_down_4 rfl (lv_at hl 1 rfl) ?_
  refine lv_lrem hx hb d_M_down_5 hne ?_
  refine lv_lconst (v := 0) hx hb d_M_down_6 (by decide) ?_
  refine W.lcmp hx hb d_M_down_7 ?_
  refine lv_if_eq (tgt := 21) hx hb d_M_down_8 (by decide) (fun c_1 => ?_) (fun c_1 => ?_)
  · rw [lg_cmp_eq] at c_1
    refine lv_lconst (v := 0) hx hb d_M_down_21 (by decide) ?_
    refine lv_lsub hx hb d_M_down_22 ?_
    exact W.lret (v := (p0 / p1) - 0) hx hb hr (fun u9 ht hW => ⟨_, rfl, (er_dw0 c_1), ht⟩) (fun q hq => by cases hq) d_M_down_23
  · rw [lg_cmp_eq] at c_1
    refine lv_lload_n hx hb d_M_down_11 rfl (lv_at hl 0 rfl) ?_
    refine lv_lconst (v := 0) hx hb d_M_down_12 (by decide) ?_
    refine W.lcmp hx hb d_M_down_13 ?_
    refine lv_if_ge (tgt := 21) hx hb d_M_down_14 (by decide) (fun c_2 => ?_) (fun c_2 => ?_)
    · rw [lg_cmp_ge] at c_2
      refine lv_lconst (v := 0) hx hb d_M_down_21 (by decide) ?_
      refine lv_lsub hx hb d_M_down_22 ?_
      exact W.lret (v := (p0 / p1) - 0) hx hb hr (fun u9 ht hW => ⟨_, rfl, (er_dw1 c_2), ht⟩) (fun q hq => by cases hq) d_M_down_23
    · rw [lg_cmp_ge] at c_2
      refine lv_lconst (v := 1) hx hb d_M_down_17 (by decide) ?_
      refine lv_goto (tgt := 22) hx hb d_M_down_18 (by decide) ?_
      refine lv_lsub hx hb d_M_down_22 ?_
      exact W.lret (v := (p0 / p1) - 1) hx hb hr (fun u9 ht hW => ⟨_, rfl, (er_dw2 c_1 c_2), ht⟩) (fun q hq => by cases hq) d_M_down_23

set_option maxHeartbeats 1000000 in
set_option maxRecDepth 100000 in
theorem c_M_thrown (l : Launch) (dC : Nat → ClassId) (dI : Nat → Nat → Nat) (m0 a1 a2 a3 a4 a5 : Nat) (th lf tp wd hg ws lk cm mx my : Int32) : Met l y_M_thrown w_M_thrown ({ frames := 0, cells := 0, slots := 0, locals := 0 }) (va_Pc [.ref m0] (PP dC dI [] [(m0, .inr (2, [.int th, .ref a1, .ref a2, .ref a3, .ref a4, .ref a5, .int lf, .int tp, .int wd, .int hg, .int ws, .int lk, .int cm, .int mx, .int my]))])) (vp_Si (fun r : Int32 => r = th)) 0 0 (fun _ => False) := by
  refine Met.ofW (cc := b_M_thrown) (maxL := 1) (ret := (some .int)) (by decide +kernel) rfl ?_
  intro p e s m args below meth c s₁ B hml hv
  obtain ⟨rfl, hN, hK, hP⟩ := hv
  have hx := B.exec
  have hb := B.bytes
  have hr := B.returns
  have hts := er_hts (atoms_spec (ws := w_M_thrown) B.pre)
  have hown : s.vm.findClass R_M = some m.cls := findClass_of_methodNamed B.named
  have hlocks := B.notSynchronized
  have hP : va_P (dC, dI) classes [(m0, .inr (2, [.int th, .ref a1, .ref a2, .ref a3, .ref a4, .ref a5, .int lf, .int tp, .int wd, .int hg, .int ws, .int lk, .int cm, .int mx, .int my]))] s.heap := hP
  have hl := lv_entry ([.ref m0]) (n := 1) (Nat.le_of_ble_eq_true rfl)
  rw [lg_entry_eq]
  generalize (lg_sl ([.ref m0]) ++ List.replicate (1 - (lg_sl ([.ref m0])).length) Slot.unset).toArray = ls at hl ⊢
  have hl : lv_has ls 1 [(0, .ref m0)] := hl
  refine lv_aload_n hx hb d_M_thrown_0 rfl (lv_at hl 0 rfl) ?_
  refine va_get (D := (dC, dI)) (ci := 2) (v := .int th) (C := R_M) (T := F_M) (N := 15) hx hb hts i_M hown hK hP 0 rfl rfl 0 (by decide) (hts _ k_306) (fun _ h9 => h9) rfl d_M_thrown_1 ?_
  exact W.iret (v := th) hx hb hr (fun u9 ht hW => ⟨_, rfl, rfl, ht⟩) (fun q hq => by cases hq) d_M_thrown_4
end
section
set_option maxHeartbeats 1000000 in
set_option maxRecDepth 100000 in
theorem c_M_isCovered (l : Launch) (dC : Nat → ClassId) (dI : Nat → Nat → Nat) (m0 a1 a2 a3 a4 a5 : Nat) (g1 g2 : ClassId) (X Y : Nat → Int32) (th lf tp wd hg ws lk cm mx my : Int32) (p0 p1 : Int32) : Met l y_M_isCovered w_M_isCovered ({ frames := 4, cells := 0, slots := 0, locals := 92 }) (va_Pc [.ref m0, .int p0, .int p1] (PP dC dI [(g1, .int), (g2, .int)] [(m0, .inr (2, [.int th, .ref a1, .ref a2, .ref a3, .ref a4, .ref a5, .int lf, .int tp, .int wd, .int hg, .int ws, .int lk, .int cm, .int mx, .int my])), (a1, .inl (g1, 3, .inl X)), (a2, .inl (g2, 3, .inl Y))])) (vp_Si (fun r : Int32 => r = er_b (er_cov X Y p0 p1))) 0 0 (fun _ => False) := by
  refine Met.ofW (cc := b_M_isCovered) (maxL := 10) (ret := (some .boolean)) (by decide +kernel) rfl ?_
  intro p e s m args below meth c s₁ B hml hv
  obtain ⟨rfl, hN, hK, hP⟩ := hv
  have hx := B.exec
  have hb := B.bytes
  have hr := B.returns
  have hts := er_hts (atoms_spec (ws := w_M_isCovered) B.pre)
  have hown : s.vm.findClass R_M = some m.cls := findClass_of_methodNamed B.named
  have hlocks := B.notSynchronized
  have hP : va_P (dC, dI) classes [(m0, .inr (2, [.int th, .ref a1, .ref a2, .ref a3, .ref a4, .ref a5, .int lf, .int tp, .int wd, .int hg, .int ws, .int lk, .int cm, .int mx, .int my])), (a1, .inl (g1, 3, .inl X)), (a2, .inl (g2, 3, .inl Y))] s.heap := hP
  have hl := lv_entry ([.ref m0, .int p0, .int p1]) (n := 10) (Nat.le_of_ble_eq_true rfl)
  rw [lg_entry_eq]
  generalize (lg_sl ([.ref m0, .int p0, .int p1]) ++ List.replicate (10 - (lg_sl ([.ref m0, .int p0, .int p1])).length) Slot.unset).toArray = ls at hl ⊢
  have hl : lv_has ls 10 [(0, .ref m0), (1, .int p0), (2, .int p1)] := hl
  refine lv_aload_n hx hb d_M_isCovered_0 rfl (lv_at hl 0 rfl) ?_
  have hPc := hP.sub (ws' := [(m0, .inr (2, [.int th, .ref a1, .ref a2, .ref a3, .ref a4, .ref a5, .int lf, .int tp, .int wd, .int hg, .int ws, .int lk, .int cm, .int mx, .int my])), (a1, .inl (g1, 3, .inl X)), (a2, .inl (g2, 3, .inl Y))]) [0, 1, 2] rfl
  have hKc := hK.sub (tys' := [(g1, .int), (g2, .int)]) [0, 1] rfl
  refine vp_callSl (va_runV (As := []) (rest := []) ⟨hx, hb, hml, hown, hts⟩ (c_M_whole l dC dI m0 a1 a2 a3 a4 a5 g1 g2 X Y th lf tp wd hg ws lk cm mx my) (cwV 0 hts (er_gV k_380 k_381 k_11 k_20 k_382) rfl rfl rfl (by decide +kernel) ⟨Nat.le_of_ble_eq_true rfl, Nat.le_of_ble_eq_true rfl⟩) ⟨PP.blind, va_recv hKc hPc (ci := 2) (q0 := 0) rfl rfl, PP.at hN hKc hPc⟩ rfl rfl hl.1 rfl (lv_room (Nat.le_of_ble_eq_true rfl)) d_M_isCovered_1 ⟨Nat.zero_le _, Nat.zero_le _⟩).run (fun r_1 hr_1 => ?_)
  obtain rfl : er_ar X Y = r_1 := Eq.symm hr_1
  have J_14 : ∀ v : Int32, v = er_b (er_covj X Y p0 p1 0) → W p l e (headSpec w_M_isCovered ({ frames := 4, cells := 0, slots := 0, locals := 92 })).room s m ([.ref m0, .int p0, .int p1] : List Value).toArray below meth c s.heap [] 0 0 (MQ below (vp_Si (fun r : Int32 => r = er_b (er_cov X Y p0 p1))) ([.ref m0, .int p0, .int p1] : List Value).toArray s 0 0 (fun _ => False)) (F0 m 14 ls [.int v]) := by
    intro v hv
    subst hv
    refine lv_istore_n (lv' := [(3, .int (er_b (er_covj X Y p0 p1 0))), (0, .ref m0), (1, .int p0), (2, .int p1)]) hx hb d_M_isCovered_14 rfl hl (by decide) rfl (fun ls hl => ?_)
    refine lv_iconst (v := 0) hx hb d_M_isCovered_15 (by decide) ?_
    refine lv_istore (lv' := [(4, .int 0), (3, .int (er_b (er_covj X Y p0 p1 0))), (0, .ref m0), (1, .int p0), (2, .int p1)]) hx hb d_M_isCovered_16 hl (by decide) rfl (fun ls hl => ?_)
    obtain ⟨j, b1, hl2⟩ : ∃ j : Nat, (j ≤ 3) ∧ lv_has ls 10 [(4, .int (nI j)), (3, .int (er_b (er_covj X Y p0 p1 j))), (0, .ref m0), (1, .int p0), (2, .int p1)] := ⟨0, by omega, lv_sub hl [0, 1, 2, 3, 4] rfl⟩
    clear hl
    have hl := hl2
    clear hl2
    induction hnj : 3 - j using Nat.strongRecOn generalizing j ls with
    | ind nj ihj =>
      refine lv_iload hx hb d_M_isCovered_18 (lv_at hl 0 rfl) ?_
      refine lv_iconst (v := 3) hx hb d_M_isCovered_20 (by decide) ?_
      refine lv_icmp_ge (tgt := 141) hx hb d_M_isCovered_21 (by decide) (fun c_2 => ?_) (fun c_2 => ?_)
      · have c_2 := er_le (a := 3) c_2 (by omega) (by omega)
        refine lv_iload_n hx hb d_M_isCovered_141 rfl (lv_at hl 1 rfl) ?_
        exact W.zret (v := er_b (er_covj X Y p0 p1 j)) (ty := .boolean) hx hb hr (er_b_nar _) (fun u9 ht hW => ⟨_, rfl, (by rw [show j = 3 by omega]; rfl), ht⟩) (fun q hq => by cases hq) d_M_isCovered_142
      · have c_2 := er_nle (a := 3) c_2 (by omega) (by omega)
        have q8 := er_fr_lt X Y j
        have q9 := er_to_lt X Y j
        refine lv_iload_n hx hb d_M_isCovered_24 rfl (lv_at hl 1 rfl) ?_
        refine lv_if_eq (tgt := 141) hx hb d_M_isCovered_25 (by decide) (fun c_3 => ?_) (fun c_3 => ?_)
        · have c_3 := er_b_0.mp c_3
          refine lv_iload_n hx hb d_M_isCovered_141 rfl (lv_at hl 1 rfl) ?_
          exact W.zret (v := er_b (er_covj X Y p0 p1 j)) (ty := .boolean) hx hb hr (er_b_nar _) (fun u9 ht hW => ⟨_, rfl, (er_cvF b1 c_3), ht⟩) (fun q hq => by cases hq) d_M_isCovered_142
        · have c_3 := er_b_n.mp c_3
          refine lv_aload_n hx hb d_M_isCovered_28 rfl (lv_at hl 2 rfl) ?_
          refine lv_iload hx hb d_M_isCovered_29 (lv_at hl 0 rfl) ?_
          refine lv_iload_n hx hb d_M_isCovered_31 rfl (lv_at hl 3 rfl) ?_
          refine lv_iload_n hx hb d_M_isCovered_32 rfl (lv_at hl 4 rfl) ?_
          have hPc := hP.sub (ws' := [(m0, .inr (2, [.int th, .ref a1, .ref a2, .ref a3, .ref a4, .ref a5, .int lf, .int tp, .int wd, .int hg, .int ws, .int lk, .int cm, .int mx, .int my])), (a1, .inl (g1, 3, .inl X)), (a2, .inl (g2, 3, .inl Y))]) [0, 1, 2] rfl
          have hKc := hK.sub (tys' := [(g1, .int), (g2, .int)]) [0, 1] rfl
          refine vp_callSl (va_runV (As := [.int (nI j), .int p0, .int p1]) (rest := []) ⟨hx, hb, hml, hown, hts⟩ (c_M_weightOf l dC dI m0 a1 a2 a3 a4 a5 g1 g2 X Y th lf tp wd hg ws lk cm mx my j p0 p1 (by first | assumption | omega | decide | exact er_fr_lt _ _ _ | exact er_to_lt _ _ _)) (cwV 3 hts (er_gV k_393 k_394 k_14 k_20 k_395) rfl rfl rfl (by decide +kernel) ⟨Nat.le_of_ble_eq_true rfl, Nat.le_of_ble_eq_true rfl⟩) ⟨PP.blind, va_recv hKc hPc (ci := 2) (q0 := 0) rfl rfl, PP.at hN hKc hPc⟩ rfl rfl hl.1 rfl (lv_room (Nat.le_of_ble_eq_true rfl)) d_M_isCovered_33 ⟨Nat.zero_le _, Nat.zero_le _⟩).run (fun r_4 hr_4 => ?_)
          obtain rfl : er_W X Y j p0 p1 = r_4 := Eq.symm hr_4
          refine lv_lstore (lv' := [(5, .long (er_W X Y j p0 p1)), (4, .int (nI j)), (3, .int (er_b (er_covj X Y p0 p1 j))), (0, .ref m0), (1, .int p0), (2, .int p1)]) hx hb d_M_isCovered_36 hl (by decide) rfl (fun ls hl => ?_)
          refine lv_aload_n hx hb d_M_isCovered_38 rfl (lv_at hl 3 rfl) ?_
          refine va_get (D := (dC, dI)) (ci := 2) (v := .ref a1) (C := R_M) (T := F_M) (N := 15) hx hb hts i_M hown hK hP 0 rfl rfl 1 (by decide) (hts _ k_307) (fun _ h9 => h9) rfl d_M_isCovered_39 ?_
          refine lv_aload_n hx hb d_M_isCovered_42 rfl (lv_at hl 3 rfl) ?_
          refine lv_iload hx hb d_M_isCovered_43 (lv_at hl 1 rfl) ?_
          have hPc := hP.sub (ws' := [(m0, .inr (2, [.int th, .ref a1, .ref a2, .ref a3, .ref a4, .ref a5, .int lf, .int tp, .int wd, .int hg, .int ws, .int lk, .int cm, .int mx, .int my])), (a1, .inl (g1, 3, .inl X)), (a2, .inl (g2, 3, .inl Y))]) [0, 1, 2] rfl
          have hKc := hK.sub (tys' := [(g1, .int), (g2, .int)]) [0, 1] rfl
          refine vp_callSi (va_runV (As := [.int (nI j)]) (rest := [.ref a1]) ⟨hx, hb, hml, hown, hts⟩ (c_M_to l dC dI m0 a1 a2 a3 a4 a5 g1 g2 X Y th lf tp wd hg ws lk cm mx my j (by first | assumption | omega | decide | exact er_fr_lt _ _ _ | exact er_to_lt _ _ _)) (cwV 1 hts (er_gV k_399 k_400 k_16 k_20 k_401) rfl rfl rfl (by decide +kernel) ⟨Nat.le_of_ble_eq_true rfl, Nat.le_of_ble_eq_true rfl⟩) ⟨PP.blind, va_recv hKc hPc (ci := 2) (q0 := 0) rfl rfl, PP.at hN hKc hPc⟩ rfl rfl hl.1 rfl (lv_room (Nat.le_of_ble_eq_true rfl)) d_M_isCovered_45 ⟨Nat.zero_le _, Nat.zero_le _⟩).run (fun r_5 hr_5 => ?_)
          obtain rfl : nI (er_to X Y j) = r_5 := Eq.symm hr_5
          refine va_iald (i := nI (er_to X Y j)) hx hb hK hP 1 0 rfl rfl (vp_in_nI (by omega) (by decide)) d_M_isCovered_48 ?_
          refine lv_topi (x := X (nI (er_to X Y j)).toNatClampNeg) (fun y9 e9 => ?_)
          obtain rfl : y9 = X (er_to X Y j) := by rw [e9, nI_clamp (by omega)]
          refine lv_aload_n hx hb d_M_isCovered_49 rfl (lv_at hl 3 rfl) ?_
          refine va_get (D := (dC, dI)) (ci := 2) (v := .ref a1) (C := R_M) (T := F_M) (N := 15) hx hb hts i_M hown hK hP 0 rfl rfl 1 (by decide) (hts _ k_307) (fun _ h9 => h9) rfl d_M_isCovered_50 ?_
          refine lv_aload_n hx hb d_M_isCovered_53 rfl (lv_at hl 3 rfl) ?_
          refine lv_iload hx hb d_M_isCovered_54 (lv_at hl 1 rfl) ?_
          have hPc := hP.sub (ws' := [(m0, .inr (2, [.int th, .ref a1, .ref a2, .ref a3, .ref a4, .ref a5, .int lf, .int tp, .int wd, .int hg, .int ws, .int lk, .int cm, .int mx, .int my])), (a1, .inl (g1, 3, .inl X)), (a2, .inl (g2, 3, .inl Y))]) [0, 1, 2] rfl
          have hKc := hK.sub (tys' := [(g1, .int), (g2, .int)]) [0, 1] rfl
          refine vp_callSi (va_runV (As := [.int (nI j)]) (rest := [.ref a1, .int (X (er_to X Y j))]) ⟨hx, hb, hml, hown, hts⟩ (c_M_from l dC dI m0 a1 a2 a3 a4 a5 g1 g2 X Y th lf tp wd hg ws lk cm mx my j (by first | assumption | omega | decide | exact er_fr_lt _ _ _ | exact er_to_lt _ _ _)) (cwV 1 hts (er_gV k_396 k_397 k_15 k_20 k_398) rfl rfl rfl (by decide +kernel) ⟨Nat.le_of_ble_eq_true rfl, Nat.le_of_ble_eq_true rfl⟩) ⟨PP.blind, va_recv hKc hPc (ci := 2) (q0 := 0) rfl rfl, PP.at hN hKc hPc⟩ rfl rfl hl.1 rfl (lv_room (Nat.le_of_ble_eq_true rfl)) d_M_isCovered_56 ⟨Nat.zero_le _, Nat.zero_le _⟩).run (fun r_6 hr_6 => ?_)
          obtain rfl : nI (er_fr X Y j) = r_6 := Eq.symm hr_6
          refine va_iald (i := nI (er_fr X Y j)) hx hb hK hP 1 0 rfl rfl (vp_in_nI (by omega) (by decide)) d_M_isCovered_59 ?_
          refine lv_topi (x := X (nI (er_fr X Y j)).toNatClampNeg) (fun y9 e9 => ?_)
          obtain rfl : y9 = X (er_fr X Y j) := by rw [e9, nI_clamp (by omega)]
          refine lv_isub hx hb d_M_isCovered_60 ?_
          refine lv_istore (lv' := [(7, .int ((X (er_to X Y j)) - (X (er_fr X Y j)))), (5, .long (er_W X Y j p0 p1)), (4, .int (nI j)), (3, .int (er_b (er_covj X Y p0 p1 j))), (0, .ref m0), (1, .int p0), (2, .int p1)]) hx hb d_M_isCovered_61 hl (by decide) rfl (fun ls hl => ?_)
          refine lv_aload_n hx hb d_M_isCovered_63 rfl (lv_at hl 4 rfl) ?_
          refine va_get (D := (dC, dI)) (ci := 2) (v := .ref a2) (C := R_M) (T := F_M) (N := 15) hx hb hts i_M hown hK hP 0 rfl rfl 2 (by decide) (hts _ k_308) (fun _ h9 => h9) rfl d_M_isCovered_64 ?_
          refine lv_aload_n hx hb d_M_isCovered_67 rfl (lv_at hl 4 rfl) ?_
          refine lv_iload hx hb d_M_isCovered_68 (lv_at hl 2 rfl) ?_
          have hPc := hP.sub (ws' := [(m0, .inr (2, [.int th, .ref a1, .ref a2, .ref a3, .ref a4, .ref a5, .int lf, .int tp, .int wd, .int hg, .int ws, .int lk, .int cm, .int mx, .int my])), (a1, .inl (g1, 3, .inl X)), (a2, .inl (g2, 3, .inl Y))]) [0, 1, 2] rfl
          have hKc := hK.sub (tys' := [(g1, .int), (g2, .int)]) [0, 1] rfl
          refine vp_callSi (va_runV (As := [.int (nI j)]) (rest := [.ref a2]) ⟨hx, hb, hml, hown, hts⟩ (c_M_to l dC dI m0 a1 a2 a3 a4 a5 g1 g2 X Y th lf tp wd hg ws lk cm mx my j (by first | assumption | omega | decide | exact er_fr_lt _ _ _ | exact er_to_lt _ _ _)) (cwV 1 hts (er_gV k_399 k_400 k_16 k_20 k_401) rfl rfl rfl (by decide +kernel) ⟨Nat.le_of_ble_eq_true rfl, Nat.le_of_ble_eq_true rfl⟩) ⟨PP.blind, va_recv hKc hPc (ci := 2) (q0 := 0) rfl rfl, PP.at hN hKc hPc⟩ rfl rfl hl.1 rfl (lv_room (Nat.le_of_ble_eq_true rfl)) d_M_isCovered_70 ⟨Nat.zero_le _, Nat.zero_le _⟩).run (fun r_7 hr_7 => ?_)
          obtain rfl : nI (er_to X Y j) = r_7 := Eq.symm hr_7
          refine va_iald (i := nI (er_to X Y j)) hx hb hK hP 2 1 rfl rfl (vp_in_nI (by omega) (by decide)) d_M_isCovered_73 ?_
          refine lv_topi (x := Y (nI (er_to X Y j)).toNatClampNeg) (fun y9 e9 => ?_)
          obtain rfl : y9 = Y (er_to X Y j) := by rw [e9, nI_clamp (by omega)]
          refine lv_aload_n hx hb d_M_isCovered_74 rfl (lv_at hl 4 rfl) ?_
          refine va_get (D := (dC, dI)) (ci := 2) (v := .ref a2) (C := R_M) (T := F_M) (N := 15) hx hb hts i_M hown hK hP 0 rfl rfl 2 (by decide) (hts _ k_308) (fun _ h9 => h9) rfl d_M_isCovered_75 ?_
          refine lv_aload_n hx hb d_M_isCovered_78 rfl (lv_at hl 4 rfl) ?_
          refine lv_iload hx hb d_M_isCovered_79 (lv_at hl 2 rfl) ?_
          have hPc := hP.sub (ws' := [(m0, .inr (2, [.int th, .ref a1, .ref a2, .ref a3, .ref a4, .ref a5, .int lf, .int tp, .int wd, .int hg, .int ws, .int lk, .int cm, .int mx, .int my])), (a1, .inl (g1, 3, .inl X)), (a2, .inl (g2, 3, .inl Y))]) [0, 1, 2] rfl
          have hKc := hK.sub (tys' := [(g1, .int), (g2, .int)]) [0, 1] rfl
          refine vp_callSi (va_runV (As := [.int (nI j)]) (rest := [.ref a2, .int (Y (er_to X Y j))]) ⟨hx, hb, hml, hown, hts⟩ (c_M_from l dC dI m0 a1 a2 a3 a4 a5 g1 g2 X Y th lf tp wd hg ws lk cm mx my j (by first | assumption | omega | decide | exact er_fr_lt _ _ _ | exact er_to_lt _ _ _)) (cwV 1 hts (er_gV k_396 k_397 k_15 k_20 k_398) rfl rfl rfl (by decide +kernel) ⟨Nat.le_of_ble_eq_true rfl, Nat.le_of_ble_eq_true rfl⟩) ⟨PP.blind, va_recv hKc hPc (ci := 2) (q0 := 0) rfl rfl, PP.at hN hKc hPc⟩ rfl rfl hl.1 rfl (lv_room (Nat.le_of_ble_eq_true rfl)) d_M_isCovered_81 ⟨Nat.zero_le _, Nat.zero_le _⟩).run (fun r_8 hr_8 => ?_)
          obtain rfl : nI (er_fr X Y j) = r_8 := Eq.symm hr_8
          refine va_iald (i := nI (er_fr X Y j)) hx hb hK hP 2 1 rfl rfl (vp_in_nI (by omega) (by decide)) d_M_isCovered_84 ?_
          refine lv_topi (x := Y (nI (er_fr X Y j)).toNatClampNeg) (fun y9 e9 => ?_)
          obtain rfl : y9 = Y (er_fr X Y j) := by rw [e9, nI_clamp (by omega)]
          refine lv_isub hx hb d_M_isCovered_85 ?_
          refine lv_istore (lv' := [(8, .int ((Y (er_to X Y j)) - (Y (er_fr X Y j)))), (7, .int ((X (er_to X Y j)) - (X (er_fr X Y j)))), (5, .long (er_W X Y j p0 p1)), (4, .int (nI j)), (3, .int (er_b (er_covj X Y p0 p1 j))), (0, .ref m0), (1, .int p0), (2, .int p1)]) hx hb d_M_isCovered_86 hl (by decide) rfl (fun ls hl => ?_)
          have J_108 : ∀ v : Int32, v = er_b (er_own (er_ea X Y j) (er_ed X Y j)) → W p l e (headSpec w_M_isCovered ({ frames := 4, cells := 0, slots := 0, locals := 92 })).room s m ([.ref m0, .int p0, .int p1] : List Value).toArray below meth c s.heap [] 0 0 (MQ below (vp_Si (fun r : Int32 => r = er_b (er_cov X Y p0 p1))) ([.ref m0, .int p0, .int p1] : List Value).toArray s 0 0 (fun _ => False)) (F0 m 108 ls [.int v]) := by
            intro v hv
            subst hv
            refine lv_istore (lv' := [(9, .int (er_b (er_own (er_ea X Y j) (er_ed X Y j)))), (8, .int ((Y (er_to X Y j)) - (Y (er_fr X Y j)))), (7, .int ((X (er_to X Y j)) - (X (er_fr X Y j)))), (5, .long (er_W X Y j p0 p1)), (4, .int (nI j)), (3, .int (er_b (er_covj X Y p0 p1 j))), (0, .ref m0), (1, .int p0), (2, .int p1)]) hx hb d_M_isCovered_108 hl (by decide) rfl (fun ls hl => ?_)
            have J_134 : ∀ v : Int32, v = er_b (er_covj X Y p0 p1 (j + 1)) → W p l e (headSpec w_M_isCovered ({ frames := 4, cells := 0, slots := 0, locals := 92 })).room s m ([.ref m0, .int p0, .int p1] : List Value).toArray below meth c s.heap [] 0 0 (MQ below (vp_Si (fun r : Int32 => r = er_b (er_cov X Y p0 p1))) ([.ref m0, .int p0, .int p1] : List Value).toArray s 0 0 (fun _ => False)) (F0 m 134 ls [.int v]) := by
              intro v hv
              subst hv
              refine lv_istore_n (lv' := [(3, .int (er_b (er_covj X Y p0 p1 (j + 1)))), (9, .int (er_b (er_own (er_ea X Y j) (er_ed X Y j)))), (8, .int ((Y (er_to X Y j)) - (Y (er_fr X Y j)))), (7, .int ((X (er_to X Y j)) - (X (er_fr X Y j)))), (5, .long (er_W X Y j p0 p1)), (4, .int (nI j)), (0, .ref m0), (1, .int p0), (2, .int p1)]) hx hb d_M_isCovered_134 rfl hl (by decide) rfl (fun ls hl => ?_)
              refine lv_iinc (v := (nI j) + 1) (lv' := [(4, .int ((nI j) + 1)), (3, .int (er_b (er_covj X Y p0 p1 (j + 1)))), (9, .int (er_b (er_own (er_ea X Y j) (er_ed X Y j)))), (8, .int ((Y (er_to X Y j)) - (Y (er_fr X Y j)))), (7, .int ((X (er_to X Y j)) - (X (er_fr X Y j)))), (5, .long (er_W X Y j p0 p1)), (0, .ref m0), (1, .int p0), (2, .int p1)]) hx hb d_M_isCovered_135 hl (k := 5) rfl (by first | rfl | decide) (by decide) rfl (fun ls hl => ?_)
              refine lv_goto (tgt := 18) hx hb d_M_isCovered_138 (by decide) ?_
              exact ihj _ (by omega) (ls := ls) (j := j + 1) (b1 := by omega) (hl := by have hl := lv_sub hl [0, 1, 6, 7, 8] rfl; rw [nI_1] at hl; exact hl) (hnj := rfl)
            refine lv_lload hx hb d_M_isCovered_110 (lv_at hl 3 rfl) ?_
            refine lv_lconst (v := 0) hx hb d_M_isCovered_112 (by decide) ?_
            refine W.lcmp hx hb d_M_isCovered_113 ?_
            refine lv_if_gt (tgt := 129) hx hb d_M_isCovered_114 (by decide) (fun c_9 => ?_) (fun c_9 => ?_)
            · rw [lg_cmp_gt] at c_9
              refine lv_iconst (v := 1) hx hb d_M_isCovered_129 (by decide) ?_
              refine lv_goto (tgt := 134) hx hb d_M_isCovered_130 (by decide) ?_
              exact J_134 _ (by simp_all [er_covj, er_in, er_b])
            · rw [lg_cmp_gt] at c_9
              refine lv_lload hx hb d_M_isCovered_117 (lv_at hl 3 rfl) ?_
              refine lv_lconst (v := 0) hx hb d_M_isCovered_119 (by decide) ?_
              refine W.lcmp hx hb d_M_isCovered_120 ?_
              refine lv_if_ne (tgt := 133) hx hb d_M_isCovered_121 (by decide) (fun c_10 => ?_) (fun c_10 => ?_)
              · rw [lg_cmp_eq] at c_10
                refine lv_iconst (v := 0) hx hb d_M_isCovered_133 (by decide) ?_
                exact J_134 _ (by simp_all [er_covj, er_in, er_b])
              · rw [lg_cmp_eq] at c_10
                refine lv_iload hx hb d_M_isCovered_124 (lv_at hl 0 rfl) ?_
                refine lv_if_eq (tgt := 133) hx hb d_M_isCovered_126 (by decide) (fun c_11 => ?_) (fun c_11 => ?_)
                · have c_11 := er_b_0.mp c_11
                  refine lv_iconst (v := 0) hx hb d_M_isCovered_133 (by decide) ?_
                  exact J_134 _ (by simp_all [er_covj, er_in, er_b])
                · have c_11 := er_b_n.mp c_11
                  refine lv_iconst (v := 1) hx hb d_M_isCovered_129 (by decide) ?_
                  refine lv_goto (tgt := 134) hx hb d_M_isCovered_130 (by decide) ?_
                  exact J_134 _ (by simp_all [er_covj, er_in, er_b])
          refine lv_iload hx hb d_M_isCovered_88 (lv_at hl 0 rfl) ?_
          refine lv_if_ne (tgt := 98) hx hb d_M_isCovered_90 (by decide) (fun c_12 => ?_) (fun c_12 => ?_)
          · refine lv_iload hx hb d_M_isCovered_98 (lv_at hl 0 rfl) ?_
            refine lv_if_ge (tgt := 107) hx hb d_M_isCovered_100 (by decide) (fun c_13 => ?_) (fun c_13 => ?_)
            · refine lv_iconst (v := 0) hx hb d_M_isCovered_107 (by decide) ?_
              exact J_108 _ (er_own_ok (by simp_all [er_ea, er_ed]))
            · refine lv_iconst (v := 1) hx hb d_M_isCovered_103 (by decide) ?_
              refine lv_goto (tgt := 108) hx hb d_M_isCovered_104 (by decide) ?_
              exact J_108 _ (er_own_ok (by simp_all [er_ea, er_ed]))
          · refine lv_iload hx hb d_M_isCovered_93 (lv_at hl 1 rfl) ?_
            refine lv_if_gt (tgt := 103) hx hb d_M_isCovered_95 (by decide) (fun c_14 => ?_) (fun c_14 => ?_)
            · refine lv_iconst (v := 1) hx hb d_M_isCovered_103 (by decide) ?_
              refine lv_goto (tgt := 108) hx hb d_M_isCovered_104 (by decide) ?_
              exact J_108 _ (er_own_ok (by simp_all [er_ea, er_ed]))
            · refine lv_iload hx hb d_M_isCovered_98 (lv_at hl 0 rfl) ?_
              refine lv_if_ge (tgt := 107) hx hb d_M_isCovered_100 (by decide) (fun c_15 => ?_) (fun c_15 => ?_)
              · refine lv_iconst (v := 0) hx hb d_M_isCovered_107 (by decide) ?_
                exact J_108 _ (er_own_ok (by simp_all [er_ea, er_ed]))
              · refine lv_iconst (v := 1) hx hb d_M_isCovered_103 (by decide) ?_
                refine lv_goto (tgt := 108) hx hb d_M_isCovered_104 (by decide) ?_
                exact J_108 _ (er_own_ok (by simp_all [er_ea, er_ed]))
  refine lv_lconst (v := 0) hx hb d_M_isCovered_4 (by decide) ?_
  refine W.lcmp hx hb d_M_isCovered_5 ?_
  refine lv_if_eq (tgt := 13) hx hb d_M_isCovered_6 (by decide) (fun c_16 => ?_) (fun c_16 => ?_)
  · rw [lg_cmp_eq] at c_16
    refine lv_iconst (v := 0) hx hb d_M_isCovered_13 (by decide) ?_
    exact J_14 _ (by simp_all [er_covj, er_b])
  · rw [lg_cmp_eq] at c_16
    refine lv_iconst (v := 1) hx hb d_M_isCovered_9 (by decide) ?_
    refine lv_goto (tgt := 14) hx hb d_M_isCovered_10 (by decide) ?_
    exact J_14 _ (by simp_all [er_covj, er_b])
end
