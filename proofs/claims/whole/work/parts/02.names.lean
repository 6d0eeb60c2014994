abbrev R_SP : String := "SweptPaths"
abbrev R_Ce : String := "SweptPaths$Cells"
abbrev R_Pl : String := "SweptPaths$Plan"
abbrev R_Po : String := "SweptPaths$Pose"
abbrev R_Ru : String := "SweptPaths$Run"
abbrev R_Se : String := "SweptPaths$Setting"
abbrev R_Sh : String := "SweptPaths$Shape"
abbrev R_Mo : String := "SweptPathsModel"
abbrev R_Di : String := "SweptPaths$Directions"
abbrev R_La : String := "SweptPathsLaw"
abbrev R_Ma : String := "java/lang/Math"
abbrev R_Ar : String := "java/util/Arrays"
abbrev R_IA : String := "java/lang/IllegalArgumentException"
abbrev R_IS : String := "java/lang/IllegalStateException"
abbrev R_law : String := "SweptPathsLaw"
def F_SP : u_T := fun k => match k with
  | 0 => ("SweptPaths", "setting", "LSweptPaths$Setting;", true)
  | 1 => ("SweptPaths", "live", "LSweptPaths$Run;", true)
  | 2 => ("SweptPaths", "trial", "LSweptPaths$Run;", true)
  | _ => ("SweptPaths", "plans", "[LSweptPaths$Plan;", true)
def t_SP : Nat → FieldType := fun k => match k with
  | 0 => .object "SweptPaths$Setting"
  | 1 => .object "SweptPaths$Run"
  | 2 => .object "SweptPaths$Run"
  | _ => .array (.object "SweptPaths$Plan")
theorem n_SP : ∀ a, a < 4 → ∀ b, b < 4 → a ≠ b → (F_SP a).2.1 ≠ (F_SP b).2.1 := by decide +kernel
theorem t_SP_ok : ∀ k, k < 4 → parseFieldDescriptor (F_SP k).2.2.1 = some (t_SP k) := by decide +kernel
theorem i_SP : ∀ w ∈ u_ws R_SP F_SP 4, w ∈ W0 := all_cons q_218 (all_cons q_220 (all_cons q_222 (all_cons q_224 (all_nil))))
def F_Ce : u_T := fun k => match k with
  | 0 => ("SweptPaths$Cells", "rows", "[J", true)
  | _ => ("SweptPaths$Cells", "count", "I", false)
def t_Ce : Nat → FieldType := fun k => match k with
  | 0 => .array .long
  | _ => .int
theorem n_Ce : ∀ a, a < 2 → ∀ b, b < 2 → a ≠ b → (F_Ce a).2.1 ≠ (F_Ce b).2.1 := by decide +kernel
theorem t_Ce_ok : ∀ k, k < 2 → parseFieldDescriptor (F_Ce k).2.2.1 = some (t_Ce k) := by decide +kernel
theorem i_Ce : ∀ w ∈ u_ws R_Ce F_Ce 2, w ∈ W0 := all_cons q_150 (all_cons q_152 (all_nil))
def F_Pl : u_T := fun k => match k with
  | 0 => ("SweptPaths$Plan", "turns", "[I", true)
  | 1 => ("SweptPaths$Plan", "steps", "[I", true)
  | 2 => ("SweptPaths$Plan", "forwards", "[Z", true)
  | _ => ("SweptPaths$Plan", "parts", "I", false)
def t_Pl : Nat → FieldType := fun k => match k with
  | 0 => .array .int
  | 1 => .array .int
  | 2 => .array .boolean
  | _ => .int
theorem n_Pl : ∀ a, a < 4 → ∀ b, b < 4 → a ≠ b → (F_Pl a).2.1 ≠ (F_Pl b).2.1 := by decide +kernel
theorem t_Pl_ok : ∀ k, k < 4 → parseFieldDescriptor (F_Pl k).2.2.1 = some (t_Pl k) := by decide +kernel
theorem i_Pl : ∀ w ∈ u_ws R_Pl F_Pl 4, w ∈ W0 := all_cons q_204 (all_cons q_206 (all_cons q_208 (all_cons q_210 (all_nil))))
def F_Po : u_T := fun k => match k with
  | 0 => ("SweptPaths$Pose", "x", "I", false)
  | 1 => ("SweptPaths$Pose", "y", "I", false)
  | 2 => ("SweptPaths$Pose", "heading", "I", false)
  | 3 => ("SweptPaths$Pose", "rest", "I", false)
  | _ => ("SweptPaths$Pose", "greatestAskew", "I", false)
def t_Po : Nat → FieldType := fun k => match k with
  | 0 => .int
  | 1 => .int
  | 2 => .int
  | 3 => .int
  | _ => .int
theorem n_Po : ∀ a, a < 5 → ∀ b, b < 5 → a ≠ b → (F_Po a).2.1 ≠ (F_Po b).2.1 := by decide +kernel
theorem t_Po_ok : ∀ k, k < 5 → parseFieldDescriptor (F_Po k).2.2.1 = some (t_Po k) := by decide +kernel
theorem i_Po : ∀ w ∈ u_ws R_Po F_Po 5, w ∈ W0 := all_cons q_130 (all_cons q_132 (all_cons q_134 (all_cons q_136 (all_cons q_138 (all_nil)))))
def F_Ru : u_T := fun k => match k with
  | 0 => ("SweptPaths$Run", "poses", "[LSweptPaths$Pose;", true)
  | 1 => ("SweptPaths$Run", "cells", "LSweptPaths$Cells;", true)
  | 2 => ("SweptPaths$Run", "made", "I", false)
  | 3 => ("SweptPaths$Run", "stuck", "Z", false)
  | 4 => ("SweptPaths$Run", "clashStep", "I", false)
  | 5 => ("SweptPaths$Run", "clashBody", "I", false)
  | 6 => ("SweptPaths$Run", "clashPole", "I", false)
  | _ => ("SweptPaths$Run", "setting", "LSweptPaths$Setting;", true)
def t_Ru : Nat → FieldType := fun k => match k with
  | 0 => .array (.object "SweptPaths$Pose")
  | 1 => .object "SweptPaths$Cells"
  | 2 => .int
  | 3 => .boolean
  | 4 => .int
  | 5 => .int
  | 6 => .int
  | _ => .object "SweptPaths$Setting"
theorem n_Ru : ∀ a, a < 8 → ∀ b, b < 8 → a ≠ b → (F_Ru a).2.1 ≠ (F_Ru b).2.1 := by decide +kernel
theorem t_Ru_ok : ∀ k, k < 8 → parseFieldDescriptor (F_Ru k).2.2.1 = some (t_Ru k) := by decide +kernel
theorem i_Ru : ∀ w ∈ u_ws R_Ru F_Ru 8, w ∈ W0 := all_cons q_171 (all_cons q_173 (all_cons q_175 (all_cons q_177 (all_cons q_179 (all_cons q_181 (all_cons q_183 (all_cons q_185 (all_nil))))))))
def F_Se : u_T := fun k => match k with
  | 0 => ("SweptPaths$Setting", "shapes", "[LSweptPaths$Shape;", true)
  | 1 => ("SweptPaths$Setting", "poleX", "[I", true)
  | 2 => ("SweptPaths$Setting", "poleY", "[I", true)
  | 3 => ("SweptPaths$Setting", "bodies", "I", false)
  | 4 => ("SweptPaths$Setting", "poles", "I", false)
  | 5 => ("SweptPaths$Setting", "startX", "I", false)
  | 6 => ("SweptPaths$Setting", "startY", "I", false)
  | 7 => ("SweptPaths$Setting", "startHeading", "I", false)
  | _ => ("SweptPaths$Setting", "stepLength", "I", false)
def t_Se : Nat → FieldType := fun k => match k with
  | 0 => .array (.object "SweptPaths$Shape")
  | 1 => .array .int
  | 2 => .array .int
  | 3 => .int
  | 4 => .int
  | 5 => .int
  | 6 => .int
  | 7 => .int
  | _ => .int
theorem n_Se : ∀ a, a < 9 → ∀ b, b < 9 → a ≠ b → (F_Se a).2.1 ≠ (F_Se b).2.1 := by decide +kernel
theorem t_Se_ok : ∀ k, k < 9 → parseFieldDescriptor (F_Se k).2.2.1 = some (t_Se k) := by decide +kernel
theorem i_Se : ∀ w ∈ u_ws R_Se F_Se 9, w ∈ W0 := all_cons q_85 (all_cons q_87 (all_cons q_89 (all_cons q_91 (all_cons q_93 (all_cons q_95 (all_cons q_97 (all_cons q_99 (all_cons q_101 (all_nil)))))))))
def F_Sh : u_T := fun k => match k with
  | 0 => ("SweptPaths$Shape", "length", "I", false)
  | 1 => ("SweptPaths$Shape", "hitch", "I", false)
  | 2 => ("SweptPaths$Shape", "front", "I", false)
  | 3 => ("SweptPaths$Shape", "rear", "I", false)
  | _ => ("SweptPaths$Shape", "half", "I", false)
def t_Sh : Nat → FieldType := fun k => match k with
  | 0 => .int
  | 1 => .int
  | 2 => .int
  | 3 => .int
  | _ => .int
theorem n_Sh : ∀ a, a < 5 → ∀ b, b < 5 → a ≠ b → (F_Sh a).2.1 ≠ (F_Sh b).2.1 := by decide +kernel
theorem t_Sh_ok : ∀ k, k < 5 → parseFieldDescriptor (F_Sh k).2.2.1 = some (t_Sh k) := by decide +kernel
theorem i_Sh : ∀ w ∈ u_ws R_Sh F_Sh 5, w ∈ W0 := all_cons q_52 (all_cons q_54 (all_cons q_56 (all_cons q_58 (all_cons q_60 (all_nil)))))
def F_Mo : u_T := fun k => match k with
  | 0 => ("SweptPathsModel", "thrown", "I", false)
  | 1 => ("SweptPathsModel", "cosines", "[I", true)
  | 2 => ("SweptPathsModel", "bodies", "I", false)
  | 3 => ("SweptPathsModel", "lengths", "[I", true)
  | 4 => ("SweptPathsModel", "hitches", "[I", true)
  | 5 => ("SweptPathsModel", "fronts", "[I", true)
  | 6 => ("SweptPathsModel", "rears", "[I", true)
  | 7 => ("SweptPathsModel", "halves", "[I", true)
  | 8 => ("SweptPathsModel", "startX", "I", false)
  | 9 => ("SweptPathsModel", "startY", "I", false)
  | 10 => ("SweptPathsModel", "startHeading", "I", false)
  | 11 => ("SweptPathsModel", "stepLength", "I", false)
  | 12 => ("SweptPathsModel", "poles", "I", false)
  | 13 => ("SweptPathsModel", "poleX", "[I", true)
  | 14 => ("SweptPathsModel", "poleY", "[I", true)
  | 15 => ("SweptPathsModel", "many", "[I", true)
  | 16 => ("SweptPathsModel", "turns", "[I", true)
  | 17 => ("SweptPathsModel", "counts", "[I", true)
  | 18 => ("SweptPathsModel", "ways", "[Z", true)
  | 19 => ("SweptPathsModel", "xs", "[I", true)
  | 20 => ("SweptPathsModel", "ys", "[I", true)
  | 21 => ("SweptPathsModel", "headings", "[I", true)
  | 22 => ("SweptPathsModel", "rests", "[I", true)
  | 23 => ("SweptPathsModel", "greatest", "[I", true)
  | 24 => ("SweptPathsModel", "made", "I", false)
  | 25 => ("SweptPathsModel", "stuck", "Z", false)
  | 26 => ("SweptPathsModel", "clashStep", "I", false)
  | 27 => ("SweptPathsModel", "clashBody", "I", false)
  | 28 => ("SweptPathsModel", "clashPole", "I", false)
  | 29 => ("SweptPathsModel", "cells", "I", false)
  | 30 => ("SweptPathsModel", "swept", "[Z", true)
  | 31 => ("SweptPathsModel", "asideNumbers", "[I", true)
  | _ => ("SweptPathsModel", "asideCells", "[Z", true)
def t_Mo : Nat → FieldType := fun k => match k with
  | 0 => .int
  | 1 => .array .int
  | 2 => .int
  | 3 => .array .int
  | 4 => .array .int
  | 5 => .array .int
  | 6 => .array .int
  | 7 => .array .int
  | 8 => .int
  | 9 => .int
  | 10 => .int
  | 11 => .int
  | 12 => .int
  | 13 => .array .int
  | 14 => .array .int
  | 15 => .array .int
  | 16 => .array .int
  | 17 => .array .int
  | 18 => .array .boolean
  | 19 => .array .int
  | 20 => .array .int
  | 21 => .array .int
  | 22 => .array .int
  | 23 => .array .int
  | 24 => .int
  | 25 => .boolean
  | 26 => .int
  | 27 => .int
  | 28 => .int
  | 29 => .int
  | 30 => .array .boolean
  | 31 => .array .int
  | _ => .array .boolean
theorem n_Mo : ∀ a, a < 33 → ∀ b, b < 33 → a ≠ b → (F_Mo a).2.1 ≠ (F_Mo b).2.1 := by decide +kernel
theorem t_Mo_ok : ∀ k, k < 33 → parseFieldDescriptor (F_Mo k).2.2.1 = some (t_Mo k) := by decide +kernel
theorem i_Mo : ∀ w ∈ u_ws R_Mo F_Mo 33, w ∈ W0 := all_cons q_583 (all_cons q_585 (all_cons q_587 (all_cons q_589 (all_cons q_591 (all_cons q_593 (all_cons q_595 (all_cons q_597 (all_cons q_599 (all_cons q_601 (all_cons q_603 (all_cons q_605 (all_cons q_607 (all_cons q_609 (all_cons q_611 (all_cons q_613 (all_cons q_615 (all_cons q_617 (all_cons q_619 (all_cons q_621 (all_cons q_623 (all_cons q_625 (all_cons q_627 (all_cons q_629 (all_cons q_631 (all_cons q_633 (all_cons q_635 (all_cons q_637 (all_cons q_639 (all_cons q_641 (all_cons q_643 (all_cons q_645 (all_cons q_647 (all_nil)))))))))))))))))))))))))))))))))
abbrev classes : List vw_C := [(R_SP, F_SP, 4), (R_Ce, F_Ce, 2), (R_Pl, F_Pl, 4), (R_Po, F_Po, 5), (R_Ru, F_Ru, 8), (R_Se, F_Se, 9), (R_Sh, F_Sh, 5), (R_Mo, F_Mo, 33)]
abbrev b_SP_init : ByteArray := prog_1_method_1_code
abbrev y_SP_init : MethodName := { cls := "SweptPaths", name := "<init>", desc := "()V" }
abbrev b_SP_body : ByteArray := prog_1_method_2_code
abbrev y_SP_body : MethodName := { cls := "SweptPaths", name := "body", desc := "(IIIII)I" }
abbrev b_SP_start : ByteArray := prog_1_method_3_code
abbrev y_SP_start : MethodName := { cls := "SweptPaths", name := "start", desc := "(III)V" }
abbrev b_SP_step : ByteArray := prog_1_method_4_code
abbrev y_SP_step : MethodName := { cls := "SweptPaths", name := "step", desc := "(I)I" }
abbrev b_SP_pole : ByteArray := prog_1_method_5_code
abbrev y_SP_pole : MethodName := { cls := "SweptPaths", name := "pole", desc := "(II)I" }
abbrev b_SP_go : ByteArray := prog_1_method_6_code
abbrev y_SP_go : MethodName := { cls := "SweptPaths", name := "go", desc := "(IIZ)I" }
abbrev b_SP_told : ByteArray := prog_1_method_7_code
abbrev y_SP_told : MethodName := { cls := "SweptPaths", name := "told", desc := "(II)I" }
abbrev b_SP_corner : ByteArray := prog_1_method_8_code
abbrev y_SP_corner : MethodName := { cls := "SweptPaths", name := "corner", desc := "(III)I" }
abbrev b_SP_swept : ByteArray := prog_1_method_9_code
abbrev y_SP_swept : MethodName := { cls := "SweptPaths", name := "swept", desc := "()I" }
abbrev b_SP_cell : ByteArray := prog_1_method_10_code
abbrev y_SP_cell : MethodName := { cls := "SweptPaths", name := "cell", desc := "(II)Z" }
abbrev b_SP_clash : ByteArray := prog_1_method_11_code
abbrev y_SP_clash : MethodName := { cls := "SweptPaths", name := "clash", desc := "(I)I" }
abbrev b_SP_isStuck : ByteArray := prog_1_method_12_code
abbrev y_SP_isStuck : MethodName := { cls := "SweptPaths", name := "isStuck", desc := "()Z" }
abbrev b_SP_part : ByteArray := prog_1_method_13_code
abbrev y_SP_part : MethodName := { cls := "SweptPaths", name := "part", desc := "(IIIZ)I" }
abbrev b_SP_clear : ByteArray := prog_1_method_14_code
abbrev y_SP_clear : MethodName := { cls := "SweptPaths", name := "clear", desc := "(I)I" }
abbrev b_SP_best : ByteArray := prog_1_method_15_code
abbrev y_SP_best : MethodName := { cls := "SweptPaths", name := "best", desc := "()I" }
abbrev b_SP_sweeps : ByteArray := prog_1_method_16_code
abbrev y_SP_sweeps : MethodName := { cls := "SweptPaths", name := "sweeps", desc := "(I)I" }
abbrev b_SP_demandWithin : ByteArray := prog_1_method_17_code
abbrev y_SP_demandWithin : MethodName := { cls := "SweptPaths", name := "demandWithin", desc := "(III)V" }
abbrev b_SP_demandSomeBody : ByteArray := prog_1_method_18_code
abbrev y_SP_demandSomeBody : MethodName := { cls := "SweptPaths", name := "demandSomeBody", desc := "()V" }
abbrev b_Mo_init : ByteArray := prog_10_method_1_code
abbrev y_Mo_init : MethodName := { cls := "SweptPathsModel", name := "<init>", desc := "()V" }
abbrev b_Mo_thrown : ByteArray := prog_10_method_2_code
abbrev y_Mo_thrown : MethodName := { cls := "SweptPathsModel", name := "thrown", desc := "()I" }
abbrev b_Mo_in : ByteArray := prog_10_method_3_code
abbrev y_Mo_in : MethodName := { cls := "SweptPathsModel", name := "in", desc := "(III)Z" }
abbrev b_Mo_dx : ByteArray := prog_10_method_4_code
abbrev y_Mo_dx : MethodName := { cls := "SweptPathsModel", name := "dx", desc := "(I)I" }
abbrev b_Mo_dy : ByteArray := prog_10_method_5_code
abbrev y_Mo_dy : MethodName := { cls := "SweptPathsModel", name := "dy", desc := "(I)I" }
abbrev b_Mo_wrapped : ByteArray := prog_10_method_6_code
abbrev y_Mo_wrapped : MethodName := { cls := "SweptPathsModel", name := "wrapped", desc := "(I)I" }
abbrev b_Mo_askewOf : ByteArray := prog_10_method_7_code
abbrev y_Mo_askewOf : MethodName := { cls := "SweptPathsModel", name := "askewOf", desc := "(I)I" }
abbrev b_Mo_hang : ByteArray := prog_10_method_8_code
abbrev y_Mo_hang : MethodName := { cls := "SweptPathsModel", name := "hang", desc := "(I)V" }
abbrev b_Mo_covers : ByteArray := prog_10_method_9_code
abbrev y_Mo_covers : MethodName := { cls := "SweptPathsModel", name := "covers", desc := "(III)Z" }
abbrev b_Mo_cellOf : ByteArray := prog_10_method_10_code
abbrev y_Mo_cellOf : MethodName := { cls := "SweptPathsModel", name := "cellOf", desc := "(I)I" }
abbrev b_Mo_down : ByteArray := prog_10_method_11_code
abbrev y_Mo_down : MethodName := { cls := "SweptPathsModel", name := "down", desc := "(II)I" }
abbrev b_Mo_within : ByteArray := prog_10_method_12_code
abbrev y_Mo_within : MethodName := { cls := "SweptPathsModel", name := "within", desc := "(I)I" }
abbrev b_Mo_look : ByteArray := prog_10_method_13_code
abbrev y_Mo_look : MethodName := { cls := "SweptPathsModel", name := "look", desc := "()V" }
abbrev b_Mo_beginAnew : ByteArray := prog_10_method_14_code
abbrev y_Mo_beginAnew : MethodName := { cls := "SweptPathsModel", name := "beginAnew", desc := "()V" }
abbrev b_Mo_move : ByteArray := prog_10_method_15_code
abbrev y_Mo_move : MethodName := { cls := "SweptPathsModel", name := "move", desc := "(IZ)V" }
abbrev b_Mo_goOn : ByteArray := prog_10_method_16_code
abbrev y_Mo_goOn : MethodName := { cls := "SweptPathsModel", name := "goOn", desc := "(IIZ)V" }
abbrev b_Mo_body : ByteArray := prog_10_method_17_code
abbrev y_Mo_body : MethodName := { cls := "SweptPathsModel", name := "body", desc := "(IIIII)I" }
abbrev b_Mo_start : ByteArray := prog_10_method_18_code
abbrev y_Mo_start : MethodName := { cls := "SweptPathsModel", name := "start", desc := "(III)V" }
abbrev b_Mo_step : ByteArray := prog_10_method_19_code
abbrev y_Mo_step : MethodName := { cls := "SweptPathsModel", name := "step", desc := "(I)I" }
abbrev b_Mo_pole : ByteArray := prog_10_method_20_code
abbrev y_Mo_pole : MethodName := { cls := "SweptPathsModel", name := "pole", desc := "(II)I" }
abbrev b_Mo_go : ByteArray := prog_10_method_21_code
abbrev y_Mo_go : MethodName := { cls := "SweptPathsModel", name := "go", desc := "(IIZ)I" }
abbrev b_Mo_told : ByteArray := prog_10_method_22_code
abbrev y_Mo_told : MethodName := { cls := "SweptPathsModel", name := "told", desc := "(II)I" }
abbrev b_Mo_corner : ByteArray := prog_10_method_23_code
abbrev y_Mo_corner : MethodName := { cls := "SweptPathsModel", name := "corner", desc := "(III)I" }
abbrev b_Mo_swept : ByteArray := prog_10_method_24_code
abbrev y_Mo_swept : MethodName := { cls := "SweptPathsModel", name := "swept", desc := "()I" }
abbrev b_Mo_cell : ByteArray := prog_10_method_25_code
abbrev y_Mo_cell : MethodName := { cls := "SweptPathsModel", name := "cell", desc := "(II)Z" }
abbrev b_Mo_clash : ByteArray := prog_10_method_26_code
abbrev y_Mo_clash : MethodName := { cls := "SweptPathsModel", name := "clash", desc := "(I)I" }
abbrev b_Mo_isStuck : ByteArray := prog_10_method_27_code
abbrev y_Mo_isStuck : MethodName := { cls := "SweptPathsModel", name := "isStuck", desc := "()Z" }
abbrev b_Mo_part : ByteArray := prog_10_method_28_code
abbrev y_Mo_part : MethodName := { cls := "SweptPathsModel", name := "part", desc := "(IIIZ)I" }
abbrev b_Mo_clear : ByteArray := prog_10_method_29_code
abbrev y_Mo_clear : MethodName := { cls := "SweptPathsModel", name := "clear", desc := "(I)I" }
abbrev b_Mo_keepAside : ByteArray := prog_10_method_30_code
abbrev y_Mo_keepAside : MethodName := { cls := "SweptPathsModel", name := "keepAside", desc := "()V" }
abbrev b_Mo_putBack : ByteArray := prog_10_method_31_code
abbrev y_Mo_putBack : MethodName := { cls := "SweptPathsModel", name := "putBack", desc := "()V" }
abbrev b_Mo_goPlan : ByteArray := prog_10_method_32_code
abbrev y_Mo_goPlan : MethodName := { cls := "SweptPathsModel", name := "goPlan", desc := "(I)V" }
abbrev b_Mo_best : ByteArray := prog_10_method_33_code
abbrev y_Mo_best : MethodName := { cls := "SweptPathsModel", name := "best", desc := "()I" }
abbrev b_Mo_sweeps : ByteArray := prog_10_method_34_code
abbrev y_Mo_sweeps : MethodName := { cls := "SweptPathsModel", name := "sweeps", desc := "(I)I" }
abbrev b_Ce_init : ByteArray := prog_2_method_1_code
abbrev y_Ce_init : MethodName := { cls := "SweptPaths$Cells", name := "<init>", desc := "()V" }
abbrev b_Ce_wipe : ByteArray := prog_2_method_2_code
abbrev y_Ce_wipe : MethodName := { cls := "SweptPaths$Cells", name := "wipe", desc := "()V" }
abbrev b_Ce_has : ByteArray := prog_2_method_3_code
abbrev y_Ce_has : MethodName := { cls := "SweptPaths$Cells", name := "has", desc := "(II)Z" }
abbrev b_Ce_cover : ByteArray := prog_2_method_4_code
abbrev y_Ce_cover : MethodName := { cls := "SweptPaths$Cells", name := "cover", desc := "(LSweptPaths$Shape;LSweptPaths$Pose;)V" }
abbrev b_Ce_mark : ByteArray := prog_2_method_5_code
abbrev y_Ce_mark : MethodName := { cls := "SweptPaths$Cells", name := "mark", desc := "(II)V" }
abbrev b_Ce_middleOf : ByteArray := prog_2_method_6_code
abbrev y_Ce_middleOf : MethodName := { cls := "SweptPaths$Cells", name := "middleOf", desc := "(I)I" }
abbrev b_Ce_firstFrom : ByteArray := prog_2_method_7_code
abbrev y_Ce_firstFrom : MethodName := { cls := "SweptPaths$Cells", name := "firstFrom", desc := "(I)I" }
abbrev b_Ce_lastUpTo : ByteArray := prog_2_method_8_code
abbrev y_Ce_lastUpTo : MethodName := { cls := "SweptPaths$Cells", name := "lastUpTo", desc := "(I)I" }
abbrev b_Di_round : ByteArray := prog_3_method_2_code
abbrev y_Di_round : MethodName := { cls := "SweptPaths$Directions", name := "round", desc := "(I)I" }
abbrev b_Di_dx : ByteArray := prog_3_method_3_code
abbrev y_Di_dx : MethodName := { cls := "SweptPaths$Directions", name := "dx", desc := "(I)I" }
abbrev b_Di_dy : ByteArray := prog_3_method_4_code
abbrev y_Di_dy : MethodName := { cls := "SweptPaths$Directions", name := "dy", desc := "(I)I" }
abbrev b_Di_askew : ByteArray := prog_3_method_5_code
abbrev y_Di_askew : MethodName := { cls := "SweptPaths$Directions", name := "askew", desc := "(II)I" }
abbrev b_Pl_init : ByteArray := prog_4_method_1_code
abbrev y_Pl_init : MethodName := { cls := "SweptPaths$Plan", name := "<init>", desc := "()V" }
abbrev b_Pl_add : ByteArray := prog_4_method_2_code
abbrev y_Pl_add : MethodName := { cls := "SweptPaths$Plan", name := "add", desc := "(IIZ)Z" }
abbrev b_Po_init : ByteArray := prog_5_method_1_code
abbrev y_Po_init : MethodName := { cls := "SweptPaths$Pose", name := "<init>", desc := "()V" }
abbrev b_Ru_init : ByteArray := prog_6_method_1_code
abbrev y_Ru_init : MethodName := { cls := "SweptPaths$Run", name := "<init>", desc := "(LSweptPaths$Setting;)V" }
abbrev b_Ru_begin : ByteArray := prog_6_method_2_code
abbrev y_Ru_begin : MethodName := { cls := "SweptPaths$Run", name := "begin", desc := "()V" }
abbrev b_Ru_follow : ByteArray := prog_6_method_3_code
abbrev y_Ru_follow : MethodName := { cls := "SweptPaths$Run", name := "follow", desc := "(LSweptPaths$Plan;)V" }
abbrev b_Ru_walk : ByteArray := prog_6_method_4_code
abbrev y_Ru_walk : MethodName := { cls := "SweptPaths$Run", name := "walk", desc := "(IIZ)V" }
abbrev b_Ru_isFaultless : ByteArray := prog_6_method_5_code
abbrev y_Ru_isFaultless : MethodName := { cls := "SweptPaths$Run", name := "isFaultless", desc := "()Z" }
abbrev b_Ru_askewOf : ByteArray := prog_6_method_6_code
abbrev y_Ru_askewOf : MethodName := { cls := "SweptPaths$Run", name := "askewOf", desc := "(I)I" }
abbrev b_Ru_move : ByteArray := prog_6_method_7_code
abbrev y_Ru_move : MethodName := { cls := "SweptPaths$Run", name := "move", desc := "(II)V" }
abbrev b_Ru_swing : ByteArray := prog_6_method_8_code
abbrev y_Ru_swing : MethodName := { cls := "SweptPaths$Run", name := "swing", desc := "(II)V" }
abbrev b_Ru_placeTrailers : ByteArray := prog_6_method_9_code
abbrev y_Ru_placeTrailers : MethodName := { cls := "SweptPaths$Run", name := "placeTrailers", desc := "()V" }
abbrev b_Ru_measureAskew : ByteArray := prog_6_method_10_code
abbrev y_Ru_measureAskew : MethodName := { cls := "SweptPaths$Run", name := "measureAskew", desc := "()V" }
abbrev b_Ru_lookRound : ByteArray := prog_6_method_11_code
abbrev y_Ru_lookRound : MethodName := { cls := "SweptPaths$Run", name := "lookRound", desc := "()V" }
abbrev b_Ru_lookForPoles : ByteArray := prog_6_method_12_code
abbrev y_Ru_lookForPoles : MethodName := { cls := "SweptPaths$Run", name := "lookForPoles", desc := "(I)V" }
abbrev b_Se_init : ByteArray := prog_7_method_1_code
abbrev y_Se_init : MethodName := { cls := "SweptPaths$Setting", name := "<init>", desc := "()V" }
abbrev b_Sh_init : ByteArray := prog_8_method_1_code
abbrev y_Sh_init : MethodName := { cls := "SweptPaths$Shape", name := "<init>", desc := "()V" }
abbrev b_Sh_holds : ByteArray := prog_8_method_2_code
abbrev y_Sh_holds : MethodName := { cls := "SweptPaths$Shape", name := "holds", desc := "(JJ)Z" }
abbrev b_Sh_directionsIn : ByteArray := prog_8_method_3_code
abbrev y_Sh_directionsIn : MethodName := { cls := "SweptPaths$Shape", name := "directionsIn", desc := "(I)I" }
abbrev b_La_body : ByteArray := method_3_code
abbrev y_La_body : MethodName := { cls := "SweptPathsLaw", name := "body", desc := "(LSweptPaths;IIIII[J)I" }
abbrev b_La_start : ByteArray := method_4_code
abbrev y_La_start : MethodName := { cls := "SweptPathsLaw", name := "start", desc := "(LSweptPaths;III)I" }
abbrev b_La_step : ByteArray := method_5_code
abbrev y_La_step : MethodName := { cls := "SweptPathsLaw", name := "step", desc := "(LSweptPaths;I[J)I" }
abbrev b_La_pole : ByteArray := method_6_code
abbrev y_La_pole : MethodName := { cls := "SweptPathsLaw", name := "pole", desc := "(LSweptPaths;II[J)I" }
abbrev b_La_go : ByteArray := method_7_code
abbrev y_La_go : MethodName := { cls := "SweptPathsLaw", name := "go", desc := "(LSweptPaths;IIZ[J)I" }
abbrev b_La_told : ByteArray := method_8_code
abbrev y_La_told : MethodName := { cls := "SweptPathsLaw", name := "told", desc := "(LSweptPaths;II[J)I" }
abbrev b_La_corner : ByteArray := method_9_code
abbrev y_La_corner : MethodName := { cls := "SweptPathsLaw", name := "corner", desc := "(LSweptPaths;III[J)I" }
abbrev b_La_cell_LPIIaJ : ByteArray := method_10_code
abbrev y_La_cell_LPIIaJ : MethodName := { cls := "SweptPathsLaw", name := "cell", desc := "(LSweptPaths;II[J)I" }
abbrev b_La_clash : ByteArray := method_11_code
abbrev y_La_clash : MethodName := { cls := "SweptPathsLaw", name := "clash", desc := "(LSweptPaths;I[J)I" }
abbrev b_La_part : ByteArray := method_12_code
abbrev y_La_part : MethodName := { cls := "SweptPathsLaw", name := "part", desc := "(LSweptPaths;IIIZ[J)I" }
abbrev b_La_clear : ByteArray := method_13_code
abbrev y_La_clear : MethodName := { cls := "SweptPathsLaw", name := "clear", desc := "(LSweptPaths;I[J)I" }
abbrev b_La_best : ByteArray := method_14_code
abbrev y_La_best : MethodName := { cls := "SweptPathsLaw", name := "best", desc := "(LSweptPaths;[J)I" }
abbrev b_La_sweeps : ByteArray := method_15_code
abbrev y_La_sweeps : MethodName := { cls := "SweptPathsLaw", name := "sweeps", desc := "(LSweptPaths;I[J)I" }
abbrev b_La_law : ByteArray := code
abbrev y_La_law : MethodName := { cls := "SweptPathsLaw", name := "law", desc := "([I)Z" }
abbrev b_Ob_init : ByteArray := object_method_1_code
abbrev y_Ob_init : MethodName := { cls := "java/lang/Object", name := "<init>", desc := "()V" }
abbrev b_Ex_init : ByteArray := prog_11_method_2_code
abbrev y_Ex_init : MethodName := { cls := "java/lang/Exception", name := "<init>", desc := "(Ljava/lang/String;)V" }
abbrev b_IA_init : ByteArray := prog_12_method_2_code
abbrev y_IA_init : MethodName := { cls := "java/lang/IllegalArgumentException", name := "<init>", desc := "(Ljava/lang/String;)V" }
abbrev b_IS_init : ByteArray := prog_13_method_2_code
abbrev y_IS_init : MethodName := { cls := "java/lang/IllegalStateException", name := "<init>", desc := "(Ljava/lang/String;)V" }
abbrev b_Ma_abs : ByteArray := prog_14_method_59_code
abbrev y_Ma_abs : MethodName := { cls := "java/lang/Math", name := "abs", desc := "(I)I" }
abbrev b_Ma_floorDiv : ByteArray := prog_14_method_47_code
abbrev y_Ma_floorDiv : MethodName := { cls := "java/lang/Math", name := "floorDiv", desc := "(II)I" }
abbrev b_Ma_max : ByteArray := prog_14_method_65_code
abbrev y_Ma_max : MethodName := { cls := "java/lang/Math", name := "max", desc := "(II)I" }
abbrev b_Ma_min : ByteArray := prog_14_method_69_code
abbrev y_Ma_min : MethodName := { cls := "java/lang/Math", name := "min", desc := "(II)I" }
abbrev b_Rt_init : ByteArray := prog_15_method_2_code
abbrev y_Rt_init : MethodName := { cls := "java/lang/RuntimeException", name := "<init>", desc := "(Ljava/lang/String;)V" }
abbrev b_Th_init : ByteArray := prog_17_method_2_code
abbrev y_Th_init : MethodName := { cls := "java/lang/Throwable", name := "<init>", desc := "(Ljava/lang/String;)V" }
abbrev b_Ar_fill : ByteArray := prog_18_method_101_code
abbrev y_Ar_fill : MethodName := { cls := "java/util/Arrays", name := "fill", desc := "([JJ)V" }
