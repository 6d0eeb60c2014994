section
-- ===== PART A: goes FIRST, ahead of the names: the tables' words, and 'selects' of the private methods out of them =====
/-- a private method of a class that the tables say can be made, by its rows of tables_1 -/
def lw_okq (q : MethodName × Nat) : Prop := (q.1.cls ≠ "java/lang/invoke/MethodHandle" ∧ q.1.cls ≠ "java/lang/invoke/VarHandle") ∧ Cond.instantiable q.1.cls q.2 ∈ tables_1 ∧ Cond.privateMethod q.1 ∈ tables_1 ∧ Cond.instanceMethod q.1 ∈ tables_1
theorem lw_p0 : lw_okq (⟨"java/lang/Throwable", "fillInStackTrace", "(I)Ljava/lang/Throwable;"⟩, 6) := ⟨⟨by decide +kernel, by decide +kernel⟩, List.mem_of_getElem? (i := 285) (by decide +kernel), List.mem_of_getElem? (i := 283) (by decide +kernel), List.mem_of_getElem? (i := 284) (by decide +kernel)⟩
theorem lw_p1 : lw_okq (⟨"SweptPaths$Run", "placeTrailers", "()V"⟩, 8) := ⟨⟨by decide +kernel, by decide +kernel⟩, List.mem_of_getElem? (i := 106) (by decide +kernel), List.mem_of_getElem? (i := 342) (by decide +kernel), List.mem_of_getElem? (i := 343) (by decide +kernel)⟩
theorem lw_p2 : lw_okq (⟨"SweptPaths$Run", "lookRound", "()V"⟩, 8) := ⟨⟨by decide +kernel, by decide +kernel⟩, List.mem_of_getElem? (i := 106) (by decide +kernel), List.mem_of_getElem? (i := 354) (by decide +kernel), List.mem_of_getElem? (i := 355) (by decide +kernel)⟩
theorem lw_p3 : lw_okq (⟨"SweptPaths$Cells", "mark", "(II)V"⟩, 2) := ⟨⟨by decide +kernel, by decide +kernel⟩, List.mem_of_getElem? (i := 142) (by decide +kernel), List.mem_of_getElem? (i := 391) (by decide +kernel), List.mem_of_getElem? (i := 392) (by decide +kernel)⟩
theorem lw_p4 : lw_okq (⟨"SweptPaths$Run", "lookForPoles", "(I)V"⟩, 8) := ⟨⟨by decide +kernel, by decide +kernel⟩, List.mem_of_getElem? (i := 106) (by decide +kernel), List.mem_of_getElem? (i := 396) (by decide +kernel), List.mem_of_getElem? (i := 397) (by decide +kernel)⟩
theorem lw_p5 : lw_okq (⟨"SweptPaths", "demandSomeBody", "()V"⟩, 4) := ⟨⟨by decide +kernel, by decide +kernel⟩, List.mem_of_getElem? (i := 18) (by decide +kernel), List.mem_of_getElem? (i := 430) (by decide +kernel), List.mem_of_getElem? (i := 431) (by decide +kernel)⟩
theorem lw_p6 : lw_okq (⟨"SweptPaths$Run", "move", "(II)V"⟩, 8) := ⟨⟨by decide +kernel, by decide +kernel⟩, List.mem_of_getElem? (i := 106) (by decide +kernel), List.mem_of_getElem? (i := 439) (by decide +kernel), List.mem_of_getElem? (i := 440) (by decide +kernel)⟩
theorem lw_p7 : lw_okq (⟨"SweptPaths$Run", "swing", "(II)V"⟩, 8) := ⟨⟨by decide +kernel, by decide +kernel⟩, List.mem_of_getElem? (i := 106) (by decide +kernel), List.mem_of_getElem? (i := 446) (by decide +kernel), List.mem_of_getElem? (i := 447) (by decide +kernel)⟩
theorem lw_p8 : lw_okq (⟨"SweptPaths$Run", "measureAskew", "()V"⟩, 8) := ⟨⟨by decide +kernel, by decide +kernel⟩, List.mem_of_getElem? (i := 106) (by decide +kernel), List.mem_of_getElem? (i := 461) (by decide +kernel), List.mem_of_getElem? (i := 462) (by decide +kernel)⟩
theorem lw_p9 : lw_okq (⟨"SweptPathsModel", "beginAnew", "()V"⟩, 33) := ⟨⟨by decide +kernel, by decide +kernel⟩, List.mem_of_getElem? (i := 545) (by decide +kernel), List.mem_of_getElem? (i := 662) (by decide +kernel), List.mem_of_getElem? (i := 663) (by decide +kernel)⟩
theorem lw_p10 : lw_okq (⟨"SweptPathsModel", "hang", "(I)V"⟩, 33) := ⟨⟨by decide +kernel, by decide +kernel⟩, List.mem_of_getElem? (i := 545) (by decide +kernel), List.mem_of_getElem? (i := 666) (by decide +kernel), List.mem_of_getElem? (i := 667) (by decide +kernel)⟩
theorem lw_p11 : lw_okq (⟨"SweptPathsModel", "dx", "(I)I"⟩, 33) := ⟨⟨by decide +kernel, by decide +kernel⟩, List.mem_of_getElem? (i := 545) (by decide +kernel), List.mem_of_getElem? (i := 670) (by decide +kernel), List.mem_of_getElem? (i := 671) (by decide +kernel)⟩
theorem lw_p12 : lw_okq (⟨"SweptPathsModel", "dy", "(I)I"⟩, 33) := ⟨⟨by decide +kernel, by decide +kernel⟩, List.mem_of_getElem? (i := 545) (by decide +kernel), List.mem_of_getElem? (i := 674) (by decide +kernel), List.mem_of_getElem? (i := 675) (by decide +kernel)⟩
theorem lw_p13 : lw_okq (⟨"SweptPathsModel", "look", "()V"⟩, 33) := ⟨⟨by decide +kernel, by decide +kernel⟩, List.mem_of_getElem? (i := 545) (by decide +kernel), List.mem_of_getElem? (i := 678) (by decide +kernel), List.mem_of_getElem? (i := 679) (by decide +kernel)⟩
theorem lw_p14 : lw_okq (⟨"SweptPathsModel", "covers", "(III)Z"⟩, 33) := ⟨⟨by decide +kernel, by decide +kernel⟩, List.mem_of_getElem? (i := 545) (by decide +kernel), List.mem_of_getElem? (i := 691) (by decide +kernel), List.mem_of_getElem? (i := 692) (by decide +kernel)⟩
theorem lw_p15 : lw_okq (⟨"SweptPathsModel", "goOn", "(IIZ)V"⟩, 33) := ⟨⟨by decide +kernel, by decide +kernel⟩, List.mem_of_getElem? (i := 545) (by decide +kernel), List.mem_of_getElem? (i := 712) (by decide +kernel), List.mem_of_getElem? (i := 713) (by decide +kernel)⟩
def lw_privs_1 : List (MethodName × Nat) := [(⟨"java/lang/Throwable", "fillInStackTrace", "(I)Ljava/lang/Throwable;"⟩, 6), (⟨"SweptPaths$Run", "placeTrailers", "()V"⟩, 8), (⟨"SweptPaths$Run", "lookRound", "()V"⟩, 8), (⟨"SweptPaths$Cells", "mark", "(II)V"⟩, 2), (⟨"SweptPaths$Run", "lookForPoles", "(I)V"⟩, 8), (⟨"SweptPaths", "demandSomeBody", "()V"⟩, 4), (⟨"SweptPaths$Run", "move", "(II)V"⟩, 8), (⟨"SweptPaths$Run", "swing", "(II)V"⟩, 8), (⟨"SweptPaths$Run", "measureAskew", "()V"⟩, 8), (⟨"SweptPathsModel", "beginAnew", "()V"⟩, 33), (⟨"SweptPathsModel", "hang", "(I)V"⟩, 33), (⟨"SweptPathsModel", "dx", "(I)I"⟩, 33), (⟨"SweptPathsModel", "dy", "(I)I"⟩, 33), (⟨"SweptPathsModel", "look", "()V"⟩, 33), (⟨"SweptPathsModel", "covers", "(III)Z"⟩, 33), (⟨"SweptPathsModel", "goOn", "(IIZ)V"⟩, 33)]
theorem lw_r1 : ∀ q ∈ lw_privs_1, lw_okq q := List.forall_mem_cons.mpr ⟨lw_p0, List.forall_mem_cons.mpr ⟨lw_p1, List.forall_mem_cons.mpr ⟨lw_p2, List.forall_mem_cons.mpr ⟨lw_p3, List.forall_mem_cons.mpr ⟨lw_p4, List.forall_mem_cons.mpr ⟨lw_p5, List.forall_mem_cons.mpr ⟨lw_p6, List.forall_mem_cons.mpr ⟨lw_p7, List.forall_mem_cons.mpr ⟨lw_p8, List.forall_mem_cons.mpr ⟨lw_p9, List.forall_mem_cons.mpr ⟨lw_p10, List.forall_mem_cons.mpr ⟨lw_p11, List.forall_mem_cons.mpr ⟨lw_p12, List.forall_mem_cons.mpr ⟨lw_p13, List.forall_mem_cons.mpr ⟨lw_p14, List.forall_mem_cons.mpr ⟨lw_p15, fun _ h => absurd h List.not_mem_nil⟩⟩⟩⟩⟩⟩⟩⟩⟩⟩⟩⟩⟩⟩⟩⟩
theorem lw_p16 : lw_okq (⟨"SweptPathsModel", "move", "(IZ)V"⟩, 33) := ⟨⟨by decide +kernel, by decide +kernel⟩, List.mem_of_getElem? (i := 545) (by decide +kernel), List.mem_of_getElem? (i := 716) (by decide +kernel), List.mem_of_getElem? (i := 717) (by decide +kernel)⟩
theorem lw_p17 : lw_okq (⟨"SweptPathsModel", "askewOf", "(I)I"⟩, 33) := ⟨⟨by decide +kernel, by decide +kernel⟩, List.mem_of_getElem? (i := 545) (by decide +kernel), List.mem_of_getElem? (i := 720) (by decide +kernel), List.mem_of_getElem? (i := 721) (by decide +kernel)⟩
theorem lw_p18 : lw_okq (⟨"SweptPathsModel", "keepAside", "()V"⟩, 33) := ⟨⟨by decide +kernel, by decide +kernel⟩, List.mem_of_getElem? (i := 545) (by decide +kernel), List.mem_of_getElem? (i := 763) (by decide +kernel), List.mem_of_getElem? (i := 764) (by decide +kernel)⟩
theorem lw_p19 : lw_okq (⟨"SweptPathsModel", "goPlan", "(I)V"⟩, 33) := ⟨⟨by decide +kernel, by decide +kernel⟩, List.mem_of_getElem? (i := 545) (by decide +kernel), List.mem_of_getElem? (i := 767) (by decide +kernel), List.mem_of_getElem? (i := 768) (by decide +kernel)⟩
theorem lw_p20 : lw_okq (⟨"SweptPathsModel", "putBack", "()V"⟩, 33) := ⟨⟨by decide +kernel, by decide +kernel⟩, List.mem_of_getElem? (i := 545) (by decide +kernel), List.mem_of_getElem? (i := 771) (by decide +kernel), List.mem_of_getElem? (i := 772) (by decide +kernel)⟩
def lw_privs_2 : List (MethodName × Nat) := [(⟨"SweptPathsModel", "move", "(IZ)V"⟩, 33), (⟨"SweptPathsModel", "askewOf", "(I)I"⟩, 33), (⟨"SweptPathsModel", "keepAside", "()V"⟩, 33), (⟨"SweptPathsModel", "goPlan", "(I)V"⟩, 33), (⟨"SweptPathsModel", "putBack", "()V"⟩, 33)]
theorem lw_r2 : ∀ q ∈ lw_privs_2, lw_okq q := List.forall_mem_cons.mpr ⟨lw_p16, List.forall_mem_cons.mpr ⟨lw_p17, List.forall_mem_cons.mpr ⟨lw_p18, List.forall_mem_cons.mpr ⟨lw_p19, List.forall_mem_cons.mpr ⟨lw_p20, fun _ h => absurd h List.not_mem_nil⟩⟩⟩⟩⟩
def lw_privs : List (MethodName × Nat) := lw_privs_1 ++ (lw_privs_2)
def lw_tbl : List Cond := k2_sels lw_privs ++ tables_1
theorem lw_privs_ok : ∀ q ∈ lw_privs, lw_okq q := by
  show ∀ q ∈ lw_privs_1 ++ (lw_privs_2), lw_okq q
  exact List.forall_mem_append.mpr ⟨lw_r1, lw_r2⟩

/-- the tables' words that a call carries on -/
def W0 : List Cond := lw_tbl.filter goodWord
theorem W0_tab {w : Cond} (i : Nat) (h : tables_1[i]? = some w) (g : goodWord w = true) : w ∈ W0 := List.mem_filter.mpr ⟨List.mem_append_right _ (List.mem_of_getElem? h), g⟩
theorem W0_sel {w : Cond} (i : Nat) (h : (k2_sels lw_privs)[i]? = some w) (g : goodWord w = true) : w ∈ W0 := List.mem_filter.mpr ⟨List.mem_append_left _ (List.mem_of_getElem? h), g⟩
theorem W0_in : ∀ w ∈ W0, w ∈ lw_tbl := fun _ h => (List.mem_filter.mp h).1
theorem W0_good : GoodIn W0 W0 := fun _ h => ⟨h, good_of_word (List.mem_filter.mp h).2⟩
theorem W0_goodL {l : List Cond} (h : ∀ w ∈ l, w ∈ W0) : GoodIn W0 l := fun w hw => W0_good w (h w hw)
theorem all_nil {p : Cond → Prop} : ∀ w ∈ ([] : List Cond), p w := fun _ h => absurd h List.not_mem_nil
theorem all_cons {p : Cond → Prop} {a : Cond} {l : List Cond} (h : p a) (t : ∀ w ∈ l, p w) : ∀ w ∈ a :: l, p w := List.forall_mem_cons.mpr ⟨h, t⟩

theorem q_0 : (Jvm.Cond.initialized "SweptPathsLaw") ∈ W0 := W0_tab 0 (by decide +kernel) (by decide +kernel)
theorem q_1 : (Jvm.Cond.initialized "SweptPaths") ∈ W0 := W0_tab 1 (by decide +kernel) (by decide +kernel)
theorem q_2 : (Jvm.Cond.initialized "SweptPaths$Setting") ∈ W0 := W0_tab 2 (by decide +kernel) (by decide +kernel)
theorem q_3 : (Jvm.Cond.initialized "SweptPaths$Shape") ∈ W0 := W0_tab 3 (by decide +kernel) (by decide +kernel)
theorem q_4 : (Jvm.Cond.initialized "SweptPaths$Run") ∈ W0 := W0_tab 4 (by decide +kernel) (by decide +kernel)
theorem q_5 : (Jvm.Cond.initialized "SweptPaths$Pose") ∈ W0 := W0_tab 5 (by decide +kernel) (by decide +kernel)
theorem q_6 : (Jvm.Cond.initialized "SweptPaths$Cells") ∈ W0 := W0_tab 6 (by decide +kernel) (by decide +kernel)
theorem q_7 : (Jvm.Cond.initialized "SweptPaths$Plan") ∈ W0 := W0_tab 7 (by decide +kernel) (by decide +kernel)
theorem q_8 : (Jvm.Cond.initialized "SweptPathsModel") ∈ W0 := W0_tab 8 (by decide +kernel) (by decide +kernel)
theorem q_9 : (Jvm.Cond.initialized "java/lang/Throwable") ∈ W0 := W0_tab 9 (by decide +kernel) (by decide +kernel)
theorem q_10 : (Jvm.Cond.initialized "java/lang/Exception") ∈ W0 := W0_tab 10 (by decide +kernel) (by decide +kernel)
theorem q_11 : (Jvm.Cond.initialized "java/lang/RuntimeException") ∈ W0 := W0_tab 11 (by decide +kernel) (by decide +kernel)
theorem q_12 : (Jvm.Cond.initialized "java/lang/IllegalArgumentException") ∈ W0 := W0_tab 12 (by decide +kernel) (by decide +kernel)
theorem q_13 : (Jvm.Cond.initialized "java/lang/IllegalStateException") ∈ W0 := W0_tab 13 (by decide +kernel) (by decide +kernel)
theorem q_14 : (Jvm.Cond.initialized "java/util/Arrays") ∈ W0 := W0_tab 14 (by decide +kernel) (by decide +kernel)
theorem q_15 : (Jvm.Cond.initialized "SweptPaths$Directions") ∈ W0 := W0_tab 15 (by decide +kernel) (by decide +kernel)
theorem q_16 : (Jvm.Cond.initialized "java/lang/Math") ∈ W0 := W0_tab 16 (by decide +kernel) (by decide +kernel)
theorem q_17 : (Jvm.Cond.classLink "SweptPathsLaw" (8 : Nat) "SweptPaths") ∈ W0 := W0_tab 17 (by decide +kernel) (by decide +kernel)
theorem q_18 : (Jvm.Cond.instantiable "SweptPaths" (4 : Nat)) ∈ W0 := W0_tab 18 (by decide +kernel) (by decide +kernel)
theorem q_19 : (Jvm.Cond.methodLink "SweptPathsLaw" (61 : Nat) ({ cls := "SweptPaths", name := "<init>", desc := "()V" } : Jvm.MethodName)) ∈ W0 := W0_tab 19 (by decide +kernel) (by decide +kernel)
theorem q_20 : (Jvm.Cond.instanceMethod ({ cls := "SweptPaths", name := "<init>", desc := "()V" } : Jvm.MethodName)) ∈ W0 := W0_tab 20 (by decide +kernel) (by decide +kernel)
set_option maxRecDepth 20000 in
theorem q_21 : (Jvm.Cond.code ({ cls := "SweptPaths", name := "<init>", desc := "()V" } : Jvm.MethodName) prog_1_method_1_code (2 : Nat) (Option.none : Option Jvm.ClassFile.FieldType)) ∈ W0 := W0_tab 21 (by rfl) (by decide +kernel)
theorem q_22 : (Jvm.Cond.methodLink "SweptPaths" (1 : Nat) ({ cls := "java/lang/Object", name := "<init>", desc := "()V" } : Jvm.MethodName)) ∈ W0 := W0_tab 22 (by decide +kernel) (by decide +kernel)
theorem q_23 : (Jvm.Cond.instanceMethod ({ cls := "java/lang/Object", name := "<init>", desc := "()V" } : Jvm.MethodName)) ∈ W0 := W0_tab 23 (by decide +kernel) (by decide +kernel)
set_option maxRecDepth 20000 in
theorem q_24 : (Jvm.Cond.code ({ cls := "java/lang/Object", name := "<init>", desc := "()V" } : Jvm.MethodName) object_method_1_code (1 : Nat) (Option.none : Option Jvm.ClassFile.FieldType)) ∈ W0 := W0_tab 24 (by rfl) (by decide +kernel)
theorem q_25 : (Jvm.Cond.classLink "SweptPaths" (7 : Nat) "SweptPaths$Setting") ∈ W0 := W0_tab 25 (by decide +kernel) (by decide +kernel)
theorem q_26 : (Jvm.Cond.instantiable "SweptPaths$Setting" (9 : Nat)) ∈ W0 := W0_tab 26 (by decide +kernel) (by decide +kernel)
theorem q_28 : (Jvm.Cond.instanceMethod ({ cls := "SweptPaths$Setting", name := "<init>", desc := "()V" } : Jvm.MethodName)) ∈ W0 := W0_tab 28 (by decide +kernel) (by decide +kernel)
set_option maxRecDepth 20000 in
theorem q_29 : (Jvm.Cond.code ({ cls := "SweptPaths$Setting", name := "<init>", desc := "()V" } : Jvm.MethodName) prog_7_method_1_code (1 : Nat) (Option.none : Option Jvm.ClassFile.FieldType)) ∈ W0 := W0_tab 29 (by rfl) (by decide +kernel)
theorem q_30 : (Jvm.Cond.methodLink "SweptPaths$Setting" (3 : Nat) ({ cls := "java/lang/Object", name := "<init>", desc := "()V" } : Jvm.MethodName)) ∈ W0 := W0_tab 30 (by decide +kernel) (by decide +kernel)
theorem q_31 : (Jvm.Cond.classLink "SweptPaths$Setting" (9 : Nat) "SweptPaths$Shape") ∈ W0 := W0_tab 31 (by decide +kernel) (by decide +kernel)
theorem q_33 : (Jvm.Cond.instantiable "SweptPaths$Shape" (5 : Nat)) ∈ W0 := W0_tab 33 (by decide +kernel) (by decide +kernel)
theorem q_35 : (Jvm.Cond.instanceMethod ({ cls := "SweptPaths$Shape", name := "<init>", desc := "()V" } : Jvm.MethodName)) ∈ W0 := W0_tab 35 (by decide +kernel) (by decide +kernel)
set_option maxRecDepth 20000 in
theorem q_36 : (Jvm.Cond.code ({ cls := "SweptPaths$Shape", name := "<init>", desc := "()V" } : Jvm.MethodName) prog_8_method_1_code (1 : Nat) (Option.none : Option Jvm.ClassFile.FieldType)) ∈ W0 := W0_tab 36 (by rfl) (by decide +kernel)
theorem q_37 : (Jvm.Cond.methodLink "SweptPaths$Shape" (3 : Nat) ({ cls := "java/lang/Object", name := "<init>", desc := "()V" } : Jvm.MethodName)) ∈ W0 := W0_tab 37 (by decide +kernel) (by decide +kernel)
theorem q_38 : (Jvm.Cond.fieldLink "SweptPaths$Shape" (9 : Nat) "SweptPaths$Shape" "length" "I") ∈ W0 := W0_tab 38 (by decide +kernel) (by decide +kernel)
theorem q_39 : (Jvm.Cond.fieldLink "SweptPaths" (54 : Nat) "SweptPaths$Shape" "length" "I") ∈ W0 := W0_tab 39 (by decide +kernel) (by decide +kernel)
theorem q_40 : (Jvm.Cond.fieldLink "SweptPaths$Run" (148 : Nat) "SweptPaths$Shape" "length" "I") ∈ W0 := W0_tab 40 (by decide +kernel) (by decide +kernel)
theorem q_41 : (Jvm.Cond.fieldLink "SweptPaths" (59 : Nat) "SweptPaths$Shape" "hitch" "I") ∈ W0 := W0_tab 41 (by decide +kernel) (by decide +kernel)
theorem q_42 : (Jvm.Cond.fieldLink "SweptPaths$Run" (151 : Nat) "SweptPaths$Shape" "hitch" "I") ∈ W0 := W0_tab 42 (by decide +kernel) (by decide +kernel)
theorem q_43 : (Jvm.Cond.fieldLink "SweptPaths$Shape" (20 : Nat) "SweptPaths$Shape" "front" "I") ∈ W0 := W0_tab 43 (by decide +kernel) (by decide +kernel)
theorem q_44 : (Jvm.Cond.fieldLink "SweptPaths" (62 : Nat) "SweptPaths$Shape" "front" "I") ∈ W0 := W0_tab 44 (by decide +kernel) (by decide +kernel)
theorem q_45 : (Jvm.Cond.fieldLink "SweptPaths$Cells" (39 : Nat) "SweptPaths$Shape" "front" "I") ∈ W0 := W0_tab 45 (by decide +kernel) (by decide +kernel)
theorem q_46 : (Jvm.Cond.fieldLink "SweptPaths$Shape" (15 : Nat) "SweptPaths$Shape" "rear" "I") ∈ W0 := W0_tab 46 (by decide +kernel) (by decide +kernel)
theorem q_47 : (Jvm.Cond.fieldLink "SweptPaths" (65 : Nat) "SweptPaths$Shape" "rear" "I") ∈ W0 := W0_tab 47 (by decide +kernel) (by decide +kernel)
theorem q_48 : (Jvm.Cond.fieldLink "SweptPaths$Cells" (44 : Nat) "SweptPaths$Shape" "rear" "I") ∈ W0 := W0_tab 48 (by decide +kernel) (by decide +kernel)
theorem q_49 : (Jvm.Cond.fieldLink "SweptPaths$Shape" (23 : Nat) "SweptPaths$Shape" "half" "I") ∈ W0 := W0_tab 49 (by decide +kernel) (by decide +kernel)
theorem q_50 : (Jvm.Cond.fieldLink "SweptPaths" (68 : Nat) "SweptPaths$Shape" "half" "I") ∈ W0 := W0_tab 50 (by decide +kernel) (by decide +kernel)
theorem q_51 : (Jvm.Cond.fieldLink "SweptPaths$Cells" (47 : Nat) "SweptPaths$Shape" "half" "I") ∈ W0 := W0_tab 51 (by decide +kernel) (by decide +kernel)
theorem q_52 : (Jvm.Cond.lays "SweptPaths$Shape" "SweptPaths$Shape" "length" "I") ∈ W0 := W0_tab 52 (by decide +kernel) (by decide +kernel)
theorem q_54 : (Jvm.Cond.lays "SweptPaths$Shape" "SweptPaths$Shape" "hitch" "I") ∈ W0 := W0_tab 54 (by decide +kernel) (by decide +kernel)
theorem q_56 : (Jvm.Cond.lays "SweptPaths$Shape" "SweptPaths$Shape" "front" "I") ∈ W0 := W0_tab 56 (by decide +kernel) (by decide +kernel)
theorem q_58 : (Jvm.Cond.lays "SweptPaths$Shape" "SweptPaths$Shape" "rear" "I") ∈ W0 := W0_tab 58 (by decide +kernel) (by decide +kernel)
theorem q_60 : (Jvm.Cond.lays "SweptPaths$Shape" "SweptPaths$Shape" "half" "I") ∈ W0 := W0_tab 60 (by decide +kernel) (by decide +kernel)
theorem q_63 : (Jvm.Cond.fieldLink "SweptPaths$Setting" (12 : Nat) "SweptPaths$Setting" "shapes" "[LSweptPaths$Shape;") ∈ W0 := W0_tab 63 (by decide +kernel) (by decide +kernel)
theorem q_64 : (Jvm.Cond.fieldLink "SweptPaths" (50 : Nat) "SweptPaths$Setting" "shapes" "[LSweptPaths$Shape;") ∈ W0 := W0_tab 64 (by decide +kernel) (by decide +kernel)
theorem q_65 : (Jvm.Cond.fieldLink "SweptPaths$Run" (136 : Nat) "SweptPaths$Setting" "shapes" "[LSweptPaths$Shape;") ∈ W0 := W0_tab 65 (by decide +kernel) (by decide +kernel)
theorem q_66 : (Jvm.Cond.fieldLink "SweptPaths$Setting" (18 : Nat) "SweptPaths$Setting" "poleX" "[I") ∈ W0 := W0_tab 66 (by decide +kernel) (by decide +kernel)
theorem q_67 : (Jvm.Cond.fieldLink "SweptPaths" (93 : Nat) "SweptPaths$Setting" "poleX" "[I") ∈ W0 := W0_tab 67 (by decide +kernel) (by decide +kernel)
theorem q_68 : (Jvm.Cond.fieldLink "SweptPaths$Run" (173 : Nat) "SweptPaths$Setting" "poleX" "[I") ∈ W0 := W0_tab 68 (by decide +kernel) (by decide +kernel)
theorem q_69 : (Jvm.Cond.fieldLink "SweptPaths$Setting" (22 : Nat) "SweptPaths$Setting" "poleY" "[I") ∈ W0 := W0_tab 69 (by decide +kernel) (by decide +kernel)
theorem q_70 : (Jvm.Cond.fieldLink "SweptPaths" (97 : Nat) "SweptPaths$Setting" "poleY" "[I") ∈ W0 := W0_tab 70 (by decide +kernel) (by decide +kernel)
theorem q_71 : (Jvm.Cond.fieldLink "SweptPaths$Run" (176 : Nat) "SweptPaths$Setting" "poleY" "[I") ∈ W0 := W0_tab 71 (by decide +kernel) (by decide +kernel)
theorem q_72 : (Jvm.Cond.fieldLink "SweptPaths$Run" (49 : Nat) "SweptPaths$Setting" "bodies" "I") ∈ W0 := W0_tab 72 (by decide +kernel) (by decide +kernel)
theorem q_73 : (Jvm.Cond.fieldLink "SweptPaths" (39 : Nat) "SweptPaths$Setting" "bodies" "I") ∈ W0 := W0_tab 73 (by decide +kernel) (by decide +kernel)
theorem q_74 : (Jvm.Cond.fieldLink "SweptPaths" (88 : Nat) "SweptPaths$Setting" "poles" "I") ∈ W0 := W0_tab 74 (by decide +kernel) (by decide +kernel)
theorem q_75 : (Jvm.Cond.fieldLink "SweptPaths$Run" (170 : Nat) "SweptPaths$Setting" "poles" "I") ∈ W0 := W0_tab 75 (by decide +kernel) (by decide +kernel)
theorem q_76 : (Jvm.Cond.fieldLink "SweptPaths$Run" (66 : Nat) "SweptPaths$Setting" "startX" "I") ∈ W0 := W0_tab 76 (by decide +kernel) (by decide +kernel)
theorem q_77 : (Jvm.Cond.fieldLink "SweptPaths" (76 : Nat) "SweptPaths$Setting" "startX" "I") ∈ W0 := W0_tab 77 (by decide +kernel) (by decide +kernel)
theorem q_78 : (Jvm.Cond.fieldLink "SweptPaths$Run" (72 : Nat) "SweptPaths$Setting" "startY" "I") ∈ W0 := W0_tab 78 (by decide +kernel) (by decide +kernel)
theorem q_79 : (Jvm.Cond.fieldLink "SweptPaths" (79 : Nat) "SweptPaths$Setting" "startY" "I") ∈ W0 := W0_tab 79 (by decide +kernel) (by decide +kernel)
theorem q_80 : (Jvm.Cond.fieldLink "SweptPaths$Run" (54 : Nat) "SweptPaths$Setting" "startHeading" "I") ∈ W0 := W0_tab 80 (by decide +kernel) (by decide +kernel)
theorem q_81 : (Jvm.Cond.fieldLink "SweptPaths" (82 : Nat) "SweptPaths$Setting" "startHeading" "I") ∈ W0 := W0_tab 81 (by decide +kernel) (by decide +kernel)
theorem q_82 : (Jvm.Cond.fieldLink "SweptPaths$Setting" (25 : Nat) "SweptPaths$Setting" "stepLength" "I") ∈ W0 := W0_tab 82 (by decide +kernel) (by decide +kernel)
theorem q_83 : (Jvm.Cond.fieldLink "SweptPaths" (85 : Nat) "SweptPaths$Setting" "stepLength" "I") ∈ W0 := W0_tab 83 (by decide +kernel) (by decide +kernel)
theorem q_84 : (Jvm.Cond.fieldLink "SweptPaths$Run" (107 : Nat) "SweptPaths$Setting" "stepLength" "I") ∈ W0 := W0_tab 84 (by decide +kernel) (by decide +kernel)
theorem q_85 : (Jvm.Cond.laysFinal "SweptPaths$Setting" "SweptPaths$Setting" "shapes" "[LSweptPaths$Shape;") ∈ W0 := W0_tab 85 (by decide +kernel) (by decide +kernel)
theorem q_87 : (Jvm.Cond.laysFinal "SweptPaths$Setting" "SweptPaths$Setting" "poleX" "[I") ∈ W0 := W0_tab 87 (by decide +kernel) (by decide +kernel)
theorem q_89 : (Jvm.Cond.laysFinal "SweptPaths$Setting" "SweptPaths$Setting" "poleY" "[I") ∈ W0 := W0_tab 89 (by decide +kernel) (by decide +kernel)
theorem q_91 : (Jvm.Cond.lays "SweptPaths$Setting" "SweptPaths$Setting" "bodies" "I") ∈ W0 := W0_tab 91 (by decide +kernel) (by decide +kernel)
theorem q_93 : (Jvm.Cond.lays "SweptPaths$Setting" "SweptPaths$Setting" "poles" "I") ∈ W0 := W0_tab 93 (by decide +kernel) (by decide +kernel)
theorem q_95 : (Jvm.Cond.lays "SweptPaths$Setting" "SweptPaths$Setting" "startX" "I") ∈ W0 := W0_tab 95 (by decide +kernel) (by decide +kernel)
theorem q_97 : (Jvm.Cond.lays "SweptPaths$Setting" "SweptPaths$Setting" "startY" "I") ∈ W0 := W0_tab 97 (by decide +kernel) (by decide +kernel)
theorem q_99 : (Jvm.Cond.lays "SweptPaths$Setting" "SweptPaths$Setting" "startHeading" "I") ∈ W0 := W0_tab 99 (by decide +kernel) (by decide +kernel)
theorem q_101 : (Jvm.Cond.lays "SweptPaths$Setting" "SweptPaths$Setting" "stepLength" "I") ∈ W0 := W0_tab 101 (by decide +kernel) (by decide +kernel)
theorem q_104 : (Jvm.Cond.arrayClass Jvm.ClassFile.FieldType.int) ∈ W0 := W0_tab 104 (by decide +kernel) (by decide +kernel)
theorem q_105 : (Jvm.Cond.classLink "SweptPaths" (16 : Nat) "SweptPaths$Run") ∈ W0 := W0_tab 105 (by decide +kernel) (by decide +kernel)
theorem q_106 : (Jvm.Cond.instantiable "SweptPaths$Run" (8 : Nat)) ∈ W0 := W0_tab 106 (by decide +kernel) (by decide +kernel)
theorem q_107 : (Jvm.Cond.methodLink "SweptPaths" (18 : Nat) ({ cls := "SweptPaths$Run", name := "<init>", desc := "(LSweptPaths$Setting;)V" } : Jvm.MethodName)) ∈ W0 := W0_tab 107 (by decide +kernel) (by decide +kernel)
theorem q_108 : (Jvm.Cond.instanceMethod ({ cls := "SweptPaths$Run", name := "<init>", desc := "(LSweptPaths$Setting;)V" } : Jvm.MethodName)) ∈ W0 := W0_tab 108 (by decide +kernel) (by decide +kernel)
set_option maxRecDepth 20000 in
theorem q_109 : (Jvm.Cond.code ({ cls := "SweptPaths$Run", name := "<init>", desc := "(LSweptPaths$Setting;)V" } : Jvm.MethodName) prog_6_method_1_code (2 : Nat) (Option.none : Option Jvm.ClassFile.FieldType)) ∈ W0 := W0_tab 109 (by rfl) (by decide +kernel)
theorem q_110 : (Jvm.Cond.methodLink "SweptPaths$Run" (3 : Nat) ({ cls := "java/lang/Object", name := "<init>", desc := "()V" } : Jvm.MethodName)) ∈ W0 := W0_tab 110 (by decide +kernel) (by decide +kernel)
theorem q_111 : (Jvm.Cond.classLink "SweptPaths$Run" (9 : Nat) "SweptPaths$Pose") ∈ W0 := W0_tab 111 (by decide +kernel) (by decide +kernel)
theorem q_113 : (Jvm.Cond.instantiable "SweptPaths$Pose" (5 : Nat)) ∈ W0 := W0_tab 113 (by decide +kernel) (by decide +kernel)
theorem q_115 : (Jvm.Cond.instanceMethod ({ cls := "SweptPaths$Pose", name := "<init>", desc := "()V" } : Jvm.MethodName)) ∈ W0 := W0_tab 115 (by decide +kernel) (by decide +kernel)
set_option maxRecDepth 20000 in
theorem q_116 : (Jvm.Cond.code ({ cls := "SweptPaths$Pose", name := "<init>", desc := "()V" } : Jvm.MethodName) prog_5_method_1_code (1 : Nat) (Option.none : Option Jvm.ClassFile.FieldType)) ∈ W0 := W0_tab 116 (by rfl) (by decide +kernel)
theorem q_117 : (Jvm.Cond.methodLink "SweptPaths$Pose" (1 : Nat) ({ cls := "java/lang/Object", name := "<init>", desc := "()V" } : Jvm.MethodName)) ∈ W0 := W0_tab 117 (by decide +kernel) (by decide +kernel)
theorem q_118 : (Jvm.Cond.fieldLink "SweptPaths$Run" (69 : Nat) "SweptPaths$Pose" "x" "I") ∈ W0 := W0_tab 118 (by decide +kernel) (by decide +kernel)
theorem q_119 : (Jvm.Cond.fieldLink "SweptPaths$Cells" (55 : Nat) "SweptPaths$Pose" "x" "I") ∈ W0 := W0_tab 119 (by decide +kernel) (by decide +kernel)
theorem q_120 : (Jvm.Cond.fieldLink "SweptPaths" (114 : Nat) "SweptPaths$Pose" "x" "I") ∈ W0 := W0_tab 120 (by decide +kernel) (by decide +kernel)
theorem q_121 : (Jvm.Cond.fieldLink "SweptPaths$Run" (75 : Nat) "SweptPaths$Pose" "y" "I") ∈ W0 := W0_tab 121 (by decide +kernel) (by decide +kernel)
theorem q_122 : (Jvm.Cond.fieldLink "SweptPaths$Cells" (71 : Nat) "SweptPaths$Pose" "y" "I") ∈ W0 := W0_tab 122 (by decide +kernel) (by decide +kernel)
theorem q_123 : (Jvm.Cond.fieldLink "SweptPaths" (119 : Nat) "SweptPaths$Pose" "y" "I") ∈ W0 := W0_tab 123 (by decide +kernel) (by decide +kernel)
theorem q_124 : (Jvm.Cond.fieldLink "SweptPaths$Run" (57 : Nat) "SweptPaths$Pose" "heading" "I") ∈ W0 := W0_tab 124 (by decide +kernel) (by decide +kernel)
theorem q_125 : (Jvm.Cond.fieldLink "SweptPaths$Cells" (25 : Nat) "SweptPaths$Pose" "heading" "I") ∈ W0 := W0_tab 125 (by decide +kernel) (by decide +kernel)
theorem q_126 : (Jvm.Cond.fieldLink "SweptPaths" (122 : Nat) "SweptPaths$Pose" "heading" "I") ∈ W0 := W0_tab 126 (by decide +kernel) (by decide +kernel)
theorem q_127 : (Jvm.Cond.fieldLink "SweptPaths$Run" (60 : Nat) "SweptPaths$Pose" "rest" "I") ∈ W0 := W0_tab 127 (by decide +kernel) (by decide +kernel)
theorem q_128 : (Jvm.Cond.fieldLink "SweptPaths$Run" (63 : Nat) "SweptPaths$Pose" "greatestAskew" "I") ∈ W0 := W0_tab 128 (by decide +kernel) (by decide +kernel)
theorem q_129 : (Jvm.Cond.fieldLink "SweptPaths" (129 : Nat) "SweptPaths$Pose" "greatestAskew" "I") ∈ W0 := W0_tab 129 (by decide +kernel) (by decide +kernel)
theorem q_130 : (Jvm.Cond.lays "SweptPaths$Pose" "SweptPaths$Pose" "x" "I") ∈ W0 := W0_tab 130 (by decide +kernel) (by decide +kernel)
theorem q_132 : (Jvm.Cond.lays "SweptPaths$Pose" "SweptPaths$Pose" "y" "I") ∈ W0 := W0_tab 132 (by decide +kernel) (by decide +kernel)
theorem q_134 : (Jvm.Cond.lays "SweptPaths$Pose" "SweptPaths$Pose" "heading" "I") ∈ W0 := W0_tab 134 (by decide +kernel) (by decide +kernel)
theorem q_136 : (Jvm.Cond.lays "SweptPaths$Pose" "SweptPaths$Pose" "rest" "I") ∈ W0 := W0_tab 136 (by decide +kernel) (by decide +kernel)
theorem q_138 : (Jvm.Cond.lays "SweptPaths$Pose" "SweptPaths$Pose" "greatestAskew" "I") ∈ W0 := W0_tab 138 (by decide +kernel) (by decide +kernel)
theorem q_141 : (Jvm.Cond.classLink "SweptPaths$Run" (18 : Nat) "SweptPaths$Cells") ∈ W0 := W0_tab 141 (by decide +kernel) (by decide +kernel)
theorem q_142 : (Jvm.Cond.instantiable "SweptPaths$Cells" (2 : Nat)) ∈ W0 := W0_tab 142 (by decide +kernel) (by decide +kernel)
theorem q_144 : (Jvm.Cond.instanceMethod ({ cls := "SweptPaths$Cells", name := "<init>", desc := "()V" } : Jvm.MethodName)) ∈ W0 := W0_tab 144 (by decide +kernel) (by decide +kernel)
set_option maxRecDepth 20000 in
theorem q_145 : (Jvm.Cond.code ({ cls := "SweptPaths$Cells", name := "<init>", desc := "()V" } : Jvm.MethodName) prog_2_method_1_code (1 : Nat) (Option.none : Option Jvm.ClassFile.FieldType)) ∈ W0 := W0_tab 145 (by rfl) (by decide +kernel)
theorem q_146 : (Jvm.Cond.methodLink "SweptPaths$Cells" (3 : Nat) ({ cls := "java/lang/Object", name := "<init>", desc := "()V" } : Jvm.MethodName)) ∈ W0 := W0_tab 146 (by decide +kernel) (by decide +kernel)
theorem q_147 : (Jvm.Cond.fieldLink "SweptPaths$Cells" (11 : Nat) "SweptPaths$Cells" "rows" "[J") ∈ W0 := W0_tab 147 (by decide +kernel) (by decide +kernel)
theorem q_148 : (Jvm.Cond.fieldLink "SweptPaths$Cells" (21 : Nat) "SweptPaths$Cells" "count" "I") ∈ W0 := W0_tab 148 (by decide +kernel) (by decide +kernel)
theorem q_149 : (Jvm.Cond.fieldLink "SweptPaths" (142 : Nat) "SweptPaths$Cells" "count" "I") ∈ W0 := W0_tab 149 (by decide +kernel) (by decide +kernel)
theorem q_150 : (Jvm.Cond.laysFinal "SweptPaths$Cells" "SweptPaths$Cells" "rows" "[J") ∈ W0 := W0_tab 150 (by decide +kernel) (by decide +kernel)
theorem q_152 : (Jvm.Cond.lays "SweptPaths$Cells" "SweptPaths$Cells" "count" "I") ∈ W0 := W0_tab 152 (by decide +kernel) (by decide +kernel)
theorem q_155 : (Jvm.Cond.arrayClass Jvm.ClassFile.FieldType.long) ∈ W0 := W0_tab 155 (by decide +kernel) (by decide +kernel)
theorem q_156 : (Jvm.Cond.fieldLink "SweptPaths$Run" (12 : Nat) "SweptPaths$Run" "poses" "[LSweptPaths$Pose;") ∈ W0 := W0_tab 156 (by decide +kernel) (by decide +kernel)
theorem q_157 : (Jvm.Cond.fieldLink "SweptPaths" (110 : Nat) "SweptPaths$Run" "poses" "[LSweptPaths$Pose;") ∈ W0 := W0_tab 157 (by decide +kernel) (by decide +kernel)
theorem q_158 : (Jvm.Cond.fieldLink "SweptPaths$Run" (21 : Nat) "SweptPaths$Run" "cells" "LSweptPaths$Cells;") ∈ W0 := W0_tab 158 (by decide +kernel) (by decide +kernel)
theorem q_159 : (Jvm.Cond.fieldLink "SweptPaths" (138 : Nat) "SweptPaths$Run" "cells" "LSweptPaths$Cells;") ∈ W0 := W0_tab 159 (by decide +kernel) (by decide +kernel)
theorem q_160 : (Jvm.Cond.fieldLink "SweptPaths$Run" (39 : Nat) "SweptPaths$Run" "made" "I") ∈ W0 := W0_tab 160 (by decide +kernel) (by decide +kernel)
theorem q_161 : (Jvm.Cond.fieldLink "SweptPaths" (107 : Nat) "SweptPaths$Run" "made" "I") ∈ W0 := W0_tab 161 (by decide +kernel) (by decide +kernel)
theorem q_162 : (Jvm.Cond.fieldLink "SweptPaths$Run" (42 : Nat) "SweptPaths$Run" "stuck" "Z") ∈ W0 := W0_tab 162 (by decide +kernel) (by decide +kernel)
theorem q_163 : (Jvm.Cond.fieldLink "SweptPaths" (160 : Nat) "SweptPaths$Run" "stuck" "Z") ∈ W0 := W0_tab 163 (by decide +kernel) (by decide +kernel)
theorem q_164 : (Jvm.Cond.fieldLink "SweptPaths$Run" (25 : Nat) "SweptPaths$Run" "clashStep" "I") ∈ W0 := W0_tab 164 (by decide +kernel) (by decide +kernel)
theorem q_165 : (Jvm.Cond.fieldLink "SweptPaths" (151 : Nat) "SweptPaths$Run" "clashStep" "I") ∈ W0 := W0_tab 165 (by decide +kernel) (by decide +kernel)
theorem q_166 : (Jvm.Cond.fieldLink "SweptPaths$Run" (29 : Nat) "SweptPaths$Run" "clashBody" "I") ∈ W0 := W0_tab 166 (by decide +kernel) (by decide +kernel)
theorem q_167 : (Jvm.Cond.fieldLink "SweptPaths" (154 : Nat) "SweptPaths$Run" "clashBody" "I") ∈ W0 := W0_tab 167 (by decide +kernel) (by decide +kernel)
theorem q_168 : (Jvm.Cond.fieldLink "SweptPaths$Run" (32 : Nat) "SweptPaths$Run" "clashPole" "I") ∈ W0 := W0_tab 168 (by decide +kernel) (by decide +kernel)
theorem q_169 : (Jvm.Cond.fieldLink "SweptPaths" (157 : Nat) "SweptPaths$Run" "clashPole" "I") ∈ W0 := W0_tab 169 (by decide +kernel) (by decide +kernel)
theorem q_170 : (Jvm.Cond.fieldLink "SweptPaths$Run" (35 : Nat) "SweptPaths$Run" "setting" "LSweptPaths$Setting;") ∈ W0 := W0_tab 170 (by decide +kernel) (by decide +kernel)
theorem q_171 : (Jvm.Cond.laysFinal "SweptPaths$Run" "SweptPaths$Run" "poses" "[LSweptPaths$Pose;") ∈ W0 := W0_tab 171 (by decide +kernel) (by decide +kernel)
theorem q_173 : (Jvm.Cond.laysFinal "SweptPaths$Run" "SweptPaths$Run" "cells" "LSweptPaths$Cells;") ∈ W0 := W0_tab 173 (by decide +kernel) (by decide +kernel)
theorem q_175 : (Jvm.Cond.lays "SweptPaths$Run" "SweptPaths$Run" "made" "I") ∈ W0 := W0_tab 175 (by decide +kernel) (by decide +kernel)
theorem q_177 : (Jvm.Cond.lays "SweptPaths$Run" "SweptPaths$Run" "stuck" "Z") ∈ W0 := W0_tab 177 (by decide +kernel) (by decide +kernel)
theorem q_179 : (Jvm.Cond.lays "SweptPaths$Run" "SweptPaths$Run" "clashStep" "I") ∈ W0 := W0_tab 179 (by decide +kernel) (by decide +kernel)
theorem q_181 : (Jvm.Cond.lays "SweptPaths$Run" "SweptPaths$Run" "clashBody" "I") ∈ W0 := W0_tab 181 (by decide +kernel) (by decide +kernel)
theorem q_183 : (Jvm.Cond.lays "SweptPaths$Run" "SweptPaths$Run" "clashPole" "I") ∈ W0 := W0_tab 183 (by decide +kernel) (by decide +kernel)
theorem q_185 : (Jvm.Cond.laysFinal "SweptPaths$Run" "SweptPaths$Run" "setting" "LSweptPaths$Setting;") ∈ W0 := W0_tab 185 (by decide +kernel) (by decide +kernel)
theorem q_188 : (Jvm.Cond.classLink "SweptPaths" (28 : Nat) "SweptPaths$Plan") ∈ W0 := W0_tab 188 (by decide +kernel) (by decide +kernel)
theorem q_190 : (Jvm.Cond.instantiable "SweptPaths$Plan" (4 : Nat)) ∈ W0 := W0_tab 190 (by decide +kernel) (by decide +kernel)
theorem q_192 : (Jvm.Cond.instanceMethod ({ cls := "SweptPaths$Plan", name := "<init>", desc := "()V" } : Jvm.MethodName)) ∈ W0 := W0_tab 192 (by decide +kernel) (by decide +kernel)
set_option maxRecDepth 20000 in
theorem q_193 : (Jvm.Cond.code ({ cls := "SweptPaths$Plan", name := "<init>", desc := "()V" } : Jvm.MethodName) prog_4_method_1_code (1 : Nat) (Option.none : Option Jvm.ClassFile.FieldType)) ∈ W0 := W0_tab 193 (by rfl) (by decide +kernel)
theorem q_194 : (Jvm.Cond.methodLink "SweptPaths$Plan" (3 : Nat) ({ cls := "java/lang/Object", name := "<init>", desc := "()V" } : Jvm.MethodName)) ∈ W0 := W0_tab 194 (by decide +kernel) (by decide +kernel)
theorem q_195 : (Jvm.Cond.fieldLink "SweptPaths$Plan" (9 : Nat) "SweptPaths$Plan" "turns" "[I") ∈ W0 := W0_tab 195 (by decide +kernel) (by decide +kernel)
theorem q_196 : (Jvm.Cond.fieldLink "SweptPaths$Run" (92 : Nat) "SweptPaths$Plan" "turns" "[I") ∈ W0 := W0_tab 196 (by decide +kernel) (by decide +kernel)
theorem q_197 : (Jvm.Cond.fieldLink "SweptPaths$Plan" (15 : Nat) "SweptPaths$Plan" "steps" "[I") ∈ W0 := W0_tab 197 (by decide +kernel) (by decide +kernel)
theorem q_198 : (Jvm.Cond.fieldLink "SweptPaths$Run" (96 : Nat) "SweptPaths$Plan" "steps" "[I") ∈ W0 := W0_tab 198 (by decide +kernel) (by decide +kernel)
theorem q_199 : (Jvm.Cond.fieldLink "SweptPaths$Plan" (18 : Nat) "SweptPaths$Plan" "forwards" "[Z") ∈ W0 := W0_tab 199 (by decide +kernel) (by decide +kernel)
theorem q_200 : (Jvm.Cond.fieldLink "SweptPaths$Run" (99 : Nat) "SweptPaths$Plan" "forwards" "[Z") ∈ W0 := W0_tab 200 (by decide +kernel) (by decide +kernel)
theorem q_201 : (Jvm.Cond.fieldLink "SweptPaths$Plan" (22 : Nat) "SweptPaths$Plan" "parts" "I") ∈ W0 := W0_tab 201 (by decide +kernel) (by decide +kernel)
theorem q_202 : (Jvm.Cond.fieldLink "SweptPaths$Run" (87 : Nat) "SweptPaths$Plan" "parts" "I") ∈ W0 := W0_tab 202 (by decide +kernel) (by decide +kernel)
theorem q_203 : (Jvm.Cond.fieldLink "SweptPaths" (170 : Nat) "SweptPaths$Plan" "parts" "I") ∈ W0 := W0_tab 203 (by decide +kernel) (by decide +kernel)
theorem q_204 : (Jvm.Cond.laysFinal "SweptPaths$Plan" "SweptPaths$Plan" "turns" "[I") ∈ W0 := W0_tab 204 (by decide +kernel) (by decide +kernel)
theorem q_206 : (Jvm.Cond.laysFinal "SweptPaths$Plan" "SweptPaths$Plan" "steps" "[I") ∈ W0 := W0_tab 206 (by decide +kernel) (by decide +kernel)
theorem q_208 : (Jvm.Cond.laysFinal "SweptPaths$Plan" "SweptPaths$Plan" "forwards" "[Z") ∈ W0 := W0_tab 208 (by decide +kernel) (by decide +kernel)
theorem q_210 : (Jvm.Cond.lays "SweptPaths$Plan" "SweptPaths$Plan" "parts" "I") ∈ W0 := W0_tab 210 (by decide +kernel) (by decide +kernel)
theorem q_213 : (Jvm.Cond.arrayClass Jvm.ClassFile.FieldType.boolean) ∈ W0 := W0_tab 213 (by decide +kernel) (by decide +kernel)
theorem q_214 : (Jvm.Cond.fieldLink "SweptPaths" (10 : Nat) "SweptPaths" "setting" "LSweptPaths$Setting;") ∈ W0 := W0_tab 214 (by decide +kernel) (by decide +kernel)
theorem q_215 : (Jvm.Cond.fieldLink "SweptPaths" (21 : Nat) "SweptPaths" "live" "LSweptPaths$Run;") ∈ W0 := W0_tab 215 (by decide +kernel) (by decide +kernel)
theorem q_216 : (Jvm.Cond.fieldLink "SweptPaths" (25 : Nat) "SweptPaths" "trial" "LSweptPaths$Run;") ∈ W0 := W0_tab 216 (by decide +kernel) (by decide +kernel)
theorem q_217 : (Jvm.Cond.fieldLink "SweptPaths" (30 : Nat) "SweptPaths" "plans" "[LSweptPaths$Plan;") ∈ W0 := W0_tab 217 (by decide +kernel) (by decide +kernel)
theorem q_218 : (Jvm.Cond.laysFinal "SweptPaths" "SweptPaths" "setting" "LSweptPaths$Setting;") ∈ W0 := W0_tab 218 (by decide +kernel) (by decide +kernel)
theorem q_220 : (Jvm.Cond.laysFinal "SweptPaths" "SweptPaths" "live" "LSweptPaths$Run;") ∈ W0 := W0_tab 220 (by decide +kernel) (by decide +kernel)
theorem q_222 : (Jvm.Cond.laysFinal "SweptPaths" "SweptPaths" "trial" "LSweptPaths$Run;") ∈ W0 := W0_tab 222 (by decide +kernel) (by decide +kernel)
theorem q_224 : (Jvm.Cond.laysFinal "SweptPaths" "SweptPaths" "plans" "[LSweptPaths$Plan;") ∈ W0 := W0_tab 224 (by decide +kernel) (by decide +kernel)
theorem q_227 : (Jvm.Cond.methodLink "SweptPathsLaw" (97 : Nat) ({ cls := "SweptPaths", name := "swept", desc := "()I" } : Jvm.MethodName)) ∈ W0 := W0_tab 227 (by decide +kernel) (by decide +kernel)
theorem q_228 : (Jvm.Cond.instanceMethod ({ cls := "SweptPaths", name := "swept", desc := "()I" } : Jvm.MethodName)) ∈ W0 := W0_tab 228 (by decide +kernel) (by decide +kernel)
theorem q_229 : (Jvm.Cond.selects "SweptPaths" ({ cls := "SweptPaths", name := "swept", desc := "()I" } : Jvm.MethodName) ({ cls := "SweptPaths", name := "swept", desc := "()I" } : Jvm.MethodName)) ∈ W0 := W0_tab 229 (by decide +kernel) (by decide +kernel)
set_option maxRecDepth 20000 in
theorem q_230 : (Jvm.Cond.code ({ cls := "SweptPaths", name := "swept", desc := "()I" } : Jvm.MethodName) prog_1_method_9_code (1 : Nat) (Option.some Jvm.ClassFile.FieldType.int)) ∈ W0 := W0_tab 230 (by rfl) (by decide +kernel)
theorem q_231 : (Jvm.Cond.methodLink "SweptPathsLaw" (107 : Nat) ({ cls := "SweptPaths", name := "isStuck", desc := "()Z" } : Jvm.MethodName)) ∈ W0 := W0_tab 231 (by decide +kernel) (by decide +kernel)
theorem q_232 : (Jvm.Cond.instanceMethod ({ cls := "SweptPaths", name := "isStuck", desc := "()Z" } : Jvm.MethodName)) ∈ W0 := W0_tab 232 (by decide +kernel) (by decide +kernel)
theorem q_233 : (Jvm.Cond.selects "SweptPaths" ({ cls := "SweptPaths", name := "isStuck", desc := "()Z" } : Jvm.MethodName) ({ cls := "SweptPaths", name := "isStuck", desc := "()Z" } : Jvm.MethodName)) ∈ W0 := W0_tab 233 (by decide +kernel) (by decide +kernel)
set_option maxRecDepth 20000 in
theorem q_234 : (Jvm.Cond.code ({ cls := "SweptPaths", name := "isStuck", desc := "()Z" } : Jvm.MethodName) prog_1_method_12_code (1 : Nat) (Option.some Jvm.ClassFile.FieldType.boolean)) ∈ W0 := W0_tab 234 (by rfl) (by decide +kernel)
theorem q_235 : (Jvm.Cond.methodLink "SweptPathsLaw" (65 : Nat) ({ cls := "SweptPathsLaw", name := "body", desc := "(LSweptPaths;IIIII[J)I" } : Jvm.MethodName)) ∈ W0 := W0_tab 235 (by decide +kernel) (by decide +kernel)
theorem q_236 : (Jvm.Cond.static ({ cls := "SweptPathsLaw", name := "body", desc := "(LSweptPaths;IIIII[J)I" } : Jvm.MethodName)) ∈ W0 := W0_tab 236 (by decide +kernel) (by decide +kernel)
theorem q_238 : (Jvm.Cond.classLink "SweptPathsLaw" (13 : Nat) "java/lang/IllegalArgumentException") ∈ W0 := W0_tab 238 (by decide +kernel) (by decide +kernel)
theorem q_239 : (Jvm.Cond.classLink "SweptPathsLaw" (15 : Nat) "java/lang/IllegalStateException") ∈ W0 := W0_tab 239 (by decide +kernel) (by decide +kernel)
theorem q_240 : (Jvm.Cond.methodLink "SweptPathsLaw" (7 : Nat) ({ cls := "SweptPaths", name := "body", desc := "(IIIII)I" } : Jvm.MethodName)) ∈ W0 := W0_tab 240 (by decide +kernel) (by decide +kernel)
theorem q_241 : (Jvm.Cond.instanceMethod ({ cls := "SweptPaths", name := "body", desc := "(IIIII)I" } : Jvm.MethodName)) ∈ W0 := W0_tab 241 (by decide +kernel) (by decide +kernel)
theorem q_242 : (Jvm.Cond.selects "SweptPaths" ({ cls := "SweptPaths", name := "body", desc := "(IIIII)I" } : Jvm.MethodName) ({ cls := "SweptPaths", name := "body", desc := "(IIIII)I" } : Jvm.MethodName)) ∈ W0 := W0_tab 242 (by decide +kernel) (by decide +kernel)
set_option maxRecDepth 20000 in
theorem q_243 : (Jvm.Cond.code ({ cls := "SweptPaths", name := "body", desc := "(IIIII)I" } : Jvm.MethodName) prog_1_method_2_code (8 : Nat) (Option.some Jvm.ClassFile.FieldType.int)) ∈ W0 := W0_tab 243 (by rfl) (by decide +kernel)
theorem q_244 : (Jvm.Cond.methodLink "SweptPaths" (35 : Nat) ({ cls := "SweptPaths", name := "demandWithin", desc := "(III)V" } : Jvm.MethodName)) ∈ W0 := W0_tab 244 (by decide +kernel) (by decide +kernel)
theorem q_245 : (Jvm.Cond.static ({ cls := "SweptPaths", name := "demandWithin", desc := "(III)V" } : Jvm.MethodName)) ∈ W0 := W0_tab 245 (by decide +kernel) (by decide +kernel)
set_option maxRecDepth 20000 in
theorem q_246 : (Jvm.Cond.code ({ cls := "SweptPaths", name := "demandWithin", desc := "(III)V" } : Jvm.MethodName) prog_1_method_17_code (3 : Nat) (Option.none : Option Jvm.ClassFile.FieldType)) ∈ W0 := W0_tab 246 (by rfl) (by decide +kernel)
theorem q_247 : (Jvm.Cond.classLink "SweptPaths" (181 : Nat) "java/lang/IllegalArgumentException") ∈ W0 := W0_tab 247 (by decide +kernel) (by decide +kernel)
theorem q_248 : (Jvm.Cond.instantiable "java/lang/IllegalArgumentException" (6 : Nat)) ∈ W0 := W0_tab 248 (by decide +kernel) (by decide +kernel)
theorem q_256 : (Jvm.Cond.selects "java/lang/IllegalArgumentException" ({ cls := "java/lang/Throwable", name := "fillInStackTrace", desc := "(I)Ljava/lang/Throwable;" } : Jvm.MethodName) ({ cls := "java/lang/Throwable", name := "fillInStackTrace", desc := "(I)Ljava/lang/Throwable;" } : Jvm.MethodName)) ∈ W0 := W0_tab 256 (by decide +kernel) (by decide +kernel)
theorem q_257 : (Jvm.Cond.selects "java/lang/IllegalArgumentException" ({ cls := "java/lang/Throwable", name := "fillInStackTrace", desc := "()Ljava/lang/Throwable;" } : Jvm.MethodName) ({ cls := "java/lang/Throwable", name := "fillInStackTrace", desc := "()Ljava/lang/Throwable;" } : Jvm.MethodName)) ∈ W0 := W0_tab 257 (by decide +kernel) (by decide +kernel)
theorem q_258 : (Jvm.Cond.lays "java/lang/IllegalArgumentException" "java/lang/Throwable" "cause" "Ljava/lang/Throwable;") ∈ W0 := W0_tab 258 (by decide +kernel) (by decide +kernel)
theorem q_259 : (Jvm.Cond.lays "java/lang/Throwable" "java/lang/Throwable" "cause" "Ljava/lang/Throwable;") ∈ W0 := W0_tab 259 (by decide +kernel) (by decide +kernel)
theorem q_260 : (Jvm.Cond.lays "java/lang/IllegalArgumentException" "java/lang/Throwable" "stackTrace" "[Ljava/lang/StackTraceElement;") ∈ W0 := W0_tab 260 (by decide +kernel) (by decide +kernel)
theorem q_261 : (Jvm.Cond.lays "java/lang/Throwable" "java/lang/Throwable" "stackTrace" "[Ljava/lang/StackTraceElement;") ∈ W0 := W0_tab 261 (by decide +kernel) (by decide +kernel)
theorem q_262 : (Jvm.Cond.lays "java/lang/IllegalArgumentException" "java/lang/Throwable" "suppressedExceptions" "Ljava/util/List;") ∈ W0 := W0_tab 262 (by decide +kernel) (by decide +kernel)
theorem q_263 : (Jvm.Cond.lays "java/lang/Throwable" "java/lang/Throwable" "suppressedExceptions" "Ljava/util/List;") ∈ W0 := W0_tab 263 (by decide +kernel) (by decide +kernel)
theorem q_264 : (Jvm.Cond.lays "java/lang/IllegalArgumentException" "java/lang/Throwable" "detailMessage" "Ljava/lang/String;") ∈ W0 := W0_tab 264 (by decide +kernel) (by decide +kernel)
theorem q_265 : (Jvm.Cond.lays "java/lang/Throwable" "java/lang/Throwable" "detailMessage" "Ljava/lang/String;") ∈ W0 := W0_tab 265 (by decide +kernel) (by decide +kernel)
theorem q_266 : (Jvm.Cond.lays "java/lang/IllegalArgumentException" "java/lang/Throwable" "backtrace" "Ljava/lang/Object;") ∈ W0 := W0_tab 266 (by decide +kernel) (by decide +kernel)
theorem q_267 : (Jvm.Cond.lays "java/lang/Throwable" "java/lang/Throwable" "backtrace" "Ljava/lang/Object;") ∈ W0 := W0_tab 267 (by decide +kernel) (by decide +kernel)
theorem q_268 : (Jvm.Cond.fieldLink "java/lang/Throwable" (198 : Nat) "java/lang/Throwable" "backtrace" "Ljava/lang/Object;") ∈ W0 := W0_tab 268 (by decide +kernel) (by decide +kernel)
theorem q_270 : (Jvm.Cond.instanceMethod ({ cls := "java/lang/Throwable", name := "<init>", desc := "()V" } : Jvm.MethodName)) ∈ W0 := W0_tab 270 (by decide +kernel) (by decide +kernel)
set_option maxRecDepth 20000 in
theorem q_271 : (Jvm.Cond.code ({ cls := "java/lang/Throwable", name := "<init>", desc := "()V" } : Jvm.MethodName) prog_17_method_1_code (1 : Nat) (Option.none : Option Jvm.ClassFile.FieldType)) ∈ W0 := W0_tab 271 (by rfl) (by decide +kernel)
theorem q_272 : (Jvm.Cond.methodLink "java/lang/Throwable" (1 : Nat) ({ cls := "java/lang/Object", name := "<init>", desc := "()V" } : Jvm.MethodName)) ∈ W0 := W0_tab 272 (by decide +kernel) (by decide +kernel)
theorem q_273 : (Jvm.Cond.fieldLink "java/lang/Throwable" (13 : Nat) "java/lang/Throwable" "UNASSIGNED_STACK" "[Ljava/lang/StackTraceElement;") ∈ W0 := W0_tab 273 (by decide +kernel) (by decide +kernel)
theorem q_275 : (Jvm.Cond.fieldLink "java/lang/Throwable" (20 : Nat) "java/lang/Throwable" "SUPPRESSED_SENTINEL" "Ljava/util/List;") ∈ W0 := W0_tab 275 (by decide +kernel) (by decide +kernel)
theorem q_277 : (Jvm.Cond.methodLink "java/lang/Throwable" (27 : Nat) ({ cls := "java/lang/Throwable", name := "fillInStackTrace", desc := "()Ljava/lang/Throwable;" } : Jvm.MethodName)) ∈ W0 := W0_tab 277 (by decide +kernel) (by decide +kernel)
theorem q_278 : (Jvm.Cond.instanceMethod ({ cls := "java/lang/Throwable", name := "fillInStackTrace", desc := "()Ljava/lang/Throwable;" } : Jvm.MethodName)) ∈ W0 := W0_tab 278 (by decide +kernel) (by decide +kernel)
theorem q_280 : (Jvm.Cond.selects "java/lang/IllegalStateException" ({ cls := "java/lang/Throwable", name := "fillInStackTrace", desc := "()Ljava/lang/Throwable;" } : Jvm.MethodName) ({ cls := "java/lang/Throwable", name := "fillInStackTrace", desc := "()Ljava/lang/Throwable;" } : Jvm.MethodName)) ∈ W0 := W0_tab 280 (by decide +kernel) (by decide +kernel)
theorem q_282 : (Jvm.Cond.methodLink "java/lang/Throwable" (202 : Nat) ({ cls := "java/lang/Throwable", name := "fillInStackTrace", desc := "(I)Ljava/lang/Throwable;" } : Jvm.MethodName)) ∈ W0 := W0_tab 282 (by decide +kernel) (by decide +kernel)
theorem q_284 : (Jvm.Cond.instanceMethod ({ cls := "java/lang/Throwable", name := "fillInStackTrace", desc := "(I)Ljava/lang/Throwable;" } : Jvm.MethodName)) ∈ W0 := W0_tab 284 (by decide +kernel) (by decide +kernel)
theorem q_285 : (Jvm.Cond.instantiable "java/lang/Throwable" (6 : Nat)) ∈ W0 := W0_tab 285 (by decide +kernel) (by decide +kernel)
theorem q_288 : (Jvm.Cond.methodLink "SweptPaths" (185 : Nat) ({ cls := "java/lang/IllegalArgumentException", name := "<init>", desc := "(Ljava/lang/String;)V" } : Jvm.MethodName)) ∈ W0 := W0_tab 288 (by decide +kernel) (by decide +kernel)
theorem q_289 : (Jvm.Cond.instanceMethod ({ cls := "java/lang/IllegalArgumentException", name := "<init>", desc := "(Ljava/lang/String;)V" } : Jvm.MethodName)) ∈ W0 := W0_tab 289 (by decide +kernel) (by decide +kernel)
set_option maxRecDepth 20000 in
theorem q_290 : (Jvm.Cond.code ({ cls := "java/lang/IllegalArgumentException", name := "<init>", desc := "(Ljava/lang/String;)V" } : Jvm.MethodName) prog_12_method_2_code (2 : Nat) (Option.none : Option Jvm.ClassFile.FieldType)) ∈ W0 := W0_tab 290 (by rfl) (by decide +kernel)
theorem q_291 : (Jvm.Cond.methodLink "java/lang/IllegalArgumentException" (7 : Nat) ({ cls := "java/lang/RuntimeException", name := "<init>", desc := "(Ljava/lang/String;)V" } : Jvm.MethodName)) ∈ W0 := W0_tab 291 (by decide +kernel) (by decide +kernel)
theorem q_292 : (Jvm.Cond.instanceMethod ({ cls := "java/lang/RuntimeException", name := "<init>", desc := "(Ljava/lang/String;)V" } : Jvm.MethodName)) ∈ W0 := W0_tab 292 (by decide +kernel) (by decide +kernel)
set_option maxRecDepth 20000 in
theorem q_293 : (Jvm.Cond.code ({ cls := "java/lang/RuntimeException", name := "<init>", desc := "(Ljava/lang/String;)V" } : Jvm.MethodName) prog_15_method_2_code (2 : Nat) (Option.none : Option Jvm.ClassFile.FieldType)) ∈ W0 := W0_tab 293 (by rfl) (by decide +kernel)
theorem q_294 : (Jvm.Cond.methodLink "java/lang/RuntimeException" (7 : Nat) ({ cls := "java/lang/Exception", name := "<init>", desc := "(Ljava/lang/String;)V" } : Jvm.MethodName)) ∈ W0 := W0_tab 294 (by decide +kernel) (by decide +kernel)
theorem q_295 : (Jvm.Cond.instanceMethod ({ cls := "java/lang/Exception", name := "<init>", desc := "(Ljava/lang/String;)V" } : Jvm.MethodName)) ∈ W0 := W0_tab 295 (by decide +kernel) (by decide +kernel)
set_option maxRecDepth 20000 in
theorem q_296 : (Jvm.Cond.code ({ cls := "java/lang/Exception", name := "<init>", desc := "(Ljava/lang/String;)V" } : Jvm.MethodName) prog_11_method_2_code (2 : Nat) (Option.none : Option Jvm.ClassFile.FieldType)) ∈ W0 := W0_tab 296 (by rfl) (by decide +kernel)
theorem q_297 : (Jvm.Cond.methodLink "java/lang/Exception" (7 : Nat) ({ cls := "java/lang/Throwable", name := "<init>", desc := "(Ljava/lang/String;)V" } : Jvm.MethodName)) ∈ W0 := W0_tab 297 (by decide +kernel) (by decide +kernel)
theorem q_298 : (Jvm.Cond.instanceMethod ({ cls := "java/lang/Throwable", name := "<init>", desc := "(Ljava/lang/String;)V" } : Jvm.MethodName)) ∈ W0 := W0_tab 298 (by decide +kernel) (by decide +kernel)
set_option maxRecDepth 20000 in
theorem q_299 : (Jvm.Cond.code ({ cls := "java/lang/Throwable", name := "<init>", desc := "(Ljava/lang/String;)V" } : Jvm.MethodName) prog_17_method_2_code (2 : Nat) (Option.none : Option Jvm.ClassFile.FieldType)) ∈ W0 := W0_tab 299 (by rfl) (by decide +kernel)
theorem q_300 : (Jvm.Cond.fieldLink "java/lang/Throwable" (198 : Nat) "java/lang/Throwable" "backtrace" "Ljava/lang/Object;") ∈ W0 := W0_tab 300 (by decide +kernel) (by decide +kernel)
theorem q_301 : (Jvm.Cond.fieldLink "java/lang/Throwable" (31 : Nat) "java/lang/Throwable" "detailMessage" "Ljava/lang/String;") ∈ W0 := W0_tab 301 (by decide +kernel) (by decide +kernel)
theorem q_302 : (Jvm.Cond.fieldLink "java/lang/Throwable" (7 : Nat) "java/lang/Throwable" "cause" "Ljava/lang/Throwable;") ∈ W0 := W0_tab 302 (by decide +kernel) (by decide +kernel)
theorem q_303 : (Jvm.Cond.fieldLink "java/lang/Throwable" (17 : Nat) "java/lang/Throwable" "stackTrace" "[Ljava/lang/StackTraceElement;") ∈ W0 := W0_tab 303 (by decide +kernel) (by decide +kernel)
theorem q_304 : (Jvm.Cond.fieldLink "java/lang/Throwable" (24 : Nat) "java/lang/Throwable" "suppressedExceptions" "Ljava/util/List;") ∈ W0 := W0_tab 304 (by decide +kernel) (by decide +kernel)
theorem q_309 : (Jvm.Cond.lays "java/lang/IllegalArgumentException" "java/lang/Throwable" "depth" "I") ∈ W0 := W0_tab 309 (by decide +kernel) (by decide +kernel)
theorem q_313 : (Jvm.Cond.arrayClass Jvm.ClassFile.FieldType.byte) ∈ W0 := W0_tab 313 (by decide +kernel) (by decide +kernel)
theorem q_314 : (Jvm.Cond.classLink "SweptPaths" (43 : Nat) "java/lang/IllegalStateException") ∈ W0 := W0_tab 314 (by decide +kernel) (by decide +kernel)
theorem q_315 : (Jvm.Cond.instantiable "java/lang/IllegalStateException" (6 : Nat)) ∈ W0 := W0_tab 315 (by decide +kernel) (by decide +kernel)
theorem q_317 : (Jvm.Cond.selects "java/lang/IllegalStateException" ({ cls := "java/lang/Throwable", name := "fillInStackTrace", desc := "(I)Ljava/lang/Throwable;" } : Jvm.MethodName) ({ cls := "java/lang/Throwable", name := "fillInStackTrace", desc := "(I)Ljava/lang/Throwable;" } : Jvm.MethodName)) ∈ W0 := W0_tab 317 (by decide +kernel) (by decide +kernel)
theorem q_318 : (Jvm.Cond.lays "java/lang/IllegalStateException" "java/lang/Throwable" "cause" "Ljava/lang/Throwable;") ∈ W0 := W0_tab 318 (by decide +kernel) (by decide +kernel)
theorem q_319 : (Jvm.Cond.lays "java/lang/IllegalStateException" "java/lang/Throwable" "stackTrace" "[Ljava/lang/StackTraceElement;") ∈ W0 := W0_tab 319 (by decide +kernel) (by decide +kernel)
theorem q_320 : (Jvm.Cond.lays "java/lang/IllegalStateException" "java/lang/Throwable" "suppressedExceptions" "Ljava/util/List;") ∈ W0 := W0_tab 320 (by decide +kernel) (by decide +kernel)
theorem q_321 : (Jvm.Cond.lays "java/lang/IllegalStateException" "java/lang/Throwable" "detailMessage" "Ljava/lang/String;") ∈ W0 := W0_tab 321 (by decide +kernel) (by decide +kernel)
theorem q_322 : (Jvm.Cond.lays "java/lang/IllegalStateException" "java/lang/Throwable" "backtrace" "Ljava/lang/Object;") ∈ W0 := W0_tab 322 (by decide +kernel) (by decide +kernel)
theorem q_324 : (Jvm.Cond.methodLink "SweptPaths" (47 : Nat) ({ cls := "java/lang/IllegalStateException", name := "<init>", desc := "(Ljava/lang/String;)V" } : Jvm.MethodName)) ∈ W0 := W0_tab 324 (by decide +kernel) (by decide +kernel)
theorem q_325 : (Jvm.Cond.instanceMethod ({ cls := "java/lang/IllegalStateException", name := "<init>", desc := "(Ljava/lang/String;)V" } : Jvm.MethodName)) ∈ W0 := W0_tab 325 (by decide +kernel) (by decide +kernel)
set_option maxRecDepth 20000 in
theorem q_326 : (Jvm.Cond.code ({ cls := "java/lang/IllegalStateException", name := "<init>", desc := "(Ljava/lang/String;)V" } : Jvm.MethodName) prog_13_method_2_code (2 : Nat) (Option.none : Option Jvm.ClassFile.FieldType)) ∈ W0 := W0_tab 326 (by rfl) (by decide +kernel)
theorem q_327 : (Jvm.Cond.methodLink "java/lang/IllegalStateException" (7 : Nat) ({ cls := "java/lang/RuntimeException", name := "<init>", desc := "(Ljava/lang/String;)V" } : Jvm.MethodName)) ∈ W0 := W0_tab 327 (by decide +kernel) (by decide +kernel)
theorem q_328 : (Jvm.Cond.lays "java/lang/IllegalStateException" "java/lang/Throwable" "depth" "I") ∈ W0 := W0_tab 328 (by decide +kernel) (by decide +kernel)
theorem q_330 : (Jvm.Cond.methodLink "SweptPaths" (71 : Nat) ({ cls := "SweptPaths$Run", name := "begin", desc := "()V" } : Jvm.MethodName)) ∈ W0 := W0_tab 330 (by decide +kernel) (by decide +kernel)
theorem q_331 : (Jvm.Cond.instanceMethod ({ cls := "SweptPaths$Run", name := "begin", desc := "()V" } : Jvm.MethodName)) ∈ W0 := W0_tab 331 (by decide +kernel) (by decide +kernel)
theorem q_332 : (Jvm.Cond.selects "SweptPaths$Run" ({ cls := "SweptPaths$Run", name := "begin", desc := "()V" } : Jvm.MethodName) ({ cls := "SweptPaths$Run", name := "begin", desc := "()V" } : Jvm.MethodName)) ∈ W0 := W0_tab 332 (by decide +kernel) (by decide +kernel)
set_option maxRecDepth 20000 in
theorem q_333 : (Jvm.Cond.code ({ cls := "SweptPaths$Run", name := "begin", desc := "()V" } : Jvm.MethodName) prog_6_method_2_code (3 : Nat) (Option.none : Option Jvm.ClassFile.FieldType)) ∈ W0 := W0_tab 333 (by rfl) (by decide +kernel)
theorem q_334 : (Jvm.Cond.methodLink "SweptPaths$Run" (46 : Nat) ({ cls := "SweptPaths$Cells", name := "wipe", desc := "()V" } : Jvm.MethodName)) ∈ W0 := W0_tab 334 (by decide +kernel) (by decide +kernel)
theorem q_335 : (Jvm.Cond.instanceMethod ({ cls := "SweptPaths$Cells", name := "wipe", desc := "()V" } : Jvm.MethodName)) ∈ W0 := W0_tab 335 (by decide +kernel) (by decide +kernel)
theorem q_336 : (Jvm.Cond.selects "SweptPaths$Cells" ({ cls := "SweptPaths$Cells", name := "wipe", desc := "()V" } : Jvm.MethodName) ({ cls := "SweptPaths$Cells", name := "wipe", desc := "()V" } : Jvm.MethodName)) ∈ W0 := W0_tab 336 (by decide +kernel) (by decide +kernel)
set_option maxRecDepth 20000 in
theorem q_337 : (Jvm.Cond.code ({ cls := "SweptPaths$Cells", name := "wipe", desc := "()V" } : Jvm.MethodName) prog_2_method_2_code (1 : Nat) (Option.none : Option Jvm.ClassFile.FieldType)) ∈ W0 := W0_tab 337 (by rfl) (by decide +kernel)
theorem q_338 : (Jvm.Cond.methodLink "SweptPaths$Cells" (15 : Nat) ({ cls := "java/util/Arrays", name := "fill", desc := "([JJ)V" } : Jvm.MethodName)) ∈ W0 := W0_tab 338 (by decide +kernel) (by decide +kernel)
theorem q_339 : (Jvm.Cond.static ({ cls := "java/util/Arrays", name := "fill", desc := "([JJ)V" } : Jvm.MethodName)) ∈ W0 := W0_tab 339 (by decide +kernel) (by decide +kernel)
set_option maxRecDepth 20000 in
theorem q_340 : (Jvm.Cond.code ({ cls := "java/util/Arrays", name := "fill", desc := "([JJ)V" } : Jvm.MethodName) prog_18_method_101_code (5 : Nat) (Option.none : Option Jvm.ClassFile.FieldType)) ∈ W0 := W0_tab 340 (by rfl) (by decide +kernel)
theorem q_341 : (Jvm.Cond.methodLink "SweptPaths$Run" (78 : Nat) ({ cls := "SweptPaths$Run", name := "placeTrailers", desc := "()V" } : Jvm.MethodName)) ∈ W0 := W0_tab 341 (by decide +kernel) (by decide +kernel)
theorem q_343 : (Jvm.Cond.instanceMethod ({ cls := "SweptPaths$Run", name := "placeTrailers", desc := "()V" } : Jvm.MethodName)) ∈ W0 := W0_tab 343 (by decide +kernel) (by decide +kernel)
set_option maxRecDepth 20000 in
theorem q_344 : (Jvm.Cond.code ({ cls := "SweptPaths$Run", name := "placeTrailers", desc := "()V" } : Jvm.MethodName) prog_6_method_9_code (6 : Nat) (Option.none : Option Jvm.ClassFile.FieldType)) ∈ W0 := W0_tab 344 (by rfl) (by decide +kernel)
theorem q_345 : (Jvm.Cond.methodLink "SweptPaths$Run" (123 : Nat) ({ cls := "SweptPaths$Directions", name := "dx", desc := "(I)I" } : Jvm.MethodName)) ∈ W0 := W0_tab 345 (by decide +kernel) (by decide +kernel)
theorem q_346 : (Jvm.Cond.static ({ cls := "SweptPaths$Directions", name := "dx", desc := "(I)I" } : Jvm.MethodName)) ∈ W0 := W0_tab 346 (by decide +kernel) (by decide +kernel)
set_option maxRecDepth 20000 in
theorem q_347 : (Jvm.Cond.code ({ cls := "SweptPaths$Directions", name := "dx", desc := "(I)I" } : Jvm.MethodName) prog_3_method_3_code (1 : Nat) (Option.some Jvm.ClassFile.FieldType.int)) ∈ W0 := W0_tab 347 (by rfl) (by decide +kernel)
theorem q_348 : (Jvm.Cond.fieldLink "SweptPaths$Directions" (9 : Nat) "SweptPaths$Directions" "DX" "[I") ∈ W0 := W0_tab 348 (by decide +kernel) (by decide +kernel)
theorem q_350 : (Jvm.Cond.methodLink "SweptPaths$Run" (127 : Nat) ({ cls := "SweptPaths$Directions", name := "dy", desc := "(I)I" } : Jvm.MethodName)) ∈ W0 := W0_tab 350 (by decide +kernel) (by decide +kernel)
theorem q_351 : (Jvm.Cond.static ({ cls := "SweptPaths$Directions", name := "dy", desc := "(I)I" } : Jvm.MethodName)) ∈ W0 := W0_tab 351 (by decide +kernel) (by decide +kernel)
set_option maxRecDepth 20000 in
theorem q_352 : (Jvm.Cond.code ({ cls := "SweptPaths$Directions", name := "dy", desc := "(I)I" } : Jvm.MethodName) prog_3_method_4_code (1 : Nat) (Option.some Jvm.ClassFile.FieldType.int)) ∈ W0 := W0_tab 352 (by rfl) (by decide +kernel)
theorem q_353 : (Jvm.Cond.methodLink "SweptPaths$Run" (81 : Nat) ({ cls := "SweptPaths$Run", name := "lookRound", desc := "()V" } : Jvm.MethodName)) ∈ W0 := W0_tab 353 (by decide +kernel) (by decide +kernel)
theorem q_355 : (Jvm.Cond.instanceMethod ({ cls := "SweptPaths$Run", name := "lookRound", desc := "()V" } : Jvm.MethodName)) ∈ W0 := W0_tab 355 (by decide +kernel) (by decide +kernel)
set_option maxRecDepth 20000 in
theorem q_356 : (Jvm.Cond.code ({ cls := "SweptPaths$Run", name := "lookRound", desc := "()V" } : Jvm.MethodName) prog_6_method_11_code (2 : Nat) (Option.none : Option Jvm.ClassFile.FieldType)) ∈ W0 := W0_tab 356 (by rfl) (by decide +kernel)
theorem q_357 : (Jvm.Cond.methodLink "SweptPaths$Run" (162 : Nat) ({ cls := "SweptPaths$Cells", name := "cover", desc := "(LSweptPaths$Shape;LSweptPaths$Pose;)V" } : Jvm.MethodName)) ∈ W0 := W0_tab 357 (by decide +kernel) (by decide +kernel)
theorem q_358 : (Jvm.Cond.instanceMethod ({ cls := "SweptPaths$Cells", name := "cover", desc := "(LSweptPaths$Shape;LSweptPaths$Pose;)V" } : Jvm.MethodName)) ∈ W0 := W0_tab 358 (by decide +kernel) (by decide +kernel)
theorem q_359 : (Jvm.Cond.selects "SweptPaths$Cells" ({ cls := "SweptPaths$Cells", name := "cover", desc := "(LSweptPaths$Shape;LSweptPaths$Pose;)V" } : Jvm.MethodName) ({ cls := "SweptPaths$Cells", name := "cover", desc := "(LSweptPaths$Shape;LSweptPaths$Pose;)V" } : Jvm.MethodName)) ∈ W0 := W0_tab 359 (by decide +kernel) (by decide +kernel)
set_option maxRecDepth 20000 in
theorem q_360 : (Jvm.Cond.code ({ cls := "SweptPaths$Cells", name := "cover", desc := "(LSweptPaths$Shape;LSweptPaths$Pose;)V" } : Jvm.MethodName) prog_2_method_4_code (25 : Nat) (Option.none : Option Jvm.ClassFile.FieldType)) ∈ W0 := W0_tab 360 (by rfl) (by decide +kernel)
theorem q_361 : (Jvm.Cond.methodLink "SweptPaths$Cells" (30 : Nat) ({ cls := "SweptPaths$Directions", name := "dx", desc := "(I)I" } : Jvm.MethodName)) ∈ W0 := W0_tab 361 (by decide +kernel) (by decide +kernel)
theorem q_362 : (Jvm.Cond.methodLink "SweptPaths$Cells" (36 : Nat) ({ cls := "SweptPaths$Directions", name := "dy", desc := "(I)I" } : Jvm.MethodName)) ∈ W0 := W0_tab 362 (by decide +kernel) (by decide +kernel)
theorem q_363 : (Jvm.Cond.methodLink "SweptPaths$Cells" (50 : Nat) ({ cls := "java/lang/Math", name := "abs", desc := "(I)I" } : Jvm.MethodName)) ∈ W0 := W0_tab 363 (by decide +kernel) (by decide +kernel)
theorem q_364 : (Jvm.Cond.static ({ cls := "java/lang/Math", name := "abs", desc := "(I)I" } : Jvm.MethodName)) ∈ W0 := W0_tab 364 (by decide +kernel) (by decide +kernel)
set_option maxRecDepth 20000 in
theorem q_365 : (Jvm.Cond.code ({ cls := "java/lang/Math", name := "abs", desc := "(I)I" } : Jvm.MethodName) prog_14_method_59_code (1 : Nat) (Option.some Jvm.ClassFile.FieldType.int)) ∈ W0 := W0_tab 365 (by rfl) (by decide +kernel)
theorem q_366 : (Jvm.Cond.methodLink "SweptPaths$Cells" (58 : Nat) ({ cls := "java/lang/Math", name := "min", desc := "(II)I" } : Jvm.MethodName)) ∈ W0 := W0_tab 366 (by decide +kernel) (by decide +kernel)
theorem q_367 : (Jvm.Cond.static ({ cls := "java/lang/Math", name := "min", desc := "(II)I" } : Jvm.MethodName)) ∈ W0 := W0_tab 367 (by decide +kernel) (by decide +kernel)
set_option maxRecDepth 20000 in
theorem q_368 : (Jvm.Cond.code ({ cls := "java/lang/Math", name := "min", desc := "(II)I" } : Jvm.MethodName) prog_14_method_69_code (2 : Nat) (Option.some Jvm.ClassFile.FieldType.int)) ∈ W0 := W0_tab 368 (by rfl) (by decide +kernel)
theorem q_369 : (Jvm.Cond.methodLink "SweptPaths$Cells" (62 : Nat) ({ cls := "SweptPaths$Cells", name := "firstFrom", desc := "(I)I" } : Jvm.MethodName)) ∈ W0 := W0_tab 369 (by decide +kernel) (by decide +kernel)
theorem q_370 : (Jvm.Cond.static ({ cls := "SweptPaths$Cells", name := "firstFrom", desc := "(I)I" } : Jvm.MethodName)) ∈ W0 := W0_tab 370 (by decide +kernel) (by decide +kernel)
set_option maxRecDepth 20000 in
theorem q_371 : (Jvm.Cond.code ({ cls := "SweptPaths$Cells", name := "firstFrom", desc := "(I)I" } : Jvm.MethodName) prog_2_method_7_code (1 : Nat) (Option.some Jvm.ClassFile.FieldType.int)) ∈ W0 := W0_tab 371 (by rfl) (by decide +kernel)
theorem q_372 : (Jvm.Cond.constant "SweptPaths$Cells" (87 : Nat) (32768 : Int32)) ∈ W0 := W0_tab 372 (by decide +kernel) (by decide +kernel)
theorem q_373 : (Jvm.Cond.methodLink "SweptPaths$Cells" (88 : Nat) ({ cls := "java/lang/Math", name := "floorDiv", desc := "(II)I" } : Jvm.MethodName)) ∈ W0 := W0_tab 373 (by decide +kernel) (by decide +kernel)
theorem q_374 : (Jvm.Cond.static ({ cls := "java/lang/Math", name := "floorDiv", desc := "(II)I" } : Jvm.MethodName)) ∈ W0 := W0_tab 374 (by decide +kernel) (by decide +kernel)
set_option maxRecDepth 20000 in
theorem q_375 : (Jvm.Cond.code ({ cls := "java/lang/Math", name := "floorDiv", desc := "(II)I" } : Jvm.MethodName) prog_14_method_47_code (3 : Nat) (Option.some Jvm.ClassFile.FieldType.int)) ∈ W0 := W0_tab 375 (by rfl) (by decide +kernel)
theorem q_376 : (Jvm.Cond.methodLink "SweptPaths$Cells" (65 : Nat) ({ cls := "java/lang/Math", name := "max", desc := "(II)I" } : Jvm.MethodName)) ∈ W0 := W0_tab 376 (by decide +kernel) (by decide +kernel)
theorem q_377 : (Jvm.Cond.static ({ cls := "java/lang/Math", name := "max", desc := "(II)I" } : Jvm.MethodName)) ∈ W0 := W0_tab 377 (by decide +kernel) (by decide +kernel)
set_option maxRecDepth 20000 in
theorem q_378 : (Jvm.Cond.code ({ cls := "java/lang/Math", name := "max", desc := "(II)I" } : Jvm.MethodName) prog_14_method_65_code (2 : Nat) (Option.some Jvm.ClassFile.FieldType.int)) ∈ W0 := W0_tab 378 (by rfl) (by decide +kernel)
theorem q_379 : (Jvm.Cond.methodLink "SweptPaths$Cells" (68 : Nat) ({ cls := "SweptPaths$Cells", name := "lastUpTo", desc := "(I)I" } : Jvm.MethodName)) ∈ W0 := W0_tab 379 (by decide +kernel) (by decide +kernel)
theorem q_380 : (Jvm.Cond.static ({ cls := "SweptPaths$Cells", name := "lastUpTo", desc := "(I)I" } : Jvm.MethodName)) ∈ W0 := W0_tab 380 (by decide +kernel) (by decide +kernel)
set_option maxRecDepth 20000 in
theorem q_381 : (Jvm.Cond.code ({ cls := "SweptPaths$Cells", name := "lastUpTo", desc := "(I)I" } : Jvm.MethodName) prog_2_method_8_code (1 : Nat) (Option.some Jvm.ClassFile.FieldType.int)) ∈ W0 := W0_tab 381 (by rfl) (by decide +kernel)
theorem q_382 : (Jvm.Cond.methodLink "SweptPaths$Cells" (74 : Nat) ({ cls := "SweptPaths$Cells", name := "middleOf", desc := "(I)I" } : Jvm.MethodName)) ∈ W0 := W0_tab 382 (by decide +kernel) (by decide +kernel)
theorem q_383 : (Jvm.Cond.static ({ cls := "SweptPaths$Cells", name := "middleOf", desc := "(I)I" } : Jvm.MethodName)) ∈ W0 := W0_tab 383 (by decide +kernel) (by decide +kernel)
set_option maxRecDepth 20000 in
theorem q_384 : (Jvm.Cond.code ({ cls := "SweptPaths$Cells", name := "middleOf", desc := "(I)I" } : Jvm.MethodName) prog_2_method_6_code (1 : Nat) (Option.some Jvm.ClassFile.FieldType.int)) ∈ W0 := W0_tab 384 (by rfl) (by decide +kernel)
theorem q_385 : (Jvm.Cond.methodLink "SweptPaths$Cells" (77 : Nat) ({ cls := "SweptPaths$Shape", name := "holds", desc := "(JJ)Z" } : Jvm.MethodName)) ∈ W0 := W0_tab 385 (by decide +kernel) (by decide +kernel)
theorem q_386 : (Jvm.Cond.instanceMethod ({ cls := "SweptPaths$Shape", name := "holds", desc := "(JJ)Z" } : Jvm.MethodName)) ∈ W0 := W0_tab 386 (by decide +kernel) (by decide +kernel)
theorem q_387 : (Jvm.Cond.selects "SweptPaths$Shape" ({ cls := "SweptPaths$Shape", name := "holds", desc := "(JJ)Z" } : Jvm.MethodName) ({ cls := "SweptPaths$Shape", name := "holds", desc := "(JJ)Z" } : Jvm.MethodName)) ∈ W0 := W0_tab 387 (by decide +kernel) (by decide +kernel)
set_option maxRecDepth 20000 in
theorem q_388 : (Jvm.Cond.code ({ cls := "SweptPaths$Shape", name := "holds", desc := "(JJ)Z" } : Jvm.MethodName) prog_8_method_2_code (5 : Nat) (Option.some Jvm.ClassFile.FieldType.boolean)) ∈ W0 := W0_tab 388 (by rfl) (by decide +kernel)
theorem q_389 : (Jvm.Cond.constantLong "SweptPaths$Shape" (18 : Nat) (16777216 : Int64)) ∈ W0 := W0_tab 389 (by decide +kernel) (by decide +kernel)
theorem q_390 : (Jvm.Cond.methodLink "SweptPaths$Cells" (81 : Nat) ({ cls := "SweptPaths$Cells", name := "mark", desc := "(II)V" } : Jvm.MethodName)) ∈ W0 := W0_tab 390 (by decide +kernel) (by decide +kernel)
theorem q_392 : (Jvm.Cond.instanceMethod ({ cls := "SweptPaths$Cells", name := "mark", desc := "(II)V" } : Jvm.MethodName)) ∈ W0 := W0_tab 392 (by decide +kernel) (by decide +kernel)
set_option maxRecDepth 20000 in
theorem q_393 : (Jvm.Cond.code ({ cls := "SweptPaths$Cells", name := "mark", desc := "(II)V" } : Jvm.MethodName) prog_2_method_5_code (6 : Nat) (Option.none : Option Jvm.ClassFile.FieldType)) ∈ W0 := W0_tab 393 (by rfl) (by decide +kernel)
theorem q_394 : (Jvm.Cond.constantLong "SweptPaths$Cells" (85 : Nat) (32768 : Int64)) ∈ W0 := W0_tab 394 (by decide +kernel) (by decide +kernel)
theorem q_395 : (Jvm.Cond.methodLink "SweptPaths$Run" (166 : Nat) ({ cls := "SweptPaths$Run", name := "lookForPoles", desc := "(I)V" } : Jvm.MethodName)) ∈ W0 := W0_tab 395 (by decide +kernel) (by decide +kernel)
theorem q_397 : (Jvm.Cond.instanceMethod ({ cls := "SweptPaths$Run", name := "lookForPoles", desc := "(I)V" } : Jvm.MethodName)) ∈ W0 := W0_tab 397 (by decide +kernel) (by decide +kernel)
set_option maxRecDepth 20000 in
theorem q_398 : (Jvm.Cond.code ({ cls := "SweptPaths$Run", name := "lookForPoles", desc := "(I)V" } : Jvm.MethodName) prog_6_method_12_code (13 : Nat) (Option.none : Option Jvm.ClassFile.FieldType)) ∈ W0 := W0_tab 398 (by rfl) (by decide +kernel)
theorem q_399 : (Jvm.Cond.methodLink "SweptPaths$Run" (179 : Nat) ({ cls := "SweptPaths$Shape", name := "holds", desc := "(JJ)Z" } : Jvm.MethodName)) ∈ W0 := W0_tab 399 (by decide +kernel) (by decide +kernel)
theorem q_400 : (Jvm.Cond.methodLink "SweptPathsLaw" (74 : Nat) ({ cls := "SweptPathsLaw", name := "start", desc := "(LSweptPaths;III)I" } : Jvm.MethodName)) ∈ W0 := W0_tab 400 (by decide +kernel) (by decide +kernel)
theorem q_401 : (Jvm.Cond.static ({ cls := "SweptPathsLaw", name := "start", desc := "(LSweptPaths;III)I" } : Jvm.MethodName)) ∈ W0 := W0_tab 401 (by decide +kernel) (by decide +kernel)
theorem q_403 : (Jvm.Cond.methodLink "SweptPathsLaw" (17 : Nat) ({ cls := "SweptPaths", name := "start", desc := "(III)V" } : Jvm.MethodName)) ∈ W0 := W0_tab 403 (by decide +kernel) (by decide +kernel)
theorem q_404 : (Jvm.Cond.instanceMethod ({ cls := "SweptPaths", name := "start", desc := "(III)V" } : Jvm.MethodName)) ∈ W0 := W0_tab 404 (by decide +kernel) (by decide +kernel)
theorem q_405 : (Jvm.Cond.selects "SweptPaths" ({ cls := "SweptPaths", name := "start", desc := "(III)V" } : Jvm.MethodName) ({ cls := "SweptPaths", name := "start", desc := "(III)V" } : Jvm.MethodName)) ∈ W0 := W0_tab 405 (by decide +kernel) (by decide +kernel)
set_option maxRecDepth 20000 in
theorem q_406 : (Jvm.Cond.code ({ cls := "SweptPaths", name := "start", desc := "(III)V" } : Jvm.MethodName) prog_1_method_3_code (4 : Nat) (Option.none : Option Jvm.ClassFile.FieldType)) ∈ W0 := W0_tab 406 (by rfl) (by decide +kernel)
theorem q_407 : (Jvm.Cond.methodLink "SweptPathsLaw" (78 : Nat) ({ cls := "SweptPathsLaw", name := "step", desc := "(LSweptPaths;I[J)I" } : Jvm.MethodName)) ∈ W0 := W0_tab 407 (by decide +kernel) (by decide +kernel)
theorem q_408 : (Jvm.Cond.static ({ cls := "SweptPathsLaw", name := "step", desc := "(LSweptPaths;I[J)I" } : Jvm.MethodName)) ∈ W0 := W0_tab 408 (by decide +kernel) (by decide +kernel)
theorem q_410 : (Jvm.Cond.methodLink "SweptPathsLaw" (21 : Nat) ({ cls := "SweptPaths", name := "step", desc := "(I)I" } : Jvm.MethodName)) ∈ W0 := W0_tab 410 (by decide +kernel) (by decide +kernel)
theorem q_411 : (Jvm.Cond.instanceMethod ({ cls := "SweptPaths", name := "step", desc := "(I)I" } : Jvm.MethodName)) ∈ W0 := W0_tab 411 (by decide +kernel) (by decide +kernel)
theorem q_412 : (Jvm.Cond.selects "SweptPaths" ({ cls := "SweptPaths", name := "step", desc := "(I)I" } : Jvm.MethodName) ({ cls := "SweptPaths", name := "step", desc := "(I)I" } : Jvm.MethodName)) ∈ W0 := W0_tab 412 (by decide +kernel) (by decide +kernel)
set_option maxRecDepth 20000 in
theorem q_413 : (Jvm.Cond.code ({ cls := "SweptPaths", name := "step", desc := "(I)I" } : Jvm.MethodName) prog_1_method_4_code (3 : Nat) (Option.some Jvm.ClassFile.FieldType.int)) ∈ W0 := W0_tab 413 (by rfl) (by decide +kernel)
theorem q_414 : (Jvm.Cond.methodLink "SweptPathsLaw" (82 : Nat) ({ cls := "SweptPathsLaw", name := "pole", desc := "(LSweptPaths;II[J)I" } : Jvm.MethodName)) ∈ W0 := W0_tab 414 (by decide +kernel) (by decide +kernel)
theorem q_415 : (Jvm.Cond.static ({ cls := "SweptPathsLaw", name := "pole", desc := "(LSweptPaths;II[J)I" } : Jvm.MethodName)) ∈ W0 := W0_tab 415 (by decide +kernel) (by decide +kernel)
theorem q_417 : (Jvm.Cond.methodLink "SweptPathsLaw" (25 : Nat) ({ cls := "SweptPaths", name := "pole", desc := "(II)I" } : Jvm.MethodName)) ∈ W0 := W0_tab 417 (by decide +kernel) (by decide +kernel)
theorem q_418 : (Jvm.Cond.instanceMethod ({ cls := "SweptPaths", name := "pole", desc := "(II)I" } : Jvm.MethodName)) ∈ W0 := W0_tab 418 (by decide +kernel) (by decide +kernel)
theorem q_419 : (Jvm.Cond.selects "SweptPaths" ({ cls := "SweptPaths", name := "pole", desc := "(II)I" } : Jvm.MethodName) ({ cls := "SweptPaths", name := "pole", desc := "(II)I" } : Jvm.MethodName)) ∈ W0 := W0_tab 419 (by decide +kernel) (by decide +kernel)
set_option maxRecDepth 20000 in
theorem q_420 : (Jvm.Cond.code ({ cls := "SweptPaths", name := "pole", desc := "(II)I" } : Jvm.MethodName) prog_1_method_5_code (4 : Nat) (Option.some Jvm.ClassFile.FieldType.int)) ∈ W0 := W0_tab 420 (by rfl) (by decide +kernel)
theorem q_422 : (Jvm.Cond.methodLink "SweptPathsLaw" (86 : Nat) ({ cls := "SweptPathsLaw", name := "go", desc := "(LSweptPaths;IIZ[J)I" } : Jvm.MethodName)) ∈ W0 := W0_tab 422 (by decide +kernel) (by decide +kernel)
theorem q_423 : (Jvm.Cond.static ({ cls := "SweptPathsLaw", name := "go", desc := "(LSweptPaths;IIZ[J)I" } : Jvm.MethodName)) ∈ W0 := W0_tab 423 (by decide +kernel) (by decide +kernel)
theorem q_425 : (Jvm.Cond.methodLink "SweptPathsLaw" (29 : Nat) ({ cls := "SweptPaths", name := "go", desc := "(IIZ)I" } : Jvm.MethodName)) ∈ W0 := W0_tab 425 (by decide +kernel) (by decide +kernel)
theorem q_426 : (Jvm.Cond.instanceMethod ({ cls := "SweptPaths", name := "go", desc := "(IIZ)I" } : Jvm.MethodName)) ∈ W0 := W0_tab 426 (by decide +kernel) (by decide +kernel)
theorem q_427 : (Jvm.Cond.selects "SweptPaths" ({ cls := "SweptPaths", name := "go", desc := "(IIZ)I" } : Jvm.MethodName) ({ cls := "SweptPaths", name := "go", desc := "(IIZ)I" } : Jvm.MethodName)) ∈ W0 := W0_tab 427 (by decide +kernel) (by decide +kernel)
set_option maxRecDepth 20000 in
theorem q_428 : (Jvm.Cond.code ({ cls := "SweptPaths", name := "go", desc := "(IIZ)I" } : Jvm.MethodName) prog_1_method_6_code (4 : Nat) (Option.some Jvm.ClassFile.FieldType.int)) ∈ W0 := W0_tab 428 (by rfl) (by decide +kernel)
theorem q_429 : (Jvm.Cond.methodLink "SweptPaths" (100 : Nat) ({ cls := "SweptPaths", name := "demandSomeBody", desc := "()V" } : Jvm.MethodName)) ∈ W0 := W0_tab 429 (by decide +kernel) (by decide +kernel)
theorem q_431 : (Jvm.Cond.instanceMethod ({ cls := "SweptPaths", name := "demandSomeBody", desc := "()V" } : Jvm.MethodName)) ∈ W0 := W0_tab 431 (by decide +kernel) (by decide +kernel)
set_option maxRecDepth 20000 in
theorem q_432 : (Jvm.Cond.code ({ cls := "SweptPaths", name := "demandSomeBody", desc := "()V" } : Jvm.MethodName) prog_1_method_18_code (1 : Nat) (Option.none : Option Jvm.ClassFile.FieldType)) ∈ W0 := W0_tab 432 (by rfl) (by decide +kernel)
theorem q_434 : (Jvm.Cond.methodLink "SweptPaths" (103 : Nat) ({ cls := "SweptPaths$Run", name := "walk", desc := "(IIZ)V" } : Jvm.MethodName)) ∈ W0 := W0_tab 434 (by decide +kernel) (by decide +kernel)
theorem q_435 : (Jvm.Cond.instanceMethod ({ cls := "SweptPaths$Run", name := "walk", desc := "(IIZ)V" } : Jvm.MethodName)) ∈ W0 := W0_tab 435 (by decide +kernel) (by decide +kernel)
theorem q_436 : (Jvm.Cond.selects "SweptPaths$Run" ({ cls := "SweptPaths$Run", name := "walk", desc := "(IIZ)V" } : Jvm.MethodName) ({ cls := "SweptPaths$Run", name := "walk", desc := "(IIZ)V" } : Jvm.MethodName)) ∈ W0 := W0_tab 436 (by decide +kernel) (by decide +kernel)
set_option maxRecDepth 20000 in
theorem q_437 : (Jvm.Cond.code ({ cls := "SweptPaths$Run", name := "walk", desc := "(IIZ)V" } : Jvm.MethodName) prog_6_method_4_code (6 : Nat) (Option.none : Option Jvm.ClassFile.FieldType)) ∈ W0 := W0_tab 437 (by rfl) (by decide +kernel)
theorem q_438 : (Jvm.Cond.methodLink "SweptPaths$Run" (110 : Nat) ({ cls := "SweptPaths$Run", name := "move", desc := "(II)V" } : Jvm.MethodName)) ∈ W0 := W0_tab 438 (by decide +kernel) (by decide +kernel)
theorem q_440 : (Jvm.Cond.instanceMethod ({ cls := "SweptPaths$Run", name := "move", desc := "(II)V" } : Jvm.MethodName)) ∈ W0 := W0_tab 440 (by decide +kernel) (by decide +kernel)
set_option maxRecDepth 20000 in
theorem q_441 : (Jvm.Cond.code ({ cls := "SweptPaths$Run", name := "move", desc := "(II)V" } : Jvm.MethodName) prog_6_method_7_code (5 : Nat) (Option.none : Option Jvm.ClassFile.FieldType)) ∈ W0 := W0_tab 441 (by rfl) (by decide +kernel)
theorem q_442 : (Jvm.Cond.methodLink "SweptPaths$Run" (130 : Nat) ({ cls := "SweptPaths$Directions", name := "round", desc := "(I)I" } : Jvm.MethodName)) ∈ W0 := W0_tab 442 (by decide +kernel) (by decide +kernel)
theorem q_443 : (Jvm.Cond.static ({ cls := "SweptPaths$Directions", name := "round", desc := "(I)I" } : Jvm.MethodName)) ∈ W0 := W0_tab 443 (by decide +kernel) (by decide +kernel)
set_option maxRecDepth 20000 in
theorem q_444 : (Jvm.Cond.code ({ cls := "SweptPaths$Directions", name := "round", desc := "(I)I" } : Jvm.MethodName) prog_3_method_2_code (1 : Nat) (Option.some Jvm.ClassFile.FieldType.int)) ∈ W0 := W0_tab 444 (by rfl) (by decide +kernel)
theorem q_445 : (Jvm.Cond.methodLink "SweptPaths$Run" (133 : Nat) ({ cls := "SweptPaths$Run", name := "swing", desc := "(II)V" } : Jvm.MethodName)) ∈ W0 := W0_tab 445 (by decide +kernel) (by decide +kernel)
theorem q_447 : (Jvm.Cond.instanceMethod ({ cls := "SweptPaths$Run", name := "swing", desc := "(II)V" } : Jvm.MethodName)) ∈ W0 := W0_tab 447 (by decide +kernel) (by decide +kernel)
set_option maxRecDepth 20000 in
theorem q_448 : (Jvm.Cond.code ({ cls := "SweptPaths$Run", name := "swing", desc := "(II)V" } : Jvm.MethodName) prog_6_method_8_code (7 : Nat) (Option.none : Option Jvm.ClassFile.FieldType)) ∈ W0 := W0_tab 448 (by rfl) (by decide +kernel)
theorem q_449 : (Jvm.Cond.methodLink "SweptPaths$Run" (140 : Nat) ({ cls := "SweptPaths$Run", name := "askewOf", desc := "(I)I" } : Jvm.MethodName)) ∈ W0 := W0_tab 449 (by decide +kernel) (by decide +kernel)
theorem q_450 : (Jvm.Cond.instanceMethod ({ cls := "SweptPaths$Run", name := "askewOf", desc := "(I)I" } : Jvm.MethodName)) ∈ W0 := W0_tab 450 (by decide +kernel) (by decide +kernel)
theorem q_451 : (Jvm.Cond.selects "SweptPaths$Run" ({ cls := "SweptPaths$Run", name := "askewOf", desc := "(I)I" } : Jvm.MethodName) ({ cls := "SweptPaths$Run", name := "askewOf", desc := "(I)I" } : Jvm.MethodName)) ∈ W0 := W0_tab 451 (by decide +kernel) (by decide +kernel)
set_option maxRecDepth 20000 in
theorem q_452 : (Jvm.Cond.code ({ cls := "SweptPaths$Run", name := "askewOf", desc := "(I)I" } : Jvm.MethodName) prog_6_method_6_code (2 : Nat) (Option.some Jvm.ClassFile.FieldType.int)) ∈ W0 := W0_tab 452 (by rfl) (by decide +kernel)
theorem q_453 : (Jvm.Cond.methodLink "SweptPaths$Run" (117 : Nat) ({ cls := "SweptPaths$Directions", name := "askew", desc := "(II)I" } : Jvm.MethodName)) ∈ W0 := W0_tab 453 (by decide +kernel) (by decide +kernel)
theorem q_454 : (Jvm.Cond.static ({ cls := "SweptPaths$Directions", name := "askew", desc := "(II)I" } : Jvm.MethodName)) ∈ W0 := W0_tab 454 (by decide +kernel) (by decide +kernel)
set_option maxRecDepth 20000 in
theorem q_455 : (Jvm.Cond.code ({ cls := "SweptPaths$Directions", name := "askew", desc := "(II)I" } : Jvm.MethodName) prog_3_method_5_code (2 : Nat) (Option.some Jvm.ClassFile.FieldType.int)) ∈ W0 := W0_tab 455 (by rfl) (by decide +kernel)
theorem q_456 : (Jvm.Cond.methodLink "SweptPaths$Run" (143 : Nat) ({ cls := "SweptPaths$Shape", name := "directionsIn", desc := "(I)I" } : Jvm.MethodName)) ∈ W0 := W0_tab 456 (by decide +kernel) (by decide +kernel)
theorem q_457 : (Jvm.Cond.instanceMethod ({ cls := "SweptPaths$Shape", name := "directionsIn", desc := "(I)I" } : Jvm.MethodName)) ∈ W0 := W0_tab 457 (by decide +kernel) (by decide +kernel)
theorem q_458 : (Jvm.Cond.selects "SweptPaths$Shape" ({ cls := "SweptPaths$Shape", name := "directionsIn", desc := "(I)I" } : Jvm.MethodName) ({ cls := "SweptPaths$Shape", name := "directionsIn", desc := "(I)I" } : Jvm.MethodName)) ∈ W0 := W0_tab 458 (by decide +kernel) (by decide +kernel)
set_option maxRecDepth 20000 in
theorem q_459 : (Jvm.Cond.code ({ cls := "SweptPaths$Shape", name := "directionsIn", desc := "(I)I" } : Jvm.MethodName) prog_8_method_3_code (2 : Nat) (Option.some Jvm.ClassFile.FieldType.int)) ∈ W0 := W0_tab 459 (by rfl) (by decide +kernel)
theorem q_460 : (Jvm.Cond.methodLink "SweptPaths$Run" (114 : Nat) ({ cls := "SweptPaths$Run", name := "measureAskew", desc := "()V" } : Jvm.MethodName)) ∈ W0 := W0_tab 460 (by decide +kernel) (by decide +kernel)
theorem q_462 : (Jvm.Cond.instanceMethod ({ cls := "SweptPaths$Run", name := "measureAskew", desc := "()V" } : Jvm.MethodName)) ∈ W0 := W0_tab 462 (by decide +kernel) (by decide +kernel)
set_option maxRecDepth 20000 in
theorem q_463 : (Jvm.Cond.code ({ cls := "SweptPaths$Run", name := "measureAskew", desc := "()V" } : Jvm.MethodName) prog_6_method_10_code (3 : Nat) (Option.none : Option Jvm.ClassFile.FieldType)) ∈ W0 := W0_tab 463 (by rfl) (by decide +kernel)
theorem q_464 : (Jvm.Cond.methodLink "SweptPaths$Run" (154 : Nat) ({ cls := "java/lang/Math", name := "abs", desc := "(I)I" } : Jvm.MethodName)) ∈ W0 := W0_tab 464 (by decide +kernel) (by decide +kernel)
theorem q_465 : (Jvm.Cond.methodLink "SweptPaths$Run" (159 : Nat) ({ cls := "java/lang/Math", name := "max", desc := "(II)I" } : Jvm.MethodName)) ∈ W0 := W0_tab 465 (by decide +kernel) (by decide +kernel)
theorem q_466 : (Jvm.Cond.methodLink "SweptPathsLaw" (90 : Nat) ({ cls := "SweptPathsLaw", name := "told", desc := "(LSweptPaths;II[J)I" } : Jvm.MethodName)) ∈ W0 := W0_tab 466 (by decide +kernel) (by decide +kernel)
theorem q_467 : (Jvm.Cond.static ({ cls := "SweptPathsLaw", name := "told", desc := "(LSweptPaths;II[J)I" } : Jvm.MethodName)) ∈ W0 := W0_tab 467 (by decide +kernel) (by decide +kernel)
theorem q_469 : (Jvm.Cond.methodLink "SweptPathsLaw" (33 : Nat) ({ cls := "SweptPaths", name := "told", desc := "(II)I" } : Jvm.MethodName)) ∈ W0 := W0_tab 469 (by decide +kernel) (by decide +kernel)
theorem q_470 : (Jvm.Cond.instanceMethod ({ cls := "SweptPaths", name := "told", desc := "(II)I" } : Jvm.MethodName)) ∈ W0 := W0_tab 470 (by decide +kernel) (by decide +kernel)
theorem q_471 : (Jvm.Cond.selects "SweptPaths" ({ cls := "SweptPaths", name := "told", desc := "(II)I" } : Jvm.MethodName) ({ cls := "SweptPaths", name := "told", desc := "(II)I" } : Jvm.MethodName)) ∈ W0 := W0_tab 471 (by decide +kernel) (by decide +kernel)
set_option maxRecDepth 20000 in
theorem q_472 : (Jvm.Cond.code ({ cls := "SweptPaths", name := "told", desc := "(II)I" } : Jvm.MethodName) prog_1_method_7_code (4 : Nat) (Option.some Jvm.ClassFile.FieldType.int)) ∈ W0 := W0_tab 472 (by rfl) (by decide +kernel)
theorem q_473 : (Jvm.Cond.methodLink "SweptPaths" (125 : Nat) ({ cls := "SweptPaths$Run", name := "askewOf", desc := "(I)I" } : Jvm.MethodName)) ∈ W0 := W0_tab 473 (by decide +kernel) (by decide +kernel)
theorem q_474 : (Jvm.Cond.methodLink "SweptPathsLaw" (93 : Nat) ({ cls := "SweptPathsLaw", name := "corner", desc := "(LSweptPaths;III[J)I" } : Jvm.MethodName)) ∈ W0 := W0_tab 474 (by decide +kernel) (by decide +kernel)
theorem q_475 : (Jvm.Cond.static ({ cls := "SweptPathsLaw", name := "corner", desc := "(LSweptPaths;III[J)I" } : Jvm.MethodName)) ∈ W0 := W0_tab 475 (by decide +kernel) (by decide +kernel)
theorem q_477 : (Jvm.Cond.methodLink "SweptPathsLaw" (36 : Nat) ({ cls := "SweptPaths", name := "corner", desc := "(III)I" } : Jvm.MethodName)) ∈ W0 := W0_tab 477 (by decide +kernel) (by decide +kernel)
theorem q_478 : (Jvm.Cond.instanceMethod ({ cls := "SweptPaths", name := "corner", desc := "(III)I" } : Jvm.MethodName)) ∈ W0 := W0_tab 478 (by decide +kernel) (by decide +kernel)
theorem q_479 : (Jvm.Cond.selects "SweptPaths" ({ cls := "SweptPaths", name := "corner", desc := "(III)I" } : Jvm.MethodName) ({ cls := "SweptPaths", name := "corner", desc := "(III)I" } : Jvm.MethodName)) ∈ W0 := W0_tab 479 (by decide +kernel) (by decide +kernel)
set_option maxRecDepth 20000 in
theorem q_480 : (Jvm.Cond.code ({ cls := "SweptPaths", name := "corner", desc := "(III)I" } : Jvm.MethodName) prog_1_method_8_code (10 : Nat) (Option.some Jvm.ClassFile.FieldType.int)) ∈ W0 := W0_tab 480 (by rfl) (by decide +kernel)
theorem q_481 : (Jvm.Cond.methodLink "SweptPaths" (132 : Nat) ({ cls := "SweptPaths$Directions", name := "dx", desc := "(I)I" } : Jvm.MethodName)) ∈ W0 := W0_tab 481 (by decide +kernel) (by decide +kernel)
theorem q_482 : (Jvm.Cond.methodLink "SweptPaths" (135 : Nat) ({ cls := "SweptPaths$Directions", name := "dy", desc := "(I)I" } : Jvm.MethodName)) ∈ W0 := W0_tab 482 (by decide +kernel) (by decide +kernel)
theorem q_483 : (Jvm.Cond.methodLink "SweptPathsLaw" (101 : Nat) ({ cls := "SweptPathsLaw", name := "cell", desc := "(LSweptPaths;II[J)I" } : Jvm.MethodName)) ∈ W0 := W0_tab 483 (by decide +kernel) (by decide +kernel)
theorem q_484 : (Jvm.Cond.static ({ cls := "SweptPathsLaw", name := "cell", desc := "(LSweptPaths;II[J)I" } : Jvm.MethodName)) ∈ W0 := W0_tab 484 (by decide +kernel) (by decide +kernel)
theorem q_486 : (Jvm.Cond.methodLink "SweptPathsLaw" (40 : Nat) ({ cls := "SweptPaths", name := "cell", desc := "(II)Z" } : Jvm.MethodName)) ∈ W0 := W0_tab 486 (by decide +kernel) (by decide +kernel)
theorem q_487 : (Jvm.Cond.instanceMethod ({ cls := "SweptPaths", name := "cell", desc := "(II)Z" } : Jvm.MethodName)) ∈ W0 := W0_tab 487 (by decide +kernel) (by decide +kernel)
theorem q_488 : (Jvm.Cond.selects "SweptPaths" ({ cls := "SweptPaths", name := "cell", desc := "(II)Z" } : Jvm.MethodName) ({ cls := "SweptPaths", name := "cell", desc := "(II)Z" } : Jvm.MethodName)) ∈ W0 := W0_tab 488 (by decide +kernel) (by decide +kernel)
set_option maxRecDepth 20000 in
theorem q_489 : (Jvm.Cond.code ({ cls := "SweptPaths", name := "cell", desc := "(II)Z" } : Jvm.MethodName) prog_1_method_10_code (3 : Nat) (Option.some Jvm.ClassFile.FieldType.boolean)) ∈ W0 := W0_tab 489 (by rfl) (by decide +kernel)
theorem q_490 : (Jvm.Cond.methodLink "SweptPaths" (147 : Nat) ({ cls := "SweptPaths$Cells", name := "has", desc := "(II)Z" } : Jvm.MethodName)) ∈ W0 := W0_tab 490 (by decide +kernel) (by decide +kernel)
theorem q_491 : (Jvm.Cond.instanceMethod ({ cls := "SweptPaths$Cells", name := "has", desc := "(II)Z" } : Jvm.MethodName)) ∈ W0 := W0_tab 491 (by decide +kernel) (by decide +kernel)
theorem q_492 : (Jvm.Cond.selects "SweptPaths$Cells" ({ cls := "SweptPaths$Cells", name := "has", desc := "(II)Z" } : Jvm.MethodName) ({ cls := "SweptPaths$Cells", name := "has", desc := "(II)Z" } : Jvm.MethodName)) ∈ W0 := W0_tab 492 (by decide +kernel) (by decide +kernel)
set_option maxRecDepth 20000 in
theorem q_493 : (Jvm.Cond.code ({ cls := "SweptPaths$Cells", name := "has", desc := "(II)Z" } : Jvm.MethodName) prog_2_method_3_code (5 : Nat) (Option.some Jvm.ClassFile.FieldType.boolean)) ∈ W0 := W0_tab 493 (by rfl) (by decide +kernel)
theorem q_494 : (Jvm.Cond.methodLink "SweptPathsLaw" (104 : Nat) ({ cls := "SweptPathsLaw", name := "clash", desc := "(LSweptPaths;I[J)I" } : Jvm.MethodName)) ∈ W0 := W0_tab 494 (by decide +kernel) (by decide +kernel)
theorem q_495 : (Jvm.Cond.static ({ cls := "SweptPathsLaw", name := "clash", desc := "(LSweptPaths;I[J)I" } : Jvm.MethodName)) ∈ W0 := W0_tab 495 (by decide +kernel) (by decide +kernel)
theorem q_497 : (Jvm.Cond.methodLink "SweptPathsLaw" (44 : Nat) ({ cls := "SweptPaths", name := "clash", desc := "(I)I" } : Jvm.MethodName)) ∈ W0 := W0_tab 497 (by decide +kernel) (by decide +kernel)
theorem q_498 : (Jvm.Cond.instanceMethod ({ cls := "SweptPaths", name := "clash", desc := "(I)I" } : Jvm.MethodName)) ∈ W0 := W0_tab 498 (by decide +kernel) (by decide +kernel)
theorem q_499 : (Jvm.Cond.selects "SweptPaths" ({ cls := "SweptPaths", name := "clash", desc := "(I)I" } : Jvm.MethodName) ({ cls := "SweptPaths", name := "clash", desc := "(I)I" } : Jvm.MethodName)) ∈ W0 := W0_tab 499 (by decide +kernel) (by decide +kernel)
set_option maxRecDepth 20000 in
theorem q_500 : (Jvm.Cond.code ({ cls := "SweptPaths", name := "clash", desc := "(I)I" } : Jvm.MethodName) prog_1_method_11_code (2 : Nat) (Option.some Jvm.ClassFile.FieldType.int)) ∈ W0 := W0_tab 500 (by rfl) (by decide +kernel)
theorem q_501 : (Jvm.Cond.methodLink "SweptPathsLaw" (112 : Nat) ({ cls := "SweptPathsLaw", name := "part", desc := "(LSweptPaths;IIIZ[J)I" } : Jvm.MethodName)) ∈ W0 := W0_tab 501 (by decide +kernel) (by decide +kernel)
theorem q_502 : (Jvm.Cond.static ({ cls := "SweptPathsLaw", name := "part", desc := "(LSweptPaths;IIIZ[J)I" } : Jvm.MethodName)) ∈ W0 := W0_tab 502 (by decide +kernel) (by decide +kernel)
theorem q_504 : (Jvm.Cond.methodLink "SweptPathsLaw" (47 : Nat) ({ cls := "SweptPaths", name := "part", desc := "(IIIZ)I" } : Jvm.MethodName)) ∈ W0 := W0_tab 504 (by decide +kernel) (by decide +kernel)
theorem q_505 : (Jvm.Cond.instanceMethod ({ cls := "SweptPaths", name := "part", desc := "(IIIZ)I" } : Jvm.MethodName)) ∈ W0 := W0_tab 505 (by decide +kernel) (by decide +kernel)
theorem q_506 : (Jvm.Cond.selects "SweptPaths" ({ cls := "SweptPaths", name := "part", desc := "(IIIZ)I" } : Jvm.MethodName) ({ cls := "SweptPaths", name := "part", desc := "(IIIZ)I" } : Jvm.MethodName)) ∈ W0 := W0_tab 506 (by decide +kernel) (by decide +kernel)
set_option maxRecDepth 20000 in
theorem q_507 : (Jvm.Cond.code ({ cls := "SweptPaths", name := "part", desc := "(IIIZ)I" } : Jvm.MethodName) prog_1_method_13_code (6 : Nat) (Option.some Jvm.ClassFile.FieldType.int)) ∈ W0 := W0_tab 507 (by rfl) (by decide +kernel)
theorem q_508 : (Jvm.Cond.methodLink "SweptPaths" (164 : Nat) ({ cls := "SweptPaths$Plan", name := "add", desc := "(IIZ)Z" } : Jvm.MethodName)) ∈ W0 := W0_tab 508 (by decide +kernel) (by decide +kernel)
theorem q_509 : (Jvm.Cond.instanceMethod ({ cls := "SweptPaths$Plan", name := "add", desc := "(IIZ)Z" } : Jvm.MethodName)) ∈ W0 := W0_tab 509 (by decide +kernel) (by decide +kernel)
theorem q_510 : (Jvm.Cond.selects "SweptPaths$Plan" ({ cls := "SweptPaths$Plan", name := "add", desc := "(IIZ)Z" } : Jvm.MethodName) ({ cls := "SweptPaths$Plan", name := "add", desc := "(IIZ)Z" } : Jvm.MethodName)) ∈ W0 := W0_tab 510 (by decide +kernel) (by decide +kernel)
set_option maxRecDepth 20000 in
theorem q_511 : (Jvm.Cond.code ({ cls := "SweptPaths$Plan", name := "add", desc := "(IIZ)Z" } : Jvm.MethodName) prog_4_method_2_code (4 : Nat) (Option.some Jvm.ClassFile.FieldType.boolean)) ∈ W0 := W0_tab 511 (by rfl) (by decide +kernel)
theorem q_513 : (Jvm.Cond.methodLink "SweptPathsLaw" (116 : Nat) ({ cls := "SweptPathsLaw", name := "clear", desc := "(LSweptPaths;I[J)I" } : Jvm.MethodName)) ∈ W0 := W0_tab 513 (by decide +kernel) (by decide +kernel)
theorem q_514 : (Jvm.Cond.static ({ cls := "SweptPathsLaw", name := "clear", desc := "(LSweptPaths;I[J)I" } : Jvm.MethodName)) ∈ W0 := W0_tab 514 (by decide +kernel) (by decide +kernel)
theorem q_516 : (Jvm.Cond.methodLink "SweptPathsLaw" (51 : Nat) ({ cls := "SweptPaths", name := "clear", desc := "(I)I" } : Jvm.MethodName)) ∈ W0 := W0_tab 516 (by decide +kernel) (by decide +kernel)
theorem q_517 : (Jvm.Cond.instanceMethod ({ cls := "SweptPaths", name := "clear", desc := "(I)I" } : Jvm.MethodName)) ∈ W0 := W0_tab 517 (by decide +kernel) (by decide +kernel)
theorem q_518 : (Jvm.Cond.selects "SweptPaths" ({ cls := "SweptPaths", name := "clear", desc := "(I)I" } : Jvm.MethodName) ({ cls := "SweptPaths", name := "clear", desc := "(I)I" } : Jvm.MethodName)) ∈ W0 := W0_tab 518 (by decide +kernel) (by decide +kernel)
set_option maxRecDepth 20000 in
theorem q_519 : (Jvm.Cond.code ({ cls := "SweptPaths", name := "clear", desc := "(I)I" } : Jvm.MethodName) prog_1_method_14_code (3 : Nat) (Option.some Jvm.ClassFile.FieldType.int)) ∈ W0 := W0_tab 519 (by rfl) (by decide +kernel)
theorem q_520 : (Jvm.Cond.methodLink "SweptPathsLaw" (119 : Nat) ({ cls := "SweptPathsLaw", name := "best", desc := "(LSweptPaths;[J)I" } : Jvm.MethodName)) ∈ W0 := W0_tab 520 (by decide +kernel) (by decide +kernel)
theorem q_521 : (Jvm.Cond.static ({ cls := "SweptPathsLaw", name := "best", desc := "(LSweptPaths;[J)I" } : Jvm.MethodName)) ∈ W0 := W0_tab 521 (by decide +kernel) (by decide +kernel)
theorem q_523 : (Jvm.Cond.methodLink "SweptPathsLaw" (54 : Nat) ({ cls := "SweptPaths", name := "best", desc := "()I" } : Jvm.MethodName)) ∈ W0 := W0_tab 523 (by decide +kernel) (by decide +kernel)
theorem q_524 : (Jvm.Cond.instanceMethod ({ cls := "SweptPaths", name := "best", desc := "()I" } : Jvm.MethodName)) ∈ W0 := W0_tab 524 (by decide +kernel) (by decide +kernel)
theorem q_525 : (Jvm.Cond.selects "SweptPaths" ({ cls := "SweptPaths", name := "best", desc := "()I" } : Jvm.MethodName) ({ cls := "SweptPaths", name := "best", desc := "()I" } : Jvm.MethodName)) ∈ W0 := W0_tab 525 (by decide +kernel) (by decide +kernel)
set_option maxRecDepth 20000 in
theorem q_526 : (Jvm.Cond.code ({ cls := "SweptPaths", name := "best", desc := "()I" } : Jvm.MethodName) prog_1_method_15_code (4 : Nat) (Option.some Jvm.ClassFile.FieldType.int)) ∈ W0 := W0_tab 526 (by rfl) (by decide +kernel)
theorem q_527 : (Jvm.Cond.methodLink "SweptPaths" (173 : Nat) ({ cls := "SweptPaths$Run", name := "follow", desc := "(LSweptPaths$Plan;)V" } : Jvm.MethodName)) ∈ W0 := W0_tab 527 (by decide +kernel) (by decide +kernel)
theorem q_528 : (Jvm.Cond.instanceMethod ({ cls := "SweptPaths$Run", name := "follow", desc := "(LSweptPaths$Plan;)V" } : Jvm.MethodName)) ∈ W0 := W0_tab 528 (by decide +kernel) (by decide +kernel)
theorem q_529 : (Jvm.Cond.selects "SweptPaths$Run" ({ cls := "SweptPaths$Run", name := "follow", desc := "(LSweptPaths$Plan;)V" } : Jvm.MethodName) ({ cls := "SweptPaths$Run", name := "follow", desc := "(LSweptPaths$Plan;)V" } : Jvm.MethodName)) ∈ W0 := W0_tab 529 (by decide +kernel) (by decide +kernel)
set_option maxRecDepth 20000 in
theorem q_530 : (Jvm.Cond.code ({ cls := "SweptPaths$Run", name := "follow", desc := "(LSweptPaths$Plan;)V" } : Jvm.MethodName) prog_6_method_3_code (3 : Nat) (Option.none : Option Jvm.ClassFile.FieldType)) ∈ W0 := W0_tab 530 (by rfl) (by decide +kernel)
theorem q_531 : (Jvm.Cond.methodLink "SweptPaths$Run" (84 : Nat) ({ cls := "SweptPaths$Run", name := "begin", desc := "()V" } : Jvm.MethodName)) ∈ W0 := W0_tab 531 (by decide +kernel) (by decide +kernel)
theorem q_532 : (Jvm.Cond.methodLink "SweptPaths$Run" (103 : Nat) ({ cls := "SweptPaths$Run", name := "walk", desc := "(IIZ)V" } : Jvm.MethodName)) ∈ W0 := W0_tab 532 (by decide +kernel) (by decide +kernel)
theorem q_533 : (Jvm.Cond.methodLink "SweptPaths" (177 : Nat) ({ cls := "SweptPaths$Run", name := "isFaultless", desc := "()Z" } : Jvm.MethodName)) ∈ W0 := W0_tab 533 (by decide +kernel) (by decide +kernel)
theorem q_534 : (Jvm.Cond.instanceMethod ({ cls := "SweptPaths$Run", name := "isFaultless", desc := "()Z" } : Jvm.MethodName)) ∈ W0 := W0_tab 534 (by decide +kernel) (by decide +kernel)
theorem q_535 : (Jvm.Cond.selects "SweptPaths$Run" ({ cls := "SweptPaths$Run", name := "isFaultless", desc := "()Z" } : Jvm.MethodName) ({ cls := "SweptPaths$Run", name := "isFaultless", desc := "()Z" } : Jvm.MethodName)) ∈ W0 := W0_tab 535 (by decide +kernel) (by decide +kernel)
set_option maxRecDepth 20000 in
theorem q_536 : (Jvm.Cond.code ({ cls := "SweptPaths$Run", name := "isFaultless", desc := "()Z" } : Jvm.MethodName) prog_6_method_5_code (1 : Nat) (Option.some Jvm.ClassFile.FieldType.boolean)) ∈ W0 := W0_tab 536 (by rfl) (by decide +kernel)
theorem q_537 : (Jvm.Cond.methodLink "SweptPathsLaw" (123 : Nat) ({ cls := "SweptPathsLaw", name := "sweeps", desc := "(LSweptPaths;I[J)I" } : Jvm.MethodName)) ∈ W0 := W0_tab 537 (by decide +kernel) (by decide +kernel)
theorem q_538 : (Jvm.Cond.static ({ cls := "SweptPathsLaw", name := "sweeps", desc := "(LSweptPaths;I[J)I" } : Jvm.MethodName)) ∈ W0 := W0_tab 538 (by decide +kernel) (by decide +kernel)
theorem q_540 : (Jvm.Cond.methodLink "SweptPathsLaw" (58 : Nat) ({ cls := "SweptPaths", name := "sweeps", desc := "(I)I" } : Jvm.MethodName)) ∈ W0 := W0_tab 540 (by decide +kernel) (by decide +kernel)
theorem q_541 : (Jvm.Cond.instanceMethod ({ cls := "SweptPaths", name := "sweeps", desc := "(I)I" } : Jvm.MethodName)) ∈ W0 := W0_tab 541 (by decide +kernel) (by decide +kernel)
theorem q_542 : (Jvm.Cond.selects "SweptPaths" ({ cls := "SweptPaths", name := "sweeps", desc := "(I)I" } : Jvm.MethodName) ({ cls := "SweptPaths", name := "sweeps", desc := "(I)I" } : Jvm.MethodName)) ∈ W0 := W0_tab 542 (by decide +kernel) (by decide +kernel)
set_option maxRecDepth 20000 in
theorem q_543 : (Jvm.Cond.code ({ cls := "SweptPaths", name := "sweeps", desc := "(I)I" } : Jvm.MethodName) prog_1_method_16_code (2 : Nat) (Option.some Jvm.ClassFile.FieldType.int)) ∈ W0 := W0_tab 543 (by rfl) (by decide +kernel)
theorem q_544 : (Jvm.Cond.classLink "SweptPathsLaw" (62 : Nat) "SweptPathsModel") ∈ W0 := W0_tab 544 (by decide +kernel) (by decide +kernel)
theorem q_545 : (Jvm.Cond.instantiable "SweptPathsModel" (33 : Nat)) ∈ W0 := W0_tab 545 (by decide +kernel) (by decide +kernel)
theorem q_546 : (Jvm.Cond.methodLink "SweptPathsLaw" (64 : Nat) ({ cls := "SweptPathsModel", name := "<init>", desc := "()V" } : Jvm.MethodName)) ∈ W0 := W0_tab 546 (by decide +kernel) (by decide +kernel)
theorem q_547 : (Jvm.Cond.instanceMethod ({ cls := "SweptPathsModel", name := "<init>", desc := "()V" } : Jvm.MethodName)) ∈ W0 := W0_tab 547 (by decide +kernel) (by decide +kernel)
set_option maxRecDepth 20000 in
theorem q_548 : (Jvm.Cond.code ({ cls := "SweptPathsModel", name := "<init>", desc := "()V" } : Jvm.MethodName) prog_10_method_1_code (1 : Nat) (Option.none : Option Jvm.ClassFile.FieldType)) ∈ W0 := W0_tab 548 (by rfl) (by decide +kernel)
theorem q_549 : (Jvm.Cond.methodLink "SweptPathsModel" (1 : Nat) ({ cls := "java/lang/Object", name := "<init>", desc := "()V" } : Jvm.MethodName)) ∈ W0 := W0_tab 549 (by decide +kernel) (by decide +kernel)
theorem q_550 : (Jvm.Cond.fieldLink "SweptPathsModel" (87 : Nat) "SweptPathsModel" "thrown" "I") ∈ W0 := W0_tab 550 (by decide +kernel) (by decide +kernel)
theorem q_551 : (Jvm.Cond.fieldLink "SweptPathsModel" (7 : Nat) "SweptPathsModel" "cosines" "[I") ∈ W0 := W0_tab 551 (by decide +kernel) (by decide +kernel)
theorem q_552 : (Jvm.Cond.fieldLink "SweptPathsModel" (84 : Nat) "SweptPathsModel" "bodies" "I") ∈ W0 := W0_tab 552 (by decide +kernel) (by decide +kernel)
theorem q_553 : (Jvm.Cond.fieldLink "SweptPathsModel" (13 : Nat) "SweptPathsModel" "lengths" "[I") ∈ W0 := W0_tab 553 (by decide +kernel) (by decide +kernel)
theorem q_554 : (Jvm.Cond.fieldLink "SweptPathsModel" (16 : Nat) "SweptPathsModel" "hitches" "[I") ∈ W0 := W0_tab 554 (by decide +kernel) (by decide +kernel)
theorem q_555 : (Jvm.Cond.fieldLink "SweptPathsModel" (19 : Nat) "SweptPathsModel" "fronts" "[I") ∈ W0 := W0_tab 555 (by decide +kernel) (by decide +kernel)
theorem q_556 : (Jvm.Cond.fieldLink "SweptPathsModel" (22 : Nat) "SweptPathsModel" "rears" "[I") ∈ W0 := W0_tab 556 (by decide +kernel) (by decide +kernel)
theorem q_557 : (Jvm.Cond.fieldLink "SweptPathsModel" (25 : Nat) "SweptPathsModel" "halves" "[I") ∈ W0 := W0_tab 557 (by decide +kernel) (by decide +kernel)
theorem q_558 : (Jvm.Cond.fieldLink "SweptPathsModel" (129 : Nat) "SweptPathsModel" "startX" "I") ∈ W0 := W0_tab 558 (by decide +kernel) (by decide +kernel)
theorem q_559 : (Jvm.Cond.fieldLink "SweptPathsModel" (132 : Nat) "SweptPathsModel" "startY" "I") ∈ W0 := W0_tab 559 (by decide +kernel) (by decide +kernel)
theorem q_560 : (Jvm.Cond.fieldLink "SweptPathsModel" (135 : Nat) "SweptPathsModel" "startHeading" "I") ∈ W0 := W0_tab 560 (by decide +kernel) (by decide +kernel)
theorem q_561 : (Jvm.Cond.fieldLink "SweptPathsModel" (28 : Nat) "SweptPathsModel" "stepLength" "I") ∈ W0 := W0_tab 561 (by decide +kernel) (by decide +kernel)
theorem q_562 : (Jvm.Cond.fieldLink "SweptPathsModel" (119 : Nat) "SweptPathsModel" "poles" "I") ∈ W0 := W0_tab 562 (by decide +kernel) (by decide +kernel)
theorem q_563 : (Jvm.Cond.fieldLink "SweptPathsModel" (32 : Nat) "SweptPathsModel" "poleX" "[I") ∈ W0 := W0_tab 563 (by decide +kernel) (by decide +kernel)
theorem q_564 : (Jvm.Cond.fieldLink "SweptPathsModel" (35 : Nat) "SweptPathsModel" "poleY" "[I") ∈ W0 := W0_tab 564 (by decide +kernel) (by decide +kernel)
theorem q_565 : (Jvm.Cond.fieldLink "SweptPathsModel" (38 : Nat) "SweptPathsModel" "many" "[I") ∈ W0 := W0_tab 565 (by decide +kernel) (by decide +kernel)
theorem q_566 : (Jvm.Cond.fieldLink "SweptPathsModel" (41 : Nat) "SweptPathsModel" "turns" "[I") ∈ W0 := W0_tab 566 (by decide +kernel) (by decide +kernel)
theorem q_567 : (Jvm.Cond.fieldLink "SweptPathsModel" (44 : Nat) "SweptPathsModel" "counts" "[I") ∈ W0 := W0_tab 567 (by decide +kernel) (by decide +kernel)
theorem q_568 : (Jvm.Cond.fieldLink "SweptPathsModel" (47 : Nat) "SweptPathsModel" "ways" "[Z") ∈ W0 := W0_tab 568 (by decide +kernel) (by decide +kernel)
theorem q_569 : (Jvm.Cond.fieldLink "SweptPathsModel" (51 : Nat) "SweptPathsModel" "xs" "[I") ∈ W0 := W0_tab 569 (by decide +kernel) (by decide +kernel)
theorem q_570 : (Jvm.Cond.fieldLink "SweptPathsModel" (54 : Nat) "SweptPathsModel" "ys" "[I") ∈ W0 := W0_tab 570 (by decide +kernel) (by decide +kernel)
theorem q_571 : (Jvm.Cond.fieldLink "SweptPathsModel" (57 : Nat) "SweptPathsModel" "headings" "[I") ∈ W0 := W0_tab 571 (by decide +kernel) (by decide +kernel)
theorem q_572 : (Jvm.Cond.fieldLink "SweptPathsModel" (60 : Nat) "SweptPathsModel" "rests" "[I") ∈ W0 := W0_tab 572 (by decide +kernel) (by decide +kernel)
theorem q_573 : (Jvm.Cond.fieldLink "SweptPathsModel" (63 : Nat) "SweptPathsModel" "greatest" "[I") ∈ W0 := W0_tab 573 (by decide +kernel) (by decide +kernel)
theorem q_574 : (Jvm.Cond.fieldLink "SweptPathsModel" (122 : Nat) "SweptPathsModel" "made" "I") ∈ W0 := W0_tab 574 (by decide +kernel) (by decide +kernel)
theorem q_575 : (Jvm.Cond.fieldLink "SweptPathsModel" (125 : Nat) "SweptPathsModel" "stuck" "Z") ∈ W0 := W0_tab 575 (by decide +kernel) (by decide +kernel)
theorem q_576 : (Jvm.Cond.fieldLink "SweptPathsModel" (66 : Nat) "SweptPathsModel" "clashStep" "I") ∈ W0 := W0_tab 576 (by decide +kernel) (by decide +kernel)
theorem q_577 : (Jvm.Cond.fieldLink "SweptPathsModel" (69 : Nat) "SweptPathsModel" "clashBody" "I") ∈ W0 := W0_tab 577 (by decide +kernel) (by decide +kernel)
theorem q_578 : (Jvm.Cond.fieldLink "SweptPathsModel" (72 : Nat) "SweptPathsModel" "clashPole" "I") ∈ W0 := W0_tab 578 (by decide +kernel) (by decide +kernel)
theorem q_579 : (Jvm.Cond.fieldLink "SweptPathsModel" (116 : Nat) "SweptPathsModel" "cells" "I") ∈ W0 := W0_tab 579 (by decide +kernel) (by decide +kernel)
theorem q_580 : (Jvm.Cond.fieldLink "SweptPathsModel" (75 : Nat) "SweptPathsModel" "swept" "[Z") ∈ W0 := W0_tab 580 (by decide +kernel) (by decide +kernel)
theorem q_581 : (Jvm.Cond.fieldLink "SweptPathsModel" (78 : Nat) "SweptPathsModel" "asideNumbers" "[I") ∈ W0 := W0_tab 581 (by decide +kernel) (by decide +kernel)
theorem q_582 : (Jvm.Cond.fieldLink "SweptPathsModel" (81 : Nat) "SweptPathsModel" "asideCells" "[Z") ∈ W0 := W0_tab 582 (by decide +kernel) (by decide +kernel)
theorem q_583 : (Jvm.Cond.lays "SweptPathsModel" "SweptPathsModel" "thrown" "I") ∈ W0 := W0_tab 583 (by decide +kernel) (by decide +kernel)
theorem q_585 : (Jvm.Cond.laysFinal "SweptPathsModel" "SweptPathsModel" "cosines" "[I") ∈ W0 := W0_tab 585 (by decide +kernel) (by decide +kernel)
theorem q_587 : (Jvm.Cond.lays "SweptPathsModel" "SweptPathsModel" "bodies" "I") ∈ W0 := W0_tab 587 (by decide +kernel) (by decide +kernel)
theorem q_589 : (Jvm.Cond.laysFinal "SweptPathsModel" "SweptPathsModel" "lengths" "[I") ∈ W0 := W0_tab 589 (by decide +kernel) (by decide +kernel)
theorem q_591 : (Jvm.Cond.laysFinal "SweptPathsModel" "SweptPathsModel" "hitches" "[I") ∈ W0 := W0_tab 591 (by decide +kernel) (by decide +kernel)
theorem q_593 : (Jvm.Cond.laysFinal "SweptPathsModel" "SweptPathsModel" "fronts" "[I") ∈ W0 := W0_tab 593 (by decide +kernel) (by decide +kernel)
theorem q_595 : (Jvm.Cond.laysFinal "SweptPathsModel" "SweptPathsModel" "rears" "[I") ∈ W0 := W0_tab 595 (by decide +kernel) (by decide +kernel)
theorem q_597 : (Jvm.Cond.laysFinal "SweptPathsModel" "SweptPathsModel" "halves" "[I") ∈ W0 := W0_tab 597 (by decide +kernel) (by decide +kernel)
theorem q_599 : (Jvm.Cond.lays "SweptPathsModel" "SweptPathsModel" "startX" "I") ∈ W0 := W0_tab 599 (by decide +kernel) (by decide +kernel)
theorem q_601 : (Jvm.Cond.lays "SweptPathsModel" "SweptPathsModel" "startY" "I") ∈ W0 := W0_tab 601 (by decide +kernel) (by decide +kernel)
theorem q_603 : (Jvm.Cond.lays "SweptPathsModel" "SweptPathsModel" "startHeading" "I") ∈ W0 := W0_tab 603 (by decide +kernel) (by decide +kernel)
theorem q_605 : (Jvm.Cond.lays "SweptPathsModel" "SweptPathsModel" "stepLength" "I") ∈ W0 := W0_tab 605 (by decide +kernel) (by decide +kernel)
theorem q_607 : (Jvm.Cond.lays "SweptPathsModel" "SweptPathsModel" "poles" "I") ∈ W0 := W0_tab 607 (by decide +kernel) (by decide +kernel)
theorem q_609 : (Jvm.Cond.laysFinal "SweptPathsModel" "SweptPathsModel" "poleX" "[I") ∈ W0 := W0_tab 609 (by decide +kernel) (by decide +kernel)
theorem q_611 : (Jvm.Cond.laysFinal "SweptPathsModel" "SweptPathsModel" "poleY" "[I") ∈ W0 := W0_tab 611 (by decide +kernel) (by decide +kernel)
theorem q_613 : (Jvm.Cond.laysFinal "SweptPathsModel" "SweptPathsModel" "many" "[I") ∈ W0 := W0_tab 613 (by decide +kernel) (by decide +kernel)
theorem q_615 : (Jvm.Cond.laysFinal "SweptPathsModel" "SweptPathsModel" "turns" "[I") ∈ W0 := W0_tab 615 (by decide +kernel) (by decide +kernel)
theorem q_617 : (Jvm.Cond.laysFinal "SweptPathsModel" "SweptPathsModel" "counts" "[I") ∈ W0 := W0_tab 617 (by decide +kernel) (by decide +kernel)
theorem q_619 : (Jvm.Cond.laysFinal "SweptPathsModel" "SweptPathsModel" "ways" "[Z") ∈ W0 := W0_tab 619 (by decide +kernel) (by decide +kernel)
theorem q_621 : (Jvm.Cond.laysFinal "SweptPathsModel" "SweptPathsModel" "xs" "[I") ∈ W0 := W0_tab 621 (by decide +kernel) (by decide +kernel)
theorem q_623 : (Jvm.Cond.laysFinal "SweptPathsModel" "SweptPathsModel" "ys" "[I") ∈ W0 := W0_tab 623 (by decide +kernel) (by decide +kernel)
theorem q_625 : (Jvm.Cond.laysFinal "SweptPathsModel" "SweptPathsModel" "headings" "[I") ∈ W0 := W0_tab 625 (by decide +kernel) (by decide +kernel)
theorem q_627 : (Jvm.Cond.laysFinal "SweptPathsModel" "SweptPathsModel" "rests" "[I") ∈ W0 := W0_tab 627 (by decide +kernel) (by decide +kernel)
theorem q_629 : (Jvm.Cond.laysFinal "SweptPathsModel" "SweptPathsModel" "greatest" "[I") ∈ W0 := W0_tab 629 (by decide +kernel) (by decide +kernel)
theorem q_631 : (Jvm.Cond.lays "SweptPathsModel" "SweptPathsModel" "made" "I") ∈ W0 := W0_tab 631 (by decide +kernel) (by decide +kernel)
theorem q_633 : (Jvm.Cond.lays "SweptPathsModel" "SweptPathsModel" "stuck" "Z") ∈ W0 := W0_tab 633 (by decide +kernel) (by decide +kernel)
theorem q_635 : (Jvm.Cond.lays "SweptPathsModel" "SweptPathsModel" "clashStep" "I") ∈ W0 := W0_tab 635 (by decide +kernel) (by decide +kernel)
theorem q_637 : (Jvm.Cond.lays "SweptPathsModel" "SweptPathsModel" "clashBody" "I") ∈ W0 := W0_tab 637 (by decide +kernel) (by decide +kernel)
theorem q_639 : (Jvm.Cond.lays "SweptPathsModel" "SweptPathsModel" "clashPole" "I") ∈ W0 := W0_tab 639 (by decide +kernel) (by decide +kernel)
theorem q_641 : (Jvm.Cond.lays "SweptPathsModel" "SweptPathsModel" "cells" "I") ∈ W0 := W0_tab 641 (by decide +kernel) (by decide +kernel)
theorem q_643 : (Jvm.Cond.laysFinal "SweptPathsModel" "SweptPathsModel" "swept" "[Z") ∈ W0 := W0_tab 643 (by decide +kernel) (by decide +kernel)
theorem q_645 : (Jvm.Cond.laysFinal "SweptPathsModel" "SweptPathsModel" "asideNumbers" "[I") ∈ W0 := W0_tab 645 (by decide +kernel) (by decide +kernel)
theorem q_647 : (Jvm.Cond.laysFinal "SweptPathsModel" "SweptPathsModel" "asideCells" "[Z") ∈ W0 := W0_tab 647 (by decide +kernel) (by decide +kernel)
theorem q_650 : (Jvm.Cond.methodLink "SweptPathsLaw" (71 : Nat) ({ cls := "SweptPathsModel", name := "thrown", desc := "()I" } : Jvm.MethodName)) ∈ W0 := W0_tab 650 (by decide +kernel) (by decide +kernel)
theorem q_651 : (Jvm.Cond.instanceMethod ({ cls := "SweptPathsModel", name := "thrown", desc := "()I" } : Jvm.MethodName)) ∈ W0 := W0_tab 651 (by decide +kernel) (by decide +kernel)
theorem q_652 : (Jvm.Cond.selects "SweptPathsModel" ({ cls := "SweptPathsModel", name := "thrown", desc := "()I" } : Jvm.MethodName) ({ cls := "SweptPathsModel", name := "thrown", desc := "()I" } : Jvm.MethodName)) ∈ W0 := W0_tab 652 (by decide +kernel) (by decide +kernel)
set_option maxRecDepth 20000 in
theorem q_653 : (Jvm.Cond.code ({ cls := "SweptPathsModel", name := "thrown", desc := "()I" } : Jvm.MethodName) prog_10_method_2_code (1 : Nat) (Option.some Jvm.ClassFile.FieldType.int)) ∈ W0 := W0_tab 653 (by rfl) (by decide +kernel)
theorem q_654 : (Jvm.Cond.methodLink "SweptPathsLaw" (70 : Nat) ({ cls := "SweptPathsModel", name := "body", desc := "(IIIII)I" } : Jvm.MethodName)) ∈ W0 := W0_tab 654 (by decide +kernel) (by decide +kernel)
theorem q_655 : (Jvm.Cond.instanceMethod ({ cls := "SweptPathsModel", name := "body", desc := "(IIIII)I" } : Jvm.MethodName)) ∈ W0 := W0_tab 655 (by decide +kernel) (by decide +kernel)
theorem q_656 : (Jvm.Cond.selects "SweptPathsModel" ({ cls := "SweptPathsModel", name := "body", desc := "(IIIII)I" } : Jvm.MethodName) ({ cls := "SweptPathsModel", name := "body", desc := "(IIIII)I" } : Jvm.MethodName)) ∈ W0 := W0_tab 656 (by decide +kernel) (by decide +kernel)
set_option maxRecDepth 20000 in
theorem q_657 : (Jvm.Cond.code ({ cls := "SweptPathsModel", name := "body", desc := "(IIIII)I" } : Jvm.MethodName) prog_10_method_17_code (7 : Nat) (Option.some Jvm.ClassFile.FieldType.int)) ∈ W0 := W0_tab 657 (by rfl) (by decide +kernel)
theorem q_658 : (Jvm.Cond.methodLink "SweptPathsModel" (152 : Nat) ({ cls := "SweptPathsModel", name := "in", desc := "(III)Z" } : Jvm.MethodName)) ∈ W0 := W0_tab 658 (by decide +kernel) (by decide +kernel)
theorem q_659 : (Jvm.Cond.static ({ cls := "SweptPathsModel", name := "in", desc := "(III)Z" } : Jvm.MethodName)) ∈ W0 := W0_tab 659 (by decide +kernel) (by decide +kernel)
set_option maxRecDepth 20000 in
theorem q_660 : (Jvm.Cond.code ({ cls := "SweptPathsModel", name := "in", desc := "(III)Z" } : Jvm.MethodName) prog_10_method_3_code (3 : Nat) (Option.some Jvm.ClassFile.FieldType.boolean)) ∈ W0 := W0_tab 660 (by rfl) (by decide +kernel)
theorem q_661 : (Jvm.Cond.methodLink "SweptPathsModel" (155 : Nat) ({ cls := "SweptPathsModel", name := "beginAnew", desc := "()V" } : Jvm.MethodName)) ∈ W0 := W0_tab 661 (by decide +kernel) (by decide +kernel)
theorem q_663 : (Jvm.Cond.instanceMethod ({ cls := "SweptPathsModel", name := "beginAnew", desc := "()V" } : Jvm.MethodName)) ∈ W0 := W0_tab 663 (by decide +kernel) (by decide +kernel)
set_option maxRecDepth 20000 in
theorem q_664 : (Jvm.Cond.code ({ cls := "SweptPathsModel", name := "beginAnew", desc := "()V" } : Jvm.MethodName) prog_10_method_14_code (2 : Nat) (Option.none : Option Jvm.ClassFile.FieldType)) ∈ W0 := W0_tab 664 (by rfl) (by decide +kernel)
theorem q_665 : (Jvm.Cond.methodLink "SweptPathsModel" (138 : Nat) ({ cls := "SweptPathsModel", name := "hang", desc := "(I)V" } : Jvm.MethodName)) ∈ W0 := W0_tab 665 (by decide +kernel) (by decide +kernel)
theorem q_667 : (Jvm.Cond.instanceMethod ({ cls := "SweptPathsModel", name := "hang", desc := "(I)V" } : Jvm.MethodName)) ∈ W0 := W0_tab 667 (by decide +kernel) (by decide +kernel)
set_option maxRecDepth 20000 in
theorem q_668 : (Jvm.Cond.code ({ cls := "SweptPathsModel", name := "hang", desc := "(I)V" } : Jvm.MethodName) prog_10_method_8_code (3 : Nat) (Option.none : Option Jvm.ClassFile.FieldType)) ∈ W0 := W0_tab 668 (by rfl) (by decide +kernel)
theorem q_669 : (Jvm.Cond.methodLink "SweptPathsModel" (90 : Nat) ({ cls := "SweptPathsModel", name := "dx", desc := "(I)I" } : Jvm.MethodName)) ∈ W0 := W0_tab 669 (by decide +kernel) (by decide +kernel)
theorem q_671 : (Jvm.Cond.instanceMethod ({ cls := "SweptPathsModel", name := "dx", desc := "(I)I" } : Jvm.MethodName)) ∈ W0 := W0_tab 671 (by decide +kernel) (by decide +kernel)
set_option maxRecDepth 20000 in
theorem q_672 : (Jvm.Cond.code ({ cls := "SweptPathsModel", name := "dx", desc := "(I)I" } : Jvm.MethodName) prog_10_method_4_code (3 : Nat) (Option.some Jvm.ClassFile.FieldType.int)) ∈ W0 := W0_tab 672 (by rfl) (by decide +kernel)
theorem q_673 : (Jvm.Cond.methodLink "SweptPathsModel" (97 : Nat) ({ cls := "SweptPathsModel", name := "dy", desc := "(I)I" } : Jvm.MethodName)) ∈ W0 := W0_tab 673 (by decide +kernel) (by decide +kernel)
theorem q_675 : (Jvm.Cond.instanceMethod ({ cls := "SweptPathsModel", name := "dy", desc := "(I)I" } : Jvm.MethodName)) ∈ W0 := W0_tab 675 (by decide +kernel) (by decide +kernel)
set_option maxRecDepth 20000 in
theorem q_676 : (Jvm.Cond.code ({ cls := "SweptPathsModel", name := "dy", desc := "(I)I" } : Jvm.MethodName) prog_10_method_5_code (2 : Nat) (Option.some Jvm.ClassFile.FieldType.int)) ∈ W0 := W0_tab 676 (by rfl) (by decide +kernel)
theorem q_677 : (Jvm.Cond.methodLink "SweptPathsModel" (142 : Nat) ({ cls := "SweptPathsModel", name := "look", desc := "()V" } : Jvm.MethodName)) ∈ W0 := W0_tab 677 (by decide +kernel) (by decide +kernel)
theorem q_679 : (Jvm.Cond.instanceMethod ({ cls := "SweptPathsModel", name := "look", desc := "()V" } : Jvm.MethodName)) ∈ W0 := W0_tab 679 (by decide +kernel) (by decide +kernel)
set_option maxRecDepth 20000 in
theorem q_680 : (Jvm.Cond.code ({ cls := "SweptPathsModel", name := "look", desc := "()V" } : Jvm.MethodName) prog_10_method_13_code (9 : Nat) (Option.none : Option Jvm.ClassFile.FieldType)) ∈ W0 := W0_tab 680 (by rfl) (by decide +kernel)
theorem q_681 : (Jvm.Cond.methodLink "SweptPathsModel" (106 : Nat) ({ cls := "SweptPathsModel", name := "cellOf", desc := "(I)I" } : Jvm.MethodName)) ∈ W0 := W0_tab 681 (by decide +kernel) (by decide +kernel)
theorem q_682 : (Jvm.Cond.static ({ cls := "SweptPathsModel", name := "cellOf", desc := "(I)I" } : Jvm.MethodName)) ∈ W0 := W0_tab 682 (by decide +kernel) (by decide +kernel)
set_option maxRecDepth 20000 in
theorem q_683 : (Jvm.Cond.code ({ cls := "SweptPathsModel", name := "cellOf", desc := "(I)I" } : Jvm.MethodName) prog_10_method_10_code (2 : Nat) (Option.some Jvm.ClassFile.FieldType.int)) ∈ W0 := W0_tab 683 (by rfl) (by decide +kernel)
theorem q_684 : (Jvm.Cond.methodLink "SweptPathsModel" (102 : Nat) ({ cls := "SweptPathsModel", name := "down", desc := "(II)I" } : Jvm.MethodName)) ∈ W0 := W0_tab 684 (by decide +kernel) (by decide +kernel)
theorem q_685 : (Jvm.Cond.static ({ cls := "SweptPathsModel", name := "down", desc := "(II)I" } : Jvm.MethodName)) ∈ W0 := W0_tab 685 (by decide +kernel) (by decide +kernel)
set_option maxRecDepth 20000 in
theorem q_686 : (Jvm.Cond.code ({ cls := "SweptPathsModel", name := "down", desc := "(II)I" } : Jvm.MethodName) prog_10_method_11_code (3 : Nat) (Option.some Jvm.ClassFile.FieldType.int)) ∈ W0 := W0_tab 686 (by rfl) (by decide +kernel)
theorem q_687 : (Jvm.Cond.methodLink "SweptPathsModel" (109 : Nat) ({ cls := "SweptPathsModel", name := "within", desc := "(I)I" } : Jvm.MethodName)) ∈ W0 := W0_tab 687 (by decide +kernel) (by decide +kernel)
theorem q_688 : (Jvm.Cond.static ({ cls := "SweptPathsModel", name := "within", desc := "(I)I" } : Jvm.MethodName)) ∈ W0 := W0_tab 688 (by decide +kernel) (by decide +kernel)
set_option maxRecDepth 20000 in
theorem q_689 : (Jvm.Cond.code ({ cls := "SweptPathsModel", name := "within", desc := "(I)I" } : Jvm.MethodName) prog_10_method_12_code (1 : Nat) (Option.some Jvm.ClassFile.FieldType.int)) ∈ W0 := W0_tab 689 (by rfl) (by decide +kernel)
theorem q_690 : (Jvm.Cond.methodLink "SweptPathsModel" (112 : Nat) ({ cls := "SweptPathsModel", name := "covers", desc := "(III)Z" } : Jvm.MethodName)) ∈ W0 := W0_tab 690 (by decide +kernel) (by decide +kernel)
theorem q_692 : (Jvm.Cond.instanceMethod ({ cls := "SweptPathsModel", name := "covers", desc := "(III)Z" } : Jvm.MethodName)) ∈ W0 := W0_tab 692 (by decide +kernel) (by decide +kernel)
set_option maxRecDepth 20000 in
theorem q_693 : (Jvm.Cond.code ({ cls := "SweptPathsModel", name := "covers", desc := "(III)Z" } : Jvm.MethodName) prog_10_method_9_code (16 : Nat) (Option.some Jvm.ClassFile.FieldType.boolean)) ∈ W0 := W0_tab 693 (by rfl) (by decide +kernel)
theorem q_694 : (Jvm.Cond.constantLong "SweptPathsModel" (100 : Nat) (16777216 : Int64)) ∈ W0 := W0_tab 694 (by decide +kernel) (by decide +kernel)
theorem q_695 : (Jvm.Cond.methodLink "SweptPathsLaw" (77 : Nat) ({ cls := "SweptPathsModel", name := "start", desc := "(III)V" } : Jvm.MethodName)) ∈ W0 := W0_tab 695 (by decide +kernel) (by decide +kernel)
theorem q_696 : (Jvm.Cond.instanceMethod ({ cls := "SweptPathsModel", name := "start", desc := "(III)V" } : Jvm.MethodName)) ∈ W0 := W0_tab 696 (by decide +kernel) (by decide +kernel)
theorem q_697 : (Jvm.Cond.selects "SweptPathsModel" ({ cls := "SweptPathsModel", name := "start", desc := "(III)V" } : Jvm.MethodName) ({ cls := "SweptPathsModel", name := "start", desc := "(III)V" } : Jvm.MethodName)) ∈ W0 := W0_tab 697 (by decide +kernel) (by decide +kernel)
set_option maxRecDepth 20000 in
theorem q_698 : (Jvm.Cond.code ({ cls := "SweptPathsModel", name := "start", desc := "(III)V" } : Jvm.MethodName) prog_10_method_18_code (4 : Nat) (Option.none : Option Jvm.ClassFile.FieldType)) ∈ W0 := W0_tab 698 (by rfl) (by decide +kernel)
theorem q_699 : (Jvm.Cond.methodLink "SweptPathsLaw" (81 : Nat) ({ cls := "SweptPathsModel", name := "step", desc := "(I)I" } : Jvm.MethodName)) ∈ W0 := W0_tab 699 (by decide +kernel) (by decide +kernel)
theorem q_700 : (Jvm.Cond.instanceMethod ({ cls := "SweptPathsModel", name := "step", desc := "(I)I" } : Jvm.MethodName)) ∈ W0 := W0_tab 700 (by decide +kernel) (by decide +kernel)
theorem q_701 : (Jvm.Cond.selects "SweptPathsModel" ({ cls := "SweptPathsModel", name := "step", desc := "(I)I" } : Jvm.MethodName) ({ cls := "SweptPathsModel", name := "step", desc := "(I)I" } : Jvm.MethodName)) ∈ W0 := W0_tab 701 (by decide +kernel) (by decide +kernel)
set_option maxRecDepth 20000 in
theorem q_702 : (Jvm.Cond.code ({ cls := "SweptPathsModel", name := "step", desc := "(I)I" } : Jvm.MethodName) prog_10_method_19_code (3 : Nat) (Option.some Jvm.ClassFile.FieldType.int)) ∈ W0 := W0_tab 702 (by rfl) (by decide +kernel)
theorem q_703 : (Jvm.Cond.methodLink "SweptPathsLaw" (85 : Nat) ({ cls := "SweptPathsModel", name := "pole", desc := "(II)I" } : Jvm.MethodName)) ∈ W0 := W0_tab 703 (by decide +kernel) (by decide +kernel)
theorem q_704 : (Jvm.Cond.instanceMethod ({ cls := "SweptPathsModel", name := "pole", desc := "(II)I" } : Jvm.MethodName)) ∈ W0 := W0_tab 704 (by decide +kernel) (by decide +kernel)
theorem q_705 : (Jvm.Cond.selects "SweptPathsModel" ({ cls := "SweptPathsModel", name := "pole", desc := "(II)I" } : Jvm.MethodName) ({ cls := "SweptPathsModel", name := "pole", desc := "(II)I" } : Jvm.MethodName)) ∈ W0 := W0_tab 705 (by decide +kernel) (by decide +kernel)
set_option maxRecDepth 20000 in
theorem q_706 : (Jvm.Cond.code ({ cls := "SweptPathsModel", name := "pole", desc := "(II)I" } : Jvm.MethodName) prog_10_method_20_code (3 : Nat) (Option.some Jvm.ClassFile.FieldType.int)) ∈ W0 := W0_tab 706 (by rfl) (by decide +kernel)
theorem q_707 : (Jvm.Cond.methodLink "SweptPathsLaw" (89 : Nat) ({ cls := "SweptPathsModel", name := "go", desc := "(IIZ)I" } : Jvm.MethodName)) ∈ W0 := W0_tab 707 (by decide +kernel) (by decide +kernel)
theorem q_708 : (Jvm.Cond.instanceMethod ({ cls := "SweptPathsModel", name := "go", desc := "(IIZ)I" } : Jvm.MethodName)) ∈ W0 := W0_tab 708 (by decide +kernel) (by decide +kernel)
theorem q_709 : (Jvm.Cond.selects "SweptPathsModel" ({ cls := "SweptPathsModel", name := "go", desc := "(IIZ)I" } : Jvm.MethodName) ({ cls := "SweptPathsModel", name := "go", desc := "(IIZ)I" } : Jvm.MethodName)) ∈ W0 := W0_tab 709 (by decide +kernel) (by decide +kernel)
set_option maxRecDepth 20000 in
theorem q_710 : (Jvm.Cond.code ({ cls := "SweptPathsModel", name := "go", desc := "(IIZ)I" } : Jvm.MethodName) prog_10_method_21_code (4 : Nat) (Option.some Jvm.ClassFile.FieldType.int)) ∈ W0 := W0_tab 710 (by rfl) (by decide +kernel)
theorem q_711 : (Jvm.Cond.methodLink "SweptPathsModel" (158 : Nat) ({ cls := "SweptPathsModel", name := "goOn", desc := "(IIZ)V" } : Jvm.MethodName)) ∈ W0 := W0_tab 711 (by decide +kernel) (by decide +kernel)
theorem q_713 : (Jvm.Cond.instanceMethod ({ cls := "SweptPathsModel", name := "goOn", desc := "(IIZ)V" } : Jvm.MethodName)) ∈ W0 := W0_tab 713 (by decide +kernel) (by decide +kernel)
set_option maxRecDepth 20000 in
theorem q_714 : (Jvm.Cond.code ({ cls := "SweptPathsModel", name := "goOn", desc := "(IIZ)V" } : Jvm.MethodName) prog_10_method_16_code (5 : Nat) (Option.none : Option Jvm.ClassFile.FieldType)) ∈ W0 := W0_tab 714 (by rfl) (by decide +kernel)
theorem q_715 : (Jvm.Cond.methodLink "SweptPathsModel" (148 : Nat) ({ cls := "SweptPathsModel", name := "move", desc := "(IZ)V" } : Jvm.MethodName)) ∈ W0 := W0_tab 715 (by decide +kernel) (by decide +kernel)
theorem q_717 : (Jvm.Cond.instanceMethod ({ cls := "SweptPathsModel", name := "move", desc := "(IZ)V" } : Jvm.MethodName)) ∈ W0 := W0_tab 717 (by decide +kernel) (by decide +kernel)
set_option maxRecDepth 20000 in
theorem q_718 : (Jvm.Cond.code ({ cls := "SweptPathsModel", name := "move", desc := "(IZ)V" } : Jvm.MethodName) prog_10_method_15_code (7 : Nat) (Option.none : Option Jvm.ClassFile.FieldType)) ∈ W0 := W0_tab 718 (by rfl) (by decide +kernel)
theorem q_719 : (Jvm.Cond.methodLink "SweptPathsModel" (145 : Nat) ({ cls := "SweptPathsModel", name := "askewOf", desc := "(I)I" } : Jvm.MethodName)) ∈ W0 := W0_tab 719 (by decide +kernel) (by decide +kernel)
theorem q_721 : (Jvm.Cond.instanceMethod ({ cls := "SweptPathsModel", name := "askewOf", desc := "(I)I" } : Jvm.MethodName)) ∈ W0 := W0_tab 721 (by decide +kernel) (by decide +kernel)
set_option maxRecDepth 20000 in
theorem q_722 : (Jvm.Cond.code ({ cls := "SweptPathsModel", name := "askewOf", desc := "(I)I" } : Jvm.MethodName) prog_10_method_7_code (2 : Nat) (Option.some Jvm.ClassFile.FieldType.int)) ∈ W0 := W0_tab 722 (by rfl) (by decide +kernel)
theorem q_723 : (Jvm.Cond.methodLink "SweptPathsModel" (94 : Nat) ({ cls := "SweptPathsModel", name := "wrapped", desc := "(I)I" } : Jvm.MethodName)) ∈ W0 := W0_tab 723 (by decide +kernel) (by decide +kernel)
theorem q_724 : (Jvm.Cond.static ({ cls := "SweptPathsModel", name := "wrapped", desc := "(I)I" } : Jvm.MethodName)) ∈ W0 := W0_tab 724 (by decide +kernel) (by decide +kernel)
set_option maxRecDepth 20000 in
theorem q_725 : (Jvm.Cond.code ({ cls := "SweptPathsModel", name := "wrapped", desc := "(I)I" } : Jvm.MethodName) prog_10_method_6_code (1 : Nat) (Option.some Jvm.ClassFile.FieldType.int)) ∈ W0 := W0_tab 725 (by rfl) (by decide +kernel)
theorem q_726 : (Jvm.Cond.methodLink "SweptPathsLaw" (92 : Nat) ({ cls := "SweptPathsModel", name := "told", desc := "(II)I" } : Jvm.MethodName)) ∈ W0 := W0_tab 726 (by decide +kernel) (by decide +kernel)
theorem q_727 : (Jvm.Cond.instanceMethod ({ cls := "SweptPathsModel", name := "told", desc := "(II)I" } : Jvm.MethodName)) ∈ W0 := W0_tab 727 (by decide +kernel) (by decide +kernel)
theorem q_728 : (Jvm.Cond.selects "SweptPathsModel" ({ cls := "SweptPathsModel", name := "told", desc := "(II)I" } : Jvm.MethodName) ({ cls := "SweptPathsModel", name := "told", desc := "(II)I" } : Jvm.MethodName)) ∈ W0 := W0_tab 728 (by decide +kernel) (by decide +kernel)
set_option maxRecDepth 20000 in
theorem q_729 : (Jvm.Cond.code ({ cls := "SweptPathsModel", name := "told", desc := "(II)I" } : Jvm.MethodName) prog_10_method_22_code (3 : Nat) (Option.some Jvm.ClassFile.FieldType.int)) ∈ W0 := W0_tab 729 (by rfl) (by decide +kernel)
theorem q_730 : (Jvm.Cond.methodLink "SweptPathsLaw" (96 : Nat) ({ cls := "SweptPathsModel", name := "corner", desc := "(III)I" } : Jvm.MethodName)) ∈ W0 := W0_tab 730 (by decide +kernel) (by decide +kernel)
theorem q_731 : (Jvm.Cond.instanceMethod ({ cls := "SweptPathsModel", name := "corner", desc := "(III)I" } : Jvm.MethodName)) ∈ W0 := W0_tab 731 (by decide +kernel) (by decide +kernel)
theorem q_732 : (Jvm.Cond.selects "SweptPathsModel" ({ cls := "SweptPathsModel", name := "corner", desc := "(III)I" } : Jvm.MethodName) ({ cls := "SweptPathsModel", name := "corner", desc := "(III)I" } : Jvm.MethodName)) ∈ W0 := W0_tab 732 (by decide +kernel) (by decide +kernel)
set_option maxRecDepth 20000 in
theorem q_733 : (Jvm.Cond.code ({ cls := "SweptPathsModel", name := "corner", desc := "(III)I" } : Jvm.MethodName) prog_10_method_23_code (8 : Nat) (Option.some Jvm.ClassFile.FieldType.int)) ∈ W0 := W0_tab 733 (by rfl) (by decide +kernel)
theorem q_734 : (Jvm.Cond.methodLink "SweptPathsLaw" (100 : Nat) ({ cls := "SweptPathsModel", name := "swept", desc := "()I" } : Jvm.MethodName)) ∈ W0 := W0_tab 734 (by decide +kernel) (by decide +kernel)
theorem q_735 : (Jvm.Cond.instanceMethod ({ cls := "SweptPathsModel", name := "swept", desc := "()I" } : Jvm.MethodName)) ∈ W0 := W0_tab 735 (by decide +kernel) (by decide +kernel)
theorem q_736 : (Jvm.Cond.selects "SweptPathsModel" ({ cls := "SweptPathsModel", name := "swept", desc := "()I" } : Jvm.MethodName) ({ cls := "SweptPathsModel", name := "swept", desc := "()I" } : Jvm.MethodName)) ∈ W0 := W0_tab 736 (by decide +kernel) (by decide +kernel)
set_option maxRecDepth 20000 in
theorem q_737 : (Jvm.Cond.code ({ cls := "SweptPathsModel", name := "swept", desc := "()I" } : Jvm.MethodName) prog_10_method_24_code (1 : Nat) (Option.some Jvm.ClassFile.FieldType.int)) ∈ W0 := W0_tab 737 (by rfl) (by decide +kernel)
theorem q_738 : (Jvm.Cond.methodLink "SweptPathsLaw" (103 : Nat) ({ cls := "SweptPathsModel", name := "cell", desc := "(II)Z" } : Jvm.MethodName)) ∈ W0 := W0_tab 738 (by decide +kernel) (by decide +kernel)
theorem q_739 : (Jvm.Cond.instanceMethod ({ cls := "SweptPathsModel", name := "cell", desc := "(II)Z" } : Jvm.MethodName)) ∈ W0 := W0_tab 739 (by decide +kernel) (by decide +kernel)
theorem q_740 : (Jvm.Cond.selects "SweptPathsModel" ({ cls := "SweptPathsModel", name := "cell", desc := "(II)Z" } : Jvm.MethodName) ({ cls := "SweptPathsModel", name := "cell", desc := "(II)Z" } : Jvm.MethodName)) ∈ W0 := W0_tab 740 (by decide +kernel) (by decide +kernel)
set_option maxRecDepth 20000 in
theorem q_741 : (Jvm.Cond.code ({ cls := "SweptPathsModel", name := "cell", desc := "(II)Z" } : Jvm.MethodName) prog_10_method_25_code (3 : Nat) (Option.some Jvm.ClassFile.FieldType.boolean)) ∈ W0 := W0_tab 741 (by rfl) (by decide +kernel)
theorem q_742 : (Jvm.Cond.methodLink "SweptPathsLaw" (106 : Nat) ({ cls := "SweptPathsModel", name := "clash", desc := "(I)I" } : Jvm.MethodName)) ∈ W0 := W0_tab 742 (by decide +kernel) (by decide +kernel)
theorem q_743 : (Jvm.Cond.instanceMethod ({ cls := "SweptPathsModel", name := "clash", desc := "(I)I" } : Jvm.MethodName)) ∈ W0 := W0_tab 743 (by decide +kernel) (by decide +kernel)
theorem q_744 : (Jvm.Cond.selects "SweptPathsModel" ({ cls := "SweptPathsModel", name := "clash", desc := "(I)I" } : Jvm.MethodName) ({ cls := "SweptPathsModel", name := "clash", desc := "(I)I" } : Jvm.MethodName)) ∈ W0 := W0_tab 744 (by decide +kernel) (by decide +kernel)
set_option maxRecDepth 20000 in
theorem q_745 : (Jvm.Cond.code ({ cls := "SweptPathsModel", name := "clash", desc := "(I)I" } : Jvm.MethodName) prog_10_method_26_code (2 : Nat) (Option.some Jvm.ClassFile.FieldType.int)) ∈ W0 := W0_tab 745 (by rfl) (by decide +kernel)
theorem q_746 : (Jvm.Cond.methodLink "SweptPathsLaw" (111 : Nat) ({ cls := "SweptPathsModel", name := "isStuck", desc := "()Z" } : Jvm.MethodName)) ∈ W0 := W0_tab 746 (by decide +kernel) (by decide +kernel)
theorem q_747 : (Jvm.Cond.instanceMethod ({ cls := "SweptPathsModel", name := "isStuck", desc := "()Z" } : Jvm.MethodName)) ∈ W0 := W0_tab 747 (by decide +kernel) (by decide +kernel)
theorem q_748 : (Jvm.Cond.selects "SweptPathsModel" ({ cls := "SweptPathsModel", name := "isStuck", desc := "()Z" } : Jvm.MethodName) ({ cls := "SweptPathsModel", name := "isStuck", desc := "()Z" } : Jvm.MethodName)) ∈ W0 := W0_tab 748 (by decide +kernel) (by decide +kernel)
set_option maxRecDepth 20000 in
theorem q_749 : (Jvm.Cond.code ({ cls := "SweptPathsModel", name := "isStuck", desc := "()Z" } : Jvm.MethodName) prog_10_method_27_code (1 : Nat) (Option.some Jvm.ClassFile.FieldType.boolean)) ∈ W0 := W0_tab 749 (by rfl) (by decide +kernel)
theorem q_750 : (Jvm.Cond.methodLink "SweptPathsLaw" (115 : Nat) ({ cls := "SweptPathsModel", name := "part", desc := "(IIIZ)I" } : Jvm.MethodName)) ∈ W0 := W0_tab 750 (by decide +kernel) (by decide +kernel)
theorem q_751 : (Jvm.Cond.instanceMethod ({ cls := "SweptPathsModel", name := "part", desc := "(IIIZ)I" } : Jvm.MethodName)) ∈ W0 := W0_tab 751 (by decide +kernel) (by decide +kernel)
theorem q_752 : (Jvm.Cond.selects "SweptPathsModel" ({ cls := "SweptPathsModel", name := "part", desc := "(IIIZ)I" } : Jvm.MethodName) ({ cls := "SweptPathsModel", name := "part", desc := "(IIIZ)I" } : Jvm.MethodName)) ∈ W0 := W0_tab 752 (by decide +kernel) (by decide +kernel)
set_option maxRecDepth 20000 in
theorem q_753 : (Jvm.Cond.code ({ cls := "SweptPathsModel", name := "part", desc := "(IIIZ)I" } : Jvm.MethodName) prog_10_method_28_code (6 : Nat) (Option.some Jvm.ClassFile.FieldType.int)) ∈ W0 := W0_tab 753 (by rfl) (by decide +kernel)
theorem q_754 : (Jvm.Cond.methodLink "SweptPathsLaw" (118 : Nat) ({ cls := "SweptPathsModel", name := "clear", desc := "(I)I" } : Jvm.MethodName)) ∈ W0 := W0_tab 754 (by decide +kernel) (by decide +kernel)
theorem q_755 : (Jvm.Cond.instanceMethod ({ cls := "SweptPathsModel", name := "clear", desc := "(I)I" } : Jvm.MethodName)) ∈ W0 := W0_tab 755 (by decide +kernel) (by decide +kernel)
theorem q_756 : (Jvm.Cond.selects "SweptPathsModel" ({ cls := "SweptPathsModel", name := "clear", desc := "(I)I" } : Jvm.MethodName) ({ cls := "SweptPathsModel", name := "clear", desc := "(I)I" } : Jvm.MethodName)) ∈ W0 := W0_tab 756 (by decide +kernel) (by decide +kernel)
set_option maxRecDepth 20000 in
theorem q_757 : (Jvm.Cond.code ({ cls := "SweptPathsModel", name := "clear", desc := "(I)I" } : Jvm.MethodName) prog_10_method_29_code (3 : Nat) (Option.some Jvm.ClassFile.FieldType.int)) ∈ W0 := W0_tab 757 (by rfl) (by decide +kernel)
theorem q_758 : (Jvm.Cond.methodLink "SweptPathsLaw" (122 : Nat) ({ cls := "SweptPathsModel", name := "best", desc := "()I" } : Jvm.MethodName)) ∈ W0 := W0_tab 758 (by decide +kernel) (by decide +kernel)
theorem q_759 : (Jvm.Cond.instanceMethod ({ cls := "SweptPathsModel", name := "best", desc := "()I" } : Jvm.MethodName)) ∈ W0 := W0_tab 759 (by decide +kernel) (by decide +kernel)
theorem q_760 : (Jvm.Cond.selects "SweptPathsModel" ({ cls := "SweptPathsModel", name := "best", desc := "()I" } : Jvm.MethodName) ({ cls := "SweptPathsModel", name := "best", desc := "()I" } : Jvm.MethodName)) ∈ W0 := W0_tab 760 (by decide +kernel) (by decide +kernel)
set_option maxRecDepth 20000 in
theorem q_761 : (Jvm.Cond.code ({ cls := "SweptPathsModel", name := "best", desc := "()I" } : Jvm.MethodName) prog_10_method_33_code (4 : Nat) (Option.some Jvm.ClassFile.FieldType.int)) ∈ W0 := W0_tab 761 (by rfl) (by decide +kernel)
theorem q_762 : (Jvm.Cond.methodLink "SweptPathsModel" (162 : Nat) ({ cls := "SweptPathsModel", name := "keepAside", desc := "()V" } : Jvm.MethodName)) ∈ W0 := W0_tab 762 (by decide +kernel) (by decide +kernel)
theorem q_764 : (Jvm.Cond.instanceMethod ({ cls := "SweptPathsModel", name := "keepAside", desc := "()V" } : Jvm.MethodName)) ∈ W0 := W0_tab 764 (by decide +kernel) (by decide +kernel)
set_option maxRecDepth 20000 in
theorem q_765 : (Jvm.Cond.code ({ cls := "SweptPathsModel", name := "keepAside", desc := "()V" } : Jvm.MethodName) prog_10_method_30_code (2 : Nat) (Option.none : Option Jvm.ClassFile.FieldType)) ∈ W0 := W0_tab 765 (by rfl) (by decide +kernel)
theorem q_766 : (Jvm.Cond.methodLink "SweptPathsModel" (165 : Nat) ({ cls := "SweptPathsModel", name := "goPlan", desc := "(I)V" } : Jvm.MethodName)) ∈ W0 := W0_tab 766 (by decide +kernel) (by decide +kernel)
theorem q_768 : (Jvm.Cond.instanceMethod ({ cls := "SweptPathsModel", name := "goPlan", desc := "(I)V" } : Jvm.MethodName)) ∈ W0 := W0_tab 768 (by decide +kernel) (by decide +kernel)
set_option maxRecDepth 20000 in
theorem q_769 : (Jvm.Cond.code ({ cls := "SweptPathsModel", name := "goPlan", desc := "(I)V" } : Jvm.MethodName) prog_10_method_32_code (4 : Nat) (Option.none : Option Jvm.ClassFile.FieldType)) ∈ W0 := W0_tab 769 (by rfl) (by decide +kernel)
theorem q_770 : (Jvm.Cond.methodLink "SweptPathsModel" (168 : Nat) ({ cls := "SweptPathsModel", name := "putBack", desc := "()V" } : Jvm.MethodName)) ∈ W0 := W0_tab 770 (by decide +kernel) (by decide +kernel)
theorem q_772 : (Jvm.Cond.instanceMethod ({ cls := "SweptPathsModel", name := "putBack", desc := "()V" } : Jvm.MethodName)) ∈ W0 := W0_tab 772 (by decide +kernel) (by decide +kernel)
set_option maxRecDepth 20000 in
theorem q_773 : (Jvm.Cond.code ({ cls := "SweptPathsModel", name := "putBack", desc := "()V" } : Jvm.MethodName) prog_10_method_31_code (2 : Nat) (Option.none : Option Jvm.ClassFile.FieldType)) ∈ W0 := W0_tab 773 (by rfl) (by decide +kernel)
theorem q_774 : (Jvm.Cond.methodLink "SweptPathsLaw" (125 : Nat) ({ cls := "SweptPathsModel", name := "sweeps", desc := "(I)I" } : Jvm.MethodName)) ∈ W0 := W0_tab 774 (by decide +kernel) (by decide +kernel)
theorem q_775 : (Jvm.Cond.instanceMethod ({ cls := "SweptPathsModel", name := "sweeps", desc := "(I)I" } : Jvm.MethodName)) ∈ W0 := W0_tab 775 (by decide +kernel) (by decide +kernel)
theorem q_776 : (Jvm.Cond.selects "SweptPathsModel" ({ cls := "SweptPathsModel", name := "sweeps", desc := "(I)I" } : Jvm.MethodName) ({ cls := "SweptPathsModel", name := "sweeps", desc := "(I)I" } : Jvm.MethodName)) ∈ W0 := W0_tab 776 (by decide +kernel) (by decide +kernel)
set_option maxRecDepth 20000 in
theorem q_777 : (Jvm.Cond.code ({ cls := "SweptPathsModel", name := "sweeps", desc := "(I)I" } : Jvm.MethodName) prog_10_method_34_code (3 : Nat) (Option.some Jvm.ClassFile.FieldType.int)) ∈ W0 := W0_tab 777 (by rfl) (by decide +kernel)
theorem s_0 : (Jvm.Cond.selects "java/lang/Throwable" ({ cls := "java/lang/Throwable", name := "fillInStackTrace", desc := "(I)Ljava/lang/Throwable;" } : Jvm.MethodName) ({ cls := "java/lang/Throwable", name := "fillInStackTrace", desc := "(I)Ljava/lang/Throwable;" } : Jvm.MethodName)) ∈ W0 := W0_sel 0 (by decide +kernel) (by decide +kernel)
theorem s_1 : (Jvm.Cond.selects "SweptPaths$Run" ({ cls := "SweptPaths$Run", name := "placeTrailers", desc := "()V" } : Jvm.MethodName) ({ cls := "SweptPaths$Run", name := "placeTrailers", desc := "()V" } : Jvm.MethodName)) ∈ W0 := W0_sel 1 (by decide +kernel) (by decide +kernel)
theorem s_2 : (Jvm.Cond.selects "SweptPaths$Run" ({ cls := "SweptPaths$Run", name := "lookRound", desc := "()V" } : Jvm.MethodName) ({ cls := "SweptPaths$Run", name := "lookRound", desc := "()V" } : Jvm.MethodName)) ∈ W0 := W0_sel 2 (by decide +kernel) (by decide +kernel)
theorem s_3 : (Jvm.Cond.selects "SweptPaths$Cells" ({ cls := "SweptPaths$Cells", name := "mark", desc := "(II)V" } : Jvm.MethodName) ({ cls := "SweptPaths$Cells", name := "mark", desc := "(II)V" } : Jvm.MethodName)) ∈ W0 := W0_sel 3 (by decide +kernel) (by decide +kernel)
theorem s_4 : (Jvm.Cond.selects "SweptPaths$Run" ({ cls := "SweptPaths$Run", name := "lookForPoles", desc := "(I)V" } : Jvm.MethodName) ({ cls := "SweptPaths$Run", name := "lookForPoles", desc := "(I)V" } : Jvm.MethodName)) ∈ W0 := W0_sel 4 (by decide +kernel) (by decide +kernel)
theorem s_5 : (Jvm.Cond.selects "SweptPaths" ({ cls := "SweptPaths", name := "demandSomeBody", desc := "()V" } : Jvm.MethodName) ({ cls := "SweptPaths", name := "demandSomeBody", desc := "()V" } : Jvm.MethodName)) ∈ W0 := W0_sel 5 (by decide +kernel) (by decide +kernel)
theorem s_6 : (Jvm.Cond.selects "SweptPaths$Run" ({ cls := "SweptPaths$Run", name := "move", desc := "(II)V" } : Jvm.MethodName) ({ cls := "SweptPaths$Run", name := "move", desc := "(II)V" } : Jvm.MethodName)) ∈ W0 := W0_sel 6 (by decide +kernel) (by decide +kernel)
theorem s_7 : (Jvm.Cond.selects "SweptPaths$Run" ({ cls := "SweptPaths$Run", name := "swing", desc := "(II)V" } : Jvm.MethodName) ({ cls := "SweptPaths$Run", name := "swing", desc := "(II)V" } : Jvm.MethodName)) ∈ W0 := W0_sel 7 (by decide +kernel) (by decide +kernel)
theorem s_8 : (Jvm.Cond.selects "SweptPaths$Run" ({ cls := "SweptPaths$Run", name := "measureAskew", desc := "()V" } : Jvm.MethodName) ({ cls := "SweptPaths$Run", name := "measureAskew", desc := "()V" } : Jvm.MethodName)) ∈ W0 := W0_sel 8 (by decide +kernel) (by decide +kernel)
theorem s_9 : (Jvm.Cond.selects "SweptPathsModel" ({ cls := "SweptPathsModel", name := "beginAnew", desc := "()V" } : Jvm.MethodName) ({ cls := "SweptPathsModel", name := "beginAnew", desc := "()V" } : Jvm.MethodName)) ∈ W0 := W0_sel 9 (by decide +kernel) (by decide +kernel)
theorem s_10 : (Jvm.Cond.selects "SweptPathsModel" ({ cls := "SweptPathsModel", name := "hang", desc := "(I)V" } : Jvm.MethodName) ({ cls := "SweptPathsModel", name := "hang", desc := "(I)V" } : Jvm.MethodName)) ∈ W0 := W0_sel 10 (by decide +kernel) (by decide +kernel)
theorem s_11 : (Jvm.Cond.selects "SweptPathsModel" ({ cls := "SweptPathsModel", name := "dx", desc := "(I)I" } : Jvm.MethodName) ({ cls := "SweptPathsModel", name := "dx", desc := "(I)I" } : Jvm.MethodName)) ∈ W0 := W0_sel 11 (by decide +kernel) (by decide +kernel)
theorem s_12 : (Jvm.Cond.selects "SweptPathsModel" ({ cls := "SweptPathsModel", name := "dy", desc := "(I)I" } : Jvm.MethodName) ({ cls := "SweptPathsModel", name := "dy", desc := "(I)I" } : Jvm.MethodName)) ∈ W0 := W0_sel 12 (by decide +kernel) (by decide +kernel)
theorem s_13 : (Jvm.Cond.selects "SweptPathsModel" ({ cls := "SweptPathsModel", name := "look", desc := "()V" } : Jvm.MethodName) ({ cls := "SweptPathsModel", name := "look", desc := "()V" } : Jvm.MethodName)) ∈ W0 := W0_sel 13 (by decide +kernel) (by decide +kernel)
theorem s_14 : (Jvm.Cond.selects "SweptPathsModel" ({ cls := "SweptPathsModel", name := "covers", desc := "(III)Z" } : Jvm.MethodName) ({ cls := "SweptPathsModel", name := "covers", desc := "(III)Z" } : Jvm.MethodName)) ∈ W0 := W0_sel 14 (by decide +kernel) (by decide +kernel)
theorem s_15 : (Jvm.Cond.selects "SweptPathsModel" ({ cls := "SweptPathsModel", name := "goOn", desc := "(IIZ)V" } : Jvm.MethodName) ({ cls := "SweptPathsModel", name := "goOn", desc := "(IIZ)V" } : Jvm.MethodName)) ∈ W0 := W0_sel 15 (by decide +kernel) (by decide +kernel)
theorem s_16 : (Jvm.Cond.selects "SweptPathsModel" ({ cls := "SweptPathsModel", name := "move", desc := "(IZ)V" } : Jvm.MethodName) ({ cls := "SweptPathsModel", name := "move", desc := "(IZ)V" } : Jvm.MethodName)) ∈ W0 := W0_sel 16 (by decide +kernel) (by decide +kernel)
theorem s_17 : (Jvm.Cond.selects "SweptPathsModel" ({ cls := "SweptPathsModel", name := "askewOf", desc := "(I)I" } : Jvm.MethodName) ({ cls := "SweptPathsModel", name := "askewOf", desc := "(I)I" } : Jvm.MethodName)) ∈ W0 := W0_sel 17 (by decide +kernel) (by decide +kernel)
theorem s_18 : (Jvm.Cond.selects "SweptPathsModel" ({ cls := "SweptPathsModel", name := "keepAside", desc := "()V" } : Jvm.MethodName) ({ cls := "SweptPathsModel", name := "keepAside", desc := "()V" } : Jvm.MethodName)) ∈ W0 := W0_sel 18 (by decide +kernel) (by decide +kernel)
theorem s_19 : (Jvm.Cond.selects "SweptPathsModel" ({ cls := "SweptPathsModel", name := "goPlan", desc := "(I)V" } : Jvm.MethodName) ({ cls := "SweptPathsModel", name := "goPlan", desc := "(I)V" } : Jvm.MethodName)) ∈ W0 := W0_sel 19 (by decide +kernel) (by decide +kernel)
theorem s_20 : (Jvm.Cond.selects "SweptPathsModel" ({ cls := "SweptPathsModel", name := "putBack", desc := "()V" } : Jvm.MethodName) ({ cls := "SweptPathsModel", name := "putBack", desc := "()V" } : Jvm.MethodName)) ∈ W0 := W0_sel 20 (by decide +kernel) (by decide +kernel)
end
section
abbrev R_SP : String := "SweptPaths"
abbrev R_Ce : String := "SweptPaths$Cells"
abbrev R_Pl : String := "SweptPaths$Plan"
abbrev R_Po : String := "SweptPaths$Pose"
abbrev R_Ru : String := "SweptPaths$Run"
abbrev R_Se : String := "SweptPaths$Setting"
abbrev R_Sh : String := "SweptPaths$Shape"
abbrev R_Mo : String := "SweptPathsModel"
abbrev R_Di : String := "SweptPaths$Directions"
abbrev R_La : String := "SweptPathsLaw"
abbrev R_Ma : String := "java/lang/Math"
abbrev R_Ar : String := "java/util/Arrays"
abbrev R_IA : String := "java/lang/IllegalArgumentException"
abbrev R_IS : String := "java/lang/IllegalStateException"
abbrev R_law : String := "SweptPathsLaw"
def F_SP : u_T := fun k => match k with
  | 0 => ("SweptPaths", "setting", "LSweptPaths$Setting;", true)
  | 1 => ("SweptPaths", "live", "LSweptPaths$Run;", true)
  | 2 => ("SweptPaths", "trial", "LSweptPaths$Run;", true)
  | _ => ("SweptPaths", "plans", "[LSweptPaths$Plan;", true)
def t_SP : Nat → FieldType := fun k => match k with
  | 0 => .object "SweptPaths$Setting"
  | 1 => .object "SweptPaths$Run"
  | 2 => .object "SweptPaths$Run"
  | _ => .array (.object "SweptPaths$Plan")
theorem n_SP : ∀ a, a < 4 → ∀ b, b < 4 → a ≠ b → (F_SP a).2.1 ≠ (F_SP b).2.1 := by decide +kernel
theorem t_SP_ok : ∀ k, k < 4 → parseFieldDescriptor (F_SP k).2.2.1 = some (t_SP k) := by decide +kernel
theorem i_SP : ∀ w ∈ u_ws R_SP F_SP 4, w ∈ W0 := all_cons q_218 (all_cons q_220 (all_cons q_222 (all_cons q_224 (all_nil))))
def F_Ce : u_T := fun k => match k with
  | 0 => ("SweptPaths$Cells", "rows", "[J", true)
  | _ => ("SweptPaths$Cells", "count", "I", false)
def t_Ce : Nat → FieldType := fun k => match k with
  | 0 => .array .long
  | _ => .int
theorem n_Ce : ∀ a, a < 2 → ∀ b, b < 2 → a ≠ b → (F_Ce a).2.1 ≠ (F_Ce b).2.1 := by decide +kernel
theorem t_Ce_ok : ∀ k, k < 2 → parseFieldDescriptor (F_Ce k).2.2.1 = some (t_Ce k) := by decide +kernel
theorem i_Ce : ∀ w ∈ u_ws R_Ce F_Ce 2, w ∈ W0 := all_cons q_150 (all_cons q_152 (all_nil))
def F_Pl : u_T := fun k => match k with
  | 0 => ("SweptPaths$Plan", "turns", "[I", true)
  | 1 => ("SweptPaths$Plan", "steps", "[I", true)
  | 2 => ("SweptPaths$Plan", "forwards", "[Z", true)
  | _ => ("SweptPaths$Plan", "parts", "I", false)
def t_Pl : Nat → FieldType := fun k => match k with
  | 0 => .array .int
  | 1 => .array .int
  | 2 => .array .boolean
  | _ => .int
theorem n_Pl : ∀ a, a < 4 → ∀ b, b < 4 → a ≠ b → (F_Pl a).2.1 ≠ (F_Pl b).2.1 := by decide +kernel
theorem t_Pl_ok : ∀ k, k < 4 → parseFieldDescriptor (F_Pl k).2.2.1 = some (t_Pl k) := by decide +kernel
theorem i_Pl : ∀ w ∈ u_ws R_Pl F_Pl 4, w ∈ W0 := all_cons q_204 (all_cons q_206 (all_cons q_208 (all_cons q_210 (all_nil))))
def F_Po : u_T := fun k => match k with
  | 0 => ("SweptPaths$Pose", "x", "I", false)
  | 1 => ("SweptPaths$Pose", "y", "I", false)
  | 2 => ("SweptPaths$Pose", "heading", "I", false)
  | 3 => ("SweptPaths$Pose", "rest", "I", false)
  | _ => ("SweptPaths$Pose", "greatestAskew", "I", false)
def t_Po : Nat → FieldType := fun k => match k with
  | 0 => .int
  | 1 => .int
  | 2 => .int
  | 3 => .int
  | _ => .int
theorem n_Po : ∀ a, a < 5 → ∀ b, b < 5 → a ≠ b → (F_Po a).2.1 ≠ (F_Po b).2.1 := by decide +kernel
theorem t_Po_ok : ∀ k, k < 5 → parseFieldDescriptor (F_Po k).2.2.1 = some (t_Po k) := by decide +kernel
theorem i_Po : ∀ w ∈ u_ws R_Po F_Po 5, w ∈ W0 := all_cons q_130 (all_cons q_132 (all_cons q_134 (all_cons q_136 (all_cons q_138 (all_nil)))))
def F_Ru : u_T := fun k => match k with
  | 0 => ("SweptPaths$Run", "poses", "[LSweptPaths$Pose;", true)
  | 1 => ("SweptPaths$Run", "cells", "LSweptPaths$Cells;", true)
  | 2 => ("SweptPaths$Run", "made", "I", false)
  | 3 => ("SweptPaths$Run", "stuck", "Z", false)
  | 4 => ("SweptPaths$Run", "clashStep", "I", false)
  | 5 => ("SweptPaths$Run", "clashBody", "I", false)
  | 6 => ("SweptPaths$Run", "clashPole", "I", false)
  | _ => ("SweptPaths$Run", "setting", "LSweptPaths$Setting;", true)
def t_Ru : Nat → FieldType := fun k => match k with
  | 0 => .array (.object "SweptPaths$Pose")
  | 1 => .object "SweptPaths$Cells"
  | 2 => .int
  | 3 => .boolean
  | 4 => .int
  | 5 => .int
  | 6 => .int
  | _ => .object "SweptPaths$Setting"
theorem n_Ru : ∀ a, a < 8 → ∀ b, b < 8 → a ≠ b → (F_Ru a).2.1 ≠ (F_Ru b).2.1 := by decide +kernel
theorem t_Ru_ok : ∀ k, k < 8 → parseFieldDescriptor (F_Ru k).2.2.1 = some (t_Ru k) := by decide +kernel
theorem i_Ru : ∀ w ∈ u_ws R_Ru F_Ru 8, w ∈ W0 := all_cons q_171 (all_cons q_173 (all_cons q_175 (all_cons q_177 (all_cons q_179 (all_cons q_181 (all_cons q_183 (all_cons q_185 (all_nil))))))))
def F_Se : u_T := fun k => match k with
  | 0 => ("SweptPaths$Setting", "shapes", "[LSweptPaths$Shape;", true)
  | 1 => ("SweptPaths$Setting", "poleX", "[I", true)
  | 2 => ("SweptPaths$Setting", "poleY", "[I", true)
  | 3 => ("SweptPaths$Setting", "bodies", "I", false)
  | 4 => ("SweptPaths$Setting", "poles", "I", false)
  | 5 => ("SweptPaths$Setting", "startX", "I", false)
  | 6 => ("SweptPaths$Setting", "startY", "I", false)
  | 7 => ("SweptPaths$Setting", "startHeading", "I", false)
  | _ => ("SweptPaths$Setting", "stepLength", "I", false)
def t_Se : Nat → FieldType := fun k => match k with
  | 0 => .array (.object "SweptPaths$Shape")
  | 1 => .array .int
  | 2 => .array .int
  | 3 => .int
  | 4 => .int
  | 5 => .int
  | 6 => .int
  | 7 => .int
  | _ => .int
theorem n_Se : ∀ a, a < 9 → ∀ b, b < 9 → a ≠ b → (F_Se a).2.1 ≠ (F_Se b).2.1 := by decide +kernel
theorem t_Se_ok : ∀ k, k < 9 → parseFieldDescriptor (F_Se k).2.2.1 = some (t_Se k) := by decide +kernel
theorem i_Se : ∀ w ∈ u_ws R_Se F_Se 9, w ∈ W0 := all_cons q_85 (all_cons q_87 (all_cons q_89 (all_cons q_91 (all_cons q_93 (all_cons q_95 (all_cons q_97 (all_cons q_99 (all_cons q_101 (all_nil)))))))))
def F_Sh : u_T := fun k => match k with
  | 0 => ("SweptPaths$Shape", "length", "I", false)
  | 1 => ("SweptPaths$Shape", "hitch", "I", false)
  | 2 => ("SweptPaths$Shape", "front", "I", false)
  | 3 => ("SweptPaths$Shape", "rear", "I", false)
  | _ => ("SweptPaths$Shape", "half", "I", false)
def t_Sh : Nat → FieldType := fun k => match k with
  | 0 => .int
  | 1 => .int
  | 2 => .int
  | 3 => .int
  | _ => .int
theorem n_Sh : ∀ a, a < 5 → ∀ b, b < 5 → a ≠ b → (F_Sh a).2.1 ≠ (F_Sh b).2.1 := by decide +kernel
theorem t_Sh_ok : ∀ k, k < 5 → parseFieldDescriptor (F_Sh k).2.2.1 = some (t_Sh k) := by decide +kernel
theorem i_Sh : ∀ w ∈ u_ws R_Sh F_Sh 5, w ∈ W0 := all_cons q_52 (all_cons q_54 (all_cons q_56 (all_cons q_58 (all_cons q_60 (all_nil)))))
def F_Mo : u_T := fun k => match k with
  | 0 => ("SweptPathsModel", "thrown", "I", false)
  | 1 => ("SweptPathsModel", "cosines", "[I", true)
  | 2 => ("SweptPathsModel", "bodies", "I", false)
  | 3 => ("SweptPathsModel", "lengths", "[I", true)
  | 4 => ("SweptPathsModel", "hitches", "[I", true)
  | 5 => ("SweptPathsModel", "fronts", "[I", true)
  | 6 => ("SweptPathsModel", "rears", "[I", true)
  | 7 => ("SweptPathsModel", "halves", "[I", true)
  | 8 => ("SweptPathsModel", "startX", "I", false)
  | 9 => ("SweptPathsModel", "startY", "I", false)
  | 10 => ("SweptPathsModel", "startHeading", "I", false)
  | 11 => ("SweptPathsModel", "stepLength", "I", false)
  | 12 => ("SweptPathsModel", "poles", "I", false)
  | 13 => ("SweptPathsModel", "poleX", "[I", true)
  | 14 => ("SweptPathsModel", "poleY", "[I", true)
  | 15 => ("SweptPathsModel", "many", "[I", true)
  | 16 => ("SweptPathsModel", "turns", "[I", true)
  | 17 => ("SweptPathsModel", "counts", "[I", true)
  | 18 => ("SweptPathsModel", "ways", "[Z", true)
  | 19 => ("SweptPathsModel", "xs", "[I", true)
  | 20 => ("SweptPathsModel", "ys", "[I", true)
  | 21 => ("SweptPathsModel", "headings", "[I", true)
  | 22 => ("SweptPathsModel", "rests", "[I", true)
  | 23 => ("SweptPathsModel", "greatest", "[I", true)
  | 24 => ("SweptPathsModel", "made", "I", false)
  | 25 => ("SweptPathsModel", "stuck", "Z", false)
  | 26 => ("SweptPathsModel", "clashStep", "I", false)
  | 27 => ("SweptPathsModel", "clashBody", "I", false)
  | 28 => ("SweptPathsModel", "clashPole", "I", false)
  | 29 => ("SweptPathsModel", "cells", "I", false)
  | 30 => ("SweptPathsModel", "swept", "[Z", true)
  | 31 => ("SweptPathsModel", "asideNumbers", "[I", true)
  | _ => ("SweptPathsModel", "asideCells", "[Z", true)
def t_Mo : Nat → FieldType := fun k => match k with
  | 0 => .int
  | 1 => .array .int
  | 2 => .int
  | 3 => .array .int
  | 4 => .array .int
  | 5 => .array .int
  | 6 => .array .int
  | 7 => .array .int
  | 8 => .int
  | 9 => .int
  | 10 => .int
  | 11 => .int
  | 12 => .int
  | 13 => .array .int
  | 14 => .array .int
  | 15 => .array .int
  | 16 => .array .int
  | 17 => .array .int
  | 18 => .array .boolean
  | 19 => .array .int
  | 20 => .array .int
  | 21 => .array .int
  | 22 => .array .int
  | 23 => .array .int
  | 24 => .int
  | 25 => .boolean
  | 26 => .int
  | 27 => .int
  | 28 => .int
  | 29 => .int
  | 30 => .array .boolean
  | 31 => .array .int
  | _ => .array .boolean
theorem n_Mo : ∀ a, a < 33 → ∀ b, b < 33 → a ≠ b → (F_Mo a).2.1 ≠ (F_Mo b).2.1 := by decide +kernel
theorem t_Mo_ok : ∀ k, k < 33 → parseFieldDescriptor (F_Mo k).2.2.1 = some (t_Mo k) := by decide +kernel
theorem i_Mo : ∀ w ∈ u_ws R_Mo F_Mo 33, w ∈ W0 := all_cons q_583 (all_cons q_585 (all_cons q_587 (all_cons q_589 (all_cons q_591 (all_cons q_593 (all_cons q_595 (all_cons q_597 (all_cons q_599 (all_cons q_601 (all_cons q_603 (all_cons q_605 (all_cons q_607 (all_cons q_609 (all_cons q_611 (all_cons q_613 (all_cons q_615 (all_cons q_617 (all_cons q_619 (all_cons q_621 (all_cons q_623 (all_cons q_625 (all_cons q_627 (all_cons q_629 (all_cons q_631 (all_cons q_633 (all_cons q_635 (all_cons q_637 (all_cons q_639 (all_cons q_641 (all_cons q_643 (all_cons q_645 (all_cons q_647 (all_nil)))))))))))))))))))))))))))))))))
abbrev classes : List vw_C := [(R_SP, F_SP, 4), (R_Ce, F_Ce, 2), (R_Pl, F_Pl, 4), (R_Po, F_Po, 5), (R_Ru, F_Ru, 8), (R_Se, F_Se, 9), (R_Sh, F_Sh, 5), (R_Mo, F_Mo, 33)]
abbrev b_SP_init : ByteArray := prog_1_method_1_code
abbrev y_SP_init : MethodName := { cls := "SweptPaths", name := "<init>", desc := "()V" }
abbrev b_SP_body : ByteArray := prog_1_method_2_code
abbrev y_SP_body : MethodName := { cls := "SweptPaths", name := "body", desc := "(IIIII)I" }
abbrev b_SP_start : ByteArray := prog_1_method_3_code
abbrev y_SP_start : MethodName := { cls := "SweptPaths", name := "start", desc := "(III)V" }
abbrev b_SP_step : ByteArray := prog_1_method_4_code
abbrev y_SP_step : MethodName := { cls := "SweptPaths", name := "step", desc := "(I)I" }
abbrev b_SP_pole : ByteArray := prog_1_method_5_code
abbrev y_SP_pole : MethodName := { cls := "SweptPaths", name := "pole", desc := "(II)I" }
abbrev b_SP_go : ByteArray := prog_1_method_6_code
abbrev y_SP_go : MethodName := { cls := "SweptPaths", name := "go", desc := "(IIZ)I" }
abbrev b_SP_told : ByteArray := prog_1_method_7_code
abbrev y_SP_told : MethodName := { cls := "SweptPaths", name := "told", desc := "(II)I" }
abbrev b_SP_corner : ByteArray := prog_1_method_8_code
abbrev y_SP_corner : MethodName := { cls := "SweptPaths", name := "corner", desc := "(III)I" }
abbrev b_SP_swept : ByteArray := prog_1_method_9_code
abbrev y_SP_swept : MethodName := { cls := "SweptPaths", name := "swept", desc := "()I" }
abbrev b_SP_cell : ByteArray := prog_1_method_10_code
abbrev y_SP_cell : MethodName := { cls := "SweptPaths", name := "cell", desc := "(II)Z" }
abbrev b_SP_clash : ByteArray := prog_1_method_11_code
abbrev y_SP_clash : MethodName := { cls := "SweptPaths", name := "clash", desc := "(I)I" }
abbrev b_SP_isStuck : ByteArray := prog_1_method_12_code
abbrev y_SP_isStuck : MethodName := { cls := "SweptPaths", name := "isStuck", desc := "()Z" }
abbrev b_SP_part : ByteArray := prog_1_method_13_code
abbrev y_SP_part : MethodName := { cls := "SweptPaths", name := "part", desc := "(IIIZ)I" }
abbrev b_SP_clear : ByteArray := prog_1_method_14_code
abbrev y_SP_clear : MethodName := { cls := "SweptPaths", name := "clear", desc := "(I)I" }
abbrev b_SP_best : ByteArray := prog_1_method_15_code
abbrev y_SP_best : MethodName := { cls := "SweptPaths", name := "best", desc := "()I" }
abbrev b_SP_sweeps : ByteArray := prog_1_method_16_code
abbrev y_SP_sweeps : MethodName := { cls := "SweptPaths", name := "sweeps", desc := "(I)I" }
abbrev b_SP_demandWithin : ByteArray := prog_1_method_17_code
abbrev y_SP_demandWithin : MethodName := { cls := "SweptPaths", name := "demandWithin", desc := "(III)V" }
abbrev b_SP_demandSomeBody : ByteArray := prog_1_method_18_code
abbrev y_SP_demandSomeBody : MethodName := { cls := "SweptPaths", name := "demandSomeBody", desc := "()V" }
abbrev b_Mo_init : ByteArray := prog_10_method_1_code
abbrev y_Mo_init : MethodName := { cls := "SweptPathsModel", name := "<init>", desc := "()V" }
abbrev b_Mo_thrown : ByteArray := prog_10_method_2_code
abbrev y_Mo_thrown : MethodName := { cls := "SweptPathsModel", name := "thrown", desc := "()I" }
abbrev b_Mo_in : ByteArray := prog_10_method_3_code
abbrev y_Mo_in : MethodName := { cls := "SweptPathsModel", name := "in", desc := "(III)Z" }
abbrev b_Mo_dx : ByteArray := prog_10_method_4_code
abbrev y_Mo_dx : MethodName := { cls := "SweptPathsModel", name := "dx", desc := "(I)I" }
abbrev b_Mo_dy : ByteArray := prog_10_method_5_code
abbrev y_Mo_dy : MethodName := { cls := "SweptPathsModel", name := "dy", desc := "(I)I" }
abbrev b_Mo_wrapped : ByteArray := prog_10_method_6_code
abbrev y_Mo_wrapped : MethodName := { cls := "SweptPathsModel", name := "wrapped", desc := "(I)I" }
abbrev b_Mo_askewOf : ByteArray := prog_10_method_7_code
abbrev y_Mo_askewOf : MethodName := { cls := "SweptPathsModel", name := "askewOf", desc := "(I)I" }
abbrev b_Mo_hang : ByteArray := prog_10_method_8_code
abbrev y_Mo_hang : MethodName := { cls := "SweptPathsModel", name := "hang", desc := "(I)V" }
abbrev b_Mo_covers : ByteArray := prog_10_method_9_code
abbrev y_Mo_covers : MethodName := { cls := "SweptPathsModel", name := "covers", desc := "(III)Z" }
abbrev b_Mo_cellOf : ByteArray := prog_10_method_10_code
abbrev y_Mo_cellOf : MethodName := { cls := "SweptPathsModel", name := "cellOf", desc := "(I)I" }
abbrev b_Mo_down : ByteArray := prog_10_method_11_code
abbrev y_Mo_down : MethodName := { cls := "SweptPathsModel", name := "down", desc := "(II)I" }
abbrev b_Mo_within : ByteArray := prog_10_method_12_code
abbrev y_Mo_within : MethodName := { cls := "SweptPathsModel", name := "within", desc := "(I)I" }
abbrev b_Mo_look : ByteArray := prog_10_method_13_code
abbrev y_Mo_look : MethodName := { cls := "SweptPathsModel", name := "look", desc := "()V" }
abbrev b_Mo_beginAnew : ByteArray := prog_10_method_14_code
abbrev y_Mo_beginAnew : MethodName := { cls := "SweptPathsModel", name := "beginAnew", desc := "()V" }
abbrev b_Mo_move : ByteArray := prog_10_method_15_code
abbrev y_Mo_move : MethodName := { cls := "SweptPathsModel", name := "move", desc := "(IZ)V" }
abbrev b_Mo_goOn : ByteArray := prog_10_method_16_code
abbrev y_Mo_goOn : MethodName := { cls := "SweptPathsModel", name := "goOn", desc := "(IIZ)V" }
abbrev b_Mo_body : ByteArray := prog_10_method_17_code
abbrev y_Mo_body : MethodName := { cls := "SweptPathsModel", name := "body", desc := "(IIIII)I" }
abbrev b_Mo_start : ByteArray := prog_10_method_18_code
abbrev y_Mo_start : MethodName := { cls := "SweptPathsModel", name := "start", desc := "(III)V" }
abbrev b_Mo_step : ByteArray := prog_10_method_19_code
abbrev y_Mo_step : MethodName := { cls := "SweptPathsModel", name := "step", desc := "(I)I" }
abbrev b_Mo_pole : ByteArray := prog_10_method_20_code
abbrev y_Mo_pole : MethodName := { cls := "SweptPathsModel", name := "pole", desc := "(II)I" }
abbrev b_Mo_go : ByteArray := prog_10_method_21_code
abbrev y_Mo_go : MethodName := { cls := "SweptPathsModel", name := "go", desc := "(IIZ)I" }
abbrev b_Mo_told : ByteArray := prog_10_method_22_code
abbrev y_Mo_told : MethodName := { cls := "SweptPathsModel", name := "told", desc := "(II)I" }
abbrev b_Mo_corner : ByteArray := prog_10_method_23_code
abbrev y_Mo_corner : MethodName := { cls := "SweptPathsModel", name := "corner", desc := "(III)I" }
abbrev b_Mo_swept : ByteArray := prog_10_method_24_code
abbrev y_Mo_swept : MethodName := { cls := "SweptPathsModel", name := "swept", desc := "()I" }
abbrev b_Mo_cell : ByteArray := prog_10_method_25_code
abbrev y_Mo_cell : MethodName := { cls := "SweptPathsModel", name := "cell", desc := "(II)Z" }
abbrev b_Mo_clash : ByteArray := prog_10_method_26_code
abbrev y_Mo_clash : MethodName := { cls := "SweptPathsModel", name := "clash", desc := "(I)I" }
abbrev b_Mo_isStuck : ByteArray := prog_10_method_27_code
abbrev y_Mo_isStuck : MethodName := { cls := "SweptPathsModel", name := "isStuck", desc := "()Z" }
abbrev b_Mo_part : ByteArray := prog_10_method_28_code
abbrev y_Mo_part : MethodName := { cls := "SweptPathsModel", name := "part", desc := "(IIIZ)I" }
abbrev b_Mo_clear : ByteArray := prog_10_method_29_code
abbrev y_Mo_clear : MethodName := { cls := "SweptPathsModel", name := "clear", desc := "(I)I" }
abbrev b_Mo_keepAside : ByteArray := prog_10_method_30_code
abbrev y_Mo_keepAside : MethodName := { cls := "SweptPathsModel", name := "keepAside", desc := "()V" }
abbrev b_Mo_putBack : ByteArray := prog_10_method_31_code
abbrev y_Mo_putBack : MethodName := { cls := "SweptPathsModel", name := "putBack", desc := "()V" }
abbrev b_Mo_goPlan : ByteArray := prog_10_method_32_code
abbrev y_Mo_goPlan : MethodName := { cls := "SweptPathsModel", name := "goPlan", desc := "(I)V" }
abbrev b_Mo_best : ByteArray := prog_10_method_33_code
abbrev y_Mo_best : MethodName := { cls := "SweptPathsModel", name := "best", desc := "()I" }
abbrev b_Mo_sweeps : ByteArray := prog_10_method_34_code
abbrev y_Mo_sweeps : MethodName := { cls := "SweptPathsModel", name := "sweeps", desc := "(I)I" }
abbrev b_Ce_init : ByteArray := prog_2_method_1_code
abbrev y_Ce_init : MethodName := { cls := "SweptPaths$Cells", name := "<init>", desc := "()V" }
abbrev b_Ce_wipe : ByteArray := prog_2_method_2_code
abbrev y_Ce_wipe : MethodName := { cls := "SweptPaths$Cells", name := "wipe", desc := "()V" }
abbrev b_Ce_has : ByteArray := prog_2_method_3_code
abbrev y_Ce_has : MethodName := { cls := "SweptPaths$Cells", name := "has", desc := "(II)Z" }
abbrev b_Ce_cover : ByteArray := prog_2_method_4_code
abbrev y_Ce_cover : MethodName := { cls := "SweptPaths$Cells", name := "cover", desc := "(LSweptPaths$Shape;LSweptPaths$Pose;)V" }
abbrev b_Ce_mark : ByteArray := prog_2_method_5_code
abbrev y_Ce_mark : MethodName := { cls := "SweptPaths$Cells", name := "mark", desc := "(II)V" }
abbrev b_Ce_middleOf : ByteArray := prog_2_method_6_code
abbrev y_Ce_middleOf : MethodName := { cls := "SweptPaths$Cells", name := "middleOf", desc := "(I)I" }
abbrev b_Ce_firstFrom : ByteArray := prog_2_method_7_code
abbrev y_Ce_firstFrom : MethodName := { cls := "SweptPaths$Cells", name := "firstFrom", desc := "(I)I" }
abbrev b_Ce_lastUpTo : ByteArray := prog_2_method_8_code
abbrev y_Ce_lastUpTo : MethodName := { cls := "SweptPaths$Cells", name := "lastUpTo", desc := "(I)I" }
abbrev b_Di_round : ByteArray := prog_3_method_2_code
abbrev y_Di_round : MethodName := { cls := "SweptPaths$Directions", name := "round", desc := "(I)I" }
abbrev b_Di_dx : ByteArray := prog_3_method_3_code
abbrev y_Di_dx : MethodName := { cls := "SweptPaths$Directions", name := "dx", desc := "(I)I" }
abbrev b_Di_dy : ByteArray := prog_3_method_4_code
abbrev y_Di_dy : MethodName := { cls := "SweptPaths$Directions", name := "dy", desc := "(I)I" }
abbrev b_Di_askew : ByteArray := prog_3_method_5_code
abbrev y_Di_askew : MethodName := { cls := "SweptPaths$Directions", name := "askew", desc := "(II)I" }
abbrev b_Pl_init : ByteArray := prog_4_method_1_code
abbrev y_Pl_init : MethodName := { cls := "SweptPaths$Plan", name := "<init>", desc := "()V" }
abbrev b_Pl_add : ByteArray := prog_4_method_2_code
abbrev y_Pl_add : MethodName := { cls := "SweptPaths$Plan", name := "add", desc := "(IIZ)Z" }
abbrev b_Po_init : ByteArray := prog_5_method_1_code
abbrev y_Po_init : MethodName := { cls := "SweptPaths$Pose", name := "<init>", desc := "()V" }
abbrev b_Ru_init : ByteArray := prog_6_method_1_code
abbrev y_Ru_init : MethodName := { cls := "SweptPaths$Run", name := "<init>", desc := "(LSweptPaths$Setting;)V" }
abbrev b_Ru_begin : ByteArray := prog_6_method_2_code
abbrev y_Ru_begin : MethodName := { cls := "SweptPaths$Run", name := "begin", desc := "()V" }
abbrev b_Ru_follow : ByteArray := prog_6_method_3_code
abbrev y_Ru_follow : MethodName := { cls := "SweptPaths$Run", name := "follow", desc := "(LSweptPaths$Plan;)V" }
abbrev b_Ru_walk : ByteArray := prog_6_method_4_code
abbrev y_Ru_walk : MethodName := { cls := "SweptPaths$Run", name := "walk", desc := "(IIZ)V" }
abbrev b_Ru_isFaultless : ByteArray := prog_6_method_5_code
abbrev y_Ru_isFaultless : MethodName := { cls := "SweptPaths$Run", name := "isFaultless", desc := "()Z" }
abbrev b_Ru_askewOf : ByteArray := prog_6_method_6_code
abbrev y_Ru_askewOf : MethodName := { cls := "SweptPaths$Run", name := "askewOf", desc := "(I)I" }
abbrev b_Ru_move : ByteArray := prog_6_method_7_code
abbrev y_Ru_move : MethodName := { cls := "SweptPaths$Run", name := "move", desc := "(II)V" }
abbrev b_Ru_swing : ByteArray := prog_6_method_8_code
abbrev y_Ru_swing : MethodName := { cls := "SweptPaths$Run", name := "swing", desc := "(II)V" }
abbrev b_Ru_placeTrailers : ByteArray := prog_6_method_9_code
abbrev y_Ru_placeTrailers : MethodName := { cls := "SweptPaths$Run", name := "placeTrailers", desc := "()V" }
abbrev b_Ru_measureAskew : ByteArray := prog_6_method_10_code
abbrev y_Ru_measureAskew : MethodName := { cls := "SweptPaths$Run", name := "measureAskew", desc := "()V" }
abbrev b_Ru_lookRound : ByteArray := prog_6_method_11_code
abbrev y_Ru_lookRound : MethodName := { cls := "SweptPaths$Run", name := "lookRound", desc := "()V" }
abbrev b_Ru_lookForPoles : ByteArray := prog_6_method_12_code
abbrev y_Ru_lookForPoles : MethodName := { cls := "SweptPaths$Run", name := "lookForPoles", desc := "(I)V" }
abbrev b_Se_init : ByteArray := prog_7_method_1_code
abbrev y_Se_init : MethodName := { cls := "SweptPaths$Setting", name := "<init>", desc := "()V" }
abbrev b_Sh_init : ByteArray := prog_8_method_1_code
abbrev y_Sh_init : MethodName := { cls := "SweptPaths$Shape", name := "<init>", desc := "()V" }
abbrev b_Sh_holds : ByteArray := prog_8_method_2_code
abbrev y_Sh_holds : MethodName := { cls := "SweptPaths$Shape", name := "holds", desc := "(JJ)Z" }
abbrev b_Sh_directionsIn : ByteArray := prog_8_method_3_code
abbrev y_Sh_directionsIn : MethodName := { cls := "SweptPaths$Shape", name := "directionsIn", desc := "(I)I" }
abbrev b_La_body : ByteArray := method_3_code
abbrev y_La_body : MethodName := { cls := "SweptPathsLaw", name := "body", desc := "(LSweptPaths;IIIII[J)I" }
abbrev b_La_start : ByteArray := method_4_code
abbrev y_La_start : MethodName := { cls := "SweptPathsLaw", name := "start", desc := "(LSweptPaths;III)I" }
abbrev b_La_step : ByteArray := method_5_code
abbrev y_La_step : MethodName := { cls := "SweptPathsLaw", name := "step", desc := "(LSweptPaths;I[J)I" }
abbrev b_La_pole : ByteArray := method_6_code
abbrev y_La_pole : MethodName := { cls := "SweptPathsLaw", name := "pole", desc := "(LSweptPaths;II[J)I" }
abbrev b_La_go : ByteArray := method_7_code
abbrev y_La_go : MethodName := { cls := "SweptPathsLaw", name := "go", desc := "(LSweptPaths;IIZ[J)I" }
abbrev b_La_told : ByteArray := method_8_code
abbrev y_La_told : MethodName := { cls := "SweptPathsLaw", name := "told", desc := "(LSweptPaths;II[J)I" }
abbrev b_La_corner : ByteArray := method_9_code
abbrev y_La_corner : MethodName := { cls := "SweptPathsLaw", name := "corner", desc := "(LSweptPaths;III[J)I" }
abbrev b_La_cell_LPIIaJ : ByteArray := method_10_code
abbrev y_La_cell_LPIIaJ : MethodName := { cls := "SweptPathsLaw", name := "cell", desc := "(LSweptPaths;II[J)I" }
abbrev b_La_clash : ByteArray := method_11_code
abbrev y_La_clash : MethodName := { cls := "SweptPathsLaw", name := "clash", desc := "(LSweptPaths;I[J)I" }
abbrev b_La_part : ByteArray := method_12_code
abbrev y_La_part : MethodName := { cls := "SweptPathsLaw", name := "part", desc := "(LSweptPaths;IIIZ[J)I" }
abbrev b_La_clear : ByteArray := method_13_code
abbrev y_La_clear : MethodName := { cls := "SweptPathsLaw", name := "clear", desc := "(LSweptPaths;I[J)I" }
abbrev b_La_best : ByteArray := method_14_code
abbrev y_La_best : MethodName := { cls := "SweptPathsLaw", name := "best", desc := "(LSweptPaths;[J)I" }
abbrev b_La_sweeps : ByteArray := method_15_code
abbrev y_La_sweeps : MethodName := { cls := "SweptPathsLaw", name := "sweeps", desc := "(LSweptPaths;I[J)I" }
abbrev b_La_law : ByteArray := code
abbrev y_La_law : MethodName := { cls := "SweptPathsLaw", name := "law", desc := "([I)Z" }
abbrev b_Ob_init : ByteArray := object_method_1_code
abbrev y_Ob_init : MethodName := { cls := "java/lang/Object", name := "<init>", desc := "()V" }
abbrev b_Ex_init : ByteArray := prog_11_method_2_code
abbrev y_Ex_init : MethodName := { cls := "java/lang/Exception", name := "<init>", desc := "(Ljava/lang/String;)V" }
abbrev b_IA_init : ByteArray := prog_12_method_2_code
abbrev y_IA_init : MethodName := { cls := "java/lang/IllegalArgumentException", name := "<init>", desc := "(Ljava/lang/String;)V" }
abbrev b_IS_init : ByteArray := prog_13_method_2_code
abbrev y_IS_init : MethodName := { cls := "java/lang/IllegalStateException", name := "<init>", desc := "(Ljava/lang/String;)V" }
abbrev b_Ma_abs : ByteArray := prog_14_method_59_code
abbrev y_Ma_abs : MethodName := { cls := "java/lang/Math", name := "abs", desc := "(I)I" }
abbrev b_Ma_floorDiv : ByteArray := prog_14_method_47_code
abbrev y_Ma_floorDiv : MethodName := { cls := "java/lang/Math", name := "floorDiv", desc := "(II)I" }
abbrev b_Ma_max : ByteArray := prog_14_method_65_code
abbrev y_Ma_max : MethodName := { cls := "java/lang/Math", name := "max", desc := "(II)I" }
abbrev b_Ma_min : ByteArray := prog_14_method_69_code
abbrev y_Ma_min : MethodName := { cls := "java/lang/Math", name := "min", desc := "(II)I" }
abbrev b_Rt_init : ByteArray := prog_15_method_2_code
abbrev y_Rt_init : MethodName := { cls := "java/lang/RuntimeException", name := "<init>", desc := "(Ljava/lang/String;)V" }
abbrev b_Th_init : ByteArray := prog_17_method_2_code
abbrev y_Th_init : MethodName := { cls := "java/lang/Throwable", name := "<init>", desc := "(Ljava/lang/String;)V" }
abbrev b_Ar_fill : ByteArray := prog_18_method_101_code
abbrev y_Ar_fill : MethodName := { cls := "java/util/Arrays", name := "fill", desc := "([JJ)V" }
end
section
theorem d_SP_init_0 : decode b_SP_init 0 = .ok (.aload_n 0, 1) := by decide +kernel
theorem d_SP_init_1 : decode b_SP_init 1 = .ok (.invokespecial 1, 3) := by decide +kernel
theorem d_SP_init_4 : decode b_SP_init 4 = .ok (.aload_n 0, 1) := by decide +kernel
theorem d_SP_init_5 : decode b_SP_init 5 = .ok (.new 7, 3) := by decide +kernel
theorem d_SP_init_8 : decode b_SP_init 8 = .ok (.dup, 1) := by decide +kernel
theorem d_SP_init_9 : decode b_SP_init 9 = .ok (.invokespecial 9, 3) := by decide +kernel
theorem d_SP_init_12 : decode b_SP_init 12 = .ok (.putfield 10, 3) := by decide +kernel
theorem d_SP_init_15 : decode b_SP_init 15 = .ok (.aload_n 0, 1) := by decide +kernel
theorem d_SP_init_16 : decode b_SP_init 16 = .ok (.new 16, 3) := by decide +kernel
theorem d_SP_init_19 : decode b_SP_init 19 = .ok (.dup, 1) := by decide +kernel
theorem d_SP_init_20 : decode b_SP_init 20 = .ok (.aload_n 0, 1) := by decide +kernel
theorem d_SP_init_21 : decode b_SP_init 21 = .ok (.getfield 10, 3) := by decide +kernel
theorem d_SP_init_24 : decode b_SP_init 24 = .ok (.invokespecial 18, 3) := by decide +kernel
theorem d_SP_init_27 : decode b_SP_init 27 = .ok (.putfield 21, 3) := by decide +kernel
theorem d_SP_init_30 : decode b_SP_init 30 = .ok (.aload_n 0, 1) := by decide +kernel
theorem d_SP_init_31 : decode b_SP_init 31 = .ok (.new 16, 3) := by decide +kernel
theorem d_SP_init_34 : decode b_SP_init 34 = .ok (.dup, 1) := by decide +kernel
theorem d_SP_init_35 : decode b_SP_init 35 = .ok (.aload_n 0, 1) := by decide +kernel
theorem d_SP_init_36 : decode b_SP_init 36 = .ok (.getfield 10, 3) := by decide +kernel
theorem d_SP_init_39 : decode b_SP_init 39 = .ok (.invokespecial 18, 3) := by decide +kernel
theorem d_SP_init_42 : decode b_SP_init 42 = .ok (.putfield 25, 3) := by decide +kernel
theorem d_SP_init_45 : decode b_SP_init 45 = .ok (.aload_n 0, 1) := by decide +kernel
theorem d_SP_init_46 : decode b_SP_init 46 = .ok (.iconst 4, 1) := by decide +kernel
theorem d_SP_init_47 : decode b_SP_init 47 = .ok (.anewarray 28, 3) := by decide +kernel
theorem d_SP_init_50 : decode b_SP_init 50 = .ok (.putfield 30, 3) := by decide +kernel
theorem d_SP_init_53 : decode b_SP_init 53 = .ok (.iconst 0, 1) := by decide +kernel
theorem d_SP_init_54 : decode b_SP_init 54 = .ok (.istore_n 1, 1) := by decide +kernel
theorem d_SP_init_55 : decode b_SP_init 55 = .ok (.iload_n 1, 1) := by decide +kernel
theorem d_SP_init_56 : decode b_SP_init 56 = .ok (.iconst 4, 1) := by decide +kernel
theorem d_SP_init_57 : decode b_SP_init 57 = .ok (.if_icmp .ge 22, 3) := by decide +kernel
theorem d_SP_init_60 : decode b_SP_init 60 = .ok (.aload_n 0, 1) := by decide +kernel
theorem d_SP_init_61 : decode b_SP_init 61 = .ok (.getfield 30, 3) := by decide +kernel
theorem d_SP_init_64 : decode b_SP_init 64 = .ok (.iload_n 1, 1) := by decide +kernel
theorem d_SP_init_65 : decode b_SP_init 65 = .ok (.new 28, 3) := by decide +kernel
theorem d_SP_init_68 : decode b_SP_init 68 = .ok (.dup, 1) := by decide +kernel
theorem d_SP_init_69 : decode b_SP_init 69 = .ok (.invokespecial 34, 3) := by decide +kernel
theorem d_SP_init_72 : decode b_SP_init 72 = .ok (.aastore, 1) := by decide +kernel
theorem d_SP_init_73 : decode b_SP_init 73 = .ok (.iinc 1 1, 3) := by decide +kernel
theorem d_SP_init_76 : decode b_SP_init 76 = .ok (.goto (-21), 3) := by decide +kernel
theorem d_SP_init_79 : decode b_SP_init 79 = .ok (.return_, 1) := by decide +kernel
theorem d_SP_body_0 : decode b_SP_body 0 = .ok (.iload_n 1, 1) := by decide +kernel
theorem d_SP_body_1 : decode b_SP_body 1 = .ok (.iconst 1, 1) := by decide +kernel
theorem d_SP_body_2 : decode b_SP_body 2 = .ok (.sipush 200, 3) := by decide +kernel
theorem d_SP_body_5 : decode b_SP_body 5 = .ok (.invokestatic 35, 3) := by decide +kernel
theorem d_SP_body_8 : decode b_SP_body 8 = .ok (.iload_n 2, 1) := by decide +kernel
theorem d_SP_body_9 : decode b_SP_body 9 = .ok (.iconst 0, 1) := by decide +kernel
theorem d_SP_body_10 : decode b_SP_body 10 = .ok (.sipush 200, 3) := by decide +kernel
theorem d_SP_body_13 : decode b_SP_body 13 = .ok (.invokestatic 35, 3) := by decide +kernel
theorem d_SP_body_16 : decode b_SP_body 16 = .ok (.iload_n 3, 1) := by decide +kernel
theorem d_SP_body_17 : decode b_SP_body 17 = .ok (.iconst 0, 1) := by decide +kernel
theorem d_SP_body_18 : decode b_SP_body 18 = .ok (.bipush 60, 2) := by decide +kernel
theorem d_SP_body_20 : decode b_SP_body 20 = .ok (.invokestatic 35, 3) := by decide +kernel
theorem d_SP_body_23 : decode b_SP_body 23 = .ok (.iload 4, 2) := by decide +kernel
theorem d_SP_body_25 : decode b_SP_body 25 = .ok (.iconst 0, 1) := by decide +kernel
theorem d_SP_body_26 : decode b_SP_body 26 = .ok (.bipush 60, 2) := by decide +kernel
theorem d_SP_body_28 : decode b_SP_body 28 = .ok (.invokestatic 35, 3) := by decide +kernel
theorem d_SP_body_31 : decode b_SP_body 31 = .ok (.iload 5, 2) := by decide +kernel
theorem d_SP_body_33 : decode b_SP_body 33 = .ok (.iconst 1, 1) := by decide +kernel
theorem d_SP_body_34 : decode b_SP_body 34 = .ok (.bipush 20, 2) := by decide +kernel
theorem d_SP_body_36 : decode b_SP_body 36 = .ok (.invokestatic 35, 3) := by decide +kernel
theorem d_SP_body_39 : decode b_SP_body 39 = .ok (.aload_n 0, 1) := by decide +kernel
theorem d_SP_body_40 : decode b_SP_body 40 = .ok (.getfield 10, 3) := by decide +kernel
theorem d_SP_body_43 : decode b_SP_body 43 = .ok (.getfield 39, 3) := by decide +kernel
theorem d_SP_body_46 : decode b_SP_body 46 = .ok (.istore 6, 2) := by decide +kernel
theorem d_SP_body_48 : decode b_SP_body 48 = .ok (.iload 6, 2) := by decide +kernel
theorem d_SP_body_50 : decode b_SP_body 50 = .ok (.iconst 3, 1) := by decide +kernel
theorem d_SP_body_51 : decode b_SP_body 51 = .ok (.if_icmp .lt 13, 3) := by decide +kernel
theorem d_SP_body_54 : decode b_SP_body 54 = .ok (.new 43, 3) := by decide +kernel
theorem d_SP_body_57 : decode b_SP_body 57 = .ok (.dup, 1) := by decide +kernel
theorem d_SP_body_58 : decode b_SP_body 58 = .ok (.ldc 45, 2) := by decide +kernel
theorem d_SP_body_60 : decode b_SP_body 60 = .ok (.invokespecial 47, 3) := by decide +kernel
theorem d_SP_body_63 : decode b_SP_body 63 = .ok (.athrow, 1) := by decide +kernel
theorem d_SP_body_64 : decode b_SP_body 64 = .ok (.aload_n 0, 1) := by decide +kernel
theorem d_SP_body_65 : decode b_SP_body 65 = .ok (.getfield 10, 3) := by decide +kernel
theorem d_SP_body_68 : decode b_SP_body 68 = .ok (.getfield 50, 3) := by decide +kernel
theorem d_SP_body_71 : decode b_SP_body 71 = .ok (.iload 6, 2) := by decide +kernel
theorem d_SP_body_73 : decode b_SP_body 73 = .ok (.aaload, 1) := by decide +kernel
theorem d_SP_body_74 : decode b_SP_body 74 = .ok (.astore 7, 2) := by decide +kernel
theorem d_SP_body_76 : decode b_SP_body 76 = .ok (.aload 7, 2) := by decide +kernel
theorem d_SP_body_78 : decode b_SP_body 78 = .ok (.iload_n 1, 1) := by decide +kernel
theorem d_SP_body_79 : decode b_SP_body 79 = .ok (.putfield 54, 3) := by decide +kernel
theorem d_SP_body_82 : decode b_SP_body 82 = .ok (.aload 7, 2) := by decide +kernel
theorem d_SP_body_84 : decode b_SP_body 84 = .ok (.iload_n 2, 1) := by decide +kernel
theorem d_SP_body_85 : decode b_SP_body 85 = .ok (.putfield 59, 3) := by decide +kernel
theorem d_SP_body_88 : decode b_SP_body 88 = .ok (.aload 7, 2) := by decide +kernel
theorem d_SP_body_90 : decode b_SP_body 90 = .ok (.iload_n 3, 1) := by decide +kernel
theorem d_SP_body_91 : decode b_SP_body 91 = .ok (.putfield 62, 3) := by decide +kernel
theorem d_SP_body_94 : decode b_SP_body 94 = .ok (.aload 7, 2) := by decide +kernel
theorem d_SP_body_96 : decode b_SP_body 96 = .ok (.iload 4, 2) := by decide +kernel
theorem d_SP_body_98 : decode b_SP_body 98 = .ok (.putfield 65, 3) := by decide +kernel
theorem d_SP_body_101 : decode b_SP_body 101 = .ok (.aload 7, 2) := by decide +kernel
theorem d_SP_body_103 : decode b_SP_body 103 = .ok (.iload 5, 2) := by decide +kernel
theorem d_SP_body_105 : decode b_SP_body 105 = .ok (.putfield 68, 3) := by decide +kernel
theorem d_SP_body_108 : decode b_SP_body 108 = .ok (.aload_n 0, 1) := by decide +kernel
theorem d_SP_body_109 : decode b_SP_body 109 = .ok (.getfield 10, 3) := by decide +kernel
theorem d_SP_body_112 : decode b_SP_body 112 = .ok (.iload 6, 2) := by decide +kernel
theorem d_SP_body_114 : decode b_SP_body 114 = .ok (.iconst 1, 1) := by decide +kernel
theorem d_SP_body_115 : decode b_SP_body 115 = .ok (.iadd, 1) := by decide +kernel
theorem d_SP_body_116 : decode b_SP_body 116 = .ok (.putfield 39, 3) := by decide +kernel
theorem d_SP_body_119 : decode b_SP_body 119 = .ok (.aload_n 0, 1) := by decide +kernel
theorem d_SP_body_120 : decode b_SP_body 120 = .ok (.getfield 21, 3) := by decide +kernel
theorem d_SP_body_123 : decode b_SP_body 123 = .ok (.invokevirtual 71, 3) := by decide +kernel
theorem d_SP_body_126 : decode b_SP_body 126 = .ok (.iload 6, 2) := by decide +kernel
theorem d_SP_body_128 : decode b_SP_body 128 = .ok (.ireturn, 1) := by decide +kernel
theorem d_SP_start_0 : decode b_SP_start 0 = .ok (.iload_n 1, 1) := by decide +kernel
theorem d_SP_start_1 : decode b_SP_start 1 = .ok (.sipush (-1000), 3) := by decide +kernel
theorem d_SP_start_4 : decode b_SP_start 4 = .ok (.sipush 1000, 3) := by decide +kernel
theorem d_SP_start_7 : decode b_SP_start 7 = .ok (.invokestatic 35, 3) := by decide +kernel
theorem d_SP_start_10 : decode b_SP_start 10 = .ok (.iload_n 2, 1) := by decide +kernel
theorem d_SP_start_11 : decode b_SP_start 11 = .ok (.sipush (-1000), 3) := by decide +kernel
theorem d_SP_start_14 : decode b_SP_start 14 = .ok (.sipush 1000, 3) := by decide +kernel
theorem d_SP_start_17 : decode b_SP_start 17 = .ok (.invokestatic 35, 3) := by decide +kernel
theorem d_SP_start_20 : decode b_SP_start 20 = .ok (.iload_n 3, 1) := by decide +kernel
theorem d_SP_start_21 : decode b_SP_start 21 = .ok (.iconst 0, 1) := by decide +kernel
theorem d_SP_start_22 : decode b_SP_start 22 = .ok (.bipush 63, 2) := by decide +kernel
theorem d_SP_start_24 : decode b_SP_start 24 = .ok (.invokestatic 35, 3) := by decide +kernel
theorem d_SP_start_27 : decode b_SP_start 27 = .ok (.aload_n 0, 1) := by decide +kernel
theorem d_SP_start_28 : decode b_SP_start 28 = .ok (.getfield 10, 3) := by decide +kernel
theorem d_SP_start_31 : decode b_SP_start 31 = .ok (.iload_n 1, 1) := by decide +kernel
theorem d_SP_start_32 : decode b_SP_start 32 = .ok (.putfield 76, 3) := by decide +kernel
theorem d_SP_start_35 : decode b_SP_start 35 = .ok (.aload_n 0, 1) := by decide +kernel
theorem d_SP_start_36 : decode b_SP_start 36 = .ok (.getfield 10, 3) := by decide +kernel
theorem d_SP_start_39 : decode b_SP_start 39 = .ok (.iload_n 2, 1) := by decide +kernel
theorem d_SP_start_40 : decode b_SP_start 40 = .ok (.putfield 79, 3) := by decide +kernel
theorem d_SP_start_43 : decode b_SP_start 43 = .ok (.aload_n 0, 1) := by decide +kernel
theorem d_SP_start_44 : decode b_SP_start 44 = .ok (.getfield 10, 3) := by decide +kernel
theorem d_SP_start_47 : decode b_SP_start 47 = .ok (.iload_n 3, 1) := by decide +kernel
theorem d_SP_start_48 : decode b_SP_start 48 = .ok (.putfield 82, 3) := by decide +kernel
theorem d_SP_start_51 : decode b_SP_start 51 = .ok (.aload_n 0, 1) := by decide +kernel
theorem d_SP_start_52 : decode b_SP_start 52 = .ok (.getfield 21, 3) := by decide +kernel
theorem d_SP_start_55 : decode b_SP_start 55 = .ok (.invokevirtual 71, 3) := by decide +kernel
theorem d_SP_start_58 : decode b_SP_start 58 = .ok (.return_, 1) := by decide +kernel
theorem d_SP_step_0 : decode b_SP_step 0 = .ok (.iload_n 1, 1) := by decide +kernel
theorem d_SP_step_1 : decode b_SP_step 1 = .ok (.iconst 1, 1) := by decide +kernel
theorem d_SP_step_2 : decode b_SP_step 2 = .ok (.bipush 20, 2) := by decide +kernel
theorem d_SP_step_4 : decode b_SP_step 4 = .ok (.invokestatic 35, 3) := by decide +kernel
theorem d_SP_step_7 : decode b_SP_step 7 = .ok (.aload_n 0, 1) := by decide +kernel
theorem d_SP_step_8 : decode b_SP_step 8 = .ok (.getfield 10, 3) := by decide +kernel
theorem d_SP_step_11 : decode b_SP_step 11 = .ok (.getfield 85, 3) := by decide +kernel
theorem d_SP_step_14 : decode b_SP_step 14 = .ok (.istore_n 2, 1) := by decide +kernel
theorem d_SP_step_15 : decode b_SP_step 15 = .ok (.aload_n 0, 1) := by decide +kernel
theorem d_SP_step_16 : decode b_SP_step 16 = .ok (.getfield 10, 3) := by decide +kernel
theorem d_SP_step_19 : decode b_SP_step 19 = .ok (.iload_n 1, 1) := by decide +kernel
theorem d_SP_step_20 : decode b_SP_step 20 = .ok (.putfield 85, 3) := by decide +kernel
theorem d_SP_step_23 : decode b_SP_step 23 = .ok (.aload_n 0, 1) := by decide +kernel
theorem d_SP_step_24 : decode b_SP_step 24 = .ok (.getfield 21, 3) := by decide +kernel
theorem d_SP_step_27 : decode b_SP_step 27 = .ok (.invokevirtual 71, 3) := by decide +kernel
theorem d_SP_step_30 : decode b_SP_step 30 = .ok (.iload_n 2, 1) := by decide +kernel
theorem d_SP_step_31 : decode b_SP_step 31 = .ok (.ireturn, 1) := by decide +kernel
theorem d_SP_pole_0 : decode b_SP_pole 0 = .ok (.iload_n 1, 1) := by decide +kernel
theorem d_SP_pole_1 : decode b_SP_pole 1 = .ok (.sipush (-1000), 3) := by decide +kernel
theorem d_SP_pole_4 : decode b_SP_pole 4 = .ok (.sipush 1000, 3) := by decide +kernel
theorem d_SP_pole_7 : decode b_SP_pole 7 = .ok (.invokestatic 35, 3) := by decide +kernel
theorem d_SP_pole_10 : decode b_SP_pole 10 = .ok (.iload_n 2, 1) := by decide +kernel
theorem d_SP_pole_11 : decode b_SP_pole 11 = .ok (.sipush (-1000), 3) := by decide +kernel
theorem d_SP_pole_14 : decode b_SP_pole 14 = .ok (.sipush 1000, 3) := by decide +kernel
theorem d_SP_pole_17 : decode b_SP_pole 17 = .ok (.invokestatic 35, 3) := by decide +kernel
theorem d_SP_pole_20 : decode b_SP_pole 20 = .ok (.aload_n 0, 1) := by decide +kernel
theorem d_SP_pole_21 : decode b_SP_pole 21 = .ok (.getfield 10, 3) := by decide +kernel
theorem d_SP_pole_24 : decode b_SP_pole 24 = .ok (.getfield 88, 3) := by decide +kernel
theorem d_SP_pole_27 : decode b_SP_pole 27 = .ok (.istore_n 3, 1) := by decide +kernel
theorem d_SP_pole_28 : decode b_SP_pole 28 = .ok (.iload_n 3, 1) := by decide +kernel
theorem d_SP_pole_29 : decode b_SP_pole 29 = .ok (.bipush 20, 2) := by decide +kernel
theorem d_SP_pole_31 : decode b_SP_pole 31 = .ok (.if_icmp .lt 13, 3) := by decide +kernel
theorem d_SP_pole_34 : decode b_SP_pole 34 = .ok (.new 43, 3) := by decide +kernel
theorem d_SP_pole_37 : decode b_SP_pole 37 = .ok (.dup, 1) := by decide +kernel
theorem d_SP_pole_38 : decode b_SP_pole 38 = .ok (.ldc 91, 2) := by decide +kernel
theorem d_SP_pole_40 : decode b_SP_pole 40 = .ok (.invokespecial 47, 3) := by decide +kernel
theorem d_SP_pole_43 : decode b_SP_pole 43 = .ok (.athrow, 1) := by decide +kernel
theorem d_SP_pole_44 : decode b_SP_pole 44 = .ok (.aload_n 0, 1) := by decide +kernel
theorem d_SP_pole_45 : decode b_SP_pole 45 = .ok (.getfield 10, 3) := by decide +kernel
theorem d_SP_pole_48 : decode b_SP_pole 48 = .ok (.getfield 93, 3) := by decide +kernel
theorem d_SP_pole_51 : decode b_SP_pole 51 = .ok (.iload_n 3, 1) := by decide +kernel
theorem d_SP_pole_52 : decode b_SP_pole 52 = .ok (.iload_n 1, 1) := by decide +kernel
theorem d_SP_pole_53 : decode b_SP_pole 53 = .ok (.sipush 4096, 3) := by decide +kernel
theorem d_SP_pole_56 : decode b_SP_pole 56 = .ok (.imul, 1) := by decide +kernel
theorem d_SP_pole_57 : decode b_SP_pole 57 = .ok (.iastore, 1) := by decide +kernel
theorem d_SP_pole_58 : decode b_SP_pole 58 = .ok (.aload_n 0, 1) := by decide +kernel
theorem d_SP_pole_59 : decode b_SP_pole 59 = .ok (.getfield 10, 3) := by decide +kernel
theorem d_SP_pole_62 : decode b_SP_pole 62 = .ok (.getfield 97, 3) := by decide +kernel
theorem d_SP_pole_65 : decode b_SP_pole 65 = .ok (.iload_n 3, 1) := by decide +kernel
theorem d_SP_pole_66 : decode b_SP_pole 66 = .ok (.iload_n 2, 1) := by decide +kernel
theorem d_SP_pole_67 : decode b_SP_pole 67 = .ok (.sipush 4096, 3) := by decide +kernel
theorem d_SP_pole_70 : decode b_SP_pole 70 = .ok (.imul, 1) := by decide +kernel
theorem d_SP_pole_71 : decode b_SP_pole 71 = .ok (.iastore, 1) := by decide +kernel
theorem d_SP_pole_72 : decode b_SP_pole 72 = .ok (.aload_n 0, 1) := by decide +kernel
theorem d_SP_pole_73 : decode b_SP_pole 73 = .ok (.getfield 10, 3) := by decide +kernel
theorem d_SP_pole_76 : decode b_SP_pole 76 = .ok (.iload_n 3, 1) := by decide +kernel
theorem d_SP_pole_77 : decode b_SP_pole 77 = .ok (.iconst 1, 1) := by decide +kernel
theorem d_SP_pole_78 : decode b_SP_pole 78 = .ok (.iadd, 1) := by decide +kernel
theorem d_SP_pole_79 : decode b_SP_pole 79 = .ok (.putfield 88, 3) := by decide +kernel
theorem d_SP_pole_82 : decode b_SP_pole 82 = .ok (.iload_n 3, 1) := by decide +kernel
theorem d_SP_pole_83 : decode b_SP_pole 83 = .ok (.ireturn, 1) := by decide +kernel
theorem d_SP_go_0 : decode b_SP_go 0 = .ok (.iload_n 1, 1) := by decide +kernel
theorem d_SP_go_1 : decode b_SP_go 1 = .ok (.bipush (-3), 2) := by decide +kernel
theorem d_SP_go_3 : decode b_SP_go 3 = .ok (.iconst 3, 1) := by decide +kernel
theorem d_SP_go_4 : decode b_SP_go 4 = .ok (.invokestatic 35, 3) := by decide +kernel
theorem d_SP_go_7 : decode b_SP_go 7 = .ok (.iload_n 2, 1) := by decide +kernel
theorem d_SP_go_8 : decode b_SP_go 8 = .ok (.iconst 1, 1) := by decide +kernel
theorem d_SP_go_9 : decode b_SP_go 9 = .ok (.sipush 200, 3) := by decide +kernel
theorem d_SP_go_12 : decode b_SP_go 12 = .ok (.invokestatic 35, 3) := by decide +kernel
theorem d_SP_go_15 : decode b_SP_go 15 = .ok (.aload_n 0, 1) := by decide +kernel
theorem d_SP_go_16 : decode b_SP_go 16 = .ok (.invokevirtual 100, 3) := by decide +kernel
theorem d_SP_go_19 : decode b_SP_go 19 = .ok (.aload_n 0, 1) := by decide +kernel
theorem d_SP_go_20 : decode b_SP_go 20 = .ok (.getfield 21, 3) := by decide +kernel
theorem d_SP_go_23 : decode b_SP_go 23 = .ok (.iload_n 1, 1) := by decide +kernel
theorem d_SP_go_24 : decode b_SP_go 24 = .ok (.iload_n 2, 1) := by decide +kernel
theorem d_SP_go_25 : decode b_SP_go 25 = .ok (.iload_n 3, 1) := by decide +kernel
theorem d_SP_go_26 : decode b_SP_go 26 = .ok (.invokevirtual 103, 3) := by decide +kernel
theorem d_SP_go_29 : decode b_SP_go 29 = .ok (.aload_n 0, 1) := by decide +kernel
theorem d_SP_go_30 : decode b_SP_go 30 = .ok (.getfield 21, 3) := by decide +kernel
theorem d_SP_go_33 : decode b_SP_go 33 = .ok (.getfield 107, 3) := by decide +kernel
theorem d_SP_go_36 : decode b_SP_go 36 = .ok (.ireturn, 1) := by decide +kernel
theorem d_SP_told_0 : decode b_SP_told 0 = .ok (.iload_n 1, 1) := by decide +kernel
theorem d_SP_told_1 : decode b_SP_told 1 = .ok (.iconst 0, 1) := by decide +kernel
theorem d_SP_told_2 : decode b_SP_told 2 = .ok (.aload_n 0, 1) := by decide +kernel
theorem d_SP_told_3 : decode b_SP_told 3 = .ok (.getfield 10, 3) := by decide +kernel
theorem d_SP_told_6 : decode b_SP_told 6 = .ok (.getfield 39, 3) := by decide +kernel
theorem d_SP_told_9 : decode b_SP_told 9 = .ok (.iconst 1, 1) := by decide +kernel
theorem d_SP_told_10 : decode b_SP_told 10 = .ok (.isub, 1) := by decide +kernel
theorem d_SP_told_11 : decode b_SP_told 11 = .ok (.invokestatic 35, 3) := by decide +kernel
theorem d_SP_told_14 : decode b_SP_told 14 = .ok (.iload_n 2, 1) := by decide +kernel
theorem d_SP_told_15 : decode b_SP_told 15 = .ok (.iconst 0, 1) := by decide +kernel
theorem d_SP_told_16 : decode b_SP_told 16 = .ok (.iconst 4, 1) := by decide +kernel
theorem d_SP_told_17 : decode b_SP_told 17 = .ok (.invokestatic 35, 3) := by decide +kernel
theorem d_SP_told_20 : decode b_SP_told 20 = .ok (.aload_n 0, 1) := by decide +kernel
theorem d_SP_told_21 : decode b_SP_told 21 = .ok (.getfield 21, 3) := by decide +kernel
theorem d_SP_told_24 : decode b_SP_told 24 = .ok (.getfield 110, 3) := by decide +kernel
theorem d_SP_told_27 : decode b_SP_told 27 = .ok (.iload_n 1, 1) := by decide +kernel
theorem d_SP_told_28 : decode b_SP_told 28 = .ok (.aaload, 1) := by decide +kernel
theorem d_SP_told_29 : decode b_SP_told 29 = .ok (.astore_n 3, 1) := by decide +kernel
theorem d_SP_told_30 : decode b_SP_told 30 = .ok (.iload_n 2, 1) := by decide +kernel
theorem d_SP_told_31 : decode b_SP_told 31 = .ok (.tableswitch 53 0 3 #[29, 34, 39, 44], 29) := by decide +kernel
theorem d_SP_told_60 : decode b_SP_told 60 = .ok (.aload_n 3, 1) := by decide +kernel
theorem d_SP_told_61 : decode b_SP_told 61 = .ok (.getfield 114, 3) := by decide +kernel
theorem d_SP_told_64 : decode b_SP_told 64 = .ok (.ireturn, 1) := by decide +kernel
theorem d_SP_told_65 : decode b_SP_told 65 = .ok (.aload_n 3, 1) := by decide +kernel
theorem d_SP_told_66 : decode b_SP_told 66 = .ok (.getfield 119, 3) := by decide +kernel
theorem d_SP_told_69 : decode b_SP_told 69 = .ok (.ireturn, 1) := by decide +kernel
theorem d_SP_told_70 : decode b_SP_told 70 = .ok (.aload_n 3, 1) := by decide +kernel
theorem d_SP_told_71 : decode b_SP_told 71 = .ok (.getfield 122, 3) := by decide +kernel
theorem d_SP_told_74 : decode b_SP_told 74 = .ok (.ireturn, 1) := by decide +kernel
theorem d_SP_told_75 : decode b_SP_told 75 = .ok (.aload_n 0, 1) := by decide +kernel
theorem d_SP_told_76 : decode b_SP_told 76 = .ok (.getfield 21, 3) := by decide +kernel
theorem d_SP_told_79 : decode b_SP_told 79 = .ok (.iload_n 1, 1) := by decide +kernel
theorem d_SP_told_80 : decode b_SP_told 80 = .ok (.invokevirtual 125, 3) := by decide +kernel
theorem d_SP_told_83 : decode b_SP_told 83 = .ok (.ireturn, 1) := by decide +kernel
theorem d_SP_told_84 : decode b_SP_told 84 = .ok (.aload_n 3, 1) := by decide +kernel
theorem d_SP_told_85 : decode b_SP_told 85 = .ok (.getfield 129, 3) := by decide +kernel
theorem d_SP_told_88 : decode b_SP_told 88 = .ok (.ireturn, 1) := by decide +kernel
theorem d_SP_corner_0 : decode b_SP_corner 0 = .ok (.iload_n 1, 1) := by decide +kernel
theorem d_SP_corner_1 : decode b_SP_corner 1 = .ok (.iconst 0, 1) := by decide +kernel
theorem d_SP_corner_2 : decode b_SP_corner 2 = .ok (.aload_n 0, 1) := by decide +kernel
theorem d_SP_corner_3 : decode b_SP_corner 3 = .ok (.getfield 10, 3) := by decide +kernel
theorem d_SP_corner_6 : decode b_SP_corner 6 = .ok (.getfield 39, 3) := by decide +kernel
theorem d_SP_corner_9 : decode b_SP_corner 9 = .ok (.iconst 1, 1) := by decide +kernel
theorem d_SP_corner_10 : decode b_SP_corner 10 = .ok (.isub, 1) := by decide +kernel
theorem d_SP_corner_11 : decode b_SP_corner 11 = .ok (.invokestatic 35, 3) := by decide +kernel
theorem d_SP_corner_14 : decode b_SP_corner 14 = .ok (.iload_n 2, 1) := by decide +kernel
theorem d_SP_corner_15 : decode b_SP_corner 15 = .ok (.iconst 0, 1) := by decide +kernel
theorem d_SP_corner_16 : decode b_SP_corner 16 = .ok (.iconst 3, 1) := by decide +kernel
theorem d_SP_corner_17 : decode b_SP_corner 17 = .ok (.invokestatic 35, 3) := by decide +kernel
theorem d_SP_corner_20 : decode b_SP_corner 20 = .ok (.iload_n 3, 1) := by decide +kernel
theorem d_SP_corner_21 : decode b_SP_corner 21 = .ok (.iconst 0, 1) := by decide +kernel
theorem d_SP_corner_22 : decode b_SP_corner 22 = .ok (.iconst 1, 1) := by decide +kernel
theorem d_SP_corner_23 : decode b_SP_corner 23 = .ok (.invokestatic 35, 3) := by decide +kernel
theorem d_SP_corner_26 : decode b_SP_corner 26 = .ok (.aload_n 0, 1) := by decide +kernel
theorem d_SP_corner_27 : decode b_SP_corner 27 = .ok (.getfield 10, 3) := by decide +kernel
theorem d_SP_corner_30 : decode b_SP_corner 30 = .ok (.getfield 50, 3) := by decide +kernel
theorem d_SP_corner_33 : decode b_SP_corner 33 = .ok (.iload_n 1, 1) := by decide +kernel
theorem d_SP_corner_34 : decode b_SP_corner 34 = .ok (.aaload, 1) := by decide +kernel
theorem d_SP_corner_35 : decode b_SP_corner 35 = .ok (.astore 4, 2) := by decide +kernel
theorem d_SP_corner_37 : decode b_SP_corner 37 = .ok (.aload_n 0, 1) := by decide +kernel
theorem d_SP_corner_38 : decode b_SP_corner 38 = .ok (.getfield 21, 3) := by decide +kernel
theorem d_SP_corner_41 : decode b_SP_corner 41 = .ok (.getfield 110, 3) := by decide +kernel
theorem d_SP_corner_44 : decode b_SP_corner 44 = .ok (.iload_n 1, 1) := by decide +kernel
theorem d_SP_corner_45 : decode b_SP_corner 45 = .ok (.aaload, 1) := by decide +kernel
theorem d_SP_corner_46 : decode b_SP_corner 46 = .ok (.astore 5, 2) := by decide +kernel
theorem d_SP_corner_48 : decode b_SP_corner 48 = .ok (.aload 5, 2) := by decide +kernel
theorem d_SP_corner_50 : decode b_SP_corner 50 = .ok (.getfield 122, 3) := by decide +kernel
theorem d_SP_corner_53 : decode b_SP_corner 53 = .ok (.invokestatic 132, 3) := by decide +kernel
theorem d_SP_corner_56 : decode b_SP_corner 56 = .ok (.istore 6, 2) := by decide +kernel
theorem d_SP_corner_58 : decode b_SP_corner 58 = .ok (.aload 5, 2) := by decide +kernel
theorem d_SP_corner_60 : decode b_SP_corner 60 = .ok (.getfield 122, 3) := by decide +kernel
theorem d_SP_corner_63 : decode b_SP_corner 63 = .ok (.invokestatic 135, 3) := by decide +kernel
theorem d_SP_corner_66 : decode b_SP_corner 66 = .ok (.istore 7, 2) := by decide +kernel
theorem d_SP_corner_68 : decode b_SP_corner 68 = .ok (.iload_n 2, 1) := by decide +kernel
theorem d_SP_corner_69 : decode b_SP_corner 69 = .ok (.iconst 1, 1) := by decide +kernel
theorem d_SP_corner_70 : decode b_SP_corner 70 = .ok (.if_icmp .gt 11, 3) := by decide +kernel
theorem d_SP_corner_73 : decode b_SP_corner 73 = .ok (.aload 4, 2) := by decide +kernel
theorem d_SP_corner_75 : decode b_SP_corner 75 = .ok (.getfield 62, 3) := by decide +kernel
theorem d_SP_corner_78 : decode b_SP_corner 78 = .ok (.goto 9, 3) := by decide +kernel
theorem d_SP_corner_81 : decode b_SP_corner 81 = .ok (.aload 4, 2) := by decide +kernel
theorem d_SP_corner_83 : decode b_SP_corner 83 = .ok (.getfield 65, 3) := by decide +kernel
theorem d_SP_corner_86 : decode b_SP_corner 86 = .ok (.ineg, 1) := by decide +kernel
theorem d_SP_corner_87 : decode b_SP_corner 87 = .ok (.istore 8, 2) := by decide +kernel
theorem d_SP_corner_89 : decode b_SP_corner 89 = .ok (.iload_n 2, 1) := by decide +kernel
theorem d_SP_corner_90 : decode b_SP_corner 90 = .ok (.ifCond .eq 8, 3) := by decide +kernel
theorem d_SP_corner_93 : decode b_SP_corner 93 = .ok (.iload_n 2, 1) := by decide +kernel
theorem d_SP_corner_94 : decode b_SP_corner 94 = .ok (.iconst 3, 1) := by decide +kernel
theorem d_SP_corner_95 : decode b_SP_corner 95 = .ok (.if_icmp .ne 11, 3) := by decide +kernel
theorem d_SP_corner_98 : decode b_SP_corner 98 = .ok (.aload 4, 2) := by decide +kernel
theorem d_SP_corner_100 : decode b_SP_corner 100 = .ok (.getfield 68, 3) := by decide +kernel
theorem d_SP_corner_103 : decode b_SP_corner 103 = .ok (.goto 9, 3) := by decide +kernel
theorem d_SP_corner_106 : decode b_SP_corner 106 = .ok (.aload 4, 2) := by decide +kernel
theorem d_SP_corner_108 : decode b_SP_corner 108 = .ok (.getfield 68, 3) := by decide +kernel
theorem d_SP_corner_111 : decode b_SP_corner 111 = .ok (.ineg, 1) := by decide +kernel
theorem d_SP_corner_112 : decode b_SP_corner 112 = .ok (.istore 9, 2) := by decide +kernel
theorem d_SP_corner_114 : decode b_SP_corner 114 = .ok (.iload_n 3, 1) := by decide +kernel
theorem d_SP_corner_115 : decode b_SP_corner 115 = .ok (.ifCond .ne 23, 3) := by decide +kernel
theorem d_SP_corner_118 : decode b_SP_corner 118 = .ok (.aload 5, 2) := by decide +kernel
theorem d_SP_corner_120 : decode b_SP_corner 120 = .ok (.getfield 114, 3) := by decide +kernel
theorem d_SP_corner_123 : decode b_SP_corner 123 = .ok (.iload 8, 2) := by decide +kernel
theorem d_SP_corner_125 : decode b_SP_corner 125 = .ok (.iload 6, 2) := by decide +kernel
theorem d_SP_corner_127 : decode b_SP_corner 127 = .ok (.imul, 1) := by decide +kernel
theorem d_SP_corner_128 : decode b_SP_corner 128 = .ok (.iadd, 1) := by decide +kernel
theorem d_SP_corner_129 : decode b_SP_corner 129 = .ok (.iload 9, 2) := by decide +kernel
theorem d_SP_corner_131 : decode b_SP_corner 131 = .ok (.iload 7, 2) := by decide +kernel
theorem d_SP_corner_133 : decode b_SP_corner 133 = .ok (.imul, 1) := by decide +kernel
theorem d_SP_corner_134 : decode b_SP_corner 134 = .ok (.isub, 1) := by decide +kernel
theorem d_SP_corner_135 : decode b_SP_corner 135 = .ok (.goto 20, 3) := by decide +kernel
theorem d_SP_corner_138 : decode b_SP_corner 138 = .ok (.aload 5, 2) := by decide +kernel
theorem d_SP_corner_140 : decode b_SP_corner 140 = .ok (.getfield 119, 3) := by decide +kernel
theorem d_SP_corner_143 : decode b_SP_corner 143 = .ok (.iload 8, 2) := by decide +kernel
theorem d_SP_corner_145 : decode b_SP_corner 145 = .ok (.iload 7, 2) := by decide +kernel
theorem d_SP_corner_147 : decode b_SP_corner 147 = .ok (.imul, 1) := by decide +kernel
theorem d_SP_corner_148 : decode b_SP_corner 148 = .ok (.iadd, 1) := by decide +kernel
theorem d_SP_corner_149 : decode b_SP_corner 149 = .ok (.iload 9, 2) := by decide +kernel
theorem d_SP_corner_151 : decode b_SP_corner 151 = .ok (.iload 6, 2) := by decide +kernel
theorem d_SP_corner_153 : decode b_SP_corner 153 = .ok (.imul, 1) := by decide +kernel
theorem d_SP_corner_154 : decode b_SP_corner 154 = .ok (.iadd, 1) := by decide +kernel
theorem d_SP_corner_155 : decode b_SP_corner 155 = .ok (.ireturn, 1) := by decide +kernel
theorem d_SP_swept_0 : decode b_SP_swept 0 = .ok (.aload_n 0, 1) := by decide +kernel
theorem d_SP_swept_1 : decode b_SP_swept 1 = .ok (.getfield 21, 3) := by decide +kernel
theorem d_SP_swept_4 : decode b_SP_swept 4 = .ok (.getfield 138, 3) := by decide +kernel
theorem d_SP_swept_7 : decode b_SP_swept 7 = .ok (.getfield 142, 3) := by decide +kernel
theorem d_SP_swept_10 : decode b_SP_swept 10 = .ok (.ireturn, 1) := by decide +kernel
theorem d_SP_cell_0 : decode b_SP_cell 0 = .ok (.iload_n 1, 1) := by decide +kernel
theorem d_SP_cell_1 : decode b_SP_cell 1 = .ok (.bipush (-32), 2) := by decide +kernel
theorem d_SP_cell_3 : decode b_SP_cell 3 = .ok (.bipush 31, 2) := by decide +kernel
theorem d_SP_cell_5 : decode b_SP_cell 5 = .ok (.invokestatic 35, 3) := by decide +kernel
theorem d_SP_cell_8 : decode b_SP_cell 8 = .ok (.iload_n 2, 1) := by decide +kernel
theorem d_SP_cell_9 : decode b_SP_cell 9 = .ok (.bipush (-32), 2) := by decide +kernel
theorem d_SP_cell_11 : decode b_SP_cell 11 = .ok (.bipush 31, 2) := by decide +kernel
theorem d_SP_cell_13 : decode b_SP_cell 13 = .ok (.invokestatic 35, 3) := by decide +kernel
theorem d_SP_cell_16 : decode b_SP_cell 16 = .ok (.aload_n 0, 1) := by decide +kernel
theorem d_SP_cell_17 : decode b_SP_cell 17 = .ok (.getfield 21, 3) := by decide +kernel
theorem d_SP_cell_20 : decode b_SP_cell 20 = .ok (.getfield 138, 3) := by decide +kernel
theorem d_SP_cell_23 : decode b_SP_cell 23 = .ok (.iload_n 1, 1) := by decide +kernel
theorem d_SP_cell_24 : decode b_SP_cell 24 = .ok (.iload_n 2, 1) := by decide +kernel
theorem d_SP_cell_25 : decode b_SP_cell 25 = .ok (.invokevirtual 147, 3) := by decide +kernel
theorem d_SP_cell_28 : decode b_SP_cell 28 = .ok (.ireturn, 1) := by decide +kernel
theorem d_SP_clash_0 : decode b_SP_clash 0 = .ok (.iload_n 1, 1) := by decide +kernel
theorem d_SP_clash_1 : decode b_SP_clash 1 = .ok (.iconst 0, 1) := by decide +kernel
theorem d_SP_clash_2 : decode b_SP_clash 2 = .ok (.iconst 2, 1) := by decide +kernel
theorem d_SP_clash_3 : decode b_SP_clash 3 = .ok (.invokestatic 35, 3) := by decide +kernel
theorem d_SP_clash_6 : decode b_SP_clash 6 = .ok (.iload_n 1, 1) := by decide +kernel
theorem d_SP_clash_7 : decode b_SP_clash 7 = .ok (.lookupswitch 41 #[(0, 25), (1, 33)], 25) := by decide +kernel
theorem d_SP_clash_32 : decode b_SP_clash 32 = .ok (.aload_n 0, 1) := by decide +kernel
theorem d_SP_clash_33 : decode b_SP_clash 33 = .ok (.getfield 21, 3) := by decide +kernel
theorem d_SP_clash_36 : decode b_SP_clash 36 = .ok (.getfield 151, 3) := by decide +kernel
theorem d_SP_clash_39 : decode b_SP_clash 39 = .ok (.ireturn, 1) := by decide +kernel
theorem d_SP_clash_40 : decode b_SP_clash 40 = .ok (.aload_n 0, 1) := by decide +kernel
theorem d_SP_clash_41 : decode b_SP_clash 41 = .ok (.getfield 21, 3) := by decide +kernel
theorem d_SP_clash_44 : decode b_SP_clash 44 = .ok (.getfield 154, 3) := by decide +kernel
theorem d_SP_clash_47 : decode b_SP_clash 47 = .ok (.ireturn, 1) := by decide +kernel
theorem d_SP_clash_48 : decode b_SP_clash 48 = .ok (.aload_n 0, 1) := by decide +kernel
theorem d_SP_clash_49 : decode b_SP_clash 49 = .ok (.getfield 21, 3) := by decide +kernel
theorem d_SP_clash_52 : decode b_SP_clash 52 = .ok (.getfield 157, 3) := by decide +kernel
theorem d_SP_clash_55 : decode b_SP_clash 55 = .ok (.ireturn, 1) := by decide +kernel
theorem d_SP_isStuck_0 : decode b_SP_isStuck 0 = .ok (.aload_n 0, 1) := by decide +kernel
theorem d_SP_isStuck_1 : decode b_SP_isStuck 1 = .ok (.getfield 21, 3) := by decide +kernel
theorem d_SP_isStuck_4 : decode b_SP_isStuck 4 = .ok (.getfield 160, 3) := by decide +kernel
theorem d_SP_isStuck_7 : decode b_SP_isStuck 7 = .ok (.ireturn, 1) := by decide +kernel
theorem d_SP_part_0 : decode b_SP_part 0 = .ok (.iload_n 1, 1) := by decide +kernel
theorem d_SP_part_1 : decode b_SP_part 1 = .ok (.iconst 0, 1) := by decide +kernel
theorem d_SP_part_2 : decode b_SP_part 2 = .ok (.iconst 3, 1) := by decide +kernel
theorem d_SP_part_3 : decode b_SP_part 3 = .ok (.invokestatic 35, 3) := by decide +kernel
theorem d_SP_part_6 : decode b_SP_part 6 = .ok (.iload_n 2, 1) := by decide +kernel
theorem d_SP_part_7 : decode b_SP_part 7 = .ok (.bipush (-3), 2) := by decide +kernel
theorem d_SP_part_9 : decode b_SP_part 9 = .ok (.iconst 3, 1) := by decide +kernel
theorem d_SP_part_10 : decode b_SP_part 10 = .ok (.invokestatic 35, 3) := by decide +kernel
theorem d_SP_part_13 : decode b_SP_part 13 = .ok (.iload_n 3, 1) := by decide +kernel
theorem d_SP_part_14 : decode b_SP_part 14 = .ok (.iconst 1, 1) := by decide +kernel
theorem d_SP_part_15 : decode b_SP_part 15 = .ok (.bipush 60, 2) := by decide +kernel
theorem d_SP_part_17 : decode b_SP_part 17 = .ok (.invokestatic 35, 3) := by decide +kernel
theorem d_SP_part_20 : decode b_SP_part 20 = .ok (.aload_n 0, 1) := by decide +kernel
theorem d_SP_part_21 : decode b_SP_part 21 = .ok (.getfield 30, 3) := by decide +kernel
theorem d_SP_part_24 : decode b_SP_part 24 = .ok (.iload_n 1, 1) := by decide +kernel
theorem d_SP_part_25 : decode b_SP_part 25 = .ok (.aaload, 1) := by decide +kernel
theorem d_SP_part_26 : decode b_SP_part 26 = .ok (.astore 5, 2) := by decide +kernel
theorem d_SP_part_28 : decode b_SP_part 28 = .ok (.aload 5, 2) := by decide +kernel
theorem d_SP_part_30 : decode b_SP_part 30 = .ok (.iload_n 2, 1) := by decide +kernel
theorem d_SP_part_31 : decode b_SP_part 31 = .ok (.iload_n 3, 1) := by decide +kernel
theorem d_SP_part_32 : decode b_SP_part 32 = .ok (.iload 4, 2) := by decide +kernel
theorem d_SP_part_34 : decode b_SP_part 34 = .ok (.invokevirtual 164, 3) := by decide +kernel
theorem d_SP_part_37 : decode b_SP_part 37 = .ok (.ifCond .ne 13, 3) := by decide +kernel
theorem d_SP_part_40 : decode b_SP_part 40 = .ok (.new 43, 3) := by decide +kernel
theorem d_SP_part_43 : decode b_SP_part 43 = .ok (.dup, 1) := by decide +kernel
theorem d_SP_part_44 : decode b_SP_part 44 = .ok (.ldc 168, 2) := by decide +kernel
theorem d_SP_part_46 : decode b_SP_part 46 = .ok (.invokespecial 47, 3) := by decide +kernel
theorem d_SP_part_49 : decode b_SP_part 49 = .ok (.athrow, 1) := by decide +kernel
theorem d_SP_part_50 : decode b_SP_part 50 = .ok (.aload 5, 2) := by decide +kernel
theorem d_SP_part_52 : decode b_SP_part 52 = .ok (.getfield 170, 3) := by decide +kernel
theorem d_SP_part_55 : decode b_SP_part 55 = .ok (.ireturn, 1) := by decide +kernel
theorem d_SP_clear_0 : decode b_SP_clear 0 = .ok (.iload_n 1, 1) := by decide +kernel
theorem d_SP_clear_1 : decode b_SP_clear 1 = .ok (.iconst 0, 1) := by decide +kernel
theorem d_SP_clear_2 : decode b_SP_clear 2 = .ok (.iconst 3, 1) := by decide +kernel
theorem d_SP_clear_3 : decode b_SP_clear 3 = .ok (.invokestatic 35, 3) := by decide +kernel
theorem d_SP_clear_6 : decode b_SP_clear 6 = .ok (.aload_n 0, 1) := by decide +kernel
theorem d_SP_clear_7 : decode b_SP_clear 7 = .ok (.getfield 30, 3) := by decide +kernel
theorem d_SP_clear_10 : decode b_SP_clear 10 = .ok (.iload_n 1, 1) := by decide +kernel
theorem d_SP_clear_11 : decode b_SP_clear 11 = .ok (.aaload, 1) := by decide +kernel
theorem d_SP_clear_12 : decode b_SP_clear 12 = .ok (.getfield 170, 3) := by decide +kernel
theorem d_SP_clear_15 : decode b_SP_clear 15 = .ok (.istore_n 2, 1) := by decide +kernel
theorem d_SP_clear_16 : decode b_SP_clear 16 = .ok (.aload_n 0, 1) := by decide +kernel
theorem d_SP_clear_17 : decode b_SP_clear 17 = .ok (.getfield 30, 3) := by decide +kernel
theorem d_SP_clear_20 : decode b_SP_clear 20 = .ok (.iload_n 1, 1) := by decide +kernel
theorem d_SP_clear_21 : decode b_SP_clear 21 = .ok (.aaload, 1) := by decide +kernel
theorem d_SP_clear_22 : decode b_SP_clear 22 = .ok (.iconst 0, 1) := by decide +kernel
theorem d_SP_clear_23 : decode b_SP_clear 23 = .ok (.putfield 170, 3) := by decide +kernel
theorem d_SP_clear_26 : decode b_SP_clear 26 = .ok (.iload_n 2, 1) := by decide +kernel
theorem d_SP_clear_27 : decode b_SP_clear 27 = .ok (.ireturn, 1) := by decide +kernel
theorem d_SP_best_0 : decode b_SP_best 0 = .ok (.aload_n 0, 1) := by decide +kernel
theorem d_SP_best_1 : decode b_SP_best 1 = .ok (.invokevirtual 100, 3) := by decide +kernel
theorem d_SP_best_4 : decode b_SP_best 4 = .ok (.iconst (-1), 1) := by decide +kernel
theorem d_SP_best_5 : decode b_SP_best 5 = .ok (.istore_n 1, 1) := by decide +kernel
theorem d_SP_best_6 : decode b_SP_best 6 = .ok (.iconst 0, 1) := by decide +kernel
theorem d_SP_best_7 : decode b_SP_best 7 = .ok (.istore_n 2, 1) := by decide +kernel
theorem d_SP_best_8 : decode b_SP_best 8 = .ok (.iconst 0, 1) := by decide +kernel
theorem d_SP_best_9 : decode b_SP_best 9 = .ok (.istore_n 3, 1) := by decide +kernel
theorem d_SP_best_10 : decode b_SP_best 10 = .ok (.iload_n 3, 1) := by decide +kernel
theorem d_SP_best_11 : decode b_SP_best 11 = .ok (.iconst 4, 1) := by decide +kernel
theorem d_SP_best_12 : decode b_SP_best 12 = .ok (.if_icmp .ge 64, 3) := by decide +kernel
theorem d_SP_best_15 : decode b_SP_best 15 = .ok (.aload_n 0, 1) := by decide +kernel
theorem d_SP_best_16 : decode b_SP_best 16 = .ok (.getfield 25, 3) := by decide +kernel
theorem d_SP_best_19 : decode b_SP_best 19 = .ok (.aload_n 0, 1) := by decide +kernel
theorem d_SP_best_20 : decode b_SP_best 20 = .ok (.getfield 30, 3) := by decide +kernel
theorem d_SP_best_23 : decode b_SP_best 23 = .ok (.iload_n 3, 1) := by decide +kernel
theorem d_SP_best_24 : decode b_SP_best 24 = .ok (.aaload, 1) := by decide +kernel
theorem d_SP_best_25 : decode b_SP_best 25 = .ok (.invokevirtual 173, 3) := by decide +kernel
theorem d_SP_best_28 : decode b_SP_best 28 = .ok (.aload_n 0, 1) := by decide +kernel
theorem d_SP_best_29 : decode b_SP_best 29 = .ok (.getfield 25, 3) := by decide +kernel
theorem d_SP_best_32 : decode b_SP_best 32 = .ok (.invokevirtual 177, 3) := by decide +kernel
theorem d_SP_best_35 : decode b_SP_best 35 = .ok (.ifCond .eq 35, 3) := by decide +kernel
theorem d_SP_best_38 : decode b_SP_best 38 = .ok (.iload_n 1, 1) := by decide +kernel
theorem d_SP_best_39 : decode b_SP_best 39 = .ok (.iconst (-1), 1) := by decide +kernel
theorem d_SP_best_40 : decode b_SP_best 40 = .ok (.if_icmp .eq 17, 3) := by decide +kernel
theorem d_SP_best_43 : decode b_SP_best 43 = .ok (.aload_n 0, 1) := by decide +kernel
theorem d_SP_best_44 : decode b_SP_best 44 = .ok (.getfield 25, 3) := by decide +kernel
theorem d_SP_best_47 : decode b_SP_best 47 = .ok (.getfield 138, 3) := by decide +kernel
theorem d_SP_best_50 : decode b_SP_best 50 = .ok (.getfield 142, 3) := by decide +kernel
theorem d_SP_best_53 : decode b_SP_best 53 = .ok (.iload_n 2, 1) := by decide +kernel
theorem d_SP_best_54 : decode b_SP_best 54 = .ok (.if_icmp .ge 16, 3) := by decide +kernel
theorem d_SP_best_57 : decode b_SP_best 57 = .ok (.iload_n 3, 1) := by decide +kernel
theorem d_SP_best_58 : decode b_SP_best 58 = .ok (.istore_n 1, 1) := by decide +kernel
theorem d_SP_best_59 : decode b_SP_best 59 = .ok (.aload_n 0, 1) := by decide +kernel
theorem d_SP_best_60 : decode b_SP_best 60 = .ok (.getfield 25, 3) := by decide +kernel
theorem d_SP_best_63 : decode b_SP_best 63 = .ok (.getfield 138, 3) := by decide +kernel
theorem d_SP_best_66 : decode b_SP_best 66 = .ok (.getfield 142, 3) := by decide +kernel
theorem d_SP_best_69 : decode b_SP_best 69 = .ok (.istore_n 2, 1) := by decide +kernel
theorem d_SP_best_70 : decode b_SP_best 70 = .ok (.iinc 3 1, 3) := by decide +kernel
theorem d_SP_best_73 : decode b_SP_best 73 = .ok (.goto (-63), 3) := by decide +kernel
theorem d_SP_best_76 : decode b_SP_best 76 = .ok (.iload_n 1, 1) := by decide +kernel
theorem d_SP_best_77 : decode b_SP_best 77 = .ok (.ireturn, 1) := by decide +kernel
theorem d_SP_sweeps_0 : decode b_SP_sweeps 0 = .ok (.iload_n 1, 1) := by decide +kernel
theorem d_SP_sweeps_1 : decode b_SP_sweeps 1 = .ok (.iconst 0, 1) := by decide +kernel
theorem d_SP_sweeps_2 : decode b_SP_sweeps 2 = .ok (.iconst 3, 1) := by decide +kernel
theorem d_SP_sweeps_3 : decode b_SP_sweeps 3 = .ok (.invokestatic 35, 3) := by decide +kernel
theorem d_SP_sweeps_6 : decode b_SP_sweeps 6 = .ok (.aload_n 0, 1) := by decide +kernel
theorem d_SP_sweeps_7 : decode b_SP_sweeps 7 = .ok (.invokevirtual 100, 3) := by decide +kernel
theorem d_SP_sweeps_10 : decode b_SP_sweeps 10 = .ok (.aload_n 0, 1) := by decide +kernel
theorem d_SP_sweeps_11 : decode b_SP_sweeps 11 = .ok (.getfield 25, 3) := by decide +kernel
theorem d_SP_sweeps_14 : decode b_SP_sweeps 14 = .ok (.aload_n 0, 1) := by decide +kernel
theorem d_SP_sweeps_15 : decode b_SP_sweeps 15 = .ok (.getfield 30, 3) := by decide +kernel
theorem d_SP_sweeps_18 : decode b_SP_sweeps 18 = .ok (.iload_n 1, 1) := by decide +kernel
theorem d_SP_sweeps_19 : decode b_SP_sweeps 19 = .ok (.aaload, 1) := by decide +kernel
theorem d_SP_sweeps_20 : decode b_SP_sweeps 20 = .ok (.invokevirtual 173, 3) := by decide +kernel
theorem d_SP_sweeps_23 : decode b_SP_sweeps 23 = .ok (.aload_n 0, 1) := by decide +kernel
theorem d_SP_sweeps_24 : decode b_SP_sweeps 24 = .ok (.getfield 25, 3) := by decide +kernel
theorem d_SP_sweeps_27 : decode b_SP_sweeps 27 = .ok (.getfield 138, 3) := by decide +kernel
theorem d_SP_sweeps_30 : decode b_SP_sweeps 30 = .ok (.getfield 142, 3) := by decide +kernel
theorem d_SP_sweeps_33 : decode b_SP_sweeps 33 = .ok (.ireturn, 1) := by decide +kernel
theorem d_SP_demandWithin_0 : decode b_SP_demandWithin 0 = .ok (.iload_n 0, 1) := by decide +kernel
theorem d_SP_demandWithin_1 : decode b_SP_demandWithin 1 = .ok (.iload_n 1, 1) := by decide +kernel
theorem d_SP_demandWithin_2 : decode b_SP_demandWithin 2 = .ok (.if_icmp .lt 8, 3) := by decide +kernel
theorem d_SP_demandWithin_5 : decode b_SP_demandWithin 5 = .ok (.iload_n 0, 1) := by decide +kernel
theorem d_SP_demandWithin_6 : decode b_SP_demandWithin 6 = .ok (.iload_n 2, 1) := by decide +kernel
theorem d_SP_demandWithin_7 : decode b_SP_demandWithin 7 = .ok (.if_icmp .le 13, 3) := by decide +kernel
theorem d_SP_demandWithin_10 : decode b_SP_demandWithin 10 = .ok (.new 181, 3) := by decide +kernel
theorem d_SP_demandWithin_13 : decode b_SP_demandWithin 13 = .ok (.dup, 1) := by decide +kernel
theorem d_SP_demandWithin_14 : decode b_SP_demandWithin 14 = .ok (.ldc 183, 2) := by decide +kernel
theorem d_SP_demandWithin_16 : decode b_SP_demandWithin 16 = .ok (.invokespecial 185, 3) := by decide +kernel
theorem d_SP_demandWithin_19 : decode b_SP_demandWithin 19 = .ok (.athrow, 1) := by decide +kernel
theorem d_SP_demandWithin_20 : decode b_SP_demandWithin 20 = .ok (.return_, 1) := by decide +kernel
theorem d_SP_demandSomeBody_0 : decode b_SP_demandSomeBody 0 = .ok (.aload_n 0, 1) := by decide +kernel
theorem d_SP_demandSomeBody_1 : decode b_SP_demandSomeBody 1 = .ok (.getfield 10, 3) := by decide +kernel
theorem d_SP_demandSomeBody_4 : decode b_SP_demandSomeBody 4 = .ok (.getfield 39, 3) := by decide +kernel
theorem d_SP_demandSomeBody_7 : decode b_SP_demandSomeBody 7 = .ok (.ifCond .ne 13, 3) := by decide +kernel
theorem d_SP_demandSomeBody_10 : decode b_SP_demandSomeBody 10 = .ok (.new 43, 3) := by decide +kernel
theorem d_SP_demandSomeBody_13 : decode b_SP_demandSomeBody 13 = .ok (.dup, 1) := by decide +kernel
theorem d_SP_demandSomeBody_14 : decode b_SP_demandSomeBody 14 = .ok (.ldc 186, 2) := by decide +kernel
theorem d_SP_demandSomeBody_16 : decode b_SP_demandSomeBody 16 = .ok (.invokespecial 47, 3) := by decide +kernel
theorem d_SP_demandSomeBody_19 : decode b_SP_demandSomeBody 19 = .ok (.athrow, 1) := by decide +kernel
theorem d_SP_demandSomeBody_20 : decode b_SP_demandSomeBody 20 = .ok (.return_, 1) := by decide +kernel
theorem d_Mo_init_0 : decode b_Mo_init 0 = .ok (.aload_n 0, 1) := by decide +kernel
theorem d_Mo_init_1 : decode b_Mo_init 1 = .ok (.invokespecial 1, 3) := by decide +kernel
theorem d_Mo_init_4 : decode b_Mo_init 4 = .ok (.aload_n 0, 1) := by decide +kernel
theorem d_Mo_init_5 : decode b_Mo_init 5 = .ok (.bipush 17, 2) := by decide +kernel
theorem d_Mo_init_7 : decode b_Mo_init 7 = .ok (.newarray .int, 2) := by decide +kernel
theorem d_Mo_init_9 : decode b_Mo_init 9 = .ok (.dup, 1) := by decide +kernel
theorem d_Mo_init_10 : decode b_Mo_init 10 = .ok (.iconst 0, 1) := by decide +kernel
theorem d_Mo_init_11 : decode b_Mo_init 11 = .ok (.sipush 4096, 3) := by decide +kernel
theorem d_Mo_init_14 : decode b_Mo_init 14 = .ok (.iastore, 1) := by decide +kernel
theorem d_Mo_init_15 : decode b_Mo_init 15 = .ok (.dup, 1) := by decide +kernel
theorem d_Mo_init_16 : decode b_Mo_init 16 = .ok (.iconst 1, 1) := by decide +kernel
theorem d_Mo_init_17 : decode b_Mo_init 17 = .ok (.sipush 4076, 3) := by decide +kernel
theorem d_Mo_init_20 : decode b_Mo_init 20 = .ok (.iastore, 1) := by decide +kernel
theorem d_Mo_init_21 : decode b_Mo_init 21 = .ok (.dup, 1) := by decide +kernel
theorem d_Mo_init_22 : decode b_Mo_init 22 = .ok (.iconst 2, 1) := by decide +kernel
theorem d_Mo_init_23 : decode b_Mo_init 23 = .ok (.sipush 4017, 3) := by decide +kernel
theorem d_Mo_init_26 : decode b_Mo_init 26 = .ok (.iastore, 1) := by decide +kernel
theorem d_Mo_init_27 : decode b_Mo_init 27 = .ok (.dup, 1) := by decide +kernel
theorem d_Mo_init_28 : decode b_Mo_init 28 = .ok (.iconst 3, 1) := by decide +kernel
theorem d_Mo_init_29 : decode b_Mo_init 29 = .ok (.sipush 3920, 3) := by decide +kernel
theorem d_Mo_init_32 : decode b_Mo_init 32 = .ok (.iastore, 1) := by decide +kernel
theorem d_Mo_init_33 : decode b_Mo_init 33 = .ok (.dup, 1) := by decide +kernel
theorem d_Mo_init_34 : decode b_Mo_init 34 = .ok (.iconst 4, 1) := by decide +kernel
theorem d_Mo_init_35 : decode b_Mo_init 35 = .ok (.sipush 3784, 3) := by decide +kernel
theorem d_Mo_init_38 : decode b_Mo_init 38 = .ok (.iastore, 1) := by decide +kernel
theorem d_Mo_init_39 : decode b_Mo_init 39 = .ok (.dup, 1) := by decide +kernel
theorem d_Mo_init_40 : decode b_Mo_init 40 = .ok (.iconst 5, 1) := by decide +kernel
theorem d_Mo_init_41 : decode b_Mo_init 41 = .ok (.sipush 3612, 3) := by decide +kernel
theorem d_Mo_init_44 : decode b_Mo_init 44 = .ok (.iastore, 1) := by decide +kernel
theorem d_Mo_init_45 : decode b_Mo_init 45 = .ok (.dup, 1) := by decide +kernel
theorem d_Mo_init_46 : decode b_Mo_init 46 = .ok (.bipush 6, 2) := by decide +kernel
theorem d_Mo_init_48 : decode b_Mo_init 48 = .ok (.sipush 3406, 3) := by decide +kernel
theorem d_Mo_init_51 : decode b_Mo_init 51 = .ok (.iastore, 1) := by decide +kernel
theorem d_Mo_init_52 : decode b_Mo_init 52 = .ok (.dup, 1) := by decide +kernel
theorem d_Mo_init_53 : decode b_Mo_init 53 = .ok (.bipush 7, 2) := by decide +kernel
theorem d_Mo_init_55 : decode b_Mo_init 55 = .ok (.sipush 3166, 3) := by decide +kernel
theorem d_Mo_init_58 : decode b_Mo_init 58 = .ok (.iastore, 1) := by decide +kernel
theorem d_Mo_init_59 : decode b_Mo_init 59 = .ok (.dup, 1) := by decide +kernel
theorem d_Mo_init_60 : decode b_Mo_init 60 = .ok (.bipush 8, 2) := by decide +kernel
theorem d_Mo_init_62 : decode b_Mo_init 62 = .ok (.sipush 2896, 3) := by decide +kernel
theorem d_Mo_init_65 : decode b_Mo_init 65 = .ok (.iastore, 1) := by decide +kernel
theorem d_Mo_init_66 : decode b_Mo_init 66 = .ok (.dup, 1) := by decide +kernel
theorem d_Mo_init_67 : decode b_Mo_init 67 = .ok (.bipush 9, 2) := by decide +kernel
theorem d_Mo_init_69 : decode b_Mo_init 69 = .ok (.sipush 2598, 3) := by decide +kernel
theorem d_Mo_init_72 : decode b_Mo_init 72 = .ok (.iastore, 1) := by decide +kernel
theorem d_Mo_init_73 : decode b_Mo_init 73 = .ok (.dup, 1) := by decide +kernel
theorem d_Mo_init_74 : decode b_Mo_init 74 = .ok (.bipush 10, 2) := by decide +kernel
theorem d_Mo_init_76 : decode b_Mo_init 76 = .ok (.sipush 2276, 3) := by decide +kernel
theorem d_Mo_init_79 : decode b_Mo_init 79 = .ok (.iastore, 1) := by decide +kernel
theorem d_Mo_init_80 : decode b_Mo_init 80 = .ok (.dup, 1) := by decide +kernel
theorem d_Mo_init_81 : decode b_Mo_init 81 = .ok (.bipush 11, 2) := by decide +kernel
theorem d_Mo_init_83 : decode b_Mo_init 83 = .ok (.sipush 1931, 3) := by decide +kernel
theorem d_Mo_init_86 : decode b_Mo_init 86 = .ok (.iastore, 1) := by decide +kernel
theorem d_Mo_init_87 : decode b_Mo_init 87 = .ok (.dup, 1) := by decide +kernel
theorem d_Mo_init_88 : decode b_Mo_init 88 = .ok (.bipush 12, 2) := by decide +kernel
theorem d_Mo_init_90 : decode b_Mo_init 90 = .ok (.sipush 1567, 3) := by decide +kernel
theorem d_Mo_init_93 : decode b_Mo_init 93 = .ok (.iastore, 1) := by decide +kernel
theorem d_Mo_init_94 : decode b_Mo_init 94 = .ok (.dup, 1) := by decide +kernel
theorem d_Mo_init_95 : decode b_Mo_init 95 = .ok (.bipush 13, 2) := by decide +kernel
theorem d_Mo_init_97 : decode b_Mo_init 97 = .ok (.sipush 1189, 3) := by decide +kernel
theorem d_Mo_init_100 : decode b_Mo_init 100 = .ok (.iastore, 1) := by decide +kernel
theorem d_Mo_init_101 : decode b_Mo_init 101 = .ok (.dup, 1) := by decide +kernel
theorem d_Mo_init_102 : decode b_Mo_init 102 = .ok (.bipush 14, 2) := by decide +kernel
theorem d_Mo_init_104 : decode b_Mo_init 104 = .ok (.sipush 799, 3) := by decide +kernel
theorem d_Mo_init_107 : decode b_Mo_init 107 = .ok (.iastore, 1) := by decide +kernel
theorem d_Mo_init_108 : decode b_Mo_init 108 = .ok (.dup, 1) := by decide +kernel
theorem d_Mo_init_109 : decode b_Mo_init 109 = .ok (.bipush 15, 2) := by decide +kernel
theorem d_Mo_init_111 : decode b_Mo_init 111 = .ok (.sipush 401, 3) := by decide +kernel
theorem d_Mo_init_114 : decode b_Mo_init 114 = .ok (.iastore, 1) := by decide +kernel
theorem d_Mo_init_115 : decode b_Mo_init 115 = .ok (.dup, 1) := by decide +kernel
theorem d_Mo_init_116 : decode b_Mo_init 116 = .ok (.bipush 16, 2) := by decide +kernel
theorem d_Mo_init_118 : decode b_Mo_init 118 = .ok (.iconst 0, 1) := by decide +kernel
theorem d_Mo_init_119 : decode b_Mo_init 119 = .ok (.iastore, 1) := by decide +kernel
theorem d_Mo_init_120 : decode b_Mo_init 120 = .ok (.putfield 7, 3) := by decide +kernel
theorem d_Mo_init_123 : decode b_Mo_init 123 = .ok (.aload_n 0, 1) := by decide +kernel
theorem d_Mo_init_124 : decode b_Mo_init 124 = .ok (.iconst 3, 1) := by decide +kernel
theorem d_Mo_init_125 : decode b_Mo_init 125 = .ok (.newarray .int, 2) := by decide +kernel
theorem d_Mo_init_127 : decode b_Mo_init 127 = .ok (.putfield 13, 3) := by decide +kernel
theorem d_Mo_init_130 : decode b_Mo_init 130 = .ok (.aload_n 0, 1) := by decide +kernel
theorem d_Mo_init_131 : decode b_Mo_init 131 = .ok (.iconst 3, 1) := by decide +kernel
theorem d_Mo_init_132 : decode b_Mo_init 132 = .ok (.newarray .int, 2) := by decide +kernel
theorem d_Mo_init_134 : decode b_Mo_init 134 = .ok (.putfield 16, 3) := by decide +kernel
theorem d_Mo_init_137 : decode b_Mo_init 137 = .ok (.aload_n 0, 1) := by decide +kernel
theorem d_Mo_init_138 : decode b_Mo_init 138 = .ok (.iconst 3, 1) := by decide +kernel
theorem d_Mo_init_139 : decode b_Mo_init 139 = .ok (.newarray .int, 2) := by decide +kernel
theorem d_Mo_init_141 : decode b_Mo_init 141 = .ok (.putfield 19, 3) := by decide +kernel
theorem d_Mo_init_144 : decode b_Mo_init 144 = .ok (.aload_n 0, 1) := by decide +kernel
theorem d_Mo_init_145 : decode b_Mo_init 145 = .ok (.iconst 3, 1) := by decide +kernel
theorem d_Mo_init_146 : decode b_Mo_init 146 = .ok (.newarray .int, 2) := by decide +kernel
theorem d_Mo_init_148 : decode b_Mo_init 148 = .ok (.putfield 22, 3) := by decide +kernel
theorem d_Mo_init_151 : decode b_Mo_init 151 = .ok (.aload_n 0, 1) := by decide +kernel
theorem d_Mo_init_152 : decode b_Mo_init 152 = .ok (.iconst 3, 1) := by decide +kernel
theorem d_Mo_init_153 : decode b_Mo_init 153 = .ok (.newarray .int, 2) := by decide +kernel
theorem d_Mo_init_155 : decode b_Mo_init 155 = .ok (.putfield 25, 3) := by decide +kernel
theorem d_Mo_init_158 : decode b_Mo_init 158 = .ok (.aload_n 0, 1) := by decide +kernel
theorem d_Mo_init_159 : decode b_Mo_init 159 = .ok (.iconst 4, 1) := by decide +kernel
theorem d_Mo_init_160 : decode b_Mo_init 160 = .ok (.putfield 28, 3) := by decide +kernel
theorem d_Mo_init_163 : decode b_Mo_init 163 = .ok (.aload_n 0, 1) := by decide +kernel
theorem d_Mo_init_164 : decode b_Mo_init 164 = .ok (.bipush 20, 2) := by decide +kernel
theorem d_Mo_init_166 : decode b_Mo_init 166 = .ok (.newarray .int, 2) := by decide +kernel
theorem d_Mo_init_168 : decode b_Mo_init 168 = .ok (.putfield 32, 3) := by decide +kernel
theorem d_Mo_init_171 : decode b_Mo_init 171 = .ok (.aload_n 0, 1) := by decide +kernel
theorem d_Mo_init_172 : decode b_Mo_init 172 = .ok (.bipush 20, 2) := by decide +kernel
theorem d_Mo_init_174 : decode b_Mo_init 174 = .ok (.newarray .int, 2) := by decide +kernel
theorem d_Mo_init_176 : decode b_Mo_init 176 = .ok (.putfield 35, 3) := by decide +kernel
theorem d_Mo_init_179 : decode b_Mo_init 179 = .ok (.aload_n 0, 1) := by decide +kernel
theorem d_Mo_init_180 : decode b_Mo_init 180 = .ok (.iconst 4, 1) := by decide +kernel
theorem d_Mo_init_181 : decode b_Mo_init 181 = .ok (.newarray .int, 2) := by decide +kernel
theorem d_Mo_init_183 : decode b_Mo_init 183 = .ok (.putfield 38, 3) := by decide +kernel
theorem d_Mo_init_186 : decode b_Mo_init 186 = .ok (.aload_n 0, 1) := by decide +kernel
theorem d_Mo_init_187 : decode b_Mo_init 187 = .ok (.bipush 24, 2) := by decide +kernel
theorem d_Mo_init_189 : decode b_Mo_init 189 = .ok (.newarray .int, 2) := by decide +kernel
theorem d_Mo_init_191 : decode b_Mo_init 191 = .ok (.putfield 41, 3) := by decide +kernel
theorem d_Mo_init_194 : decode b_Mo_init 194 = .ok (.aload_n 0, 1) := by decide +kernel
theorem d_Mo_init_195 : decode b_Mo_init 195 = .ok (.bipush 24, 2) := by decide +kernel
theorem d_Mo_init_197 : decode b_Mo_init 197 = .ok (.newarray .int, 2) := by decide +kernel
theorem d_Mo_init_199 : decode b_Mo_init 199 = .ok (.putfield 44, 3) := by decide +kernel
theorem d_Mo_init_202 : decode b_Mo_init 202 = .ok (.aload_n 0, 1) := by decide +kernel
theorem d_Mo_init_203 : decode b_Mo_init 203 = .ok (.bipush 24, 2) := by decide +kernel
theorem d_Mo_init_205 : decode b_Mo_init 205 = .ok (.newarray .boolean, 2) := by decide +kernel
theorem d_Mo_init_207 : decode b_Mo_init 207 = .ok (.putfield 47, 3) := by decide +kernel
theorem d_Mo_init_210 : decode b_Mo_init 210 = .ok (.aload_n 0, 1) := by decide +kernel
theorem d_Mo_init_211 : decode b_Mo_init 211 = .ok (.iconst 3, 1) := by decide +kernel
theorem d_Mo_init_212 : decode b_Mo_init 212 = .ok (.newarray .int, 2) := by decide +kernel
theorem d_Mo_init_214 : decode b_Mo_init 214 = .ok (.putfield 51, 3) := by decide +kernel
theorem d_Mo_init_217 : decode b_Mo_init 217 = .ok (.aload_n 0, 1) := by decide +kernel
theorem d_Mo_init_218 : decode b_Mo_init 218 = .ok (.iconst 3, 1) := by decide +kernel
theorem d_Mo_init_219 : decode b_Mo_init 219 = .ok (.newarray .int, 2) := by decide +kernel
theorem d_Mo_init_221 : decode b_Mo_init 221 = .ok (.putfield 54, 3) := by decide +kernel
theorem d_Mo_init_224 : decode b_Mo_init 224 = .ok (.aload_n 0, 1) := by decide +kernel
theorem d_Mo_init_225 : decode b_Mo_init 225 = .ok (.iconst 3, 1) := by decide +kernel
theorem d_Mo_init_226 : decode b_Mo_init 226 = .ok (.newarray .int, 2) := by decide +kernel
theorem d_Mo_init_228 : decode b_Mo_init 228 = .ok (.putfield 57, 3) := by decide +kernel
theorem d_Mo_init_231 : decode b_Mo_init 231 = .ok (.aload_n 0, 1) := by decide +kernel
theorem d_Mo_init_232 : decode b_Mo_init 232 = .ok (.iconst 3, 1) := by decide +kernel
theorem d_Mo_init_233 : decode b_Mo_init 233 = .ok (.newarray .int, 2) := by decide +kernel
theorem d_Mo_init_235 : decode b_Mo_init 235 = .ok (.putfield 60, 3) := by decide +kernel
theorem d_Mo_init_238 : decode b_Mo_init 238 = .ok (.aload_n 0, 1) := by decide +kernel
theorem d_Mo_init_239 : decode b_Mo_init 239 = .ok (.iconst 3, 1) := by decide +kernel
theorem d_Mo_init_240 : decode b_Mo_init 240 = .ok (.newarray .int, 2) := by decide +kernel
theorem d_Mo_init_242 : decode b_Mo_init 242 = .ok (.putfield 63, 3) := by decide +kernel
theorem d_Mo_init_245 : decode b_Mo_init 245 = .ok (.aload_n 0, 1) := by decide +kernel
theorem d_Mo_init_246 : decode b_Mo_init 246 = .ok (.iconst (-1), 1) := by decide +kernel
theorem d_Mo_init_247 : decode b_Mo_init 247 = .ok (.putfield 66, 3) := by decide +kernel
theorem d_Mo_init_250 : decode b_Mo_init 250 = .ok (.aload_n 0, 1) := by decide +kernel
theorem d_Mo_init_251 : decode b_Mo_init 251 = .ok (.iconst (-1), 1) := by decide +kernel
theorem d_Mo_init_252 : decode b_Mo_init 252 = .ok (.putfield 69, 3) := by decide +kernel
theorem d_Mo_init_255 : decode b_Mo_init 255 = .ok (.aload_n 0, 1) := by decide +kernel
theorem d_Mo_init_256 : decode b_Mo_init 256 = .ok (.iconst (-1), 1) := by decide +kernel
theorem d_Mo_init_257 : decode b_Mo_init 257 = .ok (.putfield 72, 3) := by decide +kernel
theorem d_Mo_init_260 : decode b_Mo_init 260 = .ok (.aload_n 0, 1) := by decide +kernel
theorem d_Mo_init_261 : decode b_Mo_init 261 = .ok (.sipush 4096, 3) := by decide +kernel
theorem d_Mo_init_264 : decode b_Mo_init 264 = .ok (.newarray .boolean, 2) := by decide +kernel
theorem d_Mo_init_266 : decode b_Mo_init 266 = .ok (.putfield 75, 3) := by decide +kernel
theorem d_Mo_init_269 : decode b_Mo_init 269 = .ok (.aload_n 0, 1) := by decide +kernel
theorem d_Mo_init_270 : decode b_Mo_init 270 = .ok (.bipush 20, 2) := by decide +kernel
theorem d_Mo_init_272 : decode b_Mo_init 272 = .ok (.newarray .int, 2) := by decide +kernel
theorem d_Mo_init_274 : decode b_Mo_init 274 = .ok (.putfield 78, 3) := by decide +kernel
theorem d_Mo_init_277 : decode b_Mo_init 277 = .ok (.aload_n 0, 1) := by decide +kernel
theorem d_Mo_init_278 : decode b_Mo_init 278 = .ok (.sipush 4096, 3) := by decide +kernel
theorem d_Mo_init_281 : decode b_Mo_init 281 = .ok (.newarray .boolean, 2) := by decide +kernel
theorem d_Mo_init_283 : decode b_Mo_init 283 = .ok (.putfield 81, 3) := by decide +kernel
theorem d_Mo_init_286 : decode b_Mo_init 286 = .ok (.aload_n 0, 1) := by decide +kernel
theorem d_Mo_init_287 : decode b_Mo_init 287 = .ok (.iconst 0, 1) := by decide +kernel
theorem d_Mo_init_288 : decode b_Mo_init 288 = .ok (.putfield 84, 3) := by decide +kernel
theorem d_Mo_init_291 : decode b_Mo_init 291 = .ok (.return_, 1) := by decide +kernel
theorem d_Mo_thrown_0 : decode b_Mo_thrown 0 = .ok (.aload_n 0, 1) := by decide +kernel
theorem d_Mo_thrown_1 : decode b_Mo_thrown 1 = .ok (.getfield 87, 3) := by decide +kernel
theorem d_Mo_thrown_4 : decode b_Mo_thrown 4 = .ok (.ireturn, 1) := by decide +kernel
theorem d_Mo_in_0 : decode b_Mo_in 0 = .ok (.iload_n 0, 1) := by decide +kernel
theorem d_Mo_in_1 : decode b_Mo_in 1 = .ok (.iload_n 1, 1) := by decide +kernel
theorem d_Mo_in_2 : decode b_Mo_in 2 = .ok (.if_icmp .lt 12, 3) := by decide +kernel
theorem d_Mo_in_5 : decode b_Mo_in 5 = .ok (.iload_n 0, 1) := by decide +kernel
theorem d_Mo_in_6 : decode b_Mo_in 6 = .ok (.iload_n 2, 1) := by decide +kernel
theorem d_Mo_in_7 : decode b_Mo_in 7 = .ok (.if_icmp .gt 7, 3) := by decide +kernel
theorem d_Mo_in_10 : decode b_Mo_in 10 = .ok (.iconst 1, 1) := by decide +kernel
theorem d_Mo_in_11 : decode b_Mo_in 11 = .ok (.goto 4, 3) := by decide +kernel
theorem d_Mo_in_14 : decode b_Mo_in 14 = .ok (.iconst 0, 1) := by decide +kernel
theorem d_Mo_in_15 : decode b_Mo_in 15 = .ok (.ireturn, 1) := by decide +kernel
theorem d_Mo_dx_0 : decode b_Mo_dx 0 = .ok (.iload_n 1, 1) := by decide +kernel
theorem d_Mo_dx_1 : decode b_Mo_dx 1 = .ok (.bipush 63, 2) := by decide +kernel
theorem d_Mo_dx_3 : decode b_Mo_dx 3 = .ok (.iand, 1) := by decide +kernel
theorem d_Mo_dx_4 : decode b_Mo_dx 4 = .ok (.istore_n 2, 1) := by decide +kernel
theorem d_Mo_dx_5 : decode b_Mo_dx 5 = .ok (.iload_n 2, 1) := by decide +kernel
theorem d_Mo_dx_6 : decode b_Mo_dx 6 = .ok (.bipush 16, 2) := by decide +kernel
theorem d_Mo_dx_8 : decode b_Mo_dx 8 = .ok (.if_icmp .gt 10, 3) := by decide +kernel
theorem d_Mo_dx_11 : decode b_Mo_dx 11 = .ok (.aload_n 0, 1) := by decide +kernel
theorem d_Mo_dx_12 : decode b_Mo_dx 12 = .ok (.getfield 7, 3) := by decide +kernel
theorem d_Mo_dx_15 : decode b_Mo_dx 15 = .ok (.iload_n 2, 1) := by decide +kernel
theorem d_Mo_dx_16 : decode b_Mo_dx 16 = .ok (.iaload, 1) := by decide +kernel
theorem d_Mo_dx_17 : decode b_Mo_dx 17 = .ok (.ireturn, 1) := by decide +kernel
theorem d_Mo_dx_18 : decode b_Mo_dx 18 = .ok (.iload_n 2, 1) := by decide +kernel
theorem d_Mo_dx_19 : decode b_Mo_dx 19 = .ok (.bipush 32, 2) := by decide +kernel
theorem d_Mo_dx_21 : decode b_Mo_dx 21 = .ok (.if_icmp .gt 14, 3) := by decide +kernel
theorem d_Mo_dx_24 : decode b_Mo_dx 24 = .ok (.aload_n 0, 1) := by decide +kernel
theorem d_Mo_dx_25 : decode b_Mo_dx 25 = .ok (.getfield 7, 3) := by decide +kernel
theorem d_Mo_dx_28 : decode b_Mo_dx 28 = .ok (.bipush 32, 2) := by decide +kernel
theorem d_Mo_dx_30 : decode b_Mo_dx 30 = .ok (.iload_n 2, 1) := by decide +kernel
theorem d_Mo_dx_31 : decode b_Mo_dx 31 = .ok (.isub, 1) := by decide +kernel
theorem d_Mo_dx_32 : decode b_Mo_dx 32 = .ok (.iaload, 1) := by decide +kernel
theorem d_Mo_dx_33 : decode b_Mo_dx 33 = .ok (.ineg, 1) := by decide +kernel
theorem d_Mo_dx_34 : decode b_Mo_dx 34 = .ok (.ireturn, 1) := by decide +kernel
theorem d_Mo_dx_35 : decode b_Mo_dx 35 = .ok (.iload_n 2, 1) := by decide +kernel
theorem d_Mo_dx_36 : decode b_Mo_dx 36 = .ok (.bipush 48, 2) := by decide +kernel
theorem d_Mo_dx_38 : decode b_Mo_dx 38 = .ok (.if_icmp .gt 16, 3) := by decide +kernel
theorem d_Mo_dx_41 : decode b_Mo_dx 41 = .ok (.aload_n 0, 1) := by decide +kernel
theorem d_Mo_dx_42 : decode b_Mo_dx 42 = .ok (.getfield 7, 3) := by decide +kernel
theorem d_Mo_dx_45 : decode b_Mo_dx 45 = .ok (.iload_n 2, 1) := by decide +kernel
theorem d_Mo_dx_46 : decode b_Mo_dx 46 = .ok (.bipush 32, 2) := by decide +kernel
theorem d_Mo_dx_48 : decode b_Mo_dx 48 = .ok (.isub, 1) := by decide +kernel
theorem d_Mo_dx_49 : decode b_Mo_dx 49 = .ok (.iaload, 1) := by decide +kernel
theorem d_Mo_dx_50 : decode b_Mo_dx 50 = .ok (.ineg, 1) := by decide +kernel
theorem d_Mo_dx_51 : decode b_Mo_dx 51 = .ok (.goto 12, 3) := by decide +kernel
theorem d_Mo_dx_54 : decode b_Mo_dx 54 = .ok (.aload_n 0, 1) := by decide +kernel
theorem d_Mo_dx_55 : decode b_Mo_dx 55 = .ok (.getfield 7, 3) := by decide +kernel
theorem d_Mo_dx_58 : decode b_Mo_dx 58 = .ok (.bipush 64, 2) := by decide +kernel
theorem d_Mo_dx_60 : decode b_Mo_dx 60 = .ok (.iload_n 2, 1) := by decide +kernel
theorem d_Mo_dx_61 : decode b_Mo_dx 61 = .ok (.isub, 1) := by decide +kernel
theorem d_Mo_dx_62 : decode b_Mo_dx 62 = .ok (.iaload, 1) := by decide +kernel
theorem d_Mo_dx_63 : decode b_Mo_dx 63 = .ok (.ireturn, 1) := by decide +kernel
theorem d_Mo_dy_0 : decode b_Mo_dy 0 = .ok (.aload_n 0, 1) := by decide +kernel
theorem d_Mo_dy_1 : decode b_Mo_dy 1 = .ok (.iload_n 1, 1) := by decide +kernel
theorem d_Mo_dy_2 : decode b_Mo_dy 2 = .ok (.bipush 48, 2) := by decide +kernel
theorem d_Mo_dy_4 : decode b_Mo_dy 4 = .ok (.iadd, 1) := by decide +kernel
theorem d_Mo_dy_5 : decode b_Mo_dy 5 = .ok (.invokevirtual 90, 3) := by decide +kernel
theorem d_Mo_dy_8 : decode b_Mo_dy 8 = .ok (.ireturn, 1) := by decide +kernel
theorem d_Mo_wrapped_0 : decode b_Mo_wrapped 0 = .ok (.iload_n 0, 1) := by decide +kernel
theorem d_Mo_wrapped_1 : decode b_Mo_wrapped 1 = .ok (.bipush 32, 2) := by decide +kernel
theorem d_Mo_wrapped_3 : decode b_Mo_wrapped 3 = .ok (.iadd, 1) := by decide +kernel
theorem d_Mo_wrapped_4 : decode b_Mo_wrapped 4 = .ok (.bipush 63, 2) := by decide +kernel
theorem d_Mo_wrapped_6 : decode b_Mo_wrapped 6 = .ok (.iand, 1) := by decide +kernel
theorem d_Mo_wrapped_7 : decode b_Mo_wrapped 7 = .ok (.bipush 32, 2) := by decide +kernel
theorem d_Mo_wrapped_9 : decode b_Mo_wrapped 9 = .ok (.isub, 1) := by decide +kernel
theorem d_Mo_wrapped_10 : decode b_Mo_wrapped 10 = .ok (.ireturn, 1) := by decide +kernel
theorem d_Mo_askewOf_0 : decode b_Mo_askewOf 0 = .ok (.iload_n 1, 1) := by decide +kernel
theorem d_Mo_askewOf_1 : decode b_Mo_askewOf 1 = .ok (.ifCond .ne 7, 3) := by decide +kernel
theorem d_Mo_askewOf_4 : decode b_Mo_askewOf 4 = .ok (.iconst 0, 1) := by decide +kernel
theorem d_Mo_askewOf_5 : decode b_Mo_askewOf 5 = .ok (.goto 21, 3) := by decide +kernel
theorem d_Mo_askewOf_8 : decode b_Mo_askewOf 8 = .ok (.aload_n 0, 1) := by decide +kernel
theorem d_Mo_askewOf_9 : decode b_Mo_askewOf 9 = .ok (.getfield 57, 3) := by decide +kernel
theorem d_Mo_askewOf_12 : decode b_Mo_askewOf 12 = .ok (.iload_n 1, 1) := by decide +kernel
theorem d_Mo_askewOf_13 : decode b_Mo_askewOf 13 = .ok (.iconst 1, 1) := by decide +kernel
theorem d_Mo_askewOf_14 : decode b_Mo_askewOf 14 = .ok (.isub, 1) := by decide +kernel
theorem d_Mo_askewOf_15 : decode b_Mo_askewOf 15 = .ok (.iaload, 1) := by decide +kernel
theorem d_Mo_askewOf_16 : decode b_Mo_askewOf 16 = .ok (.aload_n 0, 1) := by decide +kernel
theorem d_Mo_askewOf_17 : decode b_Mo_askewOf 17 = .ok (.getfield 57, 3) := by decide +kernel
theorem d_Mo_askewOf_20 : decode b_Mo_askewOf 20 = .ok (.iload_n 1, 1) := by decide +kernel
theorem d_Mo_askewOf_21 : decode b_Mo_askewOf 21 = .ok (.iaload, 1) := by decide +kernel
theorem d_Mo_askewOf_22 : decode b_Mo_askewOf 22 = .ok (.isub, 1) := by decide +kernel
theorem d_Mo_askewOf_23 : decode b_Mo_askewOf 23 = .ok (.invokestatic 94, 3) := by decide +kernel
theorem d_Mo_askewOf_26 : decode b_Mo_askewOf 26 = .ok (.ireturn, 1) := by decide +kernel
theorem d_Mo_hang_0 : decode b_Mo_hang 0 = .ok (.aload_n 0, 1) := by decide +kernel
theorem d_Mo_hang_1 : decode b_Mo_hang 1 = .ok (.getfield 57, 3) := by decide +kernel
theorem d_Mo_hang_4 : decode b_Mo_hang 4 = .ok (.iload_n 1, 1) := by decide +kernel
theorem d_Mo_hang_5 : decode b_Mo_hang 5 = .ok (.iconst 1, 1) := by decide +kernel
theorem d_Mo_hang_6 : decode b_Mo_hang 6 = .ok (.isub, 1) := by decide +kernel
theorem d_Mo_hang_7 : decode b_Mo_hang 7 = .ok (.iaload, 1) := by decide +kernel
theorem d_Mo_hang_8 : decode b_Mo_hang 8 = .ok (.istore_n 2, 1) := by decide +kernel
theorem d_Mo_hang_9 : decode b_Mo_hang 9 = .ok (.aload_n 0, 1) := by decide +kernel
theorem d_Mo_hang_10 : decode b_Mo_hang 10 = .ok (.getfield 51, 3) := by decide +kernel
theorem d_Mo_hang_13 : decode b_Mo_hang 13 = .ok (.iload_n 1, 1) := by decide +kernel
theorem d_Mo_hang_14 : decode b_Mo_hang 14 = .ok (.aload_n 0, 1) := by decide +kernel
theorem d_Mo_hang_15 : decode b_Mo_hang 15 = .ok (.getfield 51, 3) := by decide +kernel
theorem d_Mo_hang_18 : decode b_Mo_hang 18 = .ok (.iload_n 1, 1) := by decide +kernel
theorem d_Mo_hang_19 : decode b_Mo_hang 19 = .ok (.iconst 1, 1) := by decide +kernel
theorem d_Mo_hang_20 : decode b_Mo_hang 20 = .ok (.isub, 1) := by decide +kernel
theorem d_Mo_hang_21 : decode b_Mo_hang 21 = .ok (.iaload, 1) := by decide +kernel
theorem d_Mo_hang_22 : decode b_Mo_hang 22 = .ok (.aload_n 0, 1) := by decide +kernel
theorem d_Mo_hang_23 : decode b_Mo_hang 23 = .ok (.getfield 16, 3) := by decide +kernel
theorem d_Mo_hang_26 : decode b_Mo_hang 26 = .ok (.iload_n 1, 1) := by decide +kernel
theorem d_Mo_hang_27 : decode b_Mo_hang 27 = .ok (.iconst 1, 1) := by decide +kernel
theorem d_Mo_hang_28 : decode b_Mo_hang 28 = .ok (.isub, 1) := by decide +kernel
theorem d_Mo_hang_29 : decode b_Mo_hang 29 = .ok (.iaload, 1) := by decide +kernel
theorem d_Mo_hang_30 : decode b_Mo_hang 30 = .ok (.aload_n 0, 1) := by decide +kernel
theorem d_Mo_hang_31 : decode b_Mo_hang 31 = .ok (.iload_n 2, 1) := by decide +kernel
theorem d_Mo_hang_32 : decode b_Mo_hang 32 = .ok (.invokevirtual 90, 3) := by decide +kernel
theorem d_Mo_hang_35 : decode b_Mo_hang 35 = .ok (.imul, 1) := by decide +kernel
theorem d_Mo_hang_36 : decode b_Mo_hang 36 = .ok (.isub, 1) := by decide +kernel
theorem d_Mo_hang_37 : decode b_Mo_hang 37 = .ok (.aload_n 0, 1) := by decide +kernel
theorem d_Mo_hang_38 : decode b_Mo_hang 38 = .ok (.getfield 13, 3) := by decide +kernel
theorem d_Mo_hang_41 : decode b_Mo_hang 41 = .ok (.iload_n 1, 1) := by decide +kernel
theorem d_Mo_hang_42 : decode b_Mo_hang 42 = .ok (.iaload, 1) := by decide +kernel
theorem d_Mo_hang_43 : decode b_Mo_hang 43 = .ok (.aload_n 0, 1) := by decide +kernel
theorem d_Mo_hang_44 : decode b_Mo_hang 44 = .ok (.aload_n 0, 1) := by decide +kernel
theorem d_Mo_hang_45 : decode b_Mo_hang 45 = .ok (.getfield 57, 3) := by decide +kernel
theorem d_Mo_hang_48 : decode b_Mo_hang 48 = .ok (.iload_n 1, 1) := by decide +kernel
theorem d_Mo_hang_49 : decode b_Mo_hang 49 = .ok (.iaload, 1) := by decide +kernel
theorem d_Mo_hang_50 : decode b_Mo_hang 50 = .ok (.invokevirtual 90, 3) := by decide +kernel
theorem d_Mo_hang_53 : decode b_Mo_hang 53 = .ok (.imul, 1) := by decide +kernel
theorem d_Mo_hang_54 : decode b_Mo_hang 54 = .ok (.isub, 1) := by decide +kernel
theorem d_Mo_hang_55 : decode b_Mo_hang 55 = .ok (.iastore, 1) := by decide +kernel
theorem d_Mo_hang_56 : decode b_Mo_hang 56 = .ok (.aload_n 0, 1) := by decide +kernel
theorem d_Mo_hang_57 : decode b_Mo_hang 57 = .ok (.getfield 54, 3) := by decide +kernel
theorem d_Mo_hang_60 : decode b_Mo_hang 60 = .ok (.iload_n 1, 1) := by decide +kernel
theorem d_Mo_hang_61 : decode b_Mo_hang 61 = .ok (.aload_n 0, 1) := by decide +kernel
theorem d_Mo_hang_62 : decode b_Mo_hang 62 = .ok (.getfield 54, 3) := by decide +kernel
theorem d_Mo_hang_65 : decode b_Mo_hang 65 = .ok (.iload_n 1, 1) := by decide +kernel
theorem d_Mo_hang_66 : decode b_Mo_hang 66 = .ok (.iconst 1, 1) := by decide +kernel
theorem d_Mo_hang_67 : decode b_Mo_hang 67 = .ok (.isub, 1) := by decide +kernel
theorem d_Mo_hang_68 : decode b_Mo_hang 68 = .ok (.iaload, 1) := by decide +kernel
theorem d_Mo_hang_69 : decode b_Mo_hang 69 = .ok (.aload_n 0, 1) := by decide +kernel
theorem d_Mo_hang_70 : decode b_Mo_hang 70 = .ok (.getfield 16, 3) := by decide +kernel
theorem d_Mo_hang_73 : decode b_Mo_hang 73 = .ok (.iload_n 1, 1) := by decide +kernel
theorem d_Mo_hang_74 : decode b_Mo_hang 74 = .ok (.iconst 1, 1) := by decide +kernel
theorem d_Mo_hang_75 : decode b_Mo_hang 75 = .ok (.isub, 1) := by decide +kernel
theorem d_Mo_hang_76 : decode b_Mo_hang 76 = .ok (.iaload, 1) := by decide +kernel
theorem d_Mo_hang_77 : decode b_Mo_hang 77 = .ok (.aload_n 0, 1) := by decide +kernel
theorem d_Mo_hang_78 : decode b_Mo_hang 78 = .ok (.iload_n 2, 1) := by decide +kernel
theorem d_Mo_hang_79 : decode b_Mo_hang 79 = .ok (.invokevirtual 97, 3) := by decide +kernel
theorem d_Mo_hang_82 : decode b_Mo_hang 82 = .ok (.imul, 1) := by decide +kernel
theorem d_Mo_hang_83 : decode b_Mo_hang 83 = .ok (.isub, 1) := by decide +kernel
theorem d_Mo_hang_84 : decode b_Mo_hang 84 = .ok (.aload_n 0, 1) := by decide +kernel
theorem d_Mo_hang_85 : decode b_Mo_hang 85 = .ok (.getfield 13, 3) := by decide +kernel
theorem d_Mo_hang_88 : decode b_Mo_hang 88 = .ok (.iload_n 1, 1) := by decide +kernel
theorem d_Mo_hang_89 : decode b_Mo_hang 89 = .ok (.iaload, 1) := by decide +kernel
theorem d_Mo_hang_90 : decode b_Mo_hang 90 = .ok (.aload_n 0, 1) := by decide +kernel
theorem d_Mo_hang_91 : decode b_Mo_hang 91 = .ok (.aload_n 0, 1) := by decide +kernel
theorem d_Mo_hang_92 : decode b_Mo_hang 92 = .ok (.getfield 57, 3) := by decide +kernel
theorem d_Mo_hang_95 : decode b_Mo_hang 95 = .ok (.iload_n 1, 1) := by decide +kernel
theorem d_Mo_hang_96 : decode b_Mo_hang 96 = .ok (.iaload, 1) := by decide +kernel
theorem d_Mo_hang_97 : decode b_Mo_hang 97 = .ok (.invokevirtual 97, 3) := by decide +kernel
theorem d_Mo_hang_100 : decode b_Mo_hang 100 = .ok (.imul, 1) := by decide +kernel
theorem d_Mo_hang_101 : decode b_Mo_hang 101 = .ok (.isub, 1) := by decide +kernel
theorem d_Mo_hang_102 : decode b_Mo_hang 102 = .ok (.iastore, 1) := by decide +kernel
theorem d_Mo_hang_103 : decode b_Mo_hang 103 = .ok (.return_, 1) := by decide +kernel
theorem d_Mo_covers_0 : decode b_Mo_covers 0 = .ok (.iload_n 2, 1) := by decide +kernel
theorem d_Mo_covers_1 : decode b_Mo_covers 1 = .ok (.aload_n 0, 1) := by decide +kernel
theorem d_Mo_covers_2 : decode b_Mo_covers 2 = .ok (.getfield 51, 3) := by decide +kernel
theorem d_Mo_covers_5 : decode b_Mo_covers 5 = .ok (.iload_n 1, 1) := by decide +kernel
theorem d_Mo_covers_6 : decode b_Mo_covers 6 = .ok (.iaload, 1) := by decide +kernel
theorem d_Mo_covers_7 : decode b_Mo_covers 7 = .ok (.isub, 1) := by decide +kernel
theorem d_Mo_covers_8 : decode b_Mo_covers 8 = .ok (.i2l, 1) := by decide +kernel
theorem d_Mo_covers_9 : decode b_Mo_covers 9 = .ok (.lstore 4, 2) := by decide +kernel
theorem d_Mo_covers_11 : decode b_Mo_covers 11 = .ok (.iload_n 3, 1) := by decide +kernel
theorem d_Mo_covers_12 : decode b_Mo_covers 12 = .ok (.aload_n 0, 1) := by decide +kernel
theorem d_Mo_covers_13 : decode b_Mo_covers 13 = .ok (.getfield 54, 3) := by decide +kernel
theorem d_Mo_covers_16 : decode b_Mo_covers 16 = .ok (.iload_n 1, 1) := by decide +kernel
theorem d_Mo_covers_17 : decode b_Mo_covers 17 = .ok (.iaload, 1) := by decide +kernel
theorem d_Mo_covers_18 : decode b_Mo_covers 18 = .ok (.isub, 1) := by decide +kernel
theorem d_Mo_covers_19 : decode b_Mo_covers 19 = .ok (.i2l, 1) := by decide +kernel
theorem d_Mo_covers_20 : decode b_Mo_covers 20 = .ok (.lstore 6, 2) := by decide +kernel
theorem d_Mo_covers_22 : decode b_Mo_covers 22 = .ok (.aload_n 0, 1) := by decide +kernel
theorem d_Mo_covers_23 : decode b_Mo_covers 23 = .ok (.aload_n 0, 1) := by decide +kernel
theorem d_Mo_covers_24 : decode b_Mo_covers 24 = .ok (.getfield 57, 3) := by decide +kernel
theorem d_Mo_covers_27 : decode b_Mo_covers 27 = .ok (.iload_n 1, 1) := by decide +kernel
theorem d_Mo_covers_28 : decode b_Mo_covers 28 = .ok (.iaload, 1) := by decide +kernel
theorem d_Mo_covers_29 : decode b_Mo_covers 29 = .ok (.invokevirtual 90, 3) := by decide +kernel
theorem d_Mo_covers_32 : decode b_Mo_covers 32 = .ok (.i2l, 1) := by decide +kernel
theorem d_Mo_covers_33 : decode b_Mo_covers 33 = .ok (.lstore 8, 2) := by decide +kernel
theorem d_Mo_covers_35 : decode b_Mo_covers 35 = .ok (.aload_n 0, 1) := by decide +kernel
theorem d_Mo_covers_36 : decode b_Mo_covers 36 = .ok (.aload_n 0, 1) := by decide +kernel
theorem d_Mo_covers_37 : decode b_Mo_covers 37 = .ok (.getfield 57, 3) := by decide +kernel
theorem d_Mo_covers_40 : decode b_Mo_covers 40 = .ok (.iload_n 1, 1) := by decide +kernel
theorem d_Mo_covers_41 : decode b_Mo_covers 41 = .ok (.iaload, 1) := by decide +kernel
theorem d_Mo_covers_42 : decode b_Mo_covers 42 = .ok (.invokevirtual 97, 3) := by decide +kernel
theorem d_Mo_covers_45 : decode b_Mo_covers 45 = .ok (.i2l, 1) := by decide +kernel
theorem d_Mo_covers_46 : decode b_Mo_covers 46 = .ok (.lstore 10, 2) := by decide +kernel
theorem d_Mo_covers_48 : decode b_Mo_covers 48 = .ok (.lload 4, 2) := by decide +kernel
theorem d_Mo_covers_50 : decode b_Mo_covers 50 = .ok (.lload 8, 2) := by decide +kernel
theorem d_Mo_covers_52 : decode b_Mo_covers 52 = .ok (.lmul, 1) := by decide +kernel
theorem d_Mo_covers_53 : decode b_Mo_covers 53 = .ok (.lload 6, 2) := by decide +kernel
theorem d_Mo_covers_55 : decode b_Mo_covers 55 = .ok (.lload 10, 2) := by decide +kernel
theorem d_Mo_covers_57 : decode b_Mo_covers 57 = .ok (.lmul, 1) := by decide +kernel
theorem d_Mo_covers_58 : decode b_Mo_covers 58 = .ok (.ladd, 1) := by decide +kernel
theorem d_Mo_covers_59 : decode b_Mo_covers 59 = .ok (.lstore 12, 2) := by decide +kernel
theorem d_Mo_covers_61 : decode b_Mo_covers 61 = .ok (.lload 6, 2) := by decide +kernel
theorem d_Mo_covers_63 : decode b_Mo_covers 63 = .ok (.lload 8, 2) := by decide +kernel
theorem d_Mo_covers_65 : decode b_Mo_covers 65 = .ok (.lmul, 1) := by decide +kernel
theorem d_Mo_covers_66 : decode b_Mo_covers 66 = .ok (.lload 4, 2) := by decide +kernel
theorem d_Mo_covers_68 : decode b_Mo_covers 68 = .ok (.lload 10, 2) := by decide +kernel
theorem d_Mo_covers_70 : decode b_Mo_covers 70 = .ok (.lmul, 1) := by decide +kernel
theorem d_Mo_covers_71 : decode b_Mo_covers 71 = .ok (.lsub, 1) := by decide +kernel
theorem d_Mo_covers_72 : decode b_Mo_covers 72 = .ok (.lstore 14, 2) := by decide +kernel
theorem d_Mo_covers_74 : decode b_Mo_covers 74 = .ok (.lload 12, 2) := by decide +kernel
theorem d_Mo_covers_76 : decode b_Mo_covers 76 = .ok (.aload_n 0, 1) := by decide +kernel
theorem d_Mo_covers_77 : decode b_Mo_covers 77 = .ok (.getfield 22, 3) := by decide +kernel
theorem d_Mo_covers_80 : decode b_Mo_covers 80 = .ok (.iload_n 1, 1) := by decide +kernel
theorem d_Mo_covers_81 : decode b_Mo_covers 81 = .ok (.iaload, 1) := by decide +kernel
theorem d_Mo_covers_82 : decode b_Mo_covers 82 = .ok (.ineg, 1) := by decide +kernel
theorem d_Mo_covers_83 : decode b_Mo_covers 83 = .ok (.i2l, 1) := by decide +kernel
theorem d_Mo_covers_84 : decode b_Mo_covers 84 = .ok (.ldc2_w 100, 3) := by decide +kernel
theorem d_Mo_covers_87 : decode b_Mo_covers 87 = .ok (.lmul, 1) := by decide +kernel
theorem d_Mo_covers_88 : decode b_Mo_covers 88 = .ok (.lcmp, 1) := by decide +kernel
theorem d_Mo_covers_89 : decode b_Mo_covers 89 = .ok (.ifCond .lt 59, 3) := by decide +kernel
theorem d_Mo_covers_92 : decode b_Mo_covers 92 = .ok (.lload 12, 2) := by decide +kernel
theorem d_Mo_covers_94 : decode b_Mo_covers 94 = .ok (.aload_n 0, 1) := by decide +kernel
theorem d_Mo_covers_95 : decode b_Mo_covers 95 = .ok (.getfield 19, 3) := by decide +kernel
theorem d_Mo_covers_98 : decode b_Mo_covers 98 = .ok (.iload_n 1, 1) := by decide +kernel
theorem d_Mo_covers_99 : decode b_Mo_covers 99 = .ok (.iaload, 1) := by decide +kernel
theorem d_Mo_covers_100 : decode b_Mo_covers 100 = .ok (.i2l, 1) := by decide +kernel
theorem d_Mo_covers_101 : decode b_Mo_covers 101 = .ok (.ldc2_w 100, 3) := by decide +kernel
theorem d_Mo_covers_104 : decode b_Mo_covers 104 = .ok (.lmul, 1) := by decide +kernel
theorem d_Mo_covers_105 : decode b_Mo_covers 105 = .ok (.lcmp, 1) := by decide +kernel
theorem d_Mo_covers_106 : decode b_Mo_covers 106 = .ok (.ifCond .gt 42, 3) := by decide +kernel
theorem d_Mo_covers_109 : decode b_Mo_covers 109 = .ok (.lload 14, 2) := by decide +kernel
end
section
theorem d_Mo_covers_111 : decode b_Mo_covers 111 = .ok (.aload_n 0, 1) := by decide +kernel
theorem d_Mo_covers_112 : decode b_Mo_covers 112 = .ok (.getfield 25, 3) := by decide +kernel
theorem d_Mo_covers_115 : decode b_Mo_covers 115 = .ok (.iload_n 1, 1) := by decide +kernel
theorem d_Mo_covers_116 : decode b_Mo_covers 116 = .ok (.iaload, 1) := by decide +kernel
theorem d_Mo_covers_117 : decode b_Mo_covers 117 = .ok (.ineg, 1) := by decide +kernel
theorem d_Mo_covers_118 : decode b_Mo_covers 118 = .ok (.i2l, 1) := by decide +kernel
theorem d_Mo_covers_119 : decode b_Mo_covers 119 = .ok (.ldc2_w 100, 3) := by decide +kernel
theorem d_Mo_covers_122 : decode b_Mo_covers 122 = .ok (.lmul, 1) := by decide +kernel
theorem d_Mo_covers_123 : decode b_Mo_covers 123 = .ok (.lcmp, 1) := by decide +kernel
theorem d_Mo_covers_124 : decode b_Mo_covers 124 = .ok (.ifCond .lt 24, 3) := by decide +kernel
theorem d_Mo_covers_127 : decode b_Mo_covers 127 = .ok (.lload 14, 2) := by decide +kernel
theorem d_Mo_covers_129 : decode b_Mo_covers 129 = .ok (.aload_n 0, 1) := by decide +kernel
theorem d_Mo_covers_130 : decode b_Mo_covers 130 = .ok (.getfield 25, 3) := by decide +kernel
theorem d_Mo_covers_133 : decode b_Mo_covers 133 = .ok (.iload_n 1, 1) := by decide +kernel
theorem d_Mo_covers_134 : decode b_Mo_covers 134 = .ok (.iaload, 1) := by decide +kernel
theorem d_Mo_covers_135 : decode b_Mo_covers 135 = .ok (.i2l, 1) := by decide +kernel
theorem d_Mo_covers_136 : decode b_Mo_covers 136 = .ok (.ldc2_w 100, 3) := by decide +kernel
theorem d_Mo_covers_139 : decode b_Mo_covers 139 = .ok (.lmul, 1) := by decide +kernel
theorem d_Mo_covers_140 : decode b_Mo_covers 140 = .ok (.lcmp, 1) := by decide +kernel
theorem d_Mo_covers_141 : decode b_Mo_covers 141 = .ok (.ifCond .gt 7, 3) := by decide +kernel
theorem d_Mo_covers_144 : decode b_Mo_covers 144 = .ok (.iconst 1, 1) := by decide +kernel
theorem d_Mo_covers_145 : decode b_Mo_covers 145 = .ok (.goto 4, 3) := by decide +kernel
theorem d_Mo_covers_148 : decode b_Mo_covers 148 = .ok (.iconst 0, 1) := by decide +kernel
theorem d_Mo_covers_149 : decode b_Mo_covers 149 = .ok (.ireturn, 1) := by decide +kernel
theorem d_Mo_cellOf_0 : decode b_Mo_cellOf 0 = .ok (.iload_n 0, 1) := by decide +kernel
theorem d_Mo_cellOf_1 : decode b_Mo_cellOf 1 = .ok (.sipush 4096, 3) := by decide +kernel
theorem d_Mo_cellOf_4 : decode b_Mo_cellOf 4 = .ok (.invokestatic 102, 3) := by decide +kernel
theorem d_Mo_cellOf_7 : decode b_Mo_cellOf 7 = .ok (.istore_n 1, 1) := by decide +kernel
theorem d_Mo_cellOf_8 : decode b_Mo_cellOf 8 = .ok (.iload_n 1, 1) := by decide +kernel
theorem d_Mo_cellOf_9 : decode b_Mo_cellOf 9 = .ok (.bipush 8, 2) := by decide +kernel
theorem d_Mo_cellOf_11 : decode b_Mo_cellOf 11 = .ok (.invokestatic 102, 3) := by decide +kernel
theorem d_Mo_cellOf_14 : decode b_Mo_cellOf 14 = .ok (.ireturn, 1) := by decide +kernel
theorem d_Mo_down_0 : decode b_Mo_down 0 = .ok (.iload_n 0, 1) := by decide +kernel
theorem d_Mo_down_1 : decode b_Mo_down 1 = .ok (.iload_n 1, 1) := by decide +kernel
theorem d_Mo_down_2 : decode b_Mo_down 2 = .ok (.idiv, 1) := by decide +kernel
theorem d_Mo_down_3 : decode b_Mo_down 3 = .ok (.istore_n 2, 1) := by decide +kernel
theorem d_Mo_down_4 : decode b_Mo_down 4 = .ok (.iload_n 2, 1) := by decide +kernel
theorem d_Mo_down_5 : decode b_Mo_down 5 = .ok (.iload_n 1, 1) := by decide +kernel
theorem d_Mo_down_6 : decode b_Mo_down 6 = .ok (.imul, 1) := by decide +kernel
theorem d_Mo_down_7 : decode b_Mo_down 7 = .ok (.iload_n 0, 1) := by decide +kernel
theorem d_Mo_down_8 : decode b_Mo_down 8 = .ok (.if_icmp .le 9, 3) := by decide +kernel
theorem d_Mo_down_11 : decode b_Mo_down 11 = .ok (.iload_n 2, 1) := by decide +kernel
theorem d_Mo_down_12 : decode b_Mo_down 12 = .ok (.iconst 1, 1) := by decide +kernel
theorem d_Mo_down_13 : decode b_Mo_down 13 = .ok (.isub, 1) := by decide +kernel
theorem d_Mo_down_14 : decode b_Mo_down 14 = .ok (.goto 4, 3) := by decide +kernel
theorem d_Mo_down_17 : decode b_Mo_down 17 = .ok (.iload_n 2, 1) := by decide +kernel
theorem d_Mo_down_18 : decode b_Mo_down 18 = .ok (.ireturn, 1) := by decide +kernel
theorem d_Mo_within_0 : decode b_Mo_within 0 = .ok (.iload_n 0, 1) := by decide +kernel
theorem d_Mo_within_1 : decode b_Mo_within 1 = .ok (.bipush (-32), 2) := by decide +kernel
theorem d_Mo_within_3 : decode b_Mo_within 3 = .ok (.if_icmp .ge 8, 3) := by decide +kernel
theorem d_Mo_within_6 : decode b_Mo_within 6 = .ok (.bipush (-32), 2) := by decide +kernel
theorem d_Mo_within_8 : decode b_Mo_within 8 = .ok (.goto 15, 3) := by decide +kernel
theorem d_Mo_within_11 : decode b_Mo_within 11 = .ok (.iload_n 0, 1) := by decide +kernel
theorem d_Mo_within_12 : decode b_Mo_within 12 = .ok (.bipush 31, 2) := by decide +kernel
theorem d_Mo_within_14 : decode b_Mo_within 14 = .ok (.if_icmp .le 8, 3) := by decide +kernel
theorem d_Mo_within_17 : decode b_Mo_within 17 = .ok (.bipush 31, 2) := by decide +kernel
theorem d_Mo_within_19 : decode b_Mo_within 19 = .ok (.goto 4, 3) := by decide +kernel
theorem d_Mo_within_22 : decode b_Mo_within 22 = .ok (.iload_n 0, 1) := by decide +kernel
theorem d_Mo_within_23 : decode b_Mo_within 23 = .ok (.ireturn, 1) := by decide +kernel
theorem d_Mo_look_0 : decode b_Mo_look 0 = .ok (.iconst 0, 1) := by decide +kernel
theorem d_Mo_look_1 : decode b_Mo_look 1 = .ok (.istore_n 1, 1) := by decide +kernel
theorem d_Mo_look_2 : decode b_Mo_look 2 = .ok (.iload_n 1, 1) := by decide +kernel
theorem d_Mo_look_3 : decode b_Mo_look 3 = .ok (.aload_n 0, 1) := by decide +kernel
theorem d_Mo_look_4 : decode b_Mo_look 4 = .ok (.getfield 84, 3) := by decide +kernel
theorem d_Mo_look_7 : decode b_Mo_look 7 = .ok (.if_icmp .ge 256, 3) := by decide +kernel
theorem d_Mo_look_10 : decode b_Mo_look 10 = .ok (.aload_n 0, 1) := by decide +kernel
theorem d_Mo_look_11 : decode b_Mo_look 11 = .ok (.getfield 51, 3) := by decide +kernel
theorem d_Mo_look_14 : decode b_Mo_look 14 = .ok (.iload_n 1, 1) := by decide +kernel
theorem d_Mo_look_15 : decode b_Mo_look 15 = .ok (.iaload, 1) := by decide +kernel
theorem d_Mo_look_16 : decode b_Mo_look 16 = .ok (.invokestatic 106, 3) := by decide +kernel
theorem d_Mo_look_19 : decode b_Mo_look 19 = .ok (.bipush 10, 2) := by decide +kernel
theorem d_Mo_look_21 : decode b_Mo_look 21 = .ok (.isub, 1) := by decide +kernel
theorem d_Mo_look_22 : decode b_Mo_look 22 = .ok (.invokestatic 109, 3) := by decide +kernel
theorem d_Mo_look_25 : decode b_Mo_look 25 = .ok (.istore_n 2, 1) := by decide +kernel
theorem d_Mo_look_26 : decode b_Mo_look 26 = .ok (.aload_n 0, 1) := by decide +kernel
theorem d_Mo_look_27 : decode b_Mo_look 27 = .ok (.getfield 51, 3) := by decide +kernel
theorem d_Mo_look_30 : decode b_Mo_look 30 = .ok (.iload_n 1, 1) := by decide +kernel
theorem d_Mo_look_31 : decode b_Mo_look 31 = .ok (.iaload, 1) := by decide +kernel
theorem d_Mo_look_32 : decode b_Mo_look 32 = .ok (.invokestatic 106, 3) := by decide +kernel
theorem d_Mo_look_35 : decode b_Mo_look 35 = .ok (.bipush 10, 2) := by decide +kernel
theorem d_Mo_look_37 : decode b_Mo_look 37 = .ok (.iadd, 1) := by decide +kernel
theorem d_Mo_look_38 : decode b_Mo_look 38 = .ok (.invokestatic 109, 3) := by decide +kernel
theorem d_Mo_look_41 : decode b_Mo_look 41 = .ok (.istore_n 3, 1) := by decide +kernel
theorem d_Mo_look_42 : decode b_Mo_look 42 = .ok (.aload_n 0, 1) := by decide +kernel
theorem d_Mo_look_43 : decode b_Mo_look 43 = .ok (.getfield 54, 3) := by decide +kernel
theorem d_Mo_look_46 : decode b_Mo_look 46 = .ok (.iload_n 1, 1) := by decide +kernel
theorem d_Mo_look_47 : decode b_Mo_look 47 = .ok (.iaload, 1) := by decide +kernel
theorem d_Mo_look_48 : decode b_Mo_look 48 = .ok (.invokestatic 106, 3) := by decide +kernel
theorem d_Mo_look_51 : decode b_Mo_look 51 = .ok (.bipush 10, 2) := by decide +kernel
theorem d_Mo_look_53 : decode b_Mo_look 53 = .ok (.isub, 1) := by decide +kernel
theorem d_Mo_look_54 : decode b_Mo_look 54 = .ok (.invokestatic 109, 3) := by decide +kernel
theorem d_Mo_look_57 : decode b_Mo_look 57 = .ok (.istore 4, 2) := by decide +kernel
theorem d_Mo_look_59 : decode b_Mo_look 59 = .ok (.aload_n 0, 1) := by decide +kernel
theorem d_Mo_look_60 : decode b_Mo_look 60 = .ok (.getfield 54, 3) := by decide +kernel
theorem d_Mo_look_63 : decode b_Mo_look 63 = .ok (.iload_n 1, 1) := by decide +kernel
theorem d_Mo_look_64 : decode b_Mo_look 64 = .ok (.iaload, 1) := by decide +kernel
theorem d_Mo_look_65 : decode b_Mo_look 65 = .ok (.invokestatic 106, 3) := by decide +kernel
theorem d_Mo_look_68 : decode b_Mo_look 68 = .ok (.bipush 10, 2) := by decide +kernel
theorem d_Mo_look_70 : decode b_Mo_look 70 = .ok (.iadd, 1) := by decide +kernel
theorem d_Mo_look_71 : decode b_Mo_look 71 = .ok (.invokestatic 109, 3) := by decide +kernel
theorem d_Mo_look_74 : decode b_Mo_look 74 = .ok (.istore 5, 2) := by decide +kernel
theorem d_Mo_look_76 : decode b_Mo_look 76 = .ok (.iload_n 2, 1) := by decide +kernel
theorem d_Mo_look_77 : decode b_Mo_look 77 = .ok (.istore 6, 2) := by decide +kernel
theorem d_Mo_look_79 : decode b_Mo_look 79 = .ok (.iload 6, 2) := by decide +kernel
theorem d_Mo_look_81 : decode b_Mo_look 81 = .ok (.iload_n 3, 1) := by decide +kernel
theorem d_Mo_look_82 : decode b_Mo_look 82 = .ok (.if_icmp .gt 100, 3) := by decide +kernel
theorem d_Mo_look_85 : decode b_Mo_look 85 = .ok (.iload 4, 2) := by decide +kernel
theorem d_Mo_look_87 : decode b_Mo_look 87 = .ok (.istore 7, 2) := by decide +kernel
theorem d_Mo_look_89 : decode b_Mo_look 89 = .ok (.iload 7, 2) := by decide +kernel
theorem d_Mo_look_91 : decode b_Mo_look 91 = .ok (.iload 5, 2) := by decide +kernel
theorem d_Mo_look_93 : decode b_Mo_look 93 = .ok (.if_icmp .gt 83, 3) := by decide +kernel
theorem d_Mo_look_96 : decode b_Mo_look 96 = .ok (.bipush 64, 2) := by decide +kernel
theorem d_Mo_look_98 : decode b_Mo_look 98 = .ok (.iload 6, 2) := by decide +kernel
theorem d_Mo_look_100 : decode b_Mo_look 100 = .ok (.bipush 32, 2) := by decide +kernel
theorem d_Mo_look_102 : decode b_Mo_look 102 = .ok (.iadd, 1) := by decide +kernel
theorem d_Mo_look_103 : decode b_Mo_look 103 = .ok (.imul, 1) := by decide +kernel
theorem d_Mo_look_104 : decode b_Mo_look 104 = .ok (.iload 7, 2) := by decide +kernel
theorem d_Mo_look_106 : decode b_Mo_look 106 = .ok (.iadd, 1) := by decide +kernel
theorem d_Mo_look_107 : decode b_Mo_look 107 = .ok (.bipush 32, 2) := by decide +kernel
theorem d_Mo_look_109 : decode b_Mo_look 109 = .ok (.iadd, 1) := by decide +kernel
theorem d_Mo_look_110 : decode b_Mo_look 110 = .ok (.istore 8, 2) := by decide +kernel
theorem d_Mo_look_112 : decode b_Mo_look 112 = .ok (.aload_n 0, 1) := by decide +kernel
theorem d_Mo_look_113 : decode b_Mo_look 113 = .ok (.getfield 75, 3) := by decide +kernel
theorem d_Mo_look_116 : decode b_Mo_look 116 = .ok (.iload 8, 2) := by decide +kernel
theorem d_Mo_look_118 : decode b_Mo_look 118 = .ok (.baload, 1) := by decide +kernel
theorem d_Mo_look_119 : decode b_Mo_look 119 = .ok (.ifCond .ne 51, 3) := by decide +kernel
theorem d_Mo_look_122 : decode b_Mo_look 122 = .ok (.aload_n 0, 1) := by decide +kernel
theorem d_Mo_look_123 : decode b_Mo_look 123 = .ok (.iload_n 1, 1) := by decide +kernel
theorem d_Mo_look_124 : decode b_Mo_look 124 = .ok (.sipush 4096, 3) := by decide +kernel
theorem d_Mo_look_127 : decode b_Mo_look 127 = .ok (.bipush 8, 2) := by decide +kernel
theorem d_Mo_look_129 : decode b_Mo_look 129 = .ok (.iload 6, 2) := by decide +kernel
theorem d_Mo_look_131 : decode b_Mo_look 131 = .ok (.imul, 1) := by decide +kernel
theorem d_Mo_look_132 : decode b_Mo_look 132 = .ok (.iconst 4, 1) := by decide +kernel
theorem d_Mo_look_133 : decode b_Mo_look 133 = .ok (.iadd, 1) := by decide +kernel
theorem d_Mo_look_134 : decode b_Mo_look 134 = .ok (.imul, 1) := by decide +kernel
theorem d_Mo_look_135 : decode b_Mo_look 135 = .ok (.sipush 4096, 3) := by decide +kernel
theorem d_Mo_look_138 : decode b_Mo_look 138 = .ok (.bipush 8, 2) := by decide +kernel
theorem d_Mo_look_140 : decode b_Mo_look 140 = .ok (.iload 7, 2) := by decide +kernel
theorem d_Mo_look_142 : decode b_Mo_look 142 = .ok (.imul, 1) := by decide +kernel
theorem d_Mo_look_143 : decode b_Mo_look 143 = .ok (.iconst 4, 1) := by decide +kernel
theorem d_Mo_look_144 : decode b_Mo_look 144 = .ok (.iadd, 1) := by decide +kernel
theorem d_Mo_look_145 : decode b_Mo_look 145 = .ok (.imul, 1) := by decide +kernel
theorem d_Mo_look_146 : decode b_Mo_look 146 = .ok (.invokevirtual 112, 3) := by decide +kernel
theorem d_Mo_look_149 : decode b_Mo_look 149 = .ok (.ifCond .eq 21, 3) := by decide +kernel
theorem d_Mo_look_152 : decode b_Mo_look 152 = .ok (.aload_n 0, 1) := by decide +kernel
theorem d_Mo_look_153 : decode b_Mo_look 153 = .ok (.getfield 75, 3) := by decide +kernel
theorem d_Mo_look_156 : decode b_Mo_look 156 = .ok (.iload 8, 2) := by decide +kernel
theorem d_Mo_look_158 : decode b_Mo_look 158 = .ok (.iconst 1, 1) := by decide +kernel
theorem d_Mo_look_159 : decode b_Mo_look 159 = .ok (.bastore, 1) := by decide +kernel
theorem d_Mo_look_160 : decode b_Mo_look 160 = .ok (.aload_n 0, 1) := by decide +kernel
theorem d_Mo_look_161 : decode b_Mo_look 161 = .ok (.dup, 1) := by decide +kernel
theorem d_Mo_look_162 : decode b_Mo_look 162 = .ok (.getfield 116, 3) := by decide +kernel
theorem d_Mo_look_165 : decode b_Mo_look 165 = .ok (.iconst 1, 1) := by decide +kernel
theorem d_Mo_look_166 : decode b_Mo_look 166 = .ok (.iadd, 1) := by decide +kernel
theorem d_Mo_look_167 : decode b_Mo_look 167 = .ok (.putfield 116, 3) := by decide +kernel
theorem d_Mo_look_170 : decode b_Mo_look 170 = .ok (.iinc 7 1, 3) := by decide +kernel
theorem d_Mo_look_173 : decode b_Mo_look 173 = .ok (.goto (-84), 3) := by decide +kernel
theorem d_Mo_look_176 : decode b_Mo_look 176 = .ok (.iinc 6 1, 3) := by decide +kernel
theorem d_Mo_look_179 : decode b_Mo_look 179 = .ok (.goto (-100), 3) := by decide +kernel
theorem d_Mo_look_182 : decode b_Mo_look 182 = .ok (.iconst 0, 1) := by decide +kernel
theorem d_Mo_look_183 : decode b_Mo_look 183 = .ok (.istore 6, 2) := by decide +kernel
theorem d_Mo_look_185 : decode b_Mo_look 185 = .ok (.iload 6, 2) := by decide +kernel
theorem d_Mo_look_187 : decode b_Mo_look 187 = .ok (.aload_n 0, 1) := by decide +kernel
theorem d_Mo_look_188 : decode b_Mo_look 188 = .ok (.getfield 119, 3) := by decide +kernel
theorem d_Mo_look_191 : decode b_Mo_look 191 = .ok (.if_icmp .ge 66, 3) := by decide +kernel
theorem d_Mo_look_194 : decode b_Mo_look 194 = .ok (.aload_n 0, 1) := by decide +kernel
theorem d_Mo_look_195 : decode b_Mo_look 195 = .ok (.getfield 66, 3) := by decide +kernel
theorem d_Mo_look_198 : decode b_Mo_look 198 = .ok (.iconst (-1), 1) := by decide +kernel
theorem d_Mo_look_199 : decode b_Mo_look 199 = .ok (.if_icmp .ne 58, 3) := by decide +kernel
theorem d_Mo_look_202 : decode b_Mo_look 202 = .ok (.aload_n 0, 1) := by decide +kernel
theorem d_Mo_look_203 : decode b_Mo_look 203 = .ok (.iload_n 1, 1) := by decide +kernel
theorem d_Mo_look_204 : decode b_Mo_look 204 = .ok (.sipush 4096, 3) := by decide +kernel
theorem d_Mo_look_207 : decode b_Mo_look 207 = .ok (.aload_n 0, 1) := by decide +kernel
theorem d_Mo_look_208 : decode b_Mo_look 208 = .ok (.getfield 32, 3) := by decide +kernel
theorem d_Mo_look_211 : decode b_Mo_look 211 = .ok (.iload 6, 2) := by decide +kernel
theorem d_Mo_look_213 : decode b_Mo_look 213 = .ok (.iaload, 1) := by decide +kernel
theorem d_Mo_look_214 : decode b_Mo_look 214 = .ok (.imul, 1) := by decide +kernel
theorem d_Mo_look_215 : decode b_Mo_look 215 = .ok (.sipush 4096, 3) := by decide +kernel
theorem d_Mo_look_218 : decode b_Mo_look 218 = .ok (.aload_n 0, 1) := by decide +kernel
theorem d_Mo_look_219 : decode b_Mo_look 219 = .ok (.getfield 35, 3) := by decide +kernel
theorem d_Mo_look_222 : decode b_Mo_look 222 = .ok (.iload 6, 2) := by decide +kernel
theorem d_Mo_look_224 : decode b_Mo_look 224 = .ok (.iaload, 1) := by decide +kernel
theorem d_Mo_look_225 : decode b_Mo_look 225 = .ok (.imul, 1) := by decide +kernel
theorem d_Mo_look_226 : decode b_Mo_look 226 = .ok (.invokevirtual 112, 3) := by decide +kernel
theorem d_Mo_look_229 : decode b_Mo_look 229 = .ok (.ifCond .eq 22, 3) := by decide +kernel
theorem d_Mo_look_232 : decode b_Mo_look 232 = .ok (.aload_n 0, 1) := by decide +kernel
theorem d_Mo_look_233 : decode b_Mo_look 233 = .ok (.aload_n 0, 1) := by decide +kernel
theorem d_Mo_look_234 : decode b_Mo_look 234 = .ok (.getfield 122, 3) := by decide +kernel
theorem d_Mo_look_237 : decode b_Mo_look 237 = .ok (.putfield 66, 3) := by decide +kernel
theorem d_Mo_look_240 : decode b_Mo_look 240 = .ok (.aload_n 0, 1) := by decide +kernel
theorem d_Mo_look_241 : decode b_Mo_look 241 = .ok (.iload_n 1, 1) := by decide +kernel
theorem d_Mo_look_242 : decode b_Mo_look 242 = .ok (.putfield 69, 3) := by decide +kernel
theorem d_Mo_look_245 : decode b_Mo_look 245 = .ok (.aload_n 0, 1) := by decide +kernel
theorem d_Mo_look_246 : decode b_Mo_look 246 = .ok (.iload 6, 2) := by decide +kernel
theorem d_Mo_look_248 : decode b_Mo_look 248 = .ok (.putfield 72, 3) := by decide +kernel
theorem d_Mo_look_251 : decode b_Mo_look 251 = .ok (.iinc 6 1, 3) := by decide +kernel
theorem d_Mo_look_254 : decode b_Mo_look 254 = .ok (.goto (-69), 3) := by decide +kernel
theorem d_Mo_look_257 : decode b_Mo_look 257 = .ok (.iinc 1 1, 3) := by decide +kernel
theorem d_Mo_look_260 : decode b_Mo_look 260 = .ok (.goto (-258), 3) := by decide +kernel
theorem d_Mo_look_263 : decode b_Mo_look 263 = .ok (.return_, 1) := by decide +kernel
theorem d_Mo_beginAnew_0 : decode b_Mo_beginAnew 0 = .ok (.aload_n 0, 1) := by decide +kernel
theorem d_Mo_beginAnew_1 : decode b_Mo_beginAnew 1 = .ok (.iconst 0, 1) := by decide +kernel
theorem d_Mo_beginAnew_2 : decode b_Mo_beginAnew 2 = .ok (.putfield 122, 3) := by decide +kernel
theorem d_Mo_beginAnew_5 : decode b_Mo_beginAnew 5 = .ok (.aload_n 0, 1) := by decide +kernel
theorem d_Mo_beginAnew_6 : decode b_Mo_beginAnew 6 = .ok (.iconst 0, 1) := by decide +kernel
theorem d_Mo_beginAnew_7 : decode b_Mo_beginAnew 7 = .ok (.putfield 125, 3) := by decide +kernel
theorem d_Mo_beginAnew_10 : decode b_Mo_beginAnew 10 = .ok (.aload_n 0, 1) := by decide +kernel
theorem d_Mo_beginAnew_11 : decode b_Mo_beginAnew 11 = .ok (.iconst (-1), 1) := by decide +kernel
theorem d_Mo_beginAnew_12 : decode b_Mo_beginAnew 12 = .ok (.putfield 66, 3) := by decide +kernel
theorem d_Mo_beginAnew_15 : decode b_Mo_beginAnew 15 = .ok (.aload_n 0, 1) := by decide +kernel
theorem d_Mo_beginAnew_16 : decode b_Mo_beginAnew 16 = .ok (.iconst (-1), 1) := by decide +kernel
theorem d_Mo_beginAnew_17 : decode b_Mo_beginAnew 17 = .ok (.putfield 69, 3) := by decide +kernel
theorem d_Mo_beginAnew_20 : decode b_Mo_beginAnew 20 = .ok (.aload_n 0, 1) := by decide +kernel
theorem d_Mo_beginAnew_21 : decode b_Mo_beginAnew 21 = .ok (.iconst (-1), 1) := by decide +kernel
theorem d_Mo_beginAnew_22 : decode b_Mo_beginAnew 22 = .ok (.putfield 72, 3) := by decide +kernel
theorem d_Mo_beginAnew_25 : decode b_Mo_beginAnew 25 = .ok (.aload_n 0, 1) := by decide +kernel
theorem d_Mo_beginAnew_26 : decode b_Mo_beginAnew 26 = .ok (.iconst 0, 1) := by decide +kernel
theorem d_Mo_beginAnew_27 : decode b_Mo_beginAnew 27 = .ok (.putfield 116, 3) := by decide +kernel
theorem d_Mo_beginAnew_30 : decode b_Mo_beginAnew 30 = .ok (.iconst 0, 1) := by decide +kernel
theorem d_Mo_beginAnew_31 : decode b_Mo_beginAnew 31 = .ok (.istore_n 1, 1) := by decide +kernel
theorem d_Mo_beginAnew_32 : decode b_Mo_beginAnew 32 = .ok (.iload_n 1, 1) := by decide +kernel
theorem d_Mo_beginAnew_33 : decode b_Mo_beginAnew 33 = .ok (.sipush 4096, 3) := by decide +kernel
theorem d_Mo_beginAnew_36 : decode b_Mo_beginAnew 36 = .ok (.if_icmp .ge 16, 3) := by decide +kernel
theorem d_Mo_beginAnew_39 : decode b_Mo_beginAnew 39 = .ok (.aload_n 0, 1) := by decide +kernel
theorem d_Mo_beginAnew_40 : decode b_Mo_beginAnew 40 = .ok (.getfield 75, 3) := by decide +kernel
theorem d_Mo_beginAnew_43 : decode b_Mo_beginAnew 43 = .ok (.iload_n 1, 1) := by decide +kernel
theorem d_Mo_beginAnew_44 : decode b_Mo_beginAnew 44 = .ok (.iconst 0, 1) := by decide +kernel
theorem d_Mo_beginAnew_45 : decode b_Mo_beginAnew 45 = .ok (.bastore, 1) := by decide +kernel
theorem d_Mo_beginAnew_46 : decode b_Mo_beginAnew 46 = .ok (.iinc 1 1, 3) := by decide +kernel
theorem d_Mo_beginAnew_49 : decode b_Mo_beginAnew 49 = .ok (.goto (-17), 3) := by decide +kernel
theorem d_Mo_beginAnew_52 : decode b_Mo_beginAnew 52 = .ok (.aload_n 0, 1) := by decide +kernel
theorem d_Mo_beginAnew_53 : decode b_Mo_beginAnew 53 = .ok (.getfield 51, 3) := by decide +kernel
theorem d_Mo_beginAnew_56 : decode b_Mo_beginAnew 56 = .ok (.iconst 0, 1) := by decide +kernel
theorem d_Mo_beginAnew_57 : decode b_Mo_beginAnew 57 = .ok (.sipush 4096, 3) := by decide +kernel
theorem d_Mo_beginAnew_60 : decode b_Mo_beginAnew 60 = .ok (.aload_n 0, 1) := by decide +kernel
theorem d_Mo_beginAnew_61 : decode b_Mo_beginAnew 61 = .ok (.getfield 129, 3) := by decide +kernel
theorem d_Mo_beginAnew_64 : decode b_Mo_beginAnew 64 = .ok (.imul, 1) := by decide +kernel
theorem d_Mo_beginAnew_65 : decode b_Mo_beginAnew 65 = .ok (.iastore, 1) := by decide +kernel
theorem d_Mo_beginAnew_66 : decode b_Mo_beginAnew 66 = .ok (.aload_n 0, 1) := by decide +kernel
theorem d_Mo_beginAnew_67 : decode b_Mo_beginAnew 67 = .ok (.getfield 54, 3) := by decide +kernel
theorem d_Mo_beginAnew_70 : decode b_Mo_beginAnew 70 = .ok (.iconst 0, 1) := by decide +kernel
theorem d_Mo_beginAnew_71 : decode b_Mo_beginAnew 71 = .ok (.sipush 4096, 3) := by decide +kernel
theorem d_Mo_beginAnew_74 : decode b_Mo_beginAnew 74 = .ok (.aload_n 0, 1) := by decide +kernel
theorem d_Mo_beginAnew_75 : decode b_Mo_beginAnew 75 = .ok (.getfield 132, 3) := by decide +kernel
theorem d_Mo_beginAnew_78 : decode b_Mo_beginAnew 78 = .ok (.imul, 1) := by decide +kernel
theorem d_Mo_beginAnew_79 : decode b_Mo_beginAnew 79 = .ok (.iastore, 1) := by decide +kernel
theorem d_Mo_beginAnew_80 : decode b_Mo_beginAnew 80 = .ok (.iconst 0, 1) := by decide +kernel
theorem d_Mo_beginAnew_81 : decode b_Mo_beginAnew 81 = .ok (.istore_n 1, 1) := by decide +kernel
theorem d_Mo_beginAnew_82 : decode b_Mo_beginAnew 82 = .ok (.iload_n 1, 1) := by decide +kernel
theorem d_Mo_beginAnew_83 : decode b_Mo_beginAnew 83 = .ok (.iconst 3, 1) := by decide +kernel
theorem d_Mo_beginAnew_84 : decode b_Mo_beginAnew 84 = .ok (.if_icmp .ge 50, 3) := by decide +kernel
theorem d_Mo_beginAnew_87 : decode b_Mo_beginAnew 87 = .ok (.aload_n 0, 1) := by decide +kernel
theorem d_Mo_beginAnew_88 : decode b_Mo_beginAnew 88 = .ok (.getfield 57, 3) := by decide +kernel
theorem d_Mo_beginAnew_91 : decode b_Mo_beginAnew 91 = .ok (.iload_n 1, 1) := by decide +kernel
theorem d_Mo_beginAnew_92 : decode b_Mo_beginAnew 92 = .ok (.aload_n 0, 1) := by decide +kernel
theorem d_Mo_beginAnew_93 : decode b_Mo_beginAnew 93 = .ok (.getfield 135, 3) := by decide +kernel
theorem d_Mo_beginAnew_96 : decode b_Mo_beginAnew 96 = .ok (.iastore, 1) := by decide +kernel
theorem d_Mo_beginAnew_97 : decode b_Mo_beginAnew 97 = .ok (.aload_n 0, 1) := by decide +kernel
theorem d_Mo_beginAnew_98 : decode b_Mo_beginAnew 98 = .ok (.getfield 60, 3) := by decide +kernel
theorem d_Mo_beginAnew_101 : decode b_Mo_beginAnew 101 = .ok (.iload_n 1, 1) := by decide +kernel
theorem d_Mo_beginAnew_102 : decode b_Mo_beginAnew 102 = .ok (.iconst 0, 1) := by decide +kernel
theorem d_Mo_beginAnew_103 : decode b_Mo_beginAnew 103 = .ok (.iastore, 1) := by decide +kernel
theorem d_Mo_beginAnew_104 : decode b_Mo_beginAnew 104 = .ok (.aload_n 0, 1) := by decide +kernel
theorem d_Mo_beginAnew_105 : decode b_Mo_beginAnew 105 = .ok (.getfield 63, 3) := by decide +kernel
theorem d_Mo_beginAnew_108 : decode b_Mo_beginAnew 108 = .ok (.iload_n 1, 1) := by decide +kernel
theorem d_Mo_beginAnew_109 : decode b_Mo_beginAnew 109 = .ok (.iconst 0, 1) := by decide +kernel
theorem d_Mo_beginAnew_110 : decode b_Mo_beginAnew 110 = .ok (.iastore, 1) := by decide +kernel
theorem d_Mo_beginAnew_111 : decode b_Mo_beginAnew 111 = .ok (.iload_n 1, 1) := by decide +kernel
theorem d_Mo_beginAnew_112 : decode b_Mo_beginAnew 112 = .ok (.ifCond .le 16, 3) := by decide +kernel
theorem d_Mo_beginAnew_115 : decode b_Mo_beginAnew 115 = .ok (.iload_n 1, 1) := by decide +kernel
theorem d_Mo_beginAnew_116 : decode b_Mo_beginAnew 116 = .ok (.aload_n 0, 1) := by decide +kernel
theorem d_Mo_beginAnew_117 : decode b_Mo_beginAnew 117 = .ok (.getfield 84, 3) := by decide +kernel
theorem d_Mo_beginAnew_120 : decode b_Mo_beginAnew 120 = .ok (.if_icmp .ge 8, 3) := by decide +kernel
theorem d_Mo_beginAnew_123 : decode b_Mo_beginAnew 123 = .ok (.aload_n 0, 1) := by decide +kernel
theorem d_Mo_beginAnew_124 : decode b_Mo_beginAnew 124 = .ok (.iload_n 1, 1) := by decide +kernel
theorem d_Mo_beginAnew_125 : decode b_Mo_beginAnew 125 = .ok (.invokevirtual 138, 3) := by decide +kernel
theorem d_Mo_beginAnew_128 : decode b_Mo_beginAnew 128 = .ok (.iinc 1 1, 3) := by decide +kernel
theorem d_Mo_beginAnew_131 : decode b_Mo_beginAnew 131 = .ok (.goto (-49), 3) := by decide +kernel
theorem d_Mo_beginAnew_134 : decode b_Mo_beginAnew 134 = .ok (.aload_n 0, 1) := by decide +kernel
theorem d_Mo_beginAnew_135 : decode b_Mo_beginAnew 135 = .ok (.invokevirtual 142, 3) := by decide +kernel
theorem d_Mo_beginAnew_138 : decode b_Mo_beginAnew 138 = .ok (.return_, 1) := by decide +kernel
theorem d_Mo_move_0 : decode b_Mo_move 0 = .ok (.iload_n 2, 1) := by decide +kernel
theorem d_Mo_move_1 : decode b_Mo_move 1 = .ok (.ifCond .eq 7, 3) := by decide +kernel
theorem d_Mo_move_4 : decode b_Mo_move 4 = .ok (.iconst 1, 1) := by decide +kernel
theorem d_Mo_move_5 : decode b_Mo_move 5 = .ok (.goto 4, 3) := by decide +kernel
theorem d_Mo_move_8 : decode b_Mo_move 8 = .ok (.iconst (-1), 1) := by decide +kernel
theorem d_Mo_move_9 : decode b_Mo_move 9 = .ok (.istore_n 3, 1) := by decide +kernel
theorem d_Mo_move_10 : decode b_Mo_move 10 = .ok (.aload_n 0, 1) := by decide +kernel
theorem d_Mo_move_11 : decode b_Mo_move 11 = .ok (.getfield 51, 3) := by decide +kernel
theorem d_Mo_move_14 : decode b_Mo_move 14 = .ok (.iconst 0, 1) := by decide +kernel
theorem d_Mo_move_15 : decode b_Mo_move 15 = .ok (.aload_n 0, 1) := by decide +kernel
theorem d_Mo_move_16 : decode b_Mo_move 16 = .ok (.getfield 51, 3) := by decide +kernel
theorem d_Mo_move_19 : decode b_Mo_move 19 = .ok (.iconst 0, 1) := by decide +kernel
theorem d_Mo_move_20 : decode b_Mo_move 20 = .ok (.iaload, 1) := by decide +kernel
theorem d_Mo_move_21 : decode b_Mo_move 21 = .ok (.iload_n 3, 1) := by decide +kernel
theorem d_Mo_move_22 : decode b_Mo_move 22 = .ok (.aload_n 0, 1) := by decide +kernel
theorem d_Mo_move_23 : decode b_Mo_move 23 = .ok (.getfield 28, 3) := by decide +kernel
theorem d_Mo_move_26 : decode b_Mo_move 26 = .ok (.imul, 1) := by decide +kernel
theorem d_Mo_move_27 : decode b_Mo_move 27 = .ok (.aload_n 0, 1) := by decide +kernel
theorem d_Mo_move_28 : decode b_Mo_move 28 = .ok (.aload_n 0, 1) := by decide +kernel
theorem d_Mo_move_29 : decode b_Mo_move 29 = .ok (.getfield 57, 3) := by decide +kernel
theorem d_Mo_move_32 : decode b_Mo_move 32 = .ok (.iconst 0, 1) := by decide +kernel
theorem d_Mo_move_33 : decode b_Mo_move 33 = .ok (.iaload, 1) := by decide +kernel
theorem d_Mo_move_34 : decode b_Mo_move 34 = .ok (.invokevirtual 90, 3) := by decide +kernel
theorem d_Mo_move_37 : decode b_Mo_move 37 = .ok (.imul, 1) := by decide +kernel
theorem d_Mo_move_38 : decode b_Mo_move 38 = .ok (.iadd, 1) := by decide +kernel
theorem d_Mo_move_39 : decode b_Mo_move 39 = .ok (.iastore, 1) := by decide +kernel
theorem d_Mo_move_40 : decode b_Mo_move 40 = .ok (.aload_n 0, 1) := by decide +kernel
theorem d_Mo_move_41 : decode b_Mo_move 41 = .ok (.getfield 54, 3) := by decide +kernel
theorem d_Mo_move_44 : decode b_Mo_move 44 = .ok (.iconst 0, 1) := by decide +kernel
theorem d_Mo_move_45 : decode b_Mo_move 45 = .ok (.aload_n 0, 1) := by decide +kernel
theorem d_Mo_move_46 : decode b_Mo_move 46 = .ok (.getfield 54, 3) := by decide +kernel
theorem d_Mo_move_49 : decode b_Mo_move 49 = .ok (.iconst 0, 1) := by decide +kernel
theorem d_Mo_move_50 : decode b_Mo_move 50 = .ok (.iaload, 1) := by decide +kernel
theorem d_Mo_move_51 : decode b_Mo_move 51 = .ok (.iload_n 3, 1) := by decide +kernel
theorem d_Mo_move_52 : decode b_Mo_move 52 = .ok (.aload_n 0, 1) := by decide +kernel
theorem d_Mo_move_53 : decode b_Mo_move 53 = .ok (.getfield 28, 3) := by decide +kernel
theorem d_Mo_move_56 : decode b_Mo_move 56 = .ok (.imul, 1) := by decide +kernel
theorem d_Mo_move_57 : decode b_Mo_move 57 = .ok (.aload_n 0, 1) := by decide +kernel
theorem d_Mo_move_58 : decode b_Mo_move 58 = .ok (.aload_n 0, 1) := by decide +kernel
theorem d_Mo_move_59 : decode b_Mo_move 59 = .ok (.getfield 57, 3) := by decide +kernel
theorem d_Mo_move_62 : decode b_Mo_move 62 = .ok (.iconst 0, 1) := by decide +kernel
theorem d_Mo_move_63 : decode b_Mo_move 63 = .ok (.iaload, 1) := by decide +kernel
theorem d_Mo_move_64 : decode b_Mo_move 64 = .ok (.invokevirtual 97, 3) := by decide +kernel
theorem d_Mo_move_67 : decode b_Mo_move 67 = .ok (.imul, 1) := by decide +kernel
theorem d_Mo_move_68 : decode b_Mo_move 68 = .ok (.iadd, 1) := by decide +kernel
theorem d_Mo_move_69 : decode b_Mo_move 69 = .ok (.iastore, 1) := by decide +kernel
theorem d_Mo_move_70 : decode b_Mo_move 70 = .ok (.aload_n 0, 1) := by decide +kernel
theorem d_Mo_move_71 : decode b_Mo_move 71 = .ok (.getfield 57, 3) := by decide +kernel
theorem d_Mo_move_74 : decode b_Mo_move 74 = .ok (.iconst 0, 1) := by decide +kernel
theorem d_Mo_move_75 : decode b_Mo_move 75 = .ok (.aload_n 0, 1) := by decide +kernel
theorem d_Mo_move_76 : decode b_Mo_move 76 = .ok (.getfield 57, 3) := by decide +kernel
theorem d_Mo_move_79 : decode b_Mo_move 79 = .ok (.iconst 0, 1) := by decide +kernel
theorem d_Mo_move_80 : decode b_Mo_move 80 = .ok (.iaload, 1) := by decide +kernel
theorem d_Mo_move_81 : decode b_Mo_move 81 = .ok (.iload_n 3, 1) := by decide +kernel
theorem d_Mo_move_82 : decode b_Mo_move 82 = .ok (.iload_n 1, 1) := by decide +kernel
theorem d_Mo_move_83 : decode b_Mo_move 83 = .ok (.imul, 1) := by decide +kernel
theorem d_Mo_move_84 : decode b_Mo_move 84 = .ok (.iadd, 1) := by decide +kernel
theorem d_Mo_move_85 : decode b_Mo_move 85 = .ok (.bipush 63, 2) := by decide +kernel
theorem d_Mo_move_87 : decode b_Mo_move 87 = .ok (.iand, 1) := by decide +kernel
theorem d_Mo_move_88 : decode b_Mo_move 88 = .ok (.iastore, 1) := by decide +kernel
theorem d_Mo_move_89 : decode b_Mo_move 89 = .ok (.iconst 1, 1) := by decide +kernel
theorem d_Mo_move_90 : decode b_Mo_move 90 = .ok (.istore 4, 2) := by decide +kernel
theorem d_Mo_move_92 : decode b_Mo_move 92 = .ok (.iload 4, 2) := by decide +kernel
theorem d_Mo_move_94 : decode b_Mo_move 94 = .ok (.aload_n 0, 1) := by decide +kernel
theorem d_Mo_move_95 : decode b_Mo_move 95 = .ok (.getfield 84, 3) := by decide +kernel
theorem d_Mo_move_98 : decode b_Mo_move 98 = .ok (.if_icmp .ge 105, 3) := by decide +kernel
theorem d_Mo_move_101 : decode b_Mo_move 101 = .ok (.aload_n 0, 1) := by decide +kernel
theorem d_Mo_move_102 : decode b_Mo_move 102 = .ok (.getfield 60, 3) := by decide +kernel
theorem d_Mo_move_105 : decode b_Mo_move 105 = .ok (.iload 4, 2) := by decide +kernel
theorem d_Mo_move_107 : decode b_Mo_move 107 = .ok (.aload_n 0, 1) := by decide +kernel
theorem d_Mo_move_108 : decode b_Mo_move 108 = .ok (.getfield 60, 3) := by decide +kernel
theorem d_Mo_move_111 : decode b_Mo_move 111 = .ok (.iload 4, 2) := by decide +kernel
theorem d_Mo_move_113 : decode b_Mo_move 113 = .ok (.iaload, 1) := by decide +kernel
theorem d_Mo_move_114 : decode b_Mo_move 114 = .ok (.iload_n 3, 1) := by decide +kernel
theorem d_Mo_move_115 : decode b_Mo_move 115 = .ok (.aload_n 0, 1) := by decide +kernel
theorem d_Mo_move_116 : decode b_Mo_move 116 = .ok (.iload 4, 2) := by decide +kernel
theorem d_Mo_move_118 : decode b_Mo_move 118 = .ok (.invokevirtual 145, 3) := by decide +kernel
theorem d_Mo_move_121 : decode b_Mo_move 121 = .ok (.imul, 1) := by decide +kernel
theorem d_Mo_move_122 : decode b_Mo_move 122 = .ok (.aload_n 0, 1) := by decide +kernel
theorem d_Mo_move_123 : decode b_Mo_move 123 = .ok (.getfield 28, 3) := by decide +kernel
theorem d_Mo_move_126 : decode b_Mo_move 126 = .ok (.imul, 1) := by decide +kernel
theorem d_Mo_move_127 : decode b_Mo_move 127 = .ok (.iadd, 1) := by decide +kernel
theorem d_Mo_move_128 : decode b_Mo_move 128 = .ok (.iastore, 1) := by decide +kernel
theorem d_Mo_move_129 : decode b_Mo_move 129 = .ok (.aload_n 0, 1) := by decide +kernel
theorem d_Mo_move_130 : decode b_Mo_move 130 = .ok (.getfield 60, 3) := by decide +kernel
theorem d_Mo_move_133 : decode b_Mo_move 133 = .ok (.iload 4, 2) := by decide +kernel
theorem d_Mo_move_135 : decode b_Mo_move 135 = .ok (.iaload, 1) := by decide +kernel
theorem d_Mo_move_136 : decode b_Mo_move 136 = .ok (.aload_n 0, 1) := by decide +kernel
theorem d_Mo_move_137 : decode b_Mo_move 137 = .ok (.getfield 13, 3) := by decide +kernel
theorem d_Mo_move_140 : decode b_Mo_move 140 = .ok (.iload 4, 2) := by decide +kernel
theorem d_Mo_move_142 : decode b_Mo_move 142 = .ok (.iaload, 1) := by decide +kernel
theorem d_Mo_move_143 : decode b_Mo_move 143 = .ok (.idiv, 1) := by decide +kernel
theorem d_Mo_move_144 : decode b_Mo_move 144 = .ok (.istore 5, 2) := by decide +kernel
theorem d_Mo_move_146 : decode b_Mo_move 146 = .ok (.aload_n 0, 1) := by decide +kernel
theorem d_Mo_move_147 : decode b_Mo_move 147 = .ok (.getfield 57, 3) := by decide +kernel
theorem d_Mo_move_150 : decode b_Mo_move 150 = .ok (.iload 4, 2) := by decide +kernel
theorem d_Mo_move_152 : decode b_Mo_move 152 = .ok (.aload_n 0, 1) := by decide +kernel
theorem d_Mo_move_153 : decode b_Mo_move 153 = .ok (.getfield 57, 3) := by decide +kernel
theorem d_Mo_move_156 : decode b_Mo_move 156 = .ok (.iload 4, 2) := by decide +kernel
theorem d_Mo_move_158 : decode b_Mo_move 158 = .ok (.iaload, 1) := by decide +kernel
theorem d_Mo_move_159 : decode b_Mo_move 159 = .ok (.iload 5, 2) := by decide +kernel
theorem d_Mo_move_161 : decode b_Mo_move 161 = .ok (.iadd, 1) := by decide +kernel
theorem d_Mo_move_162 : decode b_Mo_move 162 = .ok (.bipush 63, 2) := by decide +kernel
theorem d_Mo_move_164 : decode b_Mo_move 164 = .ok (.iand, 1) := by decide +kernel
theorem d_Mo_move_165 : decode b_Mo_move 165 = .ok (.iastore, 1) := by decide +kernel
theorem d_Mo_move_166 : decode b_Mo_move 166 = .ok (.aload_n 0, 1) := by decide +kernel
theorem d_Mo_move_167 : decode b_Mo_move 167 = .ok (.getfield 60, 3) := by decide +kernel
theorem d_Mo_move_170 : decode b_Mo_move 170 = .ok (.iload 4, 2) := by decide +kernel
theorem d_Mo_move_172 : decode b_Mo_move 172 = .ok (.aload_n 0, 1) := by decide +kernel
theorem d_Mo_move_173 : decode b_Mo_move 173 = .ok (.getfield 60, 3) := by decide +kernel
theorem d_Mo_move_176 : decode b_Mo_move 176 = .ok (.iload 4, 2) := by decide +kernel
theorem d_Mo_move_178 : decode b_Mo_move 178 = .ok (.iaload, 1) := by decide +kernel
theorem d_Mo_move_179 : decode b_Mo_move 179 = .ok (.iload 5, 2) := by decide +kernel
theorem d_Mo_move_181 : decode b_Mo_move 181 = .ok (.aload_n 0, 1) := by decide +kernel
theorem d_Mo_move_182 : decode b_Mo_move 182 = .ok (.getfield 13, 3) := by decide +kernel
theorem d_Mo_move_185 : decode b_Mo_move 185 = .ok (.iload 4, 2) := by decide +kernel
theorem d_Mo_move_187 : decode b_Mo_move 187 = .ok (.iaload, 1) := by decide +kernel
theorem d_Mo_move_188 : decode b_Mo_move 188 = .ok (.imul, 1) := by decide +kernel
theorem d_Mo_move_189 : decode b_Mo_move 189 = .ok (.isub, 1) := by decide +kernel
theorem d_Mo_move_190 : decode b_Mo_move 190 = .ok (.iastore, 1) := by decide +kernel
theorem d_Mo_move_191 : decode b_Mo_move 191 = .ok (.aload_n 0, 1) := by decide +kernel
theorem d_Mo_move_192 : decode b_Mo_move 192 = .ok (.iload 4, 2) := by decide +kernel
theorem d_Mo_move_194 : decode b_Mo_move 194 = .ok (.invokevirtual 138, 3) := by decide +kernel
theorem d_Mo_move_197 : decode b_Mo_move 197 = .ok (.iinc 4 1, 3) := by decide +kernel
theorem d_Mo_move_200 : decode b_Mo_move 200 = .ok (.goto (-108), 3) := by decide +kernel
theorem d_Mo_move_203 : decode b_Mo_move 203 = .ok (.aload_n 0, 1) := by decide +kernel
theorem d_Mo_move_204 : decode b_Mo_move 204 = .ok (.dup, 1) := by decide +kernel
theorem d_Mo_move_205 : decode b_Mo_move 205 = .ok (.getfield 122, 3) := by decide +kernel
theorem d_Mo_move_208 : decode b_Mo_move 208 = .ok (.iconst 1, 1) := by decide +kernel
theorem d_Mo_move_209 : decode b_Mo_move 209 = .ok (.iadd, 1) := by decide +kernel
theorem d_Mo_move_210 : decode b_Mo_move 210 = .ok (.putfield 122, 3) := by decide +kernel
theorem d_Mo_move_213 : decode b_Mo_move 213 = .ok (.iconst 1, 1) := by decide +kernel
theorem d_Mo_move_214 : decode b_Mo_move 214 = .ok (.istore 4, 2) := by decide +kernel
theorem d_Mo_move_216 : decode b_Mo_move 216 = .ok (.iload 4, 2) := by decide +kernel
theorem d_Mo_move_218 : decode b_Mo_move 218 = .ok (.aload_n 0, 1) := by decide +kernel
theorem d_Mo_move_219 : decode b_Mo_move 219 = .ok (.getfield 84, 3) := by decide +kernel
theorem d_Mo_move_222 : decode b_Mo_move 222 = .ok (.if_icmp .ge 86, 3) := by decide +kernel
theorem d_Mo_move_225 : decode b_Mo_move 225 = .ok (.aload_n 0, 1) := by decide +kernel
theorem d_Mo_move_226 : decode b_Mo_move 226 = .ok (.iload 4, 2) := by decide +kernel
theorem d_Mo_move_228 : decode b_Mo_move 228 = .ok (.invokevirtual 145, 3) := by decide +kernel
theorem d_Mo_move_231 : decode b_Mo_move 231 = .ok (.istore 5, 2) := by decide +kernel
theorem d_Mo_move_233 : decode b_Mo_move 233 = .ok (.iload 5, 2) := by decide +kernel
theorem d_Mo_move_235 : decode b_Mo_move 235 = .ok (.ifCond .ge 9, 3) := by decide +kernel
theorem d_Mo_move_238 : decode b_Mo_move 238 = .ok (.iload 5, 2) := by decide +kernel
theorem d_Mo_move_240 : decode b_Mo_move 240 = .ok (.ineg, 1) := by decide +kernel
theorem d_Mo_move_241 : decode b_Mo_move 241 = .ok (.goto 5, 3) := by decide +kernel
theorem d_Mo_move_244 : decode b_Mo_move 244 = .ok (.iload 5, 2) := by decide +kernel
theorem d_Mo_move_246 : decode b_Mo_move 246 = .ok (.istore 6, 2) := by decide +kernel
theorem d_Mo_move_248 : decode b_Mo_move 248 = .ok (.aload_n 0, 1) := by decide +kernel
theorem d_Mo_move_249 : decode b_Mo_move 249 = .ok (.getfield 63, 3) := by decide +kernel
theorem d_Mo_move_252 : decode b_Mo_move 252 = .ok (.iload 4, 2) := by decide +kernel
theorem d_Mo_move_254 : decode b_Mo_move 254 = .ok (.iload 6, 2) := by decide +kernel
theorem d_Mo_move_256 : decode b_Mo_move 256 = .ok (.aload_n 0, 1) := by decide +kernel
theorem d_Mo_move_257 : decode b_Mo_move 257 = .ok (.getfield 63, 3) := by decide +kernel
theorem d_Mo_move_260 : decode b_Mo_move 260 = .ok (.iload 4, 2) := by decide +kernel
theorem d_Mo_move_262 : decode b_Mo_move 262 = .ok (.iaload, 1) := by decide +kernel
theorem d_Mo_move_263 : decode b_Mo_move 263 = .ok (.if_icmp .le 8, 3) := by decide +kernel
theorem d_Mo_move_266 : decode b_Mo_move 266 = .ok (.iload 6, 2) := by decide +kernel
theorem d_Mo_move_268 : decode b_Mo_move 268 = .ok (.goto 10, 3) := by decide +kernel
theorem d_Mo_move_271 : decode b_Mo_move 271 = .ok (.aload_n 0, 1) := by decide +kernel
theorem d_Mo_move_272 : decode b_Mo_move 272 = .ok (.getfield 63, 3) := by decide +kernel
theorem d_Mo_move_275 : decode b_Mo_move 275 = .ok (.iload 4, 2) := by decide +kernel
theorem d_Mo_move_277 : decode b_Mo_move 277 = .ok (.iaload, 1) := by decide +kernel
theorem d_Mo_move_278 : decode b_Mo_move 278 = .ok (.iastore, 1) := by decide +kernel
theorem d_Mo_move_279 : decode b_Mo_move 279 = .ok (.aload_n 0, 1) := by decide +kernel
theorem d_Mo_move_280 : decode b_Mo_move 280 = .ok (.aload_n 0, 1) := by decide +kernel
theorem d_Mo_move_281 : decode b_Mo_move 281 = .ok (.getfield 125, 3) := by decide +kernel
theorem d_Mo_move_284 : decode b_Mo_move 284 = .ok (.ifCond .ne 10, 3) := by decide +kernel
theorem d_Mo_move_287 : decode b_Mo_move 287 = .ok (.iload 6, 2) := by decide +kernel
theorem d_Mo_move_289 : decode b_Mo_move 289 = .ok (.bipush 24, 2) := by decide +kernel
theorem d_Mo_move_291 : decode b_Mo_move 291 = .ok (.if_icmp .le 7, 3) := by decide +kernel
theorem d_Mo_move_294 : decode b_Mo_move 294 = .ok (.iconst 1, 1) := by decide +kernel
theorem d_Mo_move_295 : decode b_Mo_move 295 = .ok (.goto 4, 3) := by decide +kernel
theorem d_Mo_move_298 : decode b_Mo_move 298 = .ok (.iconst 0, 1) := by decide +kernel
theorem d_Mo_move_299 : decode b_Mo_move 299 = .ok (.putfield 125, 3) := by decide +kernel
theorem d_Mo_move_302 : decode b_Mo_move 302 = .ok (.iinc 4 1, 3) := by decide +kernel
theorem d_Mo_move_305 : decode b_Mo_move 305 = .ok (.goto (-89), 3) := by decide +kernel
theorem d_Mo_move_308 : decode b_Mo_move 308 = .ok (.aload_n 0, 1) := by decide +kernel
theorem d_Mo_move_309 : decode b_Mo_move 309 = .ok (.invokevirtual 142, 3) := by decide +kernel
theorem d_Mo_move_312 : decode b_Mo_move 312 = .ok (.return_, 1) := by decide +kernel
theorem d_Mo_goOn_0 : decode b_Mo_goOn 0 = .ok (.iconst 0, 1) := by decide +kernel
theorem d_Mo_goOn_1 : decode b_Mo_goOn 1 = .ok (.istore 4, 2) := by decide +kernel
theorem d_Mo_goOn_3 : decode b_Mo_goOn 3 = .ok (.iload 4, 2) := by decide +kernel
theorem d_Mo_goOn_5 : decode b_Mo_goOn 5 = .ok (.iload_n 2, 1) := by decide +kernel
theorem d_Mo_goOn_6 : decode b_Mo_goOn 6 = .ok (.if_icmp .ge 32, 3) := by decide +kernel
theorem d_Mo_goOn_9 : decode b_Mo_goOn 9 = .ok (.aload_n 0, 1) := by decide +kernel
theorem d_Mo_goOn_10 : decode b_Mo_goOn 10 = .ok (.getfield 125, 3) := by decide +kernel
theorem d_Mo_goOn_13 : decode b_Mo_goOn 13 = .ok (.ifCond .ne 25, 3) := by decide +kernel
theorem d_Mo_goOn_16 : decode b_Mo_goOn 16 = .ok (.aload_n 0, 1) := by decide +kernel
theorem d_Mo_goOn_17 : decode b_Mo_goOn 17 = .ok (.getfield 122, 3) := by decide +kernel
theorem d_Mo_goOn_20 : decode b_Mo_goOn 20 = .ok (.sipush 4000, 3) := by decide +kernel
theorem d_Mo_goOn_23 : decode b_Mo_goOn 23 = .ok (.if_icmp .ge 15, 3) := by decide +kernel
theorem d_Mo_goOn_26 : decode b_Mo_goOn 26 = .ok (.aload_n 0, 1) := by decide +kernel
theorem d_Mo_goOn_27 : decode b_Mo_goOn 27 = .ok (.iload_n 1, 1) := by decide +kernel
theorem d_Mo_goOn_28 : decode b_Mo_goOn 28 = .ok (.iload_n 3, 1) := by decide +kernel
theorem d_Mo_goOn_29 : decode b_Mo_goOn 29 = .ok (.invokevirtual 148, 3) := by decide +kernel
theorem d_Mo_goOn_32 : decode b_Mo_goOn 32 = .ok (.iinc 4 1, 3) := by decide +kernel
theorem d_Mo_goOn_35 : decode b_Mo_goOn 35 = .ok (.goto (-32), 3) := by decide +kernel
theorem d_Mo_goOn_38 : decode b_Mo_goOn 38 = .ok (.return_, 1) := by decide +kernel
theorem d_Mo_body_0 : decode b_Mo_body 0 = .ok (.iload_n 1, 1) := by decide +kernel
theorem d_Mo_body_1 : decode b_Mo_body 1 = .ok (.iconst 1, 1) := by decide +kernel
theorem d_Mo_body_2 : decode b_Mo_body 2 = .ok (.sipush 200, 3) := by decide +kernel
theorem d_Mo_body_5 : decode b_Mo_body 5 = .ok (.invokestatic 152, 3) := by decide +kernel
theorem d_Mo_body_8 : decode b_Mo_body 8 = .ok (.ifCond .eq 50, 3) := by decide +kernel
theorem d_Mo_body_11 : decode b_Mo_body 11 = .ok (.iload_n 2, 1) := by decide +kernel
theorem d_Mo_body_12 : decode b_Mo_body 12 = .ok (.iconst 0, 1) := by decide +kernel
theorem d_Mo_body_13 : decode b_Mo_body 13 = .ok (.sipush 200, 3) := by decide +kernel
theorem d_Mo_body_16 : decode b_Mo_body 16 = .ok (.invokestatic 152, 3) := by decide +kernel
theorem d_Mo_body_19 : decode b_Mo_body 19 = .ok (.ifCond .eq 39, 3) := by decide +kernel
theorem d_Mo_body_22 : decode b_Mo_body 22 = .ok (.iload_n 3, 1) := by decide +kernel
theorem d_Mo_body_23 : decode b_Mo_body 23 = .ok (.iconst 0, 1) := by decide +kernel
theorem d_Mo_body_24 : decode b_Mo_body 24 = .ok (.bipush 60, 2) := by decide +kernel
theorem d_Mo_body_26 : decode b_Mo_body 26 = .ok (.invokestatic 152, 3) := by decide +kernel
theorem d_Mo_body_29 : decode b_Mo_body 29 = .ok (.ifCond .eq 29, 3) := by decide +kernel
theorem d_Mo_body_32 : decode b_Mo_body 32 = .ok (.iload 4, 2) := by decide +kernel
theorem d_Mo_body_34 : decode b_Mo_body 34 = .ok (.iconst 0, 1) := by decide +kernel
theorem d_Mo_body_35 : decode b_Mo_body 35 = .ok (.bipush 60, 2) := by decide +kernel
theorem d_Mo_body_37 : decode b_Mo_body 37 = .ok (.invokestatic 152, 3) := by decide +kernel
theorem d_Mo_body_40 : decode b_Mo_body 40 = .ok (.ifCond .eq 18, 3) := by decide +kernel
theorem d_Mo_body_43 : decode b_Mo_body 43 = .ok (.iload 5, 2) := by decide +kernel
theorem d_Mo_body_45 : decode b_Mo_body 45 = .ok (.iconst 1, 1) := by decide +kernel
theorem d_Mo_body_46 : decode b_Mo_body 46 = .ok (.bipush 20, 2) := by decide +kernel
theorem d_Mo_body_48 : decode b_Mo_body 48 = .ok (.invokestatic 152, 3) := by decide +kernel
theorem d_Mo_body_51 : decode b_Mo_body 51 = .ok (.ifCond .eq 7, 3) := by decide +kernel
theorem d_Mo_body_54 : decode b_Mo_body 54 = .ok (.iconst 1, 1) := by decide +kernel
theorem d_Mo_body_55 : decode b_Mo_body 55 = .ok (.goto 4, 3) := by decide +kernel
theorem d_Mo_body_58 : decode b_Mo_body 58 = .ok (.iconst 0, 1) := by decide +kernel
theorem d_Mo_body_59 : decode b_Mo_body 59 = .ok (.istore 6, 2) := by decide +kernel
theorem d_Mo_body_61 : decode b_Mo_body 61 = .ok (.aload_n 0, 1) := by decide +kernel
theorem d_Mo_body_62 : decode b_Mo_body 62 = .ok (.iload 6, 2) := by decide +kernel
theorem d_Mo_body_64 : decode b_Mo_body 64 = .ok (.ifCond .ne 7, 3) := by decide +kernel
theorem d_Mo_body_67 : decode b_Mo_body 67 = .ok (.iconst 1, 1) := by decide +kernel
theorem d_Mo_body_68 : decode b_Mo_body 68 = .ok (.goto 16, 3) := by decide +kernel
theorem d_Mo_body_71 : decode b_Mo_body 71 = .ok (.aload_n 0, 1) := by decide +kernel
theorem d_Mo_body_72 : decode b_Mo_body 72 = .ok (.getfield 84, 3) := by decide +kernel
theorem d_Mo_body_75 : decode b_Mo_body 75 = .ok (.iconst 3, 1) := by decide +kernel
theorem d_Mo_body_76 : decode b_Mo_body 76 = .ok (.if_icmp .ne 7, 3) := by decide +kernel
theorem d_Mo_body_79 : decode b_Mo_body 79 = .ok (.iconst 2, 1) := by decide +kernel
theorem d_Mo_body_80 : decode b_Mo_body 80 = .ok (.goto 4, 3) := by decide +kernel
theorem d_Mo_body_83 : decode b_Mo_body 83 = .ok (.iconst 0, 1) := by decide +kernel
theorem d_Mo_body_84 : decode b_Mo_body 84 = .ok (.putfield 87, 3) := by decide +kernel
theorem d_Mo_body_87 : decode b_Mo_body 87 = .ok (.aload_n 0, 1) := by decide +kernel
theorem d_Mo_body_88 : decode b_Mo_body 88 = .ok (.getfield 87, 3) := by decide +kernel
theorem d_Mo_body_91 : decode b_Mo_body 91 = .ok (.ifCond .le 5, 3) := by decide +kernel
theorem d_Mo_body_94 : decode b_Mo_body 94 = .ok (.iconst 0, 1) := by decide +kernel
theorem d_Mo_body_95 : decode b_Mo_body 95 = .ok (.ireturn, 1) := by decide +kernel
theorem d_Mo_body_96 : decode b_Mo_body 96 = .ok (.aload_n 0, 1) := by decide +kernel
theorem d_Mo_body_97 : decode b_Mo_body 97 = .ok (.getfield 13, 3) := by decide +kernel
theorem d_Mo_body_100 : decode b_Mo_body 100 = .ok (.aload_n 0, 1) := by decide +kernel
theorem d_Mo_body_101 : decode b_Mo_body 101 = .ok (.getfield 84, 3) := by decide +kernel
theorem d_Mo_body_104 : decode b_Mo_body 104 = .ok (.iload_n 1, 1) := by decide +kernel
theorem d_Mo_body_105 : decode b_Mo_body 105 = .ok (.iastore, 1) := by decide +kernel
theorem d_Mo_body_106 : decode b_Mo_body 106 = .ok (.aload_n 0, 1) := by decide +kernel
theorem d_Mo_body_107 : decode b_Mo_body 107 = .ok (.getfield 16, 3) := by decide +kernel
theorem d_Mo_body_110 : decode b_Mo_body 110 = .ok (.aload_n 0, 1) := by decide +kernel
theorem d_Mo_body_111 : decode b_Mo_body 111 = .ok (.getfield 84, 3) := by decide +kernel
theorem d_Mo_body_114 : decode b_Mo_body 114 = .ok (.iload_n 2, 1) := by decide +kernel
theorem d_Mo_body_115 : decode b_Mo_body 115 = .ok (.iastore, 1) := by decide +kernel
theorem d_Mo_body_116 : decode b_Mo_body 116 = .ok (.aload_n 0, 1) := by decide +kernel
theorem d_Mo_body_117 : decode b_Mo_body 117 = .ok (.getfield 19, 3) := by decide +kernel
theorem d_Mo_body_120 : decode b_Mo_body 120 = .ok (.aload_n 0, 1) := by decide +kernel
theorem d_Mo_body_121 : decode b_Mo_body 121 = .ok (.getfield 84, 3) := by decide +kernel
theorem d_Mo_body_124 : decode b_Mo_body 124 = .ok (.iload_n 3, 1) := by decide +kernel
theorem d_Mo_body_125 : decode b_Mo_body 125 = .ok (.iastore, 1) := by decide +kernel
theorem d_Mo_body_126 : decode b_Mo_body 126 = .ok (.aload_n 0, 1) := by decide +kernel
theorem d_Mo_body_127 : decode b_Mo_body 127 = .ok (.getfield 22, 3) := by decide +kernel
theorem d_Mo_body_130 : decode b_Mo_body 130 = .ok (.aload_n 0, 1) := by decide +kernel
theorem d_Mo_body_131 : decode b_Mo_body 131 = .ok (.getfield 84, 3) := by decide +kernel
theorem d_Mo_body_134 : decode b_Mo_body 134 = .ok (.iload 4, 2) := by decide +kernel
theorem d_Mo_body_136 : decode b_Mo_body 136 = .ok (.iastore, 1) := by decide +kernel
theorem d_Mo_body_137 : decode b_Mo_body 137 = .ok (.aload_n 0, 1) := by decide +kernel
theorem d_Mo_body_138 : decode b_Mo_body 138 = .ok (.getfield 25, 3) := by decide +kernel
theorem d_Mo_body_141 : decode b_Mo_body 141 = .ok (.aload_n 0, 1) := by decide +kernel
theorem d_Mo_body_142 : decode b_Mo_body 142 = .ok (.getfield 84, 3) := by decide +kernel
theorem d_Mo_body_145 : decode b_Mo_body 145 = .ok (.iload 5, 2) := by decide +kernel
theorem d_Mo_body_147 : decode b_Mo_body 147 = .ok (.iastore, 1) := by decide +kernel
theorem d_Mo_body_148 : decode b_Mo_body 148 = .ok (.aload_n 0, 1) := by decide +kernel
theorem d_Mo_body_149 : decode b_Mo_body 149 = .ok (.dup, 1) := by decide +kernel
theorem d_Mo_body_150 : decode b_Mo_body 150 = .ok (.getfield 84, 3) := by decide +kernel
theorem d_Mo_body_153 : decode b_Mo_body 153 = .ok (.iconst 1, 1) := by decide +kernel
theorem d_Mo_body_154 : decode b_Mo_body 154 = .ok (.iadd, 1) := by decide +kernel
theorem d_Mo_body_155 : decode b_Mo_body 155 = .ok (.putfield 84, 3) := by decide +kernel
theorem d_Mo_body_158 : decode b_Mo_body 158 = .ok (.aload_n 0, 1) := by decide +kernel
theorem d_Mo_body_159 : decode b_Mo_body 159 = .ok (.invokevirtual 155, 3) := by decide +kernel
theorem d_Mo_body_162 : decode b_Mo_body 162 = .ok (.aload_n 0, 1) := by decide +kernel
theorem d_Mo_body_163 : decode b_Mo_body 163 = .ok (.getfield 84, 3) := by decide +kernel
theorem d_Mo_body_166 : decode b_Mo_body 166 = .ok (.iconst 1, 1) := by decide +kernel
theorem d_Mo_body_167 : decode b_Mo_body 167 = .ok (.isub, 1) := by decide +kernel
theorem d_Mo_body_168 : decode b_Mo_body 168 = .ok (.ireturn, 1) := by decide +kernel
theorem d_Mo_start_0 : decode b_Mo_start 0 = .ok (.aload_n 0, 1) := by decide +kernel
theorem d_Mo_start_1 : decode b_Mo_start 1 = .ok (.iload_n 1, 1) := by decide +kernel
theorem d_Mo_start_2 : decode b_Mo_start 2 = .ok (.sipush (-1000), 3) := by decide +kernel
theorem d_Mo_start_5 : decode b_Mo_start 5 = .ok (.sipush 1000, 3) := by decide +kernel
theorem d_Mo_start_8 : decode b_Mo_start 8 = .ok (.invokestatic 152, 3) := by decide +kernel
theorem d_Mo_start_11 : decode b_Mo_start 11 = .ok (.ifCond .eq 30, 3) := by decide +kernel
theorem d_Mo_start_14 : decode b_Mo_start 14 = .ok (.iload_n 2, 1) := by decide +kernel
theorem d_Mo_start_15 : decode b_Mo_start 15 = .ok (.sipush (-1000), 3) := by decide +kernel
theorem d_Mo_start_18 : decode b_Mo_start 18 = .ok (.sipush 1000, 3) := by decide +kernel
theorem d_Mo_start_21 : decode b_Mo_start 21 = .ok (.invokestatic 152, 3) := by decide +kernel
theorem d_Mo_start_24 : decode b_Mo_start 24 = .ok (.ifCond .eq 17, 3) := by decide +kernel
theorem d_Mo_start_27 : decode b_Mo_start 27 = .ok (.iload_n 3, 1) := by decide +kernel
theorem d_Mo_start_28 : decode b_Mo_start 28 = .ok (.iconst 0, 1) := by decide +kernel
theorem d_Mo_start_29 : decode b_Mo_start 29 = .ok (.bipush 63, 2) := by decide +kernel
theorem d_Mo_start_31 : decode b_Mo_start 31 = .ok (.invokestatic 152, 3) := by decide +kernel
theorem d_Mo_start_34 : decode b_Mo_start 34 = .ok (.ifCond .eq 7, 3) := by decide +kernel
theorem d_Mo_start_37 : decode b_Mo_start 37 = .ok (.iconst 0, 1) := by decide +kernel
theorem d_Mo_start_38 : decode b_Mo_start 38 = .ok (.goto 4, 3) := by decide +kernel
theorem d_Mo_start_41 : decode b_Mo_start 41 = .ok (.iconst 1, 1) := by decide +kernel
theorem d_Mo_start_42 : decode b_Mo_start 42 = .ok (.putfield 87, 3) := by decide +kernel
theorem d_Mo_start_45 : decode b_Mo_start 45 = .ok (.aload_n 0, 1) := by decide +kernel
theorem d_Mo_start_46 : decode b_Mo_start 46 = .ok (.getfield 87, 3) := by decide +kernel
theorem d_Mo_start_49 : decode b_Mo_start 49 = .ok (.ifCond .le 4, 3) := by decide +kernel
theorem d_Mo_start_52 : decode b_Mo_start 52 = .ok (.return_, 1) := by decide +kernel
theorem d_Mo_start_53 : decode b_Mo_start 53 = .ok (.aload_n 0, 1) := by decide +kernel
theorem d_Mo_start_54 : decode b_Mo_start 54 = .ok (.iload_n 1, 1) := by decide +kernel
theorem d_Mo_start_55 : decode b_Mo_start 55 = .ok (.putfield 129, 3) := by decide +kernel
theorem d_Mo_start_58 : decode b_Mo_start 58 = .ok (.aload_n 0, 1) := by decide +kernel
theorem d_Mo_start_59 : decode b_Mo_start 59 = .ok (.iload_n 2, 1) := by decide +kernel
theorem d_Mo_start_60 : decode b_Mo_start 60 = .ok (.putfield 132, 3) := by decide +kernel
theorem d_Mo_start_63 : decode b_Mo_start 63 = .ok (.aload_n 0, 1) := by decide +kernel
theorem d_Mo_start_64 : decode b_Mo_start 64 = .ok (.iload_n 3, 1) := by decide +kernel
theorem d_Mo_start_65 : decode b_Mo_start 65 = .ok (.putfield 135, 3) := by decide +kernel
theorem d_Mo_start_68 : decode b_Mo_start 68 = .ok (.aload_n 0, 1) := by decide +kernel
theorem d_Mo_start_69 : decode b_Mo_start 69 = .ok (.invokevirtual 155, 3) := by decide +kernel
theorem d_Mo_start_72 : decode b_Mo_start 72 = .ok (.return_, 1) := by decide +kernel
theorem d_Mo_step_0 : decode b_Mo_step 0 = .ok (.aload_n 0, 1) := by decide +kernel
theorem d_Mo_step_1 : decode b_Mo_step 1 = .ok (.iload_n 1, 1) := by decide +kernel
theorem d_Mo_step_2 : decode b_Mo_step 2 = .ok (.iconst 1, 1) := by decide +kernel
theorem d_Mo_step_3 : decode b_Mo_step 3 = .ok (.bipush 20, 2) := by decide +kernel
theorem d_Mo_step_5 : decode b_Mo_step 5 = .ok (.invokestatic 152, 3) := by decide +kernel
theorem d_Mo_step_8 : decode b_Mo_step 8 = .ok (.ifCond .eq 7, 3) := by decide +kernel
theorem d_Mo_step_11 : decode b_Mo_step 11 = .ok (.iconst 0, 1) := by decide +kernel
theorem d_Mo_step_12 : decode b_Mo_step 12 = .ok (.goto 4, 3) := by decide +kernel
theorem d_Mo_step_15 : decode b_Mo_step 15 = .ok (.iconst 1, 1) := by decide +kernel
theorem d_Mo_step_16 : decode b_Mo_step 16 = .ok (.putfield 87, 3) := by decide +kernel
theorem d_Mo_step_19 : decode b_Mo_step 19 = .ok (.aload_n 0, 1) := by decide +kernel
theorem d_Mo_step_20 : decode b_Mo_step 20 = .ok (.getfield 87, 3) := by decide +kernel
theorem d_Mo_step_23 : decode b_Mo_step 23 = .ok (.ifCond .le 5, 3) := by decide +kernel
theorem d_Mo_step_26 : decode b_Mo_step 26 = .ok (.iconst 0, 1) := by decide +kernel
theorem d_Mo_step_27 : decode b_Mo_step 27 = .ok (.ireturn, 1) := by decide +kernel
theorem d_Mo_step_28 : decode b_Mo_step 28 = .ok (.aload_n 0, 1) := by decide +kernel
theorem d_Mo_step_29 : decode b_Mo_step 29 = .ok (.getfield 28, 3) := by decide +kernel
theorem d_Mo_step_32 : decode b_Mo_step 32 = .ok (.istore_n 2, 1) := by decide +kernel
theorem d_Mo_step_33 : decode b_Mo_step 33 = .ok (.aload_n 0, 1) := by decide +kernel
theorem d_Mo_step_34 : decode b_Mo_step 34 = .ok (.iload_n 1, 1) := by decide +kernel
theorem d_Mo_step_35 : decode b_Mo_step 35 = .ok (.putfield 28, 3) := by decide +kernel
theorem d_Mo_step_38 : decode b_Mo_step 38 = .ok (.aload_n 0, 1) := by decide +kernel
theorem d_Mo_step_39 : decode b_Mo_step 39 = .ok (.invokevirtual 155, 3) := by decide +kernel
theorem d_Mo_step_42 : decode b_Mo_step 42 = .ok (.iload_n 2, 1) := by decide +kernel
theorem d_Mo_step_43 : decode b_Mo_step 43 = .ok (.ireturn, 1) := by decide +kernel
theorem d_Mo_pole_0 : decode b_Mo_pole 0 = .ok (.aload_n 0, 1) := by decide +kernel
theorem d_Mo_pole_1 : decode b_Mo_pole 1 = .ok (.iload_n 1, 1) := by decide +kernel
theorem d_Mo_pole_2 : decode b_Mo_pole 2 = .ok (.sipush (-1000), 3) := by decide +kernel
theorem d_Mo_pole_5 : decode b_Mo_pole 5 = .ok (.sipush 1000, 3) := by decide +kernel
theorem d_Mo_pole_8 : decode b_Mo_pole 8 = .ok (.invokestatic 152, 3) := by decide +kernel
theorem d_Mo_pole_11 : decode b_Mo_pole 11 = .ok (.ifCond .eq 16, 3) := by decide +kernel
theorem d_Mo_pole_14 : decode b_Mo_pole 14 = .ok (.iload_n 2, 1) := by decide +kernel
theorem d_Mo_pole_15 : decode b_Mo_pole 15 = .ok (.sipush (-1000), 3) := by decide +kernel
theorem d_Mo_pole_18 : decode b_Mo_pole 18 = .ok (.sipush 1000, 3) := by decide +kernel
theorem d_Mo_pole_21 : decode b_Mo_pole 21 = .ok (.invokestatic 152, 3) := by decide +kernel
theorem d_Mo_pole_24 : decode b_Mo_pole 24 = .ok (.ifCond .ne 7, 3) := by decide +kernel
theorem d_Mo_pole_27 : decode b_Mo_pole 27 = .ok (.iconst 1, 1) := by decide +kernel
theorem d_Mo_pole_28 : decode b_Mo_pole 28 = .ok (.goto 17, 3) := by decide +kernel
theorem d_Mo_pole_31 : decode b_Mo_pole 31 = .ok (.aload_n 0, 1) := by decide +kernel
theorem d_Mo_pole_32 : decode b_Mo_pole 32 = .ok (.getfield 119, 3) := by decide +kernel
theorem d_Mo_pole_35 : decode b_Mo_pole 35 = .ok (.bipush 20, 2) := by decide +kernel
theorem d_Mo_pole_37 : decode b_Mo_pole 37 = .ok (.if_icmp .ne 7, 3) := by decide +kernel
theorem d_Mo_pole_40 : decode b_Mo_pole 40 = .ok (.iconst 2, 1) := by decide +kernel
theorem d_Mo_pole_41 : decode b_Mo_pole 41 = .ok (.goto 4, 3) := by decide +kernel
theorem d_Mo_pole_44 : decode b_Mo_pole 44 = .ok (.iconst 0, 1) := by decide +kernel
theorem d_Mo_pole_45 : decode b_Mo_pole 45 = .ok (.putfield 87, 3) := by decide +kernel
theorem d_Mo_pole_48 : decode b_Mo_pole 48 = .ok (.aload_n 0, 1) := by decide +kernel
theorem d_Mo_pole_49 : decode b_Mo_pole 49 = .ok (.getfield 87, 3) := by decide +kernel
theorem d_Mo_pole_52 : decode b_Mo_pole 52 = .ok (.ifCond .le 5, 3) := by decide +kernel
theorem d_Mo_pole_55 : decode b_Mo_pole 55 = .ok (.iconst 0, 1) := by decide +kernel
theorem d_Mo_pole_56 : decode b_Mo_pole 56 = .ok (.ireturn, 1) := by decide +kernel
theorem d_Mo_pole_57 : decode b_Mo_pole 57 = .ok (.aload_n 0, 1) := by decide +kernel
theorem d_Mo_pole_58 : decode b_Mo_pole 58 = .ok (.getfield 32, 3) := by decide +kernel
theorem d_Mo_pole_61 : decode b_Mo_pole 61 = .ok (.aload_n 0, 1) := by decide +kernel
theorem d_Mo_pole_62 : decode b_Mo_pole 62 = .ok (.getfield 119, 3) := by decide +kernel
theorem d_Mo_pole_65 : decode b_Mo_pole 65 = .ok (.iload_n 1, 1) := by decide +kernel
theorem d_Mo_pole_66 : decode b_Mo_pole 66 = .ok (.iastore, 1) := by decide +kernel
theorem d_Mo_pole_67 : decode b_Mo_pole 67 = .ok (.aload_n 0, 1) := by decide +kernel
theorem d_Mo_pole_68 : decode b_Mo_pole 68 = .ok (.getfield 35, 3) := by decide +kernel
theorem d_Mo_pole_71 : decode b_Mo_pole 71 = .ok (.aload_n 0, 1) := by decide +kernel
theorem d_Mo_pole_72 : decode b_Mo_pole 72 = .ok (.getfield 119, 3) := by decide +kernel
theorem d_Mo_pole_75 : decode b_Mo_pole 75 = .ok (.iload_n 2, 1) := by decide +kernel
theorem d_Mo_pole_76 : decode b_Mo_pole 76 = .ok (.iastore, 1) := by decide +kernel
theorem d_Mo_pole_77 : decode b_Mo_pole 77 = .ok (.aload_n 0, 1) := by decide +kernel
theorem d_Mo_pole_78 : decode b_Mo_pole 78 = .ok (.dup, 1) := by decide +kernel
theorem d_Mo_pole_79 : decode b_Mo_pole 79 = .ok (.getfield 119, 3) := by decide +kernel
theorem d_Mo_pole_82 : decode b_Mo_pole 82 = .ok (.iconst 1, 1) := by decide +kernel
theorem d_Mo_pole_83 : decode b_Mo_pole 83 = .ok (.iadd, 1) := by decide +kernel
theorem d_Mo_pole_84 : decode b_Mo_pole 84 = .ok (.putfield 119, 3) := by decide +kernel
theorem d_Mo_pole_87 : decode b_Mo_pole 87 = .ok (.aload_n 0, 1) := by decide +kernel
theorem d_Mo_pole_88 : decode b_Mo_pole 88 = .ok (.getfield 119, 3) := by decide +kernel
theorem d_Mo_pole_91 : decode b_Mo_pole 91 = .ok (.iconst 1, 1) := by decide +kernel
theorem d_Mo_pole_92 : decode b_Mo_pole 92 = .ok (.isub, 1) := by decide +kernel
theorem d_Mo_pole_93 : decode b_Mo_pole 93 = .ok (.ireturn, 1) := by decide +kernel
theorem d_Mo_go_0 : decode b_Mo_go 0 = .ok (.aload_n 0, 1) := by decide +kernel
theorem d_Mo_go_1 : decode b_Mo_go 1 = .ok (.iload_n 1, 1) := by decide +kernel
theorem d_Mo_go_2 : decode b_Mo_go 2 = .ok (.bipush (-3), 2) := by decide +kernel
theorem d_Mo_go_4 : decode b_Mo_go 4 = .ok (.iconst 3, 1) := by decide +kernel
theorem d_Mo_go_5 : decode b_Mo_go 5 = .ok (.invokestatic 152, 3) := by decide +kernel
theorem d_Mo_go_8 : decode b_Mo_go 8 = .ok (.ifCond .eq 14, 3) := by decide +kernel
theorem d_Mo_go_11 : decode b_Mo_go 11 = .ok (.iload_n 2, 1) := by decide +kernel
theorem d_Mo_go_12 : decode b_Mo_go 12 = .ok (.iconst 1, 1) := by decide +kernel
theorem d_Mo_go_13 : decode b_Mo_go 13 = .ok (.sipush 200, 3) := by decide +kernel
theorem d_Mo_go_16 : decode b_Mo_go 16 = .ok (.invokestatic 152, 3) := by decide +kernel
theorem d_Mo_go_19 : decode b_Mo_go 19 = .ok (.ifCond .ne 7, 3) := by decide +kernel
theorem d_Mo_go_22 : decode b_Mo_go 22 = .ok (.iconst 1, 1) := by decide +kernel
theorem d_Mo_go_23 : decode b_Mo_go 23 = .ok (.goto 15, 3) := by decide +kernel
theorem d_Mo_go_26 : decode b_Mo_go 26 = .ok (.aload_n 0, 1) := by decide +kernel
theorem d_Mo_go_27 : decode b_Mo_go 27 = .ok (.getfield 84, 3) := by decide +kernel
theorem d_Mo_go_30 : decode b_Mo_go 30 = .ok (.ifCond .ne 7, 3) := by decide +kernel
theorem d_Mo_go_33 : decode b_Mo_go 33 = .ok (.iconst 2, 1) := by decide +kernel
theorem d_Mo_go_34 : decode b_Mo_go 34 = .ok (.goto 4, 3) := by decide +kernel
theorem d_Mo_go_37 : decode b_Mo_go 37 = .ok (.iconst 0, 1) := by decide +kernel
theorem d_Mo_go_38 : decode b_Mo_go 38 = .ok (.putfield 87, 3) := by decide +kernel
theorem d_Mo_go_41 : decode b_Mo_go 41 = .ok (.aload_n 0, 1) := by decide +kernel
theorem d_Mo_go_42 : decode b_Mo_go 42 = .ok (.getfield 87, 3) := by decide +kernel
theorem d_Mo_go_45 : decode b_Mo_go 45 = .ok (.ifCond .le 5, 3) := by decide +kernel
theorem d_Mo_go_48 : decode b_Mo_go 48 = .ok (.iconst 0, 1) := by decide +kernel
theorem d_Mo_go_49 : decode b_Mo_go 49 = .ok (.ireturn, 1) := by decide +kernel
theorem d_Mo_go_50 : decode b_Mo_go 50 = .ok (.aload_n 0, 1) := by decide +kernel
theorem d_Mo_go_51 : decode b_Mo_go 51 = .ok (.iload_n 1, 1) := by decide +kernel
theorem d_Mo_go_52 : decode b_Mo_go 52 = .ok (.iload_n 2, 1) := by decide +kernel
theorem d_Mo_go_53 : decode b_Mo_go 53 = .ok (.iload_n 3, 1) := by decide +kernel
theorem d_Mo_go_54 : decode b_Mo_go 54 = .ok (.invokevirtual 158, 3) := by decide +kernel
theorem d_Mo_go_57 : decode b_Mo_go 57 = .ok (.aload_n 0, 1) := by decide +kernel
theorem d_Mo_go_58 : decode b_Mo_go 58 = .ok (.getfield 122, 3) := by decide +kernel
theorem d_Mo_go_61 : decode b_Mo_go 61 = .ok (.ireturn, 1) := by decide +kernel
theorem d_Mo_told_0 : decode b_Mo_told 0 = .ok (.aload_n 0, 1) := by decide +kernel
theorem d_Mo_told_1 : decode b_Mo_told 1 = .ok (.iload_n 1, 1) := by decide +kernel
theorem d_Mo_told_2 : decode b_Mo_told 2 = .ok (.iconst 0, 1) := by decide +kernel
theorem d_Mo_told_3 : decode b_Mo_told 3 = .ok (.aload_n 0, 1) := by decide +kernel
theorem d_Mo_told_4 : decode b_Mo_told 4 = .ok (.getfield 84, 3) := by decide +kernel
theorem d_Mo_told_7 : decode b_Mo_told 7 = .ok (.iconst 1, 1) := by decide +kernel
theorem d_Mo_told_8 : decode b_Mo_told 8 = .ok (.isub, 1) := by decide +kernel
theorem d_Mo_told_9 : decode b_Mo_told 9 = .ok (.invokestatic 152, 3) := by decide +kernel
theorem d_Mo_told_12 : decode b_Mo_told 12 = .ok (.ifCond .eq 16, 3) := by decide +kernel
theorem d_Mo_told_15 : decode b_Mo_told 15 = .ok (.iload_n 2, 1) := by decide +kernel
theorem d_Mo_told_16 : decode b_Mo_told 16 = .ok (.iconst 0, 1) := by decide +kernel
theorem d_Mo_told_17 : decode b_Mo_told 17 = .ok (.iconst 4, 1) := by decide +kernel
theorem d_Mo_told_18 : decode b_Mo_told 18 = .ok (.invokestatic 152, 3) := by decide +kernel
theorem d_Mo_told_21 : decode b_Mo_told 21 = .ok (.ifCond .eq 7, 3) := by decide +kernel
theorem d_Mo_told_24 : decode b_Mo_told 24 = .ok (.iconst 0, 1) := by decide +kernel
theorem d_Mo_told_25 : decode b_Mo_told 25 = .ok (.goto 4, 3) := by decide +kernel
theorem d_Mo_told_28 : decode b_Mo_told 28 = .ok (.iconst 1, 1) := by decide +kernel
theorem d_Mo_told_29 : decode b_Mo_told 29 = .ok (.putfield 87, 3) := by decide +kernel
theorem d_Mo_told_32 : decode b_Mo_told 32 = .ok (.aload_n 0, 1) := by decide +kernel
theorem d_Mo_told_33 : decode b_Mo_told 33 = .ok (.getfield 87, 3) := by decide +kernel
theorem d_Mo_told_36 : decode b_Mo_told 36 = .ok (.ifCond .le 5, 3) := by decide +kernel
theorem d_Mo_told_39 : decode b_Mo_told 39 = .ok (.iconst 0, 1) := by decide +kernel
theorem d_Mo_told_40 : decode b_Mo_told 40 = .ok (.ireturn, 1) := by decide +kernel
theorem d_Mo_told_41 : decode b_Mo_told 41 = .ok (.iload_n 2, 1) := by decide +kernel
theorem d_Mo_told_42 : decode b_Mo_told 42 = .ok (.iconst 2, 1) := by decide +kernel
theorem d_Mo_told_43 : decode b_Mo_told 43 = .ok (.if_icmp .ge 23, 3) := by decide +kernel
theorem d_Mo_told_46 : decode b_Mo_told 46 = .ok (.iload_n 2, 1) := by decide +kernel
theorem d_Mo_told_47 : decode b_Mo_told 47 = .ok (.ifCond .ne 12, 3) := by decide +kernel
theorem d_Mo_told_50 : decode b_Mo_told 50 = .ok (.aload_n 0, 1) := by decide +kernel
theorem d_Mo_told_51 : decode b_Mo_told 51 = .ok (.getfield 51, 3) := by decide +kernel
theorem d_Mo_told_54 : decode b_Mo_told 54 = .ok (.iload_n 1, 1) := by decide +kernel
theorem d_Mo_told_55 : decode b_Mo_told 55 = .ok (.iaload, 1) := by decide +kernel
theorem d_Mo_told_56 : decode b_Mo_told 56 = .ok (.goto 9, 3) := by decide +kernel
theorem d_Mo_told_59 : decode b_Mo_told 59 = .ok (.aload_n 0, 1) := by decide +kernel
theorem d_Mo_told_60 : decode b_Mo_told 60 = .ok (.getfield 54, 3) := by decide +kernel
theorem d_Mo_told_63 : decode b_Mo_told 63 = .ok (.iload_n 1, 1) := by decide +kernel
theorem d_Mo_told_64 : decode b_Mo_told 64 = .ok (.iaload, 1) := by decide +kernel
theorem d_Mo_told_65 : decode b_Mo_told 65 = .ok (.ireturn, 1) := by decide +kernel
theorem d_Mo_told_66 : decode b_Mo_told 66 = .ok (.iload_n 2, 1) := by decide +kernel
theorem d_Mo_told_67 : decode b_Mo_told 67 = .ok (.iconst 2, 1) := by decide +kernel
theorem d_Mo_told_68 : decode b_Mo_told 68 = .ok (.if_icmp .ne 12, 3) := by decide +kernel
theorem d_Mo_told_71 : decode b_Mo_told 71 = .ok (.aload_n 0, 1) := by decide +kernel
theorem d_Mo_told_72 : decode b_Mo_told 72 = .ok (.getfield 57, 3) := by decide +kernel
theorem d_Mo_told_75 : decode b_Mo_told 75 = .ok (.iload_n 1, 1) := by decide +kernel
theorem d_Mo_told_76 : decode b_Mo_told 76 = .ok (.iaload, 1) := by decide +kernel
theorem d_Mo_told_77 : decode b_Mo_told 77 = .ok (.goto 22, 3) := by decide +kernel
theorem d_Mo_told_80 : decode b_Mo_told 80 = .ok (.iload_n 2, 1) := by decide +kernel
theorem d_Mo_told_81 : decode b_Mo_told 81 = .ok (.iconst 3, 1) := by decide +kernel
theorem d_Mo_told_82 : decode b_Mo_told 82 = .ok (.if_icmp .ne 11, 3) := by decide +kernel
theorem d_Mo_told_85 : decode b_Mo_told 85 = .ok (.aload_n 0, 1) := by decide +kernel
theorem d_Mo_told_86 : decode b_Mo_told 86 = .ok (.iload_n 1, 1) := by decide +kernel
theorem d_Mo_told_87 : decode b_Mo_told 87 = .ok (.invokevirtual 145, 3) := by decide +kernel
theorem d_Mo_told_90 : decode b_Mo_told 90 = .ok (.goto 9, 3) := by decide +kernel
theorem d_Mo_told_93 : decode b_Mo_told 93 = .ok (.aload_n 0, 1) := by decide +kernel
theorem d_Mo_told_94 : decode b_Mo_told 94 = .ok (.getfield 63, 3) := by decide +kernel
theorem d_Mo_told_97 : decode b_Mo_told 97 = .ok (.iload_n 1, 1) := by decide +kernel
theorem d_Mo_told_98 : decode b_Mo_told 98 = .ok (.iaload, 1) := by decide +kernel
theorem d_Mo_told_99 : decode b_Mo_told 99 = .ok (.ireturn, 1) := by decide +kernel
theorem d_Mo_corner_0 : decode b_Mo_corner 0 = .ok (.aload_n 0, 1) := by decide +kernel
theorem d_Mo_corner_1 : decode b_Mo_corner 1 = .ok (.iload_n 1, 1) := by decide +kernel
theorem d_Mo_corner_2 : decode b_Mo_corner 2 = .ok (.iconst 0, 1) := by decide +kernel
theorem d_Mo_corner_3 : decode b_Mo_corner 3 = .ok (.aload_n 0, 1) := by decide +kernel
theorem d_Mo_corner_4 : decode b_Mo_corner 4 = .ok (.getfield 84, 3) := by decide +kernel
theorem d_Mo_corner_7 : decode b_Mo_corner 7 = .ok (.iconst 1, 1) := by decide +kernel
theorem d_Mo_corner_8 : decode b_Mo_corner 8 = .ok (.isub, 1) := by decide +kernel
theorem d_Mo_corner_9 : decode b_Mo_corner 9 = .ok (.invokestatic 152, 3) := by decide +kernel
theorem d_Mo_corner_12 : decode b_Mo_corner 12 = .ok (.ifCond .eq 25, 3) := by decide +kernel
theorem d_Mo_corner_15 : decode b_Mo_corner 15 = .ok (.iload_n 2, 1) := by decide +kernel
theorem d_Mo_corner_16 : decode b_Mo_corner 16 = .ok (.iconst 0, 1) := by decide +kernel
theorem d_Mo_corner_17 : decode b_Mo_corner 17 = .ok (.iconst 3, 1) := by decide +kernel
theorem d_Mo_corner_18 : decode b_Mo_corner 18 = .ok (.invokestatic 152, 3) := by decide +kernel
theorem d_Mo_corner_21 : decode b_Mo_corner 21 = .ok (.ifCond .eq 16, 3) := by decide +kernel
theorem d_Mo_corner_24 : decode b_Mo_corner 24 = .ok (.iload_n 3, 1) := by decide +kernel
theorem d_Mo_corner_25 : decode b_Mo_corner 25 = .ok (.iconst 0, 1) := by decide +kernel
theorem d_Mo_corner_26 : decode b_Mo_corner 26 = .ok (.iconst 1, 1) := by decide +kernel
theorem d_Mo_corner_27 : decode b_Mo_corner 27 = .ok (.invokestatic 152, 3) := by decide +kernel
theorem d_Mo_corner_30 : decode b_Mo_corner 30 = .ok (.ifCond .eq 7, 3) := by decide +kernel
theorem d_Mo_corner_33 : decode b_Mo_corner 33 = .ok (.iconst 0, 1) := by decide +kernel
theorem d_Mo_corner_34 : decode b_Mo_corner 34 = .ok (.goto 4, 3) := by decide +kernel
theorem d_Mo_corner_37 : decode b_Mo_corner 37 = .ok (.iconst 1, 1) := by decide +kernel
theorem d_Mo_corner_38 : decode b_Mo_corner 38 = .ok (.putfield 87, 3) := by decide +kernel
theorem d_Mo_corner_41 : decode b_Mo_corner 41 = .ok (.aload_n 0, 1) := by decide +kernel
theorem d_Mo_corner_42 : decode b_Mo_corner 42 = .ok (.getfield 87, 3) := by decide +kernel
theorem d_Mo_corner_45 : decode b_Mo_corner 45 = .ok (.ifCond .le 5, 3) := by decide +kernel
theorem d_Mo_corner_48 : decode b_Mo_corner 48 = .ok (.iconst 0, 1) := by decide +kernel
theorem d_Mo_corner_49 : decode b_Mo_corner 49 = .ok (.ireturn, 1) := by decide +kernel
theorem d_Mo_corner_50 : decode b_Mo_corner 50 = .ok (.iload_n 2, 1) := by decide +kernel
theorem d_Mo_corner_51 : decode b_Mo_corner 51 = .ok (.iconst 2, 1) := by decide +kernel
theorem d_Mo_corner_52 : decode b_Mo_corner 52 = .ok (.if_icmp .ge 12, 3) := by decide +kernel
theorem d_Mo_corner_55 : decode b_Mo_corner 55 = .ok (.aload_n 0, 1) := by decide +kernel
theorem d_Mo_corner_56 : decode b_Mo_corner 56 = .ok (.getfield 19, 3) := by decide +kernel
theorem d_Mo_corner_59 : decode b_Mo_corner 59 = .ok (.iload_n 1, 1) := by decide +kernel
theorem d_Mo_corner_60 : decode b_Mo_corner 60 = .ok (.iaload, 1) := by decide +kernel
theorem d_Mo_corner_61 : decode b_Mo_corner 61 = .ok (.goto 10, 3) := by decide +kernel
theorem d_Mo_corner_64 : decode b_Mo_corner 64 = .ok (.aload_n 0, 1) := by decide +kernel
theorem d_Mo_corner_65 : decode b_Mo_corner 65 = .ok (.getfield 22, 3) := by decide +kernel
theorem d_Mo_corner_68 : decode b_Mo_corner 68 = .ok (.iload_n 1, 1) := by decide +kernel
theorem d_Mo_corner_69 : decode b_Mo_corner 69 = .ok (.iaload, 1) := by decide +kernel
theorem d_Mo_corner_70 : decode b_Mo_corner 70 = .ok (.ineg, 1) := by decide +kernel
theorem d_Mo_corner_71 : decode b_Mo_corner 71 = .ok (.istore 4, 2) := by decide +kernel
theorem d_Mo_corner_73 : decode b_Mo_corner 73 = .ok (.iload_n 2, 1) := by decide +kernel
theorem d_Mo_corner_74 : decode b_Mo_corner 74 = .ok (.ifCond .eq 8, 3) := by decide +kernel
theorem d_Mo_corner_77 : decode b_Mo_corner 77 = .ok (.iload_n 2, 1) := by decide +kernel
theorem d_Mo_corner_78 : decode b_Mo_corner 78 = .ok (.iconst 3, 1) := by decide +kernel
theorem d_Mo_corner_79 : decode b_Mo_corner 79 = .ok (.if_icmp .ne 12, 3) := by decide +kernel
theorem d_Mo_corner_82 : decode b_Mo_corner 82 = .ok (.aload_n 0, 1) := by decide +kernel
theorem d_Mo_corner_83 : decode b_Mo_corner 83 = .ok (.getfield 25, 3) := by decide +kernel
theorem d_Mo_corner_86 : decode b_Mo_corner 86 = .ok (.iload_n 1, 1) := by decide +kernel
theorem d_Mo_corner_87 : decode b_Mo_corner 87 = .ok (.iaload, 1) := by decide +kernel
theorem d_Mo_corner_88 : decode b_Mo_corner 88 = .ok (.goto 10, 3) := by decide +kernel
theorem d_Mo_corner_91 : decode b_Mo_corner 91 = .ok (.aload_n 0, 1) := by decide +kernel
theorem d_Mo_corner_92 : decode b_Mo_corner 92 = .ok (.getfield 25, 3) := by decide +kernel
theorem d_Mo_corner_95 : decode b_Mo_corner 95 = .ok (.iload_n 1, 1) := by decide +kernel
theorem d_Mo_corner_96 : decode b_Mo_corner 96 = .ok (.iaload, 1) := by decide +kernel
theorem d_Mo_corner_97 : decode b_Mo_corner 97 = .ok (.ineg, 1) := by decide +kernel
theorem d_Mo_corner_98 : decode b_Mo_corner 98 = .ok (.istore 5, 2) := by decide +kernel
theorem d_Mo_corner_100 : decode b_Mo_corner 100 = .ok (.aload_n 0, 1) := by decide +kernel
theorem d_Mo_corner_101 : decode b_Mo_corner 101 = .ok (.aload_n 0, 1) := by decide +kernel
theorem d_Mo_corner_102 : decode b_Mo_corner 102 = .ok (.getfield 57, 3) := by decide +kernel
theorem d_Mo_corner_105 : decode b_Mo_corner 105 = .ok (.iload_n 1, 1) := by decide +kernel
theorem d_Mo_corner_106 : decode b_Mo_corner 106 = .ok (.iaload, 1) := by decide +kernel
theorem d_Mo_corner_107 : decode b_Mo_corner 107 = .ok (.invokevirtual 90, 3) := by decide +kernel
theorem d_Mo_corner_110 : decode b_Mo_corner 110 = .ok (.istore 6, 2) := by decide +kernel
theorem d_Mo_corner_112 : decode b_Mo_corner 112 = .ok (.aload_n 0, 1) := by decide +kernel
theorem d_Mo_corner_113 : decode b_Mo_corner 113 = .ok (.aload_n 0, 1) := by decide +kernel
theorem d_Mo_corner_114 : decode b_Mo_corner 114 = .ok (.getfield 57, 3) := by decide +kernel
theorem d_Mo_corner_117 : decode b_Mo_corner 117 = .ok (.iload_n 1, 1) := by decide +kernel
theorem d_Mo_corner_118 : decode b_Mo_corner 118 = .ok (.iaload, 1) := by decide +kernel
theorem d_Mo_corner_119 : decode b_Mo_corner 119 = .ok (.invokevirtual 97, 3) := by decide +kernel
theorem d_Mo_corner_122 : decode b_Mo_corner 122 = .ok (.istore 7, 2) := by decide +kernel
theorem d_Mo_corner_124 : decode b_Mo_corner 124 = .ok (.iload_n 3, 1) := by decide +kernel
theorem d_Mo_corner_125 : decode b_Mo_corner 125 = .ok (.ifCond .ne 24, 3) := by decide +kernel
theorem d_Mo_corner_128 : decode b_Mo_corner 128 = .ok (.aload_n 0, 1) := by decide +kernel
theorem d_Mo_corner_129 : decode b_Mo_corner 129 = .ok (.getfield 51, 3) := by decide +kernel
theorem d_Mo_corner_132 : decode b_Mo_corner 132 = .ok (.iload_n 1, 1) := by decide +kernel
theorem d_Mo_corner_133 : decode b_Mo_corner 133 = .ok (.iaload, 1) := by decide +kernel
theorem d_Mo_corner_134 : decode b_Mo_corner 134 = .ok (.iload 4, 2) := by decide +kernel
theorem d_Mo_corner_136 : decode b_Mo_corner 136 = .ok (.iload 6, 2) := by decide +kernel
theorem d_Mo_corner_138 : decode b_Mo_corner 138 = .ok (.imul, 1) := by decide +kernel
theorem d_Mo_corner_139 : decode b_Mo_corner 139 = .ok (.iadd, 1) := by decide +kernel
theorem d_Mo_corner_140 : decode b_Mo_corner 140 = .ok (.iload 5, 2) := by decide +kernel
theorem d_Mo_corner_142 : decode b_Mo_corner 142 = .ok (.iload 7, 2) := by decide +kernel
theorem d_Mo_corner_144 : decode b_Mo_corner 144 = .ok (.imul, 1) := by decide +kernel
theorem d_Mo_corner_145 : decode b_Mo_corner 145 = .ok (.isub, 1) := by decide +kernel
theorem d_Mo_corner_146 : decode b_Mo_corner 146 = .ok (.goto 21, 3) := by decide +kernel
theorem d_Mo_corner_149 : decode b_Mo_corner 149 = .ok (.aload_n 0, 1) := by decide +kernel
theorem d_Mo_corner_150 : decode b_Mo_corner 150 = .ok (.getfield 54, 3) := by decide +kernel
theorem d_Mo_corner_153 : decode b_Mo_corner 153 = .ok (.iload_n 1, 1) := by decide +kernel
theorem d_Mo_corner_154 : decode b_Mo_corner 154 = .ok (.iaload, 1) := by decide +kernel
theorem d_Mo_corner_155 : decode b_Mo_corner 155 = .ok (.iload 4, 2) := by decide +kernel
theorem d_Mo_corner_157 : decode b_Mo_corner 157 = .ok (.iload 7, 2) := by decide +kernel
theorem d_Mo_corner_159 : decode b_Mo_corner 159 = .ok (.imul, 1) := by decide +kernel
theorem d_Mo_corner_160 : decode b_Mo_corner 160 = .ok (.iadd, 1) := by decide +kernel
theorem d_Mo_corner_161 : decode b_Mo_corner 161 = .ok (.iload 5, 2) := by decide +kernel
theorem d_Mo_corner_163 : decode b_Mo_corner 163 = .ok (.iload 6, 2) := by decide +kernel
theorem d_Mo_corner_165 : decode b_Mo_corner 165 = .ok (.imul, 1) := by decide +kernel
theorem d_Mo_corner_166 : decode b_Mo_corner 166 = .ok (.iadd, 1) := by decide +kernel
theorem d_Mo_corner_167 : decode b_Mo_corner 167 = .ok (.ireturn, 1) := by decide +kernel
theorem d_Mo_swept_0 : decode b_Mo_swept 0 = .ok (.aload_n 0, 1) := by decide +kernel
theorem d_Mo_swept_1 : decode b_Mo_swept 1 = .ok (.iconst 0, 1) := by decide +kernel
theorem d_Mo_swept_2 : decode b_Mo_swept 2 = .ok (.putfield 87, 3) := by decide +kernel
theorem d_Mo_swept_5 : decode b_Mo_swept 5 = .ok (.aload_n 0, 1) := by decide +kernel
theorem d_Mo_swept_6 : decode b_Mo_swept 6 = .ok (.getfield 116, 3) := by decide +kernel
theorem d_Mo_swept_9 : decode b_Mo_swept 9 = .ok (.ireturn, 1) := by decide +kernel
theorem d_Mo_cell_0 : decode b_Mo_cell 0 = .ok (.aload_n 0, 1) := by decide +kernel
theorem d_Mo_cell_1 : decode b_Mo_cell 1 = .ok (.iload_n 1, 1) := by decide +kernel
theorem d_Mo_cell_2 : decode b_Mo_cell 2 = .ok (.bipush (-32), 2) := by decide +kernel
theorem d_Mo_cell_4 : decode b_Mo_cell 4 = .ok (.bipush 31, 2) := by decide +kernel
theorem d_Mo_cell_6 : decode b_Mo_cell 6 = .ok (.invokestatic 152, 3) := by decide +kernel
theorem d_Mo_cell_9 : decode b_Mo_cell 9 = .ok (.ifCond .eq 18, 3) := by decide +kernel
theorem d_Mo_cell_12 : decode b_Mo_cell 12 = .ok (.iload_n 2, 1) := by decide +kernel
theorem d_Mo_cell_13 : decode b_Mo_cell 13 = .ok (.bipush (-32), 2) := by decide +kernel
theorem d_Mo_cell_15 : decode b_Mo_cell 15 = .ok (.bipush 31, 2) := by decide +kernel
theorem d_Mo_cell_17 : decode b_Mo_cell 17 = .ok (.invokestatic 152, 3) := by decide +kernel
theorem d_Mo_cell_20 : decode b_Mo_cell 20 = .ok (.ifCond .eq 7, 3) := by decide +kernel
theorem d_Mo_cell_23 : decode b_Mo_cell 23 = .ok (.iconst 0, 1) := by decide +kernel
theorem d_Mo_cell_24 : decode b_Mo_cell 24 = .ok (.goto 4, 3) := by decide +kernel
theorem d_Mo_cell_27 : decode b_Mo_cell 27 = .ok (.iconst 1, 1) := by decide +kernel
theorem d_Mo_cell_28 : decode b_Mo_cell 28 = .ok (.putfield 87, 3) := by decide +kernel
theorem d_Mo_cell_31 : decode b_Mo_cell 31 = .ok (.aload_n 0, 1) := by decide +kernel
theorem d_Mo_cell_32 : decode b_Mo_cell 32 = .ok (.getfield 87, 3) := by decide +kernel
theorem d_Mo_cell_35 : decode b_Mo_cell 35 = .ok (.ifCond .ne 27, 3) := by decide +kernel
theorem d_Mo_cell_38 : decode b_Mo_cell 38 = .ok (.aload_n 0, 1) := by decide +kernel
theorem d_Mo_cell_39 : decode b_Mo_cell 39 = .ok (.getfield 75, 3) := by decide +kernel
theorem d_Mo_cell_42 : decode b_Mo_cell 42 = .ok (.bipush 64, 2) := by decide +kernel
theorem d_Mo_cell_44 : decode b_Mo_cell 44 = .ok (.iload_n 1, 1) := by decide +kernel
theorem d_Mo_cell_45 : decode b_Mo_cell 45 = .ok (.bipush 32, 2) := by decide +kernel
end
section
theorem d_Mo_cell_47 : decode b_Mo_cell 47 = .ok (.iadd, 1) := by decide +kernel
theorem d_Mo_cell_48 : decode b_Mo_cell 48 = .ok (.imul, 1) := by decide +kernel
theorem d_Mo_cell_49 : decode b_Mo_cell 49 = .ok (.iload_n 2, 1) := by decide +kernel
theorem d_Mo_cell_50 : decode b_Mo_cell 50 = .ok (.iadd, 1) := by decide +kernel
theorem d_Mo_cell_51 : decode b_Mo_cell 51 = .ok (.bipush 32, 2) := by decide +kernel
theorem d_Mo_cell_53 : decode b_Mo_cell 53 = .ok (.iadd, 1) := by decide +kernel
theorem d_Mo_cell_54 : decode b_Mo_cell 54 = .ok (.baload, 1) := by decide +kernel
theorem d_Mo_cell_55 : decode b_Mo_cell 55 = .ok (.ifCond .eq 7, 3) := by decide +kernel
theorem d_Mo_cell_58 : decode b_Mo_cell 58 = .ok (.iconst 1, 1) := by decide +kernel
theorem d_Mo_cell_59 : decode b_Mo_cell 59 = .ok (.goto 4, 3) := by decide +kernel
theorem d_Mo_cell_62 : decode b_Mo_cell 62 = .ok (.iconst 0, 1) := by decide +kernel
theorem d_Mo_cell_63 : decode b_Mo_cell 63 = .ok (.ireturn, 1) := by decide +kernel
theorem d_Mo_clash_0 : decode b_Mo_clash 0 = .ok (.aload_n 0, 1) := by decide +kernel
theorem d_Mo_clash_1 : decode b_Mo_clash 1 = .ok (.iload_n 1, 1) := by decide +kernel
theorem d_Mo_clash_2 : decode b_Mo_clash 2 = .ok (.iconst 0, 1) := by decide +kernel
theorem d_Mo_clash_3 : decode b_Mo_clash 3 = .ok (.iconst 2, 1) := by decide +kernel
theorem d_Mo_clash_4 : decode b_Mo_clash 4 = .ok (.invokestatic 152, 3) := by decide +kernel
theorem d_Mo_clash_7 : decode b_Mo_clash 7 = .ok (.ifCond .eq 7, 3) := by decide +kernel
theorem d_Mo_clash_10 : decode b_Mo_clash 10 = .ok (.iconst 0, 1) := by decide +kernel
theorem d_Mo_clash_11 : decode b_Mo_clash 11 = .ok (.goto 4, 3) := by decide +kernel
theorem d_Mo_clash_14 : decode b_Mo_clash 14 = .ok (.iconst 1, 1) := by decide +kernel
theorem d_Mo_clash_15 : decode b_Mo_clash 15 = .ok (.putfield 87, 3) := by decide +kernel
theorem d_Mo_clash_18 : decode b_Mo_clash 18 = .ok (.aload_n 0, 1) := by decide +kernel
theorem d_Mo_clash_19 : decode b_Mo_clash 19 = .ok (.getfield 87, 3) := by decide +kernel
theorem d_Mo_clash_22 : decode b_Mo_clash 22 = .ok (.ifCond .le 5, 3) := by decide +kernel
theorem d_Mo_clash_25 : decode b_Mo_clash 25 = .ok (.iconst 0, 1) := by decide +kernel
theorem d_Mo_clash_26 : decode b_Mo_clash 26 = .ok (.ireturn, 1) := by decide +kernel
theorem d_Mo_clash_27 : decode b_Mo_clash 27 = .ok (.iload_n 1, 1) := by decide +kernel
theorem d_Mo_clash_28 : decode b_Mo_clash 28 = .ok (.ifCond .ne 10, 3) := by decide +kernel
theorem d_Mo_clash_31 : decode b_Mo_clash 31 = .ok (.aload_n 0, 1) := by decide +kernel
theorem d_Mo_clash_32 : decode b_Mo_clash 32 = .ok (.getfield 66, 3) := by decide +kernel
theorem d_Mo_clash_35 : decode b_Mo_clash 35 = .ok (.goto 19, 3) := by decide +kernel
theorem d_Mo_clash_38 : decode b_Mo_clash 38 = .ok (.iload_n 1, 1) := by decide +kernel
theorem d_Mo_clash_39 : decode b_Mo_clash 39 = .ok (.iconst 1, 1) := by decide +kernel
theorem d_Mo_clash_40 : decode b_Mo_clash 40 = .ok (.if_icmp .ne 10, 3) := by decide +kernel
theorem d_Mo_clash_43 : decode b_Mo_clash 43 = .ok (.aload_n 0, 1) := by decide +kernel
theorem d_Mo_clash_44 : decode b_Mo_clash 44 = .ok (.getfield 69, 3) := by decide +kernel
theorem d_Mo_clash_47 : decode b_Mo_clash 47 = .ok (.goto 7, 3) := by decide +kernel
theorem d_Mo_clash_50 : decode b_Mo_clash 50 = .ok (.aload_n 0, 1) := by decide +kernel
theorem d_Mo_clash_51 : decode b_Mo_clash 51 = .ok (.getfield 72, 3) := by decide +kernel
theorem d_Mo_clash_54 : decode b_Mo_clash 54 = .ok (.ireturn, 1) := by decide +kernel
theorem d_Mo_isStuck_0 : decode b_Mo_isStuck 0 = .ok (.aload_n 0, 1) := by decide +kernel
theorem d_Mo_isStuck_1 : decode b_Mo_isStuck 1 = .ok (.iconst 0, 1) := by decide +kernel
theorem d_Mo_isStuck_2 : decode b_Mo_isStuck 2 = .ok (.putfield 87, 3) := by decide +kernel
theorem d_Mo_isStuck_5 : decode b_Mo_isStuck 5 = .ok (.aload_n 0, 1) := by decide +kernel
theorem d_Mo_isStuck_6 : decode b_Mo_isStuck 6 = .ok (.getfield 125, 3) := by decide +kernel
theorem d_Mo_isStuck_9 : decode b_Mo_isStuck 9 = .ok (.ireturn, 1) := by decide +kernel
theorem d_Mo_part_0 : decode b_Mo_part 0 = .ok (.aload_n 0, 1) := by decide +kernel
theorem d_Mo_part_1 : decode b_Mo_part 1 = .ok (.iload_n 1, 1) := by decide +kernel
theorem d_Mo_part_2 : decode b_Mo_part 2 = .ok (.iconst 0, 1) := by decide +kernel
theorem d_Mo_part_3 : decode b_Mo_part 3 = .ok (.iconst 3, 1) := by decide +kernel
theorem d_Mo_part_4 : decode b_Mo_part 4 = .ok (.invokestatic 152, 3) := by decide +kernel
theorem d_Mo_part_7 : decode b_Mo_part 7 = .ok (.ifCond .eq 23, 3) := by decide +kernel
theorem d_Mo_part_10 : decode b_Mo_part 10 = .ok (.iload_n 2, 1) := by decide +kernel
theorem d_Mo_part_11 : decode b_Mo_part 11 = .ok (.bipush (-3), 2) := by decide +kernel
theorem d_Mo_part_13 : decode b_Mo_part 13 = .ok (.iconst 3, 1) := by decide +kernel
theorem d_Mo_part_14 : decode b_Mo_part 14 = .ok (.invokestatic 152, 3) := by decide +kernel
theorem d_Mo_part_17 : decode b_Mo_part 17 = .ok (.ifCond .eq 13, 3) := by decide +kernel
theorem d_Mo_part_20 : decode b_Mo_part 20 = .ok (.iload_n 3, 1) := by decide +kernel
theorem d_Mo_part_21 : decode b_Mo_part 21 = .ok (.iconst 1, 1) := by decide +kernel
theorem d_Mo_part_22 : decode b_Mo_part 22 = .ok (.bipush 60, 2) := by decide +kernel
theorem d_Mo_part_24 : decode b_Mo_part 24 = .ok (.invokestatic 152, 3) := by decide +kernel
theorem d_Mo_part_27 : decode b_Mo_part 27 = .ok (.ifCond .ne 7, 3) := by decide +kernel
theorem d_Mo_part_30 : decode b_Mo_part 30 = .ok (.iconst 1, 1) := by decide +kernel
theorem d_Mo_part_31 : decode b_Mo_part 31 = .ok (.goto 19, 3) := by decide +kernel
theorem d_Mo_part_34 : decode b_Mo_part 34 = .ok (.aload_n 0, 1) := by decide +kernel
theorem d_Mo_part_35 : decode b_Mo_part 35 = .ok (.getfield 38, 3) := by decide +kernel
theorem d_Mo_part_38 : decode b_Mo_part 38 = .ok (.iload_n 1, 1) := by decide +kernel
theorem d_Mo_part_39 : decode b_Mo_part 39 = .ok (.iaload, 1) := by decide +kernel
theorem d_Mo_part_40 : decode b_Mo_part 40 = .ok (.bipush 6, 2) := by decide +kernel
theorem d_Mo_part_42 : decode b_Mo_part 42 = .ok (.if_icmp .ne 7, 3) := by decide +kernel
theorem d_Mo_part_45 : decode b_Mo_part 45 = .ok (.iconst 2, 1) := by decide +kernel
theorem d_Mo_part_46 : decode b_Mo_part 46 = .ok (.goto 4, 3) := by decide +kernel
theorem d_Mo_part_49 : decode b_Mo_part 49 = .ok (.iconst 0, 1) := by decide +kernel
theorem d_Mo_part_50 : decode b_Mo_part 50 = .ok (.putfield 87, 3) := by decide +kernel
theorem d_Mo_part_53 : decode b_Mo_part 53 = .ok (.aload_n 0, 1) := by decide +kernel
theorem d_Mo_part_54 : decode b_Mo_part 54 = .ok (.getfield 87, 3) := by decide +kernel
theorem d_Mo_part_57 : decode b_Mo_part 57 = .ok (.ifCond .le 5, 3) := by decide +kernel
theorem d_Mo_part_60 : decode b_Mo_part 60 = .ok (.iconst 0, 1) := by decide +kernel
theorem d_Mo_part_61 : decode b_Mo_part 61 = .ok (.ireturn, 1) := by decide +kernel
theorem d_Mo_part_62 : decode b_Mo_part 62 = .ok (.bipush 6, 2) := by decide +kernel
theorem d_Mo_part_64 : decode b_Mo_part 64 = .ok (.iload_n 1, 1) := by decide +kernel
theorem d_Mo_part_65 : decode b_Mo_part 65 = .ok (.imul, 1) := by decide +kernel
theorem d_Mo_part_66 : decode b_Mo_part 66 = .ok (.aload_n 0, 1) := by decide +kernel
theorem d_Mo_part_67 : decode b_Mo_part 67 = .ok (.getfield 38, 3) := by decide +kernel
theorem d_Mo_part_70 : decode b_Mo_part 70 = .ok (.iload_n 1, 1) := by decide +kernel
theorem d_Mo_part_71 : decode b_Mo_part 71 = .ok (.iaload, 1) := by decide +kernel
theorem d_Mo_part_72 : decode b_Mo_part 72 = .ok (.iadd, 1) := by decide +kernel
theorem d_Mo_part_73 : decode b_Mo_part 73 = .ok (.istore 5, 2) := by decide +kernel
theorem d_Mo_part_75 : decode b_Mo_part 75 = .ok (.aload_n 0, 1) := by decide +kernel
theorem d_Mo_part_76 : decode b_Mo_part 76 = .ok (.getfield 41, 3) := by decide +kernel
theorem d_Mo_part_79 : decode b_Mo_part 79 = .ok (.iload 5, 2) := by decide +kernel
theorem d_Mo_part_81 : decode b_Mo_part 81 = .ok (.iload_n 2, 1) := by decide +kernel
theorem d_Mo_part_82 : decode b_Mo_part 82 = .ok (.iastore, 1) := by decide +kernel
theorem d_Mo_part_83 : decode b_Mo_part 83 = .ok (.aload_n 0, 1) := by decide +kernel
theorem d_Mo_part_84 : decode b_Mo_part 84 = .ok (.getfield 44, 3) := by decide +kernel
theorem d_Mo_part_87 : decode b_Mo_part 87 = .ok (.iload 5, 2) := by decide +kernel
theorem d_Mo_part_89 : decode b_Mo_part 89 = .ok (.iload_n 3, 1) := by decide +kernel
theorem d_Mo_part_90 : decode b_Mo_part 90 = .ok (.iastore, 1) := by decide +kernel
theorem d_Mo_part_91 : decode b_Mo_part 91 = .ok (.aload_n 0, 1) := by decide +kernel
theorem d_Mo_part_92 : decode b_Mo_part 92 = .ok (.getfield 47, 3) := by decide +kernel
theorem d_Mo_part_95 : decode b_Mo_part 95 = .ok (.iload 5, 2) := by decide +kernel
theorem d_Mo_part_97 : decode b_Mo_part 97 = .ok (.iload 4, 2) := by decide +kernel
theorem d_Mo_part_99 : decode b_Mo_part 99 = .ok (.bastore, 1) := by decide +kernel
theorem d_Mo_part_100 : decode b_Mo_part 100 = .ok (.aload_n 0, 1) := by decide +kernel
theorem d_Mo_part_101 : decode b_Mo_part 101 = .ok (.getfield 38, 3) := by decide +kernel
theorem d_Mo_part_104 : decode b_Mo_part 104 = .ok (.iload_n 1, 1) := by decide +kernel
theorem d_Mo_part_105 : decode b_Mo_part 105 = .ok (.dup2, 1) := by decide +kernel
theorem d_Mo_part_106 : decode b_Mo_part 106 = .ok (.iaload, 1) := by decide +kernel
theorem d_Mo_part_107 : decode b_Mo_part 107 = .ok (.iconst 1, 1) := by decide +kernel
theorem d_Mo_part_108 : decode b_Mo_part 108 = .ok (.iadd, 1) := by decide +kernel
theorem d_Mo_part_109 : decode b_Mo_part 109 = .ok (.iastore, 1) := by decide +kernel
theorem d_Mo_part_110 : decode b_Mo_part 110 = .ok (.aload_n 0, 1) := by decide +kernel
theorem d_Mo_part_111 : decode b_Mo_part 111 = .ok (.getfield 38, 3) := by decide +kernel
theorem d_Mo_part_114 : decode b_Mo_part 114 = .ok (.iload_n 1, 1) := by decide +kernel
theorem d_Mo_part_115 : decode b_Mo_part 115 = .ok (.iaload, 1) := by decide +kernel
theorem d_Mo_part_116 : decode b_Mo_part 116 = .ok (.ireturn, 1) := by decide +kernel
theorem d_Mo_clear_0 : decode b_Mo_clear 0 = .ok (.aload_n 0, 1) := by decide +kernel
theorem d_Mo_clear_1 : decode b_Mo_clear 1 = .ok (.iload_n 1, 1) := by decide +kernel
theorem d_Mo_clear_2 : decode b_Mo_clear 2 = .ok (.iconst 0, 1) := by decide +kernel
theorem d_Mo_clear_3 : decode b_Mo_clear 3 = .ok (.iconst 3, 1) := by decide +kernel
theorem d_Mo_clear_4 : decode b_Mo_clear 4 = .ok (.invokestatic 152, 3) := by decide +kernel
theorem d_Mo_clear_7 : decode b_Mo_clear 7 = .ok (.ifCond .eq 7, 3) := by decide +kernel
theorem d_Mo_clear_10 : decode b_Mo_clear 10 = .ok (.iconst 0, 1) := by decide +kernel
theorem d_Mo_clear_11 : decode b_Mo_clear 11 = .ok (.goto 4, 3) := by decide +kernel
theorem d_Mo_clear_14 : decode b_Mo_clear 14 = .ok (.iconst 1, 1) := by decide +kernel
theorem d_Mo_clear_15 : decode b_Mo_clear 15 = .ok (.putfield 87, 3) := by decide +kernel
theorem d_Mo_clear_18 : decode b_Mo_clear 18 = .ok (.aload_n 0, 1) := by decide +kernel
theorem d_Mo_clear_19 : decode b_Mo_clear 19 = .ok (.getfield 87, 3) := by decide +kernel
theorem d_Mo_clear_22 : decode b_Mo_clear 22 = .ok (.ifCond .le 5, 3) := by decide +kernel
theorem d_Mo_clear_25 : decode b_Mo_clear 25 = .ok (.iconst 0, 1) := by decide +kernel
theorem d_Mo_clear_26 : decode b_Mo_clear 26 = .ok (.ireturn, 1) := by decide +kernel
theorem d_Mo_clear_27 : decode b_Mo_clear 27 = .ok (.aload_n 0, 1) := by decide +kernel
theorem d_Mo_clear_28 : decode b_Mo_clear 28 = .ok (.getfield 38, 3) := by decide +kernel
theorem d_Mo_clear_31 : decode b_Mo_clear 31 = .ok (.iload_n 1, 1) := by decide +kernel
theorem d_Mo_clear_32 : decode b_Mo_clear 32 = .ok (.iaload, 1) := by decide +kernel
theorem d_Mo_clear_33 : decode b_Mo_clear 33 = .ok (.istore_n 2, 1) := by decide +kernel
theorem d_Mo_clear_34 : decode b_Mo_clear 34 = .ok (.aload_n 0, 1) := by decide +kernel
theorem d_Mo_clear_35 : decode b_Mo_clear 35 = .ok (.getfield 38, 3) := by decide +kernel
theorem d_Mo_clear_38 : decode b_Mo_clear 38 = .ok (.iload_n 1, 1) := by decide +kernel
theorem d_Mo_clear_39 : decode b_Mo_clear 39 = .ok (.iconst 0, 1) := by decide +kernel
theorem d_Mo_clear_40 : decode b_Mo_clear 40 = .ok (.iastore, 1) := by decide +kernel
theorem d_Mo_clear_41 : decode b_Mo_clear 41 = .ok (.iload_n 2, 1) := by decide +kernel
theorem d_Mo_clear_42 : decode b_Mo_clear 42 = .ok (.ireturn, 1) := by decide +kernel
theorem d_Mo_keepAside_0 : decode b_Mo_keepAside 0 = .ok (.iconst 0, 1) := by decide +kernel
theorem d_Mo_keepAside_1 : decode b_Mo_keepAside 1 = .ok (.istore_n 1, 1) := by decide +kernel
theorem d_Mo_keepAside_2 : decode b_Mo_keepAside 2 = .ok (.iload_n 1, 1) := by decide +kernel
theorem d_Mo_keepAside_3 : decode b_Mo_keepAside 3 = .ok (.iconst 3, 1) := by decide +kernel
theorem d_Mo_keepAside_4 : decode b_Mo_keepAside 4 = .ok (.if_icmp .ge 80, 3) := by decide +kernel
theorem d_Mo_keepAside_7 : decode b_Mo_keepAside 7 = .ok (.aload_n 0, 1) := by decide +kernel
theorem d_Mo_keepAside_8 : decode b_Mo_keepAside 8 = .ok (.getfield 78, 3) := by decide +kernel
theorem d_Mo_keepAside_11 : decode b_Mo_keepAside 11 = .ok (.iload_n 1, 1) := by decide +kernel
theorem d_Mo_keepAside_12 : decode b_Mo_keepAside 12 = .ok (.aload_n 0, 1) := by decide +kernel
theorem d_Mo_keepAside_13 : decode b_Mo_keepAside 13 = .ok (.getfield 51, 3) := by decide +kernel
theorem d_Mo_keepAside_16 : decode b_Mo_keepAside 16 = .ok (.iload_n 1, 1) := by decide +kernel
theorem d_Mo_keepAside_17 : decode b_Mo_keepAside 17 = .ok (.iaload, 1) := by decide +kernel
theorem d_Mo_keepAside_18 : decode b_Mo_keepAside 18 = .ok (.iastore, 1) := by decide +kernel
theorem d_Mo_keepAside_19 : decode b_Mo_keepAside 19 = .ok (.aload_n 0, 1) := by decide +kernel
theorem d_Mo_keepAside_20 : decode b_Mo_keepAside 20 = .ok (.getfield 78, 3) := by decide +kernel
theorem d_Mo_keepAside_23 : decode b_Mo_keepAside 23 = .ok (.iconst 3, 1) := by decide +kernel
theorem d_Mo_keepAside_24 : decode b_Mo_keepAside 24 = .ok (.iload_n 1, 1) := by decide +kernel
theorem d_Mo_keepAside_25 : decode b_Mo_keepAside 25 = .ok (.iadd, 1) := by decide +kernel
theorem d_Mo_keepAside_26 : decode b_Mo_keepAside 26 = .ok (.aload_n 0, 1) := by decide +kernel
theorem d_Mo_keepAside_27 : decode b_Mo_keepAside 27 = .ok (.getfield 54, 3) := by decide +kernel
theorem d_Mo_keepAside_30 : decode b_Mo_keepAside 30 = .ok (.iload_n 1, 1) := by decide +kernel
theorem d_Mo_keepAside_31 : decode b_Mo_keepAside 31 = .ok (.iaload, 1) := by decide +kernel
theorem d_Mo_keepAside_32 : decode b_Mo_keepAside 32 = .ok (.iastore, 1) := by decide +kernel
theorem d_Mo_keepAside_33 : decode b_Mo_keepAside 33 = .ok (.aload_n 0, 1) := by decide +kernel
theorem d_Mo_keepAside_34 : decode b_Mo_keepAside 34 = .ok (.getfield 78, 3) := by decide +kernel
theorem d_Mo_keepAside_37 : decode b_Mo_keepAside 37 = .ok (.bipush 6, 2) := by decide +kernel
theorem d_Mo_keepAside_39 : decode b_Mo_keepAside 39 = .ok (.iload_n 1, 1) := by decide +kernel
theorem d_Mo_keepAside_40 : decode b_Mo_keepAside 40 = .ok (.iadd, 1) := by decide +kernel
theorem d_Mo_keepAside_41 : decode b_Mo_keepAside 41 = .ok (.aload_n 0, 1) := by decide +kernel
theorem d_Mo_keepAside_42 : decode b_Mo_keepAside 42 = .ok (.getfield 57, 3) := by decide +kernel
theorem d_Mo_keepAside_45 : decode b_Mo_keepAside 45 = .ok (.iload_n 1, 1) := by decide +kernel
theorem d_Mo_keepAside_46 : decode b_Mo_keepAside 46 = .ok (.iaload, 1) := by decide +kernel
theorem d_Mo_keepAside_47 : decode b_Mo_keepAside 47 = .ok (.iastore, 1) := by decide +kernel
theorem d_Mo_keepAside_48 : decode b_Mo_keepAside 48 = .ok (.aload_n 0, 1) := by decide +kernel
theorem d_Mo_keepAside_49 : decode b_Mo_keepAside 49 = .ok (.getfield 78, 3) := by decide +kernel
theorem d_Mo_keepAside_52 : decode b_Mo_keepAside 52 = .ok (.bipush 9, 2) := by decide +kernel
theorem d_Mo_keepAside_54 : decode b_Mo_keepAside 54 = .ok (.iload_n 1, 1) := by decide +kernel
theorem d_Mo_keepAside_55 : decode b_Mo_keepAside 55 = .ok (.iadd, 1) := by decide +kernel
theorem d_Mo_keepAside_56 : decode b_Mo_keepAside 56 = .ok (.aload_n 0, 1) := by decide +kernel
theorem d_Mo_keepAside_57 : decode b_Mo_keepAside 57 = .ok (.getfield 60, 3) := by decide +kernel
theorem d_Mo_keepAside_60 : decode b_Mo_keepAside 60 = .ok (.iload_n 1, 1) := by decide +kernel
theorem d_Mo_keepAside_61 : decode b_Mo_keepAside 61 = .ok (.iaload, 1) := by decide +kernel
theorem d_Mo_keepAside_62 : decode b_Mo_keepAside 62 = .ok (.iastore, 1) := by decide +kernel
theorem d_Mo_keepAside_63 : decode b_Mo_keepAside 63 = .ok (.aload_n 0, 1) := by decide +kernel
theorem d_Mo_keepAside_64 : decode b_Mo_keepAside 64 = .ok (.getfield 78, 3) := by decide +kernel
theorem d_Mo_keepAside_67 : decode b_Mo_keepAside 67 = .ok (.bipush 12, 2) := by decide +kernel
theorem d_Mo_keepAside_69 : decode b_Mo_keepAside 69 = .ok (.iload_n 1, 1) := by decide +kernel
theorem d_Mo_keepAside_70 : decode b_Mo_keepAside 70 = .ok (.iadd, 1) := by decide +kernel
theorem d_Mo_keepAside_71 : decode b_Mo_keepAside 71 = .ok (.aload_n 0, 1) := by decide +kernel
theorem d_Mo_keepAside_72 : decode b_Mo_keepAside 72 = .ok (.getfield 63, 3) := by decide +kernel
theorem d_Mo_keepAside_75 : decode b_Mo_keepAside 75 = .ok (.iload_n 1, 1) := by decide +kernel
theorem d_Mo_keepAside_76 : decode b_Mo_keepAside 76 = .ok (.iaload, 1) := by decide +kernel
theorem d_Mo_keepAside_77 : decode b_Mo_keepAside 77 = .ok (.iastore, 1) := by decide +kernel
theorem d_Mo_keepAside_78 : decode b_Mo_keepAside 78 = .ok (.iinc 1 1, 3) := by decide +kernel
theorem d_Mo_keepAside_81 : decode b_Mo_keepAside 81 = .ok (.goto (-79), 3) := by decide +kernel
theorem d_Mo_keepAside_84 : decode b_Mo_keepAside 84 = .ok (.aload_n 0, 1) := by decide +kernel
theorem d_Mo_keepAside_85 : decode b_Mo_keepAside 85 = .ok (.getfield 78, 3) := by decide +kernel
theorem d_Mo_keepAside_88 : decode b_Mo_keepAside 88 = .ok (.bipush 15, 2) := by decide +kernel
theorem d_Mo_keepAside_90 : decode b_Mo_keepAside 90 = .ok (.aload_n 0, 1) := by decide +kernel
theorem d_Mo_keepAside_91 : decode b_Mo_keepAside 91 = .ok (.getfield 122, 3) := by decide +kernel
theorem d_Mo_keepAside_94 : decode b_Mo_keepAside 94 = .ok (.iastore, 1) := by decide +kernel
theorem d_Mo_keepAside_95 : decode b_Mo_keepAside 95 = .ok (.aload_n 0, 1) := by decide +kernel
theorem d_Mo_keepAside_96 : decode b_Mo_keepAside 96 = .ok (.getfield 78, 3) := by decide +kernel
theorem d_Mo_keepAside_99 : decode b_Mo_keepAside 99 = .ok (.bipush 16, 2) := by decide +kernel
theorem d_Mo_keepAside_101 : decode b_Mo_keepAside 101 = .ok (.aload_n 0, 1) := by decide +kernel
theorem d_Mo_keepAside_102 : decode b_Mo_keepAside 102 = .ok (.getfield 66, 3) := by decide +kernel
theorem d_Mo_keepAside_105 : decode b_Mo_keepAside 105 = .ok (.iastore, 1) := by decide +kernel
theorem d_Mo_keepAside_106 : decode b_Mo_keepAside 106 = .ok (.aload_n 0, 1) := by decide +kernel
theorem d_Mo_keepAside_107 : decode b_Mo_keepAside 107 = .ok (.getfield 78, 3) := by decide +kernel
theorem d_Mo_keepAside_110 : decode b_Mo_keepAside 110 = .ok (.bipush 17, 2) := by decide +kernel
theorem d_Mo_keepAside_112 : decode b_Mo_keepAside 112 = .ok (.aload_n 0, 1) := by decide +kernel
theorem d_Mo_keepAside_113 : decode b_Mo_keepAside 113 = .ok (.getfield 69, 3) := by decide +kernel
theorem d_Mo_keepAside_116 : decode b_Mo_keepAside 116 = .ok (.iastore, 1) := by decide +kernel
theorem d_Mo_keepAside_117 : decode b_Mo_keepAside 117 = .ok (.aload_n 0, 1) := by decide +kernel
theorem d_Mo_keepAside_118 : decode b_Mo_keepAside 118 = .ok (.getfield 78, 3) := by decide +kernel
theorem d_Mo_keepAside_121 : decode b_Mo_keepAside 121 = .ok (.bipush 18, 2) := by decide +kernel
theorem d_Mo_keepAside_123 : decode b_Mo_keepAside 123 = .ok (.aload_n 0, 1) := by decide +kernel
theorem d_Mo_keepAside_124 : decode b_Mo_keepAside 124 = .ok (.getfield 72, 3) := by decide +kernel
theorem d_Mo_keepAside_127 : decode b_Mo_keepAside 127 = .ok (.iastore, 1) := by decide +kernel
theorem d_Mo_keepAside_128 : decode b_Mo_keepAside 128 = .ok (.aload_n 0, 1) := by decide +kernel
theorem d_Mo_keepAside_129 : decode b_Mo_keepAside 129 = .ok (.getfield 78, 3) := by decide +kernel
theorem d_Mo_keepAside_132 : decode b_Mo_keepAside 132 = .ok (.bipush 19, 2) := by decide +kernel
theorem d_Mo_keepAside_134 : decode b_Mo_keepAside 134 = .ok (.aload_n 0, 1) := by decide +kernel
theorem d_Mo_keepAside_135 : decode b_Mo_keepAside 135 = .ok (.getfield 125, 3) := by decide +kernel
theorem d_Mo_keepAside_138 : decode b_Mo_keepAside 138 = .ok (.ifCond .eq 7, 3) := by decide +kernel
theorem d_Mo_keepAside_141 : decode b_Mo_keepAside 141 = .ok (.iconst 1, 1) := by decide +kernel
theorem d_Mo_keepAside_142 : decode b_Mo_keepAside 142 = .ok (.goto 4, 3) := by decide +kernel
theorem d_Mo_keepAside_145 : decode b_Mo_keepAside 145 = .ok (.iconst 0, 1) := by decide +kernel
theorem d_Mo_keepAside_146 : decode b_Mo_keepAside 146 = .ok (.iastore, 1) := by decide +kernel
theorem d_Mo_keepAside_147 : decode b_Mo_keepAside 147 = .ok (.iconst 0, 1) := by decide +kernel
theorem d_Mo_keepAside_148 : decode b_Mo_keepAside 148 = .ok (.istore_n 1, 1) := by decide +kernel
theorem d_Mo_keepAside_149 : decode b_Mo_keepAside 149 = .ok (.iload_n 1, 1) := by decide +kernel
theorem d_Mo_keepAside_150 : decode b_Mo_keepAside 150 = .ok (.sipush 4096, 3) := by decide +kernel
theorem d_Mo_keepAside_153 : decode b_Mo_keepAside 153 = .ok (.if_icmp .ge 21, 3) := by decide +kernel
theorem d_Mo_keepAside_156 : decode b_Mo_keepAside 156 = .ok (.aload_n 0, 1) := by decide +kernel
theorem d_Mo_keepAside_157 : decode b_Mo_keepAside 157 = .ok (.getfield 81, 3) := by decide +kernel
theorem d_Mo_keepAside_160 : decode b_Mo_keepAside 160 = .ok (.iload_n 1, 1) := by decide +kernel
theorem d_Mo_keepAside_161 : decode b_Mo_keepAside 161 = .ok (.aload_n 0, 1) := by decide +kernel
theorem d_Mo_keepAside_162 : decode b_Mo_keepAside 162 = .ok (.getfield 75, 3) := by decide +kernel
theorem d_Mo_keepAside_165 : decode b_Mo_keepAside 165 = .ok (.iload_n 1, 1) := by decide +kernel
theorem d_Mo_keepAside_166 : decode b_Mo_keepAside 166 = .ok (.baload, 1) := by decide +kernel
theorem d_Mo_keepAside_167 : decode b_Mo_keepAside 167 = .ok (.bastore, 1) := by decide +kernel
theorem d_Mo_keepAside_168 : decode b_Mo_keepAside 168 = .ok (.iinc 1 1, 3) := by decide +kernel
theorem d_Mo_keepAside_171 : decode b_Mo_keepAside 171 = .ok (.goto (-22), 3) := by decide +kernel
theorem d_Mo_keepAside_174 : decode b_Mo_keepAside 174 = .ok (.return_, 1) := by decide +kernel
theorem d_Mo_putBack_0 : decode b_Mo_putBack 0 = .ok (.iconst 0, 1) := by decide +kernel
theorem d_Mo_putBack_1 : decode b_Mo_putBack 1 = .ok (.istore_n 1, 1) := by decide +kernel
theorem d_Mo_putBack_2 : decode b_Mo_putBack 2 = .ok (.iload_n 1, 1) := by decide +kernel
theorem d_Mo_putBack_3 : decode b_Mo_putBack 3 = .ok (.iconst 3, 1) := by decide +kernel
theorem d_Mo_putBack_4 : decode b_Mo_putBack 4 = .ok (.if_icmp .ge 80, 3) := by decide +kernel
theorem d_Mo_putBack_7 : decode b_Mo_putBack 7 = .ok (.aload_n 0, 1) := by decide +kernel
theorem d_Mo_putBack_8 : decode b_Mo_putBack 8 = .ok (.getfield 51, 3) := by decide +kernel
theorem d_Mo_putBack_11 : decode b_Mo_putBack 11 = .ok (.iload_n 1, 1) := by decide +kernel
theorem d_Mo_putBack_12 : decode b_Mo_putBack 12 = .ok (.aload_n 0, 1) := by decide +kernel
theorem d_Mo_putBack_13 : decode b_Mo_putBack 13 = .ok (.getfield 78, 3) := by decide +kernel
theorem d_Mo_putBack_16 : decode b_Mo_putBack 16 = .ok (.iload_n 1, 1) := by decide +kernel
theorem d_Mo_putBack_17 : decode b_Mo_putBack 17 = .ok (.iaload, 1) := by decide +kernel
theorem d_Mo_putBack_18 : decode b_Mo_putBack 18 = .ok (.iastore, 1) := by decide +kernel
theorem d_Mo_putBack_19 : decode b_Mo_putBack 19 = .ok (.aload_n 0, 1) := by decide +kernel
theorem d_Mo_putBack_20 : decode b_Mo_putBack 20 = .ok (.getfield 54, 3) := by decide +kernel
theorem d_Mo_putBack_23 : decode b_Mo_putBack 23 = .ok (.iload_n 1, 1) := by decide +kernel
theorem d_Mo_putBack_24 : decode b_Mo_putBack 24 = .ok (.aload_n 0, 1) := by decide +kernel
theorem d_Mo_putBack_25 : decode b_Mo_putBack 25 = .ok (.getfield 78, 3) := by decide +kernel
theorem d_Mo_putBack_28 : decode b_Mo_putBack 28 = .ok (.iconst 3, 1) := by decide +kernel
theorem d_Mo_putBack_29 : decode b_Mo_putBack 29 = .ok (.iload_n 1, 1) := by decide +kernel
theorem d_Mo_putBack_30 : decode b_Mo_putBack 30 = .ok (.iadd, 1) := by decide +kernel
theorem d_Mo_putBack_31 : decode b_Mo_putBack 31 = .ok (.iaload, 1) := by decide +kernel
theorem d_Mo_putBack_32 : decode b_Mo_putBack 32 = .ok (.iastore, 1) := by decide +kernel
theorem d_Mo_putBack_33 : decode b_Mo_putBack 33 = .ok (.aload_n 0, 1) := by decide +kernel
theorem d_Mo_putBack_34 : decode b_Mo_putBack 34 = .ok (.getfield 57, 3) := by decide +kernel
theorem d_Mo_putBack_37 : decode b_Mo_putBack 37 = .ok (.iload_n 1, 1) := by decide +kernel
theorem d_Mo_putBack_38 : decode b_Mo_putBack 38 = .ok (.aload_n 0, 1) := by decide +kernel
theorem d_Mo_putBack_39 : decode b_Mo_putBack 39 = .ok (.getfield 78, 3) := by decide +kernel
theorem d_Mo_putBack_42 : decode b_Mo_putBack 42 = .ok (.bipush 6, 2) := by decide +kernel
theorem d_Mo_putBack_44 : decode b_Mo_putBack 44 = .ok (.iload_n 1, 1) := by decide +kernel
theorem d_Mo_putBack_45 : decode b_Mo_putBack 45 = .ok (.iadd, 1) := by decide +kernel
theorem d_Mo_putBack_46 : decode b_Mo_putBack 46 = .ok (.iaload, 1) := by decide +kernel
theorem d_Mo_putBack_47 : decode b_Mo_putBack 47 = .ok (.iastore, 1) := by decide +kernel
theorem d_Mo_putBack_48 : decode b_Mo_putBack 48 = .ok (.aload_n 0, 1) := by decide +kernel
theorem d_Mo_putBack_49 : decode b_Mo_putBack 49 = .ok (.getfield 60, 3) := by decide +kernel
theorem d_Mo_putBack_52 : decode b_Mo_putBack 52 = .ok (.iload_n 1, 1) := by decide +kernel
theorem d_Mo_putBack_53 : decode b_Mo_putBack 53 = .ok (.aload_n 0, 1) := by decide +kernel
theorem d_Mo_putBack_54 : decode b_Mo_putBack 54 = .ok (.getfield 78, 3) := by decide +kernel
theorem d_Mo_putBack_57 : decode b_Mo_putBack 57 = .ok (.bipush 9, 2) := by decide +kernel
theorem d_Mo_putBack_59 : decode b_Mo_putBack 59 = .ok (.iload_n 1, 1) := by decide +kernel
theorem d_Mo_putBack_60 : decode b_Mo_putBack 60 = .ok (.iadd, 1) := by decide +kernel
theorem d_Mo_putBack_61 : decode b_Mo_putBack 61 = .ok (.iaload, 1) := by decide +kernel
theorem d_Mo_putBack_62 : decode b_Mo_putBack 62 = .ok (.iastore, 1) := by decide +kernel
theorem d_Mo_putBack_63 : decode b_Mo_putBack 63 = .ok (.aload_n 0, 1) := by decide +kernel
theorem d_Mo_putBack_64 : decode b_Mo_putBack 64 = .ok (.getfield 63, 3) := by decide +kernel
theorem d_Mo_putBack_67 : decode b_Mo_putBack 67 = .ok (.iload_n 1, 1) := by decide +kernel
theorem d_Mo_putBack_68 : decode b_Mo_putBack 68 = .ok (.aload_n 0, 1) := by decide +kernel
theorem d_Mo_putBack_69 : decode b_Mo_putBack 69 = .ok (.getfield 78, 3) := by decide +kernel
theorem d_Mo_putBack_72 : decode b_Mo_putBack 72 = .ok (.bipush 12, 2) := by decide +kernel
theorem d_Mo_putBack_74 : decode b_Mo_putBack 74 = .ok (.iload_n 1, 1) := by decide +kernel
theorem d_Mo_putBack_75 : decode b_Mo_putBack 75 = .ok (.iadd, 1) := by decide +kernel
theorem d_Mo_putBack_76 : decode b_Mo_putBack 76 = .ok (.iaload, 1) := by decide +kernel
theorem d_Mo_putBack_77 : decode b_Mo_putBack 77 = .ok (.iastore, 1) := by decide +kernel
theorem d_Mo_putBack_78 : decode b_Mo_putBack 78 = .ok (.iinc 1 1, 3) := by decide +kernel
theorem d_Mo_putBack_81 : decode b_Mo_putBack 81 = .ok (.goto (-79), 3) := by decide +kernel
theorem d_Mo_putBack_84 : decode b_Mo_putBack 84 = .ok (.aload_n 0, 1) := by decide +kernel
theorem d_Mo_putBack_85 : decode b_Mo_putBack 85 = .ok (.aload_n 0, 1) := by decide +kernel
theorem d_Mo_putBack_86 : decode b_Mo_putBack 86 = .ok (.getfield 78, 3) := by decide +kernel
theorem d_Mo_putBack_89 : decode b_Mo_putBack 89 = .ok (.bipush 15, 2) := by decide +kernel
theorem d_Mo_putBack_91 : decode b_Mo_putBack 91 = .ok (.iaload, 1) := by decide +kernel
theorem d_Mo_putBack_92 : decode b_Mo_putBack 92 = .ok (.putfield 122, 3) := by decide +kernel
theorem d_Mo_putBack_95 : decode b_Mo_putBack 95 = .ok (.aload_n 0, 1) := by decide +kernel
theorem d_Mo_putBack_96 : decode b_Mo_putBack 96 = .ok (.aload_n 0, 1) := by decide +kernel
theorem d_Mo_putBack_97 : decode b_Mo_putBack 97 = .ok (.getfield 78, 3) := by decide +kernel
theorem d_Mo_putBack_100 : decode b_Mo_putBack 100 = .ok (.bipush 16, 2) := by decide +kernel
theorem d_Mo_putBack_102 : decode b_Mo_putBack 102 = .ok (.iaload, 1) := by decide +kernel
theorem d_Mo_putBack_103 : decode b_Mo_putBack 103 = .ok (.putfield 66, 3) := by decide +kernel
theorem d_Mo_putBack_106 : decode b_Mo_putBack 106 = .ok (.aload_n 0, 1) := by decide +kernel
theorem d_Mo_putBack_107 : decode b_Mo_putBack 107 = .ok (.aload_n 0, 1) := by decide +kernel
theorem d_Mo_putBack_108 : decode b_Mo_putBack 108 = .ok (.getfield 78, 3) := by decide +kernel
theorem d_Mo_putBack_111 : decode b_Mo_putBack 111 = .ok (.bipush 17, 2) := by decide +kernel
theorem d_Mo_putBack_113 : decode b_Mo_putBack 113 = .ok (.iaload, 1) := by decide +kernel
theorem d_Mo_putBack_114 : decode b_Mo_putBack 114 = .ok (.putfield 69, 3) := by decide +kernel
theorem d_Mo_putBack_117 : decode b_Mo_putBack 117 = .ok (.aload_n 0, 1) := by decide +kernel
theorem d_Mo_putBack_118 : decode b_Mo_putBack 118 = .ok (.aload_n 0, 1) := by decide +kernel
theorem d_Mo_putBack_119 : decode b_Mo_putBack 119 = .ok (.getfield 78, 3) := by decide +kernel
theorem d_Mo_putBack_122 : decode b_Mo_putBack 122 = .ok (.bipush 18, 2) := by decide +kernel
theorem d_Mo_putBack_124 : decode b_Mo_putBack 124 = .ok (.iaload, 1) := by decide +kernel
theorem d_Mo_putBack_125 : decode b_Mo_putBack 125 = .ok (.putfield 72, 3) := by decide +kernel
theorem d_Mo_putBack_128 : decode b_Mo_putBack 128 = .ok (.aload_n 0, 1) := by decide +kernel
theorem d_Mo_putBack_129 : decode b_Mo_putBack 129 = .ok (.aload_n 0, 1) := by decide +kernel
theorem d_Mo_putBack_130 : decode b_Mo_putBack 130 = .ok (.getfield 78, 3) := by decide +kernel
theorem d_Mo_putBack_133 : decode b_Mo_putBack 133 = .ok (.bipush 19, 2) := by decide +kernel
theorem d_Mo_putBack_135 : decode b_Mo_putBack 135 = .ok (.iaload, 1) := by decide +kernel
theorem d_Mo_putBack_136 : decode b_Mo_putBack 136 = .ok (.iconst 1, 1) := by decide +kernel
theorem d_Mo_putBack_137 : decode b_Mo_putBack 137 = .ok (.if_icmp .ne 7, 3) := by decide +kernel
theorem d_Mo_putBack_140 : decode b_Mo_putBack 140 = .ok (.iconst 1, 1) := by decide +kernel
theorem d_Mo_putBack_141 : decode b_Mo_putBack 141 = .ok (.goto 4, 3) := by decide +kernel
theorem d_Mo_putBack_144 : decode b_Mo_putBack 144 = .ok (.iconst 0, 1) := by decide +kernel
theorem d_Mo_putBack_145 : decode b_Mo_putBack 145 = .ok (.putfield 125, 3) := by decide +kernel
theorem d_Mo_putBack_148 : decode b_Mo_putBack 148 = .ok (.aload_n 0, 1) := by decide +kernel
theorem d_Mo_putBack_149 : decode b_Mo_putBack 149 = .ok (.iconst 0, 1) := by decide +kernel
theorem d_Mo_putBack_150 : decode b_Mo_putBack 150 = .ok (.putfield 116, 3) := by decide +kernel
theorem d_Mo_putBack_153 : decode b_Mo_putBack 153 = .ok (.iconst 0, 1) := by decide +kernel
theorem d_Mo_putBack_154 : decode b_Mo_putBack 154 = .ok (.istore_n 1, 1) := by decide +kernel
theorem d_Mo_putBack_155 : decode b_Mo_putBack 155 = .ok (.iload_n 1, 1) := by decide +kernel
theorem d_Mo_putBack_156 : decode b_Mo_putBack 156 = .ok (.sipush 4096, 3) := by decide +kernel
theorem d_Mo_putBack_159 : decode b_Mo_putBack 159 = .ok (.if_icmp .ge 47, 3) := by decide +kernel
theorem d_Mo_putBack_162 : decode b_Mo_putBack 162 = .ok (.aload_n 0, 1) := by decide +kernel
theorem d_Mo_putBack_163 : decode b_Mo_putBack 163 = .ok (.getfield 75, 3) := by decide +kernel
theorem d_Mo_putBack_166 : decode b_Mo_putBack 166 = .ok (.iload_n 1, 1) := by decide +kernel
theorem d_Mo_putBack_167 : decode b_Mo_putBack 167 = .ok (.aload_n 0, 1) := by decide +kernel
theorem d_Mo_putBack_168 : decode b_Mo_putBack 168 = .ok (.getfield 81, 3) := by decide +kernel
theorem d_Mo_putBack_171 : decode b_Mo_putBack 171 = .ok (.iload_n 1, 1) := by decide +kernel
theorem d_Mo_putBack_172 : decode b_Mo_putBack 172 = .ok (.baload, 1) := by decide +kernel
theorem d_Mo_putBack_173 : decode b_Mo_putBack 173 = .ok (.bastore, 1) := by decide +kernel
theorem d_Mo_putBack_174 : decode b_Mo_putBack 174 = .ok (.aload_n 0, 1) := by decide +kernel
theorem d_Mo_putBack_175 : decode b_Mo_putBack 175 = .ok (.aload_n 0, 1) := by decide +kernel
theorem d_Mo_putBack_176 : decode b_Mo_putBack 176 = .ok (.getfield 75, 3) := by decide +kernel
theorem d_Mo_putBack_179 : decode b_Mo_putBack 179 = .ok (.iload_n 1, 1) := by decide +kernel
theorem d_Mo_putBack_180 : decode b_Mo_putBack 180 = .ok (.baload, 1) := by decide +kernel
theorem d_Mo_putBack_181 : decode b_Mo_putBack 181 = .ok (.ifCond .eq 12, 3) := by decide +kernel
theorem d_Mo_putBack_184 : decode b_Mo_putBack 184 = .ok (.aload_n 0, 1) := by decide +kernel
theorem d_Mo_putBack_185 : decode b_Mo_putBack 185 = .ok (.getfield 116, 3) := by decide +kernel
theorem d_Mo_putBack_188 : decode b_Mo_putBack 188 = .ok (.iconst 1, 1) := by decide +kernel
theorem d_Mo_putBack_189 : decode b_Mo_putBack 189 = .ok (.iadd, 1) := by decide +kernel
theorem d_Mo_putBack_190 : decode b_Mo_putBack 190 = .ok (.goto 7, 3) := by decide +kernel
theorem d_Mo_putBack_193 : decode b_Mo_putBack 193 = .ok (.aload_n 0, 1) := by decide +kernel
theorem d_Mo_putBack_194 : decode b_Mo_putBack 194 = .ok (.getfield 116, 3) := by decide +kernel
theorem d_Mo_putBack_197 : decode b_Mo_putBack 197 = .ok (.putfield 116, 3) := by decide +kernel
theorem d_Mo_putBack_200 : decode b_Mo_putBack 200 = .ok (.iinc 1 1, 3) := by decide +kernel
theorem d_Mo_putBack_203 : decode b_Mo_putBack 203 = .ok (.goto (-48), 3) := by decide +kernel
theorem d_Mo_putBack_206 : decode b_Mo_putBack 206 = .ok (.return_, 1) := by decide +kernel
theorem d_Mo_goPlan_0 : decode b_Mo_goPlan 0 = .ok (.aload_n 0, 1) := by decide +kernel
theorem d_Mo_goPlan_1 : decode b_Mo_goPlan 1 = .ok (.invokevirtual 155, 3) := by decide +kernel
theorem d_Mo_goPlan_4 : decode b_Mo_goPlan 4 = .ok (.iconst 0, 1) := by decide +kernel
theorem d_Mo_goPlan_5 : decode b_Mo_goPlan 5 = .ok (.istore_n 2, 1) := by decide +kernel
theorem d_Mo_goPlan_6 : decode b_Mo_goPlan 6 = .ok (.iload_n 2, 1) := by decide +kernel
theorem d_Mo_goPlan_7 : decode b_Mo_goPlan 7 = .ok (.aload_n 0, 1) := by decide +kernel
theorem d_Mo_goPlan_8 : decode b_Mo_goPlan 8 = .ok (.getfield 38, 3) := by decide +kernel
theorem d_Mo_goPlan_11 : decode b_Mo_goPlan 11 = .ok (.iload_n 1, 1) := by decide +kernel
theorem d_Mo_goPlan_12 : decode b_Mo_goPlan 12 = .ok (.iaload, 1) := by decide +kernel
theorem d_Mo_goPlan_13 : decode b_Mo_goPlan 13 = .ok (.if_icmp .ge 38, 3) := by decide +kernel
theorem d_Mo_goPlan_16 : decode b_Mo_goPlan 16 = .ok (.bipush 6, 2) := by decide +kernel
theorem d_Mo_goPlan_18 : decode b_Mo_goPlan 18 = .ok (.iload_n 1, 1) := by decide +kernel
theorem d_Mo_goPlan_19 : decode b_Mo_goPlan 19 = .ok (.imul, 1) := by decide +kernel
theorem d_Mo_goPlan_20 : decode b_Mo_goPlan 20 = .ok (.iload_n 2, 1) := by decide +kernel
theorem d_Mo_goPlan_21 : decode b_Mo_goPlan 21 = .ok (.iadd, 1) := by decide +kernel
theorem d_Mo_goPlan_22 : decode b_Mo_goPlan 22 = .ok (.istore_n 3, 1) := by decide +kernel
theorem d_Mo_goPlan_23 : decode b_Mo_goPlan 23 = .ok (.aload_n 0, 1) := by decide +kernel
theorem d_Mo_goPlan_24 : decode b_Mo_goPlan 24 = .ok (.aload_n 0, 1) := by decide +kernel
theorem d_Mo_goPlan_25 : decode b_Mo_goPlan 25 = .ok (.getfield 41, 3) := by decide +kernel
theorem d_Mo_goPlan_28 : decode b_Mo_goPlan 28 = .ok (.iload_n 3, 1) := by decide +kernel
theorem d_Mo_goPlan_29 : decode b_Mo_goPlan 29 = .ok (.iaload, 1) := by decide +kernel
theorem d_Mo_goPlan_30 : decode b_Mo_goPlan 30 = .ok (.aload_n 0, 1) := by decide +kernel
theorem d_Mo_goPlan_31 : decode b_Mo_goPlan 31 = .ok (.getfield 44, 3) := by decide +kernel
theorem d_Mo_goPlan_34 : decode b_Mo_goPlan 34 = .ok (.iload_n 3, 1) := by decide +kernel
theorem d_Mo_goPlan_35 : decode b_Mo_goPlan 35 = .ok (.iaload, 1) := by decide +kernel
theorem d_Mo_goPlan_36 : decode b_Mo_goPlan 36 = .ok (.aload_n 0, 1) := by decide +kernel
theorem d_Mo_goPlan_37 : decode b_Mo_goPlan 37 = .ok (.getfield 47, 3) := by decide +kernel
theorem d_Mo_goPlan_40 : decode b_Mo_goPlan 40 = .ok (.iload_n 3, 1) := by decide +kernel
theorem d_Mo_goPlan_41 : decode b_Mo_goPlan 41 = .ok (.baload, 1) := by decide +kernel
theorem d_Mo_goPlan_42 : decode b_Mo_goPlan 42 = .ok (.invokevirtual 158, 3) := by decide +kernel
theorem d_Mo_goPlan_45 : decode b_Mo_goPlan 45 = .ok (.iinc 2 1, 3) := by decide +kernel
theorem d_Mo_goPlan_48 : decode b_Mo_goPlan 48 = .ok (.goto (-42), 3) := by decide +kernel
theorem d_Mo_goPlan_51 : decode b_Mo_goPlan 51 = .ok (.return_, 1) := by decide +kernel
theorem d_Mo_best_0 : decode b_Mo_best 0 = .ok (.aload_n 0, 1) := by decide +kernel
theorem d_Mo_best_1 : decode b_Mo_best 1 = .ok (.aload_n 0, 1) := by decide +kernel
theorem d_Mo_best_2 : decode b_Mo_best 2 = .ok (.getfield 84, 3) := by decide +kernel
theorem d_Mo_best_5 : decode b_Mo_best 5 = .ok (.ifCond .le 7, 3) := by decide +kernel
theorem d_Mo_best_8 : decode b_Mo_best 8 = .ok (.iconst 0, 1) := by decide +kernel
theorem d_Mo_best_9 : decode b_Mo_best 9 = .ok (.goto 4, 3) := by decide +kernel
theorem d_Mo_best_12 : decode b_Mo_best 12 = .ok (.iconst 1, 1) := by decide +kernel
theorem d_Mo_best_13 : decode b_Mo_best 13 = .ok (.putfield 87, 3) := by decide +kernel
theorem d_Mo_best_16 : decode b_Mo_best 16 = .ok (.aload_n 0, 1) := by decide +kernel
theorem d_Mo_best_17 : decode b_Mo_best 17 = .ok (.getfield 87, 3) := by decide +kernel
theorem d_Mo_best_20 : decode b_Mo_best 20 = .ok (.ifCond .le 5, 3) := by decide +kernel
theorem d_Mo_best_23 : decode b_Mo_best 23 = .ok (.iconst 0, 1) := by decide +kernel
theorem d_Mo_best_24 : decode b_Mo_best 24 = .ok (.ireturn, 1) := by decide +kernel
theorem d_Mo_best_25 : decode b_Mo_best 25 = .ok (.aload_n 0, 1) := by decide +kernel
theorem d_Mo_best_26 : decode b_Mo_best 26 = .ok (.invokevirtual 162, 3) := by decide +kernel
theorem d_Mo_best_29 : decode b_Mo_best 29 = .ok (.iconst (-1), 1) := by decide +kernel
theorem d_Mo_best_30 : decode b_Mo_best 30 = .ok (.istore_n 1, 1) := by decide +kernel
theorem d_Mo_best_31 : decode b_Mo_best 31 = .ok (.iconst 0, 1) := by decide +kernel
theorem d_Mo_best_32 : decode b_Mo_best 32 = .ok (.istore_n 2, 1) := by decide +kernel
theorem d_Mo_best_33 : decode b_Mo_best 33 = .ok (.iconst 0, 1) := by decide +kernel
theorem d_Mo_best_34 : decode b_Mo_best 34 = .ok (.istore_n 3, 1) := by decide +kernel
theorem d_Mo_best_35 : decode b_Mo_best 35 = .ok (.iload_n 3, 1) := by decide +kernel
theorem d_Mo_best_36 : decode b_Mo_best 36 = .ok (.iconst 4, 1) := by decide +kernel
theorem d_Mo_best_37 : decode b_Mo_best 37 = .ok (.if_icmp .ge 49, 3) := by decide +kernel
theorem d_Mo_best_40 : decode b_Mo_best 40 = .ok (.aload_n 0, 1) := by decide +kernel
theorem d_Mo_best_41 : decode b_Mo_best 41 = .ok (.iload_n 3, 1) := by decide +kernel
theorem d_Mo_best_42 : decode b_Mo_best 42 = .ok (.invokevirtual 165, 3) := by decide +kernel
theorem d_Mo_best_45 : decode b_Mo_best 45 = .ok (.aload_n 0, 1) := by decide +kernel
theorem d_Mo_best_46 : decode b_Mo_best 46 = .ok (.getfield 125, 3) := by decide +kernel
theorem d_Mo_best_49 : decode b_Mo_best 49 = .ok (.ifCond .ne 31, 3) := by decide +kernel
theorem d_Mo_best_52 : decode b_Mo_best 52 = .ok (.aload_n 0, 1) := by decide +kernel
theorem d_Mo_best_53 : decode b_Mo_best 53 = .ok (.getfield 66, 3) := by decide +kernel
theorem d_Mo_best_56 : decode b_Mo_best 56 = .ok (.iconst (-1), 1) := by decide +kernel
theorem d_Mo_best_57 : decode b_Mo_best 57 = .ok (.if_icmp .ne 23, 3) := by decide +kernel
theorem d_Mo_best_60 : decode b_Mo_best 60 = .ok (.iload_n 1, 1) := by decide +kernel
theorem d_Mo_best_61 : decode b_Mo_best 61 = .ok (.iconst (-1), 1) := by decide +kernel
theorem d_Mo_best_62 : decode b_Mo_best 62 = .ok (.if_icmp .eq 11, 3) := by decide +kernel
theorem d_Mo_best_65 : decode b_Mo_best 65 = .ok (.aload_n 0, 1) := by decide +kernel
theorem d_Mo_best_66 : decode b_Mo_best 66 = .ok (.getfield 116, 3) := by decide +kernel
theorem d_Mo_best_69 : decode b_Mo_best 69 = .ok (.iload_n 2, 1) := by decide +kernel
theorem d_Mo_best_70 : decode b_Mo_best 70 = .ok (.if_icmp .ge 10, 3) := by decide +kernel
theorem d_Mo_best_73 : decode b_Mo_best 73 = .ok (.iload_n 3, 1) := by decide +kernel
theorem d_Mo_best_74 : decode b_Mo_best 74 = .ok (.istore_n 1, 1) := by decide +kernel
theorem d_Mo_best_75 : decode b_Mo_best 75 = .ok (.aload_n 0, 1) := by decide +kernel
theorem d_Mo_best_76 : decode b_Mo_best 76 = .ok (.getfield 116, 3) := by decide +kernel
theorem d_Mo_best_79 : decode b_Mo_best 79 = .ok (.istore_n 2, 1) := by decide +kernel
theorem d_Mo_best_80 : decode b_Mo_best 80 = .ok (.iinc 3 1, 3) := by decide +kernel
theorem d_Mo_best_83 : decode b_Mo_best 83 = .ok (.goto (-48), 3) := by decide +kernel
theorem d_Mo_best_86 : decode b_Mo_best 86 = .ok (.aload_n 0, 1) := by decide +kernel
theorem d_Mo_best_87 : decode b_Mo_best 87 = .ok (.invokevirtual 168, 3) := by decide +kernel
theorem d_Mo_best_90 : decode b_Mo_best 90 = .ok (.iload_n 1, 1) := by decide +kernel
theorem d_Mo_best_91 : decode b_Mo_best 91 = .ok (.ireturn, 1) := by decide +kernel
theorem d_Mo_sweeps_0 : decode b_Mo_sweeps 0 = .ok (.aload_n 0, 1) := by decide +kernel
theorem d_Mo_sweeps_1 : decode b_Mo_sweeps 1 = .ok (.iload_n 1, 1) := by decide +kernel
theorem d_Mo_sweeps_2 : decode b_Mo_sweeps 2 = .ok (.iconst 0, 1) := by decide +kernel
theorem d_Mo_sweeps_3 : decode b_Mo_sweeps 3 = .ok (.iconst 3, 1) := by decide +kernel
theorem d_Mo_sweeps_4 : decode b_Mo_sweeps 4 = .ok (.invokestatic 152, 3) := by decide +kernel
theorem d_Mo_sweeps_7 : decode b_Mo_sweeps 7 = .ok (.ifCond .ne 7, 3) := by decide +kernel
theorem d_Mo_sweeps_10 : decode b_Mo_sweeps 10 = .ok (.iconst 1, 1) := by decide +kernel
theorem d_Mo_sweeps_11 : decode b_Mo_sweeps 11 = .ok (.goto 15, 3) := by decide +kernel
theorem d_Mo_sweeps_14 : decode b_Mo_sweeps 14 = .ok (.aload_n 0, 1) := by decide +kernel
theorem d_Mo_sweeps_15 : decode b_Mo_sweeps 15 = .ok (.getfield 84, 3) := by decide +kernel
theorem d_Mo_sweeps_18 : decode b_Mo_sweeps 18 = .ok (.ifCond .ne 7, 3) := by decide +kernel
theorem d_Mo_sweeps_21 : decode b_Mo_sweeps 21 = .ok (.iconst 2, 1) := by decide +kernel
theorem d_Mo_sweeps_22 : decode b_Mo_sweeps 22 = .ok (.goto 4, 3) := by decide +kernel
theorem d_Mo_sweeps_25 : decode b_Mo_sweeps 25 = .ok (.iconst 0, 1) := by decide +kernel
theorem d_Mo_sweeps_26 : decode b_Mo_sweeps 26 = .ok (.putfield 87, 3) := by decide +kernel
theorem d_Mo_sweeps_29 : decode b_Mo_sweeps 29 = .ok (.aload_n 0, 1) := by decide +kernel
theorem d_Mo_sweeps_30 : decode b_Mo_sweeps 30 = .ok (.getfield 87, 3) := by decide +kernel
theorem d_Mo_sweeps_33 : decode b_Mo_sweeps 33 = .ok (.ifCond .le 5, 3) := by decide +kernel
theorem d_Mo_sweeps_36 : decode b_Mo_sweeps 36 = .ok (.iconst 0, 1) := by decide +kernel
theorem d_Mo_sweeps_37 : decode b_Mo_sweeps 37 = .ok (.ireturn, 1) := by decide +kernel
theorem d_Mo_sweeps_38 : decode b_Mo_sweeps 38 = .ok (.aload_n 0, 1) := by decide +kernel
theorem d_Mo_sweeps_39 : decode b_Mo_sweeps 39 = .ok (.invokevirtual 162, 3) := by decide +kernel
theorem d_Mo_sweeps_42 : decode b_Mo_sweeps 42 = .ok (.aload_n 0, 1) := by decide +kernel
theorem d_Mo_sweeps_43 : decode b_Mo_sweeps 43 = .ok (.iload_n 1, 1) := by decide +kernel
theorem d_Mo_sweeps_44 : decode b_Mo_sweeps 44 = .ok (.invokevirtual 165, 3) := by decide +kernel
theorem d_Mo_sweeps_47 : decode b_Mo_sweeps 47 = .ok (.aload_n 0, 1) := by decide +kernel
theorem d_Mo_sweeps_48 : decode b_Mo_sweeps 48 = .ok (.getfield 116, 3) := by decide +kernel
theorem d_Mo_sweeps_51 : decode b_Mo_sweeps 51 = .ok (.istore_n 2, 1) := by decide +kernel
theorem d_Mo_sweeps_52 : decode b_Mo_sweeps 52 = .ok (.aload_n 0, 1) := by decide +kernel
theorem d_Mo_sweeps_53 : decode b_Mo_sweeps 53 = .ok (.invokevirtual 168, 3) := by decide +kernel
theorem d_Mo_sweeps_56 : decode b_Mo_sweeps 56 = .ok (.iload_n 2, 1) := by decide +kernel
theorem d_Mo_sweeps_57 : decode b_Mo_sweeps 57 = .ok (.ireturn, 1) := by decide +kernel
theorem d_Ce_init_0 : decode b_Ce_init 0 = .ok (.aload_n 0, 1) := by decide +kernel
theorem d_Ce_init_1 : decode b_Ce_init 1 = .ok (.invokespecial 3, 3) := by decide +kernel
theorem d_Ce_init_4 : decode b_Ce_init 4 = .ok (.aload_n 0, 1) := by decide +kernel
theorem d_Ce_init_5 : decode b_Ce_init 5 = .ok (.bipush 64, 2) := by decide +kernel
theorem d_Ce_init_7 : decode b_Ce_init 7 = .ok (.newarray .long, 2) := by decide +kernel
theorem d_Ce_init_9 : decode b_Ce_init 9 = .ok (.putfield 11, 3) := by decide +kernel
theorem d_Ce_init_12 : decode b_Ce_init 12 = .ok (.return_, 1) := by decide +kernel
theorem d_Ce_wipe_0 : decode b_Ce_wipe 0 = .ok (.aload_n 0, 1) := by decide +kernel
theorem d_Ce_wipe_1 : decode b_Ce_wipe 1 = .ok (.getfield 11, 3) := by decide +kernel
theorem d_Ce_wipe_4 : decode b_Ce_wipe 4 = .ok (.lconst 0, 1) := by decide +kernel
theorem d_Ce_wipe_5 : decode b_Ce_wipe 5 = .ok (.invokestatic 15, 3) := by decide +kernel
theorem d_Ce_wipe_8 : decode b_Ce_wipe 8 = .ok (.aload_n 0, 1) := by decide +kernel
theorem d_Ce_wipe_9 : decode b_Ce_wipe 9 = .ok (.iconst 0, 1) := by decide +kernel
theorem d_Ce_wipe_10 : decode b_Ce_wipe 10 = .ok (.putfield 21, 3) := by decide +kernel
theorem d_Ce_wipe_13 : decode b_Ce_wipe 13 = .ok (.return_, 1) := by decide +kernel
theorem d_Ce_has_0 : decode b_Ce_has 0 = .ok (.lconst 1, 1) := by decide +kernel
theorem d_Ce_has_1 : decode b_Ce_has 1 = .ok (.iload_n 1, 1) := by decide +kernel
theorem d_Ce_has_2 : decode b_Ce_has 2 = .ok (.bipush 63, 2) := by decide +kernel
theorem d_Ce_has_4 : decode b_Ce_has 4 = .ok (.iand, 1) := by decide +kernel
theorem d_Ce_has_5 : decode b_Ce_has 5 = .ok (.lshl, 1) := by decide +kernel
theorem d_Ce_has_6 : decode b_Ce_has 6 = .ok (.lstore_n 3, 1) := by decide +kernel
theorem d_Ce_has_7 : decode b_Ce_has 7 = .ok (.aload_n 0, 1) := by decide +kernel
theorem d_Ce_has_8 : decode b_Ce_has 8 = .ok (.getfield 11, 3) := by decide +kernel
theorem d_Ce_has_11 : decode b_Ce_has 11 = .ok (.iload_n 2, 1) := by decide +kernel
theorem d_Ce_has_12 : decode b_Ce_has 12 = .ok (.bipush 63, 2) := by decide +kernel
theorem d_Ce_has_14 : decode b_Ce_has 14 = .ok (.iand, 1) := by decide +kernel
theorem d_Ce_has_15 : decode b_Ce_has 15 = .ok (.laload, 1) := by decide +kernel
theorem d_Ce_has_16 : decode b_Ce_has 16 = .ok (.lload_n 3, 1) := by decide +kernel
theorem d_Ce_has_17 : decode b_Ce_has 17 = .ok (.land, 1) := by decide +kernel
theorem d_Ce_has_18 : decode b_Ce_has 18 = .ok (.lconst 0, 1) := by decide +kernel
theorem d_Ce_has_19 : decode b_Ce_has 19 = .ok (.lcmp, 1) := by decide +kernel
theorem d_Ce_has_20 : decode b_Ce_has 20 = .ok (.ifCond .eq 7, 3) := by decide +kernel
theorem d_Ce_has_23 : decode b_Ce_has 23 = .ok (.iconst 1, 1) := by decide +kernel
theorem d_Ce_has_24 : decode b_Ce_has 24 = .ok (.goto 4, 3) := by decide +kernel
theorem d_Ce_has_27 : decode b_Ce_has 27 = .ok (.iconst 0, 1) := by decide +kernel
theorem d_Ce_has_28 : decode b_Ce_has 28 = .ok (.ireturn, 1) := by decide +kernel
theorem d_Ce_cover_0 : decode b_Ce_cover 0 = .ok (.aload_n 2, 1) := by decide +kernel
theorem d_Ce_cover_1 : decode b_Ce_cover 1 = .ok (.getfield 25, 3) := by decide +kernel
theorem d_Ce_cover_4 : decode b_Ce_cover 4 = .ok (.invokestatic 30, 3) := by decide +kernel
theorem d_Ce_cover_7 : decode b_Ce_cover 7 = .ok (.istore_n 3, 1) := by decide +kernel
theorem d_Ce_cover_8 : decode b_Ce_cover 8 = .ok (.aload_n 2, 1) := by decide +kernel
theorem d_Ce_cover_9 : decode b_Ce_cover 9 = .ok (.getfield 25, 3) := by decide +kernel
theorem d_Ce_cover_12 : decode b_Ce_cover 12 = .ok (.invokestatic 36, 3) := by decide +kernel
theorem d_Ce_cover_15 : decode b_Ce_cover 15 = .ok (.istore 4, 2) := by decide +kernel
theorem d_Ce_cover_17 : decode b_Ce_cover 17 = .ok (.aload_n 1, 1) := by decide +kernel
theorem d_Ce_cover_18 : decode b_Ce_cover 18 = .ok (.getfield 39, 3) := by decide +kernel
theorem d_Ce_cover_21 : decode b_Ce_cover 21 = .ok (.iload_n 3, 1) := by decide +kernel
theorem d_Ce_cover_22 : decode b_Ce_cover 22 = .ok (.imul, 1) := by decide +kernel
theorem d_Ce_cover_23 : decode b_Ce_cover 23 = .ok (.istore 5, 2) := by decide +kernel
theorem d_Ce_cover_25 : decode b_Ce_cover 25 = .ok (.aload_n 1, 1) := by decide +kernel
theorem d_Ce_cover_26 : decode b_Ce_cover 26 = .ok (.getfield 44, 3) := by decide +kernel
theorem d_Ce_cover_29 : decode b_Ce_cover 29 = .ok (.ineg, 1) := by decide +kernel
theorem d_Ce_cover_30 : decode b_Ce_cover 30 = .ok (.iload_n 3, 1) := by decide +kernel
theorem d_Ce_cover_31 : decode b_Ce_cover 31 = .ok (.imul, 1) := by decide +kernel
theorem d_Ce_cover_32 : decode b_Ce_cover 32 = .ok (.istore 6, 2) := by decide +kernel
theorem d_Ce_cover_34 : decode b_Ce_cover 34 = .ok (.aload_n 1, 1) := by decide +kernel
theorem d_Ce_cover_35 : decode b_Ce_cover 35 = .ok (.getfield 39, 3) := by decide +kernel
theorem d_Ce_cover_38 : decode b_Ce_cover 38 = .ok (.iload 4, 2) := by decide +kernel
theorem d_Ce_cover_40 : decode b_Ce_cover 40 = .ok (.imul, 1) := by decide +kernel
theorem d_Ce_cover_41 : decode b_Ce_cover 41 = .ok (.istore 7, 2) := by decide +kernel
theorem d_Ce_cover_43 : decode b_Ce_cover 43 = .ok (.aload_n 1, 1) := by decide +kernel
theorem d_Ce_cover_44 : decode b_Ce_cover 44 = .ok (.getfield 44, 3) := by decide +kernel
theorem d_Ce_cover_47 : decode b_Ce_cover 47 = .ok (.ineg, 1) := by decide +kernel
theorem d_Ce_cover_48 : decode b_Ce_cover 48 = .ok (.iload 4, 2) := by decide +kernel
theorem d_Ce_cover_50 : decode b_Ce_cover 50 = .ok (.imul, 1) := by decide +kernel
theorem d_Ce_cover_51 : decode b_Ce_cover 51 = .ok (.istore 8, 2) := by decide +kernel
theorem d_Ce_cover_53 : decode b_Ce_cover 53 = .ok (.aload_n 1, 1) := by decide +kernel
theorem d_Ce_cover_54 : decode b_Ce_cover 54 = .ok (.getfield 47, 3) := by decide +kernel
theorem d_Ce_cover_57 : decode b_Ce_cover 57 = .ok (.iload 4, 2) := by decide +kernel
theorem d_Ce_cover_59 : decode b_Ce_cover 59 = .ok (.invokestatic 50, 3) := by decide +kernel
theorem d_Ce_cover_62 : decode b_Ce_cover 62 = .ok (.imul, 1) := by decide +kernel
theorem d_Ce_cover_63 : decode b_Ce_cover 63 = .ok (.sipush 4096, 3) := by decide +kernel
theorem d_Ce_cover_66 : decode b_Ce_cover 66 = .ok (.iadd, 1) := by decide +kernel
theorem d_Ce_cover_67 : decode b_Ce_cover 67 = .ok (.istore 9, 2) := by decide +kernel
theorem d_Ce_cover_69 : decode b_Ce_cover 69 = .ok (.aload_n 1, 1) := by decide +kernel
theorem d_Ce_cover_70 : decode b_Ce_cover 70 = .ok (.getfield 47, 3) := by decide +kernel
theorem d_Ce_cover_73 : decode b_Ce_cover 73 = .ok (.iload_n 3, 1) := by decide +kernel
theorem d_Ce_cover_74 : decode b_Ce_cover 74 = .ok (.invokestatic 50, 3) := by decide +kernel
theorem d_Ce_cover_77 : decode b_Ce_cover 77 = .ok (.imul, 1) := by decide +kernel
theorem d_Ce_cover_78 : decode b_Ce_cover 78 = .ok (.sipush 4096, 3) := by decide +kernel
theorem d_Ce_cover_81 : decode b_Ce_cover 81 = .ok (.iadd, 1) := by decide +kernel
theorem d_Ce_cover_82 : decode b_Ce_cover 82 = .ok (.istore 10, 2) := by decide +kernel
theorem d_Ce_cover_84 : decode b_Ce_cover 84 = .ok (.aload_n 2, 1) := by decide +kernel
theorem d_Ce_cover_85 : decode b_Ce_cover 85 = .ok (.getfield 55, 3) := by decide +kernel
theorem d_Ce_cover_88 : decode b_Ce_cover 88 = .ok (.iload 5, 2) := by decide +kernel
theorem d_Ce_cover_90 : decode b_Ce_cover 90 = .ok (.iload 6, 2) := by decide +kernel
theorem d_Ce_cover_92 : decode b_Ce_cover 92 = .ok (.invokestatic 58, 3) := by decide +kernel
theorem d_Ce_cover_95 : decode b_Ce_cover 95 = .ok (.iadd, 1) := by decide +kernel
theorem d_Ce_cover_96 : decode b_Ce_cover 96 = .ok (.iload 9, 2) := by decide +kernel
theorem d_Ce_cover_98 : decode b_Ce_cover 98 = .ok (.isub, 1) := by decide +kernel
theorem d_Ce_cover_99 : decode b_Ce_cover 99 = .ok (.invokestatic 62, 3) := by decide +kernel
theorem d_Ce_cover_102 : decode b_Ce_cover 102 = .ok (.istore 11, 2) := by decide +kernel
theorem d_Ce_cover_104 : decode b_Ce_cover 104 = .ok (.aload_n 2, 1) := by decide +kernel
theorem d_Ce_cover_105 : decode b_Ce_cover 105 = .ok (.getfield 55, 3) := by decide +kernel
theorem d_Ce_cover_108 : decode b_Ce_cover 108 = .ok (.iload 5, 2) := by decide +kernel
theorem d_Ce_cover_110 : decode b_Ce_cover 110 = .ok (.iload 6, 2) := by decide +kernel
theorem d_Ce_cover_112 : decode b_Ce_cover 112 = .ok (.invokestatic 65, 3) := by decide +kernel
theorem d_Ce_cover_115 : decode b_Ce_cover 115 = .ok (.iadd, 1) := by decide +kernel
theorem d_Ce_cover_116 : decode b_Ce_cover 116 = .ok (.iload 9, 2) := by decide +kernel
theorem d_Ce_cover_118 : decode b_Ce_cover 118 = .ok (.iadd, 1) := by decide +kernel
theorem d_Ce_cover_119 : decode b_Ce_cover 119 = .ok (.invokestatic 68, 3) := by decide +kernel
theorem d_Ce_cover_122 : decode b_Ce_cover 122 = .ok (.istore 12, 2) := by decide +kernel
theorem d_Ce_cover_124 : decode b_Ce_cover 124 = .ok (.aload_n 2, 1) := by decide +kernel
theorem d_Ce_cover_125 : decode b_Ce_cover 125 = .ok (.getfield 71, 3) := by decide +kernel
theorem d_Ce_cover_128 : decode b_Ce_cover 128 = .ok (.iload 7, 2) := by decide +kernel
theorem d_Ce_cover_130 : decode b_Ce_cover 130 = .ok (.iload 8, 2) := by decide +kernel
theorem d_Ce_cover_132 : decode b_Ce_cover 132 = .ok (.invokestatic 58, 3) := by decide +kernel
theorem d_Ce_cover_135 : decode b_Ce_cover 135 = .ok (.iadd, 1) := by decide +kernel
theorem d_Ce_cover_136 : decode b_Ce_cover 136 = .ok (.iload 10, 2) := by decide +kernel
theorem d_Ce_cover_138 : decode b_Ce_cover 138 = .ok (.isub, 1) := by decide +kernel
theorem d_Ce_cover_139 : decode b_Ce_cover 139 = .ok (.invokestatic 62, 3) := by decide +kernel
theorem d_Ce_cover_142 : decode b_Ce_cover 142 = .ok (.istore 13, 2) := by decide +kernel
theorem d_Ce_cover_144 : decode b_Ce_cover 144 = .ok (.aload_n 2, 1) := by decide +kernel
theorem d_Ce_cover_145 : decode b_Ce_cover 145 = .ok (.getfield 71, 3) := by decide +kernel
theorem d_Ce_cover_148 : decode b_Ce_cover 148 = .ok (.iload 7, 2) := by decide +kernel
theorem d_Ce_cover_150 : decode b_Ce_cover 150 = .ok (.iload 8, 2) := by decide +kernel
theorem d_Ce_cover_152 : decode b_Ce_cover 152 = .ok (.invokestatic 65, 3) := by decide +kernel
theorem d_Ce_cover_155 : decode b_Ce_cover 155 = .ok (.iadd, 1) := by decide +kernel
theorem d_Ce_cover_156 : decode b_Ce_cover 156 = .ok (.iload 10, 2) := by decide +kernel
theorem d_Ce_cover_158 : decode b_Ce_cover 158 = .ok (.iadd, 1) := by decide +kernel
theorem d_Ce_cover_159 : decode b_Ce_cover 159 = .ok (.invokestatic 68, 3) := by decide +kernel
theorem d_Ce_cover_162 : decode b_Ce_cover 162 = .ok (.istore 14, 2) := by decide +kernel
theorem d_Ce_cover_164 : decode b_Ce_cover 164 = .ok (.iload 11, 2) := by decide +kernel
theorem d_Ce_cover_166 : decode b_Ce_cover 166 = .ok (.invokestatic 74, 3) := by decide +kernel
theorem d_Ce_cover_169 : decode b_Ce_cover 169 = .ok (.aload_n 2, 1) := by decide +kernel
theorem d_Ce_cover_170 : decode b_Ce_cover 170 = .ok (.getfield 55, 3) := by decide +kernel
theorem d_Ce_cover_173 : decode b_Ce_cover 173 = .ok (.isub, 1) := by decide +kernel
theorem d_Ce_cover_174 : decode b_Ce_cover 174 = .ok (.i2l, 1) := by decide +kernel
theorem d_Ce_cover_175 : decode b_Ce_cover 175 = .ok (.lstore 15, 2) := by decide +kernel
theorem d_Ce_cover_177 : decode b_Ce_cover 177 = .ok (.iload 13, 2) := by decide +kernel
theorem d_Ce_cover_179 : decode b_Ce_cover 179 = .ok (.istore 17, 2) := by decide +kernel
theorem d_Ce_cover_181 : decode b_Ce_cover 181 = .ok (.iload 17, 2) := by decide +kernel
theorem d_Ce_cover_183 : decode b_Ce_cover 183 = .ok (.iload 14, 2) := by decide +kernel
theorem d_Ce_cover_185 : decode b_Ce_cover 185 = .ok (.if_icmp .gt 109, 3) := by decide +kernel
theorem d_Ce_cover_188 : decode b_Ce_cover 188 = .ok (.iload 17, 2) := by decide +kernel
theorem d_Ce_cover_190 : decode b_Ce_cover 190 = .ok (.invokestatic 74, 3) := by decide +kernel
theorem d_Ce_cover_193 : decode b_Ce_cover 193 = .ok (.aload_n 2, 1) := by decide +kernel
theorem d_Ce_cover_194 : decode b_Ce_cover 194 = .ok (.getfield 71, 3) := by decide +kernel
theorem d_Ce_cover_197 : decode b_Ce_cover 197 = .ok (.isub, 1) := by decide +kernel
theorem d_Ce_cover_198 : decode b_Ce_cover 198 = .ok (.i2l, 1) := by decide +kernel
theorem d_Ce_cover_199 : decode b_Ce_cover 199 = .ok (.lstore 18, 2) := by decide +kernel
theorem d_Ce_cover_201 : decode b_Ce_cover 201 = .ok (.lload 15, 2) := by decide +kernel
theorem d_Ce_cover_203 : decode b_Ce_cover 203 = .ok (.iload_n 3, 1) := by decide +kernel
theorem d_Ce_cover_204 : decode b_Ce_cover 204 = .ok (.i2l, 1) := by decide +kernel
theorem d_Ce_cover_205 : decode b_Ce_cover 205 = .ok (.lmul, 1) := by decide +kernel
theorem d_Ce_cover_206 : decode b_Ce_cover 206 = .ok (.lload 18, 2) := by decide +kernel
theorem d_Ce_cover_208 : decode b_Ce_cover 208 = .ok (.iload 4, 2) := by decide +kernel
theorem d_Ce_cover_210 : decode b_Ce_cover 210 = .ok (.i2l, 1) := by decide +kernel
theorem d_Ce_cover_211 : decode b_Ce_cover 211 = .ok (.lmul, 1) := by decide +kernel
theorem d_Ce_cover_212 : decode b_Ce_cover 212 = .ok (.ladd, 1) := by decide +kernel
theorem d_Ce_cover_213 : decode b_Ce_cover 213 = .ok (.lstore 20, 2) := by decide +kernel
theorem d_Ce_cover_215 : decode b_Ce_cover 215 = .ok (.lload 18, 2) := by decide +kernel
theorem d_Ce_cover_217 : decode b_Ce_cover 217 = .ok (.iload_n 3, 1) := by decide +kernel
theorem d_Ce_cover_218 : decode b_Ce_cover 218 = .ok (.i2l, 1) := by decide +kernel
theorem d_Ce_cover_219 : decode b_Ce_cover 219 = .ok (.lmul, 1) := by decide +kernel
theorem d_Ce_cover_220 : decode b_Ce_cover 220 = .ok (.lload 15, 2) := by decide +kernel
theorem d_Ce_cover_222 : decode b_Ce_cover 222 = .ok (.iload 4, 2) := by decide +kernel
theorem d_Ce_cover_224 : decode b_Ce_cover 224 = .ok (.i2l, 1) := by decide +kernel
theorem d_Ce_cover_225 : decode b_Ce_cover 225 = .ok (.lmul, 1) := by decide +kernel
theorem d_Ce_cover_226 : decode b_Ce_cover 226 = .ok (.lsub, 1) := by decide +kernel
theorem d_Ce_cover_227 : decode b_Ce_cover 227 = .ok (.lstore 22, 2) := by decide +kernel
theorem d_Ce_cover_229 : decode b_Ce_cover 229 = .ok (.iload 11, 2) := by decide +kernel
theorem d_Ce_cover_231 : decode b_Ce_cover 231 = .ok (.istore 24, 2) := by decide +kernel
theorem d_Ce_cover_233 : decode b_Ce_cover 233 = .ok (.iload 24, 2) := by decide +kernel
theorem d_Ce_cover_235 : decode b_Ce_cover 235 = .ok (.iload 12, 2) := by decide +kernel
theorem d_Ce_cover_237 : decode b_Ce_cover 237 = .ok (.if_icmp .gt 51, 3) := by decide +kernel
theorem d_Ce_cover_240 : decode b_Ce_cover 240 = .ok (.aload_n 1, 1) := by decide +kernel
theorem d_Ce_cover_241 : decode b_Ce_cover 241 = .ok (.lload 20, 2) := by decide +kernel
theorem d_Ce_cover_243 : decode b_Ce_cover 243 = .ok (.lload 22, 2) := by decide +kernel
theorem d_Ce_cover_245 : decode b_Ce_cover 245 = .ok (.invokevirtual 77, 3) := by decide +kernel
theorem d_Ce_cover_248 : decode b_Ce_cover 248 = .ok (.ifCond .eq 11, 3) := by decide +kernel
theorem d_Ce_cover_251 : decode b_Ce_cover 251 = .ok (.aload_n 0, 1) := by decide +kernel
theorem d_Ce_cover_252 : decode b_Ce_cover 252 = .ok (.iload 24, 2) := by decide +kernel
theorem d_Ce_cover_254 : decode b_Ce_cover 254 = .ok (.iload 17, 2) := by decide +kernel
theorem d_Ce_cover_256 : decode b_Ce_cover 256 = .ok (.invokevirtual 81, 3) := by decide +kernel
theorem d_Ce_cover_259 : decode b_Ce_cover 259 = .ok (.lload 20, 2) := by decide +kernel
theorem d_Ce_cover_261 : decode b_Ce_cover 261 = .ok (.ldc2_w 85, 3) := by decide +kernel
theorem d_Ce_cover_264 : decode b_Ce_cover 264 = .ok (.iload_n 3, 1) := by decide +kernel
theorem d_Ce_cover_265 : decode b_Ce_cover 265 = .ok (.i2l, 1) := by decide +kernel
theorem d_Ce_cover_266 : decode b_Ce_cover 266 = .ok (.lmul, 1) := by decide +kernel
theorem d_Ce_cover_267 : decode b_Ce_cover 267 = .ok (.ladd, 1) := by decide +kernel
theorem d_Ce_cover_268 : decode b_Ce_cover 268 = .ok (.lstore 20, 2) := by decide +kernel
theorem d_Ce_cover_270 : decode b_Ce_cover 270 = .ok (.lload 22, 2) := by decide +kernel
theorem d_Ce_cover_272 : decode b_Ce_cover 272 = .ok (.ldc2_w 85, 3) := by decide +kernel
theorem d_Ce_cover_275 : decode b_Ce_cover 275 = .ok (.iload 4, 2) := by decide +kernel
theorem d_Ce_cover_277 : decode b_Ce_cover 277 = .ok (.i2l, 1) := by decide +kernel
theorem d_Ce_cover_278 : decode b_Ce_cover 278 = .ok (.lmul, 1) := by decide +kernel
theorem d_Ce_cover_279 : decode b_Ce_cover 279 = .ok (.lsub, 1) := by decide +kernel
theorem d_Ce_cover_280 : decode b_Ce_cover 280 = .ok (.lstore 22, 2) := by decide +kernel
theorem d_Ce_cover_282 : decode b_Ce_cover 282 = .ok (.iinc 24 1, 3) := by decide +kernel
theorem d_Ce_cover_285 : decode b_Ce_cover 285 = .ok (.goto (-52), 3) := by decide +kernel
theorem d_Ce_cover_288 : decode b_Ce_cover 288 = .ok (.iinc 17 1, 3) := by decide +kernel
theorem d_Ce_cover_291 : decode b_Ce_cover 291 = .ok (.goto (-110), 3) := by decide +kernel
theorem d_Ce_cover_294 : decode b_Ce_cover 294 = .ok (.return_, 1) := by decide +kernel
theorem d_Ce_mark_0 : decode b_Ce_mark 0 = .ok (.iload_n 2, 1) := by decide +kernel
theorem d_Ce_mark_1 : decode b_Ce_mark 1 = .ok (.bipush 63, 2) := by decide +kernel
theorem d_Ce_mark_3 : decode b_Ce_mark 3 = .ok (.iand, 1) := by decide +kernel
theorem d_Ce_mark_4 : decode b_Ce_mark 4 = .ok (.istore_n 3, 1) := by decide +kernel
theorem d_Ce_mark_5 : decode b_Ce_mark 5 = .ok (.lconst 1, 1) := by decide +kernel
theorem d_Ce_mark_6 : decode b_Ce_mark 6 = .ok (.iload_n 1, 1) := by decide +kernel
theorem d_Ce_mark_7 : decode b_Ce_mark 7 = .ok (.bipush 63, 2) := by decide +kernel
theorem d_Ce_mark_9 : decode b_Ce_mark 9 = .ok (.iand, 1) := by decide +kernel
theorem d_Ce_mark_10 : decode b_Ce_mark 10 = .ok (.lshl, 1) := by decide +kernel
theorem d_Ce_mark_11 : decode b_Ce_mark 11 = .ok (.lstore 4, 2) := by decide +kernel
theorem d_Ce_mark_13 : decode b_Ce_mark 13 = .ok (.aload_n 0, 1) := by decide +kernel
theorem d_Ce_mark_14 : decode b_Ce_mark 14 = .ok (.getfield 11, 3) := by decide +kernel
theorem d_Ce_mark_17 : decode b_Ce_mark 17 = .ok (.iload_n 3, 1) := by decide +kernel
theorem d_Ce_mark_18 : decode b_Ce_mark 18 = .ok (.laload, 1) := by decide +kernel
theorem d_Ce_mark_19 : decode b_Ce_mark 19 = .ok (.lload 4, 2) := by decide +kernel
theorem d_Ce_mark_21 : decode b_Ce_mark 21 = .ok (.land, 1) := by decide +kernel
theorem d_Ce_mark_22 : decode b_Ce_mark 22 = .ok (.lconst 0, 1) := by decide +kernel
theorem d_Ce_mark_23 : decode b_Ce_mark 23 = .ok (.lcmp, 1) := by decide +kernel
theorem d_Ce_mark_24 : decode b_Ce_mark 24 = .ok (.ifCond .ne 24, 3) := by decide +kernel
theorem d_Ce_mark_27 : decode b_Ce_mark 27 = .ok (.aload_n 0, 1) := by decide +kernel
theorem d_Ce_mark_28 : decode b_Ce_mark 28 = .ok (.getfield 11, 3) := by decide +kernel
theorem d_Ce_mark_31 : decode b_Ce_mark 31 = .ok (.iload_n 3, 1) := by decide +kernel
theorem d_Ce_mark_32 : decode b_Ce_mark 32 = .ok (.dup2, 1) := by decide +kernel
theorem d_Ce_mark_33 : decode b_Ce_mark 33 = .ok (.laload, 1) := by decide +kernel
theorem d_Ce_mark_34 : decode b_Ce_mark 34 = .ok (.lload 4, 2) := by decide +kernel
theorem d_Ce_mark_36 : decode b_Ce_mark 36 = .ok (.lor, 1) := by decide +kernel
theorem d_Ce_mark_37 : decode b_Ce_mark 37 = .ok (.lastore, 1) := by decide +kernel
theorem d_Ce_mark_38 : decode b_Ce_mark 38 = .ok (.aload_n 0, 1) := by decide +kernel
theorem d_Ce_mark_39 : decode b_Ce_mark 39 = .ok (.dup, 1) := by decide +kernel
theorem d_Ce_mark_40 : decode b_Ce_mark 40 = .ok (.getfield 21, 3) := by decide +kernel
theorem d_Ce_mark_43 : decode b_Ce_mark 43 = .ok (.iconst 1, 1) := by decide +kernel
theorem d_Ce_mark_44 : decode b_Ce_mark 44 = .ok (.iadd, 1) := by decide +kernel
theorem d_Ce_mark_45 : decode b_Ce_mark 45 = .ok (.putfield 21, 3) := by decide +kernel
theorem d_Ce_mark_48 : decode b_Ce_mark 48 = .ok (.return_, 1) := by decide +kernel
theorem d_Ce_middleOf_0 : decode b_Ce_middleOf 0 = .ok (.iload_n 0, 1) := by decide +kernel
theorem d_Ce_middleOf_1 : decode b_Ce_middleOf 1 = .ok (.ldc 87, 2) := by decide +kernel
theorem d_Ce_middleOf_3 : decode b_Ce_middleOf 3 = .ok (.imul, 1) := by decide +kernel
theorem d_Ce_middleOf_4 : decode b_Ce_middleOf 4 = .ok (.sipush 16384, 3) := by decide +kernel
theorem d_Ce_middleOf_7 : decode b_Ce_middleOf 7 = .ok (.iadd, 1) := by decide +kernel
theorem d_Ce_middleOf_8 : decode b_Ce_middleOf 8 = .ok (.ireturn, 1) := by decide +kernel
theorem d_Ce_firstFrom_0 : decode b_Ce_firstFrom 0 = .ok (.bipush (-32), 2) := by decide +kernel
theorem d_Ce_firstFrom_2 : decode b_Ce_firstFrom 2 = .ok (.iload_n 0, 1) := by decide +kernel
theorem d_Ce_firstFrom_3 : decode b_Ce_firstFrom 3 = .ok (.sipush 16384, 3) := by decide +kernel
theorem d_Ce_firstFrom_6 : decode b_Ce_firstFrom 6 = .ok (.isub, 1) := by decide +kernel
theorem d_Ce_firstFrom_7 : decode b_Ce_firstFrom 7 = .ok (.ldc 87, 2) := by decide +kernel
theorem d_Ce_firstFrom_9 : decode b_Ce_firstFrom 9 = .ok (.iadd, 1) := by decide +kernel
theorem d_Ce_firstFrom_10 : decode b_Ce_firstFrom 10 = .ok (.iconst 1, 1) := by decide +kernel
theorem d_Ce_firstFrom_11 : decode b_Ce_firstFrom 11 = .ok (.isub, 1) := by decide +kernel
theorem d_Ce_firstFrom_12 : decode b_Ce_firstFrom 12 = .ok (.ldc 87, 2) := by decide +kernel
theorem d_Ce_firstFrom_14 : decode b_Ce_firstFrom 14 = .ok (.invokestatic 88, 3) := by decide +kernel
theorem d_Ce_firstFrom_17 : decode b_Ce_firstFrom 17 = .ok (.invokestatic 65, 3) := by decide +kernel
theorem d_Ce_firstFrom_20 : decode b_Ce_firstFrom 20 = .ok (.ireturn, 1) := by decide +kernel
theorem d_Ce_lastUpTo_0 : decode b_Ce_lastUpTo 0 = .ok (.bipush 31, 2) := by decide +kernel
theorem d_Ce_lastUpTo_2 : decode b_Ce_lastUpTo 2 = .ok (.iload_n 0, 1) := by decide +kernel
theorem d_Ce_lastUpTo_3 : decode b_Ce_lastUpTo 3 = .ok (.sipush 16384, 3) := by decide +kernel
theorem d_Ce_lastUpTo_6 : decode b_Ce_lastUpTo 6 = .ok (.isub, 1) := by decide +kernel
theorem d_Ce_lastUpTo_7 : decode b_Ce_lastUpTo 7 = .ok (.ldc 87, 2) := by decide +kernel
theorem d_Ce_lastUpTo_9 : decode b_Ce_lastUpTo 9 = .ok (.invokestatic 88, 3) := by decide +kernel
theorem d_Ce_lastUpTo_12 : decode b_Ce_lastUpTo 12 = .ok (.invokestatic 58, 3) := by decide +kernel
theorem d_Ce_lastUpTo_15 : decode b_Ce_lastUpTo 15 = .ok (.ireturn, 1) := by decide +kernel
theorem d_Di_round_0 : decode b_Di_round 0 = .ok (.iload_n 0, 1) := by decide +kernel
theorem d_Di_round_1 : decode b_Di_round 1 = .ok (.bipush 63, 2) := by decide +kernel
theorem d_Di_round_3 : decode b_Di_round 3 = .ok (.iand, 1) := by decide +kernel
theorem d_Di_round_4 : decode b_Di_round 4 = .ok (.ireturn, 1) := by decide +kernel
theorem d_Di_dx_0 : decode b_Di_dx 0 = .ok (.getstatic 9, 3) := by decide +kernel
theorem d_Di_dx_3 : decode b_Di_dx 3 = .ok (.iload_n 0, 1) := by decide +kernel
theorem d_Di_dx_4 : decode b_Di_dx 4 = .ok (.bipush 63, 2) := by decide +kernel
theorem d_Di_dx_6 : decode b_Di_dx 6 = .ok (.iand, 1) := by decide +kernel
theorem d_Di_dx_7 : decode b_Di_dx 7 = .ok (.iaload, 1) := by decide +kernel
theorem d_Di_dx_8 : decode b_Di_dx 8 = .ok (.ireturn, 1) := by decide +kernel
theorem d_Di_dy_0 : decode b_Di_dy 0 = .ok (.getstatic 9, 3) := by decide +kernel
theorem d_Di_dy_3 : decode b_Di_dy 3 = .ok (.iload_n 0, 1) := by decide +kernel
theorem d_Di_dy_4 : decode b_Di_dy 4 = .ok (.bipush 16, 2) := by decide +kernel
theorem d_Di_dy_6 : decode b_Di_dy 6 = .ok (.isub, 1) := by decide +kernel
theorem d_Di_dy_7 : decode b_Di_dy 7 = .ok (.bipush 63, 2) := by decide +kernel
theorem d_Di_dy_9 : decode b_Di_dy 9 = .ok (.iand, 1) := by decide +kernel
theorem d_Di_dy_10 : decode b_Di_dy 10 = .ok (.iaload, 1) := by decide +kernel
theorem d_Di_dy_11 : decode b_Di_dy 11 = .ok (.ireturn, 1) := by decide +kernel
theorem d_Di_askew_0 : decode b_Di_askew 0 = .ok (.iload_n 0, 1) := by decide +kernel
theorem d_Di_askew_1 : decode b_Di_askew 1 = .ok (.iload_n 1, 1) := by decide +kernel
theorem d_Di_askew_2 : decode b_Di_askew 2 = .ok (.isub, 1) := by decide +kernel
theorem d_Di_askew_3 : decode b_Di_askew 3 = .ok (.bipush 32, 2) := by decide +kernel
theorem d_Di_askew_5 : decode b_Di_askew 5 = .ok (.iadd, 1) := by decide +kernel
theorem d_Di_askew_6 : decode b_Di_askew 6 = .ok (.bipush 63, 2) := by decide +kernel
theorem d_Di_askew_8 : decode b_Di_askew 8 = .ok (.iand, 1) := by decide +kernel
theorem d_Di_askew_9 : decode b_Di_askew 9 = .ok (.bipush 32, 2) := by decide +kernel
theorem d_Di_askew_11 : decode b_Di_askew 11 = .ok (.isub, 1) := by decide +kernel
theorem d_Di_askew_12 : decode b_Di_askew 12 = .ok (.ireturn, 1) := by decide +kernel
theorem d_Pl_init_0 : decode b_Pl_init 0 = .ok (.aload_n 0, 1) := by decide +kernel
theorem d_Pl_init_1 : decode b_Pl_init 1 = .ok (.invokespecial 3, 3) := by decide +kernel
theorem d_Pl_init_4 : decode b_Pl_init 4 = .ok (.aload_n 0, 1) := by decide +kernel
theorem d_Pl_init_5 : decode b_Pl_init 5 = .ok (.bipush 6, 2) := by decide +kernel
theorem d_Pl_init_7 : decode b_Pl_init 7 = .ok (.newarray .int, 2) := by decide +kernel
theorem d_Pl_init_9 : decode b_Pl_init 9 = .ok (.putfield 9, 3) := by decide +kernel
theorem d_Pl_init_12 : decode b_Pl_init 12 = .ok (.aload_n 0, 1) := by decide +kernel
theorem d_Pl_init_13 : decode b_Pl_init 13 = .ok (.bipush 6, 2) := by decide +kernel
theorem d_Pl_init_15 : decode b_Pl_init 15 = .ok (.newarray .int, 2) := by decide +kernel
theorem d_Pl_init_17 : decode b_Pl_init 17 = .ok (.putfield 15, 3) := by decide +kernel
theorem d_Pl_init_20 : decode b_Pl_init 20 = .ok (.aload_n 0, 1) := by decide +kernel
theorem d_Pl_init_21 : decode b_Pl_init 21 = .ok (.bipush 6, 2) := by decide +kernel
theorem d_Pl_init_23 : decode b_Pl_init 23 = .ok (.newarray .boolean, 2) := by decide +kernel
theorem d_Pl_init_25 : decode b_Pl_init 25 = .ok (.putfield 18, 3) := by decide +kernel
theorem d_Pl_init_28 : decode b_Pl_init 28 = .ok (.return_, 1) := by decide +kernel
theorem d_Pl_add_0 : decode b_Pl_add 0 = .ok (.aload_n 0, 1) := by decide +kernel
theorem d_Pl_add_1 : decode b_Pl_add 1 = .ok (.getfield 22, 3) := by decide +kernel
theorem d_Pl_add_4 : decode b_Pl_add 4 = .ok (.bipush 6, 2) := by decide +kernel
theorem d_Pl_add_6 : decode b_Pl_add 6 = .ok (.if_icmp .lt 5, 3) := by decide +kernel
theorem d_Pl_add_9 : decode b_Pl_add 9 = .ok (.iconst 0, 1) := by decide +kernel
theorem d_Pl_add_10 : decode b_Pl_add 10 = .ok (.ireturn, 1) := by decide +kernel
theorem d_Pl_add_11 : decode b_Pl_add 11 = .ok (.aload_n 0, 1) := by decide +kernel
theorem d_Pl_add_12 : decode b_Pl_add 12 = .ok (.getfield 9, 3) := by decide +kernel
theorem d_Pl_add_15 : decode b_Pl_add 15 = .ok (.aload_n 0, 1) := by decide +kernel
theorem d_Pl_add_16 : decode b_Pl_add 16 = .ok (.getfield 22, 3) := by decide +kernel
theorem d_Pl_add_19 : decode b_Pl_add 19 = .ok (.iload_n 1, 1) := by decide +kernel
theorem d_Pl_add_20 : decode b_Pl_add 20 = .ok (.iastore, 1) := by decide +kernel
theorem d_Pl_add_21 : decode b_Pl_add 21 = .ok (.aload_n 0, 1) := by decide +kernel
theorem d_Pl_add_22 : decode b_Pl_add 22 = .ok (.getfield 15, 3) := by decide +kernel
theorem d_Pl_add_25 : decode b_Pl_add 25 = .ok (.aload_n 0, 1) := by decide +kernel
theorem d_Pl_add_26 : decode b_Pl_add 26 = .ok (.getfield 22, 3) := by decide +kernel
theorem d_Pl_add_29 : decode b_Pl_add 29 = .ok (.iload_n 2, 1) := by decide +kernel
theorem d_Pl_add_30 : decode b_Pl_add 30 = .ok (.iastore, 1) := by decide +kernel
theorem d_Pl_add_31 : decode b_Pl_add 31 = .ok (.aload_n 0, 1) := by decide +kernel
theorem d_Pl_add_32 : decode b_Pl_add 32 = .ok (.getfield 18, 3) := by decide +kernel
theorem d_Pl_add_35 : decode b_Pl_add 35 = .ok (.aload_n 0, 1) := by decide +kernel
theorem d_Pl_add_36 : decode b_Pl_add 36 = .ok (.getfield 22, 3) := by decide +kernel
theorem d_Pl_add_39 : decode b_Pl_add 39 = .ok (.iload_n 3, 1) := by decide +kernel
theorem d_Pl_add_40 : decode b_Pl_add 40 = .ok (.bastore, 1) := by decide +kernel
theorem d_Pl_add_41 : decode b_Pl_add 41 = .ok (.aload_n 0, 1) := by decide +kernel
theorem d_Pl_add_42 : decode b_Pl_add 42 = .ok (.dup, 1) := by decide +kernel
theorem d_Pl_add_43 : decode b_Pl_add 43 = .ok (.getfield 22, 3) := by decide +kernel
theorem d_Pl_add_46 : decode b_Pl_add 46 = .ok (.iconst 1, 1) := by decide +kernel
theorem d_Pl_add_47 : decode b_Pl_add 47 = .ok (.iadd, 1) := by decide +kernel
theorem d_Pl_add_48 : decode b_Pl_add 48 = .ok (.putfield 22, 3) := by decide +kernel
theorem d_Pl_add_51 : decode b_Pl_add 51 = .ok (.iconst 1, 1) := by decide +kernel
theorem d_Pl_add_52 : decode b_Pl_add 52 = .ok (.ireturn, 1) := by decide +kernel
theorem d_Po_init_0 : decode b_Po_init 0 = .ok (.aload_n 0, 1) := by decide +kernel
theorem d_Po_init_1 : decode b_Po_init 1 = .ok (.invokespecial 1, 3) := by decide +kernel
theorem d_Po_init_4 : decode b_Po_init 4 = .ok (.return_, 1) := by decide +kernel
theorem d_Ru_init_0 : decode b_Ru_init 0 = .ok (.aload_n 0, 1) := by decide +kernel
theorem d_Ru_init_1 : decode b_Ru_init 1 = .ok (.invokespecial 3, 3) := by decide +kernel
theorem d_Ru_init_4 : decode b_Ru_init 4 = .ok (.aload_n 0, 1) := by decide +kernel
theorem d_Ru_init_5 : decode b_Ru_init 5 = .ok (.iconst 3, 1) := by decide +kernel
theorem d_Ru_init_6 : decode b_Ru_init 6 = .ok (.anewarray 9, 3) := by decide +kernel
theorem d_Ru_init_9 : decode b_Ru_init 9 = .ok (.dup, 1) := by decide +kernel
theorem d_Ru_init_10 : decode b_Ru_init 10 = .ok (.iconst 0, 1) := by decide +kernel
theorem d_Ru_init_11 : decode b_Ru_init 11 = .ok (.new 9, 3) := by decide +kernel
theorem d_Ru_init_14 : decode b_Ru_init 14 = .ok (.dup, 1) := by decide +kernel
theorem d_Ru_init_15 : decode b_Ru_init 15 = .ok (.invokespecial 11, 3) := by decide +kernel
theorem d_Ru_init_18 : decode b_Ru_init 18 = .ok (.aastore, 1) := by decide +kernel
theorem d_Ru_init_19 : decode b_Ru_init 19 = .ok (.dup, 1) := by decide +kernel
theorem d_Ru_init_20 : decode b_Ru_init 20 = .ok (.iconst 1, 1) := by decide +kernel
theorem d_Ru_init_21 : decode b_Ru_init 21 = .ok (.new 9, 3) := by decide +kernel
theorem d_Ru_init_24 : decode b_Ru_init 24 = .ok (.dup, 1) := by decide +kernel
theorem d_Ru_init_25 : decode b_Ru_init 25 = .ok (.invokespecial 11, 3) := by decide +kernel
theorem d_Ru_init_28 : decode b_Ru_init 28 = .ok (.aastore, 1) := by decide +kernel
theorem d_Ru_init_29 : decode b_Ru_init 29 = .ok (.dup, 1) := by decide +kernel
theorem d_Ru_init_30 : decode b_Ru_init 30 = .ok (.iconst 2, 1) := by decide +kernel
theorem d_Ru_init_31 : decode b_Ru_init 31 = .ok (.new 9, 3) := by decide +kernel
theorem d_Ru_init_34 : decode b_Ru_init 34 = .ok (.dup, 1) := by decide +kernel
theorem d_Ru_init_35 : decode b_Ru_init 35 = .ok (.invokespecial 11, 3) := by decide +kernel
theorem d_Ru_init_38 : decode b_Ru_init 38 = .ok (.aastore, 1) := by decide +kernel
theorem d_Ru_init_39 : decode b_Ru_init 39 = .ok (.putfield 12, 3) := by decide +kernel
theorem d_Ru_init_42 : decode b_Ru_init 42 = .ok (.aload_n 0, 1) := by decide +kernel
theorem d_Ru_init_43 : decode b_Ru_init 43 = .ok (.new 18, 3) := by decide +kernel
theorem d_Ru_init_46 : decode b_Ru_init 46 = .ok (.dup, 1) := by decide +kernel
theorem d_Ru_init_47 : decode b_Ru_init 47 = .ok (.invokespecial 20, 3) := by decide +kernel
theorem d_Ru_init_50 : decode b_Ru_init 50 = .ok (.putfield 21, 3) := by decide +kernel
theorem d_Ru_init_53 : decode b_Ru_init 53 = .ok (.aload_n 0, 1) := by decide +kernel
theorem d_Ru_init_54 : decode b_Ru_init 54 = .ok (.iconst (-1), 1) := by decide +kernel
theorem d_Ru_init_55 : decode b_Ru_init 55 = .ok (.putfield 25, 3) := by decide +kernel
theorem d_Ru_init_58 : decode b_Ru_init 58 = .ok (.aload_n 0, 1) := by decide +kernel
theorem d_Ru_init_59 : decode b_Ru_init 59 = .ok (.iconst (-1), 1) := by decide +kernel
theorem d_Ru_init_60 : decode b_Ru_init 60 = .ok (.putfield 29, 3) := by decide +kernel
theorem d_Ru_init_63 : decode b_Ru_init 63 = .ok (.aload_n 0, 1) := by decide +kernel
theorem d_Ru_init_64 : decode b_Ru_init 64 = .ok (.iconst (-1), 1) := by decide +kernel
theorem d_Ru_init_65 : decode b_Ru_init 65 = .ok (.putfield 32, 3) := by decide +kernel
theorem d_Ru_init_68 : decode b_Ru_init 68 = .ok (.aload_n 0, 1) := by decide +kernel
theorem d_Ru_init_69 : decode b_Ru_init 69 = .ok (.aload_n 1, 1) := by decide +kernel
theorem d_Ru_init_70 : decode b_Ru_init 70 = .ok (.putfield 35, 3) := by decide +kernel
theorem d_Ru_init_73 : decode b_Ru_init 73 = .ok (.return_, 1) := by decide +kernel
theorem d_Ru_begin_0 : decode b_Ru_begin 0 = .ok (.aload_n 0, 1) := by decide +kernel
theorem d_Ru_begin_1 : decode b_Ru_begin 1 = .ok (.iconst 0, 1) := by decide +kernel
theorem d_Ru_begin_2 : decode b_Ru_begin 2 = .ok (.putfield 39, 3) := by decide +kernel
theorem d_Ru_begin_5 : decode b_Ru_begin 5 = .ok (.aload_n 0, 1) := by decide +kernel
theorem d_Ru_begin_6 : decode b_Ru_begin 6 = .ok (.iconst 0, 1) := by decide +kernel
theorem d_Ru_begin_7 : decode b_Ru_begin 7 = .ok (.putfield 42, 3) := by decide +kernel
theorem d_Ru_begin_10 : decode b_Ru_begin 10 = .ok (.aload_n 0, 1) := by decide +kernel
theorem d_Ru_begin_11 : decode b_Ru_begin 11 = .ok (.iconst (-1), 1) := by decide +kernel
theorem d_Ru_begin_12 : decode b_Ru_begin 12 = .ok (.putfield 25, 3) := by decide +kernel
theorem d_Ru_begin_15 : decode b_Ru_begin 15 = .ok (.aload_n 0, 1) := by decide +kernel
theorem d_Ru_begin_16 : decode b_Ru_begin 16 = .ok (.iconst (-1), 1) := by decide +kernel
theorem d_Ru_begin_17 : decode b_Ru_begin 17 = .ok (.putfield 29, 3) := by decide +kernel
theorem d_Ru_begin_20 : decode b_Ru_begin 20 = .ok (.aload_n 0, 1) := by decide +kernel
theorem d_Ru_begin_21 : decode b_Ru_begin 21 = .ok (.iconst (-1), 1) := by decide +kernel
theorem d_Ru_begin_22 : decode b_Ru_begin 22 = .ok (.putfield 32, 3) := by decide +kernel
theorem d_Ru_begin_25 : decode b_Ru_begin 25 = .ok (.aload_n 0, 1) := by decide +kernel
theorem d_Ru_begin_26 : decode b_Ru_begin 26 = .ok (.getfield 21, 3) := by decide +kernel
theorem d_Ru_begin_29 : decode b_Ru_begin 29 = .ok (.invokevirtual 46, 3) := by decide +kernel
theorem d_Ru_begin_32 : decode b_Ru_begin 32 = .ok (.iconst 0, 1) := by decide +kernel
theorem d_Ru_begin_33 : decode b_Ru_begin 33 = .ok (.istore_n 1, 1) := by decide +kernel
theorem d_Ru_begin_34 : decode b_Ru_begin 34 = .ok (.iload_n 1, 1) := by decide +kernel
theorem d_Ru_begin_35 : decode b_Ru_begin 35 = .ok (.aload_n 0, 1) := by decide +kernel
theorem d_Ru_begin_36 : decode b_Ru_begin 36 = .ok (.getfield 35, 3) := by decide +kernel
theorem d_Ru_begin_39 : decode b_Ru_begin 39 = .ok (.getfield 49, 3) := by decide +kernel
theorem d_Ru_begin_42 : decode b_Ru_begin 42 = .ok (.if_icmp .ge 37, 3) := by decide +kernel
theorem d_Ru_begin_45 : decode b_Ru_begin 45 = .ok (.aload_n 0, 1) := by decide +kernel
theorem d_Ru_begin_46 : decode b_Ru_begin 46 = .ok (.getfield 12, 3) := by decide +kernel
theorem d_Ru_begin_49 : decode b_Ru_begin 49 = .ok (.iload_n 1, 1) := by decide +kernel
theorem d_Ru_begin_50 : decode b_Ru_begin 50 = .ok (.aaload, 1) := by decide +kernel
theorem d_Ru_begin_51 : decode b_Ru_begin 51 = .ok (.astore_n 2, 1) := by decide +kernel
theorem d_Ru_begin_52 : decode b_Ru_begin 52 = .ok (.aload_n 2, 1) := by decide +kernel
theorem d_Ru_begin_53 : decode b_Ru_begin 53 = .ok (.aload_n 0, 1) := by decide +kernel
theorem d_Ru_begin_54 : decode b_Ru_begin 54 = .ok (.getfield 35, 3) := by decide +kernel
theorem d_Ru_begin_57 : decode b_Ru_begin 57 = .ok (.getfield 54, 3) := by decide +kernel
theorem d_Ru_begin_60 : decode b_Ru_begin 60 = .ok (.putfield 57, 3) := by decide +kernel
theorem d_Ru_begin_63 : decode b_Ru_begin 63 = .ok (.aload_n 2, 1) := by decide +kernel
theorem d_Ru_begin_64 : decode b_Ru_begin 64 = .ok (.iconst 0, 1) := by decide +kernel
end
section
theorem d_Ru_begin_65 : decode b_Ru_begin 65 = .ok (.putfield 60, 3) := by decide +kernel
theorem d_Ru_begin_68 : decode b_Ru_begin 68 = .ok (.aload_n 2, 1) := by decide +kernel
theorem d_Ru_begin_69 : decode b_Ru_begin 69 = .ok (.iconst 0, 1) := by decide +kernel
theorem d_Ru_begin_70 : decode b_Ru_begin 70 = .ok (.putfield 63, 3) := by decide +kernel
theorem d_Ru_begin_73 : decode b_Ru_begin 73 = .ok (.iinc 1 1, 3) := by decide +kernel
theorem d_Ru_begin_76 : decode b_Ru_begin 76 = .ok (.goto (-42), 3) := by decide +kernel
theorem d_Ru_begin_79 : decode b_Ru_begin 79 = .ok (.aload_n 0, 1) := by decide +kernel
theorem d_Ru_begin_80 : decode b_Ru_begin 80 = .ok (.getfield 12, 3) := by decide +kernel
theorem d_Ru_begin_83 : decode b_Ru_begin 83 = .ok (.iconst 0, 1) := by decide +kernel
theorem d_Ru_begin_84 : decode b_Ru_begin 84 = .ok (.aaload, 1) := by decide +kernel
theorem d_Ru_begin_85 : decode b_Ru_begin 85 = .ok (.aload_n 0, 1) := by decide +kernel
theorem d_Ru_begin_86 : decode b_Ru_begin 86 = .ok (.getfield 35, 3) := by decide +kernel
theorem d_Ru_begin_89 : decode b_Ru_begin 89 = .ok (.getfield 66, 3) := by decide +kernel
theorem d_Ru_begin_92 : decode b_Ru_begin 92 = .ok (.sipush 4096, 3) := by decide +kernel
theorem d_Ru_begin_95 : decode b_Ru_begin 95 = .ok (.imul, 1) := by decide +kernel
theorem d_Ru_begin_96 : decode b_Ru_begin 96 = .ok (.putfield 69, 3) := by decide +kernel
theorem d_Ru_begin_99 : decode b_Ru_begin 99 = .ok (.aload_n 0, 1) := by decide +kernel
theorem d_Ru_begin_100 : decode b_Ru_begin 100 = .ok (.getfield 12, 3) := by decide +kernel
theorem d_Ru_begin_103 : decode b_Ru_begin 103 = .ok (.iconst 0, 1) := by decide +kernel
theorem d_Ru_begin_104 : decode b_Ru_begin 104 = .ok (.aaload, 1) := by decide +kernel
theorem d_Ru_begin_105 : decode b_Ru_begin 105 = .ok (.aload_n 0, 1) := by decide +kernel
theorem d_Ru_begin_106 : decode b_Ru_begin 106 = .ok (.getfield 35, 3) := by decide +kernel
theorem d_Ru_begin_109 : decode b_Ru_begin 109 = .ok (.getfield 72, 3) := by decide +kernel
theorem d_Ru_begin_112 : decode b_Ru_begin 112 = .ok (.sipush 4096, 3) := by decide +kernel
theorem d_Ru_begin_115 : decode b_Ru_begin 115 = .ok (.imul, 1) := by decide +kernel
theorem d_Ru_begin_116 : decode b_Ru_begin 116 = .ok (.putfield 75, 3) := by decide +kernel
theorem d_Ru_begin_119 : decode b_Ru_begin 119 = .ok (.aload_n 0, 1) := by decide +kernel
theorem d_Ru_begin_120 : decode b_Ru_begin 120 = .ok (.invokevirtual 78, 3) := by decide +kernel
theorem d_Ru_begin_123 : decode b_Ru_begin 123 = .ok (.aload_n 0, 1) := by decide +kernel
theorem d_Ru_begin_124 : decode b_Ru_begin 124 = .ok (.invokevirtual 81, 3) := by decide +kernel
theorem d_Ru_begin_127 : decode b_Ru_begin 127 = .ok (.return_, 1) := by decide +kernel
theorem d_Ru_follow_0 : decode b_Ru_follow 0 = .ok (.aload_n 0, 1) := by decide +kernel
theorem d_Ru_follow_1 : decode b_Ru_follow 1 = .ok (.invokevirtual 84, 3) := by decide +kernel
theorem d_Ru_follow_4 : decode b_Ru_follow 4 = .ok (.iconst 0, 1) := by decide +kernel
theorem d_Ru_follow_5 : decode b_Ru_follow 5 = .ok (.istore_n 2, 1) := by decide +kernel
theorem d_Ru_follow_6 : decode b_Ru_follow 6 = .ok (.iload_n 2, 1) := by decide +kernel
theorem d_Ru_follow_7 : decode b_Ru_follow 7 = .ok (.aload_n 1, 1) := by decide +kernel
theorem d_Ru_follow_8 : decode b_Ru_follow 8 = .ok (.getfield 87, 3) := by decide +kernel
theorem d_Ru_follow_11 : decode b_Ru_follow 11 = .ok (.if_icmp .ge 31, 3) := by decide +kernel
theorem d_Ru_follow_14 : decode b_Ru_follow 14 = .ok (.aload_n 0, 1) := by decide +kernel
theorem d_Ru_follow_15 : decode b_Ru_follow 15 = .ok (.aload_n 1, 1) := by decide +kernel
theorem d_Ru_follow_16 : decode b_Ru_follow 16 = .ok (.getfield 92, 3) := by decide +kernel
theorem d_Ru_follow_19 : decode b_Ru_follow 19 = .ok (.iload_n 2, 1) := by decide +kernel
theorem d_Ru_follow_20 : decode b_Ru_follow 20 = .ok (.iaload, 1) := by decide +kernel
theorem d_Ru_follow_21 : decode b_Ru_follow 21 = .ok (.aload_n 1, 1) := by decide +kernel
theorem d_Ru_follow_22 : decode b_Ru_follow 22 = .ok (.getfield 96, 3) := by decide +kernel
theorem d_Ru_follow_25 : decode b_Ru_follow 25 = .ok (.iload_n 2, 1) := by decide +kernel
theorem d_Ru_follow_26 : decode b_Ru_follow 26 = .ok (.iaload, 1) := by decide +kernel
theorem d_Ru_follow_27 : decode b_Ru_follow 27 = .ok (.aload_n 1, 1) := by decide +kernel
theorem d_Ru_follow_28 : decode b_Ru_follow 28 = .ok (.getfield 99, 3) := by decide +kernel
theorem d_Ru_follow_31 : decode b_Ru_follow 31 = .ok (.iload_n 2, 1) := by decide +kernel
theorem d_Ru_follow_32 : decode b_Ru_follow 32 = .ok (.baload, 1) := by decide +kernel
theorem d_Ru_follow_33 : decode b_Ru_follow 33 = .ok (.invokevirtual 103, 3) := by decide +kernel
theorem d_Ru_follow_36 : decode b_Ru_follow 36 = .ok (.iinc 2 1, 3) := by decide +kernel
theorem d_Ru_follow_39 : decode b_Ru_follow 39 = .ok (.goto (-33), 3) := by decide +kernel
theorem d_Ru_follow_42 : decode b_Ru_follow 42 = .ok (.return_, 1) := by decide +kernel
theorem d_Ru_walk_0 : decode b_Ru_walk 0 = .ok (.iload_n 3, 1) := by decide +kernel
theorem d_Ru_walk_1 : decode b_Ru_walk 1 = .ok (.ifCond .eq 7, 3) := by decide +kernel
theorem d_Ru_walk_4 : decode b_Ru_walk 4 = .ok (.iconst 1, 1) := by decide +kernel
theorem d_Ru_walk_5 : decode b_Ru_walk 5 = .ok (.goto 4, 3) := by decide +kernel
theorem d_Ru_walk_8 : decode b_Ru_walk 8 = .ok (.iconst (-1), 1) := by decide +kernel
theorem d_Ru_walk_9 : decode b_Ru_walk 9 = .ok (.istore 4, 2) := by decide +kernel
theorem d_Ru_walk_11 : decode b_Ru_walk 11 = .ok (.iconst 0, 1) := by decide +kernel
theorem d_Ru_walk_12 : decode b_Ru_walk 12 = .ok (.istore 5, 2) := by decide +kernel
theorem d_Ru_walk_14 : decode b_Ru_walk 14 = .ok (.iload 5, 2) := by decide +kernel
theorem d_Ru_walk_16 : decode b_Ru_walk 16 = .ok (.iload_n 2, 1) := by decide +kernel
theorem d_Ru_walk_17 : decode b_Ru_walk 17 = .ok (.if_icmp .ge 52, 3) := by decide +kernel
theorem d_Ru_walk_20 : decode b_Ru_walk 20 = .ok (.aload_n 0, 1) := by decide +kernel
theorem d_Ru_walk_21 : decode b_Ru_walk 21 = .ok (.getfield 42, 3) := by decide +kernel
theorem d_Ru_walk_24 : decode b_Ru_walk 24 = .ok (.ifCond .ne 45, 3) := by decide +kernel
theorem d_Ru_walk_27 : decode b_Ru_walk 27 = .ok (.aload_n 0, 1) := by decide +kernel
theorem d_Ru_walk_28 : decode b_Ru_walk 28 = .ok (.getfield 39, 3) := by decide +kernel
theorem d_Ru_walk_31 : decode b_Ru_walk 31 = .ok (.sipush 4000, 3) := by decide +kernel
theorem d_Ru_walk_34 : decode b_Ru_walk 34 = .ok (.if_icmp .ge 35, 3) := by decide +kernel
theorem d_Ru_walk_37 : decode b_Ru_walk 37 = .ok (.aload_n 0, 1) := by decide +kernel
theorem d_Ru_walk_38 : decode b_Ru_walk 38 = .ok (.iload 4, 2) := by decide +kernel
theorem d_Ru_walk_40 : decode b_Ru_walk 40 = .ok (.iload_n 1, 1) := by decide +kernel
theorem d_Ru_walk_41 : decode b_Ru_walk 41 = .ok (.imul, 1) := by decide +kernel
theorem d_Ru_walk_42 : decode b_Ru_walk 42 = .ok (.iload 4, 2) := by decide +kernel
theorem d_Ru_walk_44 : decode b_Ru_walk 44 = .ok (.aload_n 0, 1) := by decide +kernel
theorem d_Ru_walk_45 : decode b_Ru_walk 45 = .ok (.getfield 35, 3) := by decide +kernel
theorem d_Ru_walk_48 : decode b_Ru_walk 48 = .ok (.getfield 107, 3) := by decide +kernel
theorem d_Ru_walk_51 : decode b_Ru_walk 51 = .ok (.imul, 1) := by decide +kernel
theorem d_Ru_walk_52 : decode b_Ru_walk 52 = .ok (.invokevirtual 110, 3) := by decide +kernel
theorem d_Ru_walk_55 : decode b_Ru_walk 55 = .ok (.aload_n 0, 1) := by decide +kernel
theorem d_Ru_walk_56 : decode b_Ru_walk 56 = .ok (.invokevirtual 114, 3) := by decide +kernel
theorem d_Ru_walk_59 : decode b_Ru_walk 59 = .ok (.aload_n 0, 1) := by decide +kernel
theorem d_Ru_walk_60 : decode b_Ru_walk 60 = .ok (.invokevirtual 81, 3) := by decide +kernel
theorem d_Ru_walk_63 : decode b_Ru_walk 63 = .ok (.iinc 5 1, 3) := by decide +kernel
theorem d_Ru_walk_66 : decode b_Ru_walk 66 = .ok (.goto (-52), 3) := by decide +kernel
theorem d_Ru_walk_69 : decode b_Ru_walk 69 = .ok (.return_, 1) := by decide +kernel
theorem d_Ru_isFaultless_0 : decode b_Ru_isFaultless 0 = .ok (.aload_n 0, 1) := by decide +kernel
theorem d_Ru_isFaultless_1 : decode b_Ru_isFaultless 1 = .ok (.getfield 42, 3) := by decide +kernel
theorem d_Ru_isFaultless_4 : decode b_Ru_isFaultless 4 = .ok (.ifCond .ne 15, 3) := by decide +kernel
theorem d_Ru_isFaultless_7 : decode b_Ru_isFaultless 7 = .ok (.aload_n 0, 1) := by decide +kernel
theorem d_Ru_isFaultless_8 : decode b_Ru_isFaultless 8 = .ok (.getfield 25, 3) := by decide +kernel
theorem d_Ru_isFaultless_11 : decode b_Ru_isFaultless 11 = .ok (.iconst (-1), 1) := by decide +kernel
theorem d_Ru_isFaultless_12 : decode b_Ru_isFaultless 12 = .ok (.if_icmp .ne 7, 3) := by decide +kernel
theorem d_Ru_isFaultless_15 : decode b_Ru_isFaultless 15 = .ok (.iconst 1, 1) := by decide +kernel
theorem d_Ru_isFaultless_16 : decode b_Ru_isFaultless 16 = .ok (.goto 4, 3) := by decide +kernel
theorem d_Ru_isFaultless_19 : decode b_Ru_isFaultless 19 = .ok (.iconst 0, 1) := by decide +kernel
theorem d_Ru_isFaultless_20 : decode b_Ru_isFaultless 20 = .ok (.ireturn, 1) := by decide +kernel
theorem d_Ru_askewOf_0 : decode b_Ru_askewOf 0 = .ok (.iload_n 1, 1) := by decide +kernel
theorem d_Ru_askewOf_1 : decode b_Ru_askewOf 1 = .ok (.iconst 1, 1) := by decide +kernel
theorem d_Ru_askewOf_2 : decode b_Ru_askewOf 2 = .ok (.if_icmp .ge 7, 3) := by decide +kernel
theorem d_Ru_askewOf_5 : decode b_Ru_askewOf 5 = .ok (.iconst 0, 1) := by decide +kernel
theorem d_Ru_askewOf_6 : decode b_Ru_askewOf 6 = .ok (.goto 26, 3) := by decide +kernel
theorem d_Ru_askewOf_9 : decode b_Ru_askewOf 9 = .ok (.aload_n 0, 1) := by decide +kernel
theorem d_Ru_askewOf_10 : decode b_Ru_askewOf 10 = .ok (.getfield 12, 3) := by decide +kernel
theorem d_Ru_askewOf_13 : decode b_Ru_askewOf 13 = .ok (.iload_n 1, 1) := by decide +kernel
theorem d_Ru_askewOf_14 : decode b_Ru_askewOf 14 = .ok (.iconst 1, 1) := by decide +kernel
theorem d_Ru_askewOf_15 : decode b_Ru_askewOf 15 = .ok (.isub, 1) := by decide +kernel
theorem d_Ru_askewOf_16 : decode b_Ru_askewOf 16 = .ok (.aaload, 1) := by decide +kernel
theorem d_Ru_askewOf_17 : decode b_Ru_askewOf 17 = .ok (.getfield 57, 3) := by decide +kernel
theorem d_Ru_askewOf_20 : decode b_Ru_askewOf 20 = .ok (.aload_n 0, 1) := by decide +kernel
theorem d_Ru_askewOf_21 : decode b_Ru_askewOf 21 = .ok (.getfield 12, 3) := by decide +kernel
theorem d_Ru_askewOf_24 : decode b_Ru_askewOf 24 = .ok (.iload_n 1, 1) := by decide +kernel
theorem d_Ru_askewOf_25 : decode b_Ru_askewOf 25 = .ok (.aaload, 1) := by decide +kernel
theorem d_Ru_askewOf_26 : decode b_Ru_askewOf 26 = .ok (.getfield 57, 3) := by decide +kernel
theorem d_Ru_askewOf_29 : decode b_Ru_askewOf 29 = .ok (.invokestatic 117, 3) := by decide +kernel
theorem d_Ru_askewOf_32 : decode b_Ru_askewOf 32 = .ok (.ireturn, 1) := by decide +kernel
theorem d_Ru_move_0 : decode b_Ru_move 0 = .ok (.aload_n 0, 1) := by decide +kernel
theorem d_Ru_move_1 : decode b_Ru_move 1 = .ok (.getfield 12, 3) := by decide +kernel
theorem d_Ru_move_4 : decode b_Ru_move 4 = .ok (.iconst 0, 1) := by decide +kernel
theorem d_Ru_move_5 : decode b_Ru_move 5 = .ok (.aaload, 1) := by decide +kernel
theorem d_Ru_move_6 : decode b_Ru_move 6 = .ok (.astore_n 3, 1) := by decide +kernel
theorem d_Ru_move_7 : decode b_Ru_move 7 = .ok (.aload_n 3, 1) := by decide +kernel
theorem d_Ru_move_8 : decode b_Ru_move 8 = .ok (.dup, 1) := by decide +kernel
theorem d_Ru_move_9 : decode b_Ru_move 9 = .ok (.getfield 69, 3) := by decide +kernel
theorem d_Ru_move_12 : decode b_Ru_move 12 = .ok (.iload_n 2, 1) := by decide +kernel
theorem d_Ru_move_13 : decode b_Ru_move 13 = .ok (.aload_n 3, 1) := by decide +kernel
theorem d_Ru_move_14 : decode b_Ru_move 14 = .ok (.getfield 57, 3) := by decide +kernel
theorem d_Ru_move_17 : decode b_Ru_move 17 = .ok (.invokestatic 123, 3) := by decide +kernel
theorem d_Ru_move_20 : decode b_Ru_move 20 = .ok (.imul, 1) := by decide +kernel
theorem d_Ru_move_21 : decode b_Ru_move 21 = .ok (.iadd, 1) := by decide +kernel
theorem d_Ru_move_22 : decode b_Ru_move 22 = .ok (.putfield 69, 3) := by decide +kernel
theorem d_Ru_move_25 : decode b_Ru_move 25 = .ok (.aload_n 3, 1) := by decide +kernel
theorem d_Ru_move_26 : decode b_Ru_move 26 = .ok (.dup, 1) := by decide +kernel
theorem d_Ru_move_27 : decode b_Ru_move 27 = .ok (.getfield 75, 3) := by decide +kernel
theorem d_Ru_move_30 : decode b_Ru_move 30 = .ok (.iload_n 2, 1) := by decide +kernel
theorem d_Ru_move_31 : decode b_Ru_move 31 = .ok (.aload_n 3, 1) := by decide +kernel
theorem d_Ru_move_32 : decode b_Ru_move 32 = .ok (.getfield 57, 3) := by decide +kernel
theorem d_Ru_move_35 : decode b_Ru_move 35 = .ok (.invokestatic 127, 3) := by decide +kernel
theorem d_Ru_move_38 : decode b_Ru_move 38 = .ok (.imul, 1) := by decide +kernel
theorem d_Ru_move_39 : decode b_Ru_move 39 = .ok (.iadd, 1) := by decide +kernel
theorem d_Ru_move_40 : decode b_Ru_move 40 = .ok (.putfield 75, 3) := by decide +kernel
theorem d_Ru_move_43 : decode b_Ru_move 43 = .ok (.aload_n 3, 1) := by decide +kernel
theorem d_Ru_move_44 : decode b_Ru_move 44 = .ok (.aload_n 3, 1) := by decide +kernel
theorem d_Ru_move_45 : decode b_Ru_move 45 = .ok (.getfield 57, 3) := by decide +kernel
theorem d_Ru_move_48 : decode b_Ru_move 48 = .ok (.iload_n 1, 1) := by decide +kernel
theorem d_Ru_move_49 : decode b_Ru_move 49 = .ok (.iadd, 1) := by decide +kernel
theorem d_Ru_move_50 : decode b_Ru_move 50 = .ok (.invokestatic 130, 3) := by decide +kernel
theorem d_Ru_move_53 : decode b_Ru_move 53 = .ok (.putfield 57, 3) := by decide +kernel
theorem d_Ru_move_56 : decode b_Ru_move 56 = .ok (.iconst 1, 1) := by decide +kernel
theorem d_Ru_move_57 : decode b_Ru_move 57 = .ok (.istore 4, 2) := by decide +kernel
theorem d_Ru_move_59 : decode b_Ru_move 59 = .ok (.iload 4, 2) := by decide +kernel
theorem d_Ru_move_61 : decode b_Ru_move 61 = .ok (.aload_n 0, 1) := by decide +kernel
theorem d_Ru_move_62 : decode b_Ru_move 62 = .ok (.getfield 35, 3) := by decide +kernel
theorem d_Ru_move_65 : decode b_Ru_move 65 = .ok (.getfield 49, 3) := by decide +kernel
theorem d_Ru_move_68 : decode b_Ru_move 68 = .ok (.if_icmp .ge 16, 3) := by decide +kernel
theorem d_Ru_move_71 : decode b_Ru_move 71 = .ok (.aload_n 0, 1) := by decide +kernel
theorem d_Ru_move_72 : decode b_Ru_move 72 = .ok (.iload 4, 2) := by decide +kernel
theorem d_Ru_move_74 : decode b_Ru_move 74 = .ok (.iload_n 2, 1) := by decide +kernel
theorem d_Ru_move_75 : decode b_Ru_move 75 = .ok (.invokevirtual 133, 3) := by decide +kernel
theorem d_Ru_move_78 : decode b_Ru_move 78 = .ok (.iinc 4 1, 3) := by decide +kernel
theorem d_Ru_move_81 : decode b_Ru_move 81 = .ok (.goto (-22), 3) := by decide +kernel
theorem d_Ru_move_84 : decode b_Ru_move 84 = .ok (.aload_n 0, 1) := by decide +kernel
theorem d_Ru_move_85 : decode b_Ru_move 85 = .ok (.invokevirtual 78, 3) := by decide +kernel
theorem d_Ru_move_88 : decode b_Ru_move 88 = .ok (.aload_n 0, 1) := by decide +kernel
theorem d_Ru_move_89 : decode b_Ru_move 89 = .ok (.dup, 1) := by decide +kernel
theorem d_Ru_move_90 : decode b_Ru_move 90 = .ok (.getfield 39, 3) := by decide +kernel
theorem d_Ru_move_93 : decode b_Ru_move 93 = .ok (.iconst 1, 1) := by decide +kernel
theorem d_Ru_move_94 : decode b_Ru_move 94 = .ok (.iadd, 1) := by decide +kernel
theorem d_Ru_move_95 : decode b_Ru_move 95 = .ok (.putfield 39, 3) := by decide +kernel
theorem d_Ru_move_98 : decode b_Ru_move 98 = .ok (.return_, 1) := by decide +kernel
theorem d_Ru_swing_0 : decode b_Ru_swing 0 = .ok (.aload_n 0, 1) := by decide +kernel
theorem d_Ru_swing_1 : decode b_Ru_swing 1 = .ok (.getfield 12, 3) := by decide +kernel
theorem d_Ru_swing_4 : decode b_Ru_swing 4 = .ok (.iload_n 1, 1) := by decide +kernel
theorem d_Ru_swing_5 : decode b_Ru_swing 5 = .ok (.aaload, 1) := by decide +kernel
theorem d_Ru_swing_6 : decode b_Ru_swing 6 = .ok (.astore_n 3, 1) := by decide +kernel
theorem d_Ru_swing_7 : decode b_Ru_swing 7 = .ok (.aload_n 0, 1) := by decide +kernel
theorem d_Ru_swing_8 : decode b_Ru_swing 8 = .ok (.getfield 35, 3) := by decide +kernel
theorem d_Ru_swing_11 : decode b_Ru_swing 11 = .ok (.getfield 136, 3) := by decide +kernel
theorem d_Ru_swing_14 : decode b_Ru_swing 14 = .ok (.iload_n 1, 1) := by decide +kernel
theorem d_Ru_swing_15 : decode b_Ru_swing 15 = .ok (.aaload, 1) := by decide +kernel
theorem d_Ru_swing_16 : decode b_Ru_swing 16 = .ok (.astore 4, 2) := by decide +kernel
theorem d_Ru_swing_18 : decode b_Ru_swing 18 = .ok (.aload_n 3, 1) := by decide +kernel
theorem d_Ru_swing_19 : decode b_Ru_swing 19 = .ok (.getfield 60, 3) := by decide +kernel
theorem d_Ru_swing_22 : decode b_Ru_swing 22 = .ok (.aload_n 0, 1) := by decide +kernel
theorem d_Ru_swing_23 : decode b_Ru_swing 23 = .ok (.iload_n 1, 1) := by decide +kernel
theorem d_Ru_swing_24 : decode b_Ru_swing 24 = .ok (.invokevirtual 140, 3) := by decide +kernel
theorem d_Ru_swing_27 : decode b_Ru_swing 27 = .ok (.iload_n 2, 1) := by decide +kernel
theorem d_Ru_swing_28 : decode b_Ru_swing 28 = .ok (.imul, 1) := by decide +kernel
theorem d_Ru_swing_29 : decode b_Ru_swing 29 = .ok (.iadd, 1) := by decide +kernel
theorem d_Ru_swing_30 : decode b_Ru_swing 30 = .ok (.istore 5, 2) := by decide +kernel
theorem d_Ru_swing_32 : decode b_Ru_swing 32 = .ok (.aload 4, 2) := by decide +kernel
theorem d_Ru_swing_34 : decode b_Ru_swing 34 = .ok (.iload 5, 2) := by decide +kernel
theorem d_Ru_swing_36 : decode b_Ru_swing 36 = .ok (.invokevirtual 143, 3) := by decide +kernel
theorem d_Ru_swing_39 : decode b_Ru_swing 39 = .ok (.istore 6, 2) := by decide +kernel
theorem d_Ru_swing_41 : decode b_Ru_swing 41 = .ok (.aload_n 3, 1) := by decide +kernel
theorem d_Ru_swing_42 : decode b_Ru_swing 42 = .ok (.aload_n 3, 1) := by decide +kernel
theorem d_Ru_swing_43 : decode b_Ru_swing 43 = .ok (.getfield 57, 3) := by decide +kernel
theorem d_Ru_swing_46 : decode b_Ru_swing 46 = .ok (.iload 6, 2) := by decide +kernel
theorem d_Ru_swing_48 : decode b_Ru_swing 48 = .ok (.iadd, 1) := by decide +kernel
theorem d_Ru_swing_49 : decode b_Ru_swing 49 = .ok (.invokestatic 130, 3) := by decide +kernel
theorem d_Ru_swing_52 : decode b_Ru_swing 52 = .ok (.putfield 57, 3) := by decide +kernel
theorem d_Ru_swing_55 : decode b_Ru_swing 55 = .ok (.aload_n 3, 1) := by decide +kernel
theorem d_Ru_swing_56 : decode b_Ru_swing 56 = .ok (.iload 5, 2) := by decide +kernel
theorem d_Ru_swing_58 : decode b_Ru_swing 58 = .ok (.iload 6, 2) := by decide +kernel
theorem d_Ru_swing_60 : decode b_Ru_swing 60 = .ok (.aload 4, 2) := by decide +kernel
theorem d_Ru_swing_62 : decode b_Ru_swing 62 = .ok (.getfield 148, 3) := by decide +kernel
theorem d_Ru_swing_65 : decode b_Ru_swing 65 = .ok (.imul, 1) := by decide +kernel
theorem d_Ru_swing_66 : decode b_Ru_swing 66 = .ok (.isub, 1) := by decide +kernel
theorem d_Ru_swing_67 : decode b_Ru_swing 67 = .ok (.putfield 60, 3) := by decide +kernel
theorem d_Ru_swing_70 : decode b_Ru_swing 70 = .ok (.return_, 1) := by decide +kernel
theorem d_Ru_placeTrailers_0 : decode b_Ru_placeTrailers 0 = .ok (.iconst 1, 1) := by decide +kernel
theorem d_Ru_placeTrailers_1 : decode b_Ru_placeTrailers 1 = .ok (.istore_n 1, 1) := by decide +kernel
theorem d_Ru_placeTrailers_2 : decode b_Ru_placeTrailers 2 = .ok (.iload_n 1, 1) := by decide +kernel
theorem d_Ru_placeTrailers_3 : decode b_Ru_placeTrailers 3 = .ok (.aload_n 0, 1) := by decide +kernel
theorem d_Ru_placeTrailers_4 : decode b_Ru_placeTrailers 4 = .ok (.getfield 35, 3) := by decide +kernel
theorem d_Ru_placeTrailers_7 : decode b_Ru_placeTrailers 7 = .ok (.getfield 49, 3) := by decide +kernel
theorem d_Ru_placeTrailers_10 : decode b_Ru_placeTrailers 10 = .ok (.if_icmp .ge 115, 3) := by decide +kernel
theorem d_Ru_placeTrailers_13 : decode b_Ru_placeTrailers 13 = .ok (.aload_n 0, 1) := by decide +kernel
theorem d_Ru_placeTrailers_14 : decode b_Ru_placeTrailers 14 = .ok (.getfield 12, 3) := by decide +kernel
theorem d_Ru_placeTrailers_17 : decode b_Ru_placeTrailers 17 = .ok (.iload_n 1, 1) := by decide +kernel
theorem d_Ru_placeTrailers_18 : decode b_Ru_placeTrailers 18 = .ok (.iconst 1, 1) := by decide +kernel
theorem d_Ru_placeTrailers_19 : decode b_Ru_placeTrailers 19 = .ok (.isub, 1) := by decide +kernel
theorem d_Ru_placeTrailers_20 : decode b_Ru_placeTrailers 20 = .ok (.aaload, 1) := by decide +kernel
theorem d_Ru_placeTrailers_21 : decode b_Ru_placeTrailers 21 = .ok (.astore_n 2, 1) := by decide +kernel
theorem d_Ru_placeTrailers_22 : decode b_Ru_placeTrailers 22 = .ok (.aload_n 0, 1) := by decide +kernel
theorem d_Ru_placeTrailers_23 : decode b_Ru_placeTrailers 23 = .ok (.getfield 12, 3) := by decide +kernel
theorem d_Ru_placeTrailers_26 : decode b_Ru_placeTrailers 26 = .ok (.iload_n 1, 1) := by decide +kernel
theorem d_Ru_placeTrailers_27 : decode b_Ru_placeTrailers 27 = .ok (.aaload, 1) := by decide +kernel
theorem d_Ru_placeTrailers_28 : decode b_Ru_placeTrailers 28 = .ok (.astore_n 3, 1) := by decide +kernel
theorem d_Ru_placeTrailers_29 : decode b_Ru_placeTrailers 29 = .ok (.aload_n 0, 1) := by decide +kernel
theorem d_Ru_placeTrailers_30 : decode b_Ru_placeTrailers 30 = .ok (.getfield 35, 3) := by decide +kernel
theorem d_Ru_placeTrailers_33 : decode b_Ru_placeTrailers 33 = .ok (.getfield 136, 3) := by decide +kernel
theorem d_Ru_placeTrailers_36 : decode b_Ru_placeTrailers 36 = .ok (.iload_n 1, 1) := by decide +kernel
theorem d_Ru_placeTrailers_37 : decode b_Ru_placeTrailers 37 = .ok (.iconst 1, 1) := by decide +kernel
theorem d_Ru_placeTrailers_38 : decode b_Ru_placeTrailers 38 = .ok (.isub, 1) := by decide +kernel
theorem d_Ru_placeTrailers_39 : decode b_Ru_placeTrailers 39 = .ok (.aaload, 1) := by decide +kernel
theorem d_Ru_placeTrailers_40 : decode b_Ru_placeTrailers 40 = .ok (.getfield 151, 3) := by decide +kernel
theorem d_Ru_placeTrailers_43 : decode b_Ru_placeTrailers 43 = .ok (.istore 4, 2) := by decide +kernel
theorem d_Ru_placeTrailers_45 : decode b_Ru_placeTrailers 45 = .ok (.aload_n 0, 1) := by decide +kernel
theorem d_Ru_placeTrailers_46 : decode b_Ru_placeTrailers 46 = .ok (.getfield 35, 3) := by decide +kernel
theorem d_Ru_placeTrailers_49 : decode b_Ru_placeTrailers 49 = .ok (.getfield 136, 3) := by decide +kernel
theorem d_Ru_placeTrailers_52 : decode b_Ru_placeTrailers 52 = .ok (.iload_n 1, 1) := by decide +kernel
theorem d_Ru_placeTrailers_53 : decode b_Ru_placeTrailers 53 = .ok (.aaload, 1) := by decide +kernel
theorem d_Ru_placeTrailers_54 : decode b_Ru_placeTrailers 54 = .ok (.getfield 148, 3) := by decide +kernel
theorem d_Ru_placeTrailers_57 : decode b_Ru_placeTrailers 57 = .ok (.istore 5, 2) := by decide +kernel
theorem d_Ru_placeTrailers_59 : decode b_Ru_placeTrailers 59 = .ok (.aload_n 3, 1) := by decide +kernel
theorem d_Ru_placeTrailers_60 : decode b_Ru_placeTrailers 60 = .ok (.aload_n 2, 1) := by decide +kernel
theorem d_Ru_placeTrailers_61 : decode b_Ru_placeTrailers 61 = .ok (.getfield 69, 3) := by decide +kernel
theorem d_Ru_placeTrailers_64 : decode b_Ru_placeTrailers 64 = .ok (.iload 4, 2) := by decide +kernel
theorem d_Ru_placeTrailers_66 : decode b_Ru_placeTrailers 66 = .ok (.aload_n 2, 1) := by decide +kernel
theorem d_Ru_placeTrailers_67 : decode b_Ru_placeTrailers 67 = .ok (.getfield 57, 3) := by decide +kernel
theorem d_Ru_placeTrailers_70 : decode b_Ru_placeTrailers 70 = .ok (.invokestatic 123, 3) := by decide +kernel
theorem d_Ru_placeTrailers_73 : decode b_Ru_placeTrailers 73 = .ok (.imul, 1) := by decide +kernel
theorem d_Ru_placeTrailers_74 : decode b_Ru_placeTrailers 74 = .ok (.isub, 1) := by decide +kernel
theorem d_Ru_placeTrailers_75 : decode b_Ru_placeTrailers 75 = .ok (.iload 5, 2) := by decide +kernel
theorem d_Ru_placeTrailers_77 : decode b_Ru_placeTrailers 77 = .ok (.aload_n 3, 1) := by decide +kernel
theorem d_Ru_placeTrailers_78 : decode b_Ru_placeTrailers 78 = .ok (.getfield 57, 3) := by decide +kernel
theorem d_Ru_placeTrailers_81 : decode b_Ru_placeTrailers 81 = .ok (.invokestatic 123, 3) := by decide +kernel
theorem d_Ru_placeTrailers_84 : decode b_Ru_placeTrailers 84 = .ok (.imul, 1) := by decide +kernel
theorem d_Ru_placeTrailers_85 : decode b_Ru_placeTrailers 85 = .ok (.isub, 1) := by decide +kernel
theorem d_Ru_placeTrailers_86 : decode b_Ru_placeTrailers 86 = .ok (.putfield 69, 3) := by decide +kernel
theorem d_Ru_placeTrailers_89 : decode b_Ru_placeTrailers 89 = .ok (.aload_n 3, 1) := by decide +kernel
theorem d_Ru_placeTrailers_90 : decode b_Ru_placeTrailers 90 = .ok (.aload_n 2, 1) := by decide +kernel
theorem d_Ru_placeTrailers_91 : decode b_Ru_placeTrailers 91 = .ok (.getfield 75, 3) := by decide +kernel
theorem d_Ru_placeTrailers_94 : decode b_Ru_placeTrailers 94 = .ok (.iload 4, 2) := by decide +kernel
theorem d_Ru_placeTrailers_96 : decode b_Ru_placeTrailers 96 = .ok (.aload_n 2, 1) := by decide +kernel
theorem d_Ru_placeTrailers_97 : decode b_Ru_placeTrailers 97 = .ok (.getfield 57, 3) := by decide +kernel
theorem d_Ru_placeTrailers_100 : decode b_Ru_placeTrailers 100 = .ok (.invokestatic 127, 3) := by decide +kernel
theorem d_Ru_placeTrailers_103 : decode b_Ru_placeTrailers 103 = .ok (.imul, 1) := by decide +kernel
theorem d_Ru_placeTrailers_104 : decode b_Ru_placeTrailers 104 = .ok (.isub, 1) := by decide +kernel
theorem d_Ru_placeTrailers_105 : decode b_Ru_placeTrailers 105 = .ok (.iload 5, 2) := by decide +kernel
theorem d_Ru_placeTrailers_107 : decode b_Ru_placeTrailers 107 = .ok (.aload_n 3, 1) := by decide +kernel
theorem d_Ru_placeTrailers_108 : decode b_Ru_placeTrailers 108 = .ok (.getfield 57, 3) := by decide +kernel
theorem d_Ru_placeTrailers_111 : decode b_Ru_placeTrailers 111 = .ok (.invokestatic 127, 3) := by decide +kernel
theorem d_Ru_placeTrailers_114 : decode b_Ru_placeTrailers 114 = .ok (.imul, 1) := by decide +kernel
theorem d_Ru_placeTrailers_115 : decode b_Ru_placeTrailers 115 = .ok (.isub, 1) := by decide +kernel
theorem d_Ru_placeTrailers_116 : decode b_Ru_placeTrailers 116 = .ok (.putfield 75, 3) := by decide +kernel
theorem d_Ru_placeTrailers_119 : decode b_Ru_placeTrailers 119 = .ok (.iinc 1 1, 3) := by decide +kernel
theorem d_Ru_placeTrailers_122 : decode b_Ru_placeTrailers 122 = .ok (.goto (-120), 3) := by decide +kernel
theorem d_Ru_placeTrailers_125 : decode b_Ru_placeTrailers 125 = .ok (.return_, 1) := by decide +kernel
theorem d_Ru_measureAskew_0 : decode b_Ru_measureAskew 0 = .ok (.iconst 1, 1) := by decide +kernel
theorem d_Ru_measureAskew_1 : decode b_Ru_measureAskew 1 = .ok (.istore_n 1, 1) := by decide +kernel
theorem d_Ru_measureAskew_2 : decode b_Ru_measureAskew 2 = .ok (.iload_n 1, 1) := by decide +kernel
theorem d_Ru_measureAskew_3 : decode b_Ru_measureAskew 3 = .ok (.aload_n 0, 1) := by decide +kernel
theorem d_Ru_measureAskew_4 : decode b_Ru_measureAskew 4 = .ok (.getfield 35, 3) := by decide +kernel
theorem d_Ru_measureAskew_7 : decode b_Ru_measureAskew 7 = .ok (.getfield 49, 3) := by decide +kernel
theorem d_Ru_measureAskew_10 : decode b_Ru_measureAskew 10 = .ok (.if_icmp .ge 51, 3) := by decide +kernel
theorem d_Ru_measureAskew_13 : decode b_Ru_measureAskew 13 = .ok (.aload_n 0, 1) := by decide +kernel
theorem d_Ru_measureAskew_14 : decode b_Ru_measureAskew 14 = .ok (.iload_n 1, 1) := by decide +kernel
theorem d_Ru_measureAskew_15 : decode b_Ru_measureAskew 15 = .ok (.invokevirtual 140, 3) := by decide +kernel
theorem d_Ru_measureAskew_18 : decode b_Ru_measureAskew 18 = .ok (.invokestatic 154, 3) := by decide +kernel
theorem d_Ru_measureAskew_21 : decode b_Ru_measureAskew 21 = .ok (.istore_n 2, 1) := by decide +kernel
theorem d_Ru_measureAskew_22 : decode b_Ru_measureAskew 22 = .ok (.aload_n 0, 1) := by decide +kernel
theorem d_Ru_measureAskew_23 : decode b_Ru_measureAskew 23 = .ok (.getfield 12, 3) := by decide +kernel
theorem d_Ru_measureAskew_26 : decode b_Ru_measureAskew 26 = .ok (.iload_n 1, 1) := by decide +kernel
theorem d_Ru_measureAskew_27 : decode b_Ru_measureAskew 27 = .ok (.aaload, 1) := by decide +kernel
theorem d_Ru_measureAskew_28 : decode b_Ru_measureAskew 28 = .ok (.aload_n 0, 1) := by decide +kernel
theorem d_Ru_measureAskew_29 : decode b_Ru_measureAskew 29 = .ok (.getfield 12, 3) := by decide +kernel
theorem d_Ru_measureAskew_32 : decode b_Ru_measureAskew 32 = .ok (.iload_n 1, 1) := by decide +kernel
theorem d_Ru_measureAskew_33 : decode b_Ru_measureAskew 33 = .ok (.aaload, 1) := by decide +kernel
theorem d_Ru_measureAskew_34 : decode b_Ru_measureAskew 34 = .ok (.getfield 63, 3) := by decide +kernel
theorem d_Ru_measureAskew_37 : decode b_Ru_measureAskew 37 = .ok (.iload_n 2, 1) := by decide +kernel
theorem d_Ru_measureAskew_38 : decode b_Ru_measureAskew 38 = .ok (.invokestatic 159, 3) := by decide +kernel
theorem d_Ru_measureAskew_41 : decode b_Ru_measureAskew 41 = .ok (.putfield 63, 3) := by decide +kernel
theorem d_Ru_measureAskew_44 : decode b_Ru_measureAskew 44 = .ok (.iload_n 2, 1) := by decide +kernel
theorem d_Ru_measureAskew_45 : decode b_Ru_measureAskew 45 = .ok (.bipush 24, 2) := by decide +kernel
theorem d_Ru_measureAskew_47 : decode b_Ru_measureAskew 47 = .ok (.if_icmp .le 8, 3) := by decide +kernel
theorem d_Ru_measureAskew_50 : decode b_Ru_measureAskew 50 = .ok (.aload_n 0, 1) := by decide +kernel
theorem d_Ru_measureAskew_51 : decode b_Ru_measureAskew 51 = .ok (.iconst 1, 1) := by decide +kernel
theorem d_Ru_measureAskew_52 : decode b_Ru_measureAskew 52 = .ok (.putfield 42, 3) := by decide +kernel
theorem d_Ru_measureAskew_55 : decode b_Ru_measureAskew 55 = .ok (.iinc 1 1, 3) := by decide +kernel
theorem d_Ru_measureAskew_58 : decode b_Ru_measureAskew 58 = .ok (.goto (-56), 3) := by decide +kernel
theorem d_Ru_measureAskew_61 : decode b_Ru_measureAskew 61 = .ok (.return_, 1) := by decide +kernel
theorem d_Ru_lookRound_0 : decode b_Ru_lookRound 0 = .ok (.iconst 0, 1) := by decide +kernel
theorem d_Ru_lookRound_1 : decode b_Ru_lookRound 1 = .ok (.istore_n 1, 1) := by decide +kernel
theorem d_Ru_lookRound_2 : decode b_Ru_lookRound 2 = .ok (.iload_n 1, 1) := by decide +kernel
theorem d_Ru_lookRound_3 : decode b_Ru_lookRound 3 = .ok (.aload_n 0, 1) := by decide +kernel
theorem d_Ru_lookRound_4 : decode b_Ru_lookRound 4 = .ok (.getfield 35, 3) := by decide +kernel
theorem d_Ru_lookRound_7 : decode b_Ru_lookRound 7 = .ok (.getfield 49, 3) := by decide +kernel
theorem d_Ru_lookRound_10 : decode b_Ru_lookRound 10 = .ok (.if_icmp .ge 44, 3) := by decide +kernel
theorem d_Ru_lookRound_13 : decode b_Ru_lookRound 13 = .ok (.aload_n 0, 1) := by decide +kernel
theorem d_Ru_lookRound_14 : decode b_Ru_lookRound 14 = .ok (.getfield 21, 3) := by decide +kernel
theorem d_Ru_lookRound_17 : decode b_Ru_lookRound 17 = .ok (.aload_n 0, 1) := by decide +kernel
theorem d_Ru_lookRound_18 : decode b_Ru_lookRound 18 = .ok (.getfield 35, 3) := by decide +kernel
theorem d_Ru_lookRound_21 : decode b_Ru_lookRound 21 = .ok (.getfield 136, 3) := by decide +kernel
theorem d_Ru_lookRound_24 : decode b_Ru_lookRound 24 = .ok (.iload_n 1, 1) := by decide +kernel
theorem d_Ru_lookRound_25 : decode b_Ru_lookRound 25 = .ok (.aaload, 1) := by decide +kernel
theorem d_Ru_lookRound_26 : decode b_Ru_lookRound 26 = .ok (.aload_n 0, 1) := by decide +kernel
theorem d_Ru_lookRound_27 : decode b_Ru_lookRound 27 = .ok (.getfield 12, 3) := by decide +kernel
theorem d_Ru_lookRound_30 : decode b_Ru_lookRound 30 = .ok (.iload_n 1, 1) := by decide +kernel
theorem d_Ru_lookRound_31 : decode b_Ru_lookRound 31 = .ok (.aaload, 1) := by decide +kernel
theorem d_Ru_lookRound_32 : decode b_Ru_lookRound 32 = .ok (.invokevirtual 162, 3) := by decide +kernel
theorem d_Ru_lookRound_35 : decode b_Ru_lookRound 35 = .ok (.aload_n 0, 1) := by decide +kernel
theorem d_Ru_lookRound_36 : decode b_Ru_lookRound 36 = .ok (.getfield 25, 3) := by decide +kernel
theorem d_Ru_lookRound_39 : decode b_Ru_lookRound 39 = .ok (.iconst (-1), 1) := by decide +kernel
theorem d_Ru_lookRound_40 : decode b_Ru_lookRound 40 = .ok (.if_icmp .ne 8, 3) := by decide +kernel
theorem d_Ru_lookRound_43 : decode b_Ru_lookRound 43 = .ok (.aload_n 0, 1) := by decide +kernel
theorem d_Ru_lookRound_44 : decode b_Ru_lookRound 44 = .ok (.iload_n 1, 1) := by decide +kernel
theorem d_Ru_lookRound_45 : decode b_Ru_lookRound 45 = .ok (.invokevirtual 166, 3) := by decide +kernel
theorem d_Ru_lookRound_48 : decode b_Ru_lookRound 48 = .ok (.iinc 1 1, 3) := by decide +kernel
theorem d_Ru_lookRound_51 : decode b_Ru_lookRound 51 = .ok (.goto (-49), 3) := by decide +kernel
theorem d_Ru_lookRound_54 : decode b_Ru_lookRound 54 = .ok (.return_, 1) := by decide +kernel
theorem d_Ru_lookForPoles_0 : decode b_Ru_lookForPoles 0 = .ok (.aload_n 0, 1) := by decide +kernel
theorem d_Ru_lookForPoles_1 : decode b_Ru_lookForPoles 1 = .ok (.getfield 35, 3) := by decide +kernel
theorem d_Ru_lookForPoles_4 : decode b_Ru_lookForPoles 4 = .ok (.getfield 136, 3) := by decide +kernel
theorem d_Ru_lookForPoles_7 : decode b_Ru_lookForPoles 7 = .ok (.iload_n 1, 1) := by decide +kernel
theorem d_Ru_lookForPoles_8 : decode b_Ru_lookForPoles 8 = .ok (.aaload, 1) := by decide +kernel
theorem d_Ru_lookForPoles_9 : decode b_Ru_lookForPoles 9 = .ok (.astore_n 2, 1) := by decide +kernel
theorem d_Ru_lookForPoles_10 : decode b_Ru_lookForPoles 10 = .ok (.aload_n 0, 1) := by decide +kernel
theorem d_Ru_lookForPoles_11 : decode b_Ru_lookForPoles 11 = .ok (.getfield 12, 3) := by decide +kernel
theorem d_Ru_lookForPoles_14 : decode b_Ru_lookForPoles 14 = .ok (.iload_n 1, 1) := by decide +kernel
theorem d_Ru_lookForPoles_15 : decode b_Ru_lookForPoles 15 = .ok (.aaload, 1) := by decide +kernel
theorem d_Ru_lookForPoles_16 : decode b_Ru_lookForPoles 16 = .ok (.astore_n 3, 1) := by decide +kernel
theorem d_Ru_lookForPoles_17 : decode b_Ru_lookForPoles 17 = .ok (.aload_n 3, 1) := by decide +kernel
theorem d_Ru_lookForPoles_18 : decode b_Ru_lookForPoles 18 = .ok (.getfield 57, 3) := by decide +kernel
theorem d_Ru_lookForPoles_21 : decode b_Ru_lookForPoles 21 = .ok (.invokestatic 123, 3) := by decide +kernel
theorem d_Ru_lookForPoles_24 : decode b_Ru_lookForPoles 24 = .ok (.i2l, 1) := by decide +kernel
theorem d_Ru_lookForPoles_25 : decode b_Ru_lookForPoles 25 = .ok (.lstore 4, 2) := by decide +kernel
theorem d_Ru_lookForPoles_27 : decode b_Ru_lookForPoles 27 = .ok (.aload_n 3, 1) := by decide +kernel
theorem d_Ru_lookForPoles_28 : decode b_Ru_lookForPoles 28 = .ok (.getfield 57, 3) := by decide +kernel
theorem d_Ru_lookForPoles_31 : decode b_Ru_lookForPoles 31 = .ok (.invokestatic 127, 3) := by decide +kernel
theorem d_Ru_lookForPoles_34 : decode b_Ru_lookForPoles 34 = .ok (.i2l, 1) := by decide +kernel
theorem d_Ru_lookForPoles_35 : decode b_Ru_lookForPoles 35 = .ok (.lstore 6, 2) := by decide +kernel
theorem d_Ru_lookForPoles_37 : decode b_Ru_lookForPoles 37 = .ok (.iconst 0, 1) := by decide +kernel
theorem d_Ru_lookForPoles_38 : decode b_Ru_lookForPoles 38 = .ok (.istore 8, 2) := by decide +kernel
theorem d_Ru_lookForPoles_40 : decode b_Ru_lookForPoles 40 = .ok (.iload 8, 2) := by decide +kernel
theorem d_Ru_lookForPoles_42 : decode b_Ru_lookForPoles 42 = .ok (.aload_n 0, 1) := by decide +kernel
theorem d_Ru_lookForPoles_43 : decode b_Ru_lookForPoles 43 = .ok (.getfield 35, 3) := by decide +kernel
theorem d_Ru_lookForPoles_46 : decode b_Ru_lookForPoles 46 = .ok (.getfield 170, 3) := by decide +kernel
theorem d_Ru_lookForPoles_49 : decode b_Ru_lookForPoles 49 = .ok (.if_icmp .ge 94, 3) := by decide +kernel
theorem d_Ru_lookForPoles_52 : decode b_Ru_lookForPoles 52 = .ok (.aload_n 0, 1) := by decide +kernel
theorem d_Ru_lookForPoles_53 : decode b_Ru_lookForPoles 53 = .ok (.getfield 35, 3) := by decide +kernel
theorem d_Ru_lookForPoles_56 : decode b_Ru_lookForPoles 56 = .ok (.getfield 173, 3) := by decide +kernel
theorem d_Ru_lookForPoles_59 : decode b_Ru_lookForPoles 59 = .ok (.iload 8, 2) := by decide +kernel
theorem d_Ru_lookForPoles_61 : decode b_Ru_lookForPoles 61 = .ok (.iaload, 1) := by decide +kernel
theorem d_Ru_lookForPoles_62 : decode b_Ru_lookForPoles 62 = .ok (.aload_n 3, 1) := by decide +kernel
theorem d_Ru_lookForPoles_63 : decode b_Ru_lookForPoles 63 = .ok (.getfield 69, 3) := by decide +kernel
theorem d_Ru_lookForPoles_66 : decode b_Ru_lookForPoles 66 = .ok (.isub, 1) := by decide +kernel
theorem d_Ru_lookForPoles_67 : decode b_Ru_lookForPoles 67 = .ok (.i2l, 1) := by decide +kernel
theorem d_Ru_lookForPoles_68 : decode b_Ru_lookForPoles 68 = .ok (.lstore 9, 2) := by decide +kernel
theorem d_Ru_lookForPoles_70 : decode b_Ru_lookForPoles 70 = .ok (.aload_n 0, 1) := by decide +kernel
theorem d_Ru_lookForPoles_71 : decode b_Ru_lookForPoles 71 = .ok (.getfield 35, 3) := by decide +kernel
theorem d_Ru_lookForPoles_74 : decode b_Ru_lookForPoles 74 = .ok (.getfield 176, 3) := by decide +kernel
theorem d_Ru_lookForPoles_77 : decode b_Ru_lookForPoles 77 = .ok (.iload 8, 2) := by decide +kernel
theorem d_Ru_lookForPoles_79 : decode b_Ru_lookForPoles 79 = .ok (.iaload, 1) := by decide +kernel
theorem d_Ru_lookForPoles_80 : decode b_Ru_lookForPoles 80 = .ok (.aload_n 3, 1) := by decide +kernel
theorem d_Ru_lookForPoles_81 : decode b_Ru_lookForPoles 81 = .ok (.getfield 75, 3) := by decide +kernel
theorem d_Ru_lookForPoles_84 : decode b_Ru_lookForPoles 84 = .ok (.isub, 1) := by decide +kernel
theorem d_Ru_lookForPoles_85 : decode b_Ru_lookForPoles 85 = .ok (.i2l, 1) := by decide +kernel
theorem d_Ru_lookForPoles_86 : decode b_Ru_lookForPoles 86 = .ok (.lstore 11, 2) := by decide +kernel
theorem d_Ru_lookForPoles_88 : decode b_Ru_lookForPoles 88 = .ok (.aload_n 2, 1) := by decide +kernel
theorem d_Ru_lookForPoles_89 : decode b_Ru_lookForPoles 89 = .ok (.lload 9, 2) := by decide +kernel
theorem d_Ru_lookForPoles_91 : decode b_Ru_lookForPoles 91 = .ok (.lload 4, 2) := by decide +kernel
theorem d_Ru_lookForPoles_93 : decode b_Ru_lookForPoles 93 = .ok (.lmul, 1) := by decide +kernel
theorem d_Ru_lookForPoles_94 : decode b_Ru_lookForPoles 94 = .ok (.lload 11, 2) := by decide +kernel
theorem d_Ru_lookForPoles_96 : decode b_Ru_lookForPoles 96 = .ok (.lload 6, 2) := by decide +kernel
theorem d_Ru_lookForPoles_98 : decode b_Ru_lookForPoles 98 = .ok (.lmul, 1) := by decide +kernel
theorem d_Ru_lookForPoles_99 : decode b_Ru_lookForPoles 99 = .ok (.ladd, 1) := by decide +kernel
theorem d_Ru_lookForPoles_100 : decode b_Ru_lookForPoles 100 = .ok (.lload 11, 2) := by decide +kernel
theorem d_Ru_lookForPoles_102 : decode b_Ru_lookForPoles 102 = .ok (.lload 4, 2) := by decide +kernel
theorem d_Ru_lookForPoles_104 : decode b_Ru_lookForPoles 104 = .ok (.lmul, 1) := by decide +kernel
theorem d_Ru_lookForPoles_105 : decode b_Ru_lookForPoles 105 = .ok (.lload 9, 2) := by decide +kernel
theorem d_Ru_lookForPoles_107 : decode b_Ru_lookForPoles 107 = .ok (.lload 6, 2) := by decide +kernel
theorem d_Ru_lookForPoles_109 : decode b_Ru_lookForPoles 109 = .ok (.lmul, 1) := by decide +kernel
theorem d_Ru_lookForPoles_110 : decode b_Ru_lookForPoles 110 = .ok (.lsub, 1) := by decide +kernel
theorem d_Ru_lookForPoles_111 : decode b_Ru_lookForPoles 111 = .ok (.invokevirtual 179, 3) := by decide +kernel
theorem d_Ru_lookForPoles_114 : decode b_Ru_lookForPoles 114 = .ok (.ifCond .eq 23, 3) := by decide +kernel
theorem d_Ru_lookForPoles_117 : decode b_Ru_lookForPoles 117 = .ok (.aload_n 0, 1) := by decide +kernel
theorem d_Ru_lookForPoles_118 : decode b_Ru_lookForPoles 118 = .ok (.aload_n 0, 1) := by decide +kernel
theorem d_Ru_lookForPoles_119 : decode b_Ru_lookForPoles 119 = .ok (.getfield 39, 3) := by decide +kernel
theorem d_Ru_lookForPoles_122 : decode b_Ru_lookForPoles 122 = .ok (.putfield 25, 3) := by decide +kernel
theorem d_Ru_lookForPoles_125 : decode b_Ru_lookForPoles 125 = .ok (.aload_n 0, 1) := by decide +kernel
theorem d_Ru_lookForPoles_126 : decode b_Ru_lookForPoles 126 = .ok (.iload_n 1, 1) := by decide +kernel
theorem d_Ru_lookForPoles_127 : decode b_Ru_lookForPoles 127 = .ok (.putfield 29, 3) := by decide +kernel
theorem d_Ru_lookForPoles_130 : decode b_Ru_lookForPoles 130 = .ok (.aload_n 0, 1) := by decide +kernel
theorem d_Ru_lookForPoles_131 : decode b_Ru_lookForPoles 131 = .ok (.iload 8, 2) := by decide +kernel
theorem d_Ru_lookForPoles_133 : decode b_Ru_lookForPoles 133 = .ok (.putfield 32, 3) := by decide +kernel
theorem d_Ru_lookForPoles_136 : decode b_Ru_lookForPoles 136 = .ok (.return_, 1) := by decide +kernel
theorem d_Ru_lookForPoles_137 : decode b_Ru_lookForPoles 137 = .ok (.iinc 8 1, 3) := by decide +kernel
theorem d_Ru_lookForPoles_140 : decode b_Ru_lookForPoles 140 = .ok (.goto (-100), 3) := by decide +kernel
theorem d_Ru_lookForPoles_143 : decode b_Ru_lookForPoles 143 = .ok (.return_, 1) := by decide +kernel
theorem d_Se_init_0 : decode b_Se_init 0 = .ok (.aload_n 0, 1) := by decide +kernel
theorem d_Se_init_1 : decode b_Se_init 1 = .ok (.invokespecial 3, 3) := by decide +kernel
theorem d_Se_init_4 : decode b_Se_init 4 = .ok (.aload_n 0, 1) := by decide +kernel
theorem d_Se_init_5 : decode b_Se_init 5 = .ok (.iconst 3, 1) := by decide +kernel
theorem d_Se_init_6 : decode b_Se_init 6 = .ok (.anewarray 9, 3) := by decide +kernel
theorem d_Se_init_9 : decode b_Se_init 9 = .ok (.dup, 1) := by decide +kernel
theorem d_Se_init_10 : decode b_Se_init 10 = .ok (.iconst 0, 1) := by decide +kernel
theorem d_Se_init_11 : decode b_Se_init 11 = .ok (.new 9, 3) := by decide +kernel
theorem d_Se_init_14 : decode b_Se_init 14 = .ok (.dup, 1) := by decide +kernel
theorem d_Se_init_15 : decode b_Se_init 15 = .ok (.invokespecial 11, 3) := by decide +kernel
theorem d_Se_init_18 : decode b_Se_init 18 = .ok (.aastore, 1) := by decide +kernel
theorem d_Se_init_19 : decode b_Se_init 19 = .ok (.dup, 1) := by decide +kernel
theorem d_Se_init_20 : decode b_Se_init 20 = .ok (.iconst 1, 1) := by decide +kernel
theorem d_Se_init_21 : decode b_Se_init 21 = .ok (.new 9, 3) := by decide +kernel
theorem d_Se_init_24 : decode b_Se_init 24 = .ok (.dup, 1) := by decide +kernel
theorem d_Se_init_25 : decode b_Se_init 25 = .ok (.invokespecial 11, 3) := by decide +kernel
theorem d_Se_init_28 : decode b_Se_init 28 = .ok (.aastore, 1) := by decide +kernel
theorem d_Se_init_29 : decode b_Se_init 29 = .ok (.dup, 1) := by decide +kernel
theorem d_Se_init_30 : decode b_Se_init 30 = .ok (.iconst 2, 1) := by decide +kernel
theorem d_Se_init_31 : decode b_Se_init 31 = .ok (.new 9, 3) := by decide +kernel
theorem d_Se_init_34 : decode b_Se_init 34 = .ok (.dup, 1) := by decide +kernel
theorem d_Se_init_35 : decode b_Se_init 35 = .ok (.invokespecial 11, 3) := by decide +kernel
theorem d_Se_init_38 : decode b_Se_init 38 = .ok (.aastore, 1) := by decide +kernel
theorem d_Se_init_39 : decode b_Se_init 39 = .ok (.putfield 12, 3) := by decide +kernel
theorem d_Se_init_42 : decode b_Se_init 42 = .ok (.aload_n 0, 1) := by decide +kernel
theorem d_Se_init_43 : decode b_Se_init 43 = .ok (.bipush 20, 2) := by decide +kernel
theorem d_Se_init_45 : decode b_Se_init 45 = .ok (.newarray .int, 2) := by decide +kernel
theorem d_Se_init_47 : decode b_Se_init 47 = .ok (.putfield 18, 3) := by decide +kernel
theorem d_Se_init_50 : decode b_Se_init 50 = .ok (.aload_n 0, 1) := by decide +kernel
theorem d_Se_init_51 : decode b_Se_init 51 = .ok (.bipush 20, 2) := by decide +kernel
theorem d_Se_init_53 : decode b_Se_init 53 = .ok (.newarray .int, 2) := by decide +kernel
theorem d_Se_init_55 : decode b_Se_init 55 = .ok (.putfield 22, 3) := by decide +kernel
theorem d_Se_init_58 : decode b_Se_init 58 = .ok (.aload_n 0, 1) := by decide +kernel
theorem d_Se_init_59 : decode b_Se_init 59 = .ok (.iconst 4, 1) := by decide +kernel
theorem d_Se_init_60 : decode b_Se_init 60 = .ok (.putfield 25, 3) := by decide +kernel
theorem d_Se_init_63 : decode b_Se_init 63 = .ok (.return_, 1) := by decide +kernel
theorem d_Sh_init_0 : decode b_Sh_init 0 = .ok (.aload_n 0, 1) := by decide +kernel
theorem d_Sh_init_1 : decode b_Sh_init 1 = .ok (.invokespecial 3, 3) := by decide +kernel
theorem d_Sh_init_4 : decode b_Sh_init 4 = .ok (.aload_n 0, 1) := by decide +kernel
theorem d_Sh_init_5 : decode b_Sh_init 5 = .ok (.iconst 1, 1) := by decide +kernel
theorem d_Sh_init_6 : decode b_Sh_init 6 = .ok (.putfield 9, 3) := by decide +kernel
theorem d_Sh_init_9 : decode b_Sh_init 9 = .ok (.return_, 1) := by decide +kernel
theorem d_Sh_holds_0 : decode b_Sh_holds 0 = .ok (.lload_n 1, 1) := by decide +kernel
theorem d_Sh_holds_1 : decode b_Sh_holds 1 = .ok (.aload_n 0, 1) := by decide +kernel
theorem d_Sh_holds_2 : decode b_Sh_holds 2 = .ok (.getfield 15, 3) := by decide +kernel
theorem d_Sh_holds_5 : decode b_Sh_holds 5 = .ok (.ineg, 1) := by decide +kernel
theorem d_Sh_holds_6 : decode b_Sh_holds 6 = .ok (.i2l, 1) := by decide +kernel
theorem d_Sh_holds_7 : decode b_Sh_holds 7 = .ok (.ldc2_w 18, 3) := by decide +kernel
theorem d_Sh_holds_10 : decode b_Sh_holds 10 = .ok (.lmul, 1) := by decide +kernel
theorem d_Sh_holds_11 : decode b_Sh_holds 11 = .ok (.lcmp, 1) := by decide +kernel
theorem d_Sh_holds_12 : decode b_Sh_holds 12 = .ok (.ifCond .lt 50, 3) := by decide +kernel
theorem d_Sh_holds_15 : decode b_Sh_holds 15 = .ok (.lload_n 1, 1) := by decide +kernel
theorem d_Sh_holds_16 : decode b_Sh_holds 16 = .ok (.aload_n 0, 1) := by decide +kernel
theorem d_Sh_holds_17 : decode b_Sh_holds 17 = .ok (.getfield 20, 3) := by decide +kernel
theorem d_Sh_holds_20 : decode b_Sh_holds 20 = .ok (.i2l, 1) := by decide +kernel
theorem d_Sh_holds_21 : decode b_Sh_holds 21 = .ok (.ldc2_w 18, 3) := by decide +kernel
theorem d_Sh_holds_24 : decode b_Sh_holds 24 = .ok (.lmul, 1) := by decide +kernel
theorem d_Sh_holds_25 : decode b_Sh_holds 25 = .ok (.lcmp, 1) := by decide +kernel
theorem d_Sh_holds_26 : decode b_Sh_holds 26 = .ok (.ifCond .gt 36, 3) := by decide +kernel
theorem d_Sh_holds_29 : decode b_Sh_holds 29 = .ok (.lload_n 3, 1) := by decide +kernel
theorem d_Sh_holds_30 : decode b_Sh_holds 30 = .ok (.aload_n 0, 1) := by decide +kernel
theorem d_Sh_holds_31 : decode b_Sh_holds 31 = .ok (.getfield 23, 3) := by decide +kernel
theorem d_Sh_holds_34 : decode b_Sh_holds 34 = .ok (.ineg, 1) := by decide +kernel
theorem d_Sh_holds_35 : decode b_Sh_holds 35 = .ok (.i2l, 1) := by decide +kernel
theorem d_Sh_holds_36 : decode b_Sh_holds 36 = .ok (.ldc2_w 18, 3) := by decide +kernel
theorem d_Sh_holds_39 : decode b_Sh_holds 39 = .ok (.lmul, 1) := by decide +kernel
theorem d_Sh_holds_40 : decode b_Sh_holds 40 = .ok (.lcmp, 1) := by decide +kernel
theorem d_Sh_holds_41 : decode b_Sh_holds 41 = .ok (.ifCond .lt 21, 3) := by decide +kernel
theorem d_Sh_holds_44 : decode b_Sh_holds 44 = .ok (.lload_n 3, 1) := by decide +kernel
theorem d_Sh_holds_45 : decode b_Sh_holds 45 = .ok (.aload_n 0, 1) := by decide +kernel
theorem d_Sh_holds_46 : decode b_Sh_holds 46 = .ok (.getfield 23, 3) := by decide +kernel
theorem d_Sh_holds_49 : decode b_Sh_holds 49 = .ok (.i2l, 1) := by decide +kernel
theorem d_Sh_holds_50 : decode b_Sh_holds 50 = .ok (.ldc2_w 18, 3) := by decide +kernel
theorem d_Sh_holds_53 : decode b_Sh_holds 53 = .ok (.lmul, 1) := by decide +kernel
theorem d_Sh_holds_54 : decode b_Sh_holds 54 = .ok (.lcmp, 1) := by decide +kernel
theorem d_Sh_holds_55 : decode b_Sh_holds 55 = .ok (.ifCond .gt 7, 3) := by decide +kernel
theorem d_Sh_holds_58 : decode b_Sh_holds 58 = .ok (.iconst 1, 1) := by decide +kernel
theorem d_Sh_holds_59 : decode b_Sh_holds 59 = .ok (.goto 4, 3) := by decide +kernel
theorem d_Sh_holds_62 : decode b_Sh_holds 62 = .ok (.iconst 0, 1) := by decide +kernel
theorem d_Sh_holds_63 : decode b_Sh_holds 63 = .ok (.ireturn, 1) := by decide +kernel
theorem d_Sh_directionsIn_0 : decode b_Sh_directionsIn 0 = .ok (.aload_n 0, 1) := by decide +kernel
theorem d_Sh_directionsIn_1 : decode b_Sh_directionsIn 1 = .ok (.getfield 9, 3) := by decide +kernel
theorem d_Sh_directionsIn_4 : decode b_Sh_directionsIn 4 = .ok (.iconst 1, 1) := by decide +kernel
theorem d_Sh_directionsIn_5 : decode b_Sh_directionsIn 5 = .ok (.if_icmp .ge 7, 3) := by decide +kernel
theorem d_Sh_directionsIn_8 : decode b_Sh_directionsIn 8 = .ok (.iconst 0, 1) := by decide +kernel
theorem d_Sh_directionsIn_9 : decode b_Sh_directionsIn 9 = .ok (.goto 9, 3) := by decide +kernel
theorem d_Sh_directionsIn_12 : decode b_Sh_directionsIn 12 = .ok (.iload_n 1, 1) := by decide +kernel
theorem d_Sh_directionsIn_13 : decode b_Sh_directionsIn 13 = .ok (.aload_n 0, 1) := by decide +kernel
theorem d_Sh_directionsIn_14 : decode b_Sh_directionsIn 14 = .ok (.getfield 9, 3) := by decide +kernel
theorem d_Sh_directionsIn_17 : decode b_Sh_directionsIn 17 = .ok (.idiv, 1) := by decide +kernel
theorem d_Sh_directionsIn_18 : decode b_Sh_directionsIn 18 = .ok (.ireturn, 1) := by decide +kernel
theorem d_La_body_0 : decode b_La_body 0 = .ok (.aload 6, 2) := by decide +kernel
theorem d_La_body_2 : decode b_La_body 2 = .ok (.iconst 0, 1) := by decide +kernel
theorem d_La_body_3 : decode b_La_body 3 = .ok (.aload_n 0, 1) := by decide +kernel
theorem d_La_body_4 : decode b_La_body 4 = .ok (.iload_n 1, 1) := by decide +kernel
theorem d_La_body_5 : decode b_La_body 5 = .ok (.iload_n 2, 1) := by decide +kernel
theorem d_La_body_6 : decode b_La_body 6 = .ok (.iload_n 3, 1) := by decide +kernel
theorem d_La_body_7 : decode b_La_body 7 = .ok (.iload 4, 2) := by decide +kernel
theorem d_La_body_9 : decode b_La_body 9 = .ok (.iload 5, 2) := by decide +kernel
theorem d_La_body_11 : decode b_La_body 11 = .ok (.invokevirtual 7, 3) := by decide +kernel
theorem d_La_body_14 : decode b_La_body 14 = .ok (.i2l, 1) := by decide +kernel
theorem d_La_body_15 : decode b_La_body 15 = .ok (.lastore, 1) := by decide +kernel
theorem d_La_body_16 : decode b_La_body 16 = .ok (.goto 11, 3) := by decide +kernel
theorem d_La_body_19 : decode b_La_body 19 = .ok (.astore 7, 2) := by decide +kernel
theorem d_La_body_21 : decode b_La_body 21 = .ok (.iconst 1, 1) := by decide +kernel
theorem d_La_body_22 : decode b_La_body 22 = .ok (.ireturn, 1) := by decide +kernel
theorem d_La_body_23 : decode b_La_body 23 = .ok (.astore 7, 2) := by decide +kernel
theorem d_La_body_25 : decode b_La_body 25 = .ok (.iconst 2, 1) := by decide +kernel
theorem d_La_body_26 : decode b_La_body 26 = .ok (.ireturn, 1) := by decide +kernel
theorem d_La_body_27 : decode b_La_body 27 = .ok (.iconst 0, 1) := by decide +kernel
theorem d_La_body_28 : decode b_La_body 28 = .ok (.ireturn, 1) := by decide +kernel
theorem d_La_start_0 : decode b_La_start 0 = .ok (.aload_n 0, 1) := by decide +kernel
theorem d_La_start_1 : decode b_La_start 1 = .ok (.iload_n 1, 1) := by decide +kernel
theorem d_La_start_2 : decode b_La_start 2 = .ok (.iload_n 2, 1) := by decide +kernel
theorem d_La_start_3 : decode b_La_start 3 = .ok (.iload_n 3, 1) := by decide +kernel
theorem d_La_start_4 : decode b_La_start 4 = .ok (.invokevirtual 17, 3) := by decide +kernel
theorem d_La_start_7 : decode b_La_start 7 = .ok (.goto 7, 3) := by decide +kernel
theorem d_La_start_10 : decode b_La_start 10 = .ok (.astore 4, 2) := by decide +kernel
theorem d_La_start_12 : decode b_La_start 12 = .ok (.iconst 1, 1) := by decide +kernel
theorem d_La_start_13 : decode b_La_start 13 = .ok (.ireturn, 1) := by decide +kernel
theorem d_La_start_14 : decode b_La_start 14 = .ok (.iconst 0, 1) := by decide +kernel
theorem d_La_start_15 : decode b_La_start 15 = .ok (.ireturn, 1) := by decide +kernel
theorem d_La_step_0 : decode b_La_step 0 = .ok (.aload_n 2, 1) := by decide +kernel
theorem d_La_step_1 : decode b_La_step 1 = .ok (.iconst 0, 1) := by decide +kernel
theorem d_La_step_2 : decode b_La_step 2 = .ok (.aload_n 0, 1) := by decide +kernel
theorem d_La_step_3 : decode b_La_step 3 = .ok (.iload_n 1, 1) := by decide +kernel
theorem d_La_step_4 : decode b_La_step 4 = .ok (.invokevirtual 21, 3) := by decide +kernel
theorem d_La_step_7 : decode b_La_step 7 = .ok (.i2l, 1) := by decide +kernel
theorem d_La_step_8 : decode b_La_step 8 = .ok (.lastore, 1) := by decide +kernel
theorem d_La_step_9 : decode b_La_step 9 = .ok (.goto 6, 3) := by decide +kernel
theorem d_La_step_12 : decode b_La_step 12 = .ok (.astore_n 3, 1) := by decide +kernel
theorem d_La_step_13 : decode b_La_step 13 = .ok (.iconst 1, 1) := by decide +kernel
theorem d_La_step_14 : decode b_La_step 14 = .ok (.ireturn, 1) := by decide +kernel
theorem d_La_step_15 : decode b_La_step 15 = .ok (.iconst 0, 1) := by decide +kernel
theorem d_La_step_16 : decode b_La_step 16 = .ok (.ireturn, 1) := by decide +kernel
theorem d_La_pole_0 : decode b_La_pole 0 = .ok (.aload_n 3, 1) := by decide +kernel
theorem d_La_pole_1 : decode b_La_pole 1 = .ok (.iconst 0, 1) := by decide +kernel
theorem d_La_pole_2 : decode b_La_pole 2 = .ok (.aload_n 0, 1) := by decide +kernel
theorem d_La_pole_3 : decode b_La_pole 3 = .ok (.iload_n 1, 1) := by decide +kernel
theorem d_La_pole_4 : decode b_La_pole 4 = .ok (.iload_n 2, 1) := by decide +kernel
theorem d_La_pole_5 : decode b_La_pole 5 = .ok (.invokevirtual 25, 3) := by decide +kernel
theorem d_La_pole_8 : decode b_La_pole 8 = .ok (.i2l, 1) := by decide +kernel
theorem d_La_pole_9 : decode b_La_pole 9 = .ok (.lastore, 1) := by decide +kernel
theorem d_La_pole_10 : decode b_La_pole 10 = .ok (.goto 11, 3) := by decide +kernel
theorem d_La_pole_13 : decode b_La_pole 13 = .ok (.astore 4, 2) := by decide +kernel
theorem d_La_pole_15 : decode b_La_pole 15 = .ok (.iconst 1, 1) := by decide +kernel
theorem d_La_pole_16 : decode b_La_pole 16 = .ok (.ireturn, 1) := by decide +kernel
theorem d_La_pole_17 : decode b_La_pole 17 = .ok (.astore 4, 2) := by decide +kernel
theorem d_La_pole_19 : decode b_La_pole 19 = .ok (.iconst 2, 1) := by decide +kernel
theorem d_La_pole_20 : decode b_La_pole 20 = .ok (.ireturn, 1) := by decide +kernel
theorem d_La_pole_21 : decode b_La_pole 21 = .ok (.iconst 0, 1) := by decide +kernel
theorem d_La_pole_22 : decode b_La_pole 22 = .ok (.ireturn, 1) := by decide +kernel
theorem d_La_go_0 : decode b_La_go 0 = .ok (.aload 4, 2) := by decide +kernel
theorem d_La_go_2 : decode b_La_go 2 = .ok (.iconst 0, 1) := by decide +kernel
theorem d_La_go_3 : decode b_La_go 3 = .ok (.aload_n 0, 1) := by decide +kernel
theorem d_La_go_4 : decode b_La_go 4 = .ok (.iload_n 1, 1) := by decide +kernel
theorem d_La_go_5 : decode b_La_go 5 = .ok (.iload_n 2, 1) := by decide +kernel
theorem d_La_go_6 : decode b_La_go 6 = .ok (.iload_n 3, 1) := by decide +kernel
theorem d_La_go_7 : decode b_La_go 7 = .ok (.invokevirtual 29, 3) := by decide +kernel
theorem d_La_go_10 : decode b_La_go 10 = .ok (.i2l, 1) := by decide +kernel
theorem d_La_go_11 : decode b_La_go 11 = .ok (.lastore, 1) := by decide +kernel
theorem d_La_go_12 : decode b_La_go 12 = .ok (.goto 11, 3) := by decide +kernel
theorem d_La_go_15 : decode b_La_go 15 = .ok (.astore 5, 2) := by decide +kernel
theorem d_La_go_17 : decode b_La_go 17 = .ok (.iconst 1, 1) := by decide +kernel
theorem d_La_go_18 : decode b_La_go 18 = .ok (.ireturn, 1) := by decide +kernel
theorem d_La_go_19 : decode b_La_go 19 = .ok (.astore 5, 2) := by decide +kernel
theorem d_La_go_21 : decode b_La_go 21 = .ok (.iconst 2, 1) := by decide +kernel
theorem d_La_go_22 : decode b_La_go 22 = .ok (.ireturn, 1) := by decide +kernel
theorem d_La_go_23 : decode b_La_go 23 = .ok (.iconst 0, 1) := by decide +kernel
theorem d_La_go_24 : decode b_La_go 24 = .ok (.ireturn, 1) := by decide +kernel
theorem d_La_told_0 : decode b_La_told 0 = .ok (.aload_n 3, 1) := by decide +kernel
theorem d_La_told_1 : decode b_La_told 1 = .ok (.iconst 0, 1) := by decide +kernel
theorem d_La_told_2 : decode b_La_told 2 = .ok (.aload_n 0, 1) := by decide +kernel
theorem d_La_told_3 : decode b_La_told 3 = .ok (.iload_n 1, 1) := by decide +kernel
theorem d_La_told_4 : decode b_La_told 4 = .ok (.iload_n 2, 1) := by decide +kernel
theorem d_La_told_5 : decode b_La_told 5 = .ok (.invokevirtual 33, 3) := by decide +kernel
theorem d_La_told_8 : decode b_La_told 8 = .ok (.i2l, 1) := by decide +kernel
theorem d_La_told_9 : decode b_La_told 9 = .ok (.lastore, 1) := by decide +kernel
theorem d_La_told_10 : decode b_La_told 10 = .ok (.goto 7, 3) := by decide +kernel
theorem d_La_told_13 : decode b_La_told 13 = .ok (.astore 4, 2) := by decide +kernel
theorem d_La_told_15 : decode b_La_told 15 = .ok (.iconst 1, 1) := by decide +kernel
theorem d_La_told_16 : decode b_La_told 16 = .ok (.ireturn, 1) := by decide +kernel
theorem d_La_told_17 : decode b_La_told 17 = .ok (.iconst 0, 1) := by decide +kernel
theorem d_La_told_18 : decode b_La_told 18 = .ok (.ireturn, 1) := by decide +kernel
theorem d_La_corner_0 : decode b_La_corner 0 = .ok (.aload 4, 2) := by decide +kernel
theorem d_La_corner_2 : decode b_La_corner 2 = .ok (.iconst 0, 1) := by decide +kernel
theorem d_La_corner_3 : decode b_La_corner 3 = .ok (.aload_n 0, 1) := by decide +kernel
theorem d_La_corner_4 : decode b_La_corner 4 = .ok (.iload_n 1, 1) := by decide +kernel
theorem d_La_corner_5 : decode b_La_corner 5 = .ok (.iload_n 2, 1) := by decide +kernel
theorem d_La_corner_6 : decode b_La_corner 6 = .ok (.iload_n 3, 1) := by decide +kernel
theorem d_La_corner_7 : decode b_La_corner 7 = .ok (.invokevirtual 36, 3) := by decide +kernel
theorem d_La_corner_10 : decode b_La_corner 10 = .ok (.i2l, 1) := by decide +kernel
theorem d_La_corner_11 : decode b_La_corner 11 = .ok (.lastore, 1) := by decide +kernel
theorem d_La_corner_12 : decode b_La_corner 12 = .ok (.goto 7, 3) := by decide +kernel
theorem d_La_corner_15 : decode b_La_corner 15 = .ok (.astore 5, 2) := by decide +kernel
theorem d_La_corner_17 : decode b_La_corner 17 = .ok (.iconst 1, 1) := by decide +kernel
theorem d_La_corner_18 : decode b_La_corner 18 = .ok (.ireturn, 1) := by decide +kernel
theorem d_La_corner_19 : decode b_La_corner 19 = .ok (.iconst 0, 1) := by decide +kernel
theorem d_La_corner_20 : decode b_La_corner 20 = .ok (.ireturn, 1) := by decide +kernel
theorem d_La_cell_LPIIaJ_0 : decode b_La_cell_LPIIaJ 0 = .ok (.aload_n 3, 1) := by decide +kernel
theorem d_La_cell_LPIIaJ_1 : decode b_La_cell_LPIIaJ 1 = .ok (.iconst 0, 1) := by decide +kernel
theorem d_La_cell_LPIIaJ_2 : decode b_La_cell_LPIIaJ 2 = .ok (.aload_n 0, 1) := by decide +kernel
theorem d_La_cell_LPIIaJ_3 : decode b_La_cell_LPIIaJ 3 = .ok (.iload_n 1, 1) := by decide +kernel
theorem d_La_cell_LPIIaJ_4 : decode b_La_cell_LPIIaJ 4 = .ok (.iload_n 2, 1) := by decide +kernel
theorem d_La_cell_LPIIaJ_5 : decode b_La_cell_LPIIaJ 5 = .ok (.invokevirtual 40, 3) := by decide +kernel
theorem d_La_cell_LPIIaJ_8 : decode b_La_cell_LPIIaJ 8 = .ok (.ifCond .eq 7, 3) := by decide +kernel
theorem d_La_cell_LPIIaJ_11 : decode b_La_cell_LPIIaJ 11 = .ok (.lconst 1, 1) := by decide +kernel
theorem d_La_cell_LPIIaJ_12 : decode b_La_cell_LPIIaJ 12 = .ok (.goto 4, 3) := by decide +kernel
theorem d_La_cell_LPIIaJ_15 : decode b_La_cell_LPIIaJ 15 = .ok (.lconst 0, 1) := by decide +kernel
theorem d_La_cell_LPIIaJ_16 : decode b_La_cell_LPIIaJ 16 = .ok (.lastore, 1) := by decide +kernel
theorem d_La_cell_LPIIaJ_17 : decode b_La_cell_LPIIaJ 17 = .ok (.goto 7, 3) := by decide +kernel
theorem d_La_cell_LPIIaJ_20 : decode b_La_cell_LPIIaJ 20 = .ok (.astore 4, 2) := by decide +kernel
theorem d_La_cell_LPIIaJ_22 : decode b_La_cell_LPIIaJ 22 = .ok (.iconst 1, 1) := by decide +kernel
theorem d_La_cell_LPIIaJ_23 : decode b_La_cell_LPIIaJ 23 = .ok (.ireturn, 1) := by decide +kernel
theorem d_La_cell_LPIIaJ_24 : decode b_La_cell_LPIIaJ 24 = .ok (.iconst 0, 1) := by decide +kernel
theorem d_La_cell_LPIIaJ_25 : decode b_La_cell_LPIIaJ 25 = .ok (.ireturn, 1) := by decide +kernel
theorem d_La_clash_0 : decode b_La_clash 0 = .ok (.aload_n 2, 1) := by decide +kernel
theorem d_La_clash_1 : decode b_La_clash 1 = .ok (.iconst 0, 1) := by decide +kernel
theorem d_La_clash_2 : decode b_La_clash 2 = .ok (.aload_n 0, 1) := by decide +kernel
theorem d_La_clash_3 : decode b_La_clash 3 = .ok (.iload_n 1, 1) := by decide +kernel
theorem d_La_clash_4 : decode b_La_clash 4 = .ok (.invokevirtual 44, 3) := by decide +kernel
theorem d_La_clash_7 : decode b_La_clash 7 = .ok (.i2l, 1) := by decide +kernel
theorem d_La_clash_8 : decode b_La_clash 8 = .ok (.lastore, 1) := by decide +kernel
theorem d_La_clash_9 : decode b_La_clash 9 = .ok (.goto 6, 3) := by decide +kernel
theorem d_La_clash_12 : decode b_La_clash 12 = .ok (.astore_n 3, 1) := by decide +kernel
theorem d_La_clash_13 : decode b_La_clash 13 = .ok (.iconst 1, 1) := by decide +kernel
theorem d_La_clash_14 : decode b_La_clash 14 = .ok (.ireturn, 1) := by decide +kernel
theorem d_La_clash_15 : decode b_La_clash 15 = .ok (.iconst 0, 1) := by decide +kernel
theorem d_La_clash_16 : decode b_La_clash 16 = .ok (.ireturn, 1) := by decide +kernel
theorem d_La_part_0 : decode b_La_part 0 = .ok (.aload 5, 2) := by decide +kernel
theorem d_La_part_2 : decode b_La_part 2 = .ok (.iconst 0, 1) := by decide +kernel
theorem d_La_part_3 : decode b_La_part 3 = .ok (.aload_n 0, 1) := by decide +kernel
theorem d_La_part_4 : decode b_La_part 4 = .ok (.iload_n 1, 1) := by decide +kernel
theorem d_La_part_5 : decode b_La_part 5 = .ok (.iload_n 2, 1) := by decide +kernel
theorem d_La_part_6 : decode b_La_part 6 = .ok (.iload_n 3, 1) := by decide +kernel
theorem d_La_part_7 : decode b_La_part 7 = .ok (.iload 4, 2) := by decide +kernel
theorem d_La_part_9 : decode b_La_part 9 = .ok (.invokevirtual 47, 3) := by decide +kernel
theorem d_La_part_12 : decode b_La_part 12 = .ok (.i2l, 1) := by decide +kernel
theorem d_La_part_13 : decode b_La_part 13 = .ok (.lastore, 1) := by decide +kernel
theorem d_La_part_14 : decode b_La_part 14 = .ok (.goto 11, 3) := by decide +kernel
theorem d_La_part_17 : decode b_La_part 17 = .ok (.astore 6, 2) := by decide +kernel
theorem d_La_part_19 : decode b_La_part 19 = .ok (.iconst 1, 1) := by decide +kernel
theorem d_La_part_20 : decode b_La_part 20 = .ok (.ireturn, 1) := by decide +kernel
theorem d_La_part_21 : decode b_La_part 21 = .ok (.astore 6, 2) := by decide +kernel
theorem d_La_part_23 : decode b_La_part 23 = .ok (.iconst 2, 1) := by decide +kernel
theorem d_La_part_24 : decode b_La_part 24 = .ok (.ireturn, 1) := by decide +kernel
theorem d_La_part_25 : decode b_La_part 25 = .ok (.iconst 0, 1) := by decide +kernel
theorem d_La_part_26 : decode b_La_part 26 = .ok (.ireturn, 1) := by decide +kernel
theorem d_La_clear_0 : decode b_La_clear 0 = .ok (.aload_n 2, 1) := by decide +kernel
theorem d_La_clear_1 : decode b_La_clear 1 = .ok (.iconst 0, 1) := by decide +kernel
theorem d_La_clear_2 : decode b_La_clear 2 = .ok (.aload_n 0, 1) := by decide +kernel
theorem d_La_clear_3 : decode b_La_clear 3 = .ok (.iload_n 1, 1) := by decide +kernel
theorem d_La_clear_4 : decode b_La_clear 4 = .ok (.invokevirtual 51, 3) := by decide +kernel
theorem d_La_clear_7 : decode b_La_clear 7 = .ok (.i2l, 1) := by decide +kernel
theorem d_La_clear_8 : decode b_La_clear 8 = .ok (.lastore, 1) := by decide +kernel
theorem d_La_clear_9 : decode b_La_clear 9 = .ok (.goto 6, 3) := by decide +kernel
theorem d_La_clear_12 : decode b_La_clear 12 = .ok (.astore_n 3, 1) := by decide +kernel
theorem d_La_clear_13 : decode b_La_clear 13 = .ok (.iconst 1, 1) := by decide +kernel
theorem d_La_clear_14 : decode b_La_clear 14 = .ok (.ireturn, 1) := by decide +kernel
theorem d_La_clear_15 : decode b_La_clear 15 = .ok (.iconst 0, 1) := by decide +kernel
theorem d_La_clear_16 : decode b_La_clear 16 = .ok (.ireturn, 1) := by decide +kernel
theorem d_La_best_0 : decode b_La_best 0 = .ok (.aload_n 1, 1) := by decide +kernel
theorem d_La_best_1 : decode b_La_best 1 = .ok (.iconst 0, 1) := by decide +kernel
theorem d_La_best_2 : decode b_La_best 2 = .ok (.aload_n 0, 1) := by decide +kernel
theorem d_La_best_3 : decode b_La_best 3 = .ok (.invokevirtual 54, 3) := by decide +kernel
theorem d_La_best_6 : decode b_La_best 6 = .ok (.i2l, 1) := by decide +kernel
theorem d_La_best_7 : decode b_La_best 7 = .ok (.lastore, 1) := by decide +kernel
theorem d_La_best_8 : decode b_La_best 8 = .ok (.goto 6, 3) := by decide +kernel
theorem d_La_best_11 : decode b_La_best 11 = .ok (.astore_n 2, 1) := by decide +kernel
theorem d_La_best_12 : decode b_La_best 12 = .ok (.iconst 1, 1) := by decide +kernel
theorem d_La_best_13 : decode b_La_best 13 = .ok (.ireturn, 1) := by decide +kernel
theorem d_La_best_14 : decode b_La_best 14 = .ok (.iconst 0, 1) := by decide +kernel
theorem d_La_best_15 : decode b_La_best 15 = .ok (.ireturn, 1) := by decide +kernel
theorem d_La_sweeps_0 : decode b_La_sweeps 0 = .ok (.aload_n 2, 1) := by decide +kernel
theorem d_La_sweeps_1 : decode b_La_sweeps 1 = .ok (.iconst 0, 1) := by decide +kernel
theorem d_La_sweeps_2 : decode b_La_sweeps 2 = .ok (.aload_n 0, 1) := by decide +kernel
theorem d_La_sweeps_3 : decode b_La_sweeps 3 = .ok (.iload_n 1, 1) := by decide +kernel
theorem d_La_sweeps_4 : decode b_La_sweeps 4 = .ok (.invokevirtual 58, 3) := by decide +kernel
theorem d_La_sweeps_7 : decode b_La_sweeps 7 = .ok (.i2l, 1) := by decide +kernel
theorem d_La_sweeps_8 : decode b_La_sweeps 8 = .ok (.lastore, 1) := by decide +kernel
theorem d_La_sweeps_9 : decode b_La_sweeps 9 = .ok (.goto 9, 3) := by decide +kernel
theorem d_La_sweeps_12 : decode b_La_sweeps 12 = .ok (.astore_n 3, 1) := by decide +kernel
theorem d_La_sweeps_13 : decode b_La_sweeps 13 = .ok (.iconst 1, 1) := by decide +kernel
theorem d_La_sweeps_14 : decode b_La_sweeps 14 = .ok (.ireturn, 1) := by decide +kernel
theorem d_La_sweeps_15 : decode b_La_sweeps 15 = .ok (.astore_n 3, 1) := by decide +kernel
theorem d_La_sweeps_16 : decode b_La_sweeps 16 = .ok (.iconst 2, 1) := by decide +kernel
theorem d_La_sweeps_17 : decode b_La_sweeps 17 = .ok (.ireturn, 1) := by decide +kernel
theorem d_La_sweeps_18 : decode b_La_sweeps 18 = .ok (.iconst 0, 1) := by decide +kernel
theorem d_La_sweeps_19 : decode b_La_sweeps 19 = .ok (.ireturn, 1) := by decide +kernel
theorem d_Ob_init_0 : decode b_Ob_init 0 = .ok (.return_, 1) := by decide +kernel
theorem d_Ex_init_0 : decode b_Ex_init 0 = .ok (.aload_n 0, 1) := by decide +kernel
theorem d_Ex_init_1 : decode b_Ex_init 1 = .ok (.aload_n 1, 1) := by decide +kernel
theorem d_Ex_init_2 : decode b_Ex_init 2 = .ok (.invokespecial 7, 3) := by decide +kernel
theorem d_Ex_init_5 : decode b_Ex_init 5 = .ok (.return_, 1) := by decide +kernel
theorem d_IA_init_0 : decode b_IA_init 0 = .ok (.aload_n 0, 1) := by decide +kernel
theorem d_IA_init_1 : decode b_IA_init 1 = .ok (.aload_n 1, 1) := by decide +kernel
theorem d_IA_init_2 : decode b_IA_init 2 = .ok (.invokespecial 7, 3) := by decide +kernel
theorem d_IA_init_5 : decode b_IA_init 5 = .ok (.return_, 1) := by decide +kernel
theorem d_IS_init_0 : decode b_IS_init 0 = .ok (.aload_n 0, 1) := by decide +kernel
theorem d_IS_init_1 : decode b_IS_init 1 = .ok (.aload_n 1, 1) := by decide +kernel
theorem d_IS_init_2 : decode b_IS_init 2 = .ok (.invokespecial 7, 3) := by decide +kernel
theorem d_IS_init_5 : decode b_IS_init 5 = .ok (.return_, 1) := by decide +kernel
theorem d_Ma_abs_0 : decode b_Ma_abs 0 = .ok (.iload_n 0, 1) := by decide +kernel
theorem d_Ma_abs_1 : decode b_Ma_abs 1 = .ok (.ifCond .ge 8, 3) := by decide +kernel
theorem d_Ma_abs_4 : decode b_Ma_abs 4 = .ok (.iload_n 0, 1) := by decide +kernel
theorem d_Ma_abs_5 : decode b_Ma_abs 5 = .ok (.ineg, 1) := by decide +kernel
theorem d_Ma_abs_6 : decode b_Ma_abs 6 = .ok (.goto 4, 3) := by decide +kernel
theorem d_Ma_abs_9 : decode b_Ma_abs 9 = .ok (.iload_n 0, 1) := by decide +kernel
theorem d_Ma_abs_10 : decode b_Ma_abs 10 = .ok (.ireturn, 1) := by decide +kernel
theorem d_Ma_floorDiv_0 : decode b_Ma_floorDiv 0 = .ok (.iload_n 0, 1) := by decide +kernel
theorem d_Ma_floorDiv_1 : decode b_Ma_floorDiv 1 = .ok (.iload_n 1, 1) := by decide +kernel
theorem d_Ma_floorDiv_2 : decode b_Ma_floorDiv 2 = .ok (.idiv, 1) := by decide +kernel
theorem d_Ma_floorDiv_3 : decode b_Ma_floorDiv 3 = .ok (.istore_n 2, 1) := by decide +kernel
theorem d_Ma_floorDiv_4 : decode b_Ma_floorDiv 4 = .ok (.iload_n 0, 1) := by decide +kernel
theorem d_Ma_floorDiv_5 : decode b_Ma_floorDiv 5 = .ok (.iload_n 1, 1) := by decide +kernel
theorem d_Ma_floorDiv_6 : decode b_Ma_floorDiv 6 = .ok (.ixor, 1) := by decide +kernel
theorem d_Ma_floorDiv_7 : decode b_Ma_floorDiv 7 = .ok (.ifCond .ge 14, 3) := by decide +kernel
theorem d_Ma_floorDiv_10 : decode b_Ma_floorDiv 10 = .ok (.iload_n 2, 1) := by decide +kernel
theorem d_Ma_floorDiv_11 : decode b_Ma_floorDiv 11 = .ok (.iload_n 1, 1) := by decide +kernel
theorem d_Ma_floorDiv_12 : decode b_Ma_floorDiv 12 = .ok (.imul, 1) := by decide +kernel
theorem d_Ma_floorDiv_13 : decode b_Ma_floorDiv 13 = .ok (.iload_n 0, 1) := by decide +kernel
theorem d_Ma_floorDiv_14 : decode b_Ma_floorDiv 14 = .ok (.if_icmp .eq 7, 3) := by decide +kernel
theorem d_Ma_floorDiv_17 : decode b_Ma_floorDiv 17 = .ok (.iload_n 2, 1) := by decide +kernel
theorem d_Ma_floorDiv_18 : decode b_Ma_floorDiv 18 = .ok (.iconst 1, 1) := by decide +kernel
theorem d_Ma_floorDiv_19 : decode b_Ma_floorDiv 19 = .ok (.isub, 1) := by decide +kernel
theorem d_Ma_floorDiv_20 : decode b_Ma_floorDiv 20 = .ok (.ireturn, 1) := by decide +kernel
theorem d_Ma_floorDiv_21 : decode b_Ma_floorDiv 21 = .ok (.iload_n 2, 1) := by decide +kernel
theorem d_Ma_floorDiv_22 : decode b_Ma_floorDiv 22 = .ok (.ireturn, 1) := by decide +kernel
theorem d_Ma_max_0 : decode b_Ma_max 0 = .ok (.iload_n 0, 1) := by decide +kernel
theorem d_Ma_max_1 : decode b_Ma_max 1 = .ok (.iload_n 1, 1) := by decide +kernel
theorem d_Ma_max_2 : decode b_Ma_max 2 = .ok (.if_icmp .lt 7, 3) := by decide +kernel
theorem d_Ma_max_5 : decode b_Ma_max 5 = .ok (.iload_n 0, 1) := by decide +kernel
theorem d_Ma_max_6 : decode b_Ma_max 6 = .ok (.goto 4, 3) := by decide +kernel
theorem d_Ma_max_9 : decode b_Ma_max 9 = .ok (.iload_n 1, 1) := by decide +kernel
theorem d_Ma_max_10 : decode b_Ma_max 10 = .ok (.ireturn, 1) := by decide +kernel
theorem d_Ma_min_0 : decode b_Ma_min 0 = .ok (.iload_n 0, 1) := by decide +kernel
theorem d_Ma_min_1 : decode b_Ma_min 1 = .ok (.iload_n 1, 1) := by decide +kernel
theorem d_Ma_min_2 : decode b_Ma_min 2 = .ok (.if_icmp .gt 7, 3) := by decide +kernel
theorem d_Ma_min_5 : decode b_Ma_min 5 = .ok (.iload_n 0, 1) := by decide +kernel
theorem d_Ma_min_6 : decode b_Ma_min 6 = .ok (.goto 4, 3) := by decide +kernel
theorem d_Ma_min_9 : decode b_Ma_min 9 = .ok (.iload_n 1, 1) := by decide +kernel
theorem d_Ma_min_10 : decode b_Ma_min 10 = .ok (.ireturn, 1) := by decide +kernel
theorem d_Rt_init_0 : decode b_Rt_init 0 = .ok (.aload_n 0, 1) := by decide +kernel
theorem d_Rt_init_1 : decode b_Rt_init 1 = .ok (.aload_n 1, 1) := by decide +kernel
theorem d_Rt_init_2 : decode b_Rt_init 2 = .ok (.invokespecial 7, 3) := by decide +kernel
theorem d_Rt_init_5 : decode b_Rt_init 5 = .ok (.return_, 1) := by decide +kernel
theorem d_Ar_fill_0 : decode b_Ar_fill 0 = .ok (.iconst 0, 1) := by decide +kernel
theorem d_Ar_fill_1 : decode b_Ar_fill 1 = .ok (.istore_n 3, 1) := by decide +kernel
theorem d_Ar_fill_2 : decode b_Ar_fill 2 = .ok (.aload_n 0, 1) := by decide +kernel
theorem d_Ar_fill_3 : decode b_Ar_fill 3 = .ok (.arraylength, 1) := by decide +kernel
theorem d_Ar_fill_4 : decode b_Ar_fill 4 = .ok (.istore 4, 2) := by decide +kernel
theorem d_Ar_fill_6 : decode b_Ar_fill 6 = .ok (.iload_n 3, 1) := by decide +kernel
theorem d_Ar_fill_7 : decode b_Ar_fill 7 = .ok (.iload 4, 2) := by decide +kernel
theorem d_Ar_fill_9 : decode b_Ar_fill 9 = .ok (.if_icmp .ge 13, 3) := by decide +kernel
theorem d_Ar_fill_12 : decode b_Ar_fill 12 = .ok (.aload_n 0, 1) := by decide +kernel
theorem d_Ar_fill_13 : decode b_Ar_fill 13 = .ok (.iload_n 3, 1) := by decide +kernel
theorem d_Ar_fill_14 : decode b_Ar_fill 14 = .ok (.lload_n 1, 1) := by decide +kernel
theorem d_Ar_fill_15 : decode b_Ar_fill 15 = .ok (.lastore, 1) := by decide +kernel
theorem d_Ar_fill_16 : decode b_Ar_fill 16 = .ok (.iinc 3 1, 3) := by decide +kernel
theorem d_Ar_fill_19 : decode b_Ar_fill 19 = .ok (.goto (-13), 3) := by decide +kernel
theorem d_Ar_fill_22 : decode b_Ar_fill 22 = .ok (.return_, 1) := by decide +kernel
end
section
/-! the layer: contracts of methods that make no cell, over a world that is a list of cells; what every method carries (EV); calls -/
abbrev Glob : Type := va_G × (Nat → ClassId) × Nat
abbrev tysG (g : Glob) : List (ClassId × FieldType) := [(g.2.1 0, .int), (g.2.1 1, .long), (g.2.1 2, .boolean), (g.2.1 3, .object "SweptPaths$Shape"), (g.2.1 4, .object "SweptPaths$Pose"), (g.2.1 5, .object "SweptPaths$Plan")]
def dxL : List Int32 := [4096, 4076, 4017, 3920, 3784, 3612, 3406, 3166, 2896, 2598, 2276, 1931, 1567, 1189, 799, 401, 0, -401, -799, -1189, -1567, -1931, -2276, -2598, -2896, -3166, -3406, -3612, -3784, -3920, -4017, -4076, -4096, -4076, -4017, -3920, -3784, -3612, -3406, -3166, -2896, -2598, -2276, -1931, -1567, -1189, -799, -401, 0, 401, 799, 1189, 1567, 1931, 2276, 2598, 2896, 3166, 3406, 3612, 3784, 3920, 4017, 4076]
def dxT (j : Nat) : Int32 := dxL.getD j 0
/-- what stands still: the classes, the table of directions, what a thrown exception reads -/
def EV (g : Glob) (A : Nat → Prop) (U : State) (H : Heap) : Prop :=
  va_K g.1 classes (tysG g) U ∧ va_Z "SweptPaths$Directions" "DX" "[I" (.ref g.2.2) A U H ∧ va_T .int g.2.2 64 (fun j => .int (dxT j)) A U H ∧
  va_Zq "java/lang/Throwable" "UNASSIGNED_STACK" "[Ljava/lang/StackTraceElement;" A U H ∧ va_Zq "java/lang/Throwable" "SUPPRESSED_SENTINEL" "Ljava/util/List;" A U H
theorem EV.moved {g : Glob} {A : Nat → Prop} {u U : State} {H : Heap} (hvm : u.vm.Alike U.vm) (h : EV g A u H) : EV g A U H :=
  ⟨va_K.moved hvm h.1, va_Z.moved hvm h.2.1, va_T.moved hvm h.2.2.1, va_Zq.moved hvm h.2.2.2.1, va_Zq.moved hvm h.2.2.2.2⟩
theorem EV.to {g : Glob} {A B : Nat → Prop} {s U : State} {H : Heap} {locs : List Loc} (h : EV g A s s.heap) (hS : va_S A s.heap H locs) (hvm : s.vm.Alike U.vm) (hB : ∀ q, B q → A q) : EV g B U H :=
  ⟨va_K.moved hvm h.1, va_Z.moved hvm ((h.2.1.kept hS.2.1).narrow hB), va_T.moved hvm ((h.2.2.1.kept hS.2.1).narrow hB), va_Zq.moved hvm ((h.2.2.2.1.kept hS.2.1).narrow hB), va_Zq.moved hvm ((h.2.2.2.2.kept hS.2.1).narrow hB)⟩
def CW (g : Glob) (ws : va_W) (sz : Nat) (U : State) : Prop := U.heap.size = sz ∧ va_P g.1 classes ws U.heap ∧ va_D (fun _ => True) ws ∧ EV g (va_A ws sz) U U.heap
theorem CW_blind {g : Glob} {ws : va_W} {sz : Nat} {av : List Value} : FrameBlind (va_Pc av (CW g ws sz)) := fun a U gg mk q => by
  obtain ⟨q0, q1, qP, qD, qE⟩ := q
  exact ⟨q0, q1, qP, qD, EV.moved (u := U) (U := U.calling gg mk a) (Vm.Alike.refl U.vm) qE⟩
/-- a method that answers r0 and leaves the world ws' -/
def CI (l : Launch) (g : Glob) (y : MethodName) (cc : ByteArray) (n : Nat) (rt : Option FieldType) (f k : Nat) (av : List Value) (ws : va_W) (r0 : Int32) (ws' : va_W) : Prop :=
  ∀ sz : Nat, Met l y (.code y cc n rt :: W0) { frames := f, cells := 0, slots := 0, locals := k } (va_Pc av (CW g ws sz)) (va_Qi (S := Unit) (fun r _ => r = r0) (fun _ t => va_P g.1 classes ws' t.heap ∧ va_D (va_A ws sz) ws') (va_A ws sz)) 0 0 (va_A ws sz)
/-- a method that leaves the world ws' -/
def CV (l : Launch) (g : Glob) (y : MethodName) (cc : ByteArray) (n : Nat) (f k : Nat) (av : List Value) (ws : va_W) (ws' : va_W) : Prop :=
  ∀ sz : Nat, Met l y (.code y cc n none :: W0) { frames := f, cells := 0, slots := 0, locals := k } (va_Pc av (CW g ws sz)) (va_Qv (S := Unit) (fun _ => True) (fun _ t => va_P g.1 classes ws' t.heap ∧ va_D (va_A ws sz) ws') (va_A ws sz)) 0 0 (va_A ws sz)
def Cx (g : Glob) (own : String) (cc : ByteArray) (n : Nat) (A : Nat → Prop) (p : Program) (s : State) (m : MethodId) (args : Array Value) (c : Code) : Prop :=
  p.tables.exec = Jvm.exec ∧ c.code = cc ∧ c.maxLocals = n ∧ s.vm.findClass own = some m.cls ∧ (∀ w ∈ W0, w.before args s = true) ∧ EV g A s s.heap ∧ ∀ q, s.heap.size ≤ q → A q
theorem CI.of {l : Launch} {g : Glob} {y : MethodName} {cc : ByteArray} {n : Nat} {rt : Option FieldType} {f k : Nat} {av : List Value} {ws : va_W} {r0 : Int32} {ws' : va_W} (ty : FieldType) (hrt : rt = some ty) (hn : narrow ty (.int r0) = .int r0) (hy : plainFor y = true) (hl : (lg_sl av).length ≤ n)
    (body : ∀ (p : Program) (e : Env) (s : State) (m : MethodId) (below : List Frame) (meth : Method) (c : Code) (A : Nat → Prop) (Q : State → Prop) (ls : Array Slot), Cx g y.cls cc n A p s m av.toArray c → va_P g.1 classes ws s.heap → va_D A ws → lv_has ls n (lv_args 0 av) →
      (∀ (v : Int32) (w9 : va_W) (H : Heap) (locs : List Loc) (pc : Nat) (ls : Array Slot), v = r0 → w9 = ws' → va_P g.1 classes w9 H → va_D A w9 → va_S A s.heap H locs → decode cc pc = .ok (.ireturn, 1) → W p l e { frames := f, cells := 0, slots := 0, locals := k } s m av.toArray below meth c H locs 0 0 Q (F0 m pc ls [.int v])) →
      va_S A s.heap s.heap [] → W p l e { frames := f, cells := 0, slots := 0, locals := k } s m av.toArray below meth c s.heap [] 0 0 Q (F0 m 0 ls [])) : CI l g y cc n rt f k av ws r0 ws' := by
  intro sz
  refine va_MetF (cc := cc) (maxL := n) (ret := rt) hy rfl ?_
  intro p e s m args below meth c s₁ B hml hv
  obtain ⟨rfl, hsz, hP, hD0, hE⟩ := hv
  have hts := atoms_spec (ws := .code y cc n rt :: W0) B.pre
  have hown : s.vm.findClass y.cls = some m.cls := findClass_of_methodNamed B.named
  have hlocks := B.notSynchronized
  subst hsz
  have hD := hD0.self (sz := s.heap.size)
  rw [lg_entry_eq]
  refine body p e s m below meth c (va_A ws s.heap.size) _ _ ⟨B.exec, B.bytes, hml, hown, fun w h => hts w (List.mem_cons_of_mem _ h), hE, fun q h => Or.inr h⟩ hP hD (lv_entry av hl) ?_ va_S.rf
  intro v w9 H locs pc ls hv9 hw9 hP' hD' hS hd
  subst hv9 hw9
  exact W.zret B.exec B.bytes (B.returns.trans hrt) hn (fun t ht hW => ⟨⟨_, (), rfl, rfl, by rw [ht]; exact hP', hD'⟩, hS.F ht⟩) hS.2.2 hd
theorem CV.of {l : Launch} {g : Glob} {y : MethodName} {cc : ByteArray} {n : Nat} {f k : Nat} {av : List Value} {ws : va_W} {ws' : va_W} (hy : plainFor y = true) (hl : (lg_sl av).length ≤ n)
    (body : ∀ (p : Program) (e : Env) (s : State) (m : MethodId) (below : List Frame) (meth : Method) (c : Code) (A : Nat → Prop) (Q : State → Prop) (ls : Array Slot), Cx g y.cls cc n A p s m av.toArray c → va_P g.1 classes ws s.heap → va_D A ws → lv_has ls n (lv_args 0 av) →
      (∀ (w9 : va_W) (H : Heap) (locs : List Loc) (pc : Nat) (ls : Array Slot), w9 = ws' → va_P g.1 classes w9 H → va_D A w9 → va_S A s.heap H locs → decode cc pc = .ok (.return_, 1) → W p l e { frames := f, cells := 0, slots := 0, locals := k } s m av.toArray below meth c H locs 0 0 Q (F0 m pc ls [])) →
      va_S A s.heap s.heap [] → W p l e { frames := f, cells := 0, slots := 0, locals := k } s m av.toArray below meth c s.heap [] 0 0 Q (F0 m 0 ls [])) : CV l g y cc n f k av ws ws' := by
  intro sz
  refine va_MetF (cc := cc) (maxL := n) (ret := none) hy rfl ?_
  intro p e s m args below meth c s₁ B hml hv
  obtain ⟨rfl, hsz, hP, hD0, hE⟩ := hv
  have hts := atoms_spec (ws := .code y cc n none :: W0) B.pre
  have hown : s.vm.findClass y.cls = some m.cls := findClass_of_methodNamed B.named
  have hlocks := B.notSynchronized
  subst hsz
  have hD := hD0.self (sz := s.heap.size)
  rw [lg_entry_eq]
  refine body p e s m below meth c (va_A ws s.heap.size) _ _ ⟨B.exec, B.bytes, hml, hown, fun w h => hts w (List.mem_cons_of_mem _ h), hE, fun q h => Or.inr h⟩ hP hD (lv_entry av hl) ?_ va_S.rf
  intro w9 H locs pc ls hw9 hP' hD' hS hd
  subst hw9
  exact W.vret B.exec B.bytes B.returns (fun t ht hW => ⟨⟨(), rfl, trivial, by rw [ht]; exact hP', hD'⟩, hS.F ht⟩) hS.2.2 hd
theorem mapSub {ws wc : va_W} {is : List Nat} (h : is.map (fun i => ws[i]?) = wc.map some) : is.filterMap (fun i => ws[i]?) = wc := by
  have e : is.filterMap (fun i => ws[i]?) = (is.map (fun i => ws[i]?)).filterMap id := by rw [List.filterMap_map]; rfl
  rw [e, h, List.filterMap_map]
  simp
theorem P_free {D : va_G} {cl : List vw_C} {ws : va_W} {H H1 : Heap} (hP : va_P D cl ws H) (hk : ∀ q : Nat, q < H.size → ¬ va_A [] H.size q → H1[q]? = H[q]?) : va_P D cl ws H1 :=
  hP.kept (fun k q hq => hk q.1 ((hP k q hq).lt) (fun h => by
    rcases h with ⟨k2, e, h⟩ | h
    · simp at h
    · exact absurd ((hP k q hq).lt) (Nat.not_lt.mpr h)))
/-- what a call's instruction names, among the words -/
def VA (own : String) (idx : Nat) (y : MethodName) (cb : ByteArray) (mL : Nat) (rt : Option FieldType) (n : Nat) : Prop :=
  Cond.methodLink own idx y ∈ W0 ∧ Cond.instanceMethod y ∈ W0 ∧ Cond.selects y.cls y y ∈ W0 ∧ Cond.initialized y.cls ∈ W0 ∧ Cond.code y cb mL rt ∈ W0 ∧ (y.cls ≠ "java/lang/invoke/MethodHandle" ∧ y.cls ≠ "java/lang/invoke/VarHandle" ∧ (parseMethodDescriptor y.desc).map (fun d => d.parameters.length) = some n)
def SA (own : String) (idx : Nat) (y : MethodName) (cb : ByteArray) (mL : Nat) (rt : Option FieldType) (n : Nat) : Prop :=
  Cond.methodLink own idx y ∈ W0 ∧ Cond.static y ∈ W0 ∧ Cond.initialized y.cls ∈ W0 ∧ Cond.code y cb mL rt ∈ W0 ∧ (y.cls ≠ "java/lang/invoke/MethodHandle" ∧ y.cls ≠ "java/lang/invoke/VarHandle" ∧ (parseMethodDescriptor y.desc).map (fun d => d.parameters.length) = some n)
theorem VA.good {own : String} {idx : Nat} {y : MethodName} {cb : ByteArray} {mL : Nat} {rt : Option FieldType} {n : Nat} (h : VA own idx y cb mL rt n) : GoodIn W0 (wsV own idx y.cls y (.code y cb mL rt :: W0)) :=
  W0_goodL (all_cons h.1 (all_cons h.2.1 (all_cons h.2.2.1 (all_cons h.2.2.2.1 (all_cons h.2.2.2.2.1 (fun _ q => q))))))
theorem SA.good {own : String} {idx : Nat} {y : MethodName} {cb : ByteArray} {mL : Nat} {rt : Option FieldType} {n : Nat} (h : SA own idx y cb mL rt n) : GoodIn W0 (va_wsS own idx y (.code y cb mL rt :: W0)) :=
  W0_goodL (all_cons h.1 (all_cons h.2.1 (all_cons h.2.2.1 (all_cons h.2.2.2.1 (fun _ q => q)))))
section CALLS
variable {l : Launch} {g : Glob} {own : String} {cc : ByteArray} {nL : Nat} {A : Nat → Prop} {p : Program} {e : Env} {s : State} {m : MethodId} {args : Array Value} {below : List Frame} {meth : Method} {c : Code} {R : Room} {H : Heap} {locs : List Loc} {cells slots : Nat} {Q : State → Prop} {pc : Nat} {ls : Array Slot}
  {y : MethodName} {cb : ByteArray} {mL : Nat} {rt : Option FieldType} {f k : Nat} {b : Nat} {r0 : Int32} {wc wc' ws : va_W} {idx n : Nat} {st0 : List Value}
/-- invokevirtual, an int (or a boolean) comes back -/
theorem cvI (C : Cx g own cc nL A p s m args c) (hv : VA own idx y cb mL rt n) (As rest : List Value) (hM : CI l g y cb mL rt f k (.ref b :: As) wc r0 wc') (hP : va_P g.1 classes ws H) (hD : va_D A ws) (hS : va_S A s.heap H locs)
    (isC isR is1 : List Nat) (wr w1 : va_W) (hC : isC.map (fun i => ws[i]?) = wc.map some) (hRr : isR.map (fun i => ws[i]?) = wr.map some) (hn : va_nd isC = true) (hnR : va_nd isR = true) (hdis : ∀ i ∈ isR, i ∉ isC) (h1 : is1.map (fun i => (wr ++ wc')[i]?) = w1.map some) (hn1 : va_nd is1 = true)
    (q0 : Nat) {ci : Nat} {fs : List Value} {T : u_T} {N : Nat} (hq : wc[q0]? = some (b, .inr (ci, fs))) (hcl : classes[ci]? = some (y.cls, T, N)) (hst : st0 = As.reverse ++ .ref b :: rest) (hlen : As.length = n) (hsz : ls.size = nL) (hcat : (rest.map fun v => v.category).sum ≤ 8) (hR : f + 1 ≤ R.frames ∧ 8 + (mL + 11) + k ≤ R.locals)
    (hdg : decode cc pc = .ok (.invokevirtual idx, 3)) (hf : cells + 0 ≤ R.cells ∧ slots + 0 ≤ R.slots)
    (kk : ∀ (H : Heap) (locs : List Loc), va_P g.1 classes w1 H → va_D A w1 → va_S A s.heap H locs → W p l e R s m args below meth c H locs cells slots Q (F0 m (pc + 3) ls (.int r0 :: rest))) : W p l e R s m args below meth c H locs cells slots Q (F0 m pc ls st0) := by
  obtain ⟨hx, hb, hml, hown, hw, hE, hA⟩ := C
  have hFc := va_free (wc := wc) hD hS hA isC hC
  have hPc : va_P g.1 classes wc H := hP.sub isC (mapSub hC)
  have hDc : va_D A wc := hD.sub isC hn hC
  subst hst
  refine va_calli (va_runV (As := As) (rest := rest) ⟨hx, hb, hml, hown, hw⟩ (hM H.size) (cwV n hw hv.good rfl rfl rfl ⟨rfl, hv.2.2.2.2.2⟩ hR) ⟨CW_blind, va_recv hE.1 hPc hcl hq, fun U hU hW => ⟨rfl, by rw [hU], by rw [hU]; exact hPc, hDc.weaken (fun _ _ _ _ => trivial), by rw [hU]; exact hE.to hS hW.alike hFc⟩⟩ rfl hlen hsz rfl (lv_room hcat) hdg hf) hS (fun q _ h => hFc q h) hFc (fun r u t H1 locs1 ht hvm hw1 hB hz1 hk1 hS1 => ?_)
  obtain ⟨hP1, hD1⟩ := hB
  rw [ht] at hP1
  obtain ⟨hP2, hD2⟩ := va_join (wr := wr) (w1 := wc') hP hD isC isR hC hRr hnR hdis hk1 hFc hP1 hD1
  rw [hw1]
  exact kk H1 locs1 (hP2.sub is1 (mapSub h1)) (hD2.sub is1 hn1 h1) hS1
/-- invokevirtual, nothing comes back -/
theorem cvV (C : Cx g own cc nL A p s m args c) (hv : VA own idx y cb mL none n) (As rest : List Value) (hM : CV l g y cb mL f k (.ref b :: As) wc wc') (hP : va_P g.1 classes ws H) (hD : va_D A ws) (hS : va_S A s.heap H locs)
    (isC isR is1 : List Nat) (wr w1 : va_W) (hC : isC.map (fun i => ws[i]?) = wc.map some) (hRr : isR.map (fun i => ws[i]?) = wr.map some) (hn : va_nd isC = true) (hnR : va_nd isR = true) (hdis : ∀ i ∈ isR, i ∉ isC) (h1 : is1.map (fun i => (wr ++ wc')[i]?) = w1.map some) (hn1 : va_nd is1 = true)
    (q0 : Nat) {ci : Nat} {fs : List Value} {T : u_T} {N : Nat} (hq : wc[q0]? = some (b, .inr (ci, fs))) (hcl : classes[ci]? = some (y.cls, T, N)) (hst : st0 = As.reverse ++ .ref b :: rest) (hlen : As.length = n) (hsz : ls.size = nL) (hcat : (rest.map fun v => v.category).sum ≤ 8) (hR : f + 1 ≤ R.frames ∧ 8 + (mL + 11) + k ≤ R.locals)
    (hdg : decode cc pc = .ok (.invokevirtual idx, 3)) (hf : cells + 0 ≤ R.cells ∧ slots + 0 ≤ R.slots)
    (kk : ∀ (H : Heap) (locs : List Loc), va_P g.1 classes w1 H → va_D A w1 → va_S A s.heap H locs → W p l e R s m args below meth c H locs cells slots Q (F0 m (pc + 3) ls rest)) : W p l e R s m args below meth c H locs cells slots Q (F0 m pc ls st0) := by
  obtain ⟨hx, hb, hml, hown, hw, hE, hA⟩ := C
  have hFc := va_free (wc := wc) hD hS hA isC hC
  have hPc : va_P g.1 classes wc H := hP.sub isC (mapSub hC)
  have hDc : va_D A wc := hD.sub isC hn hC
  subst hst
  refine va_callv (va_runV (As := As) (rest := rest) ⟨hx, hb, hml, hown, hw⟩ (hM H.size) (cwV n hw hv.good rfl rfl rfl ⟨rfl, hv.2.2.2.2.2⟩ hR) ⟨CW_blind, va_recv hE.1 hPc hcl hq, fun U hU hW => ⟨rfl, by rw [hU], by rw [hU]; exact hPc, hDc.weaken (fun _ _ _ _ => trivial), by rw [hU]; exact hE.to hS hW.alike hFc⟩⟩ rfl hlen hsz rfl (lv_room hcat) hdg hf) hS (fun q _ h => hFc q h) hFc (fun u t H1 locs1 ht hvm hw1 hB hz1 hk1 hS1 => ?_)
  obtain ⟨hP1, hD1⟩ := hB
  rw [ht] at hP1
  obtain ⟨hP2, hD2⟩ := va_join (wr := wr) (w1 := wc') hP hD isC isR hC hRr hnR hdis hk1 hFc hP1 hD1
  exact kk H1 locs1 (hP2.sub is1 (mapSub h1)) (hD2.sub is1 hn1 h1) hS1
/-- invokestatic of a method that reads and writes nothing -/
theorem csI (C : Cx g own cc nL A p s m args c) (hv : SA own idx y cb mL rt n) (As rest : List Value) (hM : CI l g y cb mL rt f k As [] r0 []) (hP : va_P g.1 classes ws H) (hS : va_S A s.heap H locs)
    (hst : st0 = As.reverse ++ rest) (hlen : As.length = n) (hsz : ls.size = nL) (hcat : (rest.map fun v => v.category).sum ≤ 8) (hR : f + 1 ≤ R.frames ∧ 8 + (mL + 11) + k ≤ R.locals)
    (hdg : decode cc pc = .ok (.invokestatic idx, 3)) (hf : cells + 0 ≤ R.cells ∧ slots + 0 ≤ R.slots)
    (kk : ∀ (H : Heap) (locs : List Loc), va_P g.1 classes ws H → va_S A s.heap H locs → W p l e R s m args below meth c H locs cells slots Q (F0 m (pc + 3) ls (.int r0 :: rest))) : W p l e R s m args below meth c H locs cells slots Q (F0 m pc ls st0) := by
  obtain ⟨hx, hb, hml, hown, hw, hE, hA⟩ := C
  have hFc : ∀ q, va_A [] H.size q → A q := fun q h => by
    rcases h with ⟨k2, e2, h⟩ | h
    · simp at h
    · exact hA q (Nat.le_trans hS.1 h)
  subst hst
  refine va_calli (va_runS (As := As) (rest := rest) ⟨hx, hb, hml, hown, hw⟩ (hM H.size) (va_cwS n hw hv.good rfl rfl rfl hv.2.2.2.2 hR) ⟨CW_blind, fun U hU hW => ⟨rfl, by rw [hU], fun k q h => by simp at h, ⟨fun i j p q h => by simp at h, fun k q h => by simp at h⟩, by rw [hU]; exact hE.to hS hW.alike hFc⟩⟩ rfl hlen hsz rfl (lv_room hcat) hdg hf) hS (fun q _ h => hFc q h) hFc (fun r u t H1 locs1 ht hvm hw1 hB hz1 hk1 hS1 => ?_)
  rw [hw1]
  exact kk H1 locs1 (P_free hP hk1) hS1
/-- invokestatic, with a world, nothing comes back -/
theorem csV (C : Cx g own cc nL A p s m args c) (hv : SA own idx y cb mL none n) (As rest : List Value) (hM : CV l g y cb mL f k As wc wc') (hP : va_P g.1 classes ws H) (hD : va_D A ws) (hS : va_S A s.heap H locs)
    (isC isR is1 : List Nat) (wr w1 : va_W) (hC : isC.map (fun i => ws[i]?) = wc.map some) (hRr : isR.map (fun i => ws[i]?) = wr.map some) (hn : va_nd isC = true) (hnR : va_nd isR = true) (hdis : ∀ i ∈ isR, i ∉ isC) (h1 : is1.map (fun i => (wr ++ wc')[i]?) = w1.map some) (hn1 : va_nd is1 = true)
    (hst : st0 = As.reverse ++ rest) (hlen : As.length = n) (hsz : ls.size = nL) (hcat : (rest.map fun v => v.category).sum ≤ 8) (hR : f + 1 ≤ R.frames ∧ 8 + (mL + 11) + k ≤ R.locals)
    (hdg : decode cc pc = .ok (.invokestatic idx, 3)) (hf : cells + 0 ≤ R.cells ∧ slots + 0 ≤ R.slots)
    (kk : ∀ (H : Heap) (locs : List Loc), va_P g.1 classes w1 H → va_D A w1 → va_S A s.heap H locs → W p l e R s m args below meth c H locs cells slots Q (F0 m (pc + 3) ls rest)) : W p l e R s m args below meth c H locs cells slots Q (F0 m pc ls st0) := by
  obtain ⟨hx, hb, hml, hown, hw, hE, hA⟩ := C
  have hFc := va_free (wc := wc) hD hS hA isC hC
  have hPc : va_P g.1 classes wc H := hP.sub isC (mapSub hC)
  have hDc : va_D A wc := hD.sub isC hn hC
  subst hst
  refine va_callv (va_runS (As := As) (rest := rest) ⟨hx, hb, hml, hown, hw⟩ (hM H.size) (va_cwS n hw hv.good rfl rfl rfl hv.2.2.2.2 hR) ⟨CW_blind, fun U hU hW => ⟨rfl, by rw [hU], by rw [hU]; exact hPc, hDc.weaken (fun _ _ _ _ => trivial), by rw [hU]; exact hE.to hS hW.alike hFc⟩⟩ rfl hlen hsz rfl (lv_room hcat) hdg hf) hS (fun q _ h => hFc q h) hFc (fun u t H1 locs1 ht hvm hw1 hB hz1 hk1 hS1 => ?_)
  obtain ⟨hP1, hD1⟩ := hB
  rw [ht] at hP1
  obtain ⟨hP2, hD2⟩ := va_join (wr := wr) (w1 := wc') hP hD isC isR hC hRr hnR hdis hk1 hFc hP1 hD1
  exact kk H1 locs1 (hP2.sub is1 (mapSub h1)) (hD2.sub is1 hn1 h1) hS1
end CALLS
end
section
theorem v_SP_35 : SA "SweptPaths" 35 y_SP_demandWithin b_SP_demandWithin 3 (none : Option Jvm.ClassFile.FieldType) 3 := ⟨q_244, q_245, q_1, q_246, by decide +kernel⟩
theorem v_SP_71 : VA "SweptPaths" 71 y_Ru_begin b_Ru_begin 3 (none : Option Jvm.ClassFile.FieldType) 0 := ⟨q_330, q_331, q_332, q_4, q_333, by decide +kernel⟩
theorem v_SP_100 : VA "SweptPaths" 100 y_SP_demandSomeBody b_SP_demandSomeBody 1 (none : Option Jvm.ClassFile.FieldType) 0 := ⟨q_429, q_431, s_5, q_1, q_432, by decide +kernel⟩
theorem v_SP_103 : VA "SweptPaths" 103 y_Ru_walk b_Ru_walk 6 (none : Option Jvm.ClassFile.FieldType) 3 := ⟨q_434, q_435, q_436, q_4, q_437, by decide +kernel⟩
theorem v_SP_125 : VA "SweptPaths" 125 y_Ru_askewOf b_Ru_askewOf 2 (some .int) 1 := ⟨q_473, q_450, q_451, q_4, q_452, by decide +kernel⟩
theorem v_SP_132 : SA "SweptPaths" 132 y_Di_dx b_Di_dx 1 (some .int) 1 := ⟨q_481, q_346, q_15, q_347, by decide +kernel⟩
theorem v_SP_135 : SA "SweptPaths" 135 y_Di_dy b_Di_dy 1 (some .int) 1 := ⟨q_482, q_351, q_15, q_352, by decide +kernel⟩
theorem v_SP_147 : VA "SweptPaths" 147 y_Ce_has b_Ce_has 5 (some .boolean) 2 := ⟨q_490, q_491, q_492, q_6, q_493, by decide +kernel⟩
theorem v_SP_164 : VA "SweptPaths" 164 y_Pl_add b_Pl_add 4 (some .boolean) 3 := ⟨q_508, q_509, q_510, q_7, q_511, by decide +kernel⟩
theorem v_SP_173 : VA "SweptPaths" 173 y_Ru_follow b_Ru_follow 3 (none : Option Jvm.ClassFile.FieldType) 1 := ⟨q_527, q_528, q_529, q_4, q_530, by decide +kernel⟩
theorem v_SP_177 : VA "SweptPaths" 177 y_Ru_isFaultless b_Ru_isFaultless 1 (some .boolean) 0 := ⟨q_533, q_534, q_535, q_4, q_536, by decide +kernel⟩
theorem v_Mo_90 : VA "SweptPathsModel" 90 y_Mo_dx b_Mo_dx 3 (some .int) 1 := ⟨q_669, q_671, s_11, q_8, q_672, by decide +kernel⟩
theorem v_Mo_94 : SA "SweptPathsModel" 94 y_Mo_wrapped b_Mo_wrapped 1 (some .int) 1 := ⟨q_723, q_724, q_8, q_725, by decide +kernel⟩
theorem v_Mo_97 : VA "SweptPathsModel" 97 y_Mo_dy b_Mo_dy 2 (some .int) 1 := ⟨q_673, q_675, s_12, q_8, q_676, by decide +kernel⟩
theorem v_Mo_102 : SA "SweptPathsModel" 102 y_Mo_down b_Mo_down 3 (some .int) 2 := ⟨q_684, q_685, q_8, q_686, by decide +kernel⟩
theorem v_Mo_106 : SA "SweptPathsModel" 106 y_Mo_cellOf b_Mo_cellOf 2 (some .int) 1 := ⟨q_681, q_682, q_8, q_683, by decide +kernel⟩
theorem v_Mo_109 : SA "SweptPathsModel" 109 y_Mo_within b_Mo_within 1 (some .int) 1 := ⟨q_687, q_688, q_8, q_689, by decide +kernel⟩
theorem v_Mo_112 : VA "SweptPathsModel" 112 y_Mo_covers b_Mo_covers 16 (some .boolean) 3 := ⟨q_690, q_692, s_14, q_8, q_693, by decide +kernel⟩
theorem v_Mo_138 : VA "SweptPathsModel" 138 y_Mo_hang b_Mo_hang 3 (none : Option Jvm.ClassFile.FieldType) 1 := ⟨q_665, q_667, s_10, q_8, q_668, by decide +kernel⟩
theorem v_Mo_142 : VA "SweptPathsModel" 142 y_Mo_look b_Mo_look 9 (none : Option Jvm.ClassFile.FieldType) 0 := ⟨q_677, q_679, s_13, q_8, q_680, by decide +kernel⟩
theorem v_Mo_145 : VA "SweptPathsModel" 145 y_Mo_askewOf b_Mo_askewOf 2 (some .int) 1 := ⟨q_719, q_721, s_17, q_8, q_722, by decide +kernel⟩
theorem v_Mo_148 : VA "SweptPathsModel" 148 y_Mo_move b_Mo_move 7 (none : Option Jvm.ClassFile.FieldType) 2 := ⟨q_715, q_717, s_16, q_8, q_718, by decide +kernel⟩
theorem v_Mo_152 : SA "SweptPathsModel" 152 y_Mo_in b_Mo_in 3 (some .boolean) 3 := ⟨q_658, q_659, q_8, q_660, by decide +kernel⟩
theorem v_Mo_155 : VA "SweptPathsModel" 155 y_Mo_beginAnew b_Mo_beginAnew 2 (none : Option Jvm.ClassFile.FieldType) 0 := ⟨q_661, q_663, s_9, q_8, q_664, by decide +kernel⟩
theorem v_Mo_158 : VA "SweptPathsModel" 158 y_Mo_goOn b_Mo_goOn 5 (none : Option Jvm.ClassFile.FieldType) 3 := ⟨q_711, q_713, s_15, q_8, q_714, by decide +kernel⟩
theorem v_Mo_162 : VA "SweptPathsModel" 162 y_Mo_keepAside b_Mo_keepAside 2 (none : Option Jvm.ClassFile.FieldType) 0 := ⟨q_762, q_764, s_18, q_8, q_765, by decide +kernel⟩
theorem v_Mo_165 : VA "SweptPathsModel" 165 y_Mo_goPlan b_Mo_goPlan 4 (none : Option Jvm.ClassFile.FieldType) 1 := ⟨q_766, q_768, s_19, q_8, q_769, by decide +kernel⟩
theorem v_Mo_168 : VA "SweptPathsModel" 168 y_Mo_putBack b_Mo_putBack 2 (none : Option Jvm.ClassFile.FieldType) 0 := ⟨q_770, q_772, s_20, q_8, q_773, by decide +kernel⟩
theorem v_Ce_15 : SA "SweptPaths$Cells" 15 y_Ar_fill b_Ar_fill 5 (none : Option Jvm.ClassFile.FieldType) 2 := ⟨q_338, q_339, q_14, q_340, by decide +kernel⟩
theorem v_Ce_30 : SA "SweptPaths$Cells" 30 y_Di_dx b_Di_dx 1 (some .int) 1 := ⟨q_361, q_346, q_15, q_347, by decide +kernel⟩
theorem v_Ce_36 : SA "SweptPaths$Cells" 36 y_Di_dy b_Di_dy 1 (some .int) 1 := ⟨q_362, q_351, q_15, q_352, by decide +kernel⟩
theorem v_Ce_50 : SA "SweptPaths$Cells" 50 y_Ma_abs b_Ma_abs 1 (some .int) 1 := ⟨q_363, q_364, q_16, q_365, by decide +kernel⟩
theorem v_Ce_58 : SA "SweptPaths$Cells" 58 y_Ma_min b_Ma_min 2 (some .int) 2 := ⟨q_366, q_367, q_16, q_368, by decide +kernel⟩
theorem v_Ce_62 : SA "SweptPaths$Cells" 62 y_Ce_firstFrom b_Ce_firstFrom 1 (some .int) 1 := ⟨q_369, q_370, q_6, q_371, by decide +kernel⟩
theorem v_Ce_65 : SA "SweptPaths$Cells" 65 y_Ma_max b_Ma_max 2 (some .int) 2 := ⟨q_376, q_377, q_16, q_378, by decide +kernel⟩
theorem v_Ce_68 : SA "SweptPaths$Cells" 68 y_Ce_lastUpTo b_Ce_lastUpTo 1 (some .int) 1 := ⟨q_379, q_380, q_6, q_381, by decide +kernel⟩
theorem v_Ce_74 : SA "SweptPaths$Cells" 74 y_Ce_middleOf b_Ce_middleOf 1 (some .int) 1 := ⟨q_382, q_383, q_6, q_384, by decide +kernel⟩
theorem v_Ce_77 : VA "SweptPaths$Cells" 77 y_Sh_holds b_Sh_holds 5 (some .boolean) 2 := ⟨q_385, q_386, q_387, q_3, q_388, by decide +kernel⟩
theorem v_Ce_81 : VA "SweptPaths$Cells" 81 y_Ce_mark b_Ce_mark 6 (none : Option Jvm.ClassFile.FieldType) 2 := ⟨q_390, q_392, s_3, q_6, q_393, by decide +kernel⟩
theorem v_Ce_88 : SA "SweptPaths$Cells" 88 y_Ma_floorDiv b_Ma_floorDiv 3 (some .int) 2 := ⟨q_373, q_374, q_16, q_375, by decide +kernel⟩
theorem v_Ru_46 : VA "SweptPaths$Run" 46 y_Ce_wipe b_Ce_wipe 1 (none : Option Jvm.ClassFile.FieldType) 0 := ⟨q_334, q_335, q_336, q_6, q_337, by decide +kernel⟩
theorem v_Ru_78 : VA "SweptPaths$Run" 78 y_Ru_placeTrailers b_Ru_placeTrailers 6 (none : Option Jvm.ClassFile.FieldType) 0 := ⟨q_341, q_343, s_1, q_4, q_344, by decide +kernel⟩
theorem v_Ru_81 : VA "SweptPaths$Run" 81 y_Ru_lookRound b_Ru_lookRound 2 (none : Option Jvm.ClassFile.FieldType) 0 := ⟨q_353, q_355, s_2, q_4, q_356, by decide +kernel⟩
theorem v_Ru_84 : VA "SweptPaths$Run" 84 y_Ru_begin b_Ru_begin 3 (none : Option Jvm.ClassFile.FieldType) 0 := ⟨q_531, q_331, q_332, q_4, q_333, by decide +kernel⟩
theorem v_Ru_103 : VA "SweptPaths$Run" 103 y_Ru_walk b_Ru_walk 6 (none : Option Jvm.ClassFile.FieldType) 3 := ⟨q_532, q_435, q_436, q_4, q_437, by decide +kernel⟩
theorem v_Ru_110 : VA "SweptPaths$Run" 110 y_Ru_move b_Ru_move 5 (none : Option Jvm.ClassFile.FieldType) 2 := ⟨q_438, q_440, s_6, q_4, q_441, by decide +kernel⟩
theorem v_Ru_114 : VA "SweptPaths$Run" 114 y_Ru_measureAskew b_Ru_measureAskew 3 (none : Option Jvm.ClassFile.FieldType) 0 := ⟨q_460, q_462, s_8, q_4, q_463, by decide +kernel⟩
theorem v_Ru_117 : SA "SweptPaths$Run" 117 y_Di_askew b_Di_askew 2 (some .int) 2 := ⟨q_453, q_454, q_15, q_455, by decide +kernel⟩
theorem v_Ru_123 : SA "SweptPaths$Run" 123 y_Di_dx b_Di_dx 1 (some .int) 1 := ⟨q_345, q_346, q_15, q_347, by decide +kernel⟩
theorem v_Ru_127 : SA "SweptPaths$Run" 127 y_Di_dy b_Di_dy 1 (some .int) 1 := ⟨q_350, q_351, q_15, q_352, by decide +kernel⟩
theorem v_Ru_130 : SA "SweptPaths$Run" 130 y_Di_round b_Di_round 1 (some .int) 1 := ⟨q_442, q_443, q_15, q_444, by decide +kernel⟩
theorem v_Ru_133 : VA "SweptPaths$Run" 133 y_Ru_swing b_Ru_swing 7 (none : Option Jvm.ClassFile.FieldType) 2 := ⟨q_445, q_447, s_7, q_4, q_448, by decide +kernel⟩
theorem v_Ru_140 : VA "SweptPaths$Run" 140 y_Ru_askewOf b_Ru_askewOf 2 (some .int) 1 := ⟨q_449, q_450, q_451, q_4, q_452, by decide +kernel⟩
theorem v_Ru_143 : VA "SweptPaths$Run" 143 y_Sh_directionsIn b_Sh_directionsIn 2 (some .int) 1 := ⟨q_456, q_457, q_458, q_3, q_459, by decide +kernel⟩
theorem v_Ru_154 : SA "SweptPaths$Run" 154 y_Ma_abs b_Ma_abs 1 (some .int) 1 := ⟨q_464, q_364, q_16, q_365, by decide +kernel⟩
theorem v_Ru_159 : SA "SweptPaths$Run" 159 y_Ma_max b_Ma_max 2 (some .int) 2 := ⟨q_465, q_377, q_16, q_378, by decide +kernel⟩
theorem v_Ru_162 : VA "SweptPaths$Run" 162 y_Ce_cover b_Ce_cover 25 (none : Option Jvm.ClassFile.FieldType) 2 := ⟨q_357, q_358, q_359, q_6, q_360, by decide +kernel⟩
theorem v_Ru_166 : VA "SweptPaths$Run" 166 y_Ru_lookForPoles b_Ru_lookForPoles 13 (none : Option Jvm.ClassFile.FieldType) 1 := ⟨q_395, q_397, s_4, q_4, q_398, by decide +kernel⟩
theorem v_Ru_179 : VA "SweptPaths$Run" 179 y_Sh_holds b_Sh_holds 5 (some .boolean) 2 := ⟨q_399, q_386, q_387, q_3, q_388, by decide +kernel⟩
theorem v_La_7 : VA "SweptPathsLaw" 7 y_SP_body b_SP_body 8 (some .int) 5 := ⟨q_240, q_241, q_242, q_1, q_243, by decide +kernel⟩
theorem v_La_17 : VA "SweptPathsLaw" 17 y_SP_start b_SP_start 4 (none : Option Jvm.ClassFile.FieldType) 3 := ⟨q_403, q_404, q_405, q_1, q_406, by decide +kernel⟩
theorem v_La_21 : VA "SweptPathsLaw" 21 y_SP_step b_SP_step 3 (some .int) 1 := ⟨q_410, q_411, q_412, q_1, q_413, by decide +kernel⟩
theorem v_La_25 : VA "SweptPathsLaw" 25 y_SP_pole b_SP_pole 4 (some .int) 2 := ⟨q_417, q_418, q_419, q_1, q_420, by decide +kernel⟩
theorem v_La_29 : VA "SweptPathsLaw" 29 y_SP_go b_SP_go 4 (some .int) 3 := ⟨q_425, q_426, q_427, q_1, q_428, by decide +kernel⟩
theorem v_La_33 : VA "SweptPathsLaw" 33 y_SP_told b_SP_told 4 (some .int) 2 := ⟨q_469, q_470, q_471, q_1, q_472, by decide +kernel⟩
theorem v_La_36 : VA "SweptPathsLaw" 36 y_SP_corner b_SP_corner 10 (some .int) 3 := ⟨q_477, q_478, q_479, q_1, q_480, by decide +kernel⟩
theorem v_La_40 : VA "SweptPathsLaw" 40 y_SP_cell b_SP_cell 3 (some .boolean) 2 := ⟨q_486, q_487, q_488, q_1, q_489, by decide +kernel⟩
theorem v_La_44 : VA "SweptPathsLaw" 44 y_SP_clash b_SP_clash 2 (some .int) 1 := ⟨q_497, q_498, q_499, q_1, q_500, by decide +kernel⟩
theorem v_La_47 : VA "SweptPathsLaw" 47 y_SP_part b_SP_part 6 (some .int) 4 := ⟨q_504, q_505, q_506, q_1, q_507, by decide +kernel⟩
theorem v_La_51 : VA "SweptPathsLaw" 51 y_SP_clear b_SP_clear 3 (some .int) 1 := ⟨q_516, q_517, q_518, q_1, q_519, by decide +kernel⟩
theorem v_La_54 : VA "SweptPathsLaw" 54 y_SP_best b_SP_best 4 (some .int) 0 := ⟨q_523, q_524, q_525, q_1, q_526, by decide +kernel⟩
theorem v_La_58 : VA "SweptPathsLaw" 58 y_SP_sweeps b_SP_sweeps 2 (some .int) 1 := ⟨q_540, q_541, q_542, q_1, q_543, by decide +kernel⟩
theorem v_La_70 : VA "SweptPathsLaw" 70 y_Mo_body b_Mo_body 7 (some .int) 5 := ⟨q_654, q_655, q_656, q_8, q_657, by decide +kernel⟩
theorem v_La_71 : VA "SweptPathsLaw" 71 y_Mo_thrown b_Mo_thrown 1 (some .int) 0 := ⟨q_650, q_651, q_652, q_8, q_653, by decide +kernel⟩
theorem v_La_77 : VA "SweptPathsLaw" 77 y_Mo_start b_Mo_start 4 (none : Option Jvm.ClassFile.FieldType) 3 := ⟨q_695, q_696, q_697, q_8, q_698, by decide +kernel⟩
theorem v_La_81 : VA "SweptPathsLaw" 81 y_Mo_step b_Mo_step 3 (some .int) 1 := ⟨q_699, q_700, q_701, q_8, q_702, by decide +kernel⟩
theorem v_La_85 : VA "SweptPathsLaw" 85 y_Mo_pole b_Mo_pole 3 (some .int) 2 := ⟨q_703, q_704, q_705, q_8, q_706, by decide +kernel⟩
theorem v_La_89 : VA "SweptPathsLaw" 89 y_Mo_go b_Mo_go 4 (some .int) 3 := ⟨q_707, q_708, q_709, q_8, q_710, by decide +kernel⟩
theorem v_La_92 : VA "SweptPathsLaw" 92 y_Mo_told b_Mo_told 3 (some .int) 2 := ⟨q_726, q_727, q_728, q_8, q_729, by decide +kernel⟩
theorem v_La_96 : VA "SweptPathsLaw" 96 y_Mo_corner b_Mo_corner 8 (some .int) 3 := ⟨q_730, q_731, q_732, q_8, q_733, by decide +kernel⟩
theorem v_La_97 : VA "SweptPathsLaw" 97 y_SP_swept b_SP_swept 1 (some .int) 0 := ⟨q_227, q_228, q_229, q_1, q_230, by decide +kernel⟩
theorem v_La_100 : VA "SweptPathsLaw" 100 y_Mo_swept b_Mo_swept 1 (some .int) 0 := ⟨q_734, q_735, q_736, q_8, q_737, by decide +kernel⟩
theorem v_La_103 : VA "SweptPathsLaw" 103 y_Mo_cell b_Mo_cell 3 (some .boolean) 2 := ⟨q_738, q_739, q_740, q_8, q_741, by decide +kernel⟩
theorem v_La_106 : VA "SweptPathsLaw" 106 y_Mo_clash b_Mo_clash 2 (some .int) 1 := ⟨q_742, q_743, q_744, q_8, q_745, by decide +kernel⟩
theorem v_La_107 : VA "SweptPathsLaw" 107 y_SP_isStuck b_SP_isStuck 1 (some .boolean) 0 := ⟨q_231, q_232, q_233, q_1, q_234, by decide +kernel⟩
theorem v_La_111 : VA "SweptPathsLaw" 111 y_Mo_isStuck b_Mo_isStuck 1 (some .boolean) 0 := ⟨q_746, q_747, q_748, q_8, q_749, by decide +kernel⟩
theorem v_La_115 : VA "SweptPathsLaw" 115 y_Mo_part b_Mo_part 6 (some .int) 4 := ⟨q_750, q_751, q_752, q_8, q_753, by decide +kernel⟩
theorem v_La_118 : VA "SweptPathsLaw" 118 y_Mo_clear b_Mo_clear 3 (some .int) 1 := ⟨q_754, q_755, q_756, q_8, q_757, by decide +kernel⟩
theorem v_La_122 : VA "SweptPathsLaw" 122 y_Mo_best b_Mo_best 4 (some .int) 0 := ⟨q_758, q_759, q_760, q_8, q_761, by decide +kernel⟩
theorem v_La_125 : VA "SweptPathsLaw" 125 y_Mo_sweeps b_Mo_sweeps 3 (some .int) 1 := ⟨q_774, q_775, q_776, q_8, q_777, by decide +kernel⟩
end
section
/-! the words for the state: shapes and poses by (field, body), the setting's numbers, the run's numbers, the cells -/
abbrev St2 : Type := Nat → Nat → Int32
def u2 (σ : St2) (k b : Nat) (x : Int32) : St2 := fun i j => if i = k then (if j = b then x else σ i j) else σ i j
/-- shapes (length, hitch, front, rear, half); bodies, poles, startX, startY, startHeading, stepLength; poleX; poleY -/
abbrev CFG : Type := St2 × (Nat → Int32) × (Nat → Int32) × (Nat → Int32)
/-- poses (x, y, heading, rest, greatestAskew); made, stuck, clashStep, clashBody, clashPole; count; rows -/
abbrev RS : Type := St2 × (Nat → Int32) × Int32 × (Nat → Int64)
abbrev qShape (a : Nat) (sh : St2) (b : Nat) : Nat × va_E := (a, .inr (6, [.int (sh 0 b), .int (sh 1 b), .int (sh 2 b), .int (sh 3 b), .int (sh 4 b)]))
abbrev qPose (a : Nat) (po : St2) (b : Nat) : Nat × va_E := (a, .inr (3, [.int (po 0 b), .int (po 1 b), .int (po 2 b), .int (po 3 b), .int (po 4 b)]))
abbrev qRefs (a : Nat) (c : ClassId) (n : Nat) (f : Nat → Nat) : Nat × va_E := (a, .inl (c, n, .inr (.inr (.inr (.inr (fun j => some (f j)))))))
abbrev qInts (a : Nat) (c : ClassId) (n : Nat) (f : Nat → Int32) : Nat × va_E := (a, .inl (c, n, .inl f))
abbrev qLongs (a : Nat) (c : ClassId) (n : Nat) (f : Nat → Int64) : Nat × va_E := (a, .inl (c, n, .inr (.inl f)))
def wR (g : Glob) (ad : Nat → Nat) (k : CFG) (x : RS) : va_W := [
  (ad 0, .inr (4, [.ref (ad 6), .ref (ad 10), .int (x.2.1 0), .int (x.2.1 1), .int (x.2.1 2), .int (x.2.1 3), .int (x.2.1 4), .ref (ad 1)])),
  (ad 1, .inr (5, [.ref (ad 2), .ref (ad 12), .ref (ad 13), .int (k.2.1 0), .int (k.2.1 1), .int (k.2.1 2), .int (k.2.1 3), .int (k.2.1 4), .int (k.2.1 5)])),
  qRefs (ad 2) (g.2.1 3) 3 (fun j => ad (3 + j)), qShape (ad 3) k.1 0, qShape (ad 4) k.1 1, qShape (ad 5) k.1 2,
  qRefs (ad 6) (g.2.1 4) 3 (fun j => ad (7 + j)), qPose (ad 7) x.1 0, qPose (ad 8) x.1 1, qPose (ad 9) x.1 2,
  (ad 10, .inr (1, [.ref (ad 11), .int x.2.2.1])), qLongs (ad 11) (g.2.1 1) 64 x.2.2.2, qInts (ad 12) (g.2.1 0) 20 k.2.2.1, qInts (ad 13) (g.2.1 0) 20 k.2.2.2]
theorem lt3 {P : Nat → Prop} (h0 : P 0) (h1 : P 1) (h2 : P 2) {i : Nat} (h : i < 3) : P i := by
  match i, h with
  | 0, _ => exact h0
  | 1, _ => exact h1
  | 2, _ => exact h2
theorem wR_sh {g : Glob} {ad : Nat → Nat} {k : CFG} {x : RS} {i : Nat} (h : i < 3) : (wR g ad k x)[3 + i]? = some (qShape (ad (3 + i)) k.1 i) := lt3 (P := fun i => (wR g ad k x)[3 + i]? = some (qShape (ad (3 + i)) k.1 i)) rfl rfl rfl h
theorem wR_po {g : Glob} {ad : Nat → Nat} {k : CFG} {x : RS} {i : Nat} (h : i < 3) : (wR g ad k x)[7 + i]? = some (qPose (ad (7 + i)) x.1 i) := lt3 (P := fun i => (wR g ad k x)[7 + i]? = some (qPose (ad (7 + i)) x.1 i)) rfl rfl rfl h
theorem wR_p0 {g : Glob} {ad : Nat → Nat} {k : CFG} {po : St2} {y : (Nat → Int32) × Int32 × (Nat → Int64)} {v : Int32} {i : Nat} (h : i < 3) : (wR g ad k (po, y)).set (7 + i) (ad (7 + i), .inr (3, [.int v, .int (po 1 i), .int (po 2 i), .int (po 3 i), .int (po 4 i)])) = wR g ad k (u2 po 0 i v, y) := lt3 (P := fun i => (wR g ad k (po, y)).set (7 + i) (ad (7 + i), .inr (3, [.int v, .int (po 1 i), .int (po 2 i), .int (po 3 i), .int (po 4 i)])) = wR g ad k (u2 po 0 i v, y)) rfl rfl rfl h
theorem wR_p1 {g : Glob} {ad : Nat → Nat} {k : CFG} {po : St2} {y : (Nat → Int32) × Int32 × (Nat → Int64)} {v : Int32} {i : Nat} (h : i < 3) : (wR g ad k (po, y)).set (7 + i) (ad (7 + i), .inr (3, [.int (po 0 i), .int v, .int (po 2 i), .int (po 3 i), .int (po 4 i)])) = wR g ad k (u2 po 1 i v, y) := lt3 (P := fun i => (wR g ad k (po, y)).set (7 + i) (ad (7 + i), .inr (3, [.int (po 0 i), .int v, .int (po 2 i), .int (po 3 i), .int (po 4 i)])) = wR g ad k (u2 po 1 i v, y)) rfl rfl rfl h
theorem wR_p2 {g : Glob} {ad : Nat → Nat} {k : CFG} {po : St2} {y : (Nat → Int32) × Int32 × (Nat → Int64)} {v : Int32} {i : Nat} (h : i < 3) : (wR g ad k (po, y)).set (7 + i) (ad (7 + i), .inr (3, [.int (po 0 i), .int (po 1 i), .int v, .int (po 3 i), .int (po 4 i)])) = wR g ad k (u2 po 2 i v, y) := lt3 (P := fun i => (wR g ad k (po, y)).set (7 + i) (ad (7 + i), .inr (3, [.int (po 0 i), .int (po 1 i), .int v, .int (po 3 i), .int (po 4 i)])) = wR g ad k (u2 po 2 i v, y)) rfl rfl rfl h
theorem wR_p3 {g : Glob} {ad : Nat → Nat} {k : CFG} {po : St2} {y : (Nat → Int32) × Int32 × (Nat → Int64)} {v : Int32} {i : Nat} (h : i < 3) : (wR g ad k (po, y)).set (7 + i) (ad (7 + i), .inr (3, [.int (po 0 i), .int (po 1 i), .int (po 2 i), .int v, .int (po 4 i)])) = wR g ad k (u2 po 3 i v, y) := lt3 (P := fun i => (wR g ad k (po, y)).set (7 + i) (ad (7 + i), .inr (3, [.int (po 0 i), .int (po 1 i), .int (po 2 i), .int v, .int (po 4 i)])) = wR g ad k (u2 po 3 i v, y)) rfl rfl rfl h
theorem wR_p4 {g : Glob} {ad : Nat → Nat} {k : CFG} {po : St2} {y : (Nat → Int32) × Int32 × (Nat → Int64)} {v : Int32} {i : Nat} (h : i < 3) : (wR g ad k (po, y)).set (7 + i) (ad (7 + i), .inr (3, [.int (po 0 i), .int (po 1 i), .int (po 2 i), .int (po 3 i), .int v])) = wR g ad k (u2 po 4 i v, y) := lt3 (P := fun i => (wR g ad k (po, y)).set (7 + i) (ad (7 + i), .inr (3, [.int (po 0 i), .int (po 1 i), .int (po 2 i), .int (po 3 i), .int v])) = wR g ad k (u2 po 4 i v, y)) rfl rfl rfl h
/-! loops as folds: from i up to n -/
def iterF {α : Type} (f : Nat → α → α) : Nat → Nat → α → α
  | 0, _, x => x
  | j + 1, i, x => iterF f j (i + 1) (f i x)
def itF {α : Type} (f : Nat → α → α) (n i : Nat) (x : α) : α := iterF f (n - i) i x
theorem itF_end {α : Type} {f : Nat → α → α} {n i : Nat} {x : α} (h : n ≤ i) : itF f n i x = x := by
  unfold itF
  rw [Nat.sub_eq_zero_of_le h]
  rfl
theorem itF_step {α : Type} {f : Nat → α → α} {n i : Nat} {x : α} (h : i < n) : itF f n i x = itF f n (i + 1) (f i x) := by
  unfold itF
  rw [show n - i = (n - (i + 1)) + 1 by omega]
  rfl
/-! directions and the like, on the machine's ints -/
def dX (h : Int32) : Int32 := dxT (h &&& 63).toNatClampNeg
def dY (h : Int32) : Int32 := dxT ((h - 16) &&& 63).toNatClampNeg
def askI (a b : Int32) : Int32 := ((a - b + 32) &&& 63) - 32
theorem in63 (x : Int32) : vp_in (x &&& 63) 64 := pk_andIn x 6 (by decide) (by decide)
def maxI (a b : Int32) : Int32 := if a < b then b else a
def minI (a b : Int32) : Int32 := if b < a then b else a
def absI (a : Int32) : Int32 := if 0 ≤ a then a else 0 - a
def fdivI (x y : Int32) : Int32 := if 0 ≤ x ^^^ y then x / y else if x / y * y = x then x / y else x / y - 1
def midI (i : Int32) : Int32 := i * 32768 + 16384
def firI (p : Int32) : Int32 := maxI (-32) (fdivI (p - 16384 + 32768 - 1) 32768)
def lasI (p : Int32) : Int32 := minI 31 (fdivI (p - 16384) 32768)
end
section
theorem u2_s {σ : St2} {k b : Nat} {x : Int32} : u2 σ k b x k b = x := by simp [u2]
theorem u2_k {σ : St2} {k b i j : Nat} {x : Int32} (h : i ≠ k) : u2 σ k b x i j = σ i j := by simp [u2, h]
theorem u2_b {σ : St2} {k b i j : Nat} {x : Int32} (h : j ≠ b) : u2 σ k b x i j = σ i j := by simp [u2, h]
theorem lt5 {P : Nat → Prop} (h0 : P 0) (h1 : P 1) (h2 : P 2) (h3 : P 3) (h4 : P 4) {i : Nat} (h : i < 5) : P i := by
  match i, h with
  | 0, _ => exact h0
  | 1, _ => exact h1
  | 2, _ => exact h2
  | 3, _ => exact h3
  | 4, _ => exact h4
def poL (po : St2) (b : Nat) : List Value := [.int (po 0 b), .int (po 1 b), .int (po 2 b), .int (po 3 b), .int (po 4 b)]
theorem wR_get {g : Glob} {ad : Nat → Nat} {k : CFG} {x : RS} {b : Nat} (h : b < 3) : (wR g ad k x)[7 + b]? = some (ad (7 + b), .inr (3, poL x.1 b)) := lt3 (P := fun b => (wR g ad k x)[7 + b]? = some (ad (7 + b), .inr (3, poL x.1 b))) rfl rfl rfl h
theorem poL_get {po : St2} {b f : Nat} (h : f < 5) : (poL po b)[f]? = some (.int (po f b)) := lt5 (P := fun f => (poL po b)[f]? = some (.int (po f b))) rfl rfl rfl rfl rfl h
theorem wR_set {g : Glob} {ad : Nat → Nat} {k : CFG} {po : St2} {y : (Nat → Int32) × Int32 × (Nat → Int64)} {v : Int32} {f b : Nat} (hf : f < 5) (h : b < 3) : (wR g ad k (po, y)).set (7 + b) (ad (7 + b), .inr (3, (poL po b).set f (.int v))) = wR g ad k (u2 po f b v, y) :=
  lt5 (P := fun f => (wR g ad k (po, y)).set (7 + b) (ad (7 + b), .inr (3, (poL po b).set f (.int v))) = wR g ad k (u2 po f b v, y))
    (lt3 (P := fun b => (wR g ad k (po, y)).set (7 + b) (ad (7 + b), .inr (3, (poL po b).set 0 (.int v))) = wR g ad k (u2 po 0 b v, y)) rfl rfl rfl h)
    (lt3 (P := fun b => (wR g ad k (po, y)).set (7 + b) (ad (7 + b), .inr (3, (poL po b).set 1 (.int v))) = wR g ad k (u2 po 1 b v, y)) rfl rfl rfl h)
    (lt3 (P := fun b => (wR g ad k (po, y)).set (7 + b) (ad (7 + b), .inr (3, (poL po b).set 2 (.int v))) = wR g ad k (u2 po 2 b v, y)) rfl rfl rfl h)
    (lt3 (P := fun b => (wR g ad k (po, y)).set (7 + b) (ad (7 + b), .inr (3, (poL po b).set 3 (.int v))) = wR g ad k (u2 po 3 b v, y)) rfl rfl rfl h)
    (lt3 (P := fun b => (wR g ad k (po, y)).set (7 + b) (ad (7 + b), .inr (3, (poL po b).set 4 (.int v))) = wR g ad k (u2 po 4 b v, y)) rfl rfl rfl h) hf
theorem F_Po_f {f : Nat} (h : f < 5) : (F_Po f).1 = "SweptPaths$Pose" ∧ (F_Po f).2.2.1 = "I" ∧ (F_Po f).2.2.2 = false := lt5 (P := fun f => (F_Po f).1 = "SweptPaths$Pose" ∧ (F_Po f).2.2.1 = "I" ∧ (F_Po f).2.2.2 = false) ⟨rfl, rfl, rfl⟩ ⟨rfl, rfl, rfl⟩ ⟨rfl, rfl, rfl⟩ ⟨rfl, rfl, rfl⟩ ⟨rfl, rfl, rfl⟩ h
section POSE
variable {l : Launch} {g : Glob} {own : String} {cc : ByteArray} {nL : Nat} {A : Nat → Prop} {p : Program} {e : Env} {s : State} {m : MethodId} {args : Array Value} {below : List Frame} {meth : Method} {c : Code} {R : Room} {H : Heap} {locs : List Loc} {cells slots : Nat} {Q : State → Prop} {pc : Nat} {ls : Array Slot} {rest : List Value}
  {ad : Nat → Nat} {k : CFG} {x : RS} {po : St2} {y : (Nat → Int32) × Int32 × (Nat → Int64)} {idx a : Nat}
theorem get_po (C : Cx g own cc nL A p s m args c) (f b : Nat) (hf : f < 5) (h3 : b < 3) (ha : a = ad (7 + b)) (hl : Cond.fieldLink own idx "SweptPaths$Pose" (F_Po f).2.1 (F_Po f).2.2.1 ∈ W0) (hP : va_P g.1 classes (wR g ad k x) H) (v : Int32) (hv : x.1 f b = v) (hdg : decode cc pc = .ok (.getfield idx, 3))
    (kk : W p l e R s m args below meth c H locs cells slots Q (F0 m (pc + 3) ls (.int v :: rest))) : W p l e R s m args below meth c H locs cells slots Q (F0 m pc ls (.ref a :: rest)) := by
  obtain ⟨hx, hb, hml, hown, hw, hE, hA⟩ := C
  subst ha
  exact va_get (D := g.1) (ci := 3) (v := .int v) (C := R_Po) (T := F_Po) (N := 5) hx hb hw i_Po hown hE.1 hP (7 + b) (wR_get h3) rfl f hf (hw _ hl) (fun _ h9 => by rw [(F_Po_f hf).1] at h9; exact h9) (by rw [poL_get hf, hv]) hdg kk
theorem put_po (C : Cx g own cc nL A p s m args c) (f b : Nat) (hf : f < 5) (h3 : b < 3) (ha : a = ad (7 + b)) (hl : Cond.fieldLink own idx "SweptPaths$Pose" (F_Po f).2.1 (F_Po f).2.2.1 ∈ W0) (hP : va_P g.1 classes (wR g ad k (po, y)) H) (hD : va_D A (wR g ad k (po, y))) (hS : va_S A s.heap H locs) {v : Int32} (hdg : decode cc pc = .ok (.putfield idx, 3))
    (kk : ∀ (H : Heap) (locs : List Loc), va_P g.1 classes (wR g ad k (u2 po f b v, y)) H → va_D A (wR g ad k (u2 po f b v, y)) → va_S A s.heap H locs → W p l e R s m args below meth c H locs cells slots Q (F0 m (pc + 3) ls rest)) : W p l e R s m args below meth c H locs cells slots Q (F0 m pc ls (.int v :: .ref a :: rest)) := by
  obtain ⟨hx, hb, hml, hown, hw, hE, hA⟩ := C
  subst ha
  refine va_put (D := g.1) (ci := 3) (v := .int v) (ty := .int) (C := R_Po) (T := F_Po) (N := 5) hx hb hw i_Po t_Po t_Po_ok n_Po hown hE.1 hP hD hS (7 + b) (wR_get h3) rfl f hf (hw _ hl) (fun _ h9 => by rw [(F_Po_f hf).1] at h9; exact h9) (F_Po_f hf).2.2 (by rw [(F_Po_f hf).2.1]; decide +kernel) rfl rfl hf hdg (fun H locs hP hD hS => ?_)
  rw [show (po, y).1 = po from rfl, wR_set hf h3] at hP hD
  exact kk H locs hP hD hS
end POSE
end
section
set_option maxHeartbeats 4000000 in
set_option maxRecDepth 100000 in
theorem c_Di_round (l : Launch) (g : Glob) (a : Int32) : CI l g y_Di_round b_Di_round 1 (some .int) 0 0 [.int a] [] (a &&& 63) [] := by
  refine CI.of .int rfl rfl (by decide +kernel) (Nat.le_of_ble_eq_true rfl) ?_
  intro p e s m below meth c A Q ls C hP hD hl hret hS
  obtain ⟨hx, hb, hml, hown, hw, hE, hA⟩ := id C
  have hl : lv_has ls 1 [(0, .int a)] := hl
  refine lv_iload_n hx hb d_Di_round_0 rfl (lv_at hl 0 rfl) ?_
  refine lv_bipush (v := 63) hx hb d_Di_round_1 (by decide) ?_
  refine lv_iand hx hb d_Di_round_3 ?_
  exact hret _ _ _ _ _ _ rfl rfl hP hD hS d_Di_round_4
set_option maxHeartbeats 4000000 in
set_option maxRecDepth 100000 in
theorem c_Di_dx (l : Launch) (g : Glob) (a : Int32) : CI l g y_Di_dx b_Di_dx 1 (some .int) 0 0 [.int a] [] (dX a) [] := by
  refine CI.of .int rfl rfl (by decide +kernel) (Nat.le_of_ble_eq_true rfl) ?_
  intro p e s m below meth c A Q ls C hP hD hl hret hS
  obtain ⟨hx, hb, hml, hown, hw, hE, hA⟩ := id C
  have hl : lv_has ls 1 [(0, .int a)] := hl
  refine va_gets hx hb hE.2.1 hS hown (hw _ q_348) (fun _ h9 => h9) d_Di_dx_0 ?_
  refine lv_iload_n hx hb d_Di_dx_3 rfl (lv_at hl 0 rfl) ?_
  refine lv_bipush (v := 63) hx hb d_Di_dx_4 (by decide) ?_
  refine lv_iand hx hb d_Di_dx_6 ?_
  refine va_ti (v := .int (dxT (a &&& 63).toNatClampNeg)) hx hb hE.2.2.1 hS (in63 _) rfl d_Di_dx_7 ?_
  exact hret _ _ _ _ _ _ rfl rfl hP hD hS d_Di_dx_8
set_option maxHeartbeats 4000000 in
set_option maxRecDepth 100000 in
theorem c_Di_dy (l : Launch) (g : Glob) (a : Int32) : CI l g y_Di_dy b_Di_dy 1 (some .int) 0 0 [.int a] [] (dY a) [] := by
  refine CI.of .int rfl rfl (by decide +kernel) (Nat.le_of_ble_eq_true rfl) ?_
  intro p e s m below meth c A Q ls C hP hD hl hret hS
  obtain ⟨hx, hb, hml, hown, hw, hE, hA⟩ := id C
  have hl : lv_has ls 1 [(0, .int a)] := hl
  refine va_gets hx hb hE.2.1 hS hown (hw _ q_348) (fun _ h9 => h9) d_Di_dy_0 ?_
  refine lv_iload_n hx hb d_Di_dy_3 rfl (lv_at hl 0 rfl) ?_
  refine lv_bipush (v := 16) hx hb d_Di_dy_4 (by decide) ?_
  refine lv_isub hx hb d_Di_dy_6 ?_
  refine lv_bipush (v := 63) hx hb d_Di_dy_7 (by decide) ?_
  refine lv_iand hx hb d_Di_dy_9 ?_
  refine va_ti (v := .int (dxT ((a - 16) &&& 63).toNatClampNeg)) hx hb hE.2.2.1 hS (in63 _) rfl d_Di_dy_10 ?_
  exact hret _ _ _ _ _ _ rfl rfl hP hD hS d_Di_dy_11
set_option maxHeartbeats 4000000 in
set_option maxRecDepth 100000 in
theorem c_Di_askew (l : Launch) (g : Glob) (a b : Int32) : CI l g y_Di_askew b_Di_askew 2 (some .int) 0 0 [.int a, .int b] [] (askI a b) [] := by
  refine CI.of .int rfl rfl (by decide +kernel) (Nat.le_of_ble_eq_true rfl) ?_
  intro p e s m below meth c A Q ls C hP hD hl hret hS
  obtain ⟨hx, hb, hml, hown, hw, hE, hA⟩ := id C
  have hl : lv_has ls 2 [(0, .int a), (1, .int b)] := hl
  refine lv_iload_n hx hb d_Di_askew_0 rfl (lv_at hl 0 rfl) ?_
  refine lv_iload_n hx hb d_Di_askew_1 rfl (lv_at hl 1 rfl) ?_
  refine lv_isub hx hb d_Di_askew_2 ?_
  refine lv_bipush (v := 32) hx hb d_Di_askew_3 (by decide) ?_
  refine lv_iadd hx hb d_Di_askew_5 ?_
  refine lv_bipush (v := 63) hx hb d_Di_askew_6 (by decide) ?_
  refine lv_iand hx hb d_Di_askew_8 ?_
  refine lv_bipush (v := 32) hx hb d_Di_askew_9 (by decide) ?_
  refine lv_isub hx hb d_Di_askew_11 ?_
  exact hret _ _ _ _ _ _ rfl rfl hP hD hS d_Di_askew_12
set_option maxHeartbeats 4000000 in
set_option maxRecDepth 100000 in
theorem c_Ma_floorDiv (l : Launch) (g : Glob) (a b : Int32) (h0 : ¬ b = 0) : CI l g y_Ma_floorDiv b_Ma_floorDiv 3 (some .int) 0 0 [.int a, .int b] [] (fdivI a b) [] := by
  refine CI.of .int rfl rfl (by decide +kernel) (Nat.le_of_ble_eq_true rfl) ?_
  intro p e s m below meth c A Q ls C hP hD hl hret hS
  obtain ⟨hx, hb, hml, hown, hw, hE, hA⟩ := id C
  have hl : lv_has ls 3 [(0, .int a), (1, .int b)] := hl
  refine lv_iload_n hx hb d_Ma_floorDiv_0 rfl (lv_at hl 0 rfl) ?_
  refine lv_iload_n hx hb d_Ma_floorDiv_1 rfl (lv_at hl 1 rfl) ?_
  refine lv_idiv hx hb d_Ma_floorDiv_2 h0 ?_
  refine lv_istore_n (lv' := [(2, .int (a / b)), (0, .int a), (1, .int b)]) hx hb d_Ma_floorDiv_3 rfl hl (by decide) rfl (fun ls hl => ?_)
  refine lv_iload_n hx hb d_Ma_floorDiv_4 rfl (lv_at hl 1 rfl) ?_
  refine lv_iload_n hx hb d_Ma_floorDiv_5 rfl (lv_at hl 2 rfl) ?_
  refine lv_ixor hx hb d_Ma_floorDiv_6 ?_
  refine lv_if_ge (tgt := 21) hx hb d_Ma_floorDiv_7 (by decide) (fun c7_1 => ?_) (fun c7_1 => ?_)
  · refine lv_iload_n hx hb d_Ma_floorDiv_21 rfl (lv_at hl 0 rfl) ?_
    exact hret _ _ _ _ _ _ (by simp [fdivI, *]) rfl hP hD hS d_Ma_floorDiv_22
  · refine lv_iload_n hx hb d_Ma_floorDiv_10 rfl (lv_at hl 0 rfl) ?_
    refine lv_iload_n hx hb d_Ma_floorDiv_11 rfl (lv_at hl 2 rfl) ?_
    refine lv_imul hx hb d_Ma_floorDiv_12 ?_
    refine lv_iload_n hx hb d_Ma_floorDiv_13 rfl (lv_at hl 1 rfl) ?_
    refine lv_icmp_eq (tgt := 21) hx hb d_Ma_floorDiv_14 (by decide) (fun c14_2 => ?_) (fun c14_2 => ?_)
    · refine lv_iload_n hx hb d_Ma_floorDiv_21 rfl (lv_at hl 0 rfl) ?_
      exact hret _ _ _ _ _ _ (by simp [fdivI, *]) rfl hP hD hS d_Ma_floorDiv_22
    · refine lv_iload_n hx hb d_Ma_floorDiv_17 rfl (lv_at hl 0 rfl) ?_
      refine lv_iconst (v := 1) hx hb d_Ma_floorDiv_18 (by decide) ?_
      refine lv_isub hx hb d_Ma_floorDiv_19 ?_
      exact hret _ _ _ _ _ _ (by simp [fdivI, *]) rfl hP hD hS d_Ma_floorDiv_20
set_option maxHeartbeats 4000000 in
set_option maxRecDepth 100000 in
theorem c_Ce_middleOf (l : Launch) (g : Glob) (a : Int32) : CI l g y_Ce_middleOf b_Ce_middleOf 1 (some .int) 0 0 [.int a] [] (midI a) [] := by
  refine CI.of .int rfl rfl (by decide +kernel) (Nat.le_of_ble_eq_true rfl) ?_
  intro p e s m below meth c A Q ls C hP hD hl hret hS
  obtain ⟨hx, hb, hml, hown, hw, hE, hA⟩ := id C
  have hl : lv_has ls 1 [(0, .int a)] := hl
  refine lv_iload_n hx hb d_Ce_middleOf_0 rfl (lv_at hl 0 rfl) ?_
  refine lv_ldc (v := 32768) hx hb hown (hw _ q_372) d_Ce_middleOf_1 ?_
  refine lv_imul hx hb d_Ce_middleOf_3 ?_
  refine lv_sipush (v := 16384) hx hb d_Ce_middleOf_4 (by decide) ?_
  refine lv_iadd hx hb d_Ce_middleOf_7 ?_
  exact hret _ _ _ _ _ _ rfl rfl hP hD hS d_Ce_middleOf_8
set_option maxHeartbeats 4000000 in
set_option maxRecDepth 100000 in
theorem c_Ce_firstFrom (l : Launch) (g : Glob) (a : Int32) : CI l g y_Ce_firstFrom b_Ce_firstFrom 1 (some .int) 1 22 [.int a] [] (firI a) [] := by
  refine CI.of .int rfl rfl (by decide +kernel) (Nat.le_of_ble_eq_true rfl) ?_
  intro p e s m below meth c A Q ls C hP hD hl hret hS
  obtain ⟨hx, hb, hml, hown, hw, hE, hA⟩ := id C
  have hl : lv_has ls 1 [(0, .int a)] := hl
  refine lv_bipush (v := (-32)) hx hb d_Ce_firstFrom_0 (by decide) ?_
  refine lv_iload_n hx hb d_Ce_firstFrom_2 rfl (lv_at hl 0 rfl) ?_
  refine lv_sipush (v := 16384) hx hb d_Ce_firstFrom_3 (by decide) ?_
  refine lv_isub hx hb d_Ce_firstFrom_6 ?_
  refine lv_ldc (v := 32768) hx hb hown (hw _ q_372) d_Ce_firstFrom_7 ?_
  refine lv_iadd hx hb d_Ce_firstFrom_9 ?_
  refine lv_iconst (v := 1) hx hb d_Ce_firstFrom_10 (by decide) ?_
  refine lv_isub hx hb d_Ce_firstFrom_11 ?_
  refine lv_ldc (v := 32768) hx hb hown (hw _ q_372) d_Ce_firstFrom_12 ?_
  refine csI C v_Ce_88 [.int (((a - 16384) + 32768) - 1), .int 32768] [.int (-32)] (c_Ma_floorDiv l g (((a - 16384) + 32768) - 1) 32768 (by decide)) hP hS rfl rfl hl.1 (Nat.le_of_ble_eq_true rfl) ⟨Nat.le_of_ble_eq_true rfl, Nat.le_of_ble_eq_true rfl⟩ d_Ce_firstFrom_14 ⟨Nat.zero_le _, Nat.zero_le _⟩ (fun H locs hP hS => ?_)
  refine va_mmax hx hb (hml.trans hl.1.symm) hown (hw _ q_376) (hw _ q_377) (hw _ q_16) (hw _ q_378) (Nat.le_of_ble_eq_true rfl) (Nat.le_of_ble_eq_true rfl) (Nat.zero_le _) (Nat.zero_le _) d_Ce_firstFrom_17 ?_
  exact hret _ _ _ _ _ _ rfl rfl hP hD hS d_Ce_firstFrom_20
set_option maxHeartbeats 4000000 in
set_option maxRecDepth 100000 in
theorem c_Ce_lastUpTo (l : Launch) (g : Glob) (a : Int32) : CI l g y_Ce_lastUpTo b_Ce_lastUpTo 1 (some .int) 1 22 [.int a] [] (lasI a) [] := by
  refine CI.of .int rfl rfl (by decide +kernel) (Nat.le_of_ble_eq_true rfl) ?_
  intro p e s m below meth c A Q ls C hP hD hl hret hS
  obtain ⟨hx, hb, hml, hown, hw, hE, hA⟩ := id C
  have hl : lv_has ls 1 [(0, .int a)] := hl
  refine lv_bipush (v := 31) hx hb d_Ce_lastUpTo_0 (by decide) ?_
  refine lv_iload_n hx hb d_Ce_lastUpTo_2 rfl (lv_at hl 0 rfl) ?_
  refine lv_sipush (v := 16384) hx hb d_Ce_lastUpTo_3 (by decide) ?_
  refine lv_isub hx hb d_Ce_lastUpTo_6 ?_
  refine lv_ldc (v := 32768) hx hb hown (hw _ q_372) d_Ce_lastUpTo_7 ?_
  refine csI C v_Ce_88 [.int (a - 16384), .int 32768] [.int 31] (c_Ma_floorDiv l g (a - 16384) 32768 (by decide)) hP hS rfl rfl hl.1 (Nat.le_of_ble_eq_true rfl) ⟨Nat.le_of_ble_eq_true rfl, Nat.le_of_ble_eq_true rfl⟩ d_Ce_lastUpTo_9 ⟨Nat.zero_le _, Nat.zero_le _⟩ (fun H locs hP hS => ?_)
  refine va_mmin hx hb (hml.trans hl.1.symm) hown (hw _ q_366) (hw _ q_367) (hw _ q_16) (hw _ q_368) (Nat.le_of_ble_eq_true rfl) (Nat.le_of_ble_eq_true rfl) (Nat.zero_le _) (Nat.zero_le _) d_Ce_lastUpTo_12 ?_
  exact hret _ _ _ _ _ _ rfl rfl hP hD hS d_Ce_lastUpTo_15
end
section
/-! a body's rectangle; rows of cells -/
def insI (sh : St2) (b : Nat) (x y : Int64) : Int32 := if x < (-(sh 3 b)).toInt64 * 16777216 then 0 else if (sh 2 b).toInt64 * 16777216 < x then 0 else if y < (-(sh 4 b)).toInt64 * 16777216 then 0 else if (sh 4 b).toInt64 * 16777216 < y then 0 else 1
theorem insI_01 (sh : St2) (b : Nat) (x y : Int64) : insI sh b x y = 0 ∨ insI sh b x y = 1 := by
  unfold insI
  repeat' split
  all_goals simp
theorem nar01 {v : Int32} (h : v = 0 ∨ v = 1) : narrow .boolean (.int v) = .int v := by
  rcases h with rfl | rfl <;> rfl
def dirsIn (len rest : Int32) : Int32 := if 1 ≤ len then rest / len else 0
theorem len_ne {x : Int32} (h : 1 ≤ x) : ¬ x = 0 := fun q => by rw [q] at h; exact absurd h (by decide)
def bitI (i : Int32) : Int64 := 1 <<< ((i &&& 63).toInt64 &&& 63)
def hasI (rows : Nat → Int64) (i j : Int32) : Int32 := if rows (j &&& 63).toNatClampNeg &&& bitI i = 0 then 0 else 1
theorem hasI_01 (rows : Nat → Int64) (i j : Int32) : hasI rows i j = 0 ∨ hasI rows i j = 1 := by
  unfold hasI
  split <;> simp
abbrev CC : Type := Int32 × (Nat → Int64)
def markF (i j : Int32) (x : CC) : CC := if x.2 (j &&& 63).toNatClampNeg &&& bitI i = 0 then (x.1 + 1, vp_updL x.2 (j &&& 63).toNatClampNeg (x.2 (j &&& 63).toNatClampNeg ||| bitI i)) else x
def wC (g : Glob) (a0 a1 : Nat) (x : CC) : va_W := [(a0, .inr (1, [.ref a1, .int x.1])), qLongs a1 (g.2.1 1) 64 x.2]
theorem P_longs {D : va_G} {cl : List vw_C} {a n : Nat} {c : ClassId} {f f' : Nat → Int64} {H : Heap} (h : va_P D cl [qLongs a c n f] H) (hf : ∀ j, j < n → f j = f' j) : va_P D cl [qLongs a c n f'] H := by
  intro k q hq
  have h0 := h 0 _ rfl
  match k, hq with
  | 0, hq =>
    cases hq
    show H[a]? = some (arrV c n (fun j => .long (f' j)))
    have h1 : H[a]? = some (arrV c n (fun j => .long (f j))) := h0
    rw [h1]
    unfold arrV
    congr 2
    congr 1
    funext j
    show Value.long (f j.val) = Value.long (f' j.val)
    rw [hf j.val j.isLt]
  | k + 1, hq => simp at hq
theorem D_same {A : Nat → Prop} {a : Nat} {e e' : va_E} (h : va_D A [(a, e)]) : va_D A [(a, e')] := h.set (p := 0) rfl
theorem fill_step {f : Nat → Int64} {i : Nat} {v : Int64} (hi : i < 64) (hf : ∀ q, q < i → f q = v) : ∀ q, q < i + 1 → vp_updL f (nI i).toNatClampNeg v q = v := by
  intro q hq
  rw [nI_clamp (by omega)]
  by_cases e : q = i
  · rw [e, pk_uLs]
  · rw [pk_uLn e]
    exact hf q (by omega)
theorem lmax {x y : Int64} : ¬ y ≤ x ↔ x < y := by rw [Int64.not_le]

set_option maxHeartbeats 4000000 in
set_option maxRecDepth 100000 in
theorem c_Sh_holds (l : Launch) (g : Glob) (a : Nat) (sh : St2) (b : Nat) (x y : Int64) : CI l g y_Sh_holds b_Sh_holds 5 (some .boolean) 0 0 [.ref a, .long x, .long y] ([(a, .inr (6, [.int (sh 0 b), .int (sh 1 b), .int (sh 2 b), .int (sh 3 b), .int (sh 4 b)]))]) (insI sh b x y) ([qShape a sh b]) := by
  refine CI.of .boolean rfl (nar01 (insI_01 _ _ _ _)) (by decide +kernel) (Nat.le_of_ble_eq_true rfl) ?_
  intro p e s m below meth c A Q ls C hP hD hl hret hS
  obtain ⟨hx, hb, hml, hown, hw, hE, hA⟩ := id C
  have hl : lv_has ls 5 [(0, .ref a), (1, .long x), (3, .long y)] := hl
  refine lv_lload_n hx hb d_Sh_holds_0 rfl (lv_at hl 1 rfl) ?_
  refine lv_aload_n hx hb d_Sh_holds_1 rfl (lv_at hl 0 rfl) ?_
  refine va_get (D := g.1) (ci := 6) (v := .int (sh 3 b)) (C := R_Sh) (T := F_Sh) (N := 5) hx hb hw i_Sh hown hE.1 hP 0 rfl rfl 3 (by decide) (hw _ q_46) (fun _ h9 => h9) rfl d_Sh_holds_2 ?_
  refine lv_ineg hx hb d_Sh_holds_5 ?_
  refine lv_i2l hx hb d_Sh_holds_6 rfl ?_
  refine lv_ldc2 (v := 16777216) hx hb hown (hw _ q_389) d_Sh_holds_7 ?_
  refine lv_lmul hx hb d_Sh_holds_10 ?_
  refine W.lcmp hx hb d_Sh_holds_11 ?_
  refine lv_if_lt (tgt := 62) hx hb d_Sh_holds_12 (by decide) (fun c12_1 => ?_) (fun c12_1 => ?_)
  · rw [lg_cmp_lt] at c12_1
    refine lv_iconst (v := 0) hx hb d_Sh_holds_62 (by decide) ?_
    exact hret _ _ _ _ _ _ (by simp [insI, *]) (rfl) hP hD hS d_Sh_holds_63
  · rw [lg_cmp_lt] at c12_1
    refine lv_lload_n hx hb d_Sh_holds_15 rfl (lv_at hl 1 rfl) ?_
    refine lv_aload_n hx hb d_Sh_holds_16 rfl (lv_at hl 0 rfl) ?_
    refine va_get (D := g.1) (ci := 6) (v := .int (sh 2 b)) (C := R_Sh) (T := F_Sh) (N := 5) hx hb hw i_Sh hown hE.1 hP 0 rfl rfl 2 (by decide) (hw _ q_43) (fun _ h9 => h9) rfl d_Sh_holds_17 ?_
    refine lv_i2l hx hb d_Sh_holds_20 rfl ?_
    refine lv_ldc2 (v := 16777216) hx hb hown (hw _ q_389) d_Sh_holds_21 ?_
    refine lv_lmul hx hb d_Sh_holds_24 ?_
    refine W.lcmp hx hb d_Sh_holds_25 ?_
    refine lv_if_gt (tgt := 62) hx hb d_Sh_holds_26 (by decide) (fun c26_2 => ?_) (fun c26_2 => ?_)
    · rw [lg_cmp_gt] at c26_2
      refine lv_iconst (v := 0) hx hb d_Sh_holds_62 (by decide) ?_
      exact hret _ _ _ _ _ _ (by simp [insI, *]) (rfl) hP hD hS d_Sh_holds_63
    · rw [lg_cmp_gt] at c26_2
      refine lv_lload_n hx hb d_Sh_holds_29 rfl (lv_at hl 2 rfl) ?_
      refine lv_aload_n hx hb d_Sh_holds_30 rfl (lv_at hl 0 rfl) ?_
      refine va_get (D := g.1) (ci := 6) (v := .int (sh 4 b)) (C := R_Sh) (T := F_Sh) (N := 5) hx hb hw i_Sh hown hE.1 hP 0 rfl rfl 4 (by decide) (hw _ q_49) (fun _ h9 => h9) rfl d_Sh_holds_31 ?_
      refine lv_ineg hx hb d_Sh_holds_34 ?_
      refine lv_i2l hx hb d_Sh_holds_35 rfl ?_
      refine lv_ldc2 (v := 16777216) hx hb hown (hw _ q_389) d_Sh_holds_36 ?_
      refine lv_lmul hx hb d_Sh_holds_39 ?_
      refine W.lcmp hx hb d_Sh_holds_40 ?_
      refine lv_if_lt (tgt := 62) hx hb d_Sh_holds_41 (by decide) (fun c41_3 => ?_) (fun c41_3 => ?_)
      · rw [lg_cmp_lt] at c41_3
        refine lv_iconst (v := 0) hx hb d_Sh_holds_62 (by decide) ?_
        exact hret _ _ _ _ _ _ (by simp [insI, *]) (rfl) hP hD hS d_Sh_holds_63
      · rw [lg_cmp_lt] at c41_3
        refine lv_lload_n hx hb d_Sh_holds_44 rfl (lv_at hl 2 rfl) ?_
        refine lv_aload_n hx hb d_Sh_holds_45 rfl (lv_at hl 0 rfl) ?_
        refine va_get (D := g.1) (ci := 6) (v := .int (sh 4 b)) (C := R_Sh) (T := F_Sh) (N := 5) hx hb hw i_Sh hown hE.1 hP 0 rfl rfl 4 (by decide) (hw _ q_49) (fun _ h9 => h9) rfl d_Sh_holds_46 ?_
        refine lv_i2l hx hb d_Sh_holds_49 rfl ?_
        refine lv_ldc2 (v := 16777216) hx hb hown (hw _ q_389) d_Sh_holds_50 ?_
        refine lv_lmul hx hb d_Sh_holds_53 ?_
        refine W.lcmp hx hb d_Sh_holds_54 ?_
        refine lv_if_gt (tgt := 62) hx hb d_Sh_holds_55 (by decide) (fun c55_4 => ?_) (fun c55_4 => ?_)
        · rw [lg_cmp_gt] at c55_4
          refine lv_iconst (v := 0) hx hb d_Sh_holds_62 (by decide) ?_
          exact hret _ _ _ _ _ _ (by simp [insI, *]) (rfl) hP hD hS d_Sh_holds_63
        · rw [lg_cmp_gt] at c55_4
          refine lv_iconst (v := 1) hx hb d_Sh_holds_58 (by decide) ?_
          refine lv_goto (tgt := 63) hx hb d_Sh_holds_59 (by decide) ?_
          exact hret _ _ _ _ _ _ (by simp [insI, *]) (rfl) hP hD hS d_Sh_holds_63
set_option maxHeartbeats 4000000 in
set_option maxRecDepth 100000 in
theorem c_Sh_directionsIn (l : Launch) (g : Glob) (a : Nat) (sh : St2) (b : Nat) (x : Int32) : CI l g y_Sh_directionsIn b_Sh_directionsIn 2 (some .int) 0 0 [.ref a, .int x] ([(a, .inr (6, [.int (sh 0 b), .int (sh 1 b), .int (sh 2 b), .int (sh 3 b), .int (sh 4 b)]))]) (dirsIn (sh 0 b) x) ([qShape a sh b]) := by
  refine CI.of .int rfl rfl (by decide +kernel) (Nat.le_of_ble_eq_true rfl) ?_
  intro p e s m below meth c A Q ls C hP hD hl hret hS
  obtain ⟨hx, hb, hml, hown, hw, hE, hA⟩ := id C
  have hl : lv_has ls 2 [(0, .ref a), (1, .int x)] := hl
  refine lv_aload_n hx hb d_Sh_directionsIn_0 rfl (lv_at hl 0 rfl) ?_
  refine va_get (D := g.1) (ci := 6) (v := .int (sh 0 b)) (C := R_Sh) (T := F_Sh) (N := 5) hx hb hw i_Sh hown hE.1 hP 0 rfl rfl 0 (by decide) (hw _ q_38) (fun _ h9 => h9) rfl d_Sh_directionsIn_1 ?_
  refine lv_iconst (v := 1) hx hb d_Sh_directionsIn_4 (by decide) ?_
  refine lv_icmp_ge (tgt := 12) hx hb d_Sh_directionsIn_5 (by decide) (fun c5_1 => ?_) (fun c5_1 => ?_)
  · refine lv_iload_n hx hb d_Sh_directionsIn_12 rfl (lv_at hl 1 rfl) ?_
    refine lv_aload_n hx hb d_Sh_directionsIn_13 rfl (lv_at hl 0 rfl) ?_
    refine va_get (D := g.1) (ci := 6) (v := .int (sh 0 b)) (C := R_Sh) (T := F_Sh) (N := 5) hx hb hw i_Sh hown hE.1 hP 0 rfl rfl 0 (by decide) (hw _ q_38) (fun _ h9 => h9) rfl d_Sh_directionsIn_14 ?_
    refine lv_idiv hx hb d_Sh_directionsIn_17 (len_ne c5_1) ?_
    exact hret _ _ _ _ _ _ (by simp [dirsIn, *]) (rfl) hP hD hS d_Sh_directionsIn_18
  · refine lv_iconst (v := 0) hx hb d_Sh_directionsIn_8 (by decide) ?_
    refine lv_goto (tgt := 18) hx hb d_Sh_directionsIn_9 (by decide) ?_
    exact hret _ _ _ _ _ _ (by simp [dirsIn, *]) (rfl) hP hD hS d_Sh_directionsIn_18
set_option maxHeartbeats 4000000 in
set_option maxRecDepth 100000 in
theorem c_Ce_has (l : Launch) (g : Glob) (a0 a1 : Nat) (x : CC) (i j : Int32) : CI l g y_Ce_has b_Ce_has 5 (some .boolean) 0 0 [.ref a0, .int i, .int j] (wC g a0 a1 x) (hasI x.2 i j) (wC g a0 a1 x) := by
  refine CI.of .boolean rfl (nar01 (hasI_01 _ _ _)) (by decide +kernel) (Nat.le_of_ble_eq_true rfl) ?_
  intro p e s m below meth c A Q ls C hP hD hl hret hS
  obtain ⟨hx, hb, hml, hown, hw, hE, hA⟩ := id C
  have hl : lv_has ls 5 [(0, .ref a0), (1, .int i), (2, .int j)] := hl
  refine lv_lconst (v := 1) hx hb d_Ce_has_0 (by decide) ?_
  refine lv_iload_n hx hb d_Ce_has_1 rfl (lv_at hl 1 rfl) ?_
  refine lv_bipush (v := 63) hx hb d_Ce_has_2 (by decide) ?_
  refine lv_iand hx hb d_Ce_has_4 ?_
  refine lv_lshl hx hb d_Ce_has_5 rfl ?_
  refine lv_lstore_n (lv' := [(3, .long (1 <<< ((i &&& 63).toInt64 &&& 63))), (0, .ref a0), (1, .int i), (2, .int j)]) hx hb d_Ce_has_6 rfl hl (by decide) rfl (fun ls hl => ?_)
  refine lv_aload_n hx hb d_Ce_has_7 rfl (lv_at hl 1 rfl) ?_
  refine va_get (D := g.1) (ci := 1) (v := .ref a1) (C := R_Ce) (T := F_Ce) (N := 2) hx hb hw i_Ce hown hE.1 hP 0 rfl rfl 0 (by decide) (hw _ q_147) (fun _ h9 => h9) rfl d_Ce_has_8 ?_
  refine lv_iload_n hx hb d_Ce_has_11 rfl (lv_at hl 3 rfl) ?_
  refine lv_bipush (v := 63) hx hb d_Ce_has_12 (by decide) ?_
  refine lv_iand hx hb d_Ce_has_14 ?_
  refine va_lald hx hb hE.1 hP 1 1 rfl rfl (in63 _) d_Ce_has_15 ?_
  refine lv_lload_n hx hb d_Ce_has_16 rfl (lv_at hl 0 rfl) ?_
  refine lv_land hx hb d_Ce_has_17 ?_
  refine lv_lconst (v := 0) hx hb d_Ce_has_18 (by decide) ?_
  refine W.lcmp hx hb d_Ce_has_19 ?_
  refine lv_if_eq (tgt := 27) hx hb d_Ce_has_20 (by decide) (fun c20_1 => ?_) (fun c20_1 => ?_)
  · rw [lg_cmp_eq] at c20_1
    refine lv_iconst (v := 0) hx hb d_Ce_has_27 (by decide) ?_
    exact hret _ _ _ _ _ _ ((if_pos c20_1).symm) rfl hP hD hS d_Ce_has_28
  · rw [lg_cmp_eq] at c20_1
    refine lv_iconst (v := 1) hx hb d_Ce_has_23 (by decide) ?_
    refine lv_goto (tgt := 28) hx hb d_Ce_has_24 (by decide) ?_
    exact hret _ _ _ _ _ _ ((if_neg c20_1).symm) rfl hP hD hS d_Ce_has_28
set_option maxHeartbeats 4000000 in
set_option maxRecDepth 100000 in
theorem c_Ce_mark (l : Launch) (g : Glob) (a0 a1 : Nat) (x : CC) (i j : Int32) : CV l g y_Ce_mark b_Ce_mark 6 0 0 [.ref a0, .int i, .int j] (wC g a0 a1 x) (wC g a0 a1 (markF i j x)) := by
  refine CV.of (by decide +kernel) (Nat.le_of_ble_eq_true rfl) ?_
  intro p e s m below meth c A Q ls C hP hD hl hret hS
  obtain ⟨hx, hb, hml, hown, hw, hE, hA⟩ := id C
  have hl : lv_has ls 6 [(0, .ref a0), (1, .int i), (2, .int j)] := hl
  refine lv_iload_n hx hb d_Ce_mark_0 rfl (lv_at hl 2 rfl) ?_
  refine lv_bipush (v := 63) hx hb d_Ce_mark_1 (by decide) ?_
  refine lv_iand hx hb d_Ce_mark_3 ?_
  refine lv_istore_n (lv' := [(3, .int (j &&& 63)), (0, .ref a0), (1, .int i), (2, .int j)]) hx hb d_Ce_mark_4 rfl hl (by decide) rfl (fun ls hl => ?_)
  refine lv_lconst (v := 1) hx hb d_Ce_mark_5 (by decide) ?_
  refine lv_iload_n hx hb d_Ce_mark_6 rfl (lv_at hl 2 rfl) ?_
  refine lv_bipush (v := 63) hx hb d_Ce_mark_7 (by decide) ?_
  refine lv_iand hx hb d_Ce_mark_9 ?_
  refine lv_lshl hx hb d_Ce_mark_10 rfl ?_
  refine lv_lstore (lv' := [(4, .long (1 <<< ((i &&& 63).toInt64 &&& 63))), (3, .int (j &&& 63)), (0, .ref a0), (1, .int i), (2, .int j)]) hx hb d_Ce_mark_11 hl (by decide) rfl (fun ls hl => ?_)
  refine lv_aload_n hx hb d_Ce_mark_13 rfl (lv_at hl 2 rfl) ?_
  refine va_get (D := g.1) (ci := 1) (v := .ref a1) (C := R_Ce) (T := F_Ce) (N := 2) hx hb hw i_Ce hown hE.1 hP 0 rfl rfl 0 (by decide) (hw _ q_147) (fun _ h9 => h9) rfl d_Ce_mark_14 ?_
  refine lv_iload_n hx hb d_Ce_mark_17 rfl (lv_at hl 1 rfl) ?_
  refine va_lald hx hb hE.1 hP 1 1 rfl rfl (in63 _) d_Ce_mark_18 ?_
  refine lv_lload hx hb d_Ce_mark_19 (lv_at hl 0 rfl) ?_
  refine lv_land hx hb d_Ce_mark_21 ?_
  refine lv_lconst (v := 0) hx hb d_Ce_mark_22 (by decide) ?_
  refine W.lcmp hx hb d_Ce_mark_23 ?_
  refine lv_if_ne (tgt := 48) hx hb d_Ce_mark_24 (by decide) (fun c24_1 => ?_) (fun c24_1 => ?_)
  · rw [lg_cmp_eq] at c24_1
    exact hret _ _ _ _ _ (congrArg (wC g a0 a1) (if_neg c24_1).symm) hP hD hS d_Ce_mark_48
  · rw [lg_cmp_eq] at c24_1
    refine lv_aload_n hx hb d_Ce_mark_27 rfl (lv_at hl 2 rfl) ?_
    refine va_get (D := g.1) (ci := 1) (v := .ref a1) (C := R_Ce) (T := F_Ce) (N := 2) hx hb hw i_Ce hown hE.1 hP 0 rfl rfl 0 (by decide) (hw _ q_147) (fun _ h9 => h9) rfl d_Ce_mark_28 ?_
    refine lv_iload_n hx hb d_Ce_mark_31 rfl (lv_at hl 1 rfl) ?_
    refine lv_dup2_11 hx hb d_Ce_mark_32 rfl rfl ?_
    refine va_lald hx hb hE.1 hP 1 1 rfl rfl (in63 _) d_Ce_mark_33 ?_
    refine lv_lload hx hb d_Ce_mark_34 (lv_at hl 0 rfl) ?_
    refine lv_lor hx hb d_Ce_mark_36 ?_
    refine va_last hx hb hE.1 hP hD hS 1 1 rfl rfl (in63 _) d_Ce_mark_37 (fun H locs hP hD hS => ?_)
    have hP : va_P g.1 classes ([(a0, .inr (1, [.ref a1, .int x.1])), (a1, .inl (g.2.1 1, 64, .inr (.inl (vp_updL x.2 ((j &&& 63).toNatClampNeg) ((x.2 ((j &&& 63).toNatClampNeg)) ||| (1 <<< ((i &&& 63).toInt64 &&& 63)))))))]) H := hP
    have hD : va_D A ([(a0, .inr (1, [.ref a1, .int x.1])), (a1, .inl (g.2.1 1, 64, .inr (.inl (vp_updL x.2 ((j &&& 63).toNatClampNeg) ((x.2 ((j &&& 63).toNatClampNeg)) ||| (1 <<< ((i &&& 63).toInt64 &&& 63)))))))]) := hD
    refine lv_aload_n hx hb d_Ce_mark_38 rfl (lv_at hl 2 rfl) ?_
    refine lv_dup hx hb d_Ce_mark_39 rfl ?_
    refine va_get (D := g.1) (ci := 1) (v := .int x.1) (C := R_Ce) (T := F_Ce) (N := 2) hx hb hw i_Ce hown hE.1 hP 0 rfl rfl 1 (by decide) (hw _ q_148) (fun _ h9 => h9) rfl d_Ce_mark_40 ?_
    refine lv_iconst (v := 1) hx hb d_Ce_mark_43 (by decide) ?_
    refine lv_iadd hx hb d_Ce_mark_44 ?_
    refine va_put (D := g.1) (ci := 1) (v := .int (x.1 + 1)) (ty := .int) (C := R_Ce) (T := F_Ce) (N := 2) hx hb hw i_Ce t_Ce t_Ce_ok n_Ce hown hE.1 hP hD hS 0 rfl rfl 1 (by decide) (hw _ q_148) (fun _ h9 => h9) rfl (by decide +kernel) rfl rfl (Nat.le_of_ble_eq_true rfl) d_Ce_mark_45 (fun H locs hP hD hS => ?_)
    have hP : va_P g.1 classes ([(a0, .inr (1, [.ref a1, .int (x.1 + 1)])), (a1, .inl (g.2.1 1, 64, .inr (.inl (vp_updL x.2 ((j &&& 63).toNatClampNeg) ((x.2 ((j &&& 63).toNatClampNeg)) ||| (1 <<< ((i &&& 63).toInt64 &&& 63)))))))]) H := hP
    have hD : va_D A ([(a0, .inr (1, [.ref a1, .int (x.1 + 1)])), (a1, .inl (g.2.1 1, 64, .inr (.inl (vp_updL x.2 ((j &&& 63).toNatClampNeg) ((x.2 ((j &&& 63).toNatClampNeg)) ||| (1 <<< ((i &&& 63).toInt64 &&& 63)))))))]) := hD
    exact hret _ _ _ _ _ (congrArg (wC g a0 a1) (if_pos c24_1).symm) hP hD hS d_Ce_mark_48
set_option maxHeartbeats 4000000 in
set_option maxRecDepth 100000 in
theorem c_Ar_fill (l : Launch) (g : Glob) (a : Nat) (v : Int64) (f : Nat → Int64) : CV l g y_Ar_fill b_Ar_fill 5 0 0 [.ref a, .long v] ([(a, .inl (g.2.1 1, 64, .inr (.inl f)))]) ([qLongs a (g.2.1 1) 64 (fun _ => v)]) := by
  refine CV.of (by decide +kernel) (Nat.le_of_ble_eq_true rfl) ?_
  intro p e s m below meth c A Q ls C hP hD hl hret hS
  obtain ⟨hx, hb, hml, hown, hw, hE, hA⟩ := id C
  have hl : lv_has ls 5 [(0, .ref a), (1, .long v)] := hl
  refine lv_iconst (v := 0) hx hb d_Ar_fill_0 (by decide) ?_
  refine lv_istore_n (lv' := [(3, .int 0), (0, .ref a), (1, .long v)]) hx hb d_Ar_fill_1 rfl hl (by decide) rfl (fun ls hl => ?_)
  refine lv_aload_n hx hb d_Ar_fill_2 rfl (lv_at hl 1 rfl) ?_
  refine va_alen (v := 64) hx hb hE.1 hP 0 1 rfl rfl rfl d_Ar_fill_3 ?_
  refine lv_istore (lv' := [(4, .int 64), (3, .int 0), (0, .ref a), (1, .long v)]) hx hb d_Ar_fill_4 hl (by decide) rfl (fun ls hl => ?_)
  have lp : ∀ (j : Nat) (i : Nat) (f : Nat → Int64) (H : Heap) (locs : List Loc) (ls : Array Slot), i ≤ 64 → 64 < i + j → (∀ q, q < i → f q = v) → va_P g.1 classes ([(a, .inl (g.2.1 1, 64, .inr (.inl f)))]) H → va_D A ([(a, .inl (g.2.1 1, 64, .inr (.inl f)))]) → va_S A s.heap H locs → lv_has ls 5 [(3, .int (nI i)), (0, .ref a), (1, .long v), (4, .int 64)] → W p l e { frames := 0, cells := 0, slots := 0, locals := 0 } s m ([.ref a, .long v] : List Value).toArray below meth c H locs 0 0 Q (F0 m 6 ls []) := by
    intro j
    induction j with
    | zero =>
      intro i f H locs ls hi hj hf hP hD hS hl
      exact absurd trivial (by omega)
    | succ j ih =>
      intro i f H locs ls hi hj hf hP hD hS hl
      refine lv_iload_n hx hb d_Ar_fill_6 rfl (lv_at hl 0 rfl) ?_
      refine lv_iload hx hb d_Ar_fill_7 (lv_at hl 3 rfl) ?_
      refine lv_icmp_ge (tgt := 22) hx hb d_Ar_fill_9 (by decide) (fun c9_1 => ?_) (fun c9_1 => ?_)
      · have hge : 64 ≤ i := (nI_leI (a := 64) (by decide) (by omega)).mp c9_1
        exact hret _ _ _ _ _ rfl (P_longs hP (fun q hq => hf q (by omega))) (D_same hD) hS d_Ar_fill_22
      · have hlt : i < 64 := by
          rcases Nat.lt_or_ge i 64 with q | q
          · exact q
          · exact absurd (nI_le (a := 64) q (by omega)) c9_1
        refine lv_aload_n hx hb d_Ar_fill_12 rfl (lv_at hl 1 rfl) ?_
        refine lv_iload_n hx hb d_Ar_fill_13 rfl (lv_at hl 0 rfl) ?_
        refine lv_lload_n hx hb d_Ar_fill_14 rfl (lv_at hl 2 rfl) ?_
        refine va_last hx hb hE.1 hP hD hS 0 1 rfl rfl (vp_in_nI hlt (by omega)) d_Ar_fill_15 (fun H locs hP hD hS => ?_)
        have hP : va_P g.1 classes ([(a, .inl (g.2.1 1, 64, .inr (.inl (vp_updL f ((nI i).toNatClampNeg) v))))]) H := hP
        have hD : va_D A ([(a, .inl (g.2.1 1, 64, .inr (.inl (vp_updL f ((nI i).toNatClampNeg) v))))]) := hD
        refine lv_iinc (v := (nI (i + 1))) (lv' := [(3, .int (nI (i + 1))), (0, .ref a), (1, .long v), (4, .int 64)]) hx hb d_Ar_fill_16 hl (k := 0) rfl (nI_1 i) (by decide) rfl (fun ls hl => ?_)
        refine lv_goto (tgt := 6) hx hb d_Ar_fill_19 (by decide) ?_
        exact ih (i + 1) _ _ _ _ (by omega) (by omega) (fill_step hlt hf) hP hD hS hl
  exact lp 65 0 f _ _ _ (by omega) (by omega) (fun q h => absurd h (Nat.not_lt_zero q)) hP hD hS (lv_sub hl [1, 2, 3, 0] rfl)
end
section
/-! the cells that a body covers -/
def cntI (lo hi : Int32) : Nat := (hi.toInt + 1 - lo.toInt).toNat
def itr {α : Type} (f : α → α) : Nat → α → α
  | 0, x => x
  | n + 1, x => itr f n (f x)
theorem itr_s {α : Type} (f : α → α) (n : Nat) (x : α) : itr f (n + 1) x = itr f n (f x) := rfl
theorem itr_z {α : Type} (f : α → α) (x : α) : itr f 0 x = x := rfl
def stepI (sh : St2) (b : Nat) (dx dy j : Int32) (q : Int32 × Int64 × Int64 × CC) : Int32 × Int64 × Int64 × CC := (q.1 + 1, q.2.1 + 32768 * dx.toInt64, q.2.2.1 - 32768 * dy.toInt64, if insI sh b q.2.1 q.2.2.1 = 0 then q.2.2.2 else markF q.1 j q.2.2.2)
def covI (sh : St2) (b : Nat) (dx dy j : Int32) (n : Nat) (i : Int32) (al ac : Int64) (x : CC) : CC := (itr (stepI sh b dx dy j) n (i, al, ac, x)).2.2.2
def stepJ (sh po : St2) (b : Nat) (dx dy fi : Int32) (ni : Nat) (u : Int64) (q : Int32 × CC) : Int32 × CC := (q.1 + 1, covI sh b dx dy q.1 ni fi (u * dx.toInt64 + (midI q.1 - po 1 b).toInt64 * dy.toInt64) ((midI q.1 - po 1 b).toInt64 * dx.toInt64 - u * dy.toInt64) q.2)
def covJ (sh po : St2) (b : Nat) (dx dy fi : Int32) (ni : Nat) (u : Int64) (n : Nat) (j : Int32) (x : CC) : CC := (itr (stepJ sh po b dx dy fi ni u) n (j, x)).2
def fiI (sh po : St2) (b : Nat) : Int32 := firI (po 0 b + minI (sh 2 b * dX (po 2 b)) (-(sh 3 b) * dX (po 2 b)) - (sh 4 b * absI (dY (po 2 b)) + 4096))
def liI (sh po : St2) (b : Nat) : Int32 := lasI (po 0 b + maxI (sh 2 b * dX (po 2 b)) (-(sh 3 b) * dX (po 2 b)) + (sh 4 b * absI (dY (po 2 b)) + 4096))
def fjI (sh po : St2) (b : Nat) : Int32 := firI (po 1 b + minI (sh 2 b * dY (po 2 b)) (-(sh 3 b) * dY (po 2 b)) - (sh 4 b * absI (dX (po 2 b)) + 4096))
def ljI (sh po : St2) (b : Nat) : Int32 := lasI (po 1 b + maxI (sh 2 b * dY (po 2 b)) (-(sh 3 b) * dY (po 2 b)) + (sh 4 b * absI (dX (po 2 b)) + 4096))
def coverF (sh po : St2) (b : Nat) (x : CC) : CC := covJ sh po b (dX (po 2 b)) (dY (po 2 b)) (fiI sh po b) (cntI (fiI sh po b) (liI sh po b)) (midI (fiI sh po b) - po 0 b).toInt64 (cntI (fjI sh po b) (ljI sh po b)) (fjI sh po b) x
theorem i32_lt {a b : Int32} : a < b ↔ a.toInt < b.toInt := Int32.lt_iff_toInt_lt
theorem i32_le {a b : Int32} : a ≤ b ↔ a.toInt ≤ b.toInt := Int32.le_iff_toInt_le
theorem firI_ge (p : Int32) : -32 ≤ (firI p).toInt := by
  unfold firI maxI
  split
  · next h => exact Int.le_of_lt (i32_lt.mp h)
  · decide
theorem lasI_le (p : Int32) : (lasI p).toInt ≤ 31 := by
  unfold lasI minI
  split
  · next h => exact Int.le_of_lt (i32_lt.mp h)
  · decide
theorem succ_toInt {i : Int32} (h1 : -32 ≤ i.toInt) (h2 : i.toInt ≤ 31) : (i + 1).toInt = i.toInt + 1 := by
  rw [Int32.toInt_add]
  show (i.toInt + 1).bmod (2 ^ 32) = _
  exact Int.bmod_eq_of_le (by omega) (by omega)
theorem cnt_z {i li : Int32} (h : cntI i li = 0) : li < i := i32_lt.mpr (by unfold cntI at h; omega)
theorem cnt_s {i li : Int32} {n : Nat} (h : cntI i li = n + 1) : ¬ li < i := fun q => by
  have := i32_lt.mp q
  unfold cntI at h
  omega
theorem cnt_n {i li : Int32} {n : Nat} (h : cntI i li = n + 1) (h1 : -32 ≤ i.toInt) (h2 : li.toInt ≤ 31) : cntI (i + 1) li = n ∧ -32 ≤ (i + 1).toInt := by
  have h3 : i.toInt ≤ 31 := by unfold cntI at h; omega
  have e := succ_toInt h1 h3
  unfold cntI at h ⊢
  omega
theorem covI_s {sh : St2} {b : Nat} {dx dy j : Int32} {n : Nat} {i : Int32} {al ac : Int64} {x x8 x' : CC} (h : covI sh b dx dy j (n + 1) i al ac x = x8) (e : (if insI sh b al ac = 0 then x else markF i j x) = x') : covI sh b dx dy j n (i + 1) (al + 32768 * dx.toInt64) (ac - 32768 * dy.toInt64) x' = x8 := by
  unfold covI at h ⊢
  rw [itr_s] at h
  have e2 : stepI sh b dx dy j (i, al, ac, x) = (i + 1, al + 32768 * dx.toInt64, ac - 32768 * dy.toInt64, x') := by
    unfold stepI
    rw [e]
  rw [e2] at h
  exact h
theorem covJ_s {sh po : St2} {b : Nat} {dx dy fi : Int32} {ni : Nat} {u : Int64} {n : Nat} {j : Int32} {x x9 x8 : CC} {v al ac : Int64} (hv : v = (midI j - po 1 b).toInt64) (hal : al = u * dx.toInt64 + v * dy.toInt64) (hac : ac = v * dx.toInt64 - u * dy.toInt64) (h : covJ sh po b dx dy fi ni u (n + 1) j x = x9) (e : covI sh b dx dy j ni fi al ac x = x8) : covJ sh po b dx dy fi ni u n (j + 1) x8 = x9 := by
  unfold covJ at h ⊢
  rw [itr_s] at h
  have e2 : stepJ sh po b dx dy fi ni u (j, x) = (j + 1, x8) := by
    unfold stepJ
    rw [← e, hal, hac, hv]
  rw [e2] at h
  exact h
theorem covI_z {sh : St2} {b : Nat} {dx dy j i : Int32} {al ac : Int64} {x x8 : CC} (h : covI sh b dx dy j 0 i al ac x = x8) : x = x8 := by
  unfold covI at h
  rw [itr_z] at h
  exact h
theorem covJ_z {sh po : St2} {b : Nat} {dx dy fi : Int32} {ni : Nat} {u : Int64} {j : Int32} {x x9 : CC} (h : covJ sh po b dx dy fi ni u 0 j x = x9) : x = x9 := by
  unfold covJ at h
  rw [itr_z] at h
  exact h
def wCo (g : Glob) (a0 a1 a2 a3 : Nat) (sh po : St2) (b : Nat) (x : CC) : va_W := [(a0, .inr (1, [.ref a1, .int x.1])), qLongs a1 (g.2.1 1) 64 x.2, qShape a2 sh b, qPose a3 po b]

set_option maxHeartbeats 4000000 in
set_option maxRecDepth 100000 in
theorem c_Ce_wipe (l : Launch) (g : Glob) (a0 a1 : Nat) (x : CC) : CV l g y_Ce_wipe b_Ce_wipe 1 1 24 [.ref a0] (wC g a0 a1 x) (wC g a0 a1 (0, fun _ => 0)) := by
  refine CV.of (by decide +kernel) (Nat.le_of_ble_eq_true rfl) ?_
  intro p e s m below meth c A Q ls C hP hD hl hret hS
  obtain ⟨hx, hb, hml, hown, hw, hE, hA⟩ := id C
  have hl : lv_has ls 1 [(0, .ref a0)] := hl
  refine lv_aload_n hx hb d_Ce_wipe_0 rfl (lv_at hl 0 rfl) ?_
  refine va_get (D := g.1) (ci := 1) (v := .ref a1) (C := R_Ce) (T := F_Ce) (N := 2) hx hb hw i_Ce hown hE.1 hP 0 rfl rfl 0 (by decide) (hw _ q_147) (fun _ h9 => h9) rfl d_Ce_wipe_1 ?_
  refine lv_lconst (v := 0) hx hb d_Ce_wipe_4 (by decide) ?_
  refine csV C v_Ce_15 [.ref a1, .long 0] [] (c_Ar_fill l g a1 0 x.2) hP hD hS [1] [0] [0, 1] [(a0, .inr (1, [.ref a1, .int x.1]))] ([(a0, .inr (1, [.ref a1, .int x.1])), (a1, .inl (g.2.1 1, 64, .inr (.inl (fun _ => 0))))]) rfl rfl (by decide) (by decide) (by decide) rfl (by decide) rfl rfl hl.1 (Nat.le_of_ble_eq_true rfl) ⟨Nat.le_of_ble_eq_true rfl, Nat.le_of_ble_eq_true rfl⟩ d_Ce_wipe_5 ⟨Nat.zero_le _, Nat.zero_le _⟩ (fun H locs hP hD hS => ?_)
  refine lv_aload_n hx hb d_Ce_wipe_8 rfl (lv_at hl 0 rfl) ?_
  refine lv_iconst (v := 0) hx hb d_Ce_wipe_9 (by decide) ?_
  refine va_put (D := g.1) (ci := 1) (v := .int 0) (ty := .int) (C := R_Ce) (T := F_Ce) (N := 2) hx hb hw i_Ce t_Ce t_Ce_ok n_Ce hown hE.1 hP hD hS 0 rfl rfl 1 (by decide) (hw _ q_148) (fun _ h9 => h9) rfl (by decide +kernel) rfl rfl (Nat.le_of_ble_eq_true rfl) d_Ce_wipe_10 (fun H locs hP hD hS => ?_)
  have hP : va_P g.1 classes ([(a0, .inr (1, [.ref a1, .int 0])), (a1, .inl (g.2.1 1, 64, .inr (.inl (fun _ => 0))))]) H := hP
  have hD : va_D A ([(a0, .inr (1, [.ref a1, .int 0])), (a1, .inl (g.2.1 1, 64, .inr (.inl (fun _ => 0))))]) := hD
  exact hret _ _ _ _ _ rfl hP hD hS d_Ce_wipe_13
set_option maxHeartbeats 4000000 in
set_option maxRecDepth 100000 in
theorem c_Ce_cover (l : Launch) (g : Glob) (a0 a1 a2 a3 : Nat) (sh po : St2) (b : Nat) (x : CC) : CV l g y_Ce_cover b_Ce_cover 25 2 42 [.ref a0, .ref a2, .ref a3] (wCo g a0 a1 a2 a3 sh po b x) (wCo g a0 a1 a2 a3 sh po b (coverF sh po b x)) := by
  refine CV.of (by decide +kernel) (Nat.le_of_ble_eq_true rfl) ?_
  intro p e s m below meth c A Q ls C hP hD hl hret hS
  obtain ⟨hx, hb, hml, hown, hw, hE, hA⟩ := id C
  have hl : lv_has ls 25 [(0, .ref a0), (1, .ref a2), (2, .ref a3)] := hl
  generalize h9 : coverF sh po b x = x9 at hret
  refine lv_aload_n hx hb d_Ce_cover_0 rfl (lv_at hl 2 rfl) ?_
  refine va_get (D := g.1) (ci := 3) (v := .int (po 2 b)) (C := R_Po) (T := F_Po) (N := 5) hx hb hw i_Po hown hE.1 hP 3 rfl rfl 2 (by decide) (hw _ q_125) (fun _ h9 => h9) rfl d_Ce_cover_1 ?_
  refine csI C v_Ce_30 [.int (po 2 b)] [] (c_Di_dx l g (po 2 b)) hP hS rfl rfl hl.1 (Nat.le_of_ble_eq_true rfl) ⟨Nat.le_of_ble_eq_true rfl, Nat.le_of_ble_eq_true rfl⟩ d_Ce_cover_4 ⟨Nat.zero_le _, Nat.zero_le _⟩ (fun H locs hP hS => ?_)
  refine lv_topi (fun z3_1 ez3_1 => ?_)
  refine lv_istore_n (lv' := [(3, .int z3_1), (0, .ref a0), (1, .ref a2), (2, .ref a3)]) hx hb d_Ce_cover_7 rfl hl (by decide) rfl (fun ls hl => ?_)
  refine lv_aload_n hx hb d_Ce_cover_8 rfl (lv_at hl 3 rfl) ?_
  refine va_get (D := g.1) (ci := 3) (v := .int (po 2 b)) (C := R_Po) (T := F_Po) (N := 5) hx hb hw i_Po hown hE.1 hP 3 rfl rfl 2 (by decide) (hw _ q_125) (fun _ h9 => h9) rfl d_Ce_cover_9 ?_
  refine csI C v_Ce_36 [.int (po 2 b)] [] (c_Di_dy l g (po 2 b)) hP hS rfl rfl hl.1 (Nat.le_of_ble_eq_true rfl) ⟨Nat.le_of_ble_eq_true rfl, Nat.le_of_ble_eq_true rfl⟩ d_Ce_cover_12 ⟨Nat.zero_le _, Nat.zero_le _⟩ (fun H locs hP hS => ?_)
  refine lv_topi (fun z4_2 ez4_2 => ?_)
  refine lv_istore (lv' := [(4, .int z4_2), (3, .int z3_1), (0, .ref a0), (1, .ref a2), (2, .ref a3)]) hx hb d_Ce_cover_15 hl (by decide) rfl (fun ls hl => ?_)
  refine lv_aload_n hx hb d_Ce_cover_17 rfl (lv_at hl 3 rfl) ?_
  refine va_get (D := g.1) (ci := 6) (v := .int (sh 2 b)) (C := R_Sh) (T := F_Sh) (N := 5) hx hb hw i_Sh hown hE.1 hP 2 rfl rfl 2 (by decide) (hw _ q_45) (fun _ h9 => h9) rfl d_Ce_cover_18 ?_
  refine lv_iload_n hx hb d_Ce_cover_21 rfl (lv_at hl 1 rfl) ?_
  refine lv_imul hx hb d_Ce_cover_22 ?_
  refine lv_topi (fun z5_3 ez5_3 => ?_)
  refine lv_istore (lv' := [(5, .int z5_3), (4, .int z4_2), (3, .int z3_1), (0, .ref a0), (1, .ref a2), (2, .ref a3)]) hx hb d_Ce_cover_23 hl (by decide) rfl (fun ls hl => ?_)
  refine lv_aload_n hx hb d_Ce_cover_25 rfl (lv_at hl 4 rfl) ?_
  refine va_get (D := g.1) (ci := 6) (v := .int (sh 3 b)) (C := R_Sh) (T := F_Sh) (N := 5) hx hb hw i_Sh hown hE.1 hP 2 rfl rfl 3 (by decide) (hw _ q_48) (fun _ h9 => h9) rfl d_Ce_cover_26 ?_
  refine lv_ineg hx hb d_Ce_cover_29 ?_
  refine lv_iload_n hx hb d_Ce_cover_30 rfl (lv_at hl 2 rfl) ?_
  refine lv_imul hx hb d_Ce_cover_31 ?_
  refine lv_topi (fun z6_4 ez6_4 => ?_)
  refine lv_istore (lv' := [(6, .int z6_4), (5, .int z5_3), (4, .int z4_2), (3, .int z3_1), (0, .ref a0), (1, .ref a2), (2, .ref a3)]) hx hb d_Ce_cover_32 hl (by decide) rfl (fun ls hl => ?_)
  refine lv_aload_n hx hb d_Ce_cover_34 rfl (lv_at hl 5 rfl) ?_
  refine va_get (D := g.1) (ci := 6) (v := .int (sh 2 b)) (C := R_Sh) (T := F_Sh) (N := 5) hx hb hw i_Sh hown hE.1 hP 2 rfl rfl 2 (by decide) (hw _ q_45) (fun _ h9 => h9) rfl d_Ce_cover_35 ?_
  refine lv_iload hx hb d_Ce_cover_38 (lv_at hl 2 rfl) ?_
  refine lv_imul hx hb d_Ce_cover_40 ?_
  refine lv_topi (fun z7_5 ez7_5 => ?_)
  refine lv_istore (lv' := [(7, .int z7_5), (6, .int z6_4), (5, .int z5_3), (4, .int z4_2), (3, .int z3_1), (0, .ref a0), (1, .ref a2), (2, .ref a3)]) hx hb d_Ce_cover_41 hl (by decide) rfl (fun ls hl => ?_)
  refine lv_aload_n hx hb d_Ce_cover_43 rfl (lv_at hl 6 rfl) ?_
  refine va_get (D := g.1) (ci := 6) (v := .int (sh 3 b)) (C := R_Sh) (T := F_Sh) (N := 5) hx hb hw i_Sh hown hE.1 hP 2 rfl rfl 3 (by decide) (hw _ q_48) (fun _ h9 => h9) rfl d_Ce_cover_44 ?_
  refine lv_ineg hx hb d_Ce_cover_47 ?_
  refine lv_iload hx hb d_Ce_cover_48 (lv_at hl 3 rfl) ?_
  refine lv_imul hx hb d_Ce_cover_50 ?_
  refine lv_topi (fun z8_6 ez8_6 => ?_)
  refine lv_istore (lv' := [(8, .int z8_6), (7, .int z7_5), (6, .int z6_4), (5, .int z5_3), (4, .int z4_2), (3, .int z3_1), (0, .ref a0), (1, .ref a2), (2, .ref a3)]) hx hb d_Ce_cover_51 hl (by decide) rfl (fun ls hl => ?_)
  refine lv_aload_n hx hb d_Ce_cover_53 rfl (lv_at hl 7 rfl) ?_
  refine va_get (D := g.1) (ci := 6) (v := .int (sh 4 b)) (C := R_Sh) (T := F_Sh) (N := 5) hx hb hw i_Sh hown hE.1 hP 2 rfl rfl 4 (by decide) (hw _ q_51) (fun _ h9 => h9) rfl d_Ce_cover_54 ?_
  refine lv_iload hx hb d_Ce_cover_57 (lv_at hl 4 rfl) ?_
  refine va_mabs hx hb (hml.trans hl.1.symm) hown (hw _ q_363) (hw _ q_364) (hw _ q_16) (hw _ q_365) (Nat.le_of_ble_eq_true rfl) (Nat.le_of_ble_eq_true rfl) (Nat.zero_le _) (Nat.zero_le _) d_Ce_cover_59 ?_
  refine lv_imul hx hb d_Ce_cover_62 ?_
  refine lv_sipush (v := 4096) hx hb d_Ce_cover_63 (by decide) ?_
  refine lv_iadd hx hb d_Ce_cover_66 ?_
  refine lv_topi (fun z9_7 ez9_7 => ?_)
  refine lv_istore (lv' := [(9, .int z9_7), (8, .int z8_6), (7, .int z7_5), (6, .int z6_4), (5, .int z5_3), (4, .int z4_2), (3, .int z3_1), (0, .ref a0), (1, .ref a2), (2, .ref a3)]) hx hb d_Ce_cover_67 hl (by decide) rfl (fun ls hl => ?_)
  refine lv_aload_n hx hb d_Ce_cover_69 rfl (lv_at hl 8 rfl) ?_
  refine va_get (D := g.1) (ci := 6) (v := .int (sh 4 b)) (C := R_Sh) (T := F_Sh) (N := 5) hx hb hw i_Sh hown hE.1 hP 2 rfl rfl 4 (by decide) (hw _ q_51) (fun _ h9 => h9) rfl d_Ce_cover_70 ?_
  refine lv_iload_n hx hb d_Ce_cover_73 rfl (lv_at hl 6 rfl) ?_
  refine va_mabs hx hb (hml.trans hl.1.symm) hown (hw _ q_363) (hw _ q_364) (hw _ q_16) (hw _ q_365) (Nat.le_of_ble_eq_true rfl) (Nat.le_of_ble_eq_true rfl) (Nat.zero_le _) (Nat.zero_le _) d_Ce_cover_74 ?_
  refine lv_imul hx hb d_Ce_cover_77 ?_
  refine lv_sipush (v := 4096) hx hb d_Ce_cover_78 (by decide) ?_
  refine lv_iadd hx hb d_Ce_cover_81 ?_
  refine lv_topi (fun z10_8 ez10_8 => ?_)
  refine lv_istore (lv' := [(10, .int z10_8), (9, .int z9_7), (8, .int z8_6), (7, .int z7_5), (6, .int z6_4), (5, .int z5_3), (4, .int z4_2), (3, .int z3_1), (0, .ref a0), (1, .ref a2), (2, .ref a3)]) hx hb d_Ce_cover_82 hl (by decide) rfl (fun ls hl => ?_)
  refine lv_aload_n hx hb d_Ce_cover_84 rfl (lv_at hl 10 rfl) ?_
  refine va_get (D := g.1) (ci := 3) (v := .int (po 0 b)) (C := R_Po) (T := F_Po) (N := 5) hx hb hw i_Po hown hE.1 hP 3 rfl rfl 0 (by decide) (hw _ q_119) (fun _ h9 => h9) rfl d_Ce_cover_85 ?_
  refine lv_iload hx hb d_Ce_cover_88 (lv_at hl 5 rfl) ?_
  refine lv_iload hx hb d_Ce_cover_90 (lv_at hl 4 rfl) ?_
  refine va_mmin hx hb (hml.trans hl.1.symm) hown (hw _ q_366) (hw _ q_367) (hw _ q_16) (hw _ q_368) (Nat.le_of_ble_eq_true rfl) (Nat.le_of_ble_eq_true rfl) (Nat.zero_le _) (Nat.zero_le _) d_Ce_cover_92 ?_
  refine lv_iadd hx hb d_Ce_cover_95 ?_
  refine lv_iload hx hb d_Ce_cover_96 (lv_at hl 1 rfl) ?_
  refine lv_isub hx hb d_Ce_cover_98 ?_
  refine csI C v_Ce_62 [.int (((po 0 b) + (minI z5_3 z6_4)) - z9_7)] [] (c_Ce_firstFrom l g (((po 0 b) + (minI z5_3 z6_4)) - z9_7)) hP hS rfl rfl hl.1 (Nat.le_of_ble_eq_true rfl) ⟨Nat.le_of_ble_eq_true rfl, Nat.le_of_ble_eq_true rfl⟩ d_Ce_cover_99 ⟨Nat.zero_le _, Nat.zero_le _⟩ (fun H locs hP hS => ?_)
  refine lv_topi (fun z11_9 ez11_9 => ?_)
  refine lv_istore (lv' := [(11, .int z11_9), (10, .int z10_8), (9, .int z9_7), (8, .int z8_6), (7, .int z7_5), (6, .int z6_4), (5, .int z5_3), (4, .int z4_2), (3, .int z3_1), (0, .ref a0), (1, .ref a2), (2, .ref a3)]) hx hb d_Ce_cover_102 hl (by decide) rfl (fun ls hl => ?_)
  refine lv_aload_n hx hb d_Ce_cover_104 rfl (lv_at hl 11 rfl) ?_
  refine va_get (D := g.1) (ci := 3) (v := .int (po 0 b)) (C := R_Po) (T := F_Po) (N := 5) hx hb hw i_Po hown hE.1 hP 3 rfl rfl 0 (by decide) (hw _ q_119) (fun _ h9 => h9) rfl d_Ce_cover_105 ?_
  refine lv_iload hx hb d_Ce_cover_108 (lv_at hl 6 rfl) ?_
  refine lv_iload hx hb d_Ce_cover_110 (lv_at hl 5 rfl) ?_
  refine va_mmax hx hb (hml.trans hl.1.symm) hown (hw _ q_376) (hw _ q_377) (hw _ q_16) (hw _ q_378) (Nat.le_of_ble_eq_true rfl) (Nat.le_of_ble_eq_true rfl) (Nat.zero_le _) (Nat.zero_le _) d_Ce_cover_112 ?_
  refine lv_iadd hx hb d_Ce_cover_115 ?_
  refine lv_iload hx hb d_Ce_cover_116 (lv_at hl 2 rfl) ?_
  refine lv_iadd hx hb d_Ce_cover_118 ?_
  refine csI C v_Ce_68 [.int (((po 0 b) + (maxI z5_3 z6_4)) + z9_7)] [] (c_Ce_lastUpTo l g (((po 0 b) + (maxI z5_3 z6_4)) + z9_7)) hP hS rfl rfl hl.1 (Nat.le_of_ble_eq_true rfl) ⟨Nat.le_of_ble_eq_true rfl, Nat.le_of_ble_eq_true rfl⟩ d_Ce_cover_119 ⟨Nat.zero_le _, Nat.zero_le _⟩ (fun H locs hP hS => ?_)
  refine lv_topi (fun z12_10 ez12_10 => ?_)
  refine lv_istore (lv' := [(12, .int z12_10), (11, .int z11_9), (10, .int z10_8), (9, .int z9_7), (8, .int z8_6), (7, .int z7_5), (6, .int z6_4), (5, .int z5_3), (4, .int z4_2), (3, .int z3_1), (0, .ref a0), (1, .ref a2), (2, .ref a3)]) hx hb d_Ce_cover_122 hl (by decide) rfl (fun ls hl => ?_)
  refine lv_aload_n hx hb d_Ce_cover_124 rfl (lv_at hl 12 rfl) ?_
  refine va_get (D := g.1) (ci := 3) (v := .int (po 1 b)) (C := R_Po) (T := F_Po) (N := 5) hx hb hw i_Po hown hE.1 hP 3 rfl rfl 1 (by decide) (hw _ q_122) (fun _ h9 => h9) rfl d_Ce_cover_125 ?_
  refine lv_iload hx hb d_Ce_cover_128 (lv_at hl 5 rfl) ?_
  refine lv_iload hx hb d_Ce_cover_130 (lv_at hl 4 rfl) ?_
  refine va_mmin hx hb (hml.trans hl.1.symm) hown (hw _ q_366) (hw _ q_367) (hw _ q_16) (hw _ q_368) (Nat.le_of_ble_eq_true rfl) (Nat.le_of_ble_eq_true rfl) (Nat.zero_le _) (Nat.zero_le _) d_Ce_cover_132 ?_
  refine lv_iadd hx hb d_Ce_cover_135 ?_
  refine lv_iload hx hb d_Ce_cover_136 (lv_at hl 2 rfl) ?_
  refine lv_isub hx hb d_Ce_cover_138 ?_
  refine csI C v_Ce_62 [.int (((po 1 b) + (minI z7_5 z8_6)) - z10_8)] [] (c_Ce_firstFrom l g (((po 1 b) + (minI z7_5 z8_6)) - z10_8)) hP hS rfl rfl hl.1 (Nat.le_of_ble_eq_true rfl) ⟨Nat.le_of_ble_eq_true rfl, Nat.le_of_ble_eq_true rfl⟩ d_Ce_cover_139 ⟨Nat.zero_le _, Nat.zero_le _⟩ (fun H locs hP hS => ?_)
  refine lv_topi (fun z13_11 ez13_11 => ?_)
  refine lv_istore (lv' := [(13, .int z13_11), (12, .int z12_10), (11, .int z11_9), (10, .int z10_8), (9, .int z9_7), (8, .int z8_6), (7, .int z7_5), (6, .int z6_4), (5, .int z5_3), (4, .int z4_2), (3, .int z3_1), (0, .ref a0), (1, .ref a2), (2, .ref a3)]) hx hb d_Ce_cover_142 hl (by decide) rfl (fun ls hl => ?_)
  refine lv_aload_n hx hb d_Ce_cover_144 rfl (lv_at hl 13 rfl) ?_
  refine va_get (D := g.1) (ci := 3) (v := .int (po 1 b)) (C := R_Po) (T := F_Po) (N := 5) hx hb hw i_Po hown hE.1 hP 3 rfl rfl 1 (by decide) (hw _ q_122) (fun _ h9 => h9) rfl d_Ce_cover_145 ?_
  refine lv_iload hx hb d_Ce_cover_148 (lv_at hl 6 rfl) ?_
  refine lv_iload hx hb d_Ce_cover_150 (lv_at hl 5 rfl) ?_
  refine va_mmax hx hb (hml.trans hl.1.symm) hown (hw _ q_376) (hw _ q_377) (hw _ q_16) (hw _ q_378) (Nat.le_of_ble_eq_true rfl) (Nat.le_of_ble_eq_true rfl) (Nat.zero_le _) (Nat.zero_le _) d_Ce_cover_152 ?_
  refine lv_iadd hx hb d_Ce_cover_155 ?_
  refine lv_iload hx hb d_Ce_cover_156 (lv_at hl 3 rfl) ?_
  refine lv_iadd hx hb d_Ce_cover_158 ?_
  refine csI C v_Ce_68 [.int (((po 1 b) + (maxI z7_5 z8_6)) + z10_8)] [] (c_Ce_lastUpTo l g (((po 1 b) + (maxI z7_5 z8_6)) + z10_8)) hP hS rfl rfl hl.1 (Nat.le_of_ble_eq_true rfl) ⟨Nat.le_of_ble_eq_true rfl, Nat.le_of_ble_eq_true rfl⟩ d_Ce_cover_159 ⟨Nat.zero_le _, Nat.zero_le _⟩ (fun H locs hP hS => ?_)
  refine lv_topi (fun z14_12 ez14_12 => ?_)
  refine lv_istore (lv' := [(14, .int z14_12), (13, .int z13_11), (12, .int z12_10), (11, .int z11_9), (10, .int z10_8), (9, .int z9_7), (8, .int z8_6), (7, .int z7_5), (6, .int z6_4), (5, .int z5_3), (4, .int z4_2), (3, .int z3_1), (0, .ref a0), (1, .ref a2), (2, .ref a3)]) hx hb d_Ce_cover_162 hl (by decide) rfl (fun ls hl => ?_)
  refine lv_iload hx hb d_Ce_cover_164 (lv_at hl 3 rfl) ?_
  refine csI C v_Ce_74 [.int z11_9] [] (c_Ce_middleOf l g z11_9) hP hS rfl rfl hl.1 (Nat.le_of_ble_eq_true rfl) ⟨Nat.le_of_ble_eq_true rfl, Nat.le_of_ble_eq_true rfl⟩ d_Ce_cover_166 ⟨Nat.zero_le _, Nat.zero_le _⟩ (fun H locs hP hS => ?_)
  refine lv_aload_n hx hb d_Ce_cover_169 rfl (lv_at hl 14 rfl) ?_
  refine va_get (D := g.1) (ci := 3) (v := .int (po 0 b)) (C := R_Po) (T := F_Po) (N := 5) hx hb hw i_Po hown hE.1 hP 3 rfl rfl 0 (by decide) (hw _ q_119) (fun _ h9 => h9) rfl d_Ce_cover_170 ?_
  refine lv_isub hx hb d_Ce_cover_173 ?_
  refine lv_i2l hx hb d_Ce_cover_174 rfl ?_
  refine lv_topl (fun z15_13 ez15_13 => ?_)
  refine lv_lstore (lv' := [(15, .long z15_13), (14, .int z14_12), (13, .int z13_11), (12, .int z12_10), (11, .int z11_9), (10, .int z10_8), (9, .int z9_7), (8, .int z8_6), (7, .int z7_5), (6, .int z6_4), (5, .int z5_3), (4, .int z4_2), (3, .int z3_1), (0, .ref a0), (1, .ref a2), (2, .ref a3)]) hx hb d_Ce_cover_175 hl (by decide) rfl (fun ls hl => ?_)
  refine lv_iload hx hb d_Ce_cover_177 (lv_at hl 2 rfl) ?_
  refine lv_istore (lv' := [(17, .int z13_11), (15, .long z15_13), (14, .int z14_12), (13, .int z13_11), (12, .int z12_10), (11, .int z11_9), (10, .int z10_8), (9, .int z9_7), (8, .int z8_6), (7, .int z7_5), (6, .int z6_4), (5, .int z5_3), (4, .int z4_2), (3, .int z3_1), (0, .ref a0), (1, .ref a2), (2, .ref a3)]) hx hb d_Ce_cover_179 hl (by decide) rfl (fun ls hl => ?_)
  have h9 : covJ sh po b z3_1 z4_2 z11_9 (cntI z11_9 z12_10) z15_13 (cntI z13_11 z14_12) z13_11 x = x9 := by
    subst ez15_13 ez14_12 ez13_11 ez12_10 ez11_9 ez10_8 ez9_7 ez8_6 ez7_5 ez6_4 ez5_3 ez4_2 ez3_1
    exact h9
  have hfi : -32 ≤ z11_9.toInt := by rw [ez11_9]; exact firI_ge _
  have hfj : -32 ≤ z13_11.toInt := by rw [ez13_11]; exact firI_ge _
  have hli : z12_10.toInt ≤ 31 := by rw [ez12_10]; exact lasI_le _
  have hlj : z14_12.toInt ≤ 31 := by rw [ez14_12]; exact lasI_le _
  clear ez15_13 ez14_12 ez13_11 ez12_10 ez11_9 ez10_8 ez9_7 ez8_6 ez7_5 ez6_4 ez5_3 ez4_2 ez3_1
  have lo : ∀ (n : Nat) (j : Int32) (x : CC) (H : Heap) (locs : List Loc) (ls : Array Slot), cntI j z14_12 = n → -32 ≤ j.toInt → covJ sh po b z3_1 z4_2 z11_9 (cntI z11_9 z12_10) z15_13 n j x = x9 → va_P g.1 classes (wCo g a0 a1 a2 a3 sh po b x) H → va_D A (wCo g a0 a1 a2 a3 sh po b x) → va_S A s.heap H locs → lv_has ls 25 [(17, .int j), (15, .long z15_13), (14, .int z14_12), (12, .int z12_10), (11, .int z11_9), (3, .int z3_1), (4, .int z4_2), (0, .ref a0), (1, .ref a2), (2, .ref a3)] → W p l e { frames := 2, cells := 0, slots := 0, locals := 42 } s m ([.ref a0, .ref a2, .ref a3] : List Value).toArray below meth c H locs 0 0 Q (F0 m 181 ls []) := by
    intro n
    induction n with
    | zero =>
      intro j x H locs ls hn hlo h9 hP hD hS hl
      have h9 := covJ_z h9
      subst h9
      refine lv_iload hx hb d_Ce_cover_181 (lv_at hl 0 rfl) ?_
      refine lv_iload hx hb d_Ce_cover_183 (lv_at hl 2 rfl) ?_
      refine lv_icmp_gt (tgt := 294) hx hb d_Ce_cover_185 (by decide) (fun c185_14 => ?_) (fun c185_14 => ?_)
      rotate_left
      · exact absurd (cnt_z hn) c185_14
      exact hret _ _ _ _ _ rfl hP hD hS d_Ce_cover_294
    | succ n ih =>
      intro j x H locs ls hn hlo h9 hP hD hS hl
      refine lv_iload hx hb d_Ce_cover_181 (lv_at hl 0 rfl) ?_
      refine lv_iload hx hb d_Ce_cover_183 (lv_at hl 2 rfl) ?_
      refine lv_icmp_gt (tgt := 294) hx hb d_Ce_cover_185 (by decide) (fun c185_15 => ?_) (fun c185_15 => ?_)
      · exact absurd c185_15 (cnt_s hn)
      refine lv_iload hx hb d_Ce_cover_188 (lv_at hl 0 rfl) ?_
      refine csI C v_Ce_74 [.int j] [] (c_Ce_middleOf l g j) hP hS rfl rfl hl.1 (Nat.le_of_ble_eq_true rfl) ⟨Nat.le_of_ble_eq_true rfl, Nat.le_of_ble_eq_true rfl⟩ d_Ce_cover_190 ⟨Nat.zero_le _, Nat.zero_le _⟩ (fun H locs hP hS => ?_)
      refine lv_aload_n hx hb d_Ce_cover_193 rfl (lv_at hl 9 rfl) ?_
      refine va_get (D := g.1) (ci := 3) (v := .int (po 1 b)) (C := R_Po) (T := F_Po) (N := 5) hx hb hw i_Po hown hE.1 hP 3 rfl rfl 1 (by decide) (hw _ q_122) (fun _ h9 => h9) rfl d_Ce_cover_194 ?_
      refine lv_isub hx hb d_Ce_cover_197 ?_
      refine lv_i2l hx hb d_Ce_cover_198 rfl ?_
      refine lv_topl (fun z18_16 ez18_16 => ?_)
      refine lv_lstore (lv' := [(18, .long z18_16), (17, .int j), (15, .long z15_13), (14, .int z14_12), (12, .int z12_10), (11, .int z11_9), (3, .int z3_1), (4, .int z4_2), (0, .ref a0), (1, .ref a2), (2, .ref a3)]) hx hb d_Ce_cover_199 hl (by decide) rfl (fun ls hl => ?_)
      refine lv_lload hx hb d_Ce_cover_201 (lv_at hl 2 rfl) ?_
      refine lv_iload_n hx hb d_Ce_cover_203 rfl (lv_at hl 6 rfl) ?_
      refine lv_i2l hx hb d_Ce_cover_204 rfl ?_
      refine lv_lmul hx hb d_Ce_cover_205 ?_
      refine lv_lload hx hb d_Ce_cover_206 (lv_at hl 0 rfl) ?_
      refine lv_iload hx hb d_Ce_cover_208 (lv_at hl 7 rfl) ?_
      refine lv_i2l hx hb d_Ce_cover_210 rfl ?_
      refine lv_lmul hx hb d_Ce_cover_211 ?_
      refine lv_ladd hx hb d_Ce_cover_212 ?_
      refine lv_topl (fun z20_17 ez20_17 => ?_)
      refine lv_lstore (lv' := [(20, .long z20_17), (18, .long z18_16), (17, .int j), (15, .long z15_13), (14, .int z14_12), (12, .int z12_10), (11, .int z11_9), (3, .int z3_1), (4, .int z4_2), (0, .ref a0), (1, .ref a2), (2, .ref a3)]) hx hb d_Ce_cover_213 hl (by decide) rfl (fun ls hl => ?_)
      refine lv_lload hx hb d_Ce_cover_215 (lv_at hl 1 rfl) ?_
      refine lv_iload_n hx hb d_Ce_cover_217 rfl (lv_at hl 7 rfl) ?_
      refine lv_i2l hx hb d_Ce_cover_218 rfl ?_
      refine lv_lmul hx hb d_Ce_cover_219 ?_
      refine lv_lload hx hb d_Ce_cover_220 (lv_at hl 3 rfl) ?_
      refine lv_iload hx hb d_Ce_cover_222 (lv_at hl 8 rfl) ?_
      refine lv_i2l hx hb d_Ce_cover_224 rfl ?_
      refine lv_lmul hx hb d_Ce_cover_225 ?_
      refine lv_lsub hx hb d_Ce_cover_226 ?_
      refine lv_topl (fun z22_18 ez22_18 => ?_)
      refine lv_lstore (lv' := [(22, .long z22_18), (20, .long z20_17), (18, .long z18_16), (17, .int j), (15, .long z15_13), (14, .int z14_12), (12, .int z12_10), (11, .int z11_9), (3, .int z3_1), (4, .int z4_2), (0, .ref a0), (1, .ref a2), (2, .ref a3)]) hx hb d_Ce_cover_227 hl (by decide) rfl (fun ls hl => ?_)
      refine lv_iload hx hb d_Ce_cover_229 (lv_at hl 7 rfl) ?_
      refine lv_istore (lv' := [(24, .int z11_9), (22, .long z22_18), (20, .long z20_17), (18, .long z18_16), (17, .int j), (15, .long z15_13), (14, .int z14_12), (12, .int z12_10), (11, .int z11_9), (3, .int z3_1), (4, .int z4_2), (0, .ref a0), (1, .ref a2), (2, .ref a3)]) hx hb d_Ce_cover_231 hl (by decide) rfl (fun ls hl => ?_)
      generalize hx8 : covI sh b z3_1 z4_2 j (cntI z11_9 z12_10) z11_9 z20_17 z22_18 x = x8
      have h9 := covJ_s ez18_16 ez20_17 ez22_18 h9 hx8
      have K : ∀ (H : Heap) (locs : List Loc) (ls : Array Slot), va_P g.1 classes (wCo g a0 a1 a2 a3 sh po b x8) H → va_D A (wCo g a0 a1 a2 a3 sh po b x8) → va_S A s.heap H locs → lv_has ls 25 [(17, .int j), (15, .long z15_13), (14, .int z14_12), (12, .int z12_10), (11, .int z11_9), (3, .int z3_1), (4, .int z4_2), (0, .ref a0), (1, .ref a2), (2, .ref a3)] → W p l e { frames := 2, cells := 0, slots := 0, locals := 42 } s m ([.ref a0, .ref a2, .ref a3] : List Value).toArray below meth c H locs 0 0 Q (F0 m 288 ls []) := by
        intro H locs ls hP hD hS hl
        refine lv_iinc (v := (j + 1)) (lv' := [(17, .int (j + 1)), (15, .long z15_13), (14, .int z14_12), (12, .int z12_10), (11, .int z11_9), (3, .int z3_1), (4, .int z4_2), (0, .ref a0), (1, .ref a2), (2, .ref a3)]) hx hb d_Ce_cover_288 hl (k := 0) rfl rfl (by decide) rfl (fun ls hl => ?_)
        refine lv_goto (tgt := 181) hx hb d_Ce_cover_291 (by decide) ?_
        exact ih _ _ _ _ _ (cnt_n hn hlo hlj).1 (cnt_n hn hlo hlj).2 h9 hP hD hS (lv_sub hl [0, 1, 2, 3, 4, 5, 6, 7, 8, 9] rfl)
      have lin : ∀ (k : Nat) (i : Int32) (al ac : Int64) (x : CC) (H : Heap) (locs : List Loc) (ls : Array Slot), cntI i z12_10 = k → -32 ≤ i.toInt → covI sh b z3_1 z4_2 j k i al ac x = x8 → va_P g.1 classes (wCo g a0 a1 a2 a3 sh po b x) H → va_D A (wCo g a0 a1 a2 a3 sh po b x) → va_S A s.heap H locs → lv_has ls 25 [(24, .int i), (22, .long ac), (20, .long al), (17, .int j), (15, .long z15_13), (14, .int z14_12), (12, .int z12_10), (11, .int z11_9), (3, .int z3_1), (4, .int z4_2), (0, .ref a0), (1, .ref a2), (2, .ref a3)] → W p l e { frames := 2, cells := 0, slots := 0, locals := 42 } s m ([.ref a0, .ref a2, .ref a3] : List Value).toArray below meth c H locs 0 0 Q (F0 m 233 ls []) := by
        intro k
        induction k with
        | zero =>
          intro i al ac x H locs ls hk hlo h8 hP hD hS hl
          have h8 := covI_z h8
          subst h8
          refine lv_iload hx hb d_Ce_cover_233 (lv_at hl 0 rfl) ?_
          refine lv_iload hx hb d_Ce_cover_235 (lv_at hl 6 rfl) ?_
          refine lv_icmp_gt (tgt := 288) hx hb d_Ce_cover_237 (by decide) (fun c237_19 => ?_) (fun c237_19 => ?_)
          rotate_left
          · exact absurd (cnt_z hk) c237_19
          exact K _ _ _ hP hD hS (lv_sub hl [3, 4, 5, 6, 7, 8, 9, 10, 11, 12] rfl)
        | succ k ih2 =>
          intro i al ac x H locs ls hk hlo h8 hP hD hS hl
          refine lv_iload hx hb d_Ce_cover_233 (lv_at hl 0 rfl) ?_
          refine lv_iload hx hb d_Ce_cover_235 (lv_at hl 6 rfl) ?_
          refine lv_icmp_gt (tgt := 288) hx hb d_Ce_cover_237 (by decide) (fun c237_20 => ?_) (fun c237_20 => ?_)
          · exact absurd c237_20 (cnt_s hk)
          refine lv_aload_n hx hb d_Ce_cover_240 rfl (lv_at hl 11 rfl) ?_
          refine lv_lload hx hb d_Ce_cover_241 (lv_at hl 2 rfl) ?_
          refine lv_lload hx hb d_Ce_cover_243 (lv_at hl 1 rfl) ?_
          refine cvI C v_Ce_77 [.long al, .long ac] [] (c_Sh_holds l g a2 sh b al ac) hP hD hS [2] [0, 1, 3] [0, 1, 3, 2] [(a0, .inr (1, [.ref a1, .int x.1])), (a1, .inl (g.2.1 1, 64, .inr (.inl x.2))), (a3, .inr (3, [.int (po 0 b), .int (po 1 b), .int (po 2 b), .int (po 3 b), .int (po 4 b)]))] (wCo g a0 a1 a2 a3 sh po b x) rfl rfl (by decide) (by decide) (by decide) rfl (by decide) 0 rfl rfl rfl rfl hl.1 (Nat.le_of_ble_eq_true rfl) ⟨Nat.le_of_ble_eq_true rfl, Nat.le_of_ble_eq_true rfl⟩ d_Ce_cover_245 ⟨Nat.zero_le _, Nat.zero_le _⟩ (fun H locs hP hD hS => ?_)
          refine lv_if_eq (tgt := 259) hx hb d_Ce_cover_248 (by decide) (fun c248_21 => ?_) (fun c248_21 => ?_)
          · refine lv_lload hx hb d_Ce_cover_259 (lv_at hl 2 rfl) ?_
            refine lv_ldc2 (v := 32768) hx hb hown (hw _ q_394) d_Ce_cover_261 ?_
            refine lv_iload_n hx hb d_Ce_cover_264 rfl (lv_at hl 8 rfl) ?_
            refine lv_i2l hx hb d_Ce_cover_265 rfl ?_
            refine lv_lmul hx hb d_Ce_cover_266 ?_
            refine lv_ladd hx hb d_Ce_cover_267 ?_
            refine lv_lstore (lv' := [(20, .long (al + (32768 * z3_1.toInt64))), (24, .int i), (22, .long ac), (17, .int j), (15, .long z15_13), (14, .int z14_12), (12, .int z12_10), (11, .int z11_9), (3, .int z3_1), (4, .int z4_2), (0, .ref a0), (1, .ref a2), (2, .ref a3)]) hx hb d_Ce_cover_268 hl (by decide) rfl (fun ls hl => ?_)
            refine lv_lload hx hb d_Ce_cover_270 (lv_at hl 2 rfl) ?_
            refine lv_ldc2 (v := 32768) hx hb hown (hw _ q_394) d_Ce_cover_272 ?_
            refine lv_iload hx hb d_Ce_cover_275 (lv_at hl 9 rfl) ?_
            refine lv_i2l hx hb d_Ce_cover_277 rfl ?_
            refine lv_lmul hx hb d_Ce_cover_278 ?_
            refine lv_lsub hx hb d_Ce_cover_279 ?_
            refine lv_lstore (lv' := [(22, .long (ac - (32768 * z4_2.toInt64))), (20, .long (al + (32768 * z3_1.toInt64))), (24, .int i), (17, .int j), (15, .long z15_13), (14, .int z14_12), (12, .int z12_10), (11, .int z11_9), (3, .int z3_1), (4, .int z4_2), (0, .ref a0), (1, .ref a2), (2, .ref a3)]) hx hb d_Ce_cover_280 hl (by decide) rfl (fun ls hl => ?_)
            refine lv_iinc (v := (i + 1)) (lv' := [(24, .int (i + 1)), (22, .long (ac - (32768 * z4_2.toInt64))), (20, .long (al + (32768 * z3_1.toInt64))), (17, .int j), (15, .long z15_13), (14, .int z14_12), (12, .int z12_10), (11, .int z11_9), (3, .int z3_1), (4, .int z4_2), (0, .ref a0), (1, .ref a2), (2, .ref a3)]) hx hb d_Ce_cover_282 hl (k := 2) rfl rfl (by decide) rfl (fun ls hl => ?_)
            refine lv_goto (tgt := 233) hx hb d_Ce_cover_285 (by decide) ?_
            exact ih2 _ _ _ _ _ _ _ (cnt_n hk hlo hli).1 (cnt_n hk hlo hli).2 (covI_s h8 (if_pos c248_21)) hP hD hS (lv_sub hl [0, 1, 2, 3, 4, 5, 6, 7, 8, 9, 10, 11, 12] rfl)
          · refine lv_aload_n hx hb d_Ce_cover_251 rfl (lv_at hl 10 rfl) ?_
            refine lv_iload hx hb d_Ce_cover_252 (lv_at hl 0 rfl) ?_
            refine lv_iload hx hb d_Ce_cover_254 (lv_at hl 3 rfl) ?_
            refine cvV C v_Ce_81 [.int i, .int j] [] (c_Ce_mark l g a0 a1 x i j) hP hD hS [0, 1] [2, 3] [2, 3, 0, 1] [(a2, .inr (6, [.int (sh 0 b), .int (sh 1 b), .int (sh 2 b), .int (sh 3 b), .int (sh 4 b)])), (a3, .inr (3, [.int (po 0 b), .int (po 1 b), .int (po 2 b), .int (po 3 b), .int (po 4 b)]))] (wCo g a0 a1 a2 a3 sh po b (markF i j x)) rfl rfl (by decide) (by decide) (by decide) rfl (by decide) 0 rfl rfl rfl rfl hl.1 (Nat.le_of_ble_eq_true rfl) ⟨Nat.le_of_ble_eq_true rfl, Nat.le_of_ble_eq_true rfl⟩ d_Ce_cover_256 ⟨Nat.zero_le _, Nat.zero_le _⟩ (fun H locs hP hD hS => ?_)
            refine lv_lload hx hb d_Ce_cover_259 (lv_at hl 2 rfl) ?_
            refine lv_ldc2 (v := 32768) hx hb hown (hw _ q_394) d_Ce_cover_261 ?_
            refine lv_iload_n hx hb d_Ce_cover_264 rfl (lv_at hl 8 rfl) ?_
            refine lv_i2l hx hb d_Ce_cover_265 rfl ?_
            refine lv_lmul hx hb d_Ce_cover_266 ?_
            refine lv_ladd hx hb d_Ce_cover_267 ?_
            refine lv_lstore (lv' := [(20, .long (al + (32768 * z3_1.toInt64))), (24, .int i), (22, .long ac), (17, .int j), (15, .long z15_13), (14, .int z14_12), (12, .int z12_10), (11, .int z11_9), (3, .int z3_1), (4, .int z4_2), (0, .ref a0), (1, .ref a2), (2, .ref a3)]) hx hb d_Ce_cover_268 hl (by decide) rfl (fun ls hl => ?_)
            refine lv_lload hx hb d_Ce_cover_270 (lv_at hl 2 rfl) ?_
            refine lv_ldc2 (v := 32768) hx hb hown (hw _ q_394) d_Ce_cover_272 ?_
            refine lv_iload hx hb d_Ce_cover_275 (lv_at hl 9 rfl) ?_
            refine lv_i2l hx hb d_Ce_cover_277 rfl ?_
            refine lv_lmul hx hb d_Ce_cover_278 ?_
            refine lv_lsub hx hb d_Ce_cover_279 ?_
            refine lv_lstore (lv' := [(22, .long (ac - (32768 * z4_2.toInt64))), (20, .long (al + (32768 * z3_1.toInt64))), (24, .int i), (17, .int j), (15, .long z15_13), (14, .int z14_12), (12, .int z12_10), (11, .int z11_9), (3, .int z3_1), (4, .int z4_2), (0, .ref a0), (1, .ref a2), (2, .ref a3)]) hx hb d_Ce_cover_280 hl (by decide) rfl (fun ls hl => ?_)
            refine lv_iinc (v := (i + 1)) (lv' := [(24, .int (i + 1)), (22, .long (ac - (32768 * z4_2.toInt64))), (20, .long (al + (32768 * z3_1.toInt64))), (17, .int j), (15, .long z15_13), (14, .int z14_12), (12, .int z12_10), (11, .int z11_9), (3, .int z3_1), (4, .int z4_2), (0, .ref a0), (1, .ref a2), (2, .ref a3)]) hx hb d_Ce_cover_282 hl (k := 2) rfl rfl (by decide) rfl (fun ls hl => ?_)
            refine lv_goto (tgt := 233) hx hb d_Ce_cover_285 (by decide) ?_
            exact ih2 _ _ _ _ _ _ _ (cnt_n hk hlo hli).1 (cnt_n hk hlo hli).2 (covI_s h8 (if_neg c248_21)) hP hD hS (lv_sub hl [0, 1, 2, 3, 4, 5, 6, 7, 8, 9, 10, 11, 12] rfl)
      exact lin _ _ _ _ x _ _ _ rfl hfi hx8 hP hD hS (lv_sub hl [0, 1, 2, 4, 5, 6, 7, 8, 9, 10, 11, 12, 13] rfl)
  exact lo _ _ x _ _ _ rfl hfj h9 hP hD hS (lv_sub hl [0, 1, 2, 4, 5, 13, 12, 14, 15, 16] rfl)
end
section
/-! a run's steps, on the machine's ints -/
def askF (po : St2) (b : Nat) : Int32 := if b = 0 then 0 else askI (po 2 (b - 1)) (po 2 b)
def plF (k : CFG) (b : Nat) (x : RS) : RS := (u2 (u2 x.1 0 b (x.1 0 (b - 1) - k.1 1 (b - 1) * dX (x.1 2 (b - 1)) - k.1 0 b * dX (x.1 2 b))) 1 b (x.1 1 (b - 1) - k.1 1 (b - 1) * dY (x.1 2 (b - 1)) - k.1 0 b * dY (x.1 2 b)), x.2)
def swR (k : CFG) (way : Int32) (b : Nat) (po : St2) : Int32 := po 3 b + askF po b * way
def swF (k : CFG) (way : Int32) (b : Nat) (x : RS) : RS := (u2 (u2 x.1 2 b ((x.1 2 b + dirsIn (k.1 0 b) (swR k way b x.1)) &&& 63)) 3 b (swR k way b x.1 - dirsIn (k.1 0 b) (swR k way b x.1) * k.1 0 b), x.2)
def msF (b : Nat) (x : RS) : RS := (u2 x.1 4 b (maxI (x.1 4 b) (absI (askF x.1 b))), if absI (askF x.1 b) ≤ 24 then x.2.1 else upd x.2.1 1 1, x.2.2)
theorem it_back {α : Type} {f : Nat → α → α} {n i : Nat} {x x' x9 : α} (h : i < n) (h9 : itF f n i x = x9) (e : f i x = x') : itF f n (i + 1) x' = x9 := by
  rw [← e, ← itF_step h]
  exact h9
theorem lt_of_nle {i n : Nat} {a : Int32} (hn : a = nI n) (h3 : n ≤ 3) (hi : i ≤ n + 1) (c : ¬ a ≤ nI i) : i < n := by
  rcases Nat.lt_or_ge i n with q | q
  · exact q
  · exact absurd (by rw [hn]; exact nI_le q (by omega)) c
theorem ge_of_le {i n : Nat} {a : Int32} (hn : a = nI n) (h3 : n ≤ 3) (hi : i ≤ n + 1) (c : a ≤ nI i) : n ≤ i := by
  rw [hn] at c
  exact (nI_leI (by omega) (by omega)).mp c

set_option maxHeartbeats 4000000 in
set_option maxRecDepth 100000 in
theorem c_Ru_askewOf_0 (l : Launch) (g : Glob) (ad : Nat → Nat) (k : CFG) (x : RS) : CI l g y_Ru_askewOf b_Ru_askewOf 2 (some .int) 1 21 [.ref (ad 0), .int 0] (wR g ad k x) (askF x.1 0) (wR g ad k x) := by
  refine CI.of .int rfl rfl (by decide +kernel) (Nat.le_of_ble_eq_true rfl) ?_
  intro p e s m below meth c A Q ls C hP hD hl hret hS
  obtain ⟨hx, hb, hml, hown, hw, hE, hA⟩ := id C
  have hl : lv_has ls 2 [(0, .ref (ad 0)), (1, .int 0)] := hl
  refine lv_iload_n hx hb d_Ru_askewOf_0 rfl (lv_at hl 1 rfl) ?_
  refine lv_iconst (v := 1) hx hb d_Ru_askewOf_1 (by decide) ?_
  refine lv_icmp_ge (tgt := 9) hx hb d_Ru_askewOf_2 (by decide) (fun c2_1 => ?_) (fun c2_1 => ?_)
  · exact absurd c2_1 (show ¬ (1 : Int32) ≤ 0 by decide)
  refine lv_iconst (v := 0) hx hb d_Ru_askewOf_5 (by decide) ?_
  refine lv_goto (tgt := 32) hx hb d_Ru_askewOf_6 (by decide) ?_
  exact hret _ _ _ _ _ _ rfl rfl hP hD hS d_Ru_askewOf_32
set_option maxHeartbeats 4000000 in
set_option maxRecDepth 100000 in
theorem c_Ru_askewOf_1 (l : Launch) (g : Glob) (ad : Nat → Nat) (k : CFG) (x : RS) : CI l g y_Ru_askewOf b_Ru_askewOf 2 (some .int) 1 21 [.ref (ad 0), .int 1] (wR g ad k x) (askF x.1 1) (wR g ad k x) := by
  refine CI.of .int rfl rfl (by decide +kernel) (Nat.le_of_ble_eq_true rfl) ?_
  intro p e s m below meth c A Q ls C hP hD hl hret hS
  obtain ⟨hx, hb, hml, hown, hw, hE, hA⟩ := id C
  have hl : lv_has ls 2 [(0, .ref (ad 0)), (1, .int 1)] := hl
  refine lv_iload_n hx hb d_Ru_askewOf_0 rfl (lv_at hl 1 rfl) ?_
  refine lv_iconst (v := 1) hx hb d_Ru_askewOf_1 (by decide) ?_
  refine lv_icmp_ge (tgt := 9) hx hb d_Ru_askewOf_2 (by decide) (fun c2_1 => ?_) (fun c2_1 => ?_)
  rotate_left
  · exact absurd (show (1 : Int32) ≤ 1 by decide) c2_1
  refine lv_aload_n hx hb d_Ru_askewOf_9 rfl (lv_at hl 0 rfl) ?_
  refine va_get (D := g.1) (ci := 4) (v := .ref (ad 6)) (C := R_Ru) (T := F_Ru) (N := 8) hx hb hw i_Ru hown hE.1 hP 0 rfl rfl 0 (by decide) (hw _ q_156) (fun _ h9 => h9) rfl d_Ru_askewOf_10 ?_
  refine lv_iload_n hx hb d_Ru_askewOf_13 rfl (lv_at hl 1 rfl) ?_
  refine lv_iconst (v := 1) hx hb d_Ru_askewOf_14 (by decide) ?_
  refine lv_isub hx hb d_Ru_askewOf_15 ?_
  refine va_aldq hx hb hE.1 hP 6 4 rfl rfl (by unfold vp_in; decide) d_Ru_askewOf_16 ?_
  rw [show ((1 - 1) : Int32).toNatClampNeg = 0 from by decide]
  refine get_po C 2 0 (by decide) (by decide) rfl q_124 hP (x.1 2 0) rfl d_Ru_askewOf_17 ?_
  refine lv_aload_n hx hb d_Ru_askewOf_20 rfl (lv_at hl 0 rfl) ?_
  refine va_get (D := g.1) (ci := 4) (v := .ref (ad 6)) (C := R_Ru) (T := F_Ru) (N := 8) hx hb hw i_Ru hown hE.1 hP 0 rfl rfl 0 (by decide) (hw _ q_156) (fun _ h9 => h9) rfl d_Ru_askewOf_21 ?_
  refine lv_iload_n hx hb d_Ru_askewOf_24 rfl (lv_at hl 1 rfl) ?_
  refine va_aldq hx hb hE.1 hP 6 4 rfl rfl (by unfold vp_in; decide) d_Ru_askewOf_25 ?_
  rw [show (1 : Int32).toNatClampNeg = 1 from by decide]
  refine get_po C 2 1 (by decide) (by decide) rfl q_124 hP (x.1 2 1) rfl d_Ru_askewOf_26 ?_
  refine csI C v_Ru_117 [.int (x.1 2 0), .int (x.1 2 1)] [] (c_Di_askew l g (x.1 2 0) (x.1 2 1)) hP hS rfl rfl hl.1 (Nat.le_of_ble_eq_true rfl) ⟨Nat.le_of_ble_eq_true rfl, Nat.le_of_ble_eq_true rfl⟩ d_Ru_askewOf_29 ⟨Nat.zero_le _, Nat.zero_le _⟩ (fun H locs hP hS => ?_)
  exact hret _ _ _ _ _ _ rfl rfl hP hD hS d_Ru_askewOf_32
set_option maxHeartbeats 4000000 in
set_option maxRecDepth 100000 in
theorem c_Ru_askewOf_2 (l : Launch) (g : Glob) (ad : Nat → Nat) (k : CFG) (x : RS) : CI l g y_Ru_askewOf b_Ru_askewOf 2 (some .int) 1 21 [.ref (ad 0), .int 2] (wR g ad k x) (askF x.1 2) (wR g ad k x) := by
  refine CI.of .int rfl rfl (by decide +kernel) (Nat.le_of_ble_eq_true rfl) ?_
  intro p e s m below meth c A Q ls C hP hD hl hret hS
  obtain ⟨hx, hb, hml, hown, hw, hE, hA⟩ := id C
  have hl : lv_has ls 2 [(0, .ref (ad 0)), (1, .int 2)] := hl
  refine lv_iload_n hx hb d_Ru_askewOf_0 rfl (lv_at hl 1 rfl) ?_
  refine lv_iconst (v := 1) hx hb d_Ru_askewOf_1 (by decide) ?_
  refine lv_icmp_ge (tgt := 9) hx hb d_Ru_askewOf_2 (by decide) (fun c2_1 => ?_) (fun c2_1 => ?_)
  rotate_left
  · exact absurd (show (1 : Int32) ≤ 2 by decide) c2_1
  refine lv_aload_n hx hb d_Ru_askewOf_9 rfl (lv_at hl 0 rfl) ?_
  refine va_get (D := g.1) (ci := 4) (v := .ref (ad 6)) (C := R_Ru) (T := F_Ru) (N := 8) hx hb hw i_Ru hown hE.1 hP 0 rfl rfl 0 (by decide) (hw _ q_156) (fun _ h9 => h9) rfl d_Ru_askewOf_10 ?_
  refine lv_iload_n hx hb d_Ru_askewOf_13 rfl (lv_at hl 1 rfl) ?_
  refine lv_iconst (v := 1) hx hb d_Ru_askewOf_14 (by decide) ?_
  refine lv_isub hx hb d_Ru_askewOf_15 ?_
  refine va_aldq hx hb hE.1 hP 6 4 rfl rfl (by unfold vp_in; decide) d_Ru_askewOf_16 ?_
  rw [show ((2 - 1) : Int32).toNatClampNeg = 1 from by decide]
  refine get_po C 2 1 (by decide) (by decide) rfl q_124 hP (x.1 2 1) rfl d_Ru_askewOf_17 ?_
  refine lv_aload_n hx hb d_Ru_askewOf_20 rfl (lv_at hl 0 rfl) ?_
  refine va_get (D := g.1) (ci := 4) (v := .ref (ad 6)) (C := R_Ru) (T := F_Ru) (N := 8) hx hb hw i_Ru hown hE.1 hP 0 rfl rfl 0 (by decide) (hw _ q_156) (fun _ h9 => h9) rfl d_Ru_askewOf_21 ?_
  refine lv_iload_n hx hb d_Ru_askewOf_24 rfl (lv_at hl 1 rfl) ?_
  refine va_aldq hx hb hE.1 hP 6 4 rfl rfl (by unfold vp_in; decide) d_Ru_askewOf_25 ?_
  rw [show (2 : Int32).toNatClampNeg = 2 from by decide]
  refine get_po C 2 2 (by decide) (by decide) rfl q_124 hP (x.1 2 2) rfl d_Ru_askewOf_26 ?_
  refine csI C v_Ru_117 [.int (x.1 2 1), .int (x.1 2 2)] [] (c_Di_askew l g (x.1 2 1) (x.1 2 2)) hP hS rfl rfl hl.1 (Nat.le_of_ble_eq_true rfl) ⟨Nat.le_of_ble_eq_true rfl, Nat.le_of_ble_eq_true rfl⟩ d_Ru_askewOf_29 ⟨Nat.zero_le _, Nat.zero_le _⟩ (fun H locs hP hS => ?_)
  exact hret _ _ _ _ _ _ rfl rfl hP hD hS d_Ru_askewOf_32
set_option maxHeartbeats 4000000 in
set_option maxRecDepth 100000 in
theorem c_Ru_swing_1 (l : Launch) (g : Glob) (ad : Nat → Nat) (k : CFG) (x : RS) (way : Int32) : CV l g y_Ru_swing b_Ru_swing 7 2 42 [.ref (ad 0), .int 1, .int way] (wR g ad k x) (wR g ad k (swF k way 1 x)) := by
  refine CV.of (by decide +kernel) (Nat.le_of_ble_eq_true rfl) ?_
  intro p e s m below meth c A Q ls C hP hD hl hret hS
  obtain ⟨hx, hb, hml, hown, hw, hE, hA⟩ := id C
  have hl : lv_has ls 7 [(0, .ref (ad 0)), (1, .int 1), (2, .int way)] := hl
  refine lv_aload_n hx hb d_Ru_swing_0 rfl (lv_at hl 0 rfl) ?_
  refine va_get (D := g.1) (ci := 4) (v := .ref (ad 6)) (C := R_Ru) (T := F_Ru) (N := 8) hx hb hw i_Ru hown hE.1 hP 0 rfl rfl 0 (by decide) (hw _ q_156) (fun _ h9 => h9) rfl d_Ru_swing_1 ?_
  refine lv_iload_n hx hb d_Ru_swing_4 rfl (lv_at hl 1 rfl) ?_
  refine va_aldq hx hb hE.1 hP 6 4 rfl rfl (by unfold vp_in; decide) d_Ru_swing_5 ?_
  rw [show (1 : Int32).toNatClampNeg = 1 from by decide]
  refine lv_astore_n (lv' := [(3, .ref (ad (7 + 1))), (0, .ref (ad 0)), (1, .int 1), (2, .int way)]) hx hb d_Ru_swing_6 rfl hl (by decide) rfl (fun ls hl => ?_)
  refine lv_aload_n hx hb d_Ru_swing_7 rfl (lv_at hl 1 rfl) ?_
  refine va_get (D := g.1) (ci := 4) (v := .ref (ad 1)) (C := R_Ru) (T := F_Ru) (N := 8) hx hb hw i_Ru hown hE.1 hP 0 rfl rfl 7 (by decide) (hw _ q_170) (fun _ h9 => h9) rfl d_Ru_swing_8 ?_
  refine va_get (D := g.1) (ci := 5) (v := .ref (ad 2)) (C := R_Se) (T := F_Se) (N := 9) hx hb hw i_Se hown hE.1 hP 1 rfl rfl 0 (by decide) (hw _ q_65) (fun _ h9 => h9) rfl d_Ru_swing_11 ?_
  refine lv_iload_n hx hb d_Ru_swing_14 rfl (lv_at hl 2 rfl) ?_
  refine va_aldq hx hb hE.1 hP 2 3 rfl rfl (by unfold vp_in; decide) d_Ru_swing_15 ?_
  rw [show (1 : Int32).toNatClampNeg = 1 from by decide]
  refine lv_astore (lv' := [(4, .ref (ad (3 + 1))), (3, .ref (ad (7 + 1))), (0, .ref (ad 0)), (1, .int 1), (2, .int way)]) hx hb d_Ru_swing_16 hl (by decide) rfl (fun ls hl => ?_)
  refine lv_aload_n hx hb d_Ru_swing_18 rfl (lv_at hl 1 rfl) ?_
  refine get_po C 3 1 (by decide) (by decide) rfl q_127 hP (x.1 3 1) rfl d_Ru_swing_19 ?_
  refine lv_aload_n hx hb d_Ru_swing_22 rfl (lv_at hl 2 rfl) ?_
  refine lv_iload_n hx hb d_Ru_swing_23 rfl (lv_at hl 3 rfl) ?_
  refine cvI C v_Ru_140 [.int 1] [.int (x.1 3 1)] (c_Ru_askewOf_1 l g ad k x) hP hD hS [0, 1, 2, 3, 4, 5, 6, 7, 8, 9, 10, 11, 12, 13] [] [0, 1, 2, 3, 4, 5, 6, 7, 8, 9, 10, 11, 12, 13] [] (wR g ad k x) rfl rfl (by decide) (by decide) (by decide) rfl (by decide) 0 rfl rfl rfl rfl hl.1 (Nat.le_of_ble_eq_true rfl) ⟨Nat.le_of_ble_eq_true rfl, Nat.le_of_ble_eq_true rfl⟩ d_Ru_swing_24 ⟨Nat.zero_le _, Nat.zero_le _⟩ (fun H locs hP hD hS => ?_)
  refine lv_iload_n hx hb d_Ru_swing_27 rfl (lv_at hl 4 rfl) ?_
  refine lv_imul hx hb d_Ru_swing_28 ?_
  refine lv_iadd hx hb d_Ru_swing_29 ?_
  refine lv_istore (lv' := [(5, .int ((x.1 3 1) + ((askF x.1 1) * way))), (4, .ref (ad (3 + 1))), (3, .ref (ad (7 + 1))), (0, .ref (ad 0)), (1, .int 1), (2, .int way)]) hx hb d_Ru_swing_30 hl (by decide) rfl (fun ls hl => ?_)
  refine lv_aload hx hb d_Ru_swing_32 (lv_at hl 1 rfl) ?_
  refine lv_iload hx hb d_Ru_swing_34 (lv_at hl 0 rfl) ?_
  refine cvI C v_Ru_143 [.int ((x.1 3 1) + ((askF x.1 1) * way))] [] (c_Sh_directionsIn l g (ad 4) k.1 1 ((x.1 3 1) + ((askF x.1 1) * way))) hP hD hS [4] [0, 1, 2, 3, 5, 6, 7, 8, 9, 10, 11, 12, 13] [0, 1, 2, 3, 13, 4, 5, 6, 7, 8, 9, 10, 11, 12] [((ad 0), .inr (4, [.ref (ad 6), .ref (ad 10), .int (x.2.1 0), .int (x.2.1 1), .int (x.2.1 2), .int (x.2.1 3), .int (x.2.1 4), .ref (ad 1)])), ((ad 1), .inr (5, [.ref (ad 2), .ref (ad 12), .ref (ad 13), .int (k.2.1 0), .int (k.2.1 1), .int (k.2.1 2), .int (k.2.1 3), .int (k.2.1 4), .int (k.2.1 5)])), ((ad 2), .inl (g.2.1 3, 3, .inr (.inr (.inr (.inr (fun j => some (ad (3 + j)))))))), ((ad 3), .inr (6, [.int (k.1 0 0), .int (k.1 1 0), .int (k.1 2 0), .int (k.1 3 0), .int (k.1 4 0)])), ((ad 5), .inr (6, [.int (k.1 0 2), .int (k.1 1 2), .int (k.1 2 2), .int (k.1 3 2), .int (k.1 4 2)])), ((ad 6), .inl (g.2.1 4, 3, .inr (.inr (.inr (.inr (fun j => some (ad (7 + j)))))))), ((ad 7), .inr (3, [.int (x.1 0 0), .int (x.1 1 0), .int (x.1 2 0), .int (x.1 3 0), .int (x.1 4 0)])), ((ad 8), .inr (3, [.int (x.1 0 1), .int (x.1 1 1), .int (x.1 2 1), .int (x.1 3 1), .int (x.1 4 1)])), ((ad 9), .inr (3, [.int (x.1 0 2), .int (x.1 1 2), .int (x.1 2 2), .int (x.1 3 2), .int (x.1 4 2)])), ((ad 10), .inr (1, [.ref (ad 11), .int x.2.2.1])), ((ad 11), .inl (g.2.1 1, 64, .inr (.inl x.2.2.2))), ((ad 12), .inl (g.2.1 0, 20, .inl k.2.2.1)), ((ad 13), .inl (g.2.1 0, 20, .inl k.2.2.2))] (wR g ad k x) rfl rfl (by decide) (by decide) (by decide) rfl (by decide) 0 rfl rfl rfl rfl hl.1 (Nat.le_of_ble_eq_true rfl) ⟨Nat.le_of_ble_eq_true rfl, Nat.le_of_ble_eq_true rfl⟩ d_Ru_swing_36 ⟨Nat.zero_le _, Nat.zero_le _⟩ (fun H locs hP hD hS => ?_)
  refine lv_istore (lv' := [(6, .int (dirsIn (k.1 0 1) ((x.1 3 1) + ((askF x.1 1) * way)))), (5, .int ((x.1 3 1) + ((askF x.1 1) * way))), (4, .ref (ad (3 + 1))), (3, .ref (ad (7 + 1))), (0, .ref (ad 0)), (1, .int 1), (2, .int way)]) hx hb d_Ru_swing_39 hl (by decide) rfl (fun ls hl => ?_)
  refine lv_aload_n hx hb d_Ru_swing_41 rfl (lv_at hl 3 rfl) ?_
  refine lv_aload_n hx hb d_Ru_swing_42 rfl (lv_at hl 3 rfl) ?_
  refine get_po C 2 1 (by decide) (by decide) rfl q_124 hP (x.1 2 1) rfl d_Ru_swing_43 ?_
  refine lv_iload hx hb d_Ru_swing_46 (lv_at hl 0 rfl) ?_
  refine lv_iadd hx hb d_Ru_swing_48 ?_
  refine csI C v_Ru_130 [.int ((x.1 2 1) + (dirsIn (k.1 0 1) ((x.1 3 1) + ((askF x.1 1) * way))))] [.ref (ad (7 + 1))] (c_Di_round l g ((x.1 2 1) + (dirsIn (k.1 0 1) ((x.1 3 1) + ((askF x.1 1) * way))))) hP hS rfl rfl hl.1 (Nat.le_of_ble_eq_true rfl) ⟨Nat.le_of_ble_eq_true rfl, Nat.le_of_ble_eq_true rfl⟩ d_Ru_swing_49 ⟨Nat.zero_le _, Nat.zero_le _⟩ (fun H locs hP hS => ?_)
  refine put_po C 2 1 (by decide) (by decide) rfl q_124 hP hD hS d_Ru_swing_52 (fun H locs hP hD hS => ?_)
  have hP : va_P g.1 classes (wR g ad k ((u2 x.1 2 1 (((x.1 2 1) + (dirsIn (k.1 0 1) ((x.1 3 1) + ((askF x.1 1) * way)))) &&& 63)), x.2.1, x.2.2.1, x.2.2.2)) H := hP
  have hD : va_D A (wR g ad k ((u2 x.1 2 1 (((x.1 2 1) + (dirsIn (k.1 0 1) ((x.1 3 1) + ((askF x.1 1) * way)))) &&& 63)), x.2.1, x.2.2.1, x.2.2.2)) := hD
  refine lv_aload_n hx hb d_Ru_swing_55 rfl (lv_at hl 3 rfl) ?_
  refine lv_iload hx hb d_Ru_swing_56 (lv_at hl 1 rfl) ?_
  refine lv_iload hx hb d_Ru_swing_58 (lv_at hl 0 rfl) ?_
  refine lv_aload hx hb d_Ru_swing_60 (lv_at hl 2 rfl) ?_
  refine va_get (D := g.1) (ci := 6) (v := .int (k.1 0 1)) (C := R_Sh) (T := F_Sh) (N := 5) hx hb hw i_Sh hown hE.1 hP 4 rfl rfl 0 (by decide) (hw _ q_40) (fun _ h9 => h9) rfl d_Ru_swing_62 ?_
  refine lv_imul hx hb d_Ru_swing_65 ?_
  refine lv_isub hx hb d_Ru_swing_66 ?_
  refine put_po C 3 1 (by decide) (by decide) rfl q_127 hP hD hS d_Ru_swing_67 (fun H locs hP hD hS => ?_)
  have hP : va_P g.1 classes (wR g ad k ((u2 (u2 x.1 2 1 (((x.1 2 1) + (dirsIn (k.1 0 1) ((x.1 3 1) + ((askF x.1 1) * way)))) &&& 63)) 3 1 (((x.1 3 1) + ((askF x.1 1) * way)) - ((dirsIn (k.1 0 1) ((x.1 3 1) + ((askF x.1 1) * way))) * (k.1 0 1)))), x.2.1, x.2.2.1, x.2.2.2)) H := hP
  have hD : va_D A (wR g ad k ((u2 (u2 x.1 2 1 (((x.1 2 1) + (dirsIn (k.1 0 1) ((x.1 3 1) + ((askF x.1 1) * way)))) &&& 63)) 3 1 (((x.1 3 1) + ((askF x.1 1) * way)) - ((dirsIn (k.1 0 1) ((x.1 3 1) + ((askF x.1 1) * way))) * (k.1 0 1)))), x.2.1, x.2.2.1, x.2.2.2)) := hD
  exact hret _ _ _ _ _ rfl hP hD hS d_Ru_swing_70
set_option maxHeartbeats 4000000 in
set_option maxRecDepth 100000 in
theorem c_Ru_swing_2 (l : Launch) (g : Glob) (ad : Nat → Nat) (k : CFG) (x : RS) (way : Int32) : CV l g y_Ru_swing b_Ru_swing 7 2 42 [.ref (ad 0), .int 2, .int way] (wR g ad k x) (wR g ad k (swF k way 2 x)) := by
  refine CV.of (by decide +kernel) (Nat.le_of_ble_eq_true rfl) ?_
  intro p e s m below meth c A Q ls C hP hD hl hret hS
  obtain ⟨hx, hb, hml, hown, hw, hE, hA⟩ := id C
  have hl : lv_has ls 7 [(0, .ref (ad 0)), (1, .int 2), (2, .int way)] := hl
  refine lv_aload_n hx hb d_Ru_swing_0 rfl (lv_at hl 0 rfl) ?_
  refine va_get (D := g.1) (ci := 4) (v := .ref (ad 6)) (C := R_Ru) (T := F_Ru) (N := 8) hx hb hw i_Ru hown hE.1 hP 0 rfl rfl 0 (by decide) (hw _ q_156) (fun _ h9 => h9) rfl d_Ru_swing_1 ?_
  refine lv_iload_n hx hb d_Ru_swing_4 rfl (lv_at hl 1 rfl) ?_
  refine va_aldq hx hb hE.1 hP 6 4 rfl rfl (by unfold vp_in; decide) d_Ru_swing_5 ?_
  rw [show (2 : Int32).toNatClampNeg = 2 from by decide]
  refine lv_astore_n (lv' := [(3, .ref (ad (7 + 2))), (0, .ref (ad 0)), (1, .int 2), (2, .int way)]) hx hb d_Ru_swing_6 rfl hl (by decide) rfl (fun ls hl => ?_)
  refine lv_aload_n hx hb d_Ru_swing_7 rfl (lv_at hl 1 rfl) ?_
  refine va_get (D := g.1) (ci := 4) (v := .ref (ad 1)) (C := R_Ru) (T := F_Ru) (N := 8) hx hb hw i_Ru hown hE.1 hP 0 rfl rfl 7 (by decide) (hw _ q_170) (fun _ h9 => h9) rfl d_Ru_swing_8 ?_
  refine va_get (D := g.1) (ci := 5) (v := .ref (ad 2)) (C := R_Se) (T := F_Se) (N := 9) hx hb hw i_Se hown hE.1 hP 1 rfl rfl 0 (by decide) (hw _ q_65) (fun _ h9 => h9) rfl d_Ru_swing_11 ?_
  refine lv_iload_n hx hb d_Ru_swing_14 rfl (lv_at hl 2 rfl) ?_
  refine va_aldq hx hb hE.1 hP 2 3 rfl rfl (by unfold vp_in; decide) d_Ru_swing_15 ?_
  rw [show (2 : Int32).toNatClampNeg = 2 from by decide]
  refine lv_astore (lv' := [(4, .ref (ad (3 + 2))), (3, .ref (ad (7 + 2))), (0, .ref (ad 0)), (1, .int 2), (2, .int way)]) hx hb d_Ru_swing_16 hl (by decide) rfl (fun ls hl => ?_)
  refine lv_aload_n hx hb d_Ru_swing_18 rfl (lv_at hl 1 rfl) ?_
  refine get_po C 3 2 (by decide) (by decide) rfl q_127 hP (x.1 3 2) rfl d_Ru_swing_19 ?_
  refine lv_aload_n hx hb d_Ru_swing_22 rfl (lv_at hl 2 rfl) ?_
  refine lv_iload_n hx hb d_Ru_swing_23 rfl (lv_at hl 3 rfl) ?_
  refine cvI C v_Ru_140 [.int 2] [.int (x.1 3 2)] (c_Ru_askewOf_2 l g ad k x) hP hD hS [0, 1, 2, 3, 4, 5, 6, 7, 8, 9, 10, 11, 12, 13] [] [0, 1, 2, 3, 4, 5, 6, 7, 8, 9, 10, 11, 12, 13] [] (wR g ad k x) rfl rfl (by decide) (by decide) (by decide) rfl (by decide) 0 rfl rfl rfl rfl hl.1 (Nat.le_of_ble_eq_true rfl) ⟨Nat.le_of_ble_eq_true rfl, Nat.le_of_ble_eq_true rfl⟩ d_Ru_swing_24 ⟨Nat.zero_le _, Nat.zero_le _⟩ (fun H locs hP hD hS => ?_)
  refine lv_iload_n hx hb d_Ru_swing_27 rfl (lv_at hl 4 rfl) ?_
  refine lv_imul hx hb d_Ru_swing_28 ?_
  refine lv_iadd hx hb d_Ru_swing_29 ?_
  refine lv_istore (lv' := [(5, .int ((x.1 3 2) + ((askF x.1 2) * way))), (4, .ref (ad (3 + 2))), (3, .ref (ad (7 + 2))), (0, .ref (ad 0)), (1, .int 2), (2, .int way)]) hx hb d_Ru_swing_30 hl (by decide) rfl (fun ls hl => ?_)
  refine lv_aload hx hb d_Ru_swing_32 (lv_at hl 1 rfl) ?_
  refine lv_iload hx hb d_Ru_swing_34 (lv_at hl 0 rfl) ?_
  refine cvI C v_Ru_143 [.int ((x.1 3 2) + ((askF x.1 2) * way))] [] (c_Sh_directionsIn l g (ad 5) k.1 2 ((x.1 3 2) + ((askF x.1 2) * way))) hP hD hS [5] [0, 1, 2, 3, 4, 6, 7, 8, 9, 10, 11, 12, 13] [0, 1, 2, 3, 4, 13, 5, 6, 7, 8, 9, 10, 11, 12] [((ad 0), .inr (4, [.ref (ad 6), .ref (ad 10), .int (x.2.1 0), .int (x.2.1 1), .int (x.2.1 2), .int (x.2.1 3), .int (x.2.1 4), .ref (ad 1)])), ((ad 1), .inr (5, [.ref (ad 2), .ref (ad 12), .ref (ad 13), .int (k.2.1 0), .int (k.2.1 1), .int (k.2.1 2), .int (k.2.1 3), .int (k.2.1 4), .int (k.2.1 5)])), ((ad 2), .inl (g.2.1 3, 3, .inr (.inr (.inr (.inr (fun j => some (ad (3 + j)))))))), ((ad 3), .inr (6, [.int (k.1 0 0), .int (k.1 1 0), .int (k.1 2 0), .int (k.1 3 0), .int (k.1 4 0)])), ((ad 4), .inr (6, [.int (k.1 0 1), .int (k.1 1 1), .int (k.1 2 1), .int (k.1 3 1), .int (k.1 4 1)])), ((ad 6), .inl (g.2.1 4, 3, .inr (.inr (.inr (.inr (fun j => some (ad (7 + j)))))))), ((ad 7), .inr (3, [.int (x.1 0 0), .int (x.1 1 0), .int (x.1 2 0), .int (x.1 3 0), .int (x.1 4 0)])), ((ad 8), .inr (3, [.int (x.1 0 1), .int (x.1 1 1), .int (x.1 2 1), .int (x.1 3 1), .int (x.1 4 1)])), ((ad 9), .inr (3, [.int (x.1 0 2), .int (x.1 1 2), .int (x.1 2 2), .int (x.1 3 2), .int (x.1 4 2)])), ((ad 10), .inr (1, [.ref (ad 11), .int x.2.2.1])), ((ad 11), .inl (g.2.1 1, 64, .inr (.inl x.2.2.2))), ((ad 12), .inl (g.2.1 0, 20, .inl k.2.2.1)), ((ad 13), .inl (g.2.1 0, 20, .inl k.2.2.2))] (wR g ad k x) rfl rfl (by decide) (by decide) (by decide) rfl (by decide) 0 rfl rfl rfl rfl hl.1 (Nat.le_of_ble_eq_true rfl) ⟨Nat.le_of_ble_eq_true rfl, Nat.le_of_ble_eq_true rfl⟩ d_Ru_swing_36 ⟨Nat.zero_le _, Nat.zero_le _⟩ (fun H locs hP hD hS => ?_)
  refine lv_istore (lv' := [(6, .int (dirsIn (k.1 0 2) ((x.1 3 2) + ((askF x.1 2) * way)))), (5, .int ((x.1 3 2) + ((askF x.1 2) * way))), (4, .ref (ad (3 + 2))), (3, .ref (ad (7 + 2))), (0, .ref (ad 0)), (1, .int 2), (2, .int way)]) hx hb d_Ru_swing_39 hl (by decide) rfl (fun ls hl => ?_)
  refine lv_aload_n hx hb d_Ru_swing_41 rfl (lv_at hl 3 rfl) ?_
  refine lv_aload_n hx hb d_Ru_swing_42 rfl (lv_at hl 3 rfl) ?_
  refine get_po C 2 2 (by decide) (by decide) rfl q_124 hP (x.1 2 2) rfl d_Ru_swing_43 ?_
  refine lv_iload hx hb d_Ru_swing_46 (lv_at hl 0 rfl) ?_
  refine lv_iadd hx hb d_Ru_swing_48 ?_
  refine csI C v_Ru_130 [.int ((x.1 2 2) + (dirsIn (k.1 0 2) ((x.1 3 2) + ((askF x.1 2) * way))))] [.ref (ad (7 + 2))] (c_Di_round l g ((x.1 2 2) + (dirsIn (k.1 0 2) ((x.1 3 2) + ((askF x.1 2) * way))))) hP hS rfl rfl hl.1 (Nat.le_of_ble_eq_true rfl) ⟨Nat.le_of_ble_eq_true rfl, Nat.le_of_ble_eq_true rfl⟩ d_Ru_swing_49 ⟨Nat.zero_le _, Nat.zero_le _⟩ (fun H locs hP hS => ?_)
  refine put_po C 2 2 (by decide) (by decide) rfl q_124 hP hD hS d_Ru_swing_52 (fun H locs hP hD hS => ?_)
  have hP : va_P g.1 classes (wR g ad k ((u2 x.1 2 2 (((x.1 2 2) + (dirsIn (k.1 0 2) ((x.1 3 2) + ((askF x.1 2) * way)))) &&& 63)), x.2.1, x.2.2.1, x.2.2.2)) H := hP
  have hD : va_D A (wR g ad k ((u2 x.1 2 2 (((x.1 2 2) + (dirsIn (k.1 0 2) ((x.1 3 2) + ((askF x.1 2) * way)))) &&& 63)), x.2.1, x.2.2.1, x.2.2.2)) := hD
  refine lv_aload_n hx hb d_Ru_swing_55 rfl (lv_at hl 3 rfl) ?_
  refine lv_iload hx hb d_Ru_swing_56 (lv_at hl 1 rfl) ?_
  refine lv_iload hx hb d_Ru_swing_58 (lv_at hl 0 rfl) ?_
  refine lv_aload hx hb d_Ru_swing_60 (lv_at hl 2 rfl) ?_
  refine va_get (D := g.1) (ci := 6) (v := .int (k.1 0 2)) (C := R_Sh) (T := F_Sh) (N := 5) hx hb hw i_Sh hown hE.1 hP 5 rfl rfl 0 (by decide) (hw _ q_40) (fun _ h9 => h9) rfl d_Ru_swing_62 ?_
  refine lv_imul hx hb d_Ru_swing_65 ?_
  refine lv_isub hx hb d_Ru_swing_66 ?_
  refine put_po C 3 2 (by decide) (by decide) rfl q_127 hP hD hS d_Ru_swing_67 (fun H locs hP hD hS => ?_)
  have hP : va_P g.1 classes (wR g ad k ((u2 (u2 x.1 2 2 (((x.1 2 2) + (dirsIn (k.1 0 2) ((x.1 3 2) + ((askF x.1 2) * way)))) &&& 63)) 3 2 (((x.1 3 2) + ((askF x.1 2) * way)) - ((dirsIn (k.1 0 2) ((x.1 3 2) + ((askF x.1 2) * way))) * (k.1 0 2)))), x.2.1, x.2.2.1, x.2.2.2)) H := hP
  have hD : va_D A (wR g ad k ((u2 (u2 x.1 2 2 (((x.1 2 2) + (dirsIn (k.1 0 2) ((x.1 3 2) + ((askF x.1 2) * way)))) &&& 63)) 3 2 (((x.1 3 2) + ((askF x.1 2) * way)) - ((dirsIn (k.1 0 2) ((x.1 3 2) + ((askF x.1 2) * way))) * (k.1 0 2)))), x.2.1, x.2.2.1, x.2.2.2)) := hD
  exact hret _ _ _ _ _ rfl hP hD hS d_Ru_swing_70
set_option maxHeartbeats 4000000 in
set_option maxRecDepth 100000 in
theorem c_Ru_placeTrailers (l : Launch) (g : Glob) (ad : Nat → Nat) (k : CFG) (x : RS) (n : Nat) (hn : k.2.1 0 = nI n) (h3 : n ≤ 3) : CV l g y_Ru_placeTrailers b_Ru_placeTrailers 6 1 20 [.ref (ad 0)] (wR g ad k x) (wR g ad k (itF (plF k) n 1 x)) := by
  refine CV.of (by decide +kernel) (Nat.le_of_ble_eq_true rfl) ?_
  intro p e s m below meth c A Q ls C hP hD hl hret hS
  obtain ⟨hx, hb, hml, hown, hw, hE, hA⟩ := id C
  have hl : lv_has ls 6 [(0, .ref (ad 0))] := hl
  generalize h9 : itF (plF k) n 1 x = x9 at hret
  refine lv_iconst (v := 1) hx hb d_Ru_placeTrailers_0 (by decide) ?_
  refine lv_istore_n (lv' := [(1, .int 1), (0, .ref (ad 0))]) hx hb d_Ru_placeTrailers_1 rfl hl (by decide) rfl (fun ls hl => ?_)
  have lp : ∀ (j : Nat) (i : Nat) (x : RS) (H : Heap) (locs : List Loc) (ls : Array Slot), 1 ≤ i → i ≤ n + 1 → n + 1 < i + j → itF (plF k) n i x = x9 → va_P g.1 classes (wR g ad k x) H → va_D A (wR g ad k x) → va_S A s.heap H locs → lv_has ls 6 [(1, .int (nI i)), (0, .ref (ad 0))] → W p l e { frames := 1, cells := 0, slots := 0, locals := 20 } s m ([.ref (ad 0)] : List Value).toArray below meth c H locs 0 0 Q (F0 m 2 ls []) := by
    intro j
    induction j with
    | zero =>
      intro i x H locs ls hlo hi hj h9 hP hD hS hl
      exact absurd trivial (by omega)
    | succ j ih =>
      intro i x H locs ls hlo hi hj h9 hP hD hS hl
      refine lv_iload_n hx hb d_Ru_placeTrailers_2 rfl (lv_at hl 0 rfl) ?_
      refine lv_aload_n hx hb d_Ru_placeTrailers_3 rfl (lv_at hl 1 rfl) ?_
      refine va_get (D := g.1) (ci := 4) (v := .ref (ad 1)) (C := R_Ru) (T := F_Ru) (N := 8) hx hb hw i_Ru hown hE.1 hP 0 rfl rfl 7 (by decide) (hw _ q_170) (fun _ h9 => h9) rfl d_Ru_placeTrailers_4 ?_
      refine va_get (D := g.1) (ci := 5) (v := .int (k.2.1 0)) (C := R_Se) (T := F_Se) (N := 9) hx hb hw i_Se hown hE.1 hP 1 rfl rfl 3 (by decide) (hw _ q_72) (fun _ h9 => h9) rfl d_Ru_placeTrailers_7 ?_
      refine lv_icmp_ge (tgt := 125) hx hb d_Ru_placeTrailers_10 (by decide) (fun c10_1 => ?_) (fun c10_1 => ?_)
      · have hge := ge_of_le hn h3 hi c10_1
        have h9 := (itF_end hge).symm.trans h9
        subst h9
        exact hret _ _ _ _ _ rfl hP hD hS d_Ru_placeTrailers_125
      · have hlt := lt_of_nle hn h3 hi c10_1
        rcases (show i = 1 ∨ i = 2 by omega) with rfl | rfl
        · have hl : lv_has ls 6 [(1, .int 1), (0, .ref (ad 0))] := hl
          refine lv_aload_n hx hb d_Ru_placeTrailers_13 rfl (lv_at hl 1 rfl) ?_
          refine va_get (D := g.1) (ci := 4) (v := .ref (ad 6)) (C := R_Ru) (T := F_Ru) (N := 8) hx hb hw i_Ru hown hE.1 hP 0 rfl rfl 0 (by decide) (hw _ q_156) (fun _ h9 => h9) rfl d_Ru_placeTrailers_14 ?_
          refine lv_iload_n hx hb d_Ru_placeTrailers_17 rfl (lv_at hl 0 rfl) ?_
          refine lv_iconst (v := 1) hx hb d_Ru_placeTrailers_18 (by decide) ?_
          refine lv_isub hx hb d_Ru_placeTrailers_19 ?_
          refine va_aldq hx hb hE.1 hP 6 4 rfl rfl (by unfold vp_in; decide) d_Ru_placeTrailers_20 ?_
          rw [show ((1 - 1) : Int32).toNatClampNeg = 0 from by decide]
          refine lv_astore_n (lv' := [(2, .ref (ad (7 + 0))), (1, .int 1), (0, .ref (ad 0))]) hx hb d_Ru_placeTrailers_21 rfl hl (by decide) rfl (fun ls hl => ?_)
          refine lv_aload_n hx hb d_Ru_placeTrailers_22 rfl (lv_at hl 2 rfl) ?_
          refine va_get (D := g.1) (ci := 4) (v := .ref (ad 6)) (C := R_Ru) (T := F_Ru) (N := 8) hx hb hw i_Ru hown hE.1 hP 0 rfl rfl 0 (by decide) (hw _ q_156) (fun _ h9 => h9) rfl d_Ru_placeTrailers_23 ?_
          refine lv_iload_n hx hb d_Ru_placeTrailers_26 rfl (lv_at hl 1 rfl) ?_
          refine va_aldq hx hb hE.1 hP 6 4 rfl rfl (by unfold vp_in; decide) d_Ru_placeTrailers_27 ?_
          rw [show (1 : Int32).toNatClampNeg = 1 from by decide]
          refine lv_astore_n (lv' := [(3, .ref (ad (7 + 1))), (2, .ref (ad (7 + 0))), (1, .int 1), (0, .ref (ad 0))]) hx hb d_Ru_placeTrailers_28 rfl hl (by decide) rfl (fun ls hl => ?_)
          refine lv_aload_n hx hb d_Ru_placeTrailers_29 rfl (lv_at hl 3 rfl) ?_
          refine va_get (D := g.1) (ci := 4) (v := .ref (ad 1)) (C := R_Ru) (T := F_Ru) (N := 8) hx hb hw i_Ru hown hE.1 hP 0 rfl rfl 7 (by decide) (hw _ q_170) (fun _ h9 => h9) rfl d_Ru_placeTrailers_30 ?_
          refine va_get (D := g.1) (ci := 5) (v := .ref (ad 2)) (C := R_Se) (T := F_Se) (N := 9) hx hb hw i_Se hown hE.1 hP 1 rfl rfl 0 (by decide) (hw _ q_65) (fun _ h9 => h9) rfl d_Ru_placeTrailers_33 ?_
          refine lv_iload_n hx hb d_Ru_placeTrailers_36 rfl (lv_at hl 2 rfl) ?_
          refine lv_iconst (v := 1) hx hb d_Ru_placeTrailers_37 (by decide) ?_
          refine lv_isub hx hb d_Ru_placeTrailers_38 ?_
          refine va_aldq hx hb hE.1 hP 2 3 rfl rfl (by unfold vp_in; decide) d_Ru_placeTrailers_39 ?_
          rw [show ((1 - 1) : Int32).toNatClampNeg = 0 from by decide]
          refine va_get (D := g.1) (ci := 6) (v := .int (k.1 1 0)) (C := R_Sh) (T := F_Sh) (N := 5) hx hb hw i_Sh hown hE.1 hP 3 rfl rfl 1 (by decide) (hw _ q_42) (fun _ h9 => h9) rfl d_Ru_placeTrailers_40 ?_
          refine lv_istore (lv' := [(4, .int (k.1 1 0)), (3, .ref (ad (7 + 1))), (2, .ref (ad (7 + 0))), (1, .int 1), (0, .ref (ad 0))]) hx hb d_Ru_placeTrailers_43 hl (by decide) rfl (fun ls hl => ?_)
          refine lv_aload_n hx hb d_Ru_placeTrailers_45 rfl (lv_at hl 4 rfl) ?_
          refine va_get (D := g.1) (ci := 4) (v := .ref (ad 1)) (C := R_Ru) (T := F_Ru) (N := 8) hx hb hw i_Ru hown hE.1 hP 0 rfl rfl 7 (by decide) (hw _ q_170) (fun _ h9 => h9) rfl d_Ru_placeTrailers_46 ?_
          refine va_get (D := g.1) (ci := 5) (v := .ref (ad 2)) (C := R_Se) (T := F_Se) (N := 9) hx hb hw i_Se hown hE.1 hP 1 rfl rfl 0 (by decide) (hw _ q_65) (fun _ h9 => h9) rfl d_Ru_placeTrailers_49 ?_
          refine lv_iload_n hx hb d_Ru_placeTrailers_52 rfl (lv_at hl 3 rfl) ?_
          refine va_aldq hx hb hE.1 hP 2 3 rfl rfl (by unfold vp_in; decide) d_Ru_placeTrailers_53 ?_
          rw [show (1 : Int32).toNatClampNeg = 1 from by decide]
          refine va_get (D := g.1) (ci := 6) (v := .int (k.1 0 1)) (C := R_Sh) (T := F_Sh) (N := 5) hx hb hw i_Sh hown hE.1 hP 4 rfl rfl 0 (by decide) (hw _ q_40) (fun _ h9 => h9) rfl d_Ru_placeTrailers_54 ?_
          refine lv_istore (lv' := [(5, .int (k.1 0 1)), (4, .int (k.1 1 0)), (3, .ref (ad (7 + 1))), (2, .ref (ad (7 + 0))), (1, .int 1), (0, .ref (ad 0))]) hx hb d_Ru_placeTrailers_57 hl (by decide) rfl (fun ls hl => ?_)
          refine lv_aload_n hx hb d_Ru_placeTrailers_59 rfl (lv_at hl 2 rfl) ?_
          refine lv_aload_n hx hb d_Ru_placeTrailers_60 rfl (lv_at hl 3 rfl) ?_
          refine get_po C 0 0 (by decide) (by decide) rfl q_118 hP (x.1 0 0) rfl d_Ru_placeTrailers_61 ?_
          refine lv_iload hx hb d_Ru_placeTrailers_64 (lv_at hl 1 rfl) ?_
          refine lv_aload_n hx hb d_Ru_placeTrailers_66 rfl (lv_at hl 3 rfl) ?_
          refine get_po C 2 0 (by decide) (by decide) rfl q_124 hP (x.1 2 0) rfl d_Ru_placeTrailers_67 ?_
          refine csI C v_Ru_123 [.int (x.1 2 0)] [.int (k.1 1 0), .int (x.1 0 0), .ref (ad (7 + 1))] (c_Di_dx l g (x.1 2 0)) hP hS rfl rfl hl.1 (Nat.le_of_ble_eq_true rfl) ⟨Nat.le_of_ble_eq_true rfl, Nat.le_of_ble_eq_true rfl⟩ d_Ru_placeTrailers_70 ⟨Nat.zero_le _, Nat.zero_le _⟩ (fun H locs hP hS => ?_)
          refine lv_imul hx hb d_Ru_placeTrailers_73 ?_
          refine lv_isub hx hb d_Ru_placeTrailers_74 ?_
          refine lv_iload hx hb d_Ru_placeTrailers_75 (lv_at hl 0 rfl) ?_
          refine lv_aload_n hx hb d_Ru_placeTrailers_77 rfl (lv_at hl 2 rfl) ?_
          refine get_po C 2 1 (by decide) (by decide) rfl q_124 hP (x.1 2 1) rfl d_Ru_placeTrailers_78 ?_
          refine csI C v_Ru_123 [.int (x.1 2 1)] [.int (k.1 0 1), .int ((x.1 0 0) - ((k.1 1 0) * (dX (x.1 2 0)))), .ref (ad (7 + 1))] (c_Di_dx l g (x.1 2 1)) hP hS rfl rfl hl.1 (Nat.le_of_ble_eq_true rfl) ⟨Nat.le_of_ble_eq_true rfl, Nat.le_of_ble_eq_true rfl⟩ d_Ru_placeTrailers_81 ⟨Nat.zero_le _, Nat.zero_le _⟩ (fun H locs hP hS => ?_)
          refine lv_imul hx hb d_Ru_placeTrailers_84 ?_
          refine lv_isub hx hb d_Ru_placeTrailers_85 ?_
          refine put_po C 0 1 (by decide) (by decide) rfl q_118 hP hD hS d_Ru_placeTrailers_86 (fun H locs hP hD hS => ?_)
          have hP : va_P g.1 classes (wR g ad k ((u2 x.1 0 1 (((x.1 0 0) - ((k.1 1 0) * (dX (x.1 2 0)))) - ((k.1 0 1) * (dX (x.1 2 1))))), x.2.1, x.2.2.1, x.2.2.2)) H := hP
          have hD : va_D A (wR g ad k ((u2 x.1 0 1 (((x.1 0 0) - ((k.1 1 0) * (dX (x.1 2 0)))) - ((k.1 0 1) * (dX (x.1 2 1))))), x.2.1, x.2.2.1, x.2.2.2)) := hD
          refine lv_aload_n hx hb d_Ru_placeTrailers_89 rfl (lv_at hl 2 rfl) ?_
          refine lv_aload_n hx hb d_Ru_placeTrailers_90 rfl (lv_at hl 3 rfl) ?_
          refine get_po C 1 0 (by decide) (by decide) rfl q_121 hP (x.1 1 0) (u2_k (σ := x.1) (k := 0) (b := 1) (x := (((x.1 0 0) - ((k.1 1 0) * (dX (x.1 2 0)))) - ((k.1 0 1) * (dX (x.1 2 1))))) (i := 1) (j := 0) (by decide)) d_Ru_placeTrailers_91 ?_
          refine lv_iload hx hb d_Ru_placeTrailers_94 (lv_at hl 1 rfl) ?_
          refine lv_aload_n hx hb d_Ru_placeTrailers_96 rfl (lv_at hl 3 rfl) ?_
          refine get_po C 2 0 (by decide) (by decide) rfl q_124 hP (x.1 2 0) (u2_k (σ := x.1) (k := 0) (b := 1) (x := (((x.1 0 0) - ((k.1 1 0) * (dX (x.1 2 0)))) - ((k.1 0 1) * (dX (x.1 2 1))))) (i := 2) (j := 0) (by decide)) d_Ru_placeTrailers_97 ?_
          refine csI C v_Ru_127 [.int (x.1 2 0)] [.int (k.1 1 0), .int (x.1 1 0), .ref (ad (7 + 1))] (c_Di_dy l g (x.1 2 0)) hP hS rfl rfl hl.1 (Nat.le_of_ble_eq_true rfl) ⟨Nat.le_of_ble_eq_true rfl, Nat.le_of_ble_eq_true rfl⟩ d_Ru_placeTrailers_100 ⟨Nat.zero_le _, Nat.zero_le _⟩ (fun H locs hP hS => ?_)
          refine lv_imul hx hb d_Ru_placeTrailers_103 ?_
          refine lv_isub hx hb d_Ru_placeTrailers_104 ?_
          refine lv_iload hx hb d_Ru_placeTrailers_105 (lv_at hl 0 rfl) ?_
          refine lv_aload_n hx hb d_Ru_placeTrailers_107 rfl (lv_at hl 2 rfl) ?_
          refine get_po C 2 1 (by decide) (by decide) rfl q_124 hP (x.1 2 1) (u2_k (σ := x.1) (k := 0) (b := 1) (x := (((x.1 0 0) - ((k.1 1 0) * (dX (x.1 2 0)))) - ((k.1 0 1) * (dX (x.1 2 1))))) (i := 2) (j := 1) (by decide)) d_Ru_placeTrailers_108 ?_
          refine csI C v_Ru_127 [.int (x.1 2 1)] [.int (k.1 0 1), .int ((x.1 1 0) - ((k.1 1 0) * (dY (x.1 2 0)))), .ref (ad (7 + 1))] (c_Di_dy l g (x.1 2 1)) hP hS rfl rfl hl.1 (Nat.le_of_ble_eq_true rfl) ⟨Nat.le_of_ble_eq_true rfl, Nat.le_of_ble_eq_true rfl⟩ d_Ru_placeTrailers_111 ⟨Nat.zero_le _, Nat.zero_le _⟩ (fun H locs hP hS => ?_)
          refine lv_imul hx hb d_Ru_placeTrailers_114 ?_
          refine lv_isub hx hb d_Ru_placeTrailers_115 ?_
          refine put_po C 1 1 (by decide) (by decide) rfl q_121 hP hD hS d_Ru_placeTrailers_116 (fun H locs hP hD hS => ?_)
          have hP : va_P g.1 classes (wR g ad k ((u2 (u2 x.1 0 1 (((x.1 0 0) - ((k.1 1 0) * (dX (x.1 2 0)))) - ((k.1 0 1) * (dX (x.1 2 1))))) 1 1 (((x.1 1 0) - ((k.1 1 0) * (dY (x.1 2 0)))) - ((k.1 0 1) * (dY (x.1 2 1))))), x.2.1, x.2.2.1, x.2.2.2)) H := hP
          have hD : va_D A (wR g ad k ((u2 (u2 x.1 0 1 (((x.1 0 0) - ((k.1 1 0) * (dX (x.1 2 0)))) - ((k.1 0 1) * (dX (x.1 2 1))))) 1 1 (((x.1 1 0) - ((k.1 1 0) * (dY (x.1 2 0)))) - ((k.1 0 1) * (dY (x.1 2 1))))), x.2.1, x.2.2.1, x.2.2.2)) := hD
          refine lv_iinc (v := 2) (lv' := [(1, .int 2), (5, .int (k.1 0 1)), (4, .int (k.1 1 0)), (3, .ref (ad (7 + 1))), (2, .ref (ad (7 + 0))), (0, .ref (ad 0))]) hx hb d_Ru_placeTrailers_119 hl (k := 4) rfl (by decide) (by decide) rfl (fun ls hl => ?_)
          refine lv_goto (tgt := 2) hx hb d_Ru_placeTrailers_122 (by decide) ?_
          exact ih 2 ((u2 (u2 x.1 0 1 (((x.1 0 0) - ((k.1 1 0) * (dX (x.1 2 0)))) - ((k.1 0 1) * (dX (x.1 2 1))))) 1 1 (((x.1 1 0) - ((k.1 1 0) * (dY (x.1 2 0)))) - ((k.1 0 1) * (dY (x.1 2 1))))), x.2.1, x.2.2.1, x.2.2.2) _ _ _ (by omega) (by omega) (by omega) (it_back hlt h9 (rfl)) hP hD hS (lv_sub hl [0, 5] rfl)
        · have hl : lv_has ls 6 [(1, .int 2), (0, .ref (ad 0))] := hl
          refine lv_aload_n hx hb d_Ru_placeTrailers_13 rfl (lv_at hl 1 rfl) ?_
          refine va_get (D := g.1) (ci := 4) (v := .ref (ad 6)) (C := R_Ru) (T := F_Ru) (N := 8) hx hb hw i_Ru hown hE.1 hP 0 rfl rfl 0 (by decide) (hw _ q_156) (fun _ h9 => h9) rfl d_Ru_placeTrailers_14 ?_
          refine lv_iload_n hx hb d_Ru_placeTrailers_17 rfl (lv_at hl 0 rfl) ?_
          refine lv_iconst (v := 1) hx hb d_Ru_placeTrailers_18 (by decide) ?_
          refine lv_isub hx hb d_Ru_placeTrailers_19 ?_
          refine va_aldq hx hb hE.1 hP 6 4 rfl rfl (by unfold vp_in; decide) d_Ru_placeTrailers_20 ?_
          rw [show ((2 - 1) : Int32).toNatClampNeg = 1 from by decide]
          refine lv_astore_n (lv' := [(2, .ref (ad (7 + 1))), (1, .int 2), (0, .ref (ad 0))]) hx hb d_Ru_placeTrailers_21 rfl hl (by decide) rfl (fun ls hl => ?_)
          refine lv_aload_n hx hb d_Ru_placeTrailers_22 rfl (lv_at hl 2 rfl) ?_
          refine va_get (D := g.1) (ci := 4) (v := .ref (ad 6)) (C := R_Ru) (T := F_Ru) (N := 8) hx hb hw i_Ru hown hE.1 hP 0 rfl rfl 0 (by decide) (hw _ q_156) (fun _ h9 => h9) rfl d_Ru_placeTrailers_23 ?_
          refine lv_iload_n hx hb d_Ru_placeTrailers_26 rfl (lv_at hl 1 rfl) ?_
          refine va_aldq hx hb hE.1 hP 6 4 rfl rfl (by unfold vp_in; decide) d_Ru_placeTrailers_27 ?_
          rw [show (2 : Int32).toNatClampNeg = 2 from by decide]
          refine lv_astore_n (lv' := [(3, .ref (ad (7 + 2))), (2, .ref (ad (7 + 1))), (1, .int 2), (0, .ref (ad 0))]) hx hb d_Ru_placeTrailers_28 rfl hl (by decide) rfl (fun ls hl => ?_)
          refine lv_aload_n hx hb d_Ru_placeTrailers_29 rfl (lv_at hl 3 rfl) ?_
          refine va_get (D := g.1) (ci := 4) (v := .ref (ad 1)) (C := R_Ru) (T := F_Ru) (N := 8) hx hb hw i_Ru hown hE.1 hP 0 rfl rfl 7 (by decide) (hw _ q_170) (fun _ h9 => h9) rfl d_Ru_placeTrailers_30 ?_
          refine va_get (D := g.1) (ci := 5) (v := .ref (ad 2)) (C := R_Se) (T := F_Se) (N := 9) hx hb hw i_Se hown hE.1 hP 1 rfl rfl 0 (by decide) (hw _ q_65) (fun _ h9 => h9) rfl d_Ru_placeTrailers_33 ?_
          refine lv_iload_n hx hb d_Ru_placeTrailers_36 rfl (lv_at hl 2 rfl) ?_
          refine lv_iconst (v := 1) hx hb d_Ru_placeTrailers_37 (by decide) ?_
          refine lv_isub hx hb d_Ru_placeTrailers_38 ?_
          refine va_aldq hx hb hE.1 hP 2 3 rfl rfl (by unfold vp_in; decide) d_Ru_placeTrailers_39 ?_
          rw [show ((2 - 1) : Int32).toNatClampNeg = 1 from by decide]
          refine va_get (D := g.1) (ci := 6) (v := .int (k.1 1 1)) (C := R_Sh) (T := F_Sh) (N := 5) hx hb hw i_Sh hown hE.1 hP 4 rfl rfl 1 (by decide) (hw _ q_42) (fun _ h9 => h9) rfl d_Ru_placeTrailers_40 ?_
          refine lv_istore (lv' := [(4, .int (k.1 1 1)), (3, .ref (ad (7 + 2))), (2, .ref (ad (7 + 1))), (1, .int 2), (0, .ref (ad 0))]) hx hb d_Ru_placeTrailers_43 hl (by decide) rfl (fun ls hl => ?_)
          refine lv_aload_n hx hb d_Ru_placeTrailers_45 rfl (lv_at hl 4 rfl) ?_
          refine va_get (D := g.1) (ci := 4) (v := .ref (ad 1)) (C := R_Ru) (T := F_Ru) (N := 8) hx hb hw i_Ru hown hE.1 hP 0 rfl rfl 7 (by decide) (hw _ q_170) (fun _ h9 => h9) rfl d_Ru_placeTrailers_46 ?_
          refine va_get (D := g.1) (ci := 5) (v := .ref (ad 2)) (C := R_Se) (T := F_Se) (N := 9) hx hb hw i_Se hown hE.1 hP 1 rfl rfl 0 (by decide) (hw _ q_65) (fun _ h9 => h9) rfl d_Ru_placeTrailers_49 ?_
          refine lv_iload_n hx hb d_Ru_placeTrailers_52 rfl (lv_at hl 3 rfl) ?_
          refine va_aldq hx hb hE.1 hP 2 3 rfl rfl (by unfold vp_in; decide) d_Ru_placeTrailers_53 ?_
          rw [show (2 : Int32).toNatClampNeg = 2 from by decide]
          refine va_get (D := g.1) (ci := 6) (v := .int (k.1 0 2)) (C := R_Sh) (T := F_Sh) (N := 5) hx hb hw i_Sh hown hE.1 hP 5 rfl rfl 0 (by decide) (hw _ q_40) (fun _ h9 => h9) rfl d_Ru_placeTrailers_54 ?_
          refine lv_istore (lv' := [(5, .int (k.1 0 2)), (4, .int (k.1 1 1)), (3, .ref (ad (7 + 2))), (2, .ref (ad (7 + 1))), (1, .int 2), (0, .ref (ad 0))]) hx hb d_Ru_placeTrailers_57 hl (by decide) rfl (fun ls hl => ?_)
          refine lv_aload_n hx hb d_Ru_placeTrailers_59 rfl (lv_at hl 2 rfl) ?_
          refine lv_aload_n hx hb d_Ru_placeTrailers_60 rfl (lv_at hl 3 rfl) ?_
          refine get_po C 0 1 (by decide) (by decide) rfl q_118 hP (x.1 0 1) rfl d_Ru_placeTrailers_61 ?_
          refine lv_iload hx hb d_Ru_placeTrailers_64 (lv_at hl 1 rfl) ?_
          refine lv_aload_n hx hb d_Ru_placeTrailers_66 rfl (lv_at hl 3 rfl) ?_
          refine get_po C 2 1 (by decide) (by decide) rfl q_124 hP (x.1 2 1) rfl d_Ru_placeTrailers_67 ?_
          refine csI C v_Ru_123 [.int (x.1 2 1)] [.int (k.1 1 1), .int (x.1 0 1), .ref (ad (7 + 2))] (c_Di_dx l g (x.1 2 1)) hP hS rfl rfl hl.1 (Nat.le_of_ble_eq_true rfl) ⟨Nat.le_of_ble_eq_true rfl, Nat.le_of_ble_eq_true rfl⟩ d_Ru_placeTrailers_70 ⟨Nat.zero_le _, Nat.zero_le _⟩ (fun H locs hP hS => ?_)
          refine lv_imul hx hb d_Ru_placeTrailers_73 ?_
          refine lv_isub hx hb d_Ru_placeTrailers_74 ?_
          refine lv_iload hx hb d_Ru_placeTrailers_75 (lv_at hl 0 rfl) ?_
          refine lv_aload_n hx hb d_Ru_placeTrailers_77 rfl (lv_at hl 2 rfl) ?_
          refine get_po C 2 2 (by decide) (by decide) rfl q_124 hP (x.1 2 2) rfl d_Ru_placeTrailers_78 ?_
          refine csI C v_Ru_123 [.int (x.1 2 2)] [.int (k.1 0 2), .int ((x.1 0 1) - ((k.1 1 1) * (dX (x.1 2 1)))), .ref (ad (7 + 2))] (c_Di_dx l g (x.1 2 2)) hP hS rfl rfl hl.1 (Nat.le_of_ble_eq_true rfl) ⟨Nat.le_of_ble_eq_true rfl, Nat.le_of_ble_eq_true rfl⟩ d_Ru_placeTrailers_81 ⟨Nat.zero_le _, Nat.zero_le _⟩ (fun H locs hP hS => ?_)
          refine lv_imul hx hb d_Ru_placeTrailers_84 ?_
          refine lv_isub hx hb d_Ru_placeTrailers_85 ?_
          refine put_po C 0 2 (by decide) (by decide) rfl q_118 hP hD hS d_Ru_placeTrailers_86 (fun H locs hP hD hS => ?_)
          have hP : va_P g.1 classes (wR g ad k ((u2 x.1 0 2 (((x.1 0 1) - ((k.1 1 1) * (dX (x.1 2 1)))) - ((k.1 0 2) * (dX (x.1 2 2))))), x.2.1, x.2.2.1, x.2.2.2)) H := hP
          have hD : va_D A (wR g ad k ((u2 x.1 0 2 (((x.1 0 1) - ((k.1 1 1) * (dX (x.1 2 1)))) - ((k.1 0 2) * (dX (x.1 2 2))))), x.2.1, x.2.2.1, x.2.2.2)) := hD
          refine lv_aload_n hx hb d_Ru_placeTrailers_89 rfl (lv_at hl 2 rfl) ?_
          refine lv_aload_n hx hb d_Ru_placeTrailers_90 rfl (lv_at hl 3 rfl) ?_
          refine get_po C 1 1 (by decide) (by decide) rfl q_121 hP (x.1 1 1) (u2_k (σ := x.1) (k := 0) (b := 2) (x := (((x.1 0 1) - ((k.1 1 1) * (dX (x.1 2 1)))) - ((k.1 0 2) * (dX (x.1 2 2))))) (i := 1) (j := 1) (by decide)) d_Ru_placeTrailers_91 ?_
          refine lv_iload hx hb d_Ru_placeTrailers_94 (lv_at hl 1 rfl) ?_
          refine lv_aload_n hx hb d_Ru_placeTrailers_96 rfl (lv_at hl 3 rfl) ?_
          refine get_po C 2 1 (by decide) (by decide) rfl q_124 hP (x.1 2 1) (u2_k (σ := x.1) (k := 0) (b := 2) (x := (((x.1 0 1) - ((k.1 1 1) * (dX (x.1 2 1)))) - ((k.1 0 2) * (dX (x.1 2 2))))) (i := 2) (j := 1) (by decide)) d_Ru_placeTrailers_97 ?_
          refine csI C v_Ru_127 [.int (x.1 2 1)] [.int (k.1 1 1), .int (x.1 1 1), .ref (ad (7 + 2))] (c_Di_dy l g (x.1 2 1)) hP hS rfl rfl hl.1 (Nat.le_of_ble_eq_true rfl) ⟨Nat.le_of_ble_eq_true rfl, Nat.le_of_ble_eq_true rfl⟩ d_Ru_placeTrailers_100 ⟨Nat.zero_le _, Nat.zero_le _⟩ (fun H locs hP hS => ?_)
          refine lv_imul hx hb d_Ru_placeTrailers_103 ?_
          refine lv_isub hx hb d_Ru_placeTrailers_104 ?_
          refine lv_iload hx hb d_Ru_placeTrailers_105 (lv_at hl 0 rfl) ?_
          refine lv_aload_n hx hb d_Ru_placeTrailers_107 rfl (lv_at hl 2 rfl) ?_
          refine get_po C 2 2 (by decide) (by decide) rfl q_124 hP (x.1 2 2) (u2_k (σ := x.1) (k := 0) (b := 2) (x := (((x.1 0 1) - ((k.1 1 1) * (dX (x.1 2 1)))) - ((k.1 0 2) * (dX (x.1 2 2))))) (i := 2) (j := 2) (by decide)) d_Ru_placeTrailers_108 ?_
          refine csI C v_Ru_127 [.int (x.1 2 2)] [.int (k.1 0 2), .int ((x.1 1 1) - ((k.1 1 1) * (dY (x.1 2 1)))), .ref (ad (7 + 2))] (c_Di_dy l g (x.1 2 2)) hP hS rfl rfl hl.1 (Nat.le_of_ble_eq_true rfl) ⟨Nat.le_of_ble_eq_true rfl, Nat.le_of_ble_eq_true rfl⟩ d_Ru_placeTrailers_111 ⟨Nat.zero_le _, Nat.zero_le _⟩ (fun H locs hP hS => ?_)
          refine lv_imul hx hb d_Ru_placeTrailers_114 ?_
          refine lv_isub hx hb d_Ru_placeTrailers_115 ?_
          refine put_po C 1 2 (by decide) (by decide) rfl q_121 hP hD hS d_Ru_placeTrailers_116 (fun H locs hP hD hS => ?_)
          have hP : va_P g.1 classes (wR g ad k ((u2 (u2 x.1 0 2 (((x.1 0 1) - ((k.1 1 1) * (dX (x.1 2 1)))) - ((k.1 0 2) * (dX (x.1 2 2))))) 1 2 (((x.1 1 1) - ((k.1 1 1) * (dY (x.1 2 1)))) - ((k.1 0 2) * (dY (x.1 2 2))))), x.2.1, x.2.2.1, x.2.2.2)) H := hP
          have hD : va_D A (wR g ad k ((u2 (u2 x.1 0 2 (((x.1 0 1) - ((k.1 1 1) * (dX (x.1 2 1)))) - ((k.1 0 2) * (dX (x.1 2 2))))) 1 2 (((x.1 1 1) - ((k.1 1 1) * (dY (x.1 2 1)))) - ((k.1 0 2) * (dY (x.1 2 2))))), x.2.1, x.2.2.1, x.2.2.2)) := hD
          refine lv_iinc (v := 3) (lv' := [(1, .int 3), (5, .int (k.1 0 2)), (4, .int (k.1 1 1)), (3, .ref (ad (7 + 2))), (2, .ref (ad (7 + 1))), (0, .ref (ad 0))]) hx hb d_Ru_placeTrailers_119 hl (k := 4) rfl (by decide) (by decide) rfl (fun ls hl => ?_)
          refine lv_goto (tgt := 2) hx hb d_Ru_placeTrailers_122 (by decide) ?_
          exact ih 3 ((u2 (u2 x.1 0 2 (((x.1 0 1) - ((k.1 1 1) * (dX (x.1 2 1)))) - ((k.1 0 2) * (dX (x.1 2 2))))) 1 2 (((x.1 1 1) - ((k.1 1 1) * (dY (x.1 2 1)))) - ((k.1 0 2) * (dY (x.1 2 2))))), x.2.1, x.2.2.1, x.2.2.2) _ _ _ (by omega) (by omega) (by omega) (it_back hlt h9 (rfl)) hP hD hS (lv_sub hl [0, 5] rfl)
  exact lp (n + 2) 1 _ _ _ _ (Nat.le_refl _) (by omega) (by omega) h9 hP hD hS (lv_sub hl [0, 1] rfl)
set_option maxHeartbeats 4000000 in
set_option maxRecDepth 100000 in
theorem c_Ru_measureAskew (l : Launch) (g : Glob) (ad : Nat → Nat) (k : CFG) (x : RS) (n : Nat) (hn : k.2.1 0 = nI n) (h3 : n ≤ 3) : CV l g y_Ru_measureAskew b_Ru_measureAskew 3 2 42 [.ref (ad 0)] (wR g ad k x) (wR g ad k (itF msF n 1 x)) := by
  refine CV.of (by decide +kernel) (Nat.le_of_ble_eq_true rfl) ?_
  intro p e s m below meth c A Q ls C hP hD hl hret hS
  obtain ⟨hx, hb, hml, hown, hw, hE, hA⟩ := id C
  have hl : lv_has ls 3 [(0, .ref (ad 0))] := hl
  generalize h9 : itF msF n 1 x = x9 at hret
  refine lv_iconst (v := 1) hx hb d_Ru_measureAskew_0 (by decide) ?_
  refine lv_istore_n (lv' := [(1, .int 1), (0, .ref (ad 0))]) hx hb d_Ru_measureAskew_1 rfl hl (by decide) rfl (fun ls hl => ?_)
  have lp : ∀ (j : Nat) (i : Nat) (x : RS) (H : Heap) (locs : List Loc) (ls : Array Slot), 1 ≤ i → i ≤ n + 1 → n + 1 < i + j → itF (msF) n i x = x9 → va_P g.1 classes (wR g ad k x) H → va_D A (wR g ad k x) → va_S A s.heap H locs → lv_has ls 3 [(1, .int (nI i)), (0, .ref (ad 0))] → W p l e { frames := 2, cells := 0, slots := 0, locals := 42 } s m ([.ref (ad 0)] : List Value).toArray below meth c H locs 0 0 Q (F0 m 2 ls []) := by
    intro j
    induction j with
    | zero =>
      intro i x H locs ls hlo hi hj h9 hP hD hS hl
      exact absurd trivial (by omega)
    | succ j ih =>
      intro i x H locs ls hlo hi hj h9 hP hD hS hl
      refine lv_iload_n hx hb d_Ru_measureAskew_2 rfl (lv_at hl 0 rfl) ?_
      refine lv_aload_n hx hb d_Ru_measureAskew_3 rfl (lv_at hl 1 rfl) ?_
      refine va_get (D := g.1) (ci := 4) (v := .ref (ad 1)) (C := R_Ru) (T := F_Ru) (N := 8) hx hb hw i_Ru hown hE.1 hP 0 rfl rfl 7 (by decide) (hw _ q_170) (fun _ h9 => h9) rfl d_Ru_measureAskew_4 ?_
      refine va_get (D := g.1) (ci := 5) (v := .int (k.2.1 0)) (C := R_Se) (T := F_Se) (N := 9) hx hb hw i_Se hown hE.1 hP 1 rfl rfl 3 (by decide) (hw _ q_72) (fun _ h9 => h9) rfl d_Ru_measureAskew_7 ?_
      refine lv_icmp_ge (tgt := 61) hx hb d_Ru_measureAskew_10 (by decide) (fun c10_1 => ?_) (fun c10_1 => ?_)
      · have hge := ge_of_le hn h3 hi c10_1
        have h9 := (itF_end hge).symm.trans h9
        subst h9
        exact hret _ _ _ _ _ rfl hP hD hS d_Ru_measureAskew_61
      · have hlt := lt_of_nle hn h3 hi c10_1
        rcases (show i = 1 ∨ i = 2 by omega) with rfl | rfl
        · have hl : lv_has ls 3 [(1, .int 1), (0, .ref (ad 0))] := hl
          refine lv_aload_n hx hb d_Ru_measureAskew_13 rfl (lv_at hl 1 rfl) ?_
          refine lv_iload_n hx hb d_Ru_measureAskew_14 rfl (lv_at hl 0 rfl) ?_
          refine cvI C v_Ru_140 [.int 1] [] (c_Ru_askewOf_1 l g ad k x) hP hD hS [0, 1, 2, 3, 4, 5, 6, 7, 8, 9, 10, 11, 12, 13] [] [0, 1, 2, 3, 4, 5, 6, 7, 8, 9, 10, 11, 12, 13] [] (wR g ad k x) rfl rfl (by decide) (by decide) (by decide) rfl (by decide) 0 rfl rfl rfl rfl hl.1 (Nat.le_of_ble_eq_true rfl) ⟨Nat.le_of_ble_eq_true rfl, Nat.le_of_ble_eq_true rfl⟩ d_Ru_measureAskew_15 ⟨Nat.zero_le _, Nat.zero_le _⟩ (fun H locs hP hD hS => ?_)
          refine va_mabs hx hb (hml.trans hl.1.symm) hown (hw _ q_464) (hw _ q_364) (hw _ q_16) (hw _ q_365) (Nat.le_of_ble_eq_true rfl) (Nat.le_of_ble_eq_true rfl) (Nat.zero_le _) (Nat.zero_le _) d_Ru_measureAskew_18 ?_
          refine lv_istore_n (lv' := [(2, .int (absI (askF x.1 1))), (1, .int 1), (0, .ref (ad 0))]) hx hb d_Ru_measureAskew_21 rfl hl (by decide) rfl (fun ls hl => ?_)
          refine lv_aload_n hx hb d_Ru_measureAskew_22 rfl (lv_at hl 2 rfl) ?_
          refine va_get (D := g.1) (ci := 4) (v := .ref (ad 6)) (C := R_Ru) (T := F_Ru) (N := 8) hx hb hw i_Ru hown hE.1 hP 0 rfl rfl 0 (by decide) (hw _ q_156) (fun _ h9 => h9) rfl d_Ru_measureAskew_23 ?_
          refine lv_iload_n hx hb d_Ru_measureAskew_26 rfl (lv_at hl 1 rfl) ?_
          refine va_aldq hx hb hE.1 hP 6 4 rfl rfl (by unfold vp_in; decide) d_Ru_measureAskew_27 ?_
          rw [show (1 : Int32).toNatClampNeg = 1 from by decide]
          refine lv_aload_n hx hb d_Ru_measureAskew_28 rfl (lv_at hl 2 rfl) ?_
          refine va_get (D := g.1) (ci := 4) (v := .ref (ad 6)) (C := R_Ru) (T := F_Ru) (N := 8) hx hb hw i_Ru hown hE.1 hP 0 rfl rfl 0 (by decide) (hw _ q_156) (fun _ h9 => h9) rfl d_Ru_measureAskew_29 ?_
          refine lv_iload_n hx hb d_Ru_measureAskew_32 rfl (lv_at hl 1 rfl) ?_
          refine va_aldq hx hb hE.1 hP 6 4 rfl rfl (by unfold vp_in; decide) d_Ru_measureAskew_33 ?_
          rw [show (1 : Int32).toNatClampNeg = 1 from by decide]
          refine get_po C 4 1 (by decide) (by decide) rfl q_128 hP (x.1 4 1) rfl d_Ru_measureAskew_34 ?_
          refine lv_iload_n hx hb d_Ru_measureAskew_37 rfl (lv_at hl 0 rfl) ?_
          refine va_mmax hx hb (hml.trans hl.1.symm) hown (hw _ q_465) (hw _ q_377) (hw _ q_16) (hw _ q_378) (Nat.le_of_ble_eq_true rfl) (Nat.le_of_ble_eq_true rfl) (Nat.zero_le _) (Nat.zero_le _) d_Ru_measureAskew_38 ?_
          refine put_po C 4 1 (by decide) (by decide) rfl q_128 hP hD hS d_Ru_measureAskew_41 (fun H locs hP hD hS => ?_)
          have hP : va_P g.1 classes (wR g ad k ((u2 x.1 4 1 (maxI (x.1 4 1) (absI (askF x.1 1)))), x.2.1, x.2.2.1, x.2.2.2)) H := hP
          have hD : va_D A (wR g ad k ((u2 x.1 4 1 (maxI (x.1 4 1) (absI (askF x.1 1)))), x.2.1, x.2.2.1, x.2.2.2)) := hD
          refine lv_iload_n hx hb d_Ru_measureAskew_44 rfl (lv_at hl 0 rfl) ?_
          refine lv_bipush (v := 24) hx hb d_Ru_measureAskew_45 (by decide) ?_
          refine lv_icmp_le (tgt := 55) hx hb d_Ru_measureAskew_47 (by decide) (fun c47_2 => ?_) (fun c47_2 => ?_)
          · refine lv_iinc (v := 2) (lv' := [(1, .int 2), (2, .int (absI (askF x.1 1))), (0, .ref (ad 0))]) hx hb d_Ru_measureAskew_55 hl (k := 1) rfl (by decide) (by decide) rfl (fun ls hl => ?_)
            refine lv_goto (tgt := 2) hx hb d_Ru_measureAskew_58 (by decide) ?_
            exact ih 2 ((u2 x.1 4 1 (maxI (x.1 4 1) (absI (askF x.1 1)))), x.2.1, x.2.2.1, x.2.2.2) _ _ _ (by omega) (by omega) (by omega) (it_back hlt h9 (by unfold msF; rw [if_pos c47_2])) hP hD hS (lv_sub hl [0, 2] rfl)
          · refine lv_aload_n hx hb d_Ru_measureAskew_50 rfl (lv_at hl 2 rfl) ?_
            refine lv_iconst (v := 1) hx hb d_Ru_measureAskew_51 (by decide) ?_
            refine va_put (D := g.1) (ci := 4) (v := .int 1) (ty := .boolean) (C := R_Ru) (T := F_Ru) (N := 8) hx hb hw i_Ru t_Ru t_Ru_ok n_Ru hown hE.1 hP hD hS 0 rfl rfl 3 (by decide) (hw _ q_162) (fun _ h9 => h9) rfl (by decide +kernel) rfl rfl (Nat.le_of_ble_eq_true rfl) d_Ru_measureAskew_52 (fun H locs hP hD hS => ?_)
            have hP : va_P g.1 classes (wR g ad k ((u2 x.1 4 1 (maxI (x.1 4 1) (absI (askF x.1 1)))), (upd x.2.1 1 1), x.2.2.1, x.2.2.2)) H := hP
            have hD : va_D A (wR g ad k ((u2 x.1 4 1 (maxI (x.1 4 1) (absI (askF x.1 1)))), (upd x.2.1 1 1), x.2.2.1, x.2.2.2)) := hD
            refine lv_iinc (v := 2) (lv' := [(1, .int 2), (2, .int (absI (askF x.1 1))), (0, .ref (ad 0))]) hx hb d_Ru_measureAskew_55 hl (k := 1) rfl (by decide) (by decide) rfl (fun ls hl => ?_)
            refine lv_goto (tgt := 2) hx hb d_Ru_measureAskew_58 (by decide) ?_
            exact ih 2 ((u2 x.1 4 1 (maxI (x.1 4 1) (absI (askF x.1 1)))), (upd x.2.1 1 1), x.2.2.1, x.2.2.2) _ _ _ (by omega) (by omega) (by omega) (it_back hlt h9 (by unfold msF; rw [if_neg c47_2])) hP hD hS (lv_sub hl [0, 2] rfl)
        · have hl : lv_has ls 3 [(1, .int 2), (0, .ref (ad 0))] := hl
          refine lv_aload_n hx hb d_Ru_measureAskew_13 rfl (lv_at hl 1 rfl) ?_
          refine lv_iload_n hx hb d_Ru_measureAskew_14 rfl (lv_at hl 0 rfl) ?_
          refine cvI C v_Ru_140 [.int 2] [] (c_Ru_askewOf_2 l g ad k x) hP hD hS [0, 1, 2, 3, 4, 5, 6, 7, 8, 9, 10, 11, 12, 13] [] [0, 1, 2, 3, 4, 5, 6, 7, 8, 9, 10, 11, 12, 13] [] (wR g ad k x) rfl rfl (by decide) (by decide) (by decide) rfl (by decide) 0 rfl rfl rfl rfl hl.1 (Nat.le_of_ble_eq_true rfl) ⟨Nat.le_of_ble_eq_true rfl, Nat.le_of_ble_eq_true rfl⟩ d_Ru_measureAskew_15 ⟨Nat.zero_le _, Nat.zero_le _⟩ (fun H locs hP hD hS => ?_)
          refine va_mabs hx hb (hml.trans hl.1.symm) hown (hw _ q_464) (hw _ q_364) (hw _ q_16) (hw _ q_365) (Nat.le_of_ble_eq_true rfl) (Nat.le_of_ble_eq_true rfl) (Nat.zero_le _) (Nat.zero_le _) d_Ru_measureAskew_18 ?_
          refine lv_istore_n (lv' := [(2, .int (absI (askF x.1 2))), (1, .int 2), (0, .ref (ad 0))]) hx hb d_Ru_measureAskew_21 rfl hl (by decide) rfl (fun ls hl => ?_)
          refine lv_aload_n hx hb d_Ru_measureAskew_22 rfl (lv_at hl 2 rfl) ?_
          refine va_get (D := g.1) (ci := 4) (v := .ref (ad 6)) (C := R_Ru) (T := F_Ru) (N := 8) hx hb hw i_Ru hown hE.1 hP 0 rfl rfl 0 (by decide) (hw _ q_156) (fun _ h9 => h9) rfl d_Ru_measureAskew_23 ?_
          refine lv_iload_n hx hb d_Ru_measureAskew_26 rfl (lv_at hl 1 rfl) ?_
          refine va_aldq hx hb hE.1 hP 6 4 rfl rfl (by unfold vp_in; decide) d_Ru_measureAskew_27 ?_
          rw [show (2 : Int32).toNatClampNeg = 2 from by decide]
          refine lv_aload_n hx hb d_Ru_measureAskew_28 rfl (lv_at hl 2 rfl) ?_
          refine va_get (D := g.1) (ci := 4) (v := .ref (ad 6)) (C := R_Ru) (T := F_Ru) (N := 8) hx hb hw i_Ru hown hE.1 hP 0 rfl rfl 0 (by decide) (hw _ q_156) (fun _ h9 => h9) rfl d_Ru_measureAskew_29 ?_
          refine lv_iload_n hx hb d_Ru_measureAskew_32 rfl (lv_at hl 1 rfl) ?_
          refine va_aldq hx hb hE.1 hP 6 4 rfl rfl (by unfold vp_in; decide) d_Ru_measureAskew_33 ?_
          rw [show (2 : Int32).toNatClampNeg = 2 from by decide]
          refine get_po C 4 2 (by decide) (by decide) rfl q_128 hP (x.1 4 2) rfl d_Ru_measureAskew_34 ?_
          refine lv_iload_n hx hb d_Ru_measureAskew_37 rfl (lv_at hl 0 rfl) ?_
          refine va_mmax hx hb (hml.trans hl.1.symm) hown (hw _ q_465) (hw _ q_377) (hw _ q_16) (hw _ q_378) (Nat.le_of_ble_eq_true rfl) (Nat.le_of_ble_eq_true rfl) (Nat.zero_le _) (Nat.zero_le _) d_Ru_measureAskew_38 ?_
          refine put_po C 4 2 (by decide) (by decide) rfl q_128 hP hD hS d_Ru_measureAskew_41 (fun H locs hP hD hS => ?_)
          have hP : va_P g.1 classes (wR g ad k ((u2 x.1 4 2 (maxI (x.1 4 2) (absI (askF x.1 2)))), x.2.1, x.2.2.1, x.2.2.2)) H := hP
          have hD : va_D A (wR g ad k ((u2 x.1 4 2 (maxI (x.1 4 2) (absI (askF x.1 2)))), x.2.1, x.2.2.1, x.2.2.2)) := hD
          refine lv_iload_n hx hb d_Ru_measureAskew_44 rfl (lv_at hl 0 rfl) ?_
          refine lv_bipush (v := 24) hx hb d_Ru_measureAskew_45 (by decide) ?_
          refine lv_icmp_le (tgt := 55) hx hb d_Ru_measureAskew_47 (by decide) (fun c47_3 => ?_) (fun c47_3 => ?_)
          · refine lv_iinc (v := 3) (lv' := [(1, .int 3), (2, .int (absI (askF x.1 2))), (0, .ref (ad 0))]) hx hb d_Ru_measureAskew_55 hl (k := 1) rfl (by decide) (by decide) rfl (fun ls hl => ?_)
            refine lv_goto (tgt := 2) hx hb d_Ru_measureAskew_58 (by decide) ?_
            exact ih 3 ((u2 x.1 4 2 (maxI (x.1 4 2) (absI (askF x.1 2)))), x.2.1, x.2.2.1, x.2.2.2) _ _ _ (by omega) (by omega) (by omega) (it_back hlt h9 (by unfold msF; rw [if_pos c47_3])) hP hD hS (lv_sub hl [0, 2] rfl)
          · refine lv_aload_n hx hb d_Ru_measureAskew_50 rfl (lv_at hl 2 rfl) ?_
            refine lv_iconst (v := 1) hx hb d_Ru_measureAskew_51 (by decide) ?_
            refine va_put (D := g.1) (ci := 4) (v := .int 1) (ty := .boolean) (C := R_Ru) (T := F_Ru) (N := 8) hx hb hw i_Ru t_Ru t_Ru_ok n_Ru hown hE.1 hP hD hS 0 rfl rfl 3 (by decide) (hw _ q_162) (fun _ h9 => h9) rfl (by decide +kernel) rfl rfl (Nat.le_of_ble_eq_true rfl) d_Ru_measureAskew_52 (fun H locs hP hD hS => ?_)
            have hP : va_P g.1 classes (wR g ad k ((u2 x.1 4 2 (maxI (x.1 4 2) (absI (askF x.1 2)))), (upd x.2.1 1 1), x.2.2.1, x.2.2.2)) H := hP
            have hD : va_D A (wR g ad k ((u2 x.1 4 2 (maxI (x.1 4 2) (absI (askF x.1 2)))), (upd x.2.1 1 1), x.2.2.1, x.2.2.2)) := hD
            refine lv_iinc (v := 3) (lv' := [(1, .int 3), (2, .int (absI (askF x.1 2))), (0, .ref (ad 0))]) hx hb d_Ru_measureAskew_55 hl (k := 1) rfl (by decide) (by decide) rfl (fun ls hl => ?_)
            refine lv_goto (tgt := 2) hx hb d_Ru_measureAskew_58 (by decide) ?_
            exact ih 3 ((u2 x.1 4 2 (maxI (x.1 4 2) (absI (askF x.1 2)))), (upd x.2.1 1 1), x.2.2.1, x.2.2.2) _ _ _ (by omega) (by omega) (by omega) (it_back hlt h9 (by unfold msF; rw [if_neg c47_3])) hP hD hS (lv_sub hl [0, 2] rfl)
  exact lp (n + 2) 1 _ _ _ _ (Nat.le_refl _) (by omega) (by omega) h9 hP hD hS (lv_sub hl [0, 1] rfl)
end
section
/-! poles, looking round, moving, beginning, walking, following -/
def hitF (k : CFG) (po : St2) (b p : Nat) : Int32 := insI k.1 b (((k.2.2.1 p - po 0 b).toInt64 * (dX (po 2 b)).toInt64) + ((k.2.2.2 p - po 1 b).toInt64 * (dY (po 2 b)).toInt64)) (((k.2.2.2 p - po 1 b).toInt64 * (dX (po 2 b)).toInt64) - ((k.2.2.1 p - po 0 b).toInt64 * (dY (po 2 b)).toInt64))
def firstHit (h : Nat → Int32) : Nat → Nat → Option Nat
  | 0, _ => none
  | n + 1, p => if h p = 0 then firstHit h n (p + 1) else some p
theorem fh_end {h : Nat → Int32} {n q : Nat} {o9 : Option Nat} (hq : n ≤ q) (h9 : firstHit h (n - q) q = o9) : o9 = none := by
  rw [Nat.sub_eq_zero_of_le hq] at h9
  exact h9.symm
theorem fh_back {h : Nat → Int32} {n q : Nat} {o9 : Option Nat} (hq : q < n) (h9 : firstHit h (n - q) q = o9) (c : h q = 0) : firstHit h (n - (q + 1)) (q + 1) = o9 := by
  rw [show n - q = (n - (q + 1)) + 1 by omega, firstHit, if_pos c] at h9
  exact h9
theorem fh_hit {h : Nat → Int32} {n q : Nat} {o9 : Option Nat} (hq : q < n) (h9 : firstHit h (n - q) q = o9) (c : ¬ h q = 0) : o9 = some q := by
  rw [show n - q = (n - (q + 1)) + 1 by omega, firstHit, if_neg c] at h9
  exact h9.symm
def polR (o : Option Nat) (b : Nat) (x : RS) : RS := match o with
  | none => x
  | some p => (x.1, upd (upd (upd x.2.1 2 (x.2.1 0)) 3 (nI b)) 4 (nI p), x.2.2)
def polF (k : CFG) (np b : Nat) (x : RS) : RS := polR (firstHit (hitF k x.1 b) np 0) b x
def cvF (k : CFG) (b : Nat) (x : RS) : RS := (x.1, x.2.1, coverF k.1 x.1 b x.2.2)
def lkF (k : CFG) (np b : Nat) (x : RS) : RS := if x.2.1 2 = -1 then polF k np b (cvF k b x) else cvF k b x
def mv0 (turn way : Int32) (x : RS) : RS := (u2 (u2 (u2 x.1 0 0 (x.1 0 0 + way * dX (x.1 2 0))) 1 0 (x.1 1 0 + way * dY (x.1 2 0))) 2 0 ((x.1 2 0 + turn) &&& 63), x.2)
def mk1 (x : RS) : RS := (x.1, upd x.2.1 0 (x.2.1 0 + 1), x.2.2)
def mvG (k : CFG) (n : Nat) (x : RS) : RS := mk1 (itF (plF k) n 1 x)
def moveF (k : CFG) (n : Nat) (turn way : Int32) (x : RS) : RS := mvG k n (itF (swF k way) n 1 (mv0 turn way x))
def bgF (k : CFG) (b : Nat) (x : RS) : RS := (u2 (u2 (u2 x.1 2 b (k.2.1 4)) 3 b 0) 4 b 0, x.2)
def bg0 (x : RS) : RS := (x.1, upd (upd (upd (upd (upd x.2.1 0 0) 1 0) 2 (-1)) 3 (-1)) 4 (-1), 0, fun _ => 0)
def bg1 (k : CFG) (x : RS) : RS := (u2 (u2 x.1 0 0 (k.2.1 2 * 4096)) 1 0 (k.2.1 3 * 4096), x.2)
def begG (k : CFG) (n np : Nat) (x : RS) : RS := itF (lkF k np) n 0 (itF (plF k) n 1 (bg1 k x))
def begF (k : CFG) (n np : Nat) (x : RS) : RS := begG k n np (itF (bgF k) n 0 (bg0 x))
/-- one step: move, measure, look round -/
def stpF (k : CFG) (n np : Nat) (turn way : Int32) (x : RS) : RS := itF (lkF k np) n 0 (itF msF n 1 (moveF k n turn way x))
def whileF {α : Type} (stop : α → Bool) (f : α → α) : Nat → α → α
  | 0, x => x
  | j + 1, x => if stop x = true then x else whileF stop f j (f x)
def stopR (x : RS) : Bool := !(x.2.1 1 == 0) || decide (4000 ≤ x.2.1 0)
theorem stop_t1 {x : RS} (c : ¬ x.2.1 1 = 0) : stopR x = true := by simp [stopR, c]
theorem stop_t2 {x : RS} (c : 4000 ≤ x.2.1 0) : stopR x = true := by simp [stopR, c]
theorem stop_f {x : RS} (c1 : x.2.1 1 = 0) (c2 : ¬ 4000 ≤ x.2.1 0) : stopR x = false := by simp [stopR, c1, c2]
def sgnI (fw : Int32) : Int32 := if fw = 0 then -1 else 1
def walkF (k : CFG) (n np : Nat) (turn : Int32) (N : Nat) (fw : Int32) (x : RS) : RS := whileF stopR (stpF k n np (sgnI fw * turn) (sgnI fw * k.2.1 5)) N x
theorem wh_end {α : Type} {stop : α → Bool} {f : α → α} {N q : Nat} {x x9 : α} (h : N ≤ q) (h9 : whileF stop f (N - q) x = x9) : x = x9 := by
  rw [Nat.sub_eq_zero_of_le h] at h9
  exact h9
theorem wh_stop {α : Type} {stop : α → Bool} {f : α → α} {N q : Nat} {x x9 : α} (c : stop x = true) (h9 : whileF stop f (N - q) x = x9) : x = x9 := by
  cases e : N - q with
  | zero => rw [e] at h9; exact h9
  | succ j => rw [e, whileF, if_pos c] at h9; exact h9
theorem wh_back {α : Type} {stop : α → Bool} {f : α → α} {N q : Nat} {x x9 x' : α} (h : q < N) (c : stop x = false) (h9 : whileF stop f (N - q) x = x9) (e : f x = x') : whileF stop f (N - (q + 1)) x' = x9 := by
  rw [show N - q = (N - (q + 1)) + 1 by omega, whileF, if_neg (by rw [c]; decide)] at h9
  rw [← e]
  exact h9
theorem lt_of_nle' {i n : Nat} {a : Int32} (M : Nat) (hn : a = nI n) (h3 : n ≤ M) (hM : M < 2 ^ 30) (hi : i ≤ n + 1) (c : ¬ a ≤ nI i) : i < n := by
  rcases Nat.lt_or_ge i n with q | q
  · exact q
  · exact absurd (by rw [hn]; exact nI_le q (by omega)) c
theorem ge_of_le' {i n : Nat} {a : Int32} (M : Nat) (hn : a = nI n) (h3 : n ≤ M) (hM : M < 2 ^ 30) (hi : i ≤ n + 1) (c : a ≤ nI i) : n ≤ i := by
  rw [hn] at c
  exact (nI_leI (by omega) (by omega)).mp c

set_option maxHeartbeats 4000000 in
set_option maxRecDepth 100000 in
theorem c_Ru_lookForPoles_0 (l : Launch) (g : Glob) (ad : Nat → Nat) (k : CFG) (x : RS) (np : Nat) (hp : k.2.1 1 = nI np) (h20 : np ≤ 20) : CV l g y_Ru_lookForPoles b_Ru_lookForPoles 13 1 24 [.ref (ad 0), .int 0] (wR g ad k x) (wR g ad k (polF k np 0 x)) := by
  refine CV.of (by decide +kernel) (Nat.le_of_ble_eq_true rfl) ?_
  intro p e s m below meth c A Q ls C hP hD hl hret hS
  obtain ⟨hx, hb, hml, hown, hw, hE, hA⟩ := id C
  have hl : lv_has ls 13 [(0, .ref (ad 0)), (1, .int 0)] := hl
  unfold polF at hret
  generalize h9 : firstHit (hitF k x.1 0) np 0 = o9 at hret
  refine lv_aload_n hx hb d_Ru_lookForPoles_0 rfl (lv_at hl 0 rfl) ?_
  refine va_get (D := g.1) (ci := 4) (v := .ref (ad 1)) (C := R_Ru) (T := F_Ru) (N := 8) hx hb hw i_Ru hown hE.1 hP 0 rfl rfl 7 (by decide) (hw _ q_170) (fun _ h9 => h9) rfl d_Ru_lookForPoles_1 ?_
  refine va_get (D := g.1) (ci := 5) (v := .ref (ad 2)) (C := R_Se) (T := F_Se) (N := 9) hx hb hw i_Se hown hE.1 hP 1 rfl rfl 0 (by decide) (hw _ q_65) (fun _ h9 => h9) rfl d_Ru_lookForPoles_4 ?_
  refine lv_iload_n hx hb d_Ru_lookForPoles_7 rfl (lv_at hl 1 rfl) ?_
  refine va_aldq hx hb hE.1 hP 2 3 rfl rfl (by unfold vp_in; decide) d_Ru_lookForPoles_8 ?_
  rw [show (0 : Int32).toNatClampNeg = 0 from by decide]
  refine lv_astore_n (lv' := [(2, .ref (ad (3 + 0))), (0, .ref (ad 0)), (1, .int 0)]) hx hb d_Ru_lookForPoles_9 rfl hl (by decide) rfl (fun ls hl => ?_)
  refine lv_aload_n hx hb d_Ru_lookForPoles_10 rfl (lv_at hl 1 rfl) ?_
  refine va_get (D := g.1) (ci := 4) (v := .ref (ad 6)) (C := R_Ru) (T := F_Ru) (N := 8) hx hb hw i_Ru hown hE.1 hP 0 rfl rfl 0 (by decide) (hw _ q_156) (fun _ h9 => h9) rfl d_Ru_lookForPoles_11 ?_
  refine lv_iload_n hx hb d_Ru_lookForPoles_14 rfl (lv_at hl 2 rfl) ?_
  refine va_aldq hx hb hE.1 hP 6 4 rfl rfl (by unfold vp_in; decide) d_Ru_lookForPoles_15 ?_
  rw [show (0 : Int32).toNatClampNeg = 0 from by decide]
  refine lv_astore_n (lv' := [(3, .ref (ad (7 + 0))), (2, .ref (ad (3 + 0))), (0, .ref (ad 0)), (1, .int 0)]) hx hb d_Ru_lookForPoles_16 rfl hl (by decide) rfl (fun ls hl => ?_)
  refine lv_aload_n hx hb d_Ru_lookForPoles_17 rfl (lv_at hl 0 rfl) ?_
  refine get_po C 2 0 (by decide) (by decide) rfl q_124 hP (x.1 2 0) rfl d_Ru_lookForPoles_18 ?_
  refine csI C v_Ru_123 [.int (x.1 2 0)] [] (c_Di_dx l g (x.1 2 0)) hP hS rfl rfl hl.1 (Nat.le_of_ble_eq_true rfl) ⟨Nat.le_of_ble_eq_true rfl, Nat.le_of_ble_eq_true rfl⟩ d_Ru_lookForPoles_21 ⟨Nat.zero_le _, Nat.zero_le _⟩ (fun H locs hP hS => ?_)
  refine lv_i2l hx hb d_Ru_lookForPoles_24 rfl ?_
  refine lv_lstore (lv' := [(4, .long ((dX (x.1 2 0)).toInt64)), (3, .ref (ad (7 + 0))), (2, .ref (ad (3 + 0))), (0, .ref (ad 0)), (1, .int 0)]) hx hb d_Ru_lookForPoles_25 hl (by decide) rfl (fun ls hl => ?_)
  refine lv_aload_n hx hb d_Ru_lookForPoles_27 rfl (lv_at hl 1 rfl) ?_
  refine get_po C 2 0 (by decide) (by decide) rfl q_124 hP (x.1 2 0) rfl d_Ru_lookForPoles_28 ?_
  refine csI C v_Ru_127 [.int (x.1 2 0)] [] (c_Di_dy l g (x.1 2 0)) hP hS rfl rfl hl.1 (Nat.le_of_ble_eq_true rfl) ⟨Nat.le_of_ble_eq_true rfl, Nat.le_of_ble_eq_true rfl⟩ d_Ru_lookForPoles_31 ⟨Nat.zero_le _, Nat.zero_le _⟩ (fun H locs hP hS => ?_)
  refine lv_i2l hx hb d_Ru_lookForPoles_34 rfl ?_
  refine lv_lstore (lv' := [(6, .long ((dY (x.1 2 0)).toInt64)), (4, .long ((dX (x.1 2 0)).toInt64)), (3, .ref (ad (7 + 0))), (2, .ref (ad (3 + 0))), (0, .ref (ad 0)), (1, .int 0)]) hx hb d_Ru_lookForPoles_35 hl (by decide) rfl (fun ls hl => ?_)
  refine lv_iconst (v := 0) hx hb d_Ru_lookForPoles_37 (by decide) ?_
  refine lv_istore (lv' := [(8, .int 0), (6, .long ((dY (x.1 2 0)).toInt64)), (4, .long ((dX (x.1 2 0)).toInt64)), (3, .ref (ad (7 + 0))), (2, .ref (ad (3 + 0))), (0, .ref (ad 0)), (1, .int 0)]) hx hb d_Ru_lookForPoles_38 hl (by decide) rfl (fun ls hl => ?_)
  have lp : ∀ (j : Nat) (q : Nat) (H : Heap) (locs : List Loc) (ls : Array Slot), q ≤ np → np < q + j → firstHit (hitF k x.1 0) (np - q) q = o9 → va_P g.1 classes (wR g ad k x) H → va_D A (wR g ad k x) → va_S A s.heap H locs → lv_has ls 13 [(8, .int (nI q)), (6, .long ((dY (x.1 2 0)).toInt64)), (4, .long ((dX (x.1 2 0)).toInt64)), (3, .ref (ad (7 + 0))), (2, .ref (ad (3 + 0))), (1, .int 0), (0, .ref (ad 0))] → W p l e { frames := 1, cells := 0, slots := 0, locals := 24 } s m ([.ref (ad 0), .int 0] : List Value).toArray below meth c H locs 0 0 Q (F0 m 40 ls []) := by
    intro j
    induction j with
    | zero =>
      intro q H locs ls hq hj h9 hP hD hS hl
      exact absurd trivial (by omega)
    | succ j ih =>
      intro q H locs ls hq hj h9 hP hD hS hl
      refine lv_iload hx hb d_Ru_lookForPoles_40 (lv_at hl 0 rfl) ?_
      refine lv_aload_n hx hb d_Ru_lookForPoles_42 rfl (lv_at hl 6 rfl) ?_
      refine va_get (D := g.1) (ci := 4) (v := .ref (ad 1)) (C := R_Ru) (T := F_Ru) (N := 8) hx hb hw i_Ru hown hE.1 hP 0 rfl rfl 7 (by decide) (hw _ q_170) (fun _ h9 => h9) rfl d_Ru_lookForPoles_43 ?_
      refine va_get (D := g.1) (ci := 5) (v := .int (k.2.1 1)) (C := R_Se) (T := F_Se) (N := 9) hx hb hw i_Se hown hE.1 hP 1 rfl rfl 4 (by decide) (hw _ q_75) (fun _ h9 => h9) rfl d_Ru_lookForPoles_46 ?_
      refine lv_icmp_ge (tgt := 143) hx hb d_Ru_lookForPoles_49 (by decide) (fun c49_1 => ?_) (fun c49_1 => ?_)
      · have h9 := fh_end (ge_of_le' 20 hp h20 (by decide) (by omega) c49_1) h9
        subst h9
        exact hret _ _ _ _ _ rfl hP hD hS d_Ru_lookForPoles_143
      · have hlt := lt_of_nle' 20 hp h20 (by decide) (by omega) c49_1
        refine lv_aload_n hx hb d_Ru_lookForPoles_52 rfl (lv_at hl 6 rfl) ?_
        refine va_get (D := g.1) (ci := 4) (v := .ref (ad 1)) (C := R_Ru) (T := F_Ru) (N := 8) hx hb hw i_Ru hown hE.1 hP 0 rfl rfl 7 (by decide) (hw _ q_170) (fun _ h9 => h9) rfl d_Ru_lookForPoles_53 ?_
        refine va_get (D := g.1) (ci := 5) (v := .ref (ad 12)) (C := R_Se) (T := F_Se) (N := 9) hx hb hw i_Se hown hE.1 hP 1 rfl rfl 1 (by decide) (hw _ q_68) (fun _ h9 => h9) rfl d_Ru_lookForPoles_56 ?_
        refine lv_iload hx hb d_Ru_lookForPoles_59 (lv_at hl 0 rfl) ?_
        refine va_iald hx hb hE.1 hP 12 0 rfl rfl (vp_in_nI (show q < 20 by omega) (by omega)) d_Ru_lookForPoles_61 ?_
        rw [nI_clamp (by omega)]
        refine lv_aload_n hx hb d_Ru_lookForPoles_62 rfl (lv_at hl 3 rfl) ?_
        refine get_po C 0 0 (by decide) (by decide) rfl q_118 hP (x.1 0 0) rfl d_Ru_lookForPoles_63 ?_
        refine lv_isub hx hb d_Ru_lookForPoles_66 ?_
        refine lv_i2l hx hb d_Ru_lookForPoles_67 rfl ?_
        refine lv_lstore (lv' := [(9, .long (((k.2.2.1 q) - (x.1 0 0)).toInt64)), (8, .int (nI q)), (6, .long ((dY (x.1 2 0)).toInt64)), (4, .long ((dX (x.1 2 0)).toInt64)), (3, .ref (ad (7 + 0))), (2, .ref (ad (3 + 0))), (1, .int 0), (0, .ref (ad 0))]) hx hb d_Ru_lookForPoles_68 hl (by decide) rfl (fun ls hl => ?_)
        refine lv_aload_n hx hb d_Ru_lookForPoles_70 rfl (lv_at hl 7 rfl) ?_
        refine va_get (D := g.1) (ci := 4) (v := .ref (ad 1)) (C := R_Ru) (T := F_Ru) (N := 8) hx hb hw i_Ru hown hE.1 hP 0 rfl rfl 7 (by decide) (hw _ q_170) (fun _ h9 => h9) rfl d_Ru_lookForPoles_71 ?_
        refine va_get (D := g.1) (ci := 5) (v := .ref (ad 13)) (C := R_Se) (T := F_Se) (N := 9) hx hb hw i_Se hown hE.1 hP 1 rfl rfl 2 (by decide) (hw _ q_71) (fun _ h9 => h9) rfl d_Ru_lookForPoles_74 ?_
        refine lv_iload hx hb d_Ru_lookForPoles_77 (lv_at hl 1 rfl) ?_
        refine va_iald hx hb hE.1 hP 13 0 rfl rfl (vp_in_nI (show q < 20 by omega) (by omega)) d_Ru_lookForPoles_79 ?_
        rw [nI_clamp (by omega)]
        refine lv_aload_n hx hb d_Ru_lookForPoles_80 rfl (lv_at hl 4 rfl) ?_
        refine get_po C 1 0 (by decide) (by decide) rfl q_121 hP (x.1 1 0) rfl d_Ru_lookForPoles_81 ?_
        refine lv_isub hx hb d_Ru_lookForPoles_84 ?_
        refine lv_i2l hx hb d_Ru_lookForPoles_85 rfl ?_
        refine lv_lstore (lv' := [(11, .long (((k.2.2.2 q) - (x.1 1 0)).toInt64)), (9, .long (((k.2.2.1 q) - (x.1 0 0)).toInt64)), (8, .int (nI q)), (6, .long ((dY (x.1 2 0)).toInt64)), (4, .long ((dX (x.1 2 0)).toInt64)), (3, .ref (ad (7 + 0))), (2, .ref (ad (3 + 0))), (1, .int 0), (0, .ref (ad 0))]) hx hb d_Ru_lookForPoles_86 hl (by decide) rfl (fun ls hl => ?_)
        refine lv_aload_n hx hb d_Ru_lookForPoles_88 rfl (lv_at hl 6 rfl) ?_
        refine lv_lload hx hb d_Ru_lookForPoles_89 (lv_at hl 1 rfl) ?_
        refine lv_lload hx hb d_Ru_lookForPoles_91 (lv_at hl 4 rfl) ?_
        refine lv_lmul hx hb d_Ru_lookForPoles_93 ?_
        refine lv_lload hx hb d_Ru_lookForPoles_94 (lv_at hl 0 rfl) ?_
        refine lv_lload hx hb d_Ru_lookForPoles_96 (lv_at hl 3 rfl) ?_
        refine lv_lmul hx hb d_Ru_lookForPoles_98 ?_
        refine lv_ladd hx hb d_Ru_lookForPoles_99 ?_
        refine lv_lload hx hb d_Ru_lookForPoles_100 (lv_at hl 0 rfl) ?_
        refine lv_lload hx hb d_Ru_lookForPoles_102 (lv_at hl 4 rfl) ?_
        refine lv_lmul hx hb d_Ru_lookForPoles_104 ?_
        refine lv_lload hx hb d_Ru_lookForPoles_105 (lv_at hl 1 rfl) ?_
        refine lv_lload hx hb d_Ru_lookForPoles_107 (lv_at hl 3 rfl) ?_
        refine lv_lmul hx hb d_Ru_lookForPoles_109 ?_
        refine lv_lsub hx hb d_Ru_lookForPoles_110 ?_
        refine cvI C v_Ru_179 [.long (((((k.2.2.1 q) - (x.1 0 0)).toInt64) * ((dX (x.1 2 0)).toInt64)) + ((((k.2.2.2 q) - (x.1 1 0)).toInt64) * ((dY (x.1 2 0)).toInt64))), .long (((((k.2.2.2 q) - (x.1 1 0)).toInt64) * ((dX (x.1 2 0)).toInt64)) - ((((k.2.2.1 q) - (x.1 0 0)).toInt64) * ((dY (x.1 2 0)).toInt64)))] [] (c_Sh_holds l g (ad 3) k.1 0 (((((k.2.2.1 q) - (x.1 0 0)).toInt64) * ((dX (x.1 2 0)).toInt64)) + ((((k.2.2.2 q) - (x.1 1 0)).toInt64) * ((dY (x.1 2 0)).toInt64))) (((((k.2.2.2 q) - (x.1 1 0)).toInt64) * ((dX (x.1 2 0)).toInt64)) - ((((k.2.2.1 q) - (x.1 0 0)).toInt64) * ((dY (x.1 2 0)).toInt64)))) hP hD hS [3] [0, 1, 2, 4, 5, 6, 7, 8, 9, 10, 11, 12, 13] [0, 1, 2, 13, 3, 4, 5, 6, 7, 8, 9, 10, 11, 12] [((ad 0), .inr (4, [.ref (ad 6), .ref (ad 10), .int (x.2.1 0), .int (x.2.1 1), .int (x.2.1 2), .int (x.2.1 3), .int (x.2.1 4), .ref (ad 1)])), ((ad 1), .inr (5, [.ref (ad 2), .ref (ad 12), .ref (ad 13), .int (k.2.1 0), .int (k.2.1 1), .int (k.2.1 2), .int (k.2.1 3), .int (k.2.1 4), .int (k.2.1 5)])), ((ad 2), .inl (g.2.1 3, 3, .inr (.inr (.inr (.inr (fun j => some (ad (3 + j)))))))), ((ad 4), .inr (6, [.int (k.1 0 1), .int (k.1 1 1), .int (k.1 2 1), .int (k.1 3 1), .int (k.1 4 1)])), ((ad 5), .inr (6, [.int (k.1 0 2), .int (k.1 1 2), .int (k.1 2 2), .int (k.1 3 2), .int (k.1 4 2)])), ((ad 6), .inl (g.2.1 4, 3, .inr (.inr (.inr (.inr (fun j => some (ad (7 + j)))))))), ((ad 7), .inr (3, [.int (x.1 0 0), .int (x.1 1 0), .int (x.1 2 0), .int (x.1 3 0), .int (x.1 4 0)])), ((ad 8), .inr (3, [.int (x.1 0 1), .int (x.1 1 1), .int (x.1 2 1), .int (x.1 3 1), .int (x.1 4 1)])), ((ad 9), .inr (3, [.int (x.1 0 2), .int (x.1 1 2), .int (x.1 2 2), .int (x.1 3 2), .int (x.1 4 2)])), ((ad 10), .inr (1, [.ref (ad 11), .int x.2.2.1])), ((ad 11), .inl (g.2.1 1, 64, .inr (.inl x.2.2.2))), ((ad 12), .inl (g.2.1 0, 20, .inl k.2.2.1)), ((ad 13), .inl (g.2.1 0, 20, .inl k.2.2.2))] (wR g ad k x) rfl rfl (by decide) (by decide) (by decide) rfl (by decide) 0 rfl rfl rfl rfl hl.1 (Nat.le_of_ble_eq_true rfl) ⟨Nat.le_of_ble_eq_true rfl, Nat.le_of_ble_eq_true rfl⟩ d_Ru_lookForPoles_111 ⟨Nat.zero_le _, Nat.zero_le _⟩ (fun H locs hP hD hS => ?_)
        refine lv_if_eq (tgt := 137) hx hb d_Ru_lookForPoles_114 (by decide) (fun c114_2 => ?_) (fun c114_2 => ?_)
        · refine lv_iinc (v := (nI (q + 1))) (lv' := [(8, .int (nI (q + 1))), (11, .long (((k.2.2.2 q) - (x.1 1 0)).toInt64)), (9, .long (((k.2.2.1 q) - (x.1 0 0)).toInt64)), (6, .long ((dY (x.1 2 0)).toInt64)), (4, .long ((dX (x.1 2 0)).toInt64)), (3, .ref (ad (7 + 0))), (2, .ref (ad (3 + 0))), (1, .int 0), (0, .ref (ad 0))]) hx hb d_Ru_lookForPoles_137 hl (k := 2) rfl (nI_1 q) (by decide) rfl (fun ls hl => ?_)
          refine lv_goto (tgt := 40) hx hb d_Ru_lookForPoles_140 (by decide) ?_
          exact ih (q + 1) _ _ _ (by omega) (by omega) (fh_back hlt h9 c114_2) hP hD hS (lv_sub hl [0, 3, 4, 5, 6, 7, 8] rfl)
        · refine lv_aload_n hx hb d_Ru_lookForPoles_117 rfl (lv_at hl 8 rfl) ?_
          refine lv_aload_n hx hb d_Ru_lookForPoles_118 rfl (lv_at hl 8 rfl) ?_
          refine va_get (D := g.1) (ci := 4) (v := .int (x.2.1 0)) (C := R_Ru) (T := F_Ru) (N := 8) hx hb hw i_Ru hown hE.1 hP 0 rfl rfl 2 (by decide) (hw _ q_160) (fun _ h9 => h9) rfl d_Ru_lookForPoles_119 ?_
          refine va_put (D := g.1) (ci := 4) (v := .int (x.2.1 0)) (ty := .int) (C := R_Ru) (T := F_Ru) (N := 8) hx hb hw i_Ru t_Ru t_Ru_ok n_Ru hown hE.1 hP hD hS 0 rfl rfl 4 (by decide) (hw _ q_164) (fun _ h9 => h9) rfl (by decide +kernel) rfl rfl (Nat.le_of_ble_eq_true rfl) d_Ru_lookForPoles_122 (fun H locs hP hD hS => ?_)
          have hP : va_P g.1 classes (wR g ad k (x.1, (upd x.2.1 2 (x.2.1 0)), x.2.2.1, x.2.2.2)) H := hP
          have hD : va_D A (wR g ad k (x.1, (upd x.2.1 2 (x.2.1 0)), x.2.2.1, x.2.2.2)) := hD
          refine lv_aload_n hx hb d_Ru_lookForPoles_125 rfl (lv_at hl 8 rfl) ?_
          refine lv_iload_n hx hb d_Ru_lookForPoles_126 rfl (lv_at hl 7 rfl) ?_
          refine va_put (D := g.1) (ci := 4) (v := .int 0) (ty := .int) (C := R_Ru) (T := F_Ru) (N := 8) hx hb hw i_Ru t_Ru t_Ru_ok n_Ru hown hE.1 hP hD hS 0 rfl rfl 5 (by decide) (hw _ q_166) (fun _ h9 => h9) rfl (by decide +kernel) rfl rfl (Nat.le_of_ble_eq_true rfl) d_Ru_lookForPoles_127 (fun H locs hP hD hS => ?_)
          have hP : va_P g.1 classes (wR g ad k (x.1, (upd (upd x.2.1 2 (x.2.1 0)) 3 0), x.2.2.1, x.2.2.2)) H := hP
          have hD : va_D A (wR g ad k (x.1, (upd (upd x.2.1 2 (x.2.1 0)) 3 0), x.2.2.1, x.2.2.2)) := hD
          refine lv_aload_n hx hb d_Ru_lookForPoles_130 rfl (lv_at hl 8 rfl) ?_
          refine lv_iload hx hb d_Ru_lookForPoles_131 (lv_at hl 2 rfl) ?_
          refine va_put (D := g.1) (ci := 4) (v := .int (nI q)) (ty := .int) (C := R_Ru) (T := F_Ru) (N := 8) hx hb hw i_Ru t_Ru t_Ru_ok n_Ru hown hE.1 hP hD hS 0 rfl rfl 6 (by decide) (hw _ q_168) (fun _ h9 => h9) rfl (by decide +kernel) rfl rfl (Nat.le_of_ble_eq_true rfl) d_Ru_lookForPoles_133 (fun H locs hP hD hS => ?_)
          have hP : va_P g.1 classes (wR g ad k (x.1, (upd (upd (upd x.2.1 2 (x.2.1 0)) 3 0) 4 (nI q)), x.2.2.1, x.2.2.2)) H := hP
          have hD : va_D A (wR g ad k (x.1, (upd (upd (upd x.2.1 2 (x.2.1 0)) 3 0) 4 (nI q)), x.2.2.1, x.2.2.2)) := hD
          have h9 := fh_hit hlt h9 c114_2
          subst h9
          exact hret _ _ _ _ _ rfl hP hD hS d_Ru_lookForPoles_136
  exact lp (np + 1) 0 _ _ _ (by omega) (by omega) h9 hP hD hS (lv_sub hl [0, 1, 2, 3, 4, 6, 5] rfl)
set_option maxHeartbeats 4000000 in
set_option maxRecDepth 100000 in
theorem c_Ru_lookForPoles_1 (l : Launch) (g : Glob) (ad : Nat → Nat) (k : CFG) (x : RS) (np : Nat) (hp : k.2.1 1 = nI np) (h20 : np ≤ 20) : CV l g y_Ru_lookForPoles b_Ru_lookForPoles 13 1 24 [.ref (ad 0), .int 1] (wR g ad k x) (wR g ad k (polF k np 1 x)) := by
  refine CV.of (by decide +kernel) (Nat.le_of_ble_eq_true rfl) ?_
  intro p e s m below meth c A Q ls C hP hD hl hret hS
  obtain ⟨hx, hb, hml, hown, hw, hE, hA⟩ := id C
  have hl : lv_has ls 13 [(0, .ref (ad 0)), (1, .int 1)] := hl
  unfold polF at hret
  generalize h9 : firstHit (hitF k x.1 1) np 0 = o9 at hret
  refine lv_aload_n hx hb d_Ru_lookForPoles_0 rfl (lv_at hl 0 rfl) ?_
  refine va_get (D := g.1) (ci := 4) (v := .ref (ad 1)) (C := R_Ru) (T := F_Ru) (N := 8) hx hb hw i_Ru hown hE.1 hP 0 rfl rfl 7 (by decide) (hw _ q_170) (fun _ h9 => h9) rfl d_Ru_lookForPoles_1 ?_
  refine va_get (D := g.1) (ci := 5) (v := .ref (ad 2)) (C := R_Se) (T := F_Se) (N := 9) hx hb hw i_Se hown hE.1 hP 1 rfl rfl 0 (by decide) (hw _ q_65) (fun _ h9 => h9) rfl d_Ru_lookForPoles_4 ?_
  refine lv_iload_n hx hb d_Ru_lookForPoles_7 rfl (lv_at hl 1 rfl) ?_
  refine va_aldq hx hb hE.1 hP 2 3 rfl rfl (by unfold vp_in; decide) d_Ru_lookForPoles_8 ?_
  rw [show (1 : Int32).toNatClampNeg = 1 from by decide]
  refine lv_astore_n (lv' := [(2, .ref (ad (3 + 1))), (0, .ref (ad 0)), (1, .int 1)]) hx hb d_Ru_lookForPoles_9 rfl hl (by decide) rfl (fun ls hl => ?_)
  refine lv_aload_n hx hb d_Ru_lookForPoles_10 rfl (lv_at hl 1 rfl) ?_
  refine va_get (D := g.1) (ci := 4) (v := .ref (ad 6)) (C := R_Ru) (T := F_Ru) (N := 8) hx hb hw i_Ru hown hE.1 hP 0 rfl rfl 0 (by decide) (hw _ q_156) (fun _ h9 => h9) rfl d_Ru_lookForPoles_11 ?_
  refine lv_iload_n hx hb d_Ru_lookForPoles_14 rfl (lv_at hl 2 rfl) ?_
  refine va_aldq hx hb hE.1 hP 6 4 rfl rfl (by unfold vp_in; decide) d_Ru_lookForPoles_15 ?_
  rw [show (1 : Int32).toNatClampNeg = 1 from by decide]
  refine lv_astore_n (lv' := [(3, .ref (ad (7 + 1))), (2, .ref (ad (3 + 1))), (0, .ref (ad 0)), (1, .int 1)]) hx hb d_Ru_lookForPoles_16 rfl hl (by decide) rfl (fun ls hl => ?_)
  refine lv_aload_n hx hb d_Ru_lookForPoles_17 rfl (lv_at hl 0 rfl) ?_
  refine get_po C 2 1 (by decide) (by decide) rfl q_124 hP (x.1 2 1) rfl d_Ru_lookForPoles_18 ?_
  refine csI C v_Ru_123 [.int (x.1 2 1)] [] (c_Di_dx l g (x.1 2 1)) hP hS rfl rfl hl.1 (Nat.le_of_ble_eq_true rfl) ⟨Nat.le_of_ble_eq_true rfl, Nat.le_of_ble_eq_true rfl⟩ d_Ru_lookForPoles_21 ⟨Nat.zero_le _, Nat.zero_le _⟩ (fun H locs hP hS => ?_)
  refine lv_i2l hx hb d_Ru_lookForPoles_24 rfl ?_
  refine lv_lstore (lv' := [(4, .long ((dX (x.1 2 1)).toInt64)), (3, .ref (ad (7 + 1))), (2, .ref (ad (3 + 1))), (0, .ref (ad 0)), (1, .int 1)]) hx hb d_Ru_lookForPoles_25 hl (by decide) rfl (fun ls hl => ?_)
  refine lv_aload_n hx hb d_Ru_lookForPoles_27 rfl (lv_at hl 1 rfl) ?_
  refine get_po C 2 1 (by decide) (by decide) rfl q_124 hP (x.1 2 1) rfl d_Ru_lookForPoles_28 ?_
  refine csI C v_Ru_127 [.int (x.1 2 1)] [] (c_Di_dy l g (x.1 2 1)) hP hS rfl rfl hl.1 (Nat.le_of_ble_eq_true rfl) ⟨Nat.le_of_ble_eq_true rfl, Nat.le_of_ble_eq_true rfl⟩ d_Ru_lookForPoles_31 ⟨Nat.zero_le _, Nat.zero_le _⟩ (fun H locs hP hS => ?_)
  refine lv_i2l hx hb d_Ru_lookForPoles_34 rfl ?_
  refine lv_lstore (lv' := [(6, .long ((dY (x.1 2 1)).toInt64)), (4, .long ((dX (x.1 2 1)).toInt64)), (3, .ref (ad (7 + 1))), (2, .ref (ad (3 + 1))), (0, .ref (ad 0)), (1, .int 1)]) hx hb d_Ru_lookForPoles_35 hl (by decide) rfl (fun ls hl => ?_)
  refine lv_iconst (v := 0) hx hb d_Ru_lookForPoles_37 (by decide) ?_
  refine lv_istore (lv' := [(8, .int 0), (6, .long ((dY (x.1 2 1)).toInt64)), (4, .long ((dX (x.1 2 1)).toInt64)), (3, .ref (ad (7 + 1))), (2, .ref (ad (3 + 1))), (0, .ref (ad 0)), (1, .int 1)]) hx hb d_Ru_lookForPoles_38 hl (by decide) rfl (fun ls hl => ?_)
  have lp : ∀ (j : Nat) (q : Nat) (H : Heap) (locs : List Loc) (ls : Array Slot), q ≤ np → np < q + j → firstHit (hitF k x.1 1) (np - q) q = o9 → va_P g.1 classes (wR g ad k x) H → va_D A (wR g ad k x) → va_S A s.heap H locs → lv_has ls 13 [(8, .int (nI q)), (6, .long ((dY (x.1 2 1)).toInt64)), (4, .long ((dX (x.1 2 1)).toInt64)), (3, .ref (ad (7 + 1))), (2, .ref (ad (3 + 1))), (1, .int 1), (0, .ref (ad 0))] → W p l e { frames := 1, cells := 0, slots := 0, locals := 24 } s m ([.ref (ad 0), .int 1] : List Value).toArray below meth c H locs 0 0 Q (F0 m 40 ls []) := by
    intro j
    induction j with
    | zero =>
      intro q H locs ls hq hj h9 hP hD hS hl
      exact absurd trivial (by omega)
    | succ j ih =>
      intro q H locs ls hq hj h9 hP hD hS hl
      refine lv_iload hx hb d_Ru_lookForPoles_40 (lv_at hl 0 rfl) ?_
      refine lv_aload_n hx hb d_Ru_lookForPoles_42 rfl (lv_at hl 6 rfl) ?_
      refine va_get (D := g.1) (ci := 4) (v := .ref (ad 1)) (C := R_Ru) (T := F_Ru) (N := 8) hx hb hw i_Ru hown hE.1 hP 0 rfl rfl 7 (by decide) (hw _ q_170) (fun _ h9 => h9) rfl d_Ru_lookForPoles_43 ?_
      refine va_get (D := g.1) (ci := 5) (v := .int (k.2.1 1)) (C := R_Se) (T := F_Se) (N := 9) hx hb hw i_Se hown hE.1 hP 1 rfl rfl 4 (by decide) (hw _ q_75) (fun _ h9 => h9) rfl d_Ru_lookForPoles_46 ?_
      refine lv_icmp_ge (tgt := 143) hx hb d_Ru_lookForPoles_49 (by decide) (fun c49_1 => ?_) (fun c49_1 => ?_)
      · have h9 := fh_end (ge_of_le' 20 hp h20 (by decide) (by omega) c49_1) h9
        subst h9
        exact hret _ _ _ _ _ rfl hP hD hS d_Ru_lookForPoles_143
      · have hlt := lt_of_nle' 20 hp h20 (by decide) (by omega) c49_1
        refine lv_aload_n hx hb d_Ru_lookForPoles_52 rfl (lv_at hl 6 rfl) ?_
        refine va_get (D := g.1) (ci := 4) (v := .ref (ad 1)) (C := R_Ru) (T := F_Ru) (N := 8) hx hb hw i_Ru hown hE.1 hP 0 rfl rfl 7 (by decide) (hw _ q_170) (fun _ h9 => h9) rfl d_Ru_lookForPoles_53 ?_
        refine va_get (D := g.1) (ci := 5) (v := .ref (ad 12)) (C := R_Se) (T := F_Se) (N := 9) hx hb hw i_Se hown hE.1 hP 1 rfl rfl 1 (by decide) (hw _ q_68) (fun _ h9 => h9) rfl d_Ru_lookForPoles_56 ?_
        refine lv_iload hx hb d_Ru_lookForPoles_59 (lv_at hl 0 rfl) ?_
        refine va_iald hx hb hE.1 hP 12 0 rfl rfl (vp_in_nI (show q < 20 by omega) (by omega)) d_Ru_lookForPoles_61 ?_
        rw [nI_clamp (by omega)]
        refine lv_aload_n hx hb d_Ru_lookForPoles_62 rfl (lv_at hl 3 rfl) ?_
        refine get_po C 0 1 (by decide) (by decide) rfl q_118 hP (x.1 0 1) rfl d_Ru_lookForPoles_63 ?_
        refine lv_isub hx hb d_Ru_lookForPoles_66 ?_
        refine lv_i2l hx hb d_Ru_lookForPoles_67 rfl ?_
        refine lv_lstore (lv' := [(9, .long (((k.2.2.1 q) - (x.1 0 1)).toInt64)), (8, .int (nI q)), (6, .long ((dY (x.1 2 1)).toInt64)), (4, .long ((dX (x.1 2 1)).toInt64)), (3, .ref (ad (7 + 1))), (2, .ref (ad (3 + 1))), (1, .int 1), (0, .ref (ad 0))]) hx hb d_Ru_lookForPoles_68 hl (by decide) rfl (fun ls hl => ?_)
        refine lv_aload_n hx hb d_Ru_lookForPoles_70 rfl (lv_at hl 7 rfl) ?_
        refine va_get (D := g.1) (ci := 4) (v := .ref (ad 1)) (C := R_Ru) (T := F_Ru) (N := 8) hx hb hw i_Ru hown hE.1 hP 0 rfl rfl 7 (by decide) (hw _ q_170) (fun _ h9 => h9) rfl d_Ru_lookForPoles_71 ?_
        refine va_get (D := g.1) (ci := 5) (v := .ref (ad 13)) (C := R_Se) (T := F_Se) (N := 9) hx hb hw i_Se hown hE.1 hP 1 rfl rfl 2 (by decide) (hw _ q_71) (fun _ h9 => h9) rfl d_Ru_lookForPoles_74 ?_
        refine lv_iload hx hb d_Ru_lookForPoles_77 (lv_at hl 1 rfl) ?_
        refine va_iald hx hb hE.1 hP 13 0 rfl rfl (vp_in_nI (show q < 20 by omega) (by omega)) d_Ru_lookForPoles_79 ?_
        rw [nI_clamp (by omega)]
        refine lv_aload_n hx hb d_Ru_lookForPoles_80 rfl (lv_at hl 4 rfl) ?_
        refine get_po C 1 1 (by decide) (by decide) rfl q_121 hP (x.1 1 1) rfl d_Ru_lookForPoles_81 ?_
        refine lv_isub hx hb d_Ru_lookForPoles_84 ?_
        refine lv_i2l hx hb d_Ru_lookForPoles_85 rfl ?_
        refine lv_lstore (lv' := [(11, .long (((k.2.2.2 q) - (x.1 1 1)).toInt64)), (9, .long (((k.2.2.1 q) - (x.1 0 1)).toInt64)), (8, .int (nI q)), (6, .long ((dY (x.1 2 1)).toInt64)), (4, .long ((dX (x.1 2 1)).toInt64)), (3, .ref (ad (7 + 1))), (2, .ref (ad (3 + 1))), (1, .int 1), (0, .ref (ad 0))]) hx hb d_Ru_lookForPoles_86 hl (by decide) rfl (fun ls hl => ?_)
        refine lv_aload_n hx hb d_Ru_lookForPoles_88 rfl (lv_at hl 6 rfl) ?_
        refine lv_lload hx hb d_Ru_lookForPoles_89 (lv_at hl 1 rfl) ?_
        refine lv_lload hx hb d_Ru_lookForPoles_91 (lv_at hl 4 rfl) ?_
        refine lv_lmul hx hb d_Ru_lookForPoles_93 ?_
        refine lv_lload hx hb d_Ru_lookForPoles_94 (lv_at hl 0 rfl) ?_
        refine lv_lload hx hb d_Ru_lookForPoles_96 (lv_at hl 3 rfl) ?_
        refine lv_lmul hx hb d_Ru_lookForPoles_98 ?_
        refine lv_ladd hx hb d_Ru_lookForPoles_99 ?_
        refine lv_lload hx hb d_Ru_lookForPoles_100 (lv_at hl 0 rfl) ?_
        refine lv_lload hx hb d_Ru_lookForPoles_102 (lv_at hl 4 rfl) ?_
        refine lv_lmul hx hb d_Ru_lookForPoles_104 ?_
        refine lv_lload hx hb d_Ru_lookForPoles_105 (lv_at hl 1 rfl) ?_
        refine lv_lload hx hb d_Ru_lookForPoles_107 (lv_at hl 3 rfl) ?_
        refine lv_lmul hx hb d_Ru_lookForPoles_109 ?_
        refine lv_lsub hx hb d_Ru_lookForPoles_110 ?_
        refine cvI C v_Ru_179 [.long (((((k.2.2.1 q) - (x.1 0 1)).toInt64) * ((dX (x.1 2 1)).toInt64)) + ((((k.2.2.2 q) - (x.1 1 1)).toInt64) * ((dY (x.1 2 1)).toInt64))), .long (((((k.2.2.2 q) - (x.1 1 1)).toInt64) * ((dX (x.1 2 1)).toInt64)) - ((((k.2.2.1 q) - (x.1 0 1)).toInt64) * ((dY (x.1 2 1)).toInt64)))] [] (c_Sh_holds l g (ad 4) k.1 1 (((((k.2.2.1 q) - (x.1 0 1)).toInt64) * ((dX (x.1 2 1)).toInt64)) + ((((k.2.2.2 q) - (x.1 1 1)).toInt64) * ((dY (x.1 2 1)).toInt64))) (((((k.2.2.2 q) - (x.1 1 1)).toInt64) * ((dX (x.1 2 1)).toInt64)) - ((((k.2.2.1 q) - (x.1 0 1)).toInt64) * ((dY (x.1 2 1)).toInt64)))) hP hD hS [4] [0, 1, 2, 3, 5, 6, 7, 8, 9, 10, 11, 12, 13] [0, 1, 2, 3, 13, 4, 5, 6, 7, 8, 9, 10, 11, 12] [((ad 0), .inr (4, [.ref (ad 6), .ref (ad 10), .int (x.2.1 0), .int (x.2.1 1), .int (x.2.1 2), .int (x.2.1 3), .int (x.2.1 4), .ref (ad 1)])), ((ad 1), .inr (5, [.ref (ad 2), .ref (ad 12), .ref (ad 13), .int (k.2.1 0), .int (k.2.1 1), .int (k.2.1 2), .int (k.2.1 3), .int (k.2.1 4), .int (k.2.1 5)])), ((ad 2), .inl (g.2.1 3, 3, .inr (.inr (.inr (.inr (fun j => some (ad (3 + j)))))))), ((ad 3), .inr (6, [.int (k.1 0 0), .int (k.1 1 0), .int (k.1 2 0), .int (k.1 3 0), .int (k.1 4 0)])), ((ad 5), .inr (6, [.int (k.1 0 2), .int (k.1 1 2), .int (k.1 2 2), .int (k.1 3 2), .int (k.1 4 2)])), ((ad 6), .inl (g.2.1 4, 3, .inr (.inr (.inr (.inr (fun j => some (ad (7 + j)))))))), ((ad 7), .inr (3, [.int (x.1 0 0), .int (x.1 1 0), .int (x.1 2 0), .int (x.1 3 0), .int (x.1 4 0)])), ((ad 8), .inr (3, [.int (x.1 0 1), .int (x.1 1 1), .int (x.1 2 1), .int (x.1 3 1), .int (x.1 4 1)])), ((ad 9), .inr (3, [.int (x.1 0 2), .int (x.1 1 2), .int (x.1 2 2), .int (x.1 3 2), .int (x.1 4 2)])), ((ad 10), .inr (1, [.ref (ad 11), .int x.2.2.1])), ((ad 11), .inl (g.2.1 1, 64, .inr (.inl x.2.2.2))), ((ad 12), .inl (g.2.1 0, 20, .inl k.2.2.1)), ((ad 13), .inl (g.2.1 0, 20, .inl k.2.2.2))] (wR g ad k x) rfl rfl (by decide) (by decide) (by decide) rfl (by decide) 0 rfl rfl rfl rfl hl.1 (Nat.le_of_ble_eq_true rfl) ⟨Nat.le_of_ble_eq_true rfl, Nat.le_of_ble_eq_true rfl⟩ d_Ru_lookForPoles_111 ⟨Nat.zero_le _, Nat.zero_le _⟩ (fun H locs hP hD hS => ?_)
        refine lv_if_eq (tgt := 137) hx hb d_Ru_lookForPoles_114 (by decide) (fun c114_2 => ?_) (fun c114_2 => ?_)
        · refine lv_iinc (v := (nI (q + 1))) (lv' := [(8, .int (nI (q + 1))), (11, .long (((k.2.2.2 q) - (x.1 1 1)).toInt64)), (9, .long (((k.2.2.1 q) - (x.1 0 1)).toInt64)), (6, .long ((dY (x.1 2 1)).toInt64)), (4, .long ((dX (x.1 2 1)).toInt64)), (3, .ref (ad (7 + 1))), (2, .ref (ad (3 + 1))), (1, .int 1), (0, .ref (ad 0))]) hx hb d_Ru_lookForPoles_137 hl (k := 2) rfl (nI_1 q) (by decide) rfl (fun ls hl => ?_)
          refine lv_goto (tgt := 40) hx hb d_Ru_lookForPoles_140 (by decide) ?_
          exact ih (q + 1) _ _ _ (by omega) (by omega) (fh_back hlt h9 c114_2) hP hD hS (lv_sub hl [0, 3, 4, 5, 6, 7, 8] rfl)
        · refine lv_aload_n hx hb d_Ru_lookForPoles_117 rfl (lv_at hl 8 rfl) ?_
          refine lv_aload_n hx hb d_Ru_lookForPoles_118 rfl (lv_at hl 8 rfl) ?_
          refine va_get (D := g.1) (ci := 4) (v := .int (x.2.1 0)) (C := R_Ru) (T := F_Ru) (N := 8) hx hb hw i_Ru hown hE.1 hP 0 rfl rfl 2 (by decide) (hw _ q_160) (fun _ h9 => h9) rfl d_Ru_lookForPoles_119 ?_
          refine va_put (D := g.1) (ci := 4) (v := .int (x.2.1 0)) (ty := .int) (C := R_Ru) (T := F_Ru) (N := 8) hx hb hw i_Ru t_Ru t_Ru_ok n_Ru hown hE.1 hP hD hS 0 rfl rfl 4 (by decide) (hw _ q_164) (fun _ h9 => h9) rfl (by decide +kernel) rfl rfl (Nat.le_of_ble_eq_true rfl) d_Ru_lookForPoles_122 (fun H locs hP hD hS => ?_)
          have hP : va_P g.1 classes (wR g ad k (x.1, (upd x.2.1 2 (x.2.1 0)), x.2.2.1, x.2.2.2)) H := hP
          have hD : va_D A (wR g ad k (x.1, (upd x.2.1 2 (x.2.1 0)), x.2.2.1, x.2.2.2)) := hD
          refine lv_aload_n hx hb d_Ru_lookForPoles_125 rfl (lv_at hl 8 rfl) ?_
          refine lv_iload_n hx hb d_Ru_lookForPoles_126 rfl (lv_at hl 7 rfl) ?_
          refine va_put (D := g.1) (ci := 4) (v := .int 1) (ty := .int) (C := R_Ru) (T := F_Ru) (N := 8) hx hb hw i_Ru t_Ru t_Ru_ok n_Ru hown hE.1 hP hD hS 0 rfl rfl 5 (by decide) (hw _ q_166) (fun _ h9 => h9) rfl (by decide +kernel) rfl rfl (Nat.le_of_ble_eq_true rfl) d_Ru_lookForPoles_127 (fun H locs hP hD hS => ?_)
          have hP : va_P g.1 classes (wR g ad k (x.1, (upd (upd x.2.1 2 (x.2.1 0)) 3 1), x.2.2.1, x.2.2.2)) H := hP
          have hD : va_D A (wR g ad k (x.1, (upd (upd x.2.1 2 (x.2.1 0)) 3 1), x.2.2.1, x.2.2.2)) := hD
          refine lv_aload_n hx hb d_Ru_lookForPoles_130 rfl (lv_at hl 8 rfl) ?_
          refine lv_iload hx hb d_Ru_lookForPoles_131 (lv_at hl 2 rfl) ?_
          refine va_put (D := g.1) (ci := 4) (v := .int (nI q)) (ty := .int) (C := R_Ru) (T := F_Ru) (N := 8) hx hb hw i_Ru t_Ru t_Ru_ok n_Ru hown hE.1 hP hD hS 0 rfl rfl 6 (by decide) (hw _ q_168) (fun _ h9 => h9) rfl (by decide +kernel) rfl rfl (Nat.le_of_ble_eq_true rfl) d_Ru_lookForPoles_133 (fun H locs hP hD hS => ?_)
          have hP : va_P g.1 classes (wR g ad k (x.1, (upd (upd (upd x.2.1 2 (x.2.1 0)) 3 1) 4 (nI q)), x.2.2.1, x.2.2.2)) H := hP
          have hD : va_D A (wR g ad k (x.1, (upd (upd (upd x.2.1 2 (x.2.1 0)) 3 1) 4 (nI q)), x.2.2.1, x.2.2.2)) := hD
          have h9 := fh_hit hlt h9 c114_2
          subst h9
          exact hret _ _ _ _ _ rfl hP hD hS d_Ru_lookForPoles_136
  exact lp (np + 1) 0 _ _ _ (by omega) (by omega) h9 hP hD hS (lv_sub hl [0, 1, 2, 3, 4, 6, 5] rfl)
set_option maxHeartbeats 4000000 in
set_option maxRecDepth 100000 in
theorem c_Ru_lookForPoles_2 (l : Launch) (g : Glob) (ad : Nat → Nat) (k : CFG) (x : RS) (np : Nat) (hp : k.2.1 1 = nI np) (h20 : np ≤ 20) : CV l g y_Ru_lookForPoles b_Ru_lookForPoles 13 1 24 [.ref (ad 0), .int 2] (wR g ad k x) (wR g ad k (polF k np 2 x)) := by
  refine CV.of (by decide +kernel) (Nat.le_of_ble_eq_true rfl) ?_
  intro p e s m below meth c A Q ls C hP hD hl hret hS
  obtain ⟨hx, hb, hml, hown, hw, hE, hA⟩ := id C
  have hl : lv_has ls 13 [(0, .ref (ad 0)), (1, .int 2)] := hl
  unfold polF at hret
  generalize h9 : firstHit (hitF k x.1 2) np 0 = o9 at hret
  refine lv_aload_n hx hb d_Ru_lookForPoles_0 rfl (lv_at hl 0 rfl) ?_
  refine va_get (D := g.1) (ci := 4) (v := .ref (ad 1)) (C := R_Ru) (T := F_Ru) (N := 8) hx hb hw i_Ru hown hE.1 hP 0 rfl rfl 7 (by decide) (hw _ q_170) (fun _ h9 => h9) rfl d_Ru_lookForPoles_1 ?_
  refine va_get (D := g.1) (ci := 5) (v := .ref (ad 2)) (C := R_Se) (T := F_Se) (N := 9) hx hb hw i_Se hown hE.1 hP 1 rfl rfl 0 (by decide) (hw _ q_65) (fun _ h9 => h9) rfl d_Ru_lookForPoles_4 ?_
  refine lv_iload_n hx hb d_Ru_lookForPoles_7 rfl (lv_at hl 1 rfl) ?_
  refine va_aldq hx hb hE.1 hP 2 3 rfl rfl (by unfold vp_in; decide) d_Ru_lookForPoles_8 ?_
  rw [show (2 : Int32).toNatClampNeg = 2 from by decide]
  refine lv_astore_n (lv' := [(2, .ref (ad (3 + 2))), (0, .ref (ad 0)), (1, .int 2)]) hx hb d_Ru_lookForPoles_9 rfl hl (by decide) rfl (fun ls hl => ?_)
  refine lv_aload_n hx hb d_Ru_lookForPoles_10 rfl (lv_at hl 1 rfl) ?_
  refine va_get (D := g.1) (ci := 4) (v := .ref (ad 6)) (C := R_Ru) (T := F_Ru) (N := 8) hx hb hw i_Ru hown hE.1 hP 0 rfl rfl 0 (by decide) (hw _ q_156) (fun _ h9 => h9) rfl d_Ru_lookForPoles_11 ?_
  refine lv_iload_n hx hb d_Ru_lookForPoles_14 rfl (lv_at hl 2 rfl) ?_
  refine va_aldq hx hb hE.1 hP 6 4 rfl rfl (by unfold vp_in; decide) d_Ru_lookForPoles_15 ?_
  rw [show (2 : Int32).toNatClampNeg = 2 from by decide]
  refine lv_astore_n (lv' := [(3, .ref (ad (7 + 2))), (2, .ref (ad (3 + 2))), (0, .ref (ad 0)), (1, .int 2)]) hx hb d_Ru_lookForPoles_16 rfl hl (by decide) rfl (fun ls hl => ?_)
  refine lv_aload_n hx hb d_Ru_lookForPoles_17 rfl (lv_at hl 0 rfl) ?_
  refine get_po C 2 2 (by decide) (by decide) rfl q_124 hP (x.1 2 2) rfl d_Ru_lookForPoles_18 ?_
  refine csI C v_Ru_123 [.int (x.1 2 2)] [] (c_Di_dx l g (x.1 2 2)) hP hS rfl rfl hl.1 (Nat.le_of_ble_eq_true rfl) ⟨Nat.le_of_ble_eq_true rfl, Nat.le_of_ble_eq_true rfl⟩ d_Ru_lookForPoles_21 ⟨Nat.zero_le _, Nat.zero_le _⟩ (fun H locs hP hS => ?_)
  refine lv_i2l hx hb d_Ru_lookForPoles_24 rfl ?_
  refine lv_lstore (lv' := [(4, .long ((dX (x.1 2 2)).toInt64)), (3, .ref (ad (7 + 2))), (2, .ref (ad (3 + 2))), (0, .ref (ad 0)), (1, .int 2)]) hx hb d_Ru_lookForPoles_25 hl (by decide) rfl (fun ls hl => ?_)
  refine lv_aload_n hx hb d_Ru_lookForPoles_27 rfl (lv_at hl 1 rfl) ?_
  refine get_po C 2 2 (by decide) (by decide) rfl q_124 hP (x.1 2 2) rfl d_Ru_lookForPoles_28 ?_
  refine csI C v_Ru_127 [.int (x.1 2 2)] [] (c_Di_dy l g (x.1 2 2)) hP hS rfl rfl hl.1 (Nat.le_of_ble_eq_true rfl) ⟨Nat.le_of_ble_eq_true rfl, Nat.le_of_ble_eq_true rfl⟩ d_Ru_lookForPoles_31 ⟨Nat.zero_le _, Nat.zero_le _⟩ (fun H locs hP hS => ?_)
  refine lv_i2l hx hb d_Ru_lookForPoles_34 rfl ?_
  refine lv_lstore (lv' := [(6, .long ((dY (x.1 2 2)).toInt64)), (4, .long ((dX (x.1 2 2)).toInt64)), (3, .ref (ad (7 + 2))), (2, .ref (ad (3 + 2))), (0, .ref (ad 0)), (1, .int 2)]) hx hb d_Ru_lookForPoles_35 hl (by decide) rfl (fun ls hl => ?_)
  refine lv_iconst (v := 0) hx hb d_Ru_lookForPoles_37 (by decide) ?_
  refine lv_istore (lv' := [(8, .int 0), (6, .long ((dY (x.1 2 2)).toInt64)), (4, .long ((dX (x.1 2 2)).toInt64)), (3, .ref (ad (7 + 2))), (2, .ref (ad (3 + 2))), (0, .ref (ad 0)), (1, .int 2)]) hx hb d_Ru_lookForPoles_38 hl (by decide) rfl (fun ls hl => ?_)
  have lp : ∀ (j : Nat) (q : Nat) (H : Heap) (locs : List Loc) (ls : Array Slot), q ≤ np → np < q + j → firstHit (hitF k x.1 2) (np - q) q = o9 → va_P g.1 classes (wR g ad k x) H → va_D A (wR g ad k x) → va_S A s.heap H locs → lv_has ls 13 [(8, .int (nI q)), (6, .long ((dY (x.1 2 2)).toInt64)), (4, .long ((dX (x.1 2 2)).toInt64)), (3, .ref (ad (7 + 2))), (2, .ref (ad (3 + 2))), (1, .int 2), (0, .ref (ad 0))] → W p l e { frames := 1, cells := 0, slots := 0, locals := 24 } s m ([.ref (ad 0), .int 2] : List Value).toArray below meth c H locs 0 0 Q (F0 m 40 ls []) := by
    intro j
    induction j with
    | zero =>
      intro q H locs ls hq hj h9 hP hD hS hl
      exact absurd trivial (by omega)
    | succ j ih =>
      intro q H locs ls hq hj h9 hP hD hS hl
      refine lv_iload hx hb d_Ru_lookForPoles_40 (lv_at hl 0 rfl) ?_
      refine lv_aload_n hx hb d_Ru_lookForPoles_42 rfl (lv_at hl 6 rfl) ?_
      refine va_get (D := g.1) (ci := 4) (v := .ref (ad 1)) (C := R_Ru) (T := F_Ru) (N := 8) hx hb hw i_Ru hown hE.1 hP 0 rfl rfl 7 (by decide) (hw _ q_170) (fun _ h9 => h9) rfl d_Ru_lookForPoles_43 ?_
      refine va_get (D := g.1) (ci := 5) (v := .int (k.2.1 1)) (C := R_Se) (T := F_Se) (N := 9) hx hb hw i_Se hown hE.1 hP 1 rfl rfl 4 (by decide) (hw _ q_75) (fun _ h9 => h9) rfl d_Ru_lookForPoles_46 ?_
      refine lv_icmp_ge (tgt := 143) hx hb d_Ru_lookForPoles_49 (by decide) (fun c49_1 => ?_) (fun c49_1 => ?_)
      · have h9 := fh_end (ge_of_le' 20 hp h20 (by decide) (by omega) c49_1) h9
        subst h9
        exact hret _ _ _ _ _ rfl hP hD hS d_Ru_lookForPoles_143
      · have hlt := lt_of_nle' 20 hp h20 (by decide) (by omega) c49_1
        refine lv_aload_n hx hb d_Ru_lookForPoles_52 rfl (lv_at hl 6 rfl) ?_
        refine va_get (D := g.1) (ci := 4) (v := .ref (ad 1)) (C := R_Ru) (T := F_Ru) (N := 8) hx hb hw i_Ru hown hE.1 hP 0 rfl rfl 7 (by decide) (hw _ q_170) (fun _ h9 => h9) rfl d_Ru_lookForPoles_53 ?_
        refine va_get (D := g.1) (ci := 5) (v := .ref (ad 12)) (C := R_Se) (T := F_Se) (N := 9) hx hb hw i_Se hown hE.1 hP 1 rfl rfl 1 (by decide) (hw _ q_68) (fun _ h9 => h9) rfl d_Ru_lookForPoles_56 ?_
        refine lv_iload hx hb d_Ru_lookForPoles_59 (lv_at hl 0 rfl) ?_
        refine va_iald hx hb hE.1 hP 12 0 rfl rfl (vp_in_nI (show q < 20 by omega) (by omega)) d_Ru_lookForPoles_61 ?_
        rw [nI_clamp (by omega)]
        refine lv_aload_n hx hb d_Ru_lookForPoles_62 rfl (lv_at hl 3 rfl) ?_
        refine get_po C 0 2 (by decide) (by decide) rfl q_118 hP (x.1 0 2) rfl d_Ru_lookForPoles_63 ?_
        refine lv_isub hx hb d_Ru_lookForPoles_66 ?_
        refine lv_i2l hx hb d_Ru_lookForPoles_67 rfl ?_
        refine lv_lstore (lv' := [(9, .long (((k.2.2.1 q) - (x.1 0 2)).toInt64)), (8, .int (nI q)), (6, .long ((dY (x.1 2 2)).toInt64)), (4, .long ((dX (x.1 2 2)).toInt64)), (3, .ref (ad (7 + 2))), (2, .ref (ad (3 + 2))), (1, .int 2), (0, .ref (ad 0))]) hx hb d_Ru_lookForPoles_68 hl (by decide) rfl (fun ls hl => ?_)
        refine lv_aload_n hx hb d_Ru_lookForPoles_70 rfl (lv_at hl 7 rfl) ?_
        refine va_get (D := g.1) (ci := 4) (v := .ref (ad 1)) (C := R_Ru) (T := F_Ru) (N := 8) hx hb hw i_Ru hown hE.1 hP 0 rfl rfl 7 (by decide) (hw _ q_170) (fun _ h9 => h9) rfl d_Ru_lookForPoles_71 ?_
        refine va_get (D := g.1) (ci := 5) (v := .ref (ad 13)) (C := R_Se) (T := F_Se) (N := 9) hx hb hw i_Se hown hE.1 hP 1 rfl rfl 2 (by decide) (hw _ q_71) (fun _ h9 => h9) rfl d_Ru_lookForPoles_74 ?_
        refine lv_iload hx hb d_Ru_lookForPoles_77 (lv_at hl 1 rfl) ?_
        refine va_iald hx hb hE.1 hP 13 0 rfl rfl (vp_in_nI (show q < 20 by omega) (by omega)) d_Ru_lookForPoles_79 ?_
        rw [nI_clamp (by omega)]
        refine lv_aload_n hx hb d_Ru_lookForPoles_80 rfl (lv_at hl 4 rfl) ?_
        refine get_po C 1 2 (by decide) (by decide) rfl q_121 hP (x.1 1 2) rfl d_Ru_lookForPoles_81 ?_
        refine lv_isub hx hb d_Ru_lookForPoles_84 ?_
        refine lv_i2l hx hb d_Ru_lookForPoles_85 rfl ?_
        refine lv_lstore (lv' := [(11, .long (((k.2.2.2 q) - (x.1 1 2)).toInt64)), (9, .long (((k.2.2.1 q) - (x.1 0 2)).toInt64)), (8, .int (nI q)), (6, .long ((dY (x.1 2 2)).toInt64)), (4, .long ((dX (x.1 2 2)).toInt64)), (3, .ref (ad (7 + 2))), (2, .ref (ad (3 + 2))), (1, .int 2), (0, .ref (ad 0))]) hx hb d_Ru_lookForPoles_86 hl (by decide) rfl (fun ls hl => ?_)
        refine lv_aload_n hx hb d_Ru_lookForPoles_88 rfl (lv_at hl 6 rfl) ?_
        refine lv_lload hx hb d_Ru_lookForPoles_89 (lv_at hl 1 rfl) ?_
        refine lv_lload hx hb d_Ru_lookForPoles_91 (lv_at hl 4 rfl) ?_
        refine lv_lmul hx hb d_Ru_lookForPoles_93 ?_
        refine lv_lload hx hb d_Ru_lookForPoles_94 (lv_at hl 0 rfl) ?_
        refine lv_lload hx hb d_Ru_lookForPoles_96 (lv_at hl 3 rfl) ?_
        refine lv_lmul hx hb d_Ru_lookForPoles_98 ?_
        refine lv_ladd hx hb d_Ru_lookForPoles_99 ?_
        refine lv_lload hx hb d_Ru_lookForPoles_100 (lv_at hl 0 rfl) ?_
        refine lv_lload hx hb d_Ru_lookForPoles_102 (lv_at hl 4 rfl) ?_
        refine lv_lmul hx hb d_Ru_lookForPoles_104 ?_
        refine lv_lload hx hb d_Ru_lookForPoles_105 (lv_at hl 1 rfl) ?_
        refine lv_lload hx hb d_Ru_lookForPoles_107 (lv_at hl 3 rfl) ?_
        refine lv_lmul hx hb d_Ru_lookForPoles_109 ?_
        refine lv_lsub hx hb d_Ru_lookForPoles_110 ?_
        refine cvI C v_Ru_179 [.long (((((k.2.2.1 q) - (x.1 0 2)).toInt64) * ((dX (x.1 2 2)).toInt64)) + ((((k.2.2.2 q) - (x.1 1 2)).toInt64) * ((dY (x.1 2 2)).toInt64))), .long (((((k.2.2.2 q) - (x.1 1 2)).toInt64) * ((dX (x.1 2 2)).toInt64)) - ((((k.2.2.1 q) - (x.1 0 2)).toInt64) * ((dY (x.1 2 2)).toInt64)))] [] (c_Sh_holds l g (ad 5) k.1 2 (((((k.2.2.1 q) - (x.1 0 2)).toInt64) * ((dX (x.1 2 2)).toInt64)) + ((((k.2.2.2 q) - (x.1 1 2)).toInt64) * ((dY (x.1 2 2)).toInt64))) (((((k.2.2.2 q) - (x.1 1 2)).toInt64) * ((dX (x.1 2 2)).toInt64)) - ((((k.2.2.1 q) - (x.1 0 2)).toInt64) * ((dY (x.1 2 2)).toInt64)))) hP hD hS [5] [0, 1, 2, 3, 4, 6, 7, 8, 9, 10, 11, 12, 13] [0, 1, 2, 3, 4, 13, 5, 6, 7, 8, 9, 10, 11, 12] [((ad 0), .inr (4, [.ref (ad 6), .ref (ad 10), .int (x.2.1 0), .int (x.2.1 1), .int (x.2.1 2), .int (x.2.1 3), .int (x.2.1 4), .ref (ad 1)])), ((ad 1), .inr (5, [.ref (ad 2), .ref (ad 12), .ref (ad 13), .int (k.2.1 0), .int (k.2.1 1), .int (k.2.1 2), .int (k.2.1 3), .int (k.2.1 4), .int (k.2.1 5)])), ((ad 2), .inl (g.2.1 3, 3, .inr (.inr (.inr (.inr (fun j => some (ad (3 + j)))))))), ((ad 3), .inr (6, [.int (k.1 0 0), .int (k.1 1 0), .int (k.1 2 0), .int (k.1 3 0), .int (k.1 4 0)])), ((ad 4), .inr (6, [.int (k.1 0 1), .int (k.1 1 1), .int (k.1 2 1), .int (k.1 3 1), .int (k.1 4 1)])), ((ad 6), .inl (g.2.1 4, 3, .inr (.inr (.inr (.inr (fun j => some (ad (7 + j)))))))), ((ad 7), .inr (3, [.int (x.1 0 0), .int (x.1 1 0), .int (x.1 2 0), .int (x.1 3 0), .int (x.1 4 0)])), ((ad 8), .inr (3, [.int (x.1 0 1), .int (x.1 1 1), .int (x.1 2 1), .int (x.1 3 1), .int (x.1 4 1)])), ((ad 9), .inr (3, [.int (x.1 0 2), .int (x.1 1 2), .int (x.1 2 2), .int (x.1 3 2), .int (x.1 4 2)])), ((ad 10), .inr (1, [.ref (ad 11), .int x.2.2.1])), ((ad 11), .inl (g.2.1 1, 64, .inr (.inl x.2.2.2))), ((ad 12), .inl (g.2.1 0, 20, .inl k.2.2.1)), ((ad 13), .inl (g.2.1 0, 20, .inl k.2.2.2))] (wR g ad k x) rfl rfl (by decide) (by decide) (by decide) rfl (by decide) 0 rfl rfl rfl rfl hl.1 (Nat.le_of_ble_eq_true rfl) ⟨Nat.le_of_ble_eq_true rfl, Nat.le_of_ble_eq_true rfl⟩ d_Ru_lookForPoles_111 ⟨Nat.zero_le _, Nat.zero_le _⟩ (fun H locs hP hD hS => ?_)
        refine lv_if_eq (tgt := 137) hx hb d_Ru_lookForPoles_114 (by decide) (fun c114_2 => ?_) (fun c114_2 => ?_)
        · refine lv_iinc (v := (nI (q + 1))) (lv' := [(8, .int (nI (q + 1))), (11, .long (((k.2.2.2 q) - (x.1 1 2)).toInt64)), (9, .long (((k.2.2.1 q) - (x.1 0 2)).toInt64)), (6, .long ((dY (x.1 2 2)).toInt64)), (4, .long ((dX (x.1 2 2)).toInt64)), (3, .ref (ad (7 + 2))), (2, .ref (ad (3 + 2))), (1, .int 2), (0, .ref (ad 0))]) hx hb d_Ru_lookForPoles_137 hl (k := 2) rfl (nI_1 q) (by decide) rfl (fun ls hl => ?_)
          refine lv_goto (tgt := 40) hx hb d_Ru_lookForPoles_140 (by decide) ?_
          exact ih (q + 1) _ _ _ (by omega) (by omega) (fh_back hlt h9 c114_2) hP hD hS (lv_sub hl [0, 3, 4, 5, 6, 7, 8] rfl)
        · refine lv_aload_n hx hb d_Ru_lookForPoles_117 rfl (lv_at hl 8 rfl) ?_
          refine lv_aload_n hx hb d_Ru_lookForPoles_118 rfl (lv_at hl 8 rfl) ?_
          refine va_get (D := g.1) (ci := 4) (v := .int (x.2.1 0)) (C := R_Ru) (T := F_Ru) (N := 8) hx hb hw i_Ru hown hE.1 hP 0 rfl rfl 2 (by decide) (hw _ q_160) (fun _ h9 => h9) rfl d_Ru_lookForPoles_119 ?_
          refine va_put (D := g.1) (ci := 4) (v := .int (x.2.1 0)) (ty := .int) (C := R_Ru) (T := F_Ru) (N := 8) hx hb hw i_Ru t_Ru t_Ru_ok n_Ru hown hE.1 hP hD hS 0 rfl rfl 4 (by decide) (hw _ q_164) (fun _ h9 => h9) rfl (by decide +kernel) rfl rfl (Nat.le_of_ble_eq_true rfl) d_Ru_lookForPoles_122 (fun H locs hP hD hS => ?_)
          have hP : va_P g.1 classes (wR g ad k (x.1, (upd x.2.1 2 (x.2.1 0)), x.2.2.1, x.2.2.2)) H := hP
          have hD : va_D A (wR g ad k (x.1, (upd x.2.1 2 (x.2.1 0)), x.2.2.1, x.2.2.2)) := hD
          refine lv_aload_n hx hb d_Ru_lookForPoles_125 rfl (lv_at hl 8 rfl) ?_
          refine lv_iload_n hx hb d_Ru_lookForPoles_126 rfl (lv_at hl 7 rfl) ?_
          refine va_put (D := g.1) (ci := 4) (v := .int 2) (ty := .int) (C := R_Ru) (T := F_Ru) (N := 8) hx hb hw i_Ru t_Ru t_Ru_ok n_Ru hown hE.1 hP hD hS 0 rfl rfl 5 (by decide) (hw _ q_166) (fun _ h9 => h9) rfl (by decide +kernel) rfl rfl (Nat.le_of_ble_eq_true rfl) d_Ru_lookForPoles_127 (fun H locs hP hD hS => ?_)
          have hP : va_P g.1 classes (wR g ad k (x.1, (upd (upd x.2.1 2 (x.2.1 0)) 3 2), x.2.2.1, x.2.2.2)) H := hP
          have hD : va_D A (wR g ad k (x.1, (upd (upd x.2.1 2 (x.2.1 0)) 3 2), x.2.2.1, x.2.2.2)) := hD
          refine lv_aload_n hx hb d_Ru_lookForPoles_130 rfl (lv_at hl 8 rfl) ?_
          refine lv_iload hx hb d_Ru_lookForPoles_131 (lv_at hl 2 rfl) ?_
          refine va_put (D := g.1) (ci := 4) (v := .int (nI q)) (ty := .int) (C := R_Ru) (T := F_Ru) (N := 8) hx hb hw i_Ru t_Ru t_Ru_ok n_Ru hown hE.1 hP hD hS 0 rfl rfl 6 (by decide) (hw _ q_168) (fun _ h9 => h9) rfl (by decide +kernel) rfl rfl (Nat.le_of_ble_eq_true rfl) d_Ru_lookForPoles_133 (fun H locs hP hD hS => ?_)
          have hP : va_P g.1 classes (wR g ad k (x.1, (upd (upd (upd x.2.1 2 (x.2.1 0)) 3 2) 4 (nI q)), x.2.2.1, x.2.2.2)) H := hP
          have hD : va_D A (wR g ad k (x.1, (upd (upd (upd x.2.1 2 (x.2.1 0)) 3 2) 4 (nI q)), x.2.2.1, x.2.2.2)) := hD
          have h9 := fh_hit hlt h9 c114_2
          subst h9
          exact hret _ _ _ _ _ rfl hP hD hS d_Ru_lookForPoles_136
  exact lp (np + 1) 0 _ _ _ (by omega) (by omega) h9 hP hD hS (lv_sub hl [0, 1, 2, 3, 4, 6, 5] rfl)
set_option maxHeartbeats 4000000 in
set_option maxRecDepth 100000 in
theorem c_Ru_lookRound (l : Launch) (g : Glob) (ad : Nat → Nat) (k : CFG) (x : RS) (n : Nat) (hn : k.2.1 0 = nI n) (h3 : n ≤ 3) (np : Nat) (hp : k.2.1 1 = nI np) (h20 : np ≤ 20) : CV l g y_Ru_lookRound b_Ru_lookRound 2 3 86 [.ref (ad 0)] (wR g ad k x) (wR g ad k (itF (lkF k np) n 0 x)) := by
  refine CV.of (by decide +kernel) (Nat.le_of_ble_eq_true rfl) ?_
  intro p e s m below meth c A Q ls C hP hD hl hret hS
  obtain ⟨hx, hb, hml, hown, hw, hE, hA⟩ := id C
  have hl : lv_has ls 2 [(0, .ref (ad 0))] := hl
  generalize h9 : itF (lkF k np) n 0 x = x9 at hret
  refine lv_iconst (v := 0) hx hb d_Ru_lookRound_0 (by decide) ?_
  refine lv_istore_n (lv' := [(1, .int 0), (0, .ref (ad 0))]) hx hb d_Ru_lookRound_1 rfl hl (by decide) rfl (fun ls hl => ?_)
  have lp : ∀ (j : Nat) (i : Nat) (x : RS) (H : Heap) (locs : List Loc) (ls : Array Slot), 0 ≤ i → i ≤ n + 1 → n + 1 < i + j → itF (lkF k np) n i x = x9 → va_P g.1 classes (wR g ad k x) H → va_D A (wR g ad k x) → va_S A s.heap H locs → lv_has ls 2 [(1, .int (nI i)), (0, .ref (ad 0))] → W p l e { frames := 3, cells := 0, slots := 0, locals := 86 } s m ([.ref (ad 0)] : List Value).toArray below meth c H locs 0 0 Q (F0 m 2 ls []) := by
    intro j
    induction j with
    | zero =>
      intro i x H locs ls hlo hi hj h9 hP hD hS hl
      exact absurd trivial (by omega)
    | succ j ih =>
      intro i x H locs ls hlo hi hj h9 hP hD hS hl
      refine lv_iload_n hx hb d_Ru_lookRound_2 rfl (lv_at hl 0 rfl) ?_
      refine lv_aload_n hx hb d_Ru_lookRound_3 rfl (lv_at hl 1 rfl) ?_
      refine va_get (D := g.1) (ci := 4) (v := .ref (ad 1)) (C := R_Ru) (T := F_Ru) (N := 8) hx hb hw i_Ru hown hE.1 hP 0 rfl rfl 7 (by decide) (hw _ q_170) (fun _ h9 => h9) rfl d_Ru_lookRound_4 ?_
      refine va_get (D := g.1) (ci := 5) (v := .int (k.2.1 0)) (C := R_Se) (T := F_Se) (N := 9) hx hb hw i_Se hown hE.1 hP 1 rfl rfl 3 (by decide) (hw _ q_72) (fun _ h9 => h9) rfl d_Ru_lookRound_7 ?_
      refine lv_icmp_ge (tgt := 54) hx hb d_Ru_lookRound_10 (by decide) (fun c10_1 => ?_) (fun c10_1 => ?_)
      · have hge := ge_of_le hn h3 hi c10_1
        have h9 := (itF_end hge).symm.trans h9
        subst h9
        exact hret _ _ _ _ _ rfl hP hD hS d_Ru_lookRound_54
      · have hlt := lt_of_nle hn h3 hi c10_1
        rcases (show i = 0 ∨ i = 1 ∨ i = 2 by omega) with rfl | rfl | rfl
        · have hl : lv_has ls 2 [(1, .int 0), (0, .ref (ad 0))] := hl
          refine lv_aload_n hx hb d_Ru_lookRound_13 rfl (lv_at hl 1 rfl) ?_
          refine va_get (D := g.1) (ci := 4) (v := .ref (ad 10)) (C := R_Ru) (T := F_Ru) (N := 8) hx hb hw i_Ru hown hE.1 hP 0 rfl rfl 1 (by decide) (hw _ q_158) (fun _ h9 => h9) rfl d_Ru_lookRound_14 ?_
          refine lv_aload_n hx hb d_Ru_lookRound_17 rfl (lv_at hl 1 rfl) ?_
          refine va_get (D := g.1) (ci := 4) (v := .ref (ad 1)) (C := R_Ru) (T := F_Ru) (N := 8) hx hb hw i_Ru hown hE.1 hP 0 rfl rfl 7 (by decide) (hw _ q_170) (fun _ h9 => h9) rfl d_Ru_lookRound_18 ?_
          refine va_get (D := g.1) (ci := 5) (v := .ref (ad 2)) (C := R_Se) (T := F_Se) (N := 9) hx hb hw i_Se hown hE.1 hP 1 rfl rfl 0 (by decide) (hw _ q_65) (fun _ h9 => h9) rfl d_Ru_lookRound_21 ?_
          refine lv_iload_n hx hb d_Ru_lookRound_24 rfl (lv_at hl 0 rfl) ?_
          refine va_aldq hx hb hE.1 hP 2 3 rfl rfl (by unfold vp_in; decide) d_Ru_lookRound_25 ?_
          rw [show (0 : Int32).toNatClampNeg = 0 from by decide]
          refine lv_aload_n hx hb d_Ru_lookRound_26 rfl (lv_at hl 1 rfl) ?_
          refine va_get (D := g.1) (ci := 4) (v := .ref (ad 6)) (C := R_Ru) (T := F_Ru) (N := 8) hx hb hw i_Ru hown hE.1 hP 0 rfl rfl 0 (by decide) (hw _ q_156) (fun _ h9 => h9) rfl d_Ru_lookRound_27 ?_
          refine lv_iload_n hx hb d_Ru_lookRound_30 rfl (lv_at hl 0 rfl) ?_
          refine va_aldq hx hb hE.1 hP 6 4 rfl rfl (by unfold vp_in; decide) d_Ru_lookRound_31 ?_
          rw [show (0 : Int32).toNatClampNeg = 0 from by decide]
          refine cvV C v_Ru_162 [.ref (ad (3 + 0)), .ref (ad (7 + 0))] [] (c_Ce_cover l g (ad 10) (ad 11) (ad 3) (ad 7) k.1 x.1 0 x.2.2) hP hD hS [10, 11, 3, 7] [0, 1, 2, 4, 5, 6, 8, 9, 12, 13] [0, 1, 2, 12, 3, 4, 5, 13, 6, 7, 10, 11, 8, 9] [((ad 0), .inr (4, [.ref (ad 6), .ref (ad 10), .int (x.2.1 0), .int (x.2.1 1), .int (x.2.1 2), .int (x.2.1 3), .int (x.2.1 4), .ref (ad 1)])), ((ad 1), .inr (5, [.ref (ad 2), .ref (ad 12), .ref (ad 13), .int (k.2.1 0), .int (k.2.1 1), .int (k.2.1 2), .int (k.2.1 3), .int (k.2.1 4), .int (k.2.1 5)])), ((ad 2), .inl (g.2.1 3, 3, .inr (.inr (.inr (.inr (fun j => some (ad (3 + j)))))))), ((ad 4), .inr (6, [.int (k.1 0 1), .int (k.1 1 1), .int (k.1 2 1), .int (k.1 3 1), .int (k.1 4 1)])), ((ad 5), .inr (6, [.int (k.1 0 2), .int (k.1 1 2), .int (k.1 2 2), .int (k.1 3 2), .int (k.1 4 2)])), ((ad 6), .inl (g.2.1 4, 3, .inr (.inr (.inr (.inr (fun j => some (ad (7 + j)))))))), ((ad 8), .inr (3, [.int (x.1 0 1), .int (x.1 1 1), .int (x.1 2 1), .int (x.1 3 1), .int (x.1 4 1)])), ((ad 9), .inr (3, [.int (x.1 0 2), .int (x.1 1 2), .int (x.1 2 2), .int (x.1 3 2), .int (x.1 4 2)])), ((ad 12), .inl (g.2.1 0, 20, .inl k.2.2.1)), ((ad 13), .inl (g.2.1 0, 20, .inl k.2.2.2))] (wR g ad k (cvF k 0 x)) rfl rfl (by decide) (by decide) (by decide) rfl (by decide) 0 rfl rfl rfl rfl hl.1 (Nat.le_of_ble_eq_true rfl) ⟨Nat.le_of_ble_eq_true rfl, Nat.le_of_ble_eq_true rfl⟩ d_Ru_lookRound_32 ⟨Nat.zero_le _, Nat.zero_le _⟩ (fun H locs hP hD hS => ?_)
          refine lv_aload_n hx hb d_Ru_lookRound_35 rfl (lv_at hl 1 rfl) ?_
          refine va_get (D := g.1) (ci := 4) (v := .int ((cvF k 0 x).2.1 2)) (C := R_Ru) (T := F_Ru) (N := 8) hx hb hw i_Ru hown hE.1 hP 0 rfl rfl 4 (by decide) (hw _ q_164) (fun _ h9 => h9) rfl d_Ru_lookRound_36 ?_
          refine lv_iconst (v := (-1)) hx hb d_Ru_lookRound_39 (by decide) ?_
          refine lv_icmp_ne (tgt := 48) hx hb d_Ru_lookRound_40 (by decide) (fun c40_2 => ?_) (fun c40_2 => ?_)
          · refine lv_iinc (v := 1) (lv' := [(1, .int 1), (0, .ref (ad 0))]) hx hb d_Ru_lookRound_48 hl (k := 0) rfl (by decide) (by decide) rfl (fun ls hl => ?_)
            refine lv_goto (tgt := 2) hx hb d_Ru_lookRound_51 (by decide) ?_
            exact ih 1 (cvF k 0 x) _ _ _ (by omega) (by omega) (by omega) (it_back hlt h9 (if_neg c40_2)) hP hD hS (lv_sub hl [0, 1] rfl)
          · refine lv_aload_n hx hb d_Ru_lookRound_43 rfl (lv_at hl 1 rfl) ?_
            refine lv_iload_n hx hb d_Ru_lookRound_44 rfl (lv_at hl 0 rfl) ?_
            refine cvV C v_Ru_166 [.int 0] [] (c_Ru_lookForPoles_0 l g ad k (cvF k 0 x) np hp h20) hP hD hS [0, 1, 2, 3, 4, 5, 6, 7, 8, 9, 10, 11, 12, 13] [] [0, 1, 2, 3, 4, 5, 6, 7, 8, 9, 10, 11, 12, 13] [] (wR g ad k (polF k np 0 (cvF k 0 x))) rfl rfl (by decide) (by decide) (by decide) rfl (by decide) 0 rfl rfl rfl rfl hl.1 (Nat.le_of_ble_eq_true rfl) ⟨Nat.le_of_ble_eq_true rfl, Nat.le_of_ble_eq_true rfl⟩ d_Ru_lookRound_45 ⟨Nat.zero_le _, Nat.zero_le _⟩ (fun H locs hP hD hS => ?_)
            refine lv_iinc (v := 1) (lv' := [(1, .int 1), (0, .ref (ad 0))]) hx hb d_Ru_lookRound_48 hl (k := 0) rfl (by decide) (by decide) rfl (fun ls hl => ?_)
            refine lv_goto (tgt := 2) hx hb d_Ru_lookRound_51 (by decide) ?_
            exact ih 1 (polF k np 0 (cvF k 0 x)) _ _ _ (by omega) (by omega) (by omega) (it_back hlt h9 (if_pos c40_2)) hP hD hS (lv_sub hl [0, 1] rfl)
        · have hl : lv_has ls 2 [(1, .int 1), (0, .ref (ad 0))] := hl
          refine lv_aload_n hx hb d_Ru_lookRound_13 rfl (lv_at hl 1 rfl) ?_
          refine va_get (D := g.1) (ci := 4) (v := .ref (ad 10)) (C := R_Ru) (T := F_Ru) (N := 8) hx hb hw i_Ru hown hE.1 hP 0 rfl rfl 1 (by decide) (hw _ q_158) (fun _ h9 => h9) rfl d_Ru_lookRound_14 ?_
          refine lv_aload_n hx hb d_Ru_lookRound_17 rfl (lv_at hl 1 rfl) ?_
          refine va_get (D := g.1) (ci := 4) (v := .ref (ad 1)) (C := R_Ru) (T := F_Ru) (N := 8) hx hb hw i_Ru hown hE.1 hP 0 rfl rfl 7 (by decide) (hw _ q_170) (fun _ h9 => h9) rfl d_Ru_lookRound_18 ?_
          refine va_get (D := g.1) (ci := 5) (v := .ref (ad 2)) (C := R_Se) (T := F_Se) (N := 9) hx hb hw i_Se hown hE.1 hP 1 rfl rfl 0 (by decide) (hw _ q_65) (fun _ h9 => h9) rfl d_Ru_lookRound_21 ?_
          refine lv_iload_n hx hb d_Ru_lookRound_24 rfl (lv_at hl 0 rfl) ?_
          refine va_aldq hx hb hE.1 hP 2 3 rfl rfl (by unfold vp_in; decide) d_Ru_lookRound_25 ?_
          rw [show (1 : Int32).toNatClampNeg = 1 from by decide]
          refine lv_aload_n hx hb d_Ru_lookRound_26 rfl (lv_at hl 1 rfl) ?_
          refine va_get (D := g.1) (ci := 4) (v := .ref (ad 6)) (C := R_Ru) (T := F_Ru) (N := 8) hx hb hw i_Ru hown hE.1 hP 0 rfl rfl 0 (by decide) (hw _ q_156) (fun _ h9 => h9) rfl d_Ru_lookRound_27 ?_
          refine lv_iload_n hx hb d_Ru_lookRound_30 rfl (lv_at hl 0 rfl) ?_
          refine va_aldq hx hb hE.1 hP 6 4 rfl rfl (by unfold vp_in; decide) d_Ru_lookRound_31 ?_
          rw [show (1 : Int32).toNatClampNeg = 1 from by decide]
          refine cvV C v_Ru_162 [.ref (ad (3 + 1)), .ref (ad (7 + 1))] [] (c_Ce_cover l g (ad 10) (ad 11) (ad 4) (ad 8) k.1 x.1 1 x.2.2) hP hD hS [10, 11, 4, 8] [0, 1, 2, 3, 5, 6, 7, 9, 12, 13] [0, 1, 2, 3, 12, 4, 5, 6, 13, 7, 10, 11, 8, 9] [((ad 0), .inr (4, [.ref (ad 6), .ref (ad 10), .int (x.2.1 0), .int (x.2.1 1), .int (x.2.1 2), .int (x.2.1 3), .int (x.2.1 4), .ref (ad 1)])), ((ad 1), .inr (5, [.ref (ad 2), .ref (ad 12), .ref (ad 13), .int (k.2.1 0), .int (k.2.1 1), .int (k.2.1 2), .int (k.2.1 3), .int (k.2.1 4), .int (k.2.1 5)])), ((ad 2), .inl (g.2.1 3, 3, .inr (.inr (.inr (.inr (fun j => some (ad (3 + j)))))))), ((ad 3), .inr (6, [.int (k.1 0 0), .int (k.1 1 0), .int (k.1 2 0), .int (k.1 3 0), .int (k.1 4 0)])), ((ad 5), .inr (6, [.int (k.1 0 2), .int (k.1 1 2), .int (k.1 2 2), .int (k.1 3 2), .int (k.1 4 2)])), ((ad 6), .inl (g.2.1 4, 3, .inr (.inr (.inr (.inr (fun j => some (ad (7 + j)))))))), ((ad 7), .inr (3, [.int (x.1 0 0), .int (x.1 1 0), .int (x.1 2 0), .int (x.1 3 0), .int (x.1 4 0)])), ((ad 9), .inr (3, [.int (x.1 0 2), .int (x.1 1 2), .int (x.1 2 2), .int (x.1 3 2), .int (x.1 4 2)])), ((ad 12), .inl (g.2.1 0, 20, .inl k.2.2.1)), ((ad 13), .inl (g.2.1 0, 20, .inl k.2.2.2))] (wR g ad k (cvF k 1 x)) rfl rfl (by decide) (by decide) (by decide) rfl (by decide) 0 rfl rfl rfl rfl hl.1 (Nat.le_of_ble_eq_true rfl) ⟨Nat.le_of_ble_eq_true rfl, Nat.le_of_ble_eq_true rfl⟩ d_Ru_lookRound_32 ⟨Nat.zero_le _, Nat.zero_le _⟩ (fun H locs hP hD hS => ?_)
          refine lv_aload_n hx hb d_Ru_lookRound_35 rfl (lv_at hl 1 rfl) ?_
          refine va_get (D := g.1) (ci := 4) (v := .int ((cvF k 1 x).2.1 2)) (C := R_Ru) (T := F_Ru) (N := 8) hx hb hw i_Ru hown hE.1 hP 0 rfl rfl 4 (by decide) (hw _ q_164) (fun _ h9 => h9) rfl d_Ru_lookRound_36 ?_
          refine lv_iconst (v := (-1)) hx hb d_Ru_lookRound_39 (by decide) ?_
          refine lv_icmp_ne (tgt := 48) hx hb d_Ru_lookRound_40 (by decide) (fun c40_3 => ?_) (fun c40_3 => ?_)
          · refine lv_iinc (v := 2) (lv' := [(1, .int 2), (0, .ref (ad 0))]) hx hb d_Ru_lookRound_48 hl (k := 0) rfl (by decide) (by decide) rfl (fun ls hl => ?_)
            refine lv_goto (tgt := 2) hx hb d_Ru_lookRound_51 (by decide) ?_
            exact ih 2 (cvF k 1 x) _ _ _ (by omega) (by omega) (by omega) (it_back hlt h9 (if_neg c40_3)) hP hD hS (lv_sub hl [0, 1] rfl)
          · refine lv_aload_n hx hb d_Ru_lookRound_43 rfl (lv_at hl 1 rfl) ?_
            refine lv_iload_n hx hb d_Ru_lookRound_44 rfl (lv_at hl 0 rfl) ?_
            refine cvV C v_Ru_166 [.int 1] [] (c_Ru_lookForPoles_1 l g ad k (cvF k 1 x) np hp h20) hP hD hS [0, 1, 2, 3, 4, 5, 6, 7, 8, 9, 10, 11, 12, 13] [] [0, 1, 2, 3, 4, 5, 6, 7, 8, 9, 10, 11, 12, 13] [] (wR g ad k (polF k np 1 (cvF k 1 x))) rfl rfl (by decide) (by decide) (by decide) rfl (by decide) 0 rfl rfl rfl rfl hl.1 (Nat.le_of_ble_eq_true rfl) ⟨Nat.le_of_ble_eq_true rfl, Nat.le_of_ble_eq_true rfl⟩ d_Ru_lookRound_45 ⟨Nat.zero_le _, Nat.zero_le _⟩ (fun H locs hP hD hS => ?_)
            refine lv_iinc (v := 2) (lv' := [(1, .int 2), (0, .ref (ad 0))]) hx hb d_Ru_lookRound_48 hl (k := 0) rfl (by decide) (by decide) rfl (fun ls hl => ?_)
            refine lv_goto (tgt := 2) hx hb d_Ru_lookRound_51 (by decide) ?_
            exact ih 2 (polF k np 1 (cvF k 1 x)) _ _ _ (by omega) (by omega) (by omega) (it_back hlt h9 (if_pos c40_3)) hP hD hS (lv_sub hl [0, 1] rfl)
        · have hl : lv_has ls 2 [(1, .int 2), (0, .ref (ad 0))] := hl
          refine lv_aload_n hx hb d_Ru_lookRound_13 rfl (lv_at hl 1 rfl) ?_
          refine va_get (D := g.1) (ci := 4) (v := .ref (ad 10)) (C := R_Ru) (T := F_Ru) (N := 8) hx hb hw i_Ru hown hE.1 hP 0 rfl rfl 1 (by decide) (hw _ q_158) (fun _ h9 => h9) rfl d_Ru_lookRound_14 ?_
          refine lv_aload_n hx hb d_Ru_lookRound_17 rfl (lv_at hl 1 rfl) ?_
          refine va_get (D := g.1) (ci := 4) (v := .ref (ad 1)) (C := R_Ru) (T := F_Ru) (N := 8) hx hb hw i_Ru hown hE.1 hP 0 rfl rfl 7 (by decide) (hw _ q_170) (fun _ h9 => h9) rfl d_Ru_lookRound_18 ?_
          refine va_get (D := g.1) (ci := 5) (v := .ref (ad 2)) (C := R_Se) (T := F_Se) (N := 9) hx hb hw i_Se hown hE.1 hP 1 rfl rfl 0 (by decide) (hw _ q_65) (fun _ h9 => h9) rfl d_Ru_lookRound_21 ?_
          refine lv_iload_n hx hb d_Ru_lookRound_24 rfl (lv_at hl 0 rfl) ?_
          refine va_aldq hx hb hE.1 hP 2 3 rfl rfl (by unfold vp_in; decide) d_Ru_lookRound_25 ?_
          rw [show (2 : Int32).toNatClampNeg = 2 from by decide]
          refine lv_aload_n hx hb d_Ru_lookRound_26 rfl (lv_at hl 1 rfl) ?_
          refine va_get (D := g.1) (ci := 4) (v := .ref (ad 6)) (C := R_Ru) (T := F_Ru) (N := 8) hx hb hw i_Ru hown hE.1 hP 0 rfl rfl 0 (by decide) (hw _ q_156) (fun _ h9 => h9) rfl d_Ru_lookRound_27 ?_
          refine lv_iload_n hx hb d_Ru_lookRound_30 rfl (lv_at hl 0 rfl) ?_
          refine va_aldq hx hb hE.1 hP 6 4 rfl rfl (by unfold vp_in; decide) d_Ru_lookRound_31 ?_
          rw [show (2 : Int32).toNatClampNeg = 2 from by decide]
          refine cvV C v_Ru_162 [.ref (ad (3 + 2)), .ref (ad (7 + 2))] [] (c_Ce_cover l g (ad 10) (ad 11) (ad 5) (ad 9) k.1 x.1 2 x.2.2) hP hD hS [10, 11, 5, 9] [0, 1, 2, 3, 4, 6, 7, 8, 12, 13] [0, 1, 2, 3, 4, 12, 5, 6, 7, 13, 10, 11, 8, 9] [((ad 0), .inr (4, [.ref (ad 6), .ref (ad 10), .int (x.2.1 0), .int (x.2.1 1), .int (x.2.1 2), .int (x.2.1 3), .int (x.2.1 4), .ref (ad 1)])), ((ad 1), .inr (5, [.ref (ad 2), .ref (ad 12), .ref (ad 13), .int (k.2.1 0), .int (k.2.1 1), .int (k.2.1 2), .int (k.2.1 3), .int (k.2.1 4), .int (k.2.1 5)])), ((ad 2), .inl (g.2.1 3, 3, .inr (.inr (.inr (.inr (fun j => some (ad (3 + j)))))))), ((ad 3), .inr (6, [.int (k.1 0 0), .int (k.1 1 0), .int (k.1 2 0), .int (k.1 3 0), .int (k.1 4 0)])), ((ad 4), .inr (6, [.int (k.1 0 1), .int (k.1 1 1), .int (k.1 2 1), .int (k.1 3 1), .int (k.1 4 1)])), ((ad 6), .inl (g.2.1 4, 3, .inr (.inr (.inr (.inr (fun j => some (ad (7 + j)))))))), ((ad 7), .inr (3, [.int (x.1 0 0), .int (x.1 1 0), .int (x.1 2 0), .int (x.1 3 0), .int (x.1 4 0)])), ((ad 8), .inr (3, [.int (x.1 0 1), .int (x.1 1 1), .int (x.1 2 1), .int (x.1 3 1), .int (x.1 4 1)])), ((ad 12), .inl (g.2.1 0, 20, .inl k.2.2.1)), ((ad 13), .inl (g.2.1 0, 20, .inl k.2.2.2))] (wR g ad k (cvF k 2 x)) rfl rfl (by decide) (by decide) (by decide) rfl (by decide) 0 rfl rfl rfl rfl hl.1 (Nat.le_of_ble_eq_true rfl) ⟨Nat.le_of_ble_eq_true rfl, Nat.le_of_ble_eq_true rfl⟩ d_Ru_lookRound_32 ⟨Nat.zero_le _, Nat.zero_le _⟩ (fun H locs hP hD hS => ?_)
          refine lv_aload_n hx hb d_Ru_lookRound_35 rfl (lv_at hl 1 rfl) ?_
          refine va_get (D := g.1) (ci := 4) (v := .int ((cvF k 2 x).2.1 2)) (C := R_Ru) (T := F_Ru) (N := 8) hx hb hw i_Ru hown hE.1 hP 0 rfl rfl 4 (by decide) (hw _ q_164) (fun _ h9 => h9) rfl d_Ru_lookRound_36 ?_
          refine lv_iconst (v := (-1)) hx hb d_Ru_lookRound_39 (by decide) ?_
          refine lv_icmp_ne (tgt := 48) hx hb d_Ru_lookRound_40 (by decide) (fun c40_4 => ?_) (fun c40_4 => ?_)
          · refine lv_iinc (v := 3) (lv' := [(1, .int 3), (0, .ref (ad 0))]) hx hb d_Ru_lookRound_48 hl (k := 0) rfl (by decide) (by decide) rfl (fun ls hl => ?_)
            refine lv_goto (tgt := 2) hx hb d_Ru_lookRound_51 (by decide) ?_
            exact ih 3 (cvF k 2 x) _ _ _ (by omega) (by omega) (by omega) (it_back hlt h9 (if_neg c40_4)) hP hD hS (lv_sub hl [0, 1] rfl)
          · refine lv_aload_n hx hb d_Ru_lookRound_43 rfl (lv_at hl 1 rfl) ?_
            refine lv_iload_n hx hb d_Ru_lookRound_44 rfl (lv_at hl 0 rfl) ?_
            refine cvV C v_Ru_166 [.int 2] [] (c_Ru_lookForPoles_2 l g ad k (cvF k 2 x) np hp h20) hP hD hS [0, 1, 2, 3, 4, 5, 6, 7, 8, 9, 10, 11, 12, 13] [] [0, 1, 2, 3, 4, 5, 6, 7, 8, 9, 10, 11, 12, 13] [] (wR g ad k (polF k np 2 (cvF k 2 x))) rfl rfl (by decide) (by decide) (by decide) rfl (by decide) 0 rfl rfl rfl rfl hl.1 (Nat.le_of_ble_eq_true rfl) ⟨Nat.le_of_ble_eq_true rfl, Nat.le_of_ble_eq_true rfl⟩ d_Ru_lookRound_45 ⟨Nat.zero_le _, Nat.zero_le _⟩ (fun H locs hP hD hS => ?_)
            refine lv_iinc (v := 3) (lv' := [(1, .int 3), (0, .ref (ad 0))]) hx hb d_Ru_lookRound_48 hl (k := 0) rfl (by decide) (by decide) rfl (fun ls hl => ?_)
            refine lv_goto (tgt := 2) hx hb d_Ru_lookRound_51 (by decide) ?_
            exact ih 3 (polF k np 2 (cvF k 2 x)) _ _ _ (by omega) (by omega) (by omega) (it_back hlt h9 (if_pos c40_4)) hP hD hS (lv_sub hl [0, 1] rfl)
  exact lp (n + 2) 0 x _ _ _ (by omega) (by omega) (by omega) h9 hP hD hS (lv_sub hl [0, 1] rfl)
end
section
/-- a plan: turns, steps, forwards; how many parts -/
abbrev PLN : Type := (Nat → Int32) × (Nat → Int32) × (Nat → Int32) × Int32
abbrev qPlan (a0 a1 a2 a3 : Nat) (q : PLN) : Nat × va_E := (a0, .inr (2, [.ref a1, .ref a2, .ref a3, .int q.2.2.2]))
def wF (g : Glob) (ad : Nat → Nat) (k : CFG) (x : RS) (q : PLN) : va_W := wR g ad k x ++ [qPlan (ad 14) (ad 15) (ad 16) (ad 17) q, qInts (ad 15) (g.2.1 0) 6 q.1, qInts (ad 16) (g.2.1 0) 6 q.2.1, (ad 17, .inl (g.2.1 2, 6, .inl q.2.2.1))]
def partF (k : CFG) (n np : Nat) (q : PLN) (i : Nat) (x : RS) : RS := walkF k n np (q.1 i) (q.2.1 i).toNatClampNeg (q.2.2.1 i) x
def followF (k : CFG) (n np : Nat) (q : PLN) (m : Nat) (x : RS) : RS := itF (partF k n np q) m 0 (begF k n np x)
def faultI (x : RS) : Int32 := if x.2.1 1 = 0 then (if x.2.1 2 = -1 then 1 else 0) else 0
theorem faultI_01 (x : RS) : faultI x = 0 ∨ faultI x = 1 := by
  unfold faultI
  split
  · split <;> simp
  · simp
theorem clampI {a : Int32} (h : ¬ a < 0) : a = nI a.toNatClampNeg := by
  obtain ⟨j, hj, e⟩ := nI_of h
  rw [e, nI_clamp hj]

set_option maxHeartbeats 4000000 in
set_option maxRecDepth 100000 in
theorem c_Ru_isFaultless (l : Launch) (g : Glob) (ad : Nat → Nat) (k : CFG) (x : RS) : CI l g y_Ru_isFaultless b_Ru_isFaultless 1 (some .boolean) 0 0 [.ref (ad 0)] (wR g ad k x) (faultI x) (wR g ad k x) := by
  refine CI.of .boolean rfl (nar01 (faultI_01 _)) (by decide +kernel) (Nat.le_of_ble_eq_true rfl) ?_
  intro p e s m below meth c A Q ls C hP hD hl hret hS
  obtain ⟨hx, hb, hml, hown, hw, hE, hA⟩ := id C
  have hl : lv_has ls 1 [(0, .ref (ad 0))] := hl
  refine lv_aload_n hx hb d_Ru_isFaultless_0 rfl (lv_at hl 0 rfl) ?_
  refine va_get (D := g.1) (ci := 4) (v := .int (x.2.1 1)) (C := R_Ru) (T := F_Ru) (N := 8) hx hb hw i_Ru hown hE.1 hP 0 rfl rfl 3 (by decide) (hw _ q_162) (fun _ h9 => h9) rfl d_Ru_isFaultless_1 ?_
  refine lv_if_ne (tgt := 19) hx hb d_Ru_isFaultless_4 (by decide) (fun c4_1 => ?_) (fun c4_1 => ?_)
  · refine lv_iconst (v := 0) hx hb d_Ru_isFaultless_19 (by decide) ?_
    exact hret _ _ _ _ _ _ ((if_neg c4_1).symm) rfl hP hD hS d_Ru_isFaultless_20
  · refine lv_aload_n hx hb d_Ru_isFaultless_7 rfl (lv_at hl 0 rfl) ?_
    refine va_get (D := g.1) (ci := 4) (v := .int (x.2.1 2)) (C := R_Ru) (T := F_Ru) (N := 8) hx hb hw i_Ru hown hE.1 hP 0 rfl rfl 4 (by decide) (hw _ q_164) (fun _ h9 => h9) rfl d_Ru_isFaultless_8 ?_
    refine lv_iconst (v := (-1)) hx hb d_Ru_isFaultless_11 (by decide) ?_
    refine lv_icmp_ne (tgt := 19) hx hb d_Ru_isFaultless_12 (by decide) (fun c12_2 => ?_) (fun c12_2 => ?_)
    · refine lv_iconst (v := 0) hx hb d_Ru_isFaultless_19 (by decide) ?_
      exact hret _ _ _ _ _ _ (((if_pos c4_1).trans (if_neg c12_2)).symm) rfl hP hD hS d_Ru_isFaultless_20
    · refine lv_iconst (v := 1) hx hb d_Ru_isFaultless_15 (by decide) ?_
      refine lv_goto (tgt := 20) hx hb d_Ru_isFaultless_16 (by decide) ?_
      exact hret _ _ _ _ _ _ (((if_pos c4_1).trans (if_pos c12_2)).symm) rfl hP hD hS d_Ru_isFaultless_20
set_option maxHeartbeats 4000000 in
set_option maxRecDepth 100000 in
theorem c_Ru_move (l : Launch) (g : Glob) (ad : Nat → Nat) (k : CFG) (x : RS) (n : Nat) (hn : k.2.1 0 = nI n) (h3 : n ≤ 3) (turn way : Int32) : CV l g y_Ru_move b_Ru_move 5 3 68 [.ref (ad 0), .int turn, .int way] (wR g ad k x) (wR g ad k (moveF k n turn way x)) := by
  refine CV.of (by decide +kernel) (Nat.le_of_ble_eq_true rfl) ?_
  intro p e s m below meth c A Q ls C hP hD hl hret hS
  obtain ⟨hx, hb, hml, hown, hw, hE, hA⟩ := id C
  have hl : lv_has ls 5 [(0, .ref (ad 0)), (1, .int turn), (2, .int way)] := hl
  unfold moveF at hret
  generalize h9 : itF (swF k way) n 1 (mv0 turn way x) = x9 at hret
  refine lv_aload_n hx hb d_Ru_move_0 rfl (lv_at hl 0 rfl) ?_
  refine va_get (D := g.1) (ci := 4) (v := .ref (ad 6)) (C := R_Ru) (T := F_Ru) (N := 8) hx hb hw i_Ru hown hE.1 hP 0 rfl rfl 0 (by decide) (hw _ q_156) (fun _ h9 => h9) rfl d_Ru_move_1 ?_
  refine lv_iconst (v := 0) hx hb d_Ru_move_4 (by decide) ?_
  refine va_aldq hx hb hE.1 hP 6 4 rfl rfl (by unfold vp_in; decide) d_Ru_move_5 ?_
  rw [show (0 : Int32).toNatClampNeg = 0 from by decide]
  refine lv_astore_n (lv' := [(3, .ref (ad (7 + 0))), (0, .ref (ad 0)), (1, .int turn), (2, .int way)]) hx hb d_Ru_move_6 rfl hl (by decide) rfl (fun ls hl => ?_)
  refine lv_aload_n hx hb d_Ru_move_7 rfl (lv_at hl 0 rfl) ?_
  refine lv_dup hx hb d_Ru_move_8 rfl ?_
  refine get_po C 0 0 (by decide) (by decide) rfl q_118 hP (x.1 0 0) rfl d_Ru_move_9 ?_
  refine lv_iload_n hx hb d_Ru_move_12 rfl (lv_at hl 3 rfl) ?_
  refine lv_aload_n hx hb d_Ru_move_13 rfl (lv_at hl 0 rfl) ?_
  refine get_po C 2 0 (by decide) (by decide) rfl q_124 hP (x.1 2 0) rfl d_Ru_move_14 ?_
  refine csI C v_Ru_123 [.int (x.1 2 0)] [.int way, .int (x.1 0 0), .ref (ad (7 + 0))] (c_Di_dx l g (x.1 2 0)) hP hS rfl rfl hl.1 (Nat.le_of_ble_eq_true rfl) ⟨Nat.le_of_ble_eq_true rfl, Nat.le_of_ble_eq_true rfl⟩ d_Ru_move_17 ⟨Nat.zero_le _, Nat.zero_le _⟩ (fun H locs hP hS => ?_)
  refine lv_imul hx hb d_Ru_move_20 ?_
  refine lv_iadd hx hb d_Ru_move_21 ?_
  refine put_po C 0 0 (by decide) (by decide) rfl q_118 hP hD hS d_Ru_move_22 (fun H locs hP hD hS => ?_)
  have hP : va_P g.1 classes (wR g ad k ((u2 x.1 0 0 ((x.1 0 0) + (way * (dX (x.1 2 0))))), x.2.1, x.2.2.1, x.2.2.2)) H := hP
  have hD : va_D A (wR g ad k ((u2 x.1 0 0 ((x.1 0 0) + (way * (dX (x.1 2 0))))), x.2.1, x.2.2.1, x.2.2.2)) := hD
  refine lv_aload_n hx hb d_Ru_move_25 rfl (lv_at hl 0 rfl) ?_
  refine lv_dup hx hb d_Ru_move_26 rfl ?_
  refine get_po C 1 0 (by decide) (by decide) rfl q_121 hP (x.1 1 0) (u2_k (σ := x.1) (k := 0) (b := 0) (x := ((x.1 0 0) + (way * (dX (x.1 2 0))))) (i := 1) (j := 0) (by decide)) d_Ru_move_27 ?_
  refine lv_iload_n hx hb d_Ru_move_30 rfl (lv_at hl 3 rfl) ?_
  refine lv_aload_n hx hb d_Ru_move_31 rfl (lv_at hl 0 rfl) ?_
  refine get_po C 2 0 (by decide) (by decide) rfl q_124 hP (x.1 2 0) (u2_k (σ := x.1) (k := 0) (b := 0) (x := ((x.1 0 0) + (way * (dX (x.1 2 0))))) (i := 2) (j := 0) (by decide)) d_Ru_move_32 ?_
  refine csI C v_Ru_127 [.int (x.1 2 0)] [.int way, .int (x.1 1 0), .ref (ad (7 + 0))] (c_Di_dy l g (x.1 2 0)) hP hS rfl rfl hl.1 (Nat.le_of_ble_eq_true rfl) ⟨Nat.le_of_ble_eq_true rfl, Nat.le_of_ble_eq_true rfl⟩ d_Ru_move_35 ⟨Nat.zero_le _, Nat.zero_le _⟩ (fun H locs hP hS => ?_)
  refine lv_imul hx hb d_Ru_move_38 ?_
  refine lv_iadd hx hb d_Ru_move_39 ?_
  refine put_po C 1 0 (by decide) (by decide) rfl q_121 hP hD hS d_Ru_move_40 (fun H locs hP hD hS => ?_)
  have hP : va_P g.1 classes (wR g ad k ((u2 (u2 x.1 0 0 ((x.1 0 0) + (way * (dX (x.1 2 0))))) 1 0 ((x.1 1 0) + (way * (dY (x.1 2 0))))), x.2.1, x.2.2.1, x.2.2.2)) H := hP
  have hD : va_D A (wR g ad k ((u2 (u2 x.1 0 0 ((x.1 0 0) + (way * (dX (x.1 2 0))))) 1 0 ((x.1 1 0) + (way * (dY (x.1 2 0))))), x.2.1, x.2.2.1, x.2.2.2)) := hD
  refine lv_aload_n hx hb d_Ru_move_43 rfl (lv_at hl 0 rfl) ?_
  refine lv_aload_n hx hb d_Ru_move_44 rfl (lv_at hl 0 rfl) ?_
  refine get_po C 2 0 (by decide) (by decide) rfl q_124 hP (x.1 2 0) ((u2_k (σ := (u2 x.1 0 0 ((x.1 0 0) + (way * (dX (x.1 2 0)))))) (k := 1) (b := 0) (x := ((x.1 1 0) + (way * (dY (x.1 2 0))))) (i := 2) (j := 0) (by decide)).trans (u2_k (σ := x.1) (k := 0) (b := 0) (x := ((x.1 0 0) + (way * (dX (x.1 2 0))))) (i := 2) (j := 0) (by decide))) d_Ru_move_45 ?_
  refine lv_iload_n hx hb d_Ru_move_48 rfl (lv_at hl 2 rfl) ?_
  refine lv_iadd hx hb d_Ru_move_49 ?_
  refine csI C v_Ru_130 [.int ((x.1 2 0) + turn)] [.ref (ad (7 + 0))] (c_Di_round l g ((x.1 2 0) + turn)) hP hS rfl rfl hl.1 (Nat.le_of_ble_eq_true rfl) ⟨Nat.le_of_ble_eq_true rfl, Nat.le_of_ble_eq_true rfl⟩ d_Ru_move_50 ⟨Nat.zero_le _, Nat.zero_le _⟩ (fun H locs hP hS => ?_)
  refine put_po C 2 0 (by decide) (by decide) rfl q_124 hP hD hS d_Ru_move_53 (fun H locs hP hD hS => ?_)
  have hP : va_P g.1 classes (wR g ad k ((u2 (u2 (u2 x.1 0 0 ((x.1 0 0) + (way * (dX (x.1 2 0))))) 1 0 ((x.1 1 0) + (way * (dY (x.1 2 0))))) 2 0 (((x.1 2 0) + turn) &&& 63)), x.2.1, x.2.2.1, x.2.2.2)) H := hP
  have hD : va_D A (wR g ad k ((u2 (u2 (u2 x.1 0 0 ((x.1 0 0) + (way * (dX (x.1 2 0))))) 1 0 ((x.1 1 0) + (way * (dY (x.1 2 0))))) 2 0 (((x.1 2 0) + turn) &&& 63)), x.2.1, x.2.2.1, x.2.2.2)) := hD
  refine lv_iconst (v := 1) hx hb d_Ru_move_56 (by decide) ?_
  refine lv_istore (lv' := [(4, .int 1), (3, .ref (ad (7 + 0))), (0, .ref (ad 0)), (1, .int turn), (2, .int way)]) hx hb d_Ru_move_57 hl (by decide) rfl (fun ls hl => ?_)
  have lp : ∀ (j : Nat) (i : Nat) (x : RS) (H : Heap) (locs : List Loc) (ls : Array Slot), 1 ≤ i → i ≤ n + 1 → n + 1 < i + j → itF (swF k way) n i x = x9 → va_P g.1 classes (wR g ad k x) H → va_D A (wR g ad k x) → va_S A s.heap H locs → lv_has ls 5 [(4, .int (nI i)), (0, .ref (ad 0)), (1, .int turn), (2, .int way)] → W p l e { frames := 3, cells := 0, slots := 0, locals := 68 } s m ([.ref (ad 0), .int turn, .int way] : List Value).toArray below meth c H locs 0 0 Q (F0 m 59 ls []) := by
    intro j
    induction j with
    | zero =>
      intro i x H locs ls hlo hi hj h9 hP hD hS hl
      exact absurd trivial (by omega)
    | succ j ih =>
      intro i x H locs ls hlo hi hj h9 hP hD hS hl
      refine lv_iload hx hb d_Ru_move_59 (lv_at hl 0 rfl) ?_
      refine lv_aload_n hx hb d_Ru_move_61 rfl (lv_at hl 1 rfl) ?_
      refine va_get (D := g.1) (ci := 4) (v := .ref (ad 1)) (C := R_Ru) (T := F_Ru) (N := 8) hx hb hw i_Ru hown hE.1 hP 0 rfl rfl 7 (by decide) (hw _ q_170) (fun _ h9 => h9) rfl d_Ru_move_62 ?_
      refine va_get (D := g.1) (ci := 5) (v := .int (k.2.1 0)) (C := R_Se) (T := F_Se) (N := 9) hx hb hw i_Se hown hE.1 hP 1 rfl rfl 3 (by decide) (hw _ q_72) (fun _ h9 => h9) rfl d_Ru_move_65 ?_
      refine lv_icmp_ge (tgt := 84) hx hb d_Ru_move_68 (by decide) (fun c68_1 => ?_) (fun c68_1 => ?_)
      · have hge := ge_of_le hn h3 hi c68_1
        have h9 := (itF_end hge).symm.trans h9
        subst h9
        refine lv_aload_n hx hb d_Ru_move_84 rfl (lv_at hl 1 rfl) ?_
        refine cvV C v_Ru_78 [] [] (c_Ru_placeTrailers l g ad k x n hn h3) hP hD hS [0, 1, 2, 3, 4, 5, 6, 7, 8, 9, 10, 11, 12, 13] [] [0, 1, 2, 3, 4, 5, 6, 7, 8, 9, 10, 11, 12, 13] [] (wR g ad k (itF (plF k) n 1 x)) rfl rfl (by decide) (by decide) (by decide) rfl (by decide) 0 rfl rfl rfl rfl hl.1 (Nat.le_of_ble_eq_true rfl) ⟨Nat.le_of_ble_eq_true rfl, Nat.le_of_ble_eq_true rfl⟩ d_Ru_move_85 ⟨Nat.zero_le _, Nat.zero_le _⟩ (fun H locs hP hD hS => ?_)
        refine lv_aload_n hx hb d_Ru_move_88 rfl (lv_at hl 1 rfl) ?_
        refine lv_dup hx hb d_Ru_move_89 rfl ?_
        refine va_get (D := g.1) (ci := 4) (v := .int ((itF (plF k) n 1 x).2.1 0)) (C := R_Ru) (T := F_Ru) (N := 8) hx hb hw i_Ru hown hE.1 hP 0 rfl rfl 2 (by decide) (hw _ q_160) (fun _ h9 => h9) rfl d_Ru_move_90 ?_
        refine lv_iconst (v := 1) hx hb d_Ru_move_93 (by decide) ?_
        refine lv_iadd hx hb d_Ru_move_94 ?_
        refine va_put (D := g.1) (ci := 4) (v := .int (((itF (plF k) n 1 x).2.1 0) + 1)) (ty := .int) (C := R_Ru) (T := F_Ru) (N := 8) hx hb hw i_Ru t_Ru t_Ru_ok n_Ru hown hE.1 hP hD hS 0 rfl rfl 2 (by decide) (hw _ q_160) (fun _ h9 => h9) rfl (by decide +kernel) rfl rfl (Nat.le_of_ble_eq_true rfl) d_Ru_move_95 (fun H locs hP hD hS => ?_)
        have hP : va_P g.1 classes (wR g ad k ((itF (plF k) n 1 x).1, (upd (itF (plF k) n 1 x).2.1 0 (((itF (plF k) n 1 x).2.1 0) + 1)), (itF (plF k) n 1 x).2.2.1, (itF (plF k) n 1 x).2.2.2)) H := hP
        have hD : va_D A (wR g ad k ((itF (plF k) n 1 x).1, (upd (itF (plF k) n 1 x).2.1 0 (((itF (plF k) n 1 x).2.1 0) + 1)), (itF (plF k) n 1 x).2.2.1, (itF (plF k) n 1 x).2.2.2)) := hD
        exact hret _ _ _ _ _ rfl hP hD hS d_Ru_move_98
      · have hlt := lt_of_nle hn h3 hi c68_1
        rcases (show i = 1 ∨ i = 2 by omega) with rfl | rfl
        · have hl : lv_has ls 5 [(4, .int 1), (0, .ref (ad 0)), (1, .int turn), (2, .int way)] := hl
          refine lv_aload_n hx hb d_Ru_move_71 rfl (lv_at hl 1 rfl) ?_
          refine lv_iload hx hb d_Ru_move_72 (lv_at hl 0 rfl) ?_
          refine lv_iload_n hx hb d_Ru_move_74 rfl (lv_at hl 3 rfl) ?_
          refine cvV C v_Ru_133 [.int 1, .int way] [] (c_Ru_swing_1 l g ad k x way) hP hD hS [0, 1, 2, 3, 4, 5, 6, 7, 8, 9, 10, 11, 12, 13] [] [0, 1, 2, 3, 4, 5, 6, 7, 8, 9, 10, 11, 12, 13] [] (wR g ad k (swF k way 1 x)) rfl rfl (by decide) (by decide) (by decide) rfl (by decide) 0 rfl rfl rfl rfl hl.1 (Nat.le_of_ble_eq_true rfl) ⟨Nat.le_of_ble_eq_true rfl, Nat.le_of_ble_eq_true rfl⟩ d_Ru_move_75 ⟨Nat.zero_le _, Nat.zero_le _⟩ (fun H locs hP hD hS => ?_)
          refine lv_iinc (v := 2) (lv' := [(4, .int 2), (0, .ref (ad 0)), (1, .int turn), (2, .int way)]) hx hb d_Ru_move_78 hl (k := 0) rfl (by decide) (by decide) rfl (fun ls hl => ?_)
          refine lv_goto (tgt := 59) hx hb d_Ru_move_81 (by decide) ?_
          exact ih 2 (swF k way 1 x) _ _ _ (by omega) (by omega) (by omega) (it_back hlt h9 (rfl)) hP hD hS (lv_sub hl [0, 1, 2, 3] rfl)
        · have hl : lv_has ls 5 [(4, .int 2), (0, .ref (ad 0)), (1, .int turn), (2, .int way)] := hl
          refine lv_aload_n hx hb d_Ru_move_71 rfl (lv_at hl 1 rfl) ?_
          refine lv_iload hx hb d_Ru_move_72 (lv_at hl 0 rfl) ?_
          refine lv_iload_n hx hb d_Ru_move_74 rfl (lv_at hl 3 rfl) ?_
          refine cvV C v_Ru_133 [.int 2, .int way] [] (c_Ru_swing_2 l g ad k x way) hP hD hS [0, 1, 2, 3, 4, 5, 6, 7, 8, 9, 10, 11, 12, 13] [] [0, 1, 2, 3, 4, 5, 6, 7, 8, 9, 10, 11, 12, 13] [] (wR g ad k (swF k way 2 x)) rfl rfl (by decide) (by decide) (by decide) rfl (by decide) 0 rfl rfl rfl rfl hl.1 (Nat.le_of_ble_eq_true rfl) ⟨Nat.le_of_ble_eq_true rfl, Nat.le_of_ble_eq_true rfl⟩ d_Ru_move_75 ⟨Nat.zero_le _, Nat.zero_le _⟩ (fun H locs hP hD hS => ?_)
          refine lv_iinc (v := 3) (lv' := [(4, .int 3), (0, .ref (ad 0)), (1, .int turn), (2, .int way)]) hx hb d_Ru_move_78 hl (k := 0) rfl (by decide) (by decide) rfl (fun ls hl => ?_)
          refine lv_goto (tgt := 59) hx hb d_Ru_move_81 (by decide) ?_
          exact ih 3 (swF k way 2 x) _ _ _ (by omega) (by omega) (by omega) (it_back hlt h9 (rfl)) hP hD hS (lv_sub hl [0, 1, 2, 3] rfl)
  exact lp (n + 2) 1 ((u2 (u2 (u2 x.1 0 0 ((x.1 0 0) + (way * (dX (x.1 2 0))))) 1 0 ((x.1 1 0) + (way * (dY (x.1 2 0))))) 2 0 (((x.1 2 0) + turn) &&& 63)), x.2.1, x.2.2.1, x.2.2.2) _ _ _ (by omega) (by omega) (by omega) h9 hP hD hS (lv_sub hl [0, 2, 3, 4] rfl)
set_option maxHeartbeats 4000000 in
set_option maxRecDepth 100000 in
theorem c_Ru_begin (l : Launch) (g : Glob) (ad : Nat → Nat) (k : CFG) (x : RS) (n : Nat) (hn : k.2.1 0 = nI n) (h3 : n ≤ 3) (np : Nat) (hp : k.2.1 1 = nI np) (h20 : np ≤ 20) : CV l g y_Ru_begin b_Ru_begin 3 4 107 [.ref (ad 0)] (wR g ad k x) (wR g ad k (begF k n np x)) := by
  refine CV.of (by decide +kernel) (Nat.le_of_ble_eq_true rfl) ?_
  intro p e s m below meth c A Q ls C hP hD hl hret hS
  obtain ⟨hx, hb, hml, hown, hw, hE, hA⟩ := id C
  have hl : lv_has ls 3 [(0, .ref (ad 0))] := hl
  unfold begF at hret
  generalize h9 : itF (bgF k) n 0 (bg0 x) = x9 at hret
  refine lv_aload_n hx hb d_Ru_begin_0 rfl (lv_at hl 0 rfl) ?_
  refine lv_iconst (v := 0) hx hb d_Ru_begin_1 (by decide) ?_
  refine va_put (D := g.1) (ci := 4) (v := .int 0) (ty := .int) (C := R_Ru) (T := F_Ru) (N := 8) hx hb hw i_Ru t_Ru t_Ru_ok n_Ru hown hE.1 hP hD hS 0 rfl rfl 2 (by decide) (hw _ q_160) (fun _ h9 => h9) rfl (by decide +kernel) rfl rfl (Nat.le_of_ble_eq_true rfl) d_Ru_begin_2 (fun H locs hP hD hS => ?_)
  have hP : va_P g.1 classes (wR g ad k (x.1, (upd x.2.1 0 0), x.2.2.1, x.2.2.2)) H := hP
  have hD : va_D A (wR g ad k (x.1, (upd x.2.1 0 0), x.2.2.1, x.2.2.2)) := hD
  refine lv_aload_n hx hb d_Ru_begin_5 rfl (lv_at hl 0 rfl) ?_
  refine lv_iconst (v := 0) hx hb d_Ru_begin_6 (by decide) ?_
  refine va_put (D := g.1) (ci := 4) (v := .int 0) (ty := .boolean) (C := R_Ru) (T := F_Ru) (N := 8) hx hb hw i_Ru t_Ru t_Ru_ok n_Ru hown hE.1 hP hD hS 0 rfl rfl 3 (by decide) (hw _ q_162) (fun _ h9 => h9) rfl (by decide +kernel) rfl rfl (Nat.le_of_ble_eq_true rfl) d_Ru_begin_7 (fun H locs hP hD hS => ?_)
  have hP : va_P g.1 classes (wR g ad k (x.1, (upd (upd x.2.1 0 0) 1 0), x.2.2.1, x.2.2.2)) H := hP
  have hD : va_D A (wR g ad k (x.1, (upd (upd x.2.1 0 0) 1 0), x.2.2.1, x.2.2.2)) := hD
  refine lv_aload_n hx hb d_Ru_begin_10 rfl (lv_at hl 0 rfl) ?_
  refine lv_iconst (v := (-1)) hx hb d_Ru_begin_11 (by decide) ?_
  refine va_put (D := g.1) (ci := 4) (v := .int (-1)) (ty := .int) (C := R_Ru) (T := F_Ru) (N := 8) hx hb hw i_Ru t_Ru t_Ru_ok n_Ru hown hE.1 hP hD hS 0 rfl rfl 4 (by decide) (hw _ q_164) (fun _ h9 => h9) rfl (by decide +kernel) rfl rfl (Nat.le_of_ble_eq_true rfl) d_Ru_begin_12 (fun H locs hP hD hS => ?_)
  have hP : va_P g.1 classes (wR g ad k (x.1, (upd (upd (upd x.2.1 0 0) 1 0) 2 (-1)), x.2.2.1, x.2.2.2)) H := hP
  have hD : va_D A (wR g ad k (x.1, (upd (upd (upd x.2.1 0 0) 1 0) 2 (-1)), x.2.2.1, x.2.2.2)) := hD
  refine lv_aload_n hx hb d_Ru_begin_15 rfl (lv_at hl 0 rfl) ?_
  refine lv_iconst (v := (-1)) hx hb d_Ru_begin_16 (by decide) ?_
  refine va_put (D := g.1) (ci := 4) (v := .int (-1)) (ty := .int) (C := R_Ru) (T := F_Ru) (N := 8) hx hb hw i_Ru t_Ru t_Ru_ok n_Ru hown hE.1 hP hD hS 0 rfl rfl 5 (by decide) (hw _ q_166) (fun _ h9 => h9) rfl (by decide +kernel) rfl rfl (Nat.le_of_ble_eq_true rfl) d_Ru_begin_17 (fun H locs hP hD hS => ?_)
  have hP : va_P g.1 classes (wR g ad k (x.1, (upd (upd (upd (upd x.2.1 0 0) 1 0) 2 (-1)) 3 (-1)), x.2.2.1, x.2.2.2)) H := hP
  have hD : va_D A (wR g ad k (x.1, (upd (upd (upd (upd x.2.1 0 0) 1 0) 2 (-1)) 3 (-1)), x.2.2.1, x.2.2.2)) := hD
  refine lv_aload_n hx hb d_Ru_begin_20 rfl (lv_at hl 0 rfl) ?_
  refine lv_iconst (v := (-1)) hx hb d_Ru_begin_21 (by decide) ?_
  refine va_put (D := g.1) (ci := 4) (v := .int (-1)) (ty := .int) (C := R_Ru) (T := F_Ru) (N := 8) hx hb hw i_Ru t_Ru t_Ru_ok n_Ru hown hE.1 hP hD hS 0 rfl rfl 6 (by decide) (hw _ q_168) (fun _ h9 => h9) rfl (by decide +kernel) rfl rfl (Nat.le_of_ble_eq_true rfl) d_Ru_begin_22 (fun H locs hP hD hS => ?_)
  have hP : va_P g.1 classes (wR g ad k (x.1, (upd (upd (upd (upd (upd x.2.1 0 0) 1 0) 2 (-1)) 3 (-1)) 4 (-1)), x.2.2.1, x.2.2.2)) H := hP
  have hD : va_D A (wR g ad k (x.1, (upd (upd (upd (upd (upd x.2.1 0 0) 1 0) 2 (-1)) 3 (-1)) 4 (-1)), x.2.2.1, x.2.2.2)) := hD
  refine lv_aload_n hx hb d_Ru_begin_25 rfl (lv_at hl 0 rfl) ?_
  refine va_get (D := g.1) (ci := 4) (v := .ref (ad 10)) (C := R_Ru) (T := F_Ru) (N := 8) hx hb hw i_Ru hown hE.1 hP 0 rfl rfl 1 (by decide) (hw _ q_158) (fun _ h9 => h9) rfl d_Ru_begin_26 ?_
  refine cvV C v_Ru_46 [] [] (c_Ce_wipe l g (ad 10) (ad 11) x.2.2) hP hD hS [10, 11] [0, 1, 2, 3, 4, 5, 6, 7, 8, 9, 12, 13] [0, 1, 2, 3, 4, 5, 6, 7, 8, 9, 12, 13, 10, 11] [((ad 0), .inr (4, [.ref (ad 6), .ref (ad 10), .int 0, .int 0, .int (-1), .int (-1), .int (-1), .ref (ad 1)])), ((ad 1), .inr (5, [.ref (ad 2), .ref (ad 12), .ref (ad 13), .int (k.2.1 0), .int (k.2.1 1), .int (k.2.1 2), .int (k.2.1 3), .int (k.2.1 4), .int (k.2.1 5)])), ((ad 2), .inl (g.2.1 3, 3, .inr (.inr (.inr (.inr (fun j => some (ad (3 + j)))))))), ((ad 3), .inr (6, [.int (k.1 0 0), .int (k.1 1 0), .int (k.1 2 0), .int (k.1 3 0), .int (k.1 4 0)])), ((ad 4), .inr (6, [.int (k.1 0 1), .int (k.1 1 1), .int (k.1 2 1), .int (k.1 3 1), .int (k.1 4 1)])), ((ad 5), .inr (6, [.int (k.1 0 2), .int (k.1 1 2), .int (k.1 2 2), .int (k.1 3 2), .int (k.1 4 2)])), ((ad 6), .inl (g.2.1 4, 3, .inr (.inr (.inr (.inr (fun j => some (ad (7 + j)))))))), ((ad 7), .inr (3, [.int (x.1 0 0), .int (x.1 1 0), .int (x.1 2 0), .int (x.1 3 0), .int (x.1 4 0)])), ((ad 8), .inr (3, [.int (x.1 0 1), .int (x.1 1 1), .int (x.1 2 1), .int (x.1 3 1), .int (x.1 4 1)])), ((ad 9), .inr (3, [.int (x.1 0 2), .int (x.1 1 2), .int (x.1 2 2), .int (x.1 3 2), .int (x.1 4 2)])), ((ad 12), .inl (g.2.1 0, 20, .inl k.2.2.1)), ((ad 13), .inl (g.2.1 0, 20, .inl k.2.2.2))] (wR g ad k (x.1, (upd (upd (upd (upd (upd x.2.1 0 0) 1 0) 2 (-1)) 3 (-1)) 4 (-1)), 0, (fun _ => 0))) rfl rfl (by decide) (by decide) (by decide) rfl (by decide) 0 rfl rfl rfl rfl hl.1 (Nat.le_of_ble_eq_true rfl) ⟨Nat.le_of_ble_eq_true rfl, Nat.le_of_ble_eq_true rfl⟩ d_Ru_begin_29 ⟨Nat.zero_le _, Nat.zero_le _⟩ (fun H locs hP hD hS => ?_)
  refine lv_iconst (v := 0) hx hb d_Ru_begin_32 (by decide) ?_
  refine lv_istore_n (lv' := [(1, .int 0), (0, .ref (ad 0))]) hx hb d_Ru_begin_33 rfl hl (by decide) rfl (fun ls hl => ?_)
  have lp : ∀ (j : Nat) (i : Nat) (x : RS) (H : Heap) (locs : List Loc) (ls : Array Slot), 0 ≤ i → i ≤ n + 1 → n + 1 < i + j → itF (bgF k) n i x = x9 → va_P g.1 classes (wR g ad k x) H → va_D A (wR g ad k x) → va_S A s.heap H locs → lv_has ls 3 [(1, .int (nI i)), (0, .ref (ad 0))] → W p l e { frames := 4, cells := 0, slots := 0, locals := 107 } s m ([.ref (ad 0)] : List Value).toArray below meth c H locs 0 0 Q (F0 m 34 ls []) := by
    intro j
    induction j with
    | zero =>
      intro i x H locs ls hlo hi hj h9 hP hD hS hl
      exact absurd trivial (by omega)
    | succ j ih =>
      intro i x H locs ls hlo hi hj h9 hP hD hS hl
      refine lv_iload_n hx hb d_Ru_begin_34 rfl (lv_at hl 0 rfl) ?_
      refine lv_aload_n hx hb d_Ru_begin_35 rfl (lv_at hl 1 rfl) ?_
      refine va_get (D := g.1) (ci := 4) (v := .ref (ad 1)) (C := R_Ru) (T := F_Ru) (N := 8) hx hb hw i_Ru hown hE.1 hP 0 rfl rfl 7 (by decide) (hw _ q_170) (fun _ h9 => h9) rfl d_Ru_begin_36 ?_
      refine va_get (D := g.1) (ci := 5) (v := .int (k.2.1 0)) (C := R_Se) (T := F_Se) (N := 9) hx hb hw i_Se hown hE.1 hP 1 rfl rfl 3 (by decide) (hw _ q_72) (fun _ h9 => h9) rfl d_Ru_begin_39 ?_
      refine lv_icmp_ge (tgt := 79) hx hb d_Ru_begin_42 (by decide) (fun c42_1 => ?_) (fun c42_1 => ?_)
      · have hge := ge_of_le hn h3 hi c42_1
        have h9 := (itF_end hge).symm.trans h9
        subst h9
        refine lv_aload_n hx hb d_Ru_begin_79 rfl (lv_at hl 1 rfl) ?_
        refine va_get (D := g.1) (ci := 4) (v := .ref (ad 6)) (C := R_Ru) (T := F_Ru) (N := 8) hx hb hw i_Ru hown hE.1 hP 0 rfl rfl 0 (by decide) (hw _ q_156) (fun _ h9 => h9) rfl d_Ru_begin_80 ?_
        refine lv_iconst (v := 0) hx hb d_Ru_begin_83 (by decide) ?_
        refine va_aldq hx hb hE.1 hP 6 4 rfl rfl (by unfold vp_in; decide) d_Ru_begin_84 ?_
        rw [show (0 : Int32).toNatClampNeg = 0 from by decide]
        refine lv_aload_n hx hb d_Ru_begin_85 rfl (lv_at hl 1 rfl) ?_
        refine va_get (D := g.1) (ci := 4) (v := .ref (ad 1)) (C := R_Ru) (T := F_Ru) (N := 8) hx hb hw i_Ru hown hE.1 hP 0 rfl rfl 7 (by decide) (hw _ q_170) (fun _ h9 => h9) rfl d_Ru_begin_86 ?_
        refine va_get (D := g.1) (ci := 5) (v := .int (k.2.1 2)) (C := R_Se) (T := F_Se) (N := 9) hx hb hw i_Se hown hE.1 hP 1 rfl rfl 5 (by decide) (hw _ q_76) (fun _ h9 => h9) rfl d_Ru_begin_89 ?_
        refine lv_sipush (v := 4096) hx hb d_Ru_begin_92 (by decide) ?_
        refine lv_imul hx hb d_Ru_begin_95 ?_
        refine put_po C 0 0 (by decide) (by decide) rfl q_118 hP hD hS d_Ru_begin_96 (fun H locs hP hD hS => ?_)
        have hP : va_P g.1 classes (wR g ad k ((u2 x.1 0 0 ((k.2.1 2) * 4096)), x.2.1, x.2.2.1, x.2.2.2)) H := hP
        have hD : va_D A (wR g ad k ((u2 x.1 0 0 ((k.2.1 2) * 4096)), x.2.1, x.2.2.1, x.2.2.2)) := hD
        refine lv_aload_n hx hb d_Ru_begin_99 rfl (lv_at hl 1 rfl) ?_
        refine va_get (D := g.1) (ci := 4) (v := .ref (ad 6)) (C := R_Ru) (T := F_Ru) (N := 8) hx hb hw i_Ru hown hE.1 hP 0 rfl rfl 0 (by decide) (hw _ q_156) (fun _ h9 => h9) rfl d_Ru_begin_100 ?_
        refine lv_iconst (v := 0) hx hb d_Ru_begin_103 (by decide) ?_
        refine va_aldq hx hb hE.1 hP 6 4 rfl rfl (by unfold vp_in; decide) d_Ru_begin_104 ?_
        rw [show (0 : Int32).toNatClampNeg = 0 from by decide]
        refine lv_aload_n hx hb d_Ru_begin_105 rfl (lv_at hl 1 rfl) ?_
        refine va_get (D := g.1) (ci := 4) (v := .ref (ad 1)) (C := R_Ru) (T := F_Ru) (N := 8) hx hb hw i_Ru hown hE.1 hP 0 rfl rfl 7 (by decide) (hw _ q_170) (fun _ h9 => h9) rfl d_Ru_begin_106 ?_
        refine va_get (D := g.1) (ci := 5) (v := .int (k.2.1 3)) (C := R_Se) (T := F_Se) (N := 9) hx hb hw i_Se hown hE.1 hP 1 rfl rfl 6 (by decide) (hw _ q_78) (fun _ h9 => h9) rfl d_Ru_begin_109 ?_
        refine lv_sipush (v := 4096) hx hb d_Ru_begin_112 (by decide) ?_
        refine lv_imul hx hb d_Ru_begin_115 ?_
        refine put_po C 1 0 (by decide) (by decide) rfl q_121 hP hD hS d_Ru_begin_116 (fun H locs hP hD hS => ?_)
        have hP : va_P g.1 classes (wR g ad k ((u2 (u2 x.1 0 0 ((k.2.1 2) * 4096)) 1 0 ((k.2.1 3) * 4096)), x.2.1, x.2.2.1, x.2.2.2)) H := hP
        have hD : va_D A (wR g ad k ((u2 (u2 x.1 0 0 ((k.2.1 2) * 4096)) 1 0 ((k.2.1 3) * 4096)), x.2.1, x.2.2.1, x.2.2.2)) := hD
        refine lv_aload_n hx hb d_Ru_begin_119 rfl (lv_at hl 1 rfl) ?_
        refine cvV C v_Ru_78 [] [] (c_Ru_placeTrailers l g ad k ((u2 (u2 x.1 0 0 ((k.2.1 2) * 4096)) 1 0 ((k.2.1 3) * 4096)), x.2.1, x.2.2.1, x.2.2.2) n hn h3) hP hD hS [0, 1, 2, 3, 4, 5, 6, 7, 8, 9, 10, 11, 12, 13] [] [0, 1, 2, 3, 4, 5, 6, 7, 8, 9, 10, 11, 12, 13] [] (wR g ad k (itF (plF k) n 1 ((u2 (u2 x.1 0 0 ((k.2.1 2) * 4096)) 1 0 ((k.2.1 3) * 4096)), x.2.1, x.2.2.1, x.2.2.2))) rfl rfl (by decide) (by decide) (by decide) rfl (by decide) 0 rfl rfl rfl rfl hl.1 (Nat.le_of_ble_eq_true rfl) ⟨Nat.le_of_ble_eq_true rfl, Nat.le_of_ble_eq_true rfl⟩ d_Ru_begin_120 ⟨Nat.zero_le _, Nat.zero_le _⟩ (fun H locs hP hD hS => ?_)
        refine lv_aload_n hx hb d_Ru_begin_123 rfl (lv_at hl 1 rfl) ?_
        refine cvV C v_Ru_81 [] [] (c_Ru_lookRound l g ad k (itF (plF k) n 1 ((u2 (u2 x.1 0 0 ((k.2.1 2) * 4096)) 1 0 ((k.2.1 3) * 4096)), x.2.1, x.2.2.1, x.2.2.2)) n hn h3 np hp h20) hP hD hS [0, 1, 2, 3, 4, 5, 6, 7, 8, 9, 10, 11, 12, 13] [] [0, 1, 2, 3, 4, 5, 6, 7, 8, 9, 10, 11, 12, 13] [] (wR g ad k (itF (lkF k np) n 0 (itF (plF k) n 1 ((u2 (u2 x.1 0 0 ((k.2.1 2) * 4096)) 1 0 ((k.2.1 3) * 4096)), x.2.1, x.2.2.1, x.2.2.2)))) rfl rfl (by decide) (by decide) (by decide) rfl (by decide) 0 rfl rfl rfl rfl hl.1 (Nat.le_of_ble_eq_true rfl) ⟨Nat.le_of_ble_eq_true rfl, Nat.le_of_ble_eq_true rfl⟩ d_Ru_begin_124 ⟨Nat.zero_le _, Nat.zero_le _⟩ (fun H locs hP hD hS => ?_)
        exact hret _ _ _ _ _ rfl hP hD hS d_Ru_begin_127
      · have hlt := lt_of_nle hn h3 hi c42_1
        rcases (show i = 0 ∨ i = 1 ∨ i = 2 by omega) with rfl | rfl | rfl
        · have hl : lv_has ls 3 [(1, .int 0), (0, .ref (ad 0))] := hl
          refine lv_aload_n hx hb d_Ru_begin_45 rfl (lv_at hl 1 rfl) ?_
          refine va_get (D := g.1) (ci := 4) (v := .ref (ad 6)) (C := R_Ru) (T := F_Ru) (N := 8) hx hb hw i_Ru hown hE.1 hP 0 rfl rfl 0 (by decide) (hw _ q_156) (fun _ h9 => h9) rfl d_Ru_begin_46 ?_
          refine lv_iload_n hx hb d_Ru_begin_49 rfl (lv_at hl 0 rfl) ?_
          refine va_aldq hx hb hE.1 hP 6 4 rfl rfl (by unfold vp_in; decide) d_Ru_begin_50 ?_
          rw [show (0 : Int32).toNatClampNeg = 0 from by decide]
          refine lv_astore_n (lv' := [(2, .ref (ad (7 + 0))), (1, .int 0), (0, .ref (ad 0))]) hx hb d_Ru_begin_51 rfl hl (by decide) rfl (fun ls hl => ?_)
          refine lv_aload_n hx hb d_Ru_begin_52 rfl (lv_at hl 0 rfl) ?_
          refine lv_aload_n hx hb d_Ru_begin_53 rfl (lv_at hl 2 rfl) ?_
          refine va_get (D := g.1) (ci := 4) (v := .ref (ad 1)) (C := R_Ru) (T := F_Ru) (N := 8) hx hb hw i_Ru hown hE.1 hP 0 rfl rfl 7 (by decide) (hw _ q_170) (fun _ h9 => h9) rfl d_Ru_begin_54 ?_
          refine va_get (D := g.1) (ci := 5) (v := .int (k.2.1 4)) (C := R_Se) (T := F_Se) (N := 9) hx hb hw i_Se hown hE.1 hP 1 rfl rfl 7 (by decide) (hw _ q_80) (fun _ h9 => h9) rfl d_Ru_begin_57 ?_
          refine put_po C 2 0 (by decide) (by decide) rfl q_124 hP hD hS d_Ru_begin_60 (fun H locs hP hD hS => ?_)
          have hP : va_P g.1 classes (wR g ad k ((u2 x.1 2 0 (k.2.1 4)), x.2.1, x.2.2.1, x.2.2.2)) H := hP
          have hD : va_D A (wR g ad k ((u2 x.1 2 0 (k.2.1 4)), x.2.1, x.2.2.1, x.2.2.2)) := hD
          refine lv_aload_n hx hb d_Ru_begin_63 rfl (lv_at hl 0 rfl) ?_
          refine lv_iconst (v := 0) hx hb d_Ru_begin_64 (by decide) ?_
          refine put_po C 3 0 (by decide) (by decide) rfl q_127 hP hD hS d_Ru_begin_65 (fun H locs hP hD hS => ?_)
          have hP : va_P g.1 classes (wR g ad k ((u2 (u2 x.1 2 0 (k.2.1 4)) 3 0 0), x.2.1, x.2.2.1, x.2.2.2)) H := hP
          have hD : va_D A (wR g ad k ((u2 (u2 x.1 2 0 (k.2.1 4)) 3 0 0), x.2.1, x.2.2.1, x.2.2.2)) := hD
          refine lv_aload_n hx hb d_Ru_begin_68 rfl (lv_at hl 0 rfl) ?_
          refine lv_iconst (v := 0) hx hb d_Ru_begin_69 (by decide) ?_
          refine put_po C 4 0 (by decide) (by decide) rfl q_128 hP hD hS d_Ru_begin_70 (fun H locs hP hD hS => ?_)
          have hP : va_P g.1 classes (wR g ad k ((u2 (u2 (u2 x.1 2 0 (k.2.1 4)) 3 0 0) 4 0 0), x.2.1, x.2.2.1, x.2.2.2)) H := hP
          have hD : va_D A (wR g ad k ((u2 (u2 (u2 x.1 2 0 (k.2.1 4)) 3 0 0) 4 0 0), x.2.1, x.2.2.1, x.2.2.2)) := hD
          refine lv_iinc (v := 1) (lv' := [(1, .int 1), (2, .ref (ad (7 + 0))), (0, .ref (ad 0))]) hx hb d_Ru_begin_73 hl (k := 1) rfl (by decide) (by decide) rfl (fun ls hl => ?_)
          refine lv_goto (tgt := 34) hx hb d_Ru_begin_76 (by decide) ?_
          exact ih 1 ((u2 (u2 (u2 x.1 2 0 (k.2.1 4)) 3 0 0) 4 0 0), x.2.1, x.2.2.1, x.2.2.2) _ _ _ (by omega) (by omega) (by omega) (it_back hlt h9 (rfl)) hP hD hS (lv_sub hl [0, 2] rfl)
        · have hl : lv_has ls 3 [(1, .int 1), (0, .ref (ad 0))] := hl
          refine lv_aload_n hx hb d_Ru_begin_45 rfl (lv_at hl 1 rfl) ?_
          refine va_get (D := g.1) (ci := 4) (v := .ref (ad 6)) (C := R_Ru) (T := F_Ru) (N := 8) hx hb hw i_Ru hown hE.1 hP 0 rfl rfl 0 (by decide) (hw _ q_156) (fun _ h9 => h9) rfl d_Ru_begin_46 ?_
          refine lv_iload_n hx hb d_Ru_begin_49 rfl (lv_at hl 0 rfl) ?_
          refine va_aldq hx hb hE.1 hP 6 4 rfl rfl (by unfold vp_in; decide) d_Ru_begin_50 ?_
          rw [show (1 : Int32).toNatClampNeg = 1 from by decide]
          refine lv_astore_n (lv' := [(2, .ref (ad (7 + 1))), (1, .int 1), (0, .ref (ad 0))]) hx hb d_Ru_begin_51 rfl hl (by decide) rfl (fun ls hl => ?_)
          refine lv_aload_n hx hb d_Ru_begin_52 rfl (lv_at hl 0 rfl) ?_
          refine lv_aload_n hx hb d_Ru_begin_53 rfl (lv_at hl 2 rfl) ?_
          refine va_get (D := g.1) (ci := 4) (v := .ref (ad 1)) (C := R_Ru) (T := F_Ru) (N := 8) hx hb hw i_Ru hown hE.1 hP 0 rfl rfl 7 (by decide) (hw _ q_170) (fun _ h9 => h9) rfl d_Ru_begin_54 ?_
          refine va_get (D := g.1) (ci := 5) (v := .int (k.2.1 4)) (C := R_Se) (T := F_Se) (N := 9) hx hb hw i_Se hown hE.1 hP 1 rfl rfl 7 (by decide) (hw _ q_80) (fun _ h9 => h9) rfl d_Ru_begin_57 ?_
          refine put_po C 2 1 (by decide) (by decide) rfl q_124 hP hD hS d_Ru_begin_60 (fun H locs hP hD hS => ?_)
          have hP : va_P g.1 classes (wR g ad k ((u2 x.1 2 1 (k.2.1 4)), x.2.1, x.2.2.1, x.2.2.2)) H := hP
          have hD : va_D A (wR g ad k ((u2 x.1 2 1 (k.2.1 4)), x.2.1, x.2.2.1, x.2.2.2)) := hD
          refine lv_aload_n hx hb d_Ru_begin_63 rfl (lv_at hl 0 rfl) ?_
          refine lv_iconst (v := 0) hx hb d_Ru_begin_64 (by decide) ?_
          refine put_po C 3 1 (by decide) (by decide) rfl q_127 hP hD hS d_Ru_begin_65 (fun H locs hP hD hS => ?_)
          have hP : va_P g.1 classes (wR g ad k ((u2 (u2 x.1 2 1 (k.2.1 4)) 3 1 0), x.2.1, x.2.2.1, x.2.2.2)) H := hP
          have hD : va_D A (wR g ad k ((u2 (u2 x.1 2 1 (k.2.1 4)) 3 1 0), x.2.1, x.2.2.1, x.2.2.2)) := hD
          refine lv_aload_n hx hb d_Ru_begin_68 rfl (lv_at hl 0 rfl) ?_
          refine lv_iconst (v := 0) hx hb d_Ru_begin_69 (by decide) ?_
          refine put_po C 4 1 (by decide) (by decide) rfl q_128 hP hD hS d_Ru_begin_70 (fun H locs hP hD hS => ?_)
          have hP : va_P g.1 classes (wR g ad k ((u2 (u2 (u2 x.1 2 1 (k.2.1 4)) 3 1 0) 4 1 0), x.2.1, x.2.2.1, x.2.2.2)) H := hP
          have hD : va_D A (wR g ad k ((u2 (u2 (u2 x.1 2 1 (k.2.1 4)) 3 1 0) 4 1 0), x.2.1, x.2.2.1, x.2.2.2)) := hD
          refine lv_iinc (v := 2) (lv' := [(1, .int 2), (2, .ref (ad (7 + 1))), (0, .ref (ad 0))]) hx hb d_Ru_begin_73 hl (k := 1) rfl (by decide) (by decide) rfl (fun ls hl => ?_)
          refine lv_goto (tgt := 34) hx hb d_Ru_begin_76 (by decide) ?_
          exact ih 2 ((u2 (u2 (u2 x.1 2 1 (k.2.1 4)) 3 1 0) 4 1 0), x.2.1, x.2.2.1, x.2.2.2) _ _ _ (by omega) (by omega) (by omega) (it_back hlt h9 (rfl)) hP hD hS (lv_sub hl [0, 2] rfl)
        · have hl : lv_has ls 3 [(1, .int 2), (0, .ref (ad 0))] := hl
          refine lv_aload_n hx hb d_Ru_begin_45 rfl (lv_at hl 1 rfl) ?_
          refine va_get (D := g.1) (ci := 4) (v := .ref (ad 6)) (C := R_Ru) (T := F_Ru) (N := 8) hx hb hw i_Ru hown hE.1 hP 0 rfl rfl 0 (by decide) (hw _ q_156) (fun _ h9 => h9) rfl d_Ru_begin_46 ?_
          refine lv_iload_n hx hb d_Ru_begin_49 rfl (lv_at hl 0 rfl) ?_
          refine va_aldq hx hb hE.1 hP 6 4 rfl rfl (by unfold vp_in; decide) d_Ru_begin_50 ?_
          rw [show (2 : Int32).toNatClampNeg = 2 from by decide]
          refine lv_astore_n (lv' := [(2, .ref (ad (7 + 2))), (1, .int 2), (0, .ref (ad 0))]) hx hb d_Ru_begin_51 rfl hl (by decide) rfl (fun ls hl => ?_)
          refine lv_aload_n hx hb d_Ru_begin_52 rfl (lv_at hl 0 rfl) ?_
          refine lv_aload_n hx hb d_Ru_begin_53 rfl (lv_at hl 2 rfl) ?_
          refine va_get (D := g.1) (ci := 4) (v := .ref (ad 1)) (C := R_Ru) (T := F_Ru) (N := 8) hx hb hw i_Ru hown hE.1 hP 0 rfl rfl 7 (by decide) (hw _ q_170) (fun _ h9 => h9) rfl d_Ru_begin_54 ?_
          refine va_get (D := g.1) (ci := 5) (v := .int (k.2.1 4)) (C := R_Se) (T := F_Se) (N := 9) hx hb hw i_Se hown hE.1 hP 1 rfl rfl 7 (by decide) (hw _ q_80) (fun _ h9 => h9) rfl d_Ru_begin_57 ?_
          refine put_po C 2 2 (by decide) (by decide) rfl q_124 hP hD hS d_Ru_begin_60 (fun H locs hP hD hS => ?_)
          have hP : va_P g.1 classes (wR g ad k ((u2 x.1 2 2 (k.2.1 4)), x.2.1, x.2.2.1, x.2.2.2)) H := hP
          have hD : va_D A (wR g ad k ((u2 x.1 2 2 (k.2.1 4)), x.2.1, x.2.2.1, x.2.2.2)) := hD
          refine lv_aload_n hx hb d_Ru_begin_63 rfl (lv_at hl 0 rfl) ?_
          refine lv_iconst (v := 0) hx hb d_Ru_begin_64 (by decide) ?_
          refine put_po C 3 2 (by decide) (by decide) rfl q_127 hP hD hS d_Ru_begin_65 (fun H locs hP hD hS => ?_)
          have hP : va_P g.1 classes (wR g ad k ((u2 (u2 x.1 2 2 (k.2.1 4)) 3 2 0), x.2.1, x.2.2.1, x.2.2.2)) H := hP
          have hD : va_D A (wR g ad k ((u2 (u2 x.1 2 2 (k.2.1 4)) 3 2 0), x.2.1, x.2.2.1, x.2.2.2)) := hD
          refine lv_aload_n hx hb d_Ru_begin_68 rfl (lv_at hl 0 rfl) ?_
          refine lv_iconst (v := 0) hx hb d_Ru_begin_69 (by decide) ?_
          refine put_po C 4 2 (by decide) (by decide) rfl q_128 hP hD hS d_Ru_begin_70 (fun H locs hP hD hS => ?_)
          have hP : va_P g.1 classes (wR g ad k ((u2 (u2 (u2 x.1 2 2 (k.2.1 4)) 3 2 0) 4 2 0), x.2.1, x.2.2.1, x.2.2.2)) H := hP
          have hD : va_D A (wR g ad k ((u2 (u2 (u2 x.1 2 2 (k.2.1 4)) 3 2 0) 4 2 0), x.2.1, x.2.2.1, x.2.2.2)) := hD
          refine lv_iinc (v := 3) (lv' := [(1, .int 3), (2, .ref (ad (7 + 2))), (0, .ref (ad 0))]) hx hb d_Ru_begin_73 hl (k := 1) rfl (by decide) (by decide) rfl (fun ls hl => ?_)
          refine lv_goto (tgt := 34) hx hb d_Ru_begin_76 (by decide) ?_
          exact ih 3 ((u2 (u2 (u2 x.1 2 2 (k.2.1 4)) 3 2 0) 4 2 0), x.2.1, x.2.2.1, x.2.2.2) _ _ _ (by omega) (by omega) (by omega) (it_back hlt h9 (rfl)) hP hD hS (lv_sub hl [0, 2] rfl)
  exact lp (n + 2) 0 (x.1, (upd (upd (upd (upd (upd x.2.1 0 0) 1 0) 2 (-1)) 3 (-1)) 4 (-1)), 0, (fun _ => 0)) _ _ _ (by omega) (by omega) (by omega) h9 hP hD hS (lv_sub hl [0, 1] rfl)
set_option maxHeartbeats 4000000 in
set_option maxRecDepth 100000 in
theorem c_Ru_walk (l : Launch) (g : Glob) (ad : Nat → Nat) (k : CFG) (x : RS) (n : Nat) (hn : k.2.1 0 = nI n) (h3 : n ≤ 3) (np : Nat) (hp : k.2.1 1 = nI np) (h20 : np ≤ 20) (turn sp fw : Int32) (N : Nat) (hN : sp = nI N) (hN6 : N ≤ 1000000) : CV l g y_Ru_walk b_Ru_walk 6 4 107 [.ref (ad 0), .int turn, .int sp, .int fw] (wR g ad k x) (wR g ad k (walkF k n np turn N fw x)) := by
  refine CV.of (by decide +kernel) (Nat.le_of_ble_eq_true rfl) ?_
  intro p e s m below meth c A Q ls C hP hD hl hret hS
  obtain ⟨hx, hb, hml, hown, hw, hE, hA⟩ := id C
  have hl : lv_has ls 6 [(0, .ref (ad 0)), (1, .int turn), (2, .int sp), (3, .int fw)] := hl
  unfold walkF at hret
  generalize h9 : whileF stopR (stpF k n np (sgnI fw * turn) (sgnI fw * k.2.1 5)) N x = x9 at hret
  have lp : ∀ (j : Nat) (q : Nat) (x : RS) (H : Heap) (locs : List Loc) (ls : Array Slot), q ≤ N → N < q + j → whileF stopR (stpF k n np (sgnI fw * turn) (sgnI fw * k.2.1 5)) (N - q) x = x9 → va_P g.1 classes (wR g ad k x) H → va_D A (wR g ad k x) → va_S A s.heap H locs → lv_has ls 6 [(5, .int (nI q)), (4, .int (sgnI fw)), (0, .ref (ad 0)), (1, .int turn), (2, .int sp)] → W p l e { frames := 4, cells := 0, slots := 0, locals := 107 } s m ([.ref (ad 0), .int turn, .int sp, .int fw] : List Value).toArray below meth c H locs 0 0 Q (F0 m 14 ls []) := by
    intro j
    induction j with
    | zero =>
      intro q x H locs ls hq hj h9 hP hD hS hl
      exact absurd trivial (by omega)
    | succ j ih =>
      intro q x H locs ls hq hj h9 hP hD hS hl
      refine lv_iload hx hb d_Ru_walk_14 (lv_at hl 0 rfl) ?_
      refine lv_iload_n hx hb d_Ru_walk_16 rfl (lv_at hl 4 rfl) ?_
      refine lv_icmp_ge (tgt := 69) hx hb d_Ru_walk_17 (by decide) (fun c17_1 => ?_) (fun c17_1 => ?_)
      · have h9 := wh_end (ge_of_le' 1000000 hN hN6 (by decide) (by omega) c17_1) h9
        subst h9
        exact hret _ _ _ _ _ rfl hP hD hS d_Ru_walk_69
      · have hlt := lt_of_nle' 1000000 hN hN6 (by decide) (by omega) c17_1
        refine lv_aload_n hx hb d_Ru_walk_20 rfl (lv_at hl 2 rfl) ?_
        refine va_get (D := g.1) (ci := 4) (v := .int (x.2.1 1)) (C := R_Ru) (T := F_Ru) (N := 8) hx hb hw i_Ru hown hE.1 hP 0 rfl rfl 3 (by decide) (hw _ q_162) (fun _ h9 => h9) rfl d_Ru_walk_21 ?_
        refine lv_if_ne (tgt := 69) hx hb d_Ru_walk_24 (by decide) (fun c24_2 => ?_) (fun c24_2 => ?_)
        · have h9 := wh_stop (stop_t1 c24_2) h9
          subst h9
          exact hret _ _ _ _ _ rfl hP hD hS d_Ru_walk_69
        · refine lv_aload_n hx hb d_Ru_walk_27 rfl (lv_at hl 2 rfl) ?_
          refine va_get (D := g.1) (ci := 4) (v := .int (x.2.1 0)) (C := R_Ru) (T := F_Ru) (N := 8) hx hb hw i_Ru hown hE.1 hP 0 rfl rfl 2 (by decide) (hw _ q_160) (fun _ h9 => h9) rfl d_Ru_walk_28 ?_
          refine lv_sipush (v := 4000) hx hb d_Ru_walk_31 (by decide) ?_
          refine lv_icmp_ge (tgt := 69) hx hb d_Ru_walk_34 (by decide) (fun c34_3 => ?_) (fun c34_3 => ?_)
          · have h9 := wh_stop (stop_t2 c34_3) h9
            subst h9
            exact hret _ _ _ _ _ rfl hP hD hS d_Ru_walk_69
          · refine lv_aload_n hx hb d_Ru_walk_37 rfl (lv_at hl 2 rfl) ?_
            refine lv_iload hx hb d_Ru_walk_38 (lv_at hl 1 rfl) ?_
            refine lv_iload_n hx hb d_Ru_walk_40 rfl (lv_at hl 3 rfl) ?_
            refine lv_imul hx hb d_Ru_walk_41 ?_
            refine lv_iload hx hb d_Ru_walk_42 (lv_at hl 1 rfl) ?_
            refine lv_aload_n hx hb d_Ru_walk_44 rfl (lv_at hl 2 rfl) ?_
            refine va_get (D := g.1) (ci := 4) (v := .ref (ad 1)) (C := R_Ru) (T := F_Ru) (N := 8) hx hb hw i_Ru hown hE.1 hP 0 rfl rfl 7 (by decide) (hw _ q_170) (fun _ h9 => h9) rfl d_Ru_walk_45 ?_
            refine va_get (D := g.1) (ci := 5) (v := .int (k.2.1 5)) (C := R_Se) (T := F_Se) (N := 9) hx hb hw i_Se hown hE.1 hP 1 rfl rfl 8 (by decide) (hw _ q_84) (fun _ h9 => h9) rfl d_Ru_walk_48 ?_
            refine lv_imul hx hb d_Ru_walk_51 ?_
            refine cvV C v_Ru_110 [.int ((sgnI fw) * turn), .int ((sgnI fw) * (k.2.1 5))] [] (c_Ru_move l g ad k x n hn h3 ((sgnI fw) * turn) ((sgnI fw) * (k.2.1 5))) hP hD hS [0, 1, 2, 3, 4, 5, 6, 7, 8, 9, 10, 11, 12, 13] [] [0, 1, 2, 3, 4, 5, 6, 7, 8, 9, 10, 11, 12, 13] [] (wR g ad k (moveF k n ((sgnI fw) * turn) ((sgnI fw) * (k.2.1 5)) x)) rfl rfl (by decide) (by decide) (by decide) rfl (by decide) 0 rfl rfl rfl rfl hl.1 (Nat.le_of_ble_eq_true rfl) ⟨Nat.le_of_ble_eq_true rfl, Nat.le_of_ble_eq_true rfl⟩ d_Ru_walk_52 ⟨Nat.zero_le _, Nat.zero_le _⟩ (fun H locs hP hD hS => ?_)
            refine lv_aload_n hx hb d_Ru_walk_55 rfl (lv_at hl 2 rfl) ?_
            refine cvV C v_Ru_114 [] [] (c_Ru_measureAskew l g ad k (moveF k n ((sgnI fw) * turn) ((sgnI fw) * (k.2.1 5)) x) n hn h3) hP hD hS [0, 1, 2, 3, 4, 5, 6, 7, 8, 9, 10, 11, 12, 13] [] [0, 1, 2, 3, 4, 5, 6, 7, 8, 9, 10, 11, 12, 13] [] (wR g ad k (itF msF n 1 (moveF k n ((sgnI fw) * turn) ((sgnI fw) * (k.2.1 5)) x))) rfl rfl (by decide) (by decide) (by decide) rfl (by decide) 0 rfl rfl rfl rfl hl.1 (Nat.le_of_ble_eq_true rfl) ⟨Nat.le_of_ble_eq_true rfl, Nat.le_of_ble_eq_true rfl⟩ d_Ru_walk_56 ⟨Nat.zero_le _, Nat.zero_le _⟩ (fun H locs hP hD hS => ?_)
            refine lv_aload_n hx hb d_Ru_walk_59 rfl (lv_at hl 2 rfl) ?_
            refine cvV C v_Ru_81 [] [] (c_Ru_lookRound l g ad k (itF msF n 1 (moveF k n ((sgnI fw) * turn) ((sgnI fw) * (k.2.1 5)) x)) n hn h3 np hp h20) hP hD hS [0, 1, 2, 3, 4, 5, 6, 7, 8, 9, 10, 11, 12, 13] [] [0, 1, 2, 3, 4, 5, 6, 7, 8, 9, 10, 11, 12, 13] [] (wR g ad k (itF (lkF k np) n 0 (itF msF n 1 (moveF k n ((sgnI fw) * turn) ((sgnI fw) * (k.2.1 5)) x)))) rfl rfl (by decide) (by decide) (by decide) rfl (by decide) 0 rfl rfl rfl rfl hl.1 (Nat.le_of_ble_eq_true rfl) ⟨Nat.le_of_ble_eq_true rfl, Nat.le_of_ble_eq_true rfl⟩ d_Ru_walk_60 ⟨Nat.zero_le _, Nat.zero_le _⟩ (fun H locs hP hD hS => ?_)
            refine lv_iinc (v := (nI (q + 1))) (lv' := [(5, .int (nI (q + 1))), (4, .int (sgnI fw)), (0, .ref (ad 0)), (1, .int turn), (2, .int sp)]) hx hb d_Ru_walk_63 hl (k := 0) rfl (nI_1 q) (by decide) rfl (fun ls hl => ?_)
            refine lv_goto (tgt := 14) hx hb d_Ru_walk_66 (by decide) ?_
            exact ih (q + 1) (itF (lkF k np) n 0 (itF msF n 1 (moveF k n ((sgnI fw) * turn) ((sgnI fw) * (k.2.1 5)) x))) _ _ _ (by omega) (by omega) (wh_back hlt (stop_f c24_2 c34_3) h9 rfl) hP hD hS (lv_sub hl [0, 1, 2, 3, 4] rfl)
  refine lv_iload_n hx hb d_Ru_walk_0 rfl (lv_at hl 3 rfl) ?_
  refine lv_if_eq (tgt := 8) hx hb d_Ru_walk_1 (by decide) (fun c1_4 => ?_) (fun c1_4 => ?_)
  · refine lv_iconst (v := (-1)) hx hb d_Ru_walk_8 (by decide) ?_
    refine lv_istore (lv' := [(4, .int (-1)), (0, .ref (ad 0)), (1, .int turn), (2, .int sp), (3, .int fw)]) hx hb d_Ru_walk_9 hl (by decide) rfl (fun ls hl => ?_)
    refine lv_iconst (v := 0) hx hb d_Ru_walk_11 (by decide) ?_
    refine lv_istore (lv' := [(5, .int 0), (4, .int (-1)), (0, .ref (ad 0)), (1, .int turn), (2, .int sp), (3, .int fw)]) hx hb d_Ru_walk_12 hl (by decide) rfl (fun ls hl => ?_)
    have hl : lv_has ls 6 [(5, .int (nI 0)), (4, .int (sgnI fw)), (0, .ref (ad 0)), (1, .int turn), (2, .int sp)] := by
      rw [show sgnI fw = -1 from if_pos c1_4]
      exact lv_sub hl [0, 1, 2, 3, 4] rfl
    exact lp (N + 1) 0 x _ _ _ (by omega) (by omega) h9 hP hD hS hl
  · refine lv_iconst (v := 1) hx hb d_Ru_walk_4 (by decide) ?_
    refine lv_goto (tgt := 9) hx hb d_Ru_walk_5 (by decide) ?_
    refine lv_istore (lv' := [(4, .int 1), (0, .ref (ad 0)), (1, .int turn), (2, .int sp), (3, .int fw)]) hx hb d_Ru_walk_9 hl (by decide) rfl (fun ls hl => ?_)
    refine lv_iconst (v := 0) hx hb d_Ru_walk_11 (by decide) ?_
    refine lv_istore (lv' := [(5, .int 0), (4, .int 1), (0, .ref (ad 0)), (1, .int turn), (2, .int sp), (3, .int fw)]) hx hb d_Ru_walk_12 hl (by decide) rfl (fun ls hl => ?_)
    have hl : lv_has ls 6 [(5, .int (nI 0)), (4, .int (sgnI fw)), (0, .ref (ad 0)), (1, .int turn), (2, .int sp)] := by
      rw [show sgnI fw = 1 from if_neg c1_4]
      exact lv_sub hl [0, 1, 2, 3, 4] rfl
    exact lp (N + 1) 0 x _ _ _ (by omega) (by omega) h9 hP hD hS hl
end
section
set_option maxHeartbeats 4000000 in
set_option maxRecDepth 100000 in
theorem c_Ru_follow (l : Launch) (g : Glob) (ad : Nat → Nat) (k : CFG) (x : RS) (n : Nat) (hn : k.2.1 0 = nI n) (h3 : n ≤ 3) (np : Nat) (hp : k.2.1 1 = nI np) (h20 : np ≤ 20) (q : PLN) (mm : Nat) (hm : q.2.2.2 = nI mm) (h6 : mm ≤ 6) (hst : ∀ i, i < mm → (¬ q.2.1 i < 0) ∧ (q.2.1 i).toNatClampNeg ≤ 1000000) : CV l g y_Ru_follow b_Ru_follow 3 5 132 [.ref (ad 0), .ref (ad 14)] (wF g ad k x q) (wF g ad k (followF k n np q mm x) q) := by
  refine CV.of (by decide +kernel) (Nat.le_of_ble_eq_true rfl) ?_
  intro p e s m below meth c A Q ls C hP hD hl hret hS
  obtain ⟨hx, hb, hml, hown, hw, hE, hA⟩ := id C
  have hl : lv_has ls 3 [(0, .ref (ad 0)), (1, .ref (ad 14))] := hl
  unfold followF at hret
  generalize h9 : itF (partF k n np q) mm 0 (begF k n np x) = x9 at hret
  refine lv_aload_n hx hb d_Ru_follow_0 rfl (lv_at hl 0 rfl) ?_
  refine cvV C v_Ru_84 [] [] (c_Ru_begin l g ad k x n hn h3 np hp h20) hP hD hS [0, 1, 2, 3, 4, 5, 6, 7, 8, 9, 10, 11, 12, 13] [14, 15, 16, 17] [4, 5, 6, 7, 8, 9, 10, 11, 12, 13, 14, 15, 16, 17, 0, 1, 2, 3] [((ad 14), .inr (2, [.ref (ad 15), .ref (ad 16), .ref (ad 17), .int q.2.2.2])), ((ad 15), .inl (g.2.1 0, 6, .inl q.1)), ((ad 16), .inl (g.2.1 0, 6, .inl q.2.1)), ((ad 17), .inl (g.2.1 2, 6, .inl q.2.2.1))] (wF g ad k (begF k n np x) q) rfl rfl (by decide) (by decide) (by decide) rfl (by decide) 0 rfl rfl rfl rfl hl.1 (Nat.le_of_ble_eq_true rfl) ⟨Nat.le_of_ble_eq_true rfl, Nat.le_of_ble_eq_true rfl⟩ d_Ru_follow_1 ⟨Nat.zero_le _, Nat.zero_le _⟩ (fun H locs hP hD hS => ?_)
  refine lv_iconst (v := 0) hx hb d_Ru_follow_4 (by decide) ?_
  refine lv_istore_n (lv' := [(2, .int 0), (0, .ref (ad 0)), (1, .ref (ad 14))]) hx hb d_Ru_follow_5 rfl hl (by decide) rfl (fun ls hl => ?_)
  have lp : ∀ (j : Nat) (i : Nat) (x : RS) (H : Heap) (locs : List Loc) (ls : Array Slot), i ≤ mm → mm < i + j → itF (partF k n np q) mm i x = x9 → va_P g.1 classes (wF g ad k x q) H → va_D A (wF g ad k x q) → va_S A s.heap H locs → lv_has ls 3 [(2, .int (nI i)), (0, .ref (ad 0)), (1, .ref (ad 14))] → W p l e { frames := 5, cells := 0, slots := 0, locals := 132 } s m ([.ref (ad 0), .ref (ad 14)] : List Value).toArray below meth c H locs 0 0 Q (F0 m 6 ls []) := by
    intro j
    induction j with
    | zero =>
      intro i x H locs ls hi hj h9 hP hD hS hl
      exact absurd trivial (by omega)
    | succ j ih =>
      intro i x H locs ls hi hj h9 hP hD hS hl
      refine lv_iload_n hx hb d_Ru_follow_6 rfl (lv_at hl 0 rfl) ?_
      refine lv_aload_n hx hb d_Ru_follow_7 rfl (lv_at hl 2 rfl) ?_
      refine va_get (D := g.1) (ci := 2) (v := .int q.2.2.2) (C := R_Pl) (T := F_Pl) (N := 4) hx hb hw i_Pl hown hE.1 hP 14 rfl rfl 3 (by decide) (hw _ q_202) (fun _ h9 => h9) rfl d_Ru_follow_8 ?_
      refine lv_icmp_ge (tgt := 42) hx hb d_Ru_follow_11 (by decide) (fun c11_1 => ?_) (fun c11_1 => ?_)
      · have h9 := (itF_end (ge_of_le' 6 hm h6 (by decide) (by omega) c11_1)).symm.trans h9
        subst h9
        exact hret _ _ _ _ _ rfl hP hD hS d_Ru_follow_42
      · have hlt := lt_of_nle' 6 hm h6 (by decide) (by omega) c11_1
        refine lv_aload_n hx hb d_Ru_follow_14 rfl (lv_at hl 1 rfl) ?_
        refine lv_aload_n hx hb d_Ru_follow_15 rfl (lv_at hl 2 rfl) ?_
        refine va_get (D := g.1) (ci := 2) (v := .ref (ad 15)) (C := R_Pl) (T := F_Pl) (N := 4) hx hb hw i_Pl hown hE.1 hP 14 rfl rfl 0 (by decide) (hw _ q_196) (fun _ h9 => h9) rfl d_Ru_follow_16 ?_
        refine lv_iload_n hx hb d_Ru_follow_19 rfl (lv_at hl 0 rfl) ?_
        refine va_iald hx hb hE.1 hP 15 0 rfl rfl (vp_in_nI (show i < 6 by omega) (by omega)) d_Ru_follow_20 ?_
        rw [nI_clamp (by omega)]
        refine lv_aload_n hx hb d_Ru_follow_21 rfl (lv_at hl 2 rfl) ?_
        refine va_get (D := g.1) (ci := 2) (v := .ref (ad 16)) (C := R_Pl) (T := F_Pl) (N := 4) hx hb hw i_Pl hown hE.1 hP 14 rfl rfl 1 (by decide) (hw _ q_198) (fun _ h9 => h9) rfl d_Ru_follow_22 ?_
        refine lv_iload_n hx hb d_Ru_follow_25 rfl (lv_at hl 0 rfl) ?_
        refine va_iald hx hb hE.1 hP 16 0 rfl rfl (vp_in_nI (show i < 6 by omega) (by omega)) d_Ru_follow_26 ?_
        rw [nI_clamp (by omega)]
        refine lv_aload_n hx hb d_Ru_follow_27 rfl (lv_at hl 2 rfl) ?_
        refine va_get (D := g.1) (ci := 2) (v := .ref (ad 17)) (C := R_Pl) (T := F_Pl) (N := 4) hx hb hw i_Pl hown hE.1 hP 14 rfl rfl 2 (by decide) (hw _ q_200) (fun _ h9 => h9) rfl d_Ru_follow_28 ?_
        refine lv_iload_n hx hb d_Ru_follow_31 rfl (lv_at hl 0 rfl) ?_
        refine va_zald hx hb hE.1 hP 17 2 rfl rfl (vp_in_nI (show i < 6 by omega) (by omega)) d_Ru_follow_32 ?_
        rw [nI_clamp (by omega)]
        refine cvV C v_Ru_103 [.int (q.1 i), .int (q.2.1 i), .int (q.2.2.1 i)] [] (c_Ru_walk l g ad k x n hn h3 np hp h20 (q.1 i) (q.2.1 i) (q.2.2.1 i) _ (clampI (hst i hlt).1) (hst i hlt).2) hP hD hS [0, 1, 2, 3, 4, 5, 6, 7, 8, 9, 10, 11, 12, 13] [14, 15, 16, 17] [4, 5, 6, 7, 8, 9, 10, 11, 12, 13, 14, 15, 16, 17, 0, 1, 2, 3] [((ad 14), .inr (2, [.ref (ad 15), .ref (ad 16), .ref (ad 17), .int q.2.2.2])), ((ad 15), .inl (g.2.1 0, 6, .inl q.1)), ((ad 16), .inl (g.2.1 0, 6, .inl q.2.1)), ((ad 17), .inl (g.2.1 2, 6, .inl q.2.2.1))] (wF g ad k (walkF k n np (q.1 i) (q.2.1 i).toNatClampNeg (q.2.2.1 i) x) q) rfl rfl (by decide) (by decide) (by decide) rfl (by decide) 0 rfl rfl rfl rfl hl.1 (Nat.le_of_ble_eq_true rfl) ⟨Nat.le_of_ble_eq_true rfl, Nat.le_of_ble_eq_true rfl⟩ d_Ru_follow_33 ⟨Nat.zero_le _, Nat.zero_le _⟩ (fun H locs hP hD hS => ?_)
        refine lv_iinc (v := (nI (i + 1))) (lv' := [(2, .int (nI (i + 1))), (0, .ref (ad 0)), (1, .ref (ad 14))]) hx hb d_Ru_follow_36 hl (k := 0) rfl (nI_1 i) (by decide) rfl (fun ls hl => ?_)
        refine lv_goto (tgt := 6) hx hb d_Ru_follow_39 (by decide) ?_
        exact ih (i + 1) (walkF k n np (q.1 i) (q.2.1 i).toNatClampNeg (q.2.2.1 i) x) _ _ _ (by omega) (by omega) (it_back hlt h9 rfl) hP hD hS (lv_sub hl [0, 1, 2] rfl)
  exact lp (mm + 1) 0 (begF k n np x) _ _ _ (by omega) (by omega) h9 hP hD hS (lv_sub hl [0, 1, 2] rfl)
end
section
/-! the reference: its numbers by their fields' places, its arrays by theirs -/
abbrev MS : Type := (Nat → Int32) × St2
def moL (ad : Nat → Nat) (s : Nat → Int32) : List Value := [.int (s 0), .ref (ad 1), .int (s 2), .ref (ad 2), .ref (ad 3), .ref (ad 4), .ref (ad 5), .ref (ad 6), .int (s 8), .int (s 9), .int (s 10), .int (s 11), .int (s 12), .ref (ad 7), .ref (ad 8), .ref (ad 9), .ref (ad 10), .ref (ad 11), .ref (ad 12), .ref (ad 13), .ref (ad 14), .ref (ad 15), .ref (ad 16), .ref (ad 17), .int (s 24), .int (s 25), .int (s 26), .int (s 27), .int (s 28), .int (s 29), .ref (ad 18), .ref (ad 19), .ref (ad 20)]
def wM (g : Glob) (ad : Nat → Nat) (x : MS) : va_W := [(ad 0, .inr (7, moL ad x.1)), (ad 1, .inl (g.2.1 0, 17, .inl (x.2 1))), (ad 2, .inl (g.2.1 0, 3, .inl (x.2 2))), (ad 3, .inl (g.2.1 0, 3, .inl (x.2 3))), (ad 4, .inl (g.2.1 0, 3, .inl (x.2 4))), (ad 5, .inl (g.2.1 0, 3, .inl (x.2 5))), (ad 6, .inl (g.2.1 0, 3, .inl (x.2 6))), (ad 7, .inl (g.2.1 0, 20, .inl (x.2 7))), (ad 8, .inl (g.2.1 0, 20, .inl (x.2 8))), (ad 9, .inl (g.2.1 0, 4, .inl (x.2 9))), (ad 10, .inl (g.2.1 0, 24, .inl (x.2 10))), (ad 11, .inl (g.2.1 0, 24, .inl (x.2 11))), (ad 12, .inl (g.2.1 2, 24, .inl (x.2 12))), (ad 13, .inl (g.2.1 0, 3, .inl (x.2 13))), (ad 14, .inl (g.2.1 0, 3, .inl (x.2 14))), (ad 15, .inl (g.2.1 0, 3, .inl (x.2 15))), (ad 16, .inl (g.2.1 0, 3, .inl (x.2 16))), (ad 17, .inl (g.2.1 0, 3, .inl (x.2 17))), (ad 18, .inl (g.2.1 2, 4096, .inl (x.2 18))), (ad 19, .inl (g.2.1 0, 20, .inl (x.2 19))), (ad 20, .inl (g.2.1 2, 4096, .inl (x.2 20)))]
theorem wM_s0 {g : Glob} {ad : Nat → Nat} {s : Nat → Int32} {a : St2} {v : Int32} : (wM g ad (s, a)).set 0 (ad 0, .inr (7, (moL ad s).set 0 (.int v))) = wM g ad (upd s 0 v, a) := rfl
theorem wM_s2 {g : Glob} {ad : Nat → Nat} {s : Nat → Int32} {a : St2} {v : Int32} : (wM g ad (s, a)).set 0 (ad 0, .inr (7, (moL ad s).set 2 (.int v))) = wM g ad (upd s 2 v, a) := rfl
theorem wM_s8 {g : Glob} {ad : Nat → Nat} {s : Nat → Int32} {a : St2} {v : Int32} : (wM g ad (s, a)).set 0 (ad 0, .inr (7, (moL ad s).set 8 (.int v))) = wM g ad (upd s 8 v, a) := rfl
theorem wM_s9 {g : Glob} {ad : Nat → Nat} {s : Nat → Int32} {a : St2} {v : Int32} : (wM g ad (s, a)).set 0 (ad 0, .inr (7, (moL ad s).set 9 (.int v))) = wM g ad (upd s 9 v, a) := rfl
theorem wM_s10 {g : Glob} {ad : Nat → Nat} {s : Nat → Int32} {a : St2} {v : Int32} : (wM g ad (s, a)).set 0 (ad 0, .inr (7, (moL ad s).set 10 (.int v))) = wM g ad (upd s 10 v, a) := rfl
theorem wM_s11 {g : Glob} {ad : Nat → Nat} {s : Nat → Int32} {a : St2} {v : Int32} : (wM g ad (s, a)).set 0 (ad 0, .inr (7, (moL ad s).set 11 (.int v))) = wM g ad (upd s 11 v, a) := rfl
theorem wM_s12 {g : Glob} {ad : Nat → Nat} {s : Nat → Int32} {a : St2} {v : Int32} : (wM g ad (s, a)).set 0 (ad 0, .inr (7, (moL ad s).set 12 (.int v))) = wM g ad (upd s 12 v, a) := rfl
theorem wM_s24 {g : Glob} {ad : Nat → Nat} {s : Nat → Int32} {a : St2} {v : Int32} : (wM g ad (s, a)).set 0 (ad 0, .inr (7, (moL ad s).set 24 (.int v))) = wM g ad (upd s 24 v, a) := rfl
theorem wM_s25 {g : Glob} {ad : Nat → Nat} {s : Nat → Int32} {a : St2} {v : Int32} : (wM g ad (s, a)).set 0 (ad 0, .inr (7, (moL ad s).set 25 (.int v))) = wM g ad (upd s 25 v, a) := rfl
theorem wM_s26 {g : Glob} {ad : Nat → Nat} {s : Nat → Int32} {a : St2} {v : Int32} : (wM g ad (s, a)).set 0 (ad 0, .inr (7, (moL ad s).set 26 (.int v))) = wM g ad (upd s 26 v, a) := rfl
theorem wM_s27 {g : Glob} {ad : Nat → Nat} {s : Nat → Int32} {a : St2} {v : Int32} : (wM g ad (s, a)).set 0 (ad 0, .inr (7, (moL ad s).set 27 (.int v))) = wM g ad (upd s 27 v, a) := rfl
theorem wM_s28 {g : Glob} {ad : Nat → Nat} {s : Nat → Int32} {a : St2} {v : Int32} : (wM g ad (s, a)).set 0 (ad 0, .inr (7, (moL ad s).set 28 (.int v))) = wM g ad (upd s 28 v, a) := rfl
theorem wM_s29 {g : Glob} {ad : Nat → Nat} {s : Nat → Int32} {a : St2} {v : Int32} : (wM g ad (s, a)).set 0 (ad 0, .inr (7, (moL ad s).set 29 (.int v))) = wM g ad (upd s 29 v, a) := rfl
theorem wM_a1 {g : Glob} {ad : Nat → Nat} {s : Nat → Int32} {a : St2} {i : Nat} {v : Int32} : (wM g ad (s, a)).set 1 (ad 1, .inl (g.2.1 0, 17, .inl (upd (a 1) i v))) = wM g ad (s, u2 a 1 i v) := rfl
theorem wM_a2 {g : Glob} {ad : Nat → Nat} {s : Nat → Int32} {a : St2} {i : Nat} {v : Int32} : (wM g ad (s, a)).set 2 (ad 2, .inl (g.2.1 0, 3, .inl (upd (a 2) i v))) = wM g ad (s, u2 a 2 i v) := rfl
theorem wM_a3 {g : Glob} {ad : Nat → Nat} {s : Nat → Int32} {a : St2} {i : Nat} {v : Int32} : (wM g ad (s, a)).set 3 (ad 3, .inl (g.2.1 0, 3, .inl (upd (a 3) i v))) = wM g ad (s, u2 a 3 i v) := rfl
theorem wM_a4 {g : Glob} {ad : Nat → Nat} {s : Nat → Int32} {a : St2} {i : Nat} {v : Int32} : (wM g ad (s, a)).set 4 (ad 4, .inl (g.2.1 0, 3, .inl (upd (a 4) i v))) = wM g ad (s, u2 a 4 i v) := rfl
theorem wM_a5 {g : Glob} {ad : Nat → Nat} {s : Nat → Int32} {a : St2} {i : Nat} {v : Int32} : (wM g ad (s, a)).set 5 (ad 5, .inl (g.2.1 0, 3, .inl (upd (a 5) i v))) = wM g ad (s, u2 a 5 i v) := rfl
theorem wM_a6 {g : Glob} {ad : Nat → Nat} {s : Nat → Int32} {a : St2} {i : Nat} {v : Int32} : (wM g ad (s, a)).set 6 (ad 6, .inl (g.2.1 0, 3, .inl (upd (a 6) i v))) = wM g ad (s, u2 a 6 i v) := rfl
theorem wM_a7 {g : Glob} {ad : Nat → Nat} {s : Nat → Int32} {a : St2} {i : Nat} {v : Int32} : (wM g ad (s, a)).set 7 (ad 7, .inl (g.2.1 0, 20, .inl (upd (a 7) i v))) = wM g ad (s, u2 a 7 i v) := rfl
theorem wM_a8 {g : Glob} {ad : Nat → Nat} {s : Nat → Int32} {a : St2} {i : Nat} {v : Int32} : (wM g ad (s, a)).set 8 (ad 8, .inl (g.2.1 0, 20, .inl (upd (a 8) i v))) = wM g ad (s, u2 a 8 i v) := rfl
theorem wM_a9 {g : Glob} {ad : Nat → Nat} {s : Nat → Int32} {a : St2} {i : Nat} {v : Int32} : (wM g ad (s, a)).set 9 (ad 9, .inl (g.2.1 0, 4, .inl (upd (a 9) i v))) = wM g ad (s, u2 a 9 i v) := rfl
theorem wM_a10 {g : Glob} {ad : Nat → Nat} {s : Nat → Int32} {a : St2} {i : Nat} {v : Int32} : (wM g ad (s, a)).set 10 (ad 10, .inl (g.2.1 0, 24, .inl (upd (a 10) i v))) = wM g ad (s, u2 a 10 i v) := rfl
theorem wM_a11 {g : Glob} {ad : Nat → Nat} {s : Nat → Int32} {a : St2} {i : Nat} {v : Int32} : (wM g ad (s, a)).set 11 (ad 11, .inl (g.2.1 0, 24, .inl (upd (a 11) i v))) = wM g ad (s, u2 a 11 i v) := rfl
theorem wM_a12 {g : Glob} {ad : Nat → Nat} {s : Nat → Int32} {a : St2} {i : Nat} {v : Int32} : (wM g ad (s, a)).set 12 (ad 12, .inl (g.2.1 2, 24, .inl (upd (a 12) i v))) = wM g ad (s, u2 a 12 i v) := rfl
theorem wM_a13 {g : Glob} {ad : Nat → Nat} {s : Nat → Int32} {a : St2} {i : Nat} {v : Int32} : (wM g ad (s, a)).set 13 (ad 13, .inl (g.2.1 0, 3, .inl (upd (a 13) i v))) = wM g ad (s, u2 a 13 i v) := rfl
theorem wM_a14 {g : Glob} {ad : Nat → Nat} {s : Nat → Int32} {a : St2} {i : Nat} {v : Int32} : (wM g ad (s, a)).set 14 (ad 14, .inl (g.2.1 0, 3, .inl (upd (a 14) i v))) = wM g ad (s, u2 a 14 i v) := rfl
theorem wM_a15 {g : Glob} {ad : Nat → Nat} {s : Nat → Int32} {a : St2} {i : Nat} {v : Int32} : (wM g ad (s, a)).set 15 (ad 15, .inl (g.2.1 0, 3, .inl (upd (a 15) i v))) = wM g ad (s, u2 a 15 i v) := rfl
theorem wM_a16 {g : Glob} {ad : Nat → Nat} {s : Nat → Int32} {a : St2} {i : Nat} {v : Int32} : (wM g ad (s, a)).set 16 (ad 16, .inl (g.2.1 0, 3, .inl (upd (a 16) i v))) = wM g ad (s, u2 a 16 i v) := rfl
theorem wM_a17 {g : Glob} {ad : Nat → Nat} {s : Nat → Int32} {a : St2} {i : Nat} {v : Int32} : (wM g ad (s, a)).set 17 (ad 17, .inl (g.2.1 0, 3, .inl (upd (a 17) i v))) = wM g ad (s, u2 a 17 i v) := rfl
theorem wM_a18 {g : Glob} {ad : Nat → Nat} {s : Nat → Int32} {a : St2} {i : Nat} {v : Int32} : (wM g ad (s, a)).set 18 (ad 18, .inl (g.2.1 2, 4096, .inl (upd (a 18) i v))) = wM g ad (s, u2 a 18 i v) := rfl
theorem wM_a19 {g : Glob} {ad : Nat → Nat} {s : Nat → Int32} {a : St2} {i : Nat} {v : Int32} : (wM g ad (s, a)).set 19 (ad 19, .inl (g.2.1 0, 20, .inl (upd (a 19) i v))) = wM g ad (s, u2 a 19 i v) := rfl
theorem wM_a20 {g : Glob} {ad : Nat → Nat} {s : Nat → Int32} {a : St2} {i : Nat} {v : Int32} : (wM g ad (s, a)).set 20 (ad 20, .inl (g.2.1 2, 4096, .inl (upd (a 20) i v))) = wM g ad (s, u2 a 20 i v) := rfl
section MODEL
variable {l : Launch} {g : Glob} {own : String} {cc : ByteArray} {nL : Nat} {A : Nat → Prop} {p : Program} {e : Env} {s : State} {m : MethodId} {args : Array Value} {below : List Frame} {meth : Method} {c : Code} {R : Room} {H : Heap} {locs : List Loc} {cells slots : Nat} {Q : State → Prop} {pc : Nat} {ls : Array Slot} {rest : List Value}
  {ad : Nat → Nat} {x : MS} {sc : Nat → Int32} {ar : St2} {idx : Nat}
/-- a number of the reference -/
theorem get_ms (C : Cx g own cc nL A p s m args c) (f : Nat) {ref : String} (hl : Cond.fieldLink own idx ref (F_Mo f).2.1 (F_Mo f).2.2.1 ∈ W0) (hr : ref = (F_Mo f).1) (hf : f < 33) (v : Value) (hv : (moL ad x.1)[f]? = some v) (hP : va_P g.1 classes (wM g ad x) H) (hdg : decode cc pc = .ok (.getfield idx, 3))
    (kk : W p l e R s m args below meth c H locs cells slots Q (F0 m (pc + 3) ls (v :: rest))) : W p l e R s m args below meth c H locs cells slots Q (F0 m pc ls (.ref (ad 0) :: rest)) := by
  obtain ⟨hx, hb, hml, hown, hw, hE, hA⟩ := C
  exact va_get (D := g.1) (ci := 7) (v := v) (C := R_Mo) (T := F_Mo) (N := 33) hx hb hw i_Mo hown hE.1 hP 0 rfl rfl f hf (hw _ hl) (fun _ h9 => by rw [hr]; exact h9) hv hdg kk
theorem get_mi (C : Cx g own cc nL A p s m args c) (f : Nat) {ref : String} (hl : Cond.fieldLink own idx ref (F_Mo f).2.1 (F_Mo f).2.2.1 ∈ W0) (hr : ref = (F_Mo f).1) (hf : f < 33) (h0 : (moL ad x.1)[f]? = some (.int (x.1 f))) (v : Int32) (hv : x.1 f = v) (hP : va_P g.1 classes (wM g ad x) H) (hdg : decode cc pc = .ok (.getfield idx, 3))
    (kk : W p l e R s m args below meth c H locs cells slots Q (F0 m (pc + 3) ls (.int v :: rest))) : W p l e R s m args below meth c H locs cells slots Q (F0 m pc ls (.ref (ad 0) :: rest)) := get_ms C f hl hr hf (.int v) (by rw [h0, hv]) hP hdg kk
theorem put_ms (C : Cx g own cc nL A p s m args c) (f : Nat) {ref : String} {ty : FieldType} (hl : Cond.fieldLink own idx ref (F_Mo f).2.1 (F_Mo f).2.2.1 ∈ W0) (hr : ref = (F_Mo f).1) (hf : f < 33) (hfin : (F_Mo f).2.2.2 = false) {v : Int32} (hty : parseFieldDescriptor (F_Mo f).2.2.1 = some ty) (hn : narrow ty (.int v) = .int v) (hfit : fits ty (.int v) = true)
    (hset : (wM g ad (sc, ar)).set 0 (ad 0, .inr (7, (moL ad sc).set f (.int v))) = wM g ad (upd sc f v, ar)) (hP : va_P g.1 classes (wM g ad (sc, ar)) H) (hD : va_D A (wM g ad (sc, ar))) (hS : va_S A s.heap H locs) (hdg : decode cc pc = .ok (.putfield idx, 3))
    (kk : ∀ (H : Heap) (locs : List Loc), va_P g.1 classes (wM g ad (upd sc f v, ar)) H → va_D A (wM g ad (upd sc f v, ar)) → va_S A s.heap H locs → W p l e R s m args below meth c H locs cells slots Q (F0 m (pc + 3) ls rest)) : W p l e R s m args below meth c H locs cells slots Q (F0 m pc ls (.int v :: .ref (ad 0) :: rest)) := by
  obtain ⟨hx, hb, hml, hown, hw, hE, hA⟩ := C
  refine va_put (D := g.1) (ci := 7) (v := .int v) (ty := ty) (fs := moL ad sc) (C := R_Mo) (T := F_Mo) (N := 33) hx hb hw i_Mo t_Mo t_Mo_ok n_Mo hown hE.1 hP hD hS 0 rfl rfl f hf (hw _ hl) (fun _ h9 => by rw [hr]; exact h9) hfin hty hn hfit hf hdg (fun H locs hP hD hS => ?_)
  rw [hset] at hP hD
  exact kk H locs hP hD hS
/-- a place of an int array -/
theorem get_ma (C : Cx g own cc nL A p s m args c) (n len : Nat) (hc : (wM g ad x)[n]? = some (ad n, .inl (g.2.1 0, len, .inl (x.2 n)))) {i : Int32} (hin : vp_in i len) (v : Int32) (hv : x.2 n i.toNatClampNeg = v) (hP : va_P g.1 classes (wM g ad x) H) (hdg : decode cc pc = .ok (.iaload, 1))
    (kk : W p l e R s m args below meth c H locs cells slots Q (F0 m (pc + 1) ls (.int v :: rest))) : W p l e R s m args below meth c H locs cells slots Q (F0 m pc ls (.int i :: .ref (ad n) :: rest)) := by
  obtain ⟨hx, hb, hml, hown, hw, hE, hA⟩ := C
  subst hv
  exact va_iald hx hb hE.1 hP n 0 hc rfl hin hdg kk
theorem get_mz (C : Cx g own cc nL A p s m args c) (n len : Nat) (hc : (wM g ad x)[n]? = some (ad n, .inl (g.2.1 2, len, .inl (x.2 n)))) {i : Int32} (hin : vp_in i len) (v : Int32) (hv : x.2 n i.toNatClampNeg = v) (hP : va_P g.1 classes (wM g ad x) H) (hdg : decode cc pc = .ok (.baload, 1))
    (kk : W p l e R s m args below meth c H locs cells slots Q (F0 m (pc + 1) ls (.int v :: rest))) : W p l e R s m args below meth c H locs cells slots Q (F0 m pc ls (.int i :: .ref (ad n) :: rest)) := by
  obtain ⟨hx, hb, hml, hown, hw, hE, hA⟩ := C
  subst hv
  exact va_zald hx hb hE.1 hP n 2 hc rfl hin hdg kk
theorem put_ma (C : Cx g own cc nL A p s m args c) (n len : Nat) (hc : (wM g ad (sc, ar))[n]? = some (ad n, .inl (g.2.1 0, len, .inl (ar n)))) {i v : Int32} (hin : vp_in i len) (j : Nat) (hj : i.toNatClampNeg = j) (hset : (wM g ad (sc, ar)).set n (ad n, .inl (g.2.1 0, len, .inl (upd (ar n) j v))) = wM g ad (sc, u2 ar n j v)) (hP : va_P g.1 classes (wM g ad (sc, ar)) H) (hD : va_D A (wM g ad (sc, ar))) (hS : va_S A s.heap H locs) (hdg : decode cc pc = .ok (.iastore, 1))
    (kk : ∀ (H : Heap) (locs : List Loc), va_P g.1 classes (wM g ad (sc, u2 ar n j v)) H → va_D A (wM g ad (sc, u2 ar n j v)) → va_S A s.heap H locs → W p l e R s m args below meth c H locs cells slots Q (F0 m (pc + 1) ls rest)) : W p l e R s m args below meth c H locs cells slots Q (F0 m pc ls (.int v :: .int i :: .ref (ad n) :: rest)) := by
  obtain ⟨hx, hb, hml, hown, hw, hE, hA⟩ := C
  subst hj
  refine va_iast hx hb hE.1 hP hD hS n 0 hc rfl hin hdg (fun H locs hP hD hS => ?_)
  rw [hset] at hP hD
  exact kk H locs hP hD hS
theorem put_mz (C : Cx g own cc nL A p s m args c) (n len : Nat) (hc : (wM g ad (sc, ar))[n]? = some (ad n, .inl (g.2.1 2, len, .inl (ar n)))) {i v : Int32} (hin : vp_in i len) (j : Nat) (hj : i.toNatClampNeg = j) (hv : vp_nar .boolean v = v) (hset : (wM g ad (sc, ar)).set n (ad n, .inl (g.2.1 2, len, .inl (upd (ar n) j v))) = wM g ad (sc, u2 ar n j v)) (hP : va_P g.1 classes (wM g ad (sc, ar)) H) (hD : va_D A (wM g ad (sc, ar))) (hS : va_S A s.heap H locs) (hdg : decode cc pc = .ok (.bastore, 1))
    (kk : ∀ (H : Heap) (locs : List Loc), va_P g.1 classes (wM g ad (sc, u2 ar n j v)) H → va_D A (wM g ad (sc, u2 ar n j v)) → va_S A s.heap H locs → W p l e R s m args below meth c H locs cells slots Q (F0 m (pc + 1) ls rest)) : W p l e R s m args below meth c H locs cells slots Q (F0 m pc ls (.int v :: .int i :: .ref (ad n) :: rest)) := by
  obtain ⟨hx, hb, hml, hown, hw, hE, hA⟩ := C
  subst hj
  refine va_zast hx hb hE.1 hP hD hS n 2 hc rfl hin hdg (fun H locs hP hD hS => ?_)
  rw [hv, hset] at hP hD
  exact kk H locs hP hD hS
end MODEL
end
section
def inI (a b c : Int32) : Int32 := if a < b then 0 else if c < a then 0 else 1
theorem inI_01 (a b c : Int32) : inI a b c = 0 ∨ inI a b c = 1 := by
  unfold inI
  repeat' split
  all_goals simp
def downI (a b : Int32) : Int32 := if a / b * b ≤ a then a / b else a / b - 1
def withI (v : Int32) : Int32 := if -32 ≤ v then (if v ≤ 31 then v else 31) else -32
def cellI (p : Int32) : Int32 := downI (downI p 4096) 8
def cosL : List Int32 := [4096, 4076, 4017, 3920, 3784, 3612, 3406, 3166, 2896, 2598, 2276, 1931, 1567, 1189, 799, 401, 0]
def cosT (j : Nat) : Int32 := cosL.getD j 0
theorem dxc : ∀ j, j < 64 → dxT j = (if j ≤ 16 then cosT j else if j ≤ 32 then -(cosT (32 - j)) else if j ≤ 48 then -(cosT (j - 32)) else cosT (64 - j)) := by decide
theorem dX_j {h : Int32} {j : Nat} (e : h &&& 63 = nI j) (hj : j < 64) : dX h = dxT j := by
  unfold dX
  rw [e, nI_clamp (by omega)]
theorem dX_1 {h : Int32} {j : Nat} {f : Nat → Int32} (e : h &&& 63 = nI j) (hj : j < 64) (hc : ∀ i, i < 17 → f i = cosT i) (h1 : j ≤ 16) : f j = dX h := by
  rw [dX_j e hj, dxc j hj, if_pos h1, hc j (by omega)]
theorem dX_2 {h : Int32} {j : Nat} {f : Nat → Int32} (e : h &&& 63 = nI j) (hj : j < 64) (hc : ∀ i, i < 17 → f i = cosT i) (h1 : 16 < j) (h2 : j ≤ 32) : -(f (32 - j)) = dX h := by
  rw [dX_j e hj, dxc j hj, if_neg (by omega), if_pos h2, hc _ (by omega)]
theorem dX_3 {h : Int32} {j : Nat} {f : Nat → Int32} (e : h &&& 63 = nI j) (hj : j < 64) (hc : ∀ i, i < 17 → f i = cosT i) (h2 : 32 < j) (h3 : j ≤ 48) : -(f (j - 32)) = dX h := by
  rw [dX_j e hj, dxc j hj, if_neg (by omega), if_neg (by omega), if_pos h3, hc _ (by omega)]
theorem dX_4 {h : Int32} {j : Nat} {f : Nat → Int32} (e : h &&& 63 = nI j) (hj : j < 64) (hc : ∀ i, i < 17 → f i = cosT i) (h3 : 48 < j) : f (64 - j) = dX h := by
  rw [dX_j e hj, dxc j hj, if_neg (by omega), if_neg (by omega), if_neg (by omega), hc _ (by omega)]
theorem ltN {a j : Nat} (hj : j < 64) (ha : a < 64) (c : nI a < nI j) : a < j := (nI_ltI (by omega) (by omega)).mp c
theorem nltN {a j : Nat} (hj : j < 64) (ha : a < 64) (c : ¬ nI a < nI j) : j ≤ a := by
  rcases Nat.lt_or_ge a j with q | q
  · exact absurd ((nI_ltI (by omega) (by omega)).mpr q) c
  · exact q
theorem and48 (h : Int32) : (h + 48) &&& 63 = (h - 16) &&& 63 := by
  rw [pk_and (h + 48) 6 (by decide), pk_and (h - 16) 6 (by decide)]
  congr 1
  have e1 : (h + 48).toBitVec.toNat = (h.toBitVec.toNat + 48) % 2 ^ 32 := by
    rw [Int32.toBitVec_add, BitVec.toNat_add]
    rfl
  have e2 : (h - 16).toBitVec.toNat = (2 ^ 32 - 16 + h.toBitVec.toNat) % 2 ^ 32 := by
    rw [Int32.toBitVec_sub, BitVec.toNat_sub]
    rfl
  rw [e1, e2]
  omega
theorem dX48 (h : Int32) : dX (h + 48) = dY h := by
  unfold dX dY
  rw [and48]
theorem sub_nI {a j : Nat} (h : j ≤ a) : nI a - nI j = nI (a - j) := pk_sub h
theorem cl_sub {a j : Nat} (h : j ≤ a) (ha : a < 2 ^ 31) : (nI a - nI j).toNatClampNeg = a - j := by rw [sub_nI h, nI_clamp (by omega)]
theorem in_sub {a j N : Nat} (h : j ≤ a) (ha : a - j < N) (hN : N < 2 ^ 31) : vp_in (nI a - nI j) N := by rw [sub_nI h]; exact vp_in_nI ha hN
def poM (a : St2) : St2 := fun k b => a (13 + k) b
def shM (a : St2) : St2 := fun k b => a (2 + k) b
def hangA (b : Nat) (a : St2) : St2 := u2 (u2 a 13 b (a 13 (b - 1) - a 3 (b - 1) * dX (a 15 (b - 1)) - a 2 b * dX (a 15 b))) 14 b (a 14 (b - 1) - a 3 (b - 1) * dY (a 15 (b - 1)) - a 2 b * dY (a 15 b))
def covM (a : St2) (b : Nat) (px py : Int32) : Int32 := insI (shM a) b (((px - a 13 b).toInt64 * (dX (a 15 b)).toInt64) + ((py - a 14 b).toInt64 * (dY (a 15 b)).toInt64)) (((py - a 14 b).toInt64 * (dX (a 15 b)).toInt64) - ((px - a 13 b).toInt64 * (dY (a 15 b)).toInt64))
theorem askF_s {po : St2} {b : Nat} (h : ¬ nI b = 0) (hb : b < 3) : askI (po 2 (b - 1)) (po 2 b) = askF po b := by
  unfold askF
  rw [if_neg (fun q => h (by rw [q]; rfl))]
theorem askF_z {po : St2} {b : Nat} (h : nI b = 0) (hb : b < 3) : 0 = askF po b := by
  unfold askF
  rw [if_pos ((nI_eq (a := b) (b := 0) (by omega) (by omega)).mp h)]
theorem pos_b {b : Nat} (h : ¬ nI b = 0) : 1 ≤ b := by
  rcases Nat.eq_zero_or_pos b with q | q
  · exact absurd (by rw [q]; rfl) h
  · exact q

set_option maxHeartbeats 4000000 in
set_option maxRecDepth 100000 in
theorem c_Mo_in (l : Launch) (g : Glob) (a b c9 : Int32) : CI l g y_Mo_in b_Mo_in 3 (some .boolean) 0 0 [.int a, .int b, .int c9] [] (inI a b c9) [] := by
  refine CI.of .boolean rfl (nar01 (inI_01 _ _ _)) (by decide +kernel) (Nat.le_of_ble_eq_true rfl) ?_
  intro p e s m below meth c A Q ls C hP hD hl hret hS
  obtain ⟨hx, hb, hml, hown, hw, hE, hA⟩ := id C
  have hl : lv_has ls 3 [(0, .int a), (1, .int b), (2, .int c9)] := hl
  refine lv_iload_n hx hb d_Mo_in_0 rfl (lv_at hl 0 rfl) ?_
  refine lv_iload_n hx hb d_Mo_in_1 rfl (lv_at hl 1 rfl) ?_
  refine lv_icmp_lt (tgt := 14) hx hb d_Mo_in_2 (by decide) (fun c2_1 => ?_) (fun c2_1 => ?_)
  · refine lv_iconst (v := 0) hx hb d_Mo_in_14 (by decide) ?_
    exact hret _ _ _ _ _ _ ((if_pos c2_1).symm) rfl hP hD hS d_Mo_in_15
  · refine lv_iload_n hx hb d_Mo_in_5 rfl (lv_at hl 0 rfl) ?_
    refine lv_iload_n hx hb d_Mo_in_6 rfl (lv_at hl 2 rfl) ?_
    refine lv_icmp_gt (tgt := 14) hx hb d_Mo_in_7 (by decide) (fun c7_2 => ?_) (fun c7_2 => ?_)
    · refine lv_iconst (v := 0) hx hb d_Mo_in_14 (by decide) ?_
      exact hret _ _ _ _ _ _ (((if_neg c2_1).trans (if_pos c7_2)).symm) rfl hP hD hS d_Mo_in_15
    · refine lv_iconst (v := 1) hx hb d_Mo_in_10 (by decide) ?_
      refine lv_goto (tgt := 15) hx hb d_Mo_in_11 (by decide) ?_
      exact hret _ _ _ _ _ _ (((if_neg c2_1).trans (if_neg c7_2)).symm) rfl hP hD hS d_Mo_in_15
set_option maxHeartbeats 4000000 in
set_option maxRecDepth 100000 in
theorem c_Mo_wrapped (l : Launch) (g : Glob) (a : Int32) : CI l g y_Mo_wrapped b_Mo_wrapped 1 (some .int) 0 0 [.int a] [] (((a + 32) &&& 63) - 32) [] := by
  refine CI.of .int rfl rfl (by decide +kernel) (Nat.le_of_ble_eq_true rfl) ?_
  intro p e s m below meth c A Q ls C hP hD hl hret hS
  obtain ⟨hx, hb, hml, hown, hw, hE, hA⟩ := id C
  have hl : lv_has ls 1 [(0, .int a)] := hl
  refine lv_iload_n hx hb d_Mo_wrapped_0 rfl (lv_at hl 0 rfl) ?_
  refine lv_bipush (v := 32) hx hb d_Mo_wrapped_1 (by decide) ?_
  refine lv_iadd hx hb d_Mo_wrapped_3 ?_
  refine lv_bipush (v := 63) hx hb d_Mo_wrapped_4 (by decide) ?_
  refine lv_iand hx hb d_Mo_wrapped_6 ?_
  refine lv_bipush (v := 32) hx hb d_Mo_wrapped_7 (by decide) ?_
  refine lv_isub hx hb d_Mo_wrapped_9 ?_
  exact hret _ _ _ _ _ _ rfl rfl hP hD hS d_Mo_wrapped_10
set_option maxHeartbeats 4000000 in
set_option maxRecDepth 100000 in
theorem c_Mo_down (l : Launch) (g : Glob) (a b : Int32) (h0 : ¬ b = 0) : CI l g y_Mo_down b_Mo_down 3 (some .int) 0 0 [.int a, .int b] [] (downI a b) [] := by
  refine CI.of .int rfl rfl (by decide +kernel) (Nat.le_of_ble_eq_true rfl) ?_
  intro p e s m below meth c A Q ls C hP hD hl hret hS
  obtain ⟨hx, hb, hml, hown, hw, hE, hA⟩ := id C
  have hl : lv_has ls 3 [(0, .int a), (1, .int b)] := hl
  refine lv_iload_n hx hb d_Mo_down_0 rfl (lv_at hl 0 rfl) ?_
  refine lv_iload_n hx hb d_Mo_down_1 rfl (lv_at hl 1 rfl) ?_
  refine lv_idiv hx hb d_Mo_down_2 h0 ?_
  refine lv_istore_n (lv' := [(2, .int (a / b)), (0, .int a), (1, .int b)]) hx hb d_Mo_down_3 rfl hl (by decide) rfl (fun ls hl => ?_)
  refine lv_iload_n hx hb d_Mo_down_4 rfl (lv_at hl 0 rfl) ?_
  refine lv_iload_n hx hb d_Mo_down_5 rfl (lv_at hl 2 rfl) ?_
  refine lv_imul hx hb d_Mo_down_6 ?_
  refine lv_iload_n hx hb d_Mo_down_7 rfl (lv_at hl 1 rfl) ?_
  refine lv_icmp_le (tgt := 17) hx hb d_Mo_down_8 (by decide) (fun c8_1 => ?_) (fun c8_1 => ?_)
  · refine lv_iload_n hx hb d_Mo_down_17 rfl (lv_at hl 0 rfl) ?_
    exact hret _ _ _ _ _ _ ((if_pos c8_1).symm) rfl hP hD hS d_Mo_down_18
  · refine lv_iload_n hx hb d_Mo_down_11 rfl (lv_at hl 0 rfl) ?_
    refine lv_iconst (v := 1) hx hb d_Mo_down_12 (by decide) ?_
    refine lv_isub hx hb d_Mo_down_13 ?_
    refine lv_goto (tgt := 18) hx hb d_Mo_down_14 (by decide) ?_
    exact hret _ _ _ _ _ _ ((if_neg c8_1).symm) rfl hP hD hS d_Mo_down_18
set_option maxHeartbeats 4000000 in
set_option maxRecDepth 100000 in
theorem c_Mo_cellOf (l : Launch) (g : Glob) (a : Int32) : CI l g y_Mo_cellOf b_Mo_cellOf 2 (some .int) 1 22 [.int a] [] (cellI a) [] := by
  refine CI.of .int rfl rfl (by decide +kernel) (Nat.le_of_ble_eq_true rfl) ?_
  intro p e s m below meth c A Q ls C hP hD hl hret hS
  obtain ⟨hx, hb, hml, hown, hw, hE, hA⟩ := id C
  have hl : lv_has ls 2 [(0, .int a)] := hl
  refine lv_iload_n hx hb d_Mo_cellOf_0 rfl (lv_at hl 0 rfl) ?_
  refine lv_sipush (v := 4096) hx hb d_Mo_cellOf_1 (by decide) ?_
  refine csI C v_Mo_102 [.int a, .int 4096] [] (c_Mo_down l g a 4096 (by decide)) hP hS rfl rfl hl.1 (Nat.le_of_ble_eq_true rfl) ⟨Nat.le_of_ble_eq_true rfl, Nat.le_of_ble_eq_true rfl⟩ d_Mo_cellOf_4 ⟨Nat.zero_le _, Nat.zero_le _⟩ (fun H locs hP hS => ?_)
  refine lv_istore_n (lv' := [(1, .int (downI a 4096)), (0, .int a)]) hx hb d_Mo_cellOf_7 rfl hl (by decide) rfl (fun ls hl => ?_)
  refine lv_iload_n hx hb d_Mo_cellOf_8 rfl (lv_at hl 0 rfl) ?_
  refine lv_bipush (v := 8) hx hb d_Mo_cellOf_9 (by decide) ?_
  refine csI C v_Mo_102 [.int (downI a 4096), .int 8] [] (c_Mo_down l g (downI a 4096) 8 (by decide)) hP hS rfl rfl hl.1 (Nat.le_of_ble_eq_true rfl) ⟨Nat.le_of_ble_eq_true rfl, Nat.le_of_ble_eq_true rfl⟩ d_Mo_cellOf_11 ⟨Nat.zero_le _, Nat.zero_le _⟩ (fun H locs hP hS => ?_)
  exact hret _ _ _ _ _ _ rfl rfl hP hD hS d_Mo_cellOf_14
set_option maxHeartbeats 4000000 in
set_option maxRecDepth 100000 in
theorem c_Mo_within (l : Launch) (g : Glob) (a : Int32) : CI l g y_Mo_within b_Mo_within 1 (some .int) 0 0 [.int a] [] (withI a) [] := by
  refine CI.of .int rfl rfl (by decide +kernel) (Nat.le_of_ble_eq_true rfl) ?_
  intro p e s m below meth c A Q ls C hP hD hl hret hS
  obtain ⟨hx, hb, hml, hown, hw, hE, hA⟩ := id C
  have hl : lv_has ls 1 [(0, .int a)] := hl
  refine lv_iload_n hx hb d_Mo_within_0 rfl (lv_at hl 0 rfl) ?_
  refine lv_bipush (v := (-32)) hx hb d_Mo_within_1 (by decide) ?_
  refine lv_icmp_ge (tgt := 11) hx hb d_Mo_within_3 (by decide) (fun c3_1 => ?_) (fun c3_1 => ?_)
  · refine lv_iload_n hx hb d_Mo_within_11 rfl (lv_at hl 0 rfl) ?_
    refine lv_bipush (v := 31) hx hb d_Mo_within_12 (by decide) ?_
    refine lv_icmp_le (tgt := 22) hx hb d_Mo_within_14 (by decide) (fun c14_2 => ?_) (fun c14_2 => ?_)
    · refine lv_iload_n hx hb d_Mo_within_22 rfl (lv_at hl 0 rfl) ?_
      exact hret _ _ _ _ _ _ (((if_pos c3_1).trans (if_pos c14_2)).symm) rfl hP hD hS d_Mo_within_23
    · refine lv_bipush (v := 31) hx hb d_Mo_within_17 (by decide) ?_
      refine lv_goto (tgt := 23) hx hb d_Mo_within_19 (by decide) ?_
      exact hret _ _ _ _ _ _ (((if_pos c3_1).trans (if_neg c14_2)).symm) rfl hP hD hS d_Mo_within_23
  · refine lv_bipush (v := (-32)) hx hb d_Mo_within_6 (by decide) ?_
    refine lv_goto (tgt := 23) hx hb d_Mo_within_8 (by decide) ?_
    exact hret _ _ _ _ _ _ ((if_neg c3_1).symm) rfl hP hD hS d_Mo_within_23
set_option maxHeartbeats 4000000 in
set_option maxRecDepth 100000 in
theorem c_Mo_dx (l : Launch) (g : Glob) (ad : Nat → Nat) (x : MS) (hc : ∀ i, i < 17 → x.2 1 i = cosT i) (h : Int32) : CI l g y_Mo_dx b_Mo_dx 3 (some .int) 0 0 [.ref (ad 0), .int h] (wM g ad x) (dX h) (wM g ad x) := by
  refine CI.of .int rfl rfl (by decide +kernel) (Nat.le_of_ble_eq_true rfl) ?_
  intro p e s m below meth c A Q ls C hP hD hl hret hS
  obtain ⟨hx, hb, hml, hown, hw, hE, hA⟩ := id C
  have hl : lv_has ls 3 [(0, .ref (ad 0)), (1, .int h)] := hl
  refine lv_iload_n hx hb d_Mo_dx_0 rfl (lv_at hl 1 rfl) ?_
  refine lv_bipush (v := 63) hx hb d_Mo_dx_1 (by decide) ?_
  refine lv_iand hx hb d_Mo_dx_3 ?_
  refine lv_istore_n (lv' := [(2, .int (h &&& 63)), (0, .ref (ad 0)), (1, .int h)]) hx hb d_Mo_dx_4 rfl hl (by decide) rfl (fun ls hl => ?_)
  obtain ⟨j, hj, ej⟩ := pk_andE h (m := 63) 6 (by decide)
  have hj : j < 64 := hj
  have hl : lv_has ls 3 [(2, .int (nI j)), (0, .ref (ad 0)), (1, .int h)] := by rw [← ej]; exact hl
  refine lv_iload_n hx hb d_Mo_dx_5 rfl (lv_at hl 0 rfl) ?_
  refine lv_bipush (v := 16) hx hb d_Mo_dx_6 (by decide) ?_
  refine lv_icmp_gt (tgt := 18) hx hb d_Mo_dx_8 (by decide) (fun c8_1 => ?_) (fun c8_1 => ?_)
  · have n1 := ltN (a := 16) hj (by decide) c8_1
    refine lv_iload_n hx hb d_Mo_dx_18 rfl (lv_at hl 0 rfl) ?_
    refine lv_bipush (v := 32) hx hb d_Mo_dx_19 (by decide) ?_
    refine lv_icmp_gt (tgt := 35) hx hb d_Mo_dx_21 (by decide) (fun c21_2 => ?_) (fun c21_2 => ?_)
    · have n2 := ltN (a := 32) hj (by decide) c21_2
      refine lv_iload_n hx hb d_Mo_dx_35 rfl (lv_at hl 0 rfl) ?_
      refine lv_bipush (v := 48) hx hb d_Mo_dx_36 (by decide) ?_
      refine lv_icmp_gt (tgt := 54) hx hb d_Mo_dx_38 (by decide) (fun c38_3 => ?_) (fun c38_3 => ?_)
      · have n3 := ltN (a := 48) hj (by decide) c38_3
        refine lv_aload_n hx hb d_Mo_dx_54 rfl (lv_at hl 1 rfl) ?_
        refine get_ms (x := x) C 1 q_551 rfl (by decide) (.ref (ad 1)) rfl hP d_Mo_dx_55 ?_
        refine lv_bipush (v := 64) hx hb d_Mo_dx_58 (by decide) ?_
        refine lv_iload_n hx hb d_Mo_dx_60 rfl (lv_at hl 0 rfl) ?_
        refine lv_isub hx hb d_Mo_dx_61 ?_
        refine get_ma (x := x) C 1 17 rfl (in_sub (a := 64) (by omega) (by omega) (by omega)) (x.2 1 (64 - j)) ((congrArg (x.2 1) (cl_sub (a := 64) (by omega) (by omega))).trans rfl) hP d_Mo_dx_62 ?_
        exact hret _ _ _ _ _ _ (dX_4 ej hj hc n3) rfl hP hD hS d_Mo_dx_63
      · have n3 := nltN (a := 48) hj (by decide) c38_3
        refine lv_aload_n hx hb d_Mo_dx_41 rfl (lv_at hl 1 rfl) ?_
        refine get_ms (x := x) C 1 q_551 rfl (by decide) (.ref (ad 1)) rfl hP d_Mo_dx_42 ?_
        refine lv_iload_n hx hb d_Mo_dx_45 rfl (lv_at hl 0 rfl) ?_
        refine lv_bipush (v := 32) hx hb d_Mo_dx_46 (by decide) ?_
        refine lv_isub hx hb d_Mo_dx_48 ?_
        refine get_ma (x := x) C 1 17 rfl (in_sub (j := 32) (by omega) (by omega) (by omega)) (x.2 1 (j - 32)) ((congrArg (x.2 1) (cl_sub (j := 32) (by omega) (by omega))).trans rfl) hP d_Mo_dx_49 ?_
        refine lv_ineg hx hb d_Mo_dx_50 ?_
        refine lv_goto (tgt := 63) hx hb d_Mo_dx_51 (by decide) ?_
        exact hret _ _ _ _ _ _ (dX_3 ej hj hc n2 n3) rfl hP hD hS d_Mo_dx_63
    · have n2 := nltN (a := 32) hj (by decide) c21_2
      refine lv_aload_n hx hb d_Mo_dx_24 rfl (lv_at hl 1 rfl) ?_
      refine get_ms (x := x) C 1 q_551 rfl (by decide) (.ref (ad 1)) rfl hP d_Mo_dx_25 ?_
      refine lv_bipush (v := 32) hx hb d_Mo_dx_28 (by decide) ?_
      refine lv_iload_n hx hb d_Mo_dx_30 rfl (lv_at hl 0 rfl) ?_
      refine lv_isub hx hb d_Mo_dx_31 ?_
      refine get_ma (x := x) C 1 17 rfl (in_sub (a := 32) (by omega) (by omega) (by omega)) (x.2 1 (32 - j)) ((congrArg (x.2 1) (cl_sub (a := 32) (by omega) (by omega))).trans rfl) hP d_Mo_dx_32 ?_
      refine lv_ineg hx hb d_Mo_dx_33 ?_
      exact hret _ _ _ _ _ _ (dX_2 ej hj hc n1 n2) rfl hP hD hS d_Mo_dx_34
  · have n1 := nltN (a := 16) hj (by decide) c8_1
    refine lv_aload_n hx hb d_Mo_dx_11 rfl (lv_at hl 1 rfl) ?_
    refine get_ms (x := x) C 1 q_551 rfl (by decide) (.ref (ad 1)) rfl hP d_Mo_dx_12 ?_
    refine lv_iload_n hx hb d_Mo_dx_15 rfl (lv_at hl 0 rfl) ?_
    refine get_ma (x := x) C 1 17 rfl (vp_in_nI (by omega) (by omega)) (x.2 1 j) ((congrArg (x.2 1) (nI_clamp (by omega))).trans rfl) hP d_Mo_dx_16 ?_
    exact hret _ _ _ _ _ _ (dX_1 ej hj hc n1) rfl hP hD hS d_Mo_dx_17
set_option maxHeartbeats 4000000 in
set_option maxRecDepth 100000 in
theorem c_Mo_dy (l : Launch) (g : Glob) (ad : Nat → Nat) (x : MS) (hc : ∀ i, i < 17 → x.2 1 i = cosT i) (h : Int32) : CI l g y_Mo_dy b_Mo_dy 2 (some .int) 1 22 [.ref (ad 0), .int h] (wM g ad x) (dY h) (wM g ad x) := by
  refine CI.of .int rfl rfl (by decide +kernel) (Nat.le_of_ble_eq_true rfl) ?_
  intro p e s m below meth c A Q ls C hP hD hl hret hS
  obtain ⟨hx, hb, hml, hown, hw, hE, hA⟩ := id C
  have hl : lv_has ls 2 [(0, .ref (ad 0)), (1, .int h)] := hl
  refine lv_aload_n hx hb d_Mo_dy_0 rfl (lv_at hl 0 rfl) ?_
  refine lv_iload_n hx hb d_Mo_dy_1 rfl (lv_at hl 1 rfl) ?_
  refine lv_bipush (v := 48) hx hb d_Mo_dy_2 (by decide) ?_
  refine lv_iadd hx hb d_Mo_dy_4 ?_
  refine cvI C v_Mo_90 [.int (h + 48)] [] (c_Mo_dx l g ad x hc (h + 48)) hP hD hS [0, 1, 2, 3, 4, 5, 6, 7, 8, 9, 10, 11, 12, 13, 14, 15, 16, 17, 18, 19, 20] [] [0, 1, 2, 3, 4, 5, 6, 7, 8, 9, 10, 11, 12, 13, 14, 15, 16, 17, 18, 19, 20] [] (wM g ad x) rfl rfl (by decide) (by decide) (by decide) rfl (by decide) 0 rfl rfl rfl rfl hl.1 (Nat.le_of_ble_eq_true rfl) ⟨Nat.le_of_ble_eq_true rfl, Nat.le_of_ble_eq_true rfl⟩ d_Mo_dy_5 ⟨Nat.zero_le _, Nat.zero_le _⟩ (fun H locs hP hD hS => ?_)
  exact hret _ _ _ _ _ _ (dX48 h) (rfl) hP hD hS d_Mo_dy_8
set_option maxHeartbeats 4000000 in
set_option maxRecDepth 100000 in
theorem c_Mo_askewOf (l : Launch) (g : Glob) (ad : Nat → Nat) (x : MS) (b : Nat) (hb3 : b < 3) : CI l g y_Mo_askewOf b_Mo_askewOf 2 (some .int) 1 20 [.ref (ad 0), .int (nI b)] (wM g ad x) (askF (poM x.2) b) (wM g ad x) := by
  refine CI.of .int rfl rfl (by decide +kernel) (Nat.le_of_ble_eq_true rfl) ?_
  intro p e s m below meth c A Q ls C hP hD hl hret hS
  obtain ⟨hx, hb, hml, hown, hw, hE, hA⟩ := id C
  have hl : lv_has ls 2 [(0, .ref (ad 0)), (1, .int (nI b))] := hl
  refine lv_iload_n hx hb d_Mo_askewOf_0 rfl (lv_at hl 1 rfl) ?_
  refine lv_if_ne (tgt := 8) hx hb d_Mo_askewOf_1 (by decide) (fun c1_1 => ?_) (fun c1_1 => ?_)
  · have hb1 := pos_b c1_1
    refine lv_aload_n hx hb d_Mo_askewOf_8 rfl (lv_at hl 0 rfl) ?_
    refine get_ms (x := x) C 21 q_571 rfl (by decide) (.ref (ad 15)) rfl hP d_Mo_askewOf_9 ?_
    refine lv_iload_n hx hb d_Mo_askewOf_12 rfl (lv_at hl 1 rfl) ?_
    refine lv_iconst (v := 1) hx hb d_Mo_askewOf_13 (by decide) ?_
    refine lv_isub hx hb d_Mo_askewOf_14 ?_
    refine get_ma (x := x) C 15 3 rfl (in_sub (j := 1) hb1 (by omega) (by omega)) (x.2 15 (b - 1)) ((congrArg (x.2 15) (cl_sub (j := 1) hb1 (by omega))).trans rfl) hP d_Mo_askewOf_15 ?_
    refine lv_aload_n hx hb d_Mo_askewOf_16 rfl (lv_at hl 0 rfl) ?_
    refine get_ms (x := x) C 21 q_571 rfl (by decide) (.ref (ad 15)) rfl hP d_Mo_askewOf_17 ?_
    refine lv_iload_n hx hb d_Mo_askewOf_20 rfl (lv_at hl 1 rfl) ?_
    refine get_ma (x := x) C 15 3 rfl (vp_in_nI hb3 (by omega)) (x.2 15 b) ((congrArg (x.2 15) (nI_clamp (by omega))).trans rfl) hP d_Mo_askewOf_21 ?_
    refine lv_isub hx hb d_Mo_askewOf_22 ?_
    refine csI C v_Mo_94 [.int ((x.2 15 (b - 1)) - (x.2 15 b))] [] (c_Mo_wrapped l g ((x.2 15 (b - 1)) - (x.2 15 b))) hP hS rfl rfl hl.1 (Nat.le_of_ble_eq_true rfl) ⟨Nat.le_of_ble_eq_true rfl, Nat.le_of_ble_eq_true rfl⟩ d_Mo_askewOf_23 ⟨Nat.zero_le _, Nat.zero_le _⟩ (fun H locs hP hS => ?_)
    exact hret _ _ _ _ _ _ (askF_s (po := poM x.2) c1_1 hb3) rfl hP hD hS d_Mo_askewOf_26
  · refine lv_iconst (v := 0) hx hb d_Mo_askewOf_4 (by decide) ?_
    refine lv_goto (tgt := 26) hx hb d_Mo_askewOf_5 (by decide) ?_
    exact hret _ _ _ _ _ _ (askF_z (po := poM x.2) c1_1 hb3) rfl hP hD hS d_Mo_askewOf_26
set_option maxHeartbeats 4000000 in
set_option maxRecDepth 100000 in
theorem c_Mo_hang (l : Launch) (g : Glob) (ad : Nat → Nat) (x : MS) (hc : ∀ i, i < 17 → x.2 1 i = cosT i) (b : Nat) (hb3 : b < 3) (hb1 : 1 ≤ b) : CV l g y_Mo_hang b_Mo_hang 3 2 43 [.ref (ad 0), .int (nI b)] (wM g ad x) (wM g ad (x.1, hangA b x.2)) := by
  refine CV.of (by decide +kernel) (Nat.le_of_ble_eq_true rfl) ?_
  intro p e s m below meth c A Q ls C hP hD hl hret hS
  obtain ⟨hx, hb, hml, hown, hw, hE, hA⟩ := id C
  have hl : lv_has ls 3 [(0, .ref (ad 0)), (1, .int (nI b))] := hl
  refine lv_aload_n hx hb d_Mo_hang_0 rfl (lv_at hl 0 rfl) ?_
  refine get_ms (x := x) C 21 q_571 rfl (by decide) (.ref (ad 15)) rfl hP d_Mo_hang_1 ?_
  refine lv_iload_n hx hb d_Mo_hang_4 rfl (lv_at hl 1 rfl) ?_
  refine lv_iconst (v := 1) hx hb d_Mo_hang_5 (by decide) ?_
  refine lv_isub hx hb d_Mo_hang_6 ?_
  refine get_ma (x := x) C 15 3 rfl (in_sub (j := 1) hb1 (by omega) (by omega)) (x.2 15 (b - 1)) ((congrArg (x.2 15) (cl_sub (j := 1) hb1 (by omega))).trans rfl) hP d_Mo_hang_7 ?_
  refine lv_istore_n (lv' := [(2, .int (x.2 15 (b - 1))), (0, .ref (ad 0)), (1, .int (nI b))]) hx hb d_Mo_hang_8 rfl hl (by decide) rfl (fun ls hl => ?_)
  refine lv_aload_n hx hb d_Mo_hang_9 rfl (lv_at hl 1 rfl) ?_
  refine get_ms (x := x) C 19 q_569 rfl (by decide) (.ref (ad 13)) rfl hP d_Mo_hang_10 ?_
  refine lv_iload_n hx hb d_Mo_hang_13 rfl (lv_at hl 2 rfl) ?_
  refine lv_aload_n hx hb d_Mo_hang_14 rfl (lv_at hl 1 rfl) ?_
  refine get_ms (x := x) C 19 q_569 rfl (by decide) (.ref (ad 13)) rfl hP d_Mo_hang_15 ?_
  refine lv_iload_n hx hb d_Mo_hang_18 rfl (lv_at hl 2 rfl) ?_
  refine lv_iconst (v := 1) hx hb d_Mo_hang_19 (by decide) ?_
  refine lv_isub hx hb d_Mo_hang_20 ?_
  refine get_ma (x := x) C 13 3 rfl (in_sub (j := 1) hb1 (by omega) (by omega)) (x.2 13 (b - 1)) ((congrArg (x.2 13) (cl_sub (j := 1) hb1 (by omega))).trans rfl) hP d_Mo_hang_21 ?_
  refine lv_aload_n hx hb d_Mo_hang_22 rfl (lv_at hl 1 rfl) ?_
  refine get_ms (x := x) C 4 q_554 rfl (by decide) (.ref (ad 3)) rfl hP d_Mo_hang_23 ?_
  refine lv_iload_n hx hb d_Mo_hang_26 rfl (lv_at hl 2 rfl) ?_
  refine lv_iconst (v := 1) hx hb d_Mo_hang_27 (by decide) ?_
  refine lv_isub hx hb d_Mo_hang_28 ?_
  refine get_ma (x := x) C 3 3 rfl (in_sub (j := 1) hb1 (by omega) (by omega)) (x.2 3 (b - 1)) ((congrArg (x.2 3) (cl_sub (j := 1) hb1 (by omega))).trans rfl) hP d_Mo_hang_29 ?_
  refine lv_aload_n hx hb d_Mo_hang_30 rfl (lv_at hl 1 rfl) ?_
  refine lv_iload_n hx hb d_Mo_hang_31 rfl (lv_at hl 0 rfl) ?_
  refine cvI C v_Mo_90 [.int (x.2 15 (b - 1))] [.int (x.2 3 (b - 1)), .int (x.2 13 (b - 1)), .int (nI b), .ref (ad 13)] (c_Mo_dx l g ad x hc (x.2 15 (b - 1))) hP hD hS [0, 1, 2, 3, 4, 5, 6, 7, 8, 9, 10, 11, 12, 13, 14, 15, 16, 17, 18, 19, 20] [] [0, 1, 2, 3, 4, 5, 6, 7, 8, 9, 10, 11, 12, 13, 14, 15, 16, 17, 18, 19, 20] [] (wM g ad x) rfl rfl (by decide) (by decide) (by decide) rfl (by decide) 0 rfl rfl rfl rfl hl.1 (Nat.le_of_ble_eq_true rfl) ⟨Nat.le_of_ble_eq_true rfl, Nat.le_of_ble_eq_true rfl⟩ d_Mo_hang_32 ⟨Nat.zero_le _, Nat.zero_le _⟩ (fun H locs hP hD hS => ?_)
  refine lv_imul hx hb d_Mo_hang_35 ?_
  refine lv_isub hx hb d_Mo_hang_36 ?_
  refine lv_aload_n hx hb d_Mo_hang_37 rfl (lv_at hl 1 rfl) ?_
  refine get_ms (x := x) C 3 q_553 rfl (by decide) (.ref (ad 2)) rfl hP d_Mo_hang_38 ?_
  refine lv_iload_n hx hb d_Mo_hang_41 rfl (lv_at hl 2 rfl) ?_
  refine get_ma (x := x) C 2 3 rfl (vp_in_nI hb3 (by omega)) (x.2 2 b) ((congrArg (x.2 2) (nI_clamp (by omega))).trans rfl) hP d_Mo_hang_42 ?_
  refine lv_aload_n hx hb d_Mo_hang_43 rfl (lv_at hl 1 rfl) ?_
  refine lv_aload_n hx hb d_Mo_hang_44 rfl (lv_at hl 1 rfl) ?_
  refine get_ms (x := x) C 21 q_571 rfl (by decide) (.ref (ad 15)) rfl hP d_Mo_hang_45 ?_
  refine lv_iload_n hx hb d_Mo_hang_48 rfl (lv_at hl 2 rfl) ?_
  refine get_ma (x := x) C 15 3 rfl (vp_in_nI hb3 (by omega)) (x.2 15 b) ((congrArg (x.2 15) (nI_clamp (by omega))).trans rfl) hP d_Mo_hang_49 ?_
  refine cvI C v_Mo_90 [.int (x.2 15 b)] [.int (x.2 2 b), .int ((x.2 13 (b - 1)) - ((x.2 3 (b - 1)) * (dX (x.2 15 (b - 1))))), .int (nI b), .ref (ad 13)] (c_Mo_dx l g ad x hc (x.2 15 b)) hP hD hS [0, 1, 2, 3, 4, 5, 6, 7, 8, 9, 10, 11, 12, 13, 14, 15, 16, 17, 18, 19, 20] [] [0, 1, 2, 3, 4, 5, 6, 7, 8, 9, 10, 11, 12, 13, 14, 15, 16, 17, 18, 19, 20] [] (wM g ad x) rfl rfl (by decide) (by decide) (by decide) rfl (by decide) 0 rfl rfl rfl rfl hl.1 (Nat.le_of_ble_eq_true rfl) ⟨Nat.le_of_ble_eq_true rfl, Nat.le_of_ble_eq_true rfl⟩ d_Mo_hang_50 ⟨Nat.zero_le _, Nat.zero_le _⟩ (fun H locs hP hD hS => ?_)
  refine lv_imul hx hb d_Mo_hang_53 ?_
  refine lv_isub hx hb d_Mo_hang_54 ?_
  refine put_ma C 13 3 rfl (vp_in_nI hb3 (by omega)) b (nI_clamp (by omega)) wM_a13 hP hD hS d_Mo_hang_55 (fun H locs hP hD hS => ?_)
  refine lv_aload_n hx hb d_Mo_hang_56 rfl (lv_at hl 1 rfl) ?_
  refine get_ms (x := (x.1, (u2 x.2 13 b (((x.2 13 (b - 1)) - ((x.2 3 (b - 1)) * (dX (x.2 15 (b - 1))))) - ((x.2 2 b) * (dX (x.2 15 b))))))) C 20 q_570 rfl (by decide) (.ref (ad 14)) rfl hP d_Mo_hang_57 ?_
  refine lv_iload_n hx hb d_Mo_hang_60 rfl (lv_at hl 2 rfl) ?_
  refine lv_aload_n hx hb d_Mo_hang_61 rfl (lv_at hl 1 rfl) ?_
  refine get_ms (x := (x.1, (u2 x.2 13 b (((x.2 13 (b - 1)) - ((x.2 3 (b - 1)) * (dX (x.2 15 (b - 1))))) - ((x.2 2 b) * (dX (x.2 15 b))))))) C 20 q_570 rfl (by decide) (.ref (ad 14)) rfl hP d_Mo_hang_62 ?_
  refine lv_iload_n hx hb d_Mo_hang_65 rfl (lv_at hl 2 rfl) ?_
  refine lv_iconst (v := 1) hx hb d_Mo_hang_66 (by decide) ?_
  refine lv_isub hx hb d_Mo_hang_67 ?_
  refine get_ma (x := (x.1, (u2 x.2 13 b (((x.2 13 (b - 1)) - ((x.2 3 (b - 1)) * (dX (x.2 15 (b - 1))))) - ((x.2 2 b) * (dX (x.2 15 b))))))) C 14 3 rfl (in_sub (j := 1) hb1 (by omega) (by omega)) (x.2 14 (b - 1)) ((congrArg ((u2 x.2 13 b (((x.2 13 (b - 1)) - ((x.2 3 (b - 1)) * (dX (x.2 15 (b - 1))))) - ((x.2 2 b) * (dX (x.2 15 b))))) 14) (cl_sub (j := 1) hb1 (by omega))).trans (u2_k (σ := x.2) (k := 13) (b := b) (x := (((x.2 13 (b - 1)) - ((x.2 3 (b - 1)) * (dX (x.2 15 (b - 1))))) - ((x.2 2 b) * (dX (x.2 15 b))))) (i := 14) (j := (b - 1)) (by decide))) hP d_Mo_hang_68 ?_
  refine lv_aload_n hx hb d_Mo_hang_69 rfl (lv_at hl 1 rfl) ?_
  refine get_ms (x := (x.1, (u2 x.2 13 b (((x.2 13 (b - 1)) - ((x.2 3 (b - 1)) * (dX (x.2 15 (b - 1))))) - ((x.2 2 b) * (dX (x.2 15 b))))))) C 4 q_554 rfl (by decide) (.ref (ad 3)) rfl hP d_Mo_hang_70 ?_
  refine lv_iload_n hx hb d_Mo_hang_73 rfl (lv_at hl 2 rfl) ?_
  refine lv_iconst (v := 1) hx hb d_Mo_hang_74 (by decide) ?_
  refine lv_isub hx hb d_Mo_hang_75 ?_
  refine get_ma (x := (x.1, (u2 x.2 13 b (((x.2 13 (b - 1)) - ((x.2 3 (b - 1)) * (dX (x.2 15 (b - 1))))) - ((x.2 2 b) * (dX (x.2 15 b))))))) C 3 3 rfl (in_sub (j := 1) hb1 (by omega) (by omega)) (x.2 3 (b - 1)) ((congrArg ((u2 x.2 13 b (((x.2 13 (b - 1)) - ((x.2 3 (b - 1)) * (dX (x.2 15 (b - 1))))) - ((x.2 2 b) * (dX (x.2 15 b))))) 3) (cl_sub (j := 1) hb1 (by omega))).trans (u2_k (σ := x.2) (k := 13) (b := b) (x := (((x.2 13 (b - 1)) - ((x.2 3 (b - 1)) * (dX (x.2 15 (b - 1))))) - ((x.2 2 b) * (dX (x.2 15 b))))) (i := 3) (j := (b - 1)) (by decide))) hP d_Mo_hang_76 ?_
  refine lv_aload_n hx hb d_Mo_hang_77 rfl (lv_at hl 1 rfl) ?_
  refine lv_iload_n hx hb d_Mo_hang_78 rfl (lv_at hl 0 rfl) ?_
  refine cvI C v_Mo_97 [.int (x.2 15 (b - 1))] [.int (x.2 3 (b - 1)), .int (x.2 14 (b - 1)), .int (nI b), .ref (ad 14)] (c_Mo_dy l g ad (x.1, (u2 x.2 13 b (((x.2 13 (b - 1)) - ((x.2 3 (b - 1)) * (dX (x.2 15 (b - 1))))) - ((x.2 2 b) * (dX (x.2 15 b)))))) (fun i hi => (u2_k (σ := x.2) (k := 13) (b := b) (x := (((x.2 13 (b - 1)) - ((x.2 3 (b - 1)) * (dX (x.2 15 (b - 1))))) - ((x.2 2 b) * (dX (x.2 15 b))))) (i := 1) (j := i) (by decide)).trans (hc i hi)) (x.2 15 (b - 1))) hP hD hS [0, 1, 2, 3, 4, 5, 6, 7, 8, 9, 10, 11, 12, 13, 14, 15, 16, 17, 18, 19, 20] [] [0, 1, 2, 3, 4, 5, 6, 7, 8, 9, 10, 11, 12, 13, 14, 15, 16, 17, 18, 19, 20] [] (wM g ad (x.1, (u2 x.2 13 b (((x.2 13 (b - 1)) - ((x.2 3 (b - 1)) * (dX (x.2 15 (b - 1))))) - ((x.2 2 b) * (dX (x.2 15 b))))))) rfl rfl (by decide) (by decide) (by decide) rfl (by decide) 0 rfl rfl rfl rfl hl.1 (Nat.le_of_ble_eq_true rfl) ⟨Nat.le_of_ble_eq_true rfl, Nat.le_of_ble_eq_true rfl⟩ d_Mo_hang_79 ⟨Nat.zero_le _, Nat.zero_le _⟩ (fun H locs hP hD hS => ?_)
  refine lv_imul hx hb d_Mo_hang_82 ?_
  refine lv_isub hx hb d_Mo_hang_83 ?_
  refine lv_aload_n hx hb d_Mo_hang_84 rfl (lv_at hl 1 rfl) ?_
  refine get_ms (x := (x.1, (u2 x.2 13 b (((x.2 13 (b - 1)) - ((x.2 3 (b - 1)) * (dX (x.2 15 (b - 1))))) - ((x.2 2 b) * (dX (x.2 15 b))))))) C 3 q_553 rfl (by decide) (.ref (ad 2)) rfl hP d_Mo_hang_85 ?_
  refine lv_iload_n hx hb d_Mo_hang_88 rfl (lv_at hl 2 rfl) ?_
  refine get_ma (x := (x.1, (u2 x.2 13 b (((x.2 13 (b - 1)) - ((x.2 3 (b - 1)) * (dX (x.2 15 (b - 1))))) - ((x.2 2 b) * (dX (x.2 15 b))))))) C 2 3 rfl (vp_in_nI hb3 (by omega)) (x.2 2 b) ((congrArg ((u2 x.2 13 b (((x.2 13 (b - 1)) - ((x.2 3 (b - 1)) * (dX (x.2 15 (b - 1))))) - ((x.2 2 b) * (dX (x.2 15 b))))) 2) (nI_clamp (by omega))).trans (u2_k (σ := x.2) (k := 13) (b := b) (x := (((x.2 13 (b - 1)) - ((x.2 3 (b - 1)) * (dX (x.2 15 (b - 1))))) - ((x.2 2 b) * (dX (x.2 15 b))))) (i := 2) (j := b) (by decide))) hP d_Mo_hang_89 ?_
  refine lv_aload_n hx hb d_Mo_hang_90 rfl (lv_at hl 1 rfl) ?_
  refine lv_aload_n hx hb d_Mo_hang_91 rfl (lv_at hl 1 rfl) ?_
  refine get_ms (x := (x.1, (u2 x.2 13 b (((x.2 13 (b - 1)) - ((x.2 3 (b - 1)) * (dX (x.2 15 (b - 1))))) - ((x.2 2 b) * (dX (x.2 15 b))))))) C 21 q_571 rfl (by decide) (.ref (ad 15)) rfl hP d_Mo_hang_92 ?_
  refine lv_iload_n hx hb d_Mo_hang_95 rfl (lv_at hl 2 rfl) ?_
  refine get_ma (x := (x.1, (u2 x.2 13 b (((x.2 13 (b - 1)) - ((x.2 3 (b - 1)) * (dX (x.2 15 (b - 1))))) - ((x.2 2 b) * (dX (x.2 15 b))))))) C 15 3 rfl (vp_in_nI hb3 (by omega)) (x.2 15 b) ((congrArg ((u2 x.2 13 b (((x.2 13 (b - 1)) - ((x.2 3 (b - 1)) * (dX (x.2 15 (b - 1))))) - ((x.2 2 b) * (dX (x.2 15 b))))) 15) (nI_clamp (by omega))).trans (u2_k (σ := x.2) (k := 13) (b := b) (x := (((x.2 13 (b - 1)) - ((x.2 3 (b - 1)) * (dX (x.2 15 (b - 1))))) - ((x.2 2 b) * (dX (x.2 15 b))))) (i := 15) (j := b) (by decide))) hP d_Mo_hang_96 ?_
  refine cvI C v_Mo_97 [.int (x.2 15 b)] [.int (x.2 2 b), .int ((x.2 14 (b - 1)) - ((x.2 3 (b - 1)) * (dY (x.2 15 (b - 1))))), .int (nI b), .ref (ad 14)] (c_Mo_dy l g ad (x.1, (u2 x.2 13 b (((x.2 13 (b - 1)) - ((x.2 3 (b - 1)) * (dX (x.2 15 (b - 1))))) - ((x.2 2 b) * (dX (x.2 15 b)))))) (fun i hi => (u2_k (σ := x.2) (k := 13) (b := b) (x := (((x.2 13 (b - 1)) - ((x.2 3 (b - 1)) * (dX (x.2 15 (b - 1))))) - ((x.2 2 b) * (dX (x.2 15 b))))) (i := 1) (j := i) (by decide)).trans (hc i hi)) (x.2 15 b)) hP hD hS [0, 1, 2, 3, 4, 5, 6, 7, 8, 9, 10, 11, 12, 13, 14, 15, 16, 17, 18, 19, 20] [] [0, 1, 2, 3, 4, 5, 6, 7, 8, 9, 10, 11, 12, 13, 14, 15, 16, 17, 18, 19, 20] [] (wM g ad (x.1, (u2 x.2 13 b (((x.2 13 (b - 1)) - ((x.2 3 (b - 1)) * (dX (x.2 15 (b - 1))))) - ((x.2 2 b) * (dX (x.2 15 b))))))) rfl rfl (by decide) (by decide) (by decide) rfl (by decide) 0 rfl rfl rfl rfl hl.1 (Nat.le_of_ble_eq_true rfl) ⟨Nat.le_of_ble_eq_true rfl, Nat.le_of_ble_eq_true rfl⟩ d_Mo_hang_97 ⟨Nat.zero_le _, Nat.zero_le _⟩ (fun H locs hP hD hS => ?_)
  refine lv_imul hx hb d_Mo_hang_100 ?_
  refine lv_isub hx hb d_Mo_hang_101 ?_
  refine put_ma C 14 3 rfl (vp_in_nI hb3 (by omega)) b (nI_clamp (by omega)) wM_a14 hP hD hS d_Mo_hang_102 (fun H locs hP hD hS => ?_)
  exact hret _ _ _ _ _ rfl hP hD hS d_Mo_hang_103
set_option maxHeartbeats 4000000 in
set_option maxRecDepth 100000 in
theorem c_Mo_covers (l : Launch) (g : Glob) (ad : Nat → Nat) (x : MS) (hc : ∀ i, i < 17 → x.2 1 i = cosT i) (b : Nat) (hb3 : b < 3) (px py : Int32) : CI l g y_Mo_covers b_Mo_covers 16 (some .boolean) 2 43 [.ref (ad 0), .int (nI b), .int px, .int py] (wM g ad x) (covM x.2 b px py) (wM g ad x) := by
  refine CI.of .boolean rfl (nar01 (insI_01 _ _ _ _)) (by decide +kernel) (Nat.le_of_ble_eq_true rfl) ?_
  intro p e s m below meth c A Q ls C hP hD hl hret hS
  obtain ⟨hx, hb, hml, hown, hw, hE, hA⟩ := id C
  have hl : lv_has ls 16 [(0, .ref (ad 0)), (1, .int (nI b)), (2, .int px), (3, .int py)] := hl
  refine lv_iload_n hx hb d_Mo_covers_0 rfl (lv_at hl 2 rfl) ?_
  refine lv_aload_n hx hb d_Mo_covers_1 rfl (lv_at hl 0 rfl) ?_
  refine get_ms (x := x) C 19 q_569 rfl (by decide) (.ref (ad 13)) rfl hP d_Mo_covers_2 ?_
  refine lv_iload_n hx hb d_Mo_covers_5 rfl (lv_at hl 1 rfl) ?_
  refine get_ma (x := x) C 13 3 rfl (vp_in_nI hb3 (by omega)) (x.2 13 b) ((congrArg (x.2 13) (nI_clamp (by omega))).trans rfl) hP d_Mo_covers_6 ?_
  refine lv_isub hx hb d_Mo_covers_7 ?_
  refine lv_i2l hx hb d_Mo_covers_8 rfl ?_
  refine lv_lstore (lv' := [(4, .long ((px - (x.2 13 b)).toInt64)), (0, .ref (ad 0)), (1, .int (nI b)), (2, .int px), (3, .int py)]) hx hb d_Mo_covers_9 hl (by decide) rfl (fun ls hl => ?_)
  refine lv_iload_n hx hb d_Mo_covers_11 rfl (lv_at hl 4 rfl) ?_
  refine lv_aload_n hx hb d_Mo_covers_12 rfl (lv_at hl 1 rfl) ?_
  refine get_ms (x := x) C 20 q_570 rfl (by decide) (.ref (ad 14)) rfl hP d_Mo_covers_13 ?_
  refine lv_iload_n hx hb d_Mo_covers_16 rfl (lv_at hl 2 rfl) ?_
  refine get_ma (x := x) C 14 3 rfl (vp_in_nI hb3 (by omega)) (x.2 14 b) ((congrArg (x.2 14) (nI_clamp (by omega))).trans rfl) hP d_Mo_covers_17 ?_
  refine lv_isub hx hb d_Mo_covers_18 ?_
  refine lv_i2l hx hb d_Mo_covers_19 rfl ?_
  refine lv_lstore (lv' := [(6, .long ((py - (x.2 14 b)).toInt64)), (4, .long ((px - (x.2 13 b)).toInt64)), (0, .ref (ad 0)), (1, .int (nI b)), (2, .int px), (3, .int py)]) hx hb d_Mo_covers_20 hl (by decide) rfl (fun ls hl => ?_)
  refine lv_aload_n hx hb d_Mo_covers_22 rfl (lv_at hl 2 rfl) ?_
  refine lv_aload_n hx hb d_Mo_covers_23 rfl (lv_at hl 2 rfl) ?_
  refine get_ms (x := x) C 21 q_571 rfl (by decide) (.ref (ad 15)) rfl hP d_Mo_covers_24 ?_
  refine lv_iload_n hx hb d_Mo_covers_27 rfl (lv_at hl 3 rfl) ?_
  refine get_ma (x := x) C 15 3 rfl (vp_in_nI hb3 (by omega)) (x.2 15 b) ((congrArg (x.2 15) (nI_clamp (by omega))).trans rfl) hP d_Mo_covers_28 ?_
  refine cvI C v_Mo_90 [.int (x.2 15 b)] [] (c_Mo_dx l g ad x hc (x.2 15 b)) hP hD hS [0, 1, 2, 3, 4, 5, 6, 7, 8, 9, 10, 11, 12, 13, 14, 15, 16, 17, 18, 19, 20] [] [0, 1, 2, 3, 4, 5, 6, 7, 8, 9, 10, 11, 12, 13, 14, 15, 16, 17, 18, 19, 20] [] (wM g ad x) rfl rfl (by decide) (by decide) (by decide) rfl (by decide) 0 rfl rfl rfl rfl hl.1 (Nat.le_of_ble_eq_true rfl) ⟨Nat.le_of_ble_eq_true rfl, Nat.le_of_ble_eq_true rfl⟩ d_Mo_covers_29 ⟨Nat.zero_le _, Nat.zero_le _⟩ (fun H locs hP hD hS => ?_)
  refine lv_i2l hx hb d_Mo_covers_32 rfl ?_
  refine lv_lstore (lv' := [(8, .long ((dX (x.2 15 b)).toInt64)), (6, .long ((py - (x.2 14 b)).toInt64)), (4, .long ((px - (x.2 13 b)).toInt64)), (0, .ref (ad 0)), (1, .int (nI b)), (2, .int px), (3, .int py)]) hx hb d_Mo_covers_33 hl (by decide) rfl (fun ls hl => ?_)
  refine lv_aload_n hx hb d_Mo_covers_35 rfl (lv_at hl 3 rfl) ?_
  refine lv_aload_n hx hb d_Mo_covers_36 rfl (lv_at hl 3 rfl) ?_
  refine get_ms (x := x) C 21 q_571 rfl (by decide) (.ref (ad 15)) rfl hP d_Mo_covers_37 ?_
  refine lv_iload_n hx hb d_Mo_covers_40 rfl (lv_at hl 4 rfl) ?_
  refine get_ma (x := x) C 15 3 rfl (vp_in_nI hb3 (by omega)) (x.2 15 b) ((congrArg (x.2 15) (nI_clamp (by omega))).trans rfl) hP d_Mo_covers_41 ?_
  refine cvI C v_Mo_97 [.int (x.2 15 b)] [] (c_Mo_dy l g ad x hc (x.2 15 b)) hP hD hS [0, 1, 2, 3, 4, 5, 6, 7, 8, 9, 10, 11, 12, 13, 14, 15, 16, 17, 18, 19, 20] [] [0, 1, 2, 3, 4, 5, 6, 7, 8, 9, 10, 11, 12, 13, 14, 15, 16, 17, 18, 19, 20] [] (wM g ad x) rfl rfl (by decide) (by decide) (by decide) rfl (by decide) 0 rfl rfl rfl rfl hl.1 (Nat.le_of_ble_eq_true rfl) ⟨Nat.le_of_ble_eq_true rfl, Nat.le_of_ble_eq_true rfl⟩ d_Mo_covers_42 ⟨Nat.zero_le _, Nat.zero_le _⟩ (fun H locs hP hD hS => ?_)
  refine lv_i2l hx hb d_Mo_covers_45 rfl ?_
  refine lv_lstore (lv' := [(10, .long ((dY (x.2 15 b)).toInt64)), (8, .long ((dX (x.2 15 b)).toInt64)), (6, .long ((py - (x.2 14 b)).toInt64)), (4, .long ((px - (x.2 13 b)).toInt64)), (0, .ref (ad 0)), (1, .int (nI b)), (2, .int px), (3, .int py)]) hx hb d_Mo_covers_46 hl (by decide) rfl (fun ls hl => ?_)
  refine lv_lload hx hb d_Mo_covers_48 (lv_at hl 3 rfl) ?_
  refine lv_lload hx hb d_Mo_covers_50 (lv_at hl 1 rfl) ?_
  refine lv_lmul hx hb d_Mo_covers_52 ?_
  refine lv_lload hx hb d_Mo_covers_53 (lv_at hl 2 rfl) ?_
  refine lv_lload hx hb d_Mo_covers_55 (lv_at hl 0 rfl) ?_
  refine lv_lmul hx hb d_Mo_covers_57 ?_
  refine lv_ladd hx hb d_Mo_covers_58 ?_
  refine lv_lstore (lv' := [(12, .long ((((px - (x.2 13 b)).toInt64) * ((dX (x.2 15 b)).toInt64)) + (((py - (x.2 14 b)).toInt64) * ((dY (x.2 15 b)).toInt64)))), (10, .long ((dY (x.2 15 b)).toInt64)), (8, .long ((dX (x.2 15 b)).toInt64)), (6, .long ((py - (x.2 14 b)).toInt64)), (4, .long ((px - (x.2 13 b)).toInt64)), (0, .ref (ad 0)), (1, .int (nI b)), (2, .int px), (3, .int py)]) hx hb d_Mo_covers_59 hl (by decide) rfl (fun ls hl => ?_)
  refine lv_lload hx hb d_Mo_covers_61 (lv_at hl 3 rfl) ?_
  refine lv_lload hx hb d_Mo_covers_63 (lv_at hl 2 rfl) ?_
  refine lv_lmul hx hb d_Mo_covers_65 ?_
  refine lv_lload hx hb d_Mo_covers_66 (lv_at hl 4 rfl) ?_
  refine lv_lload hx hb d_Mo_covers_68 (lv_at hl 1 rfl) ?_
  refine lv_lmul hx hb d_Mo_covers_70 ?_
  refine lv_lsub hx hb d_Mo_covers_71 ?_
  refine lv_lstore (lv' := [(14, .long ((((py - (x.2 14 b)).toInt64) * ((dX (x.2 15 b)).toInt64)) - (((px - (x.2 13 b)).toInt64) * ((dY (x.2 15 b)).toInt64)))), (12, .long ((((px - (x.2 13 b)).toInt64) * ((dX (x.2 15 b)).toInt64)) + (((py - (x.2 14 b)).toInt64) * ((dY (x.2 15 b)).toInt64)))), (10, .long ((dY (x.2 15 b)).toInt64)), (8, .long ((dX (x.2 15 b)).toInt64)), (6, .long ((py - (x.2 14 b)).toInt64)), (4, .long ((px - (x.2 13 b)).toInt64)), (0, .ref (ad 0)), (1, .int (nI b)), (2, .int px), (3, .int py)]) hx hb d_Mo_covers_72 hl (by decide) rfl (fun ls hl => ?_)
  refine lv_lload hx hb d_Mo_covers_74 (lv_at hl 1 rfl) ?_
  refine lv_aload_n hx hb d_Mo_covers_76 rfl (lv_at hl 6 rfl) ?_
  refine get_ms (x := x) C 6 q_556 rfl (by decide) (.ref (ad 5)) rfl hP d_Mo_covers_77 ?_
  refine lv_iload_n hx hb d_Mo_covers_80 rfl (lv_at hl 7 rfl) ?_
  refine get_ma (x := x) C 5 3 rfl (vp_in_nI hb3 (by omega)) (x.2 5 b) ((congrArg (x.2 5) (nI_clamp (by omega))).trans rfl) hP d_Mo_covers_81 ?_
  refine lv_ineg hx hb d_Mo_covers_82 ?_
  refine lv_i2l hx hb d_Mo_covers_83 rfl ?_
  refine lv_ldc2 (v := 16777216) hx hb hown (hw _ q_694) d_Mo_covers_84 ?_
  refine lv_lmul hx hb d_Mo_covers_87 ?_
  refine W.lcmp hx hb d_Mo_covers_88 ?_
  refine lv_if_lt (tgt := 148) hx hb d_Mo_covers_89 (by decide) (fun c89_1 => ?_) (fun c89_1 => ?_)
  · rw [lg_cmp_lt] at c89_1
    refine lv_iconst (v := 0) hx hb d_Mo_covers_148 (by decide) ?_
    exact hret _ _ _ _ _ _ ((if_pos c89_1).symm) rfl hP hD hS d_Mo_covers_149
  · rw [lg_cmp_lt] at c89_1
    refine lv_lload hx hb d_Mo_covers_92 (lv_at hl 1 rfl) ?_
    refine lv_aload_n hx hb d_Mo_covers_94 rfl (lv_at hl 6 rfl) ?_
    refine get_ms (x := x) C 5 q_555 rfl (by decide) (.ref (ad 4)) rfl hP d_Mo_covers_95 ?_
    refine lv_iload_n hx hb d_Mo_covers_98 rfl (lv_at hl 7 rfl) ?_
    refine get_ma (x := x) C 4 3 rfl (vp_in_nI hb3 (by omega)) (x.2 4 b) ((congrArg (x.2 4) (nI_clamp (by omega))).trans rfl) hP d_Mo_covers_99 ?_
    refine lv_i2l hx hb d_Mo_covers_100 rfl ?_
    refine lv_ldc2 (v := 16777216) hx hb hown (hw _ q_694) d_Mo_covers_101 ?_
    refine lv_lmul hx hb d_Mo_covers_104 ?_
    refine W.lcmp hx hb d_Mo_covers_105 ?_
    refine lv_if_gt (tgt := 148) hx hb d_Mo_covers_106 (by decide) (fun c106_2 => ?_) (fun c106_2 => ?_)
    · rw [lg_cmp_gt] at c106_2
      refine lv_iconst (v := 0) hx hb d_Mo_covers_148 (by decide) ?_
      exact hret _ _ _ _ _ _ (((if_neg c89_1).trans (if_pos c106_2)).symm) rfl hP hD hS d_Mo_covers_149
    · rw [lg_cmp_gt] at c106_2
      refine lv_lload hx hb d_Mo_covers_109 (lv_at hl 0 rfl) ?_
      refine lv_aload_n hx hb d_Mo_covers_111 rfl (lv_at hl 6 rfl) ?_
      refine get_ms (x := x) C 7 q_557 rfl (by decide) (.ref (ad 6)) rfl hP d_Mo_covers_112 ?_
      refine lv_iload_n hx hb d_Mo_covers_115 rfl (lv_at hl 7 rfl) ?_
      refine get_ma (x := x) C 6 3 rfl (vp_in_nI hb3 (by omega)) (x.2 6 b) ((congrArg (x.2 6) (nI_clamp (by omega))).trans rfl) hP d_Mo_covers_116 ?_
      refine lv_ineg hx hb d_Mo_covers_117 ?_
      refine lv_i2l hx hb d_Mo_covers_118 rfl ?_
      refine lv_ldc2 (v := 16777216) hx hb hown (hw _ q_694) d_Mo_covers_119 ?_
      refine lv_lmul hx hb d_Mo_covers_122 ?_
      refine W.lcmp hx hb d_Mo_covers_123 ?_
      refine lv_if_lt (tgt := 148) hx hb d_Mo_covers_124 (by decide) (fun c124_3 => ?_) (fun c124_3 => ?_)
      · rw [lg_cmp_lt] at c124_3
        refine lv_iconst (v := 0) hx hb d_Mo_covers_148 (by decide) ?_
        exact hret _ _ _ _ _ _ (((if_neg c89_1).trans ((if_neg c106_2).trans (if_pos c124_3))).symm) rfl hP hD hS d_Mo_covers_149
      · rw [lg_cmp_lt] at c124_3
        refine lv_lload hx hb d_Mo_covers_127 (lv_at hl 0 rfl) ?_
        refine lv_aload_n hx hb d_Mo_covers_129 rfl (lv_at hl 6 rfl) ?_
        refine get_ms (x := x) C 7 q_557 rfl (by decide) (.ref (ad 6)) rfl hP d_Mo_covers_130 ?_
        refine lv_iload_n hx hb d_Mo_covers_133 rfl (lv_at hl 7 rfl) ?_
        refine get_ma (x := x) C 6 3 rfl (vp_in_nI hb3 (by omega)) (x.2 6 b) ((congrArg (x.2 6) (nI_clamp (by omega))).trans rfl) hP d_Mo_covers_134 ?_
        refine lv_i2l hx hb d_Mo_covers_135 rfl ?_
        refine lv_ldc2 (v := 16777216) hx hb hown (hw _ q_694) d_Mo_covers_136 ?_
        refine lv_lmul hx hb d_Mo_covers_139 ?_
        refine W.lcmp hx hb d_Mo_covers_140 ?_
        refine lv_if_gt (tgt := 148) hx hb d_Mo_covers_141 (by decide) (fun c141_4 => ?_) (fun c141_4 => ?_)
        · rw [lg_cmp_gt] at c141_4
          refine lv_iconst (v := 0) hx hb d_Mo_covers_148 (by decide) ?_
          exact hret _ _ _ _ _ _ (((if_neg c89_1).trans ((if_neg c106_2).trans ((if_neg c124_3).trans (if_pos c141_4)))).symm) rfl hP hD hS d_Mo_covers_149
        · rw [lg_cmp_gt] at c141_4
          refine lv_iconst (v := 1) hx hb d_Mo_covers_144 (by decide) ?_
          refine lv_goto (tgt := 149) hx hb d_Mo_covers_145 (by decide) ?_
          exact hret _ _ _ _ _ _ (((if_neg c89_1).trans ((if_neg c106_2).trans ((if_neg c124_3).trans (if_neg c141_4)))).symm) rfl hP hD hS d_Mo_covers_149
end
section
/-! looking round, the reference's way -/
def u1 (a : St2) (k : Nat) (f : Nat → Int32) : St2 := fun i => if i = k then f else a i
theorem u1_s {a : St2} {k : Nat} {f : Nat → Int32} : u1 a k f k = f := by simp [u1]
theorem u1_k {a : St2} {k n : Nat} {f : Nat → Int32} (h : n ≠ k) : u1 a k f n = a n := by simp [u1, h]
theorem u2_u1 {a : St2} {k j : Nat} {f : Nat → Int32} {v : Int32} : u2 (u1 a k f) k j v = u1 a k (upd f j v) := by
  funext i q
  by_cases h : i = k
  · subst h
    simp [u2, u1, upd]
  · simp [u2, u1, h]
theorem u1_id {a : St2} {k : Nat} : u1 a k (a k) = a := by
  funext i
  by_cases h : i = k
  · subst h
    simp [u1]
  · simp [u1, h]
theorem upd_upd {f : Nat → Int32} {k : Nat} {v w : Int32} : upd (upd f k v) k w = upd f k w := by
  funext i
  by_cases h : i = k <;> simp [upd, h]
theorem upd_id {f : Nat → Int32} {k : Nat} : upd f k (f k) = f := by
  funext i
  by_cases h : i = k
  · subst h
    simp [upd]
  · simp [upd, h]
abbrev atI (i j : Int32) : Int32 := ((64 * (i + 32)) + j) + 32
abbrev CM : Type := Int32 × (Nat → Int32)
def mkM (a : St2) (b : Nat) (i j : Int32) (q : CM) : CM := if q.2 (atI i j).toNatClampNeg = 0 then (if covM a b (4096 * ((8 * i) + 4)) (4096 * ((8 * j) + 4)) = 0 then q else (q.1 + 1, upd q.2 (atI i j).toNatClampNeg 1)) else q
def stepMj (a : St2) (b : Nat) (i : Int32) (q : Int32 × CM) : Int32 × CM := (q.1 + 1, mkM a b i q.1 q.2)
def rowM (a : St2) (b : Nat) (i : Int32) (n : Nat) (j : Int32) (q : CM) : CM := (itr (stepMj a b i) n (j, q)).2
def stepMi (a : St2) (b : Nat) (nj : Nat) (fj : Int32) (q : Int32 × CM) : Int32 × CM := (q.1 + 1, rowM a b q.1 nj fj q.2)
def gridM (a : St2) (b : Nat) (nj : Nat) (fj : Int32) (n : Nat) (i : Int32) (q : CM) : CM := (itr (stepMi a b nj fj) n (i, q)).2
def frI (p : Int32) : Int32 := withI (cellI p - 10)
def toI (p : Int32) : Int32 := withI (cellI p + 10)
def gridF (a : St2) (b : Nat) (q : CM) : CM := gridM a b (cntI (frI (a 14 b)) (toI (a 14 b))) (frI (a 14 b)) (cntI (frI (a 13 b)) (toI (a 13 b))) (frI (a 13 b)) q
def hitM (a : St2) (b p : Nat) : Int32 := covM a b (4096 * a 7 p) (4096 * a 8 p)
def polS (o : Option Nat) (b : Nat) (s : Nat → Int32) : Nat → Int32 := match o with
  | none => s
  | some p => upd (upd (upd s 26 (s 24)) 27 (nI b)) 28 (nI p)
def lookB (np b : Nat) (x : MS) : MS := (if x.1 26 = -1 then polS (firstHit (hitM x.2 b) np 0) b (upd x.1 29 (gridF x.2 b (x.1 29, x.2 18)).1) else upd x.1 29 (gridF x.2 b (x.1 29, x.2 18)).1, u1 x.2 18 (gridF x.2 b (x.1 29, x.2 18)).2)
def InvL (n np : Nat) (x : MS) : Prop := (∀ i, i < 17 → x.2 1 i = cosT i) ∧ x.1 2 = nI n ∧ x.1 12 = nI np ∧ ¬ x.1 24 = -1
theorem polS_k {o : Option Nat} {b : Nat} {s : Nat → Int32} {f : Nat} (h1 : f ≠ 26) (h2 : f ≠ 27) (h3 : f ≠ 28) : polS o b s f = s f := by
  unfold polS
  split
  · rfl
  · rw [pk_un h3, pk_un h2, pk_un h1]
theorem lookB_s {np b : Nat} {x : MS} {f : Nat} (h1 : f ≠ 26) (h2 : f ≠ 27) (h3 : f ≠ 28) (h4 : f ≠ 29) : (lookB np b x).1 f = x.1 f := by
  unfold lookB
  dsimp only
  split
  · rw [polS_k h1 h2 h3, pk_un h4]
  · rw [pk_un h4]
theorem lookB_a {np b : Nat} {x : MS} {k : Nat} (h : k ≠ 18) : (lookB np b x).2 k = x.2 k := by
  unfold lookB
  dsimp only
  rw [u1_k h]
theorem lookB_inv {n np b : Nat} {x : MS} (h : InvL n np x) : InvL n np (lookB np b x) := by
  obtain ⟨h1, h2, h3, h4⟩ := h
  refine ⟨fun i hi => ?_, ?_, ?_, ?_⟩
  · rw [lookB_a (by decide)]; exact h1 i hi
  · rw [lookB_s (by decide) (by decide) (by decide) (by decide)]; exact h2
  · rw [lookB_s (by decide) (by decide) (by decide) (by decide)]; exact h3
  · rw [lookB_s (by decide) (by decide) (by decide) (by decide)]; exact h4
theorem rowM_s {a : St2} {b : Nat} {i j : Int32} {n : Nat} {q q' q8 : CM} (h : rowM a b i (n + 1) j q = q8) (e : mkM a b i j q = q') : rowM a b i n (j + 1) q' = q8 := by
  unfold rowM at h ⊢
  rw [itr_s, show stepMj a b i (j, q) = (j + 1, q') by unfold stepMj; rw [e]] at h
  exact h
theorem rowM_z {a : St2} {b : Nat} {i j : Int32} {q q8 : CM} (h : rowM a b i 0 j q = q8) : q = q8 := by
  unfold rowM at h
  rw [itr_z] at h
  exact h
theorem gridM_s {a : St2} {b nj : Nat} {fj i : Int32} {n : Nat} {q q' q9 : CM} (h : gridM a b nj fj (n + 1) i q = q9) (e : rowM a b i nj fj q = q') : gridM a b nj fj n (i + 1) q' = q9 := by
  unfold gridM at h ⊢
  rw [itr_s, show stepMi a b nj fj (i, q) = (i + 1, q') by unfold stepMi; rw [e]] at h
  exact h
theorem gridM_z {a : St2} {b nj : Nat} {fj i : Int32} {q q9 : CM} (h : gridM a b nj fj 0 i q = q9) : q = q9 := by
  unfold gridM at h
  rw [itr_z] at h
  exact h
theorem withI_b (v : Int32) : -32 ≤ (withI v).toInt ∧ (withI v).toInt ≤ 31 := by
  unfold withI
  split
  · next h =>
    split
    · next h2 => exact ⟨i32_le.mp h, i32_le.mp h2⟩
    · decide
  · decide
theorem tI_add {a b : Int32} (h1 : -2147483648 ≤ a.toInt + b.toInt) (h2 : a.toInt + b.toInt < 2147483648) : (a + b).toInt = a.toInt + b.toInt := by
  rw [Int32.toInt_add]
  exact Int.bmod_eq_of_le (by omega) (by omega)
theorem tI_sub {a b : Int32} (h1 : -2147483648 ≤ a.toInt - b.toInt) (h2 : a.toInt - b.toInt < 2147483648) : (a - b).toInt = a.toInt - b.toInt := by
  rw [Int32.toInt_sub]
  exact Int.bmod_eq_of_le (by omega) (by omega)
theorem tI_mul {a b : Int32} (h1 : -2147483648 ≤ a.toInt * b.toInt) (h2 : a.toInt * b.toInt < 2147483648) : (a * b).toInt = a.toInt * b.toInt := by
  rw [Int32.toInt_mul]
  exact Int.bmod_eq_of_le (by omega) (by omega)
theorem at_toInt {i j : Int32} (h1 : -32 ≤ i.toInt) (h2 : i.toInt ≤ 31) (h3 : -32 ≤ j.toInt) (h4 : j.toInt ≤ 31) : (atI i j).toInt = 64 * (i.toInt + 32) + j.toInt + 32 := by
  have a1 : (i + 32).toInt = i.toInt + 32 := tI_add (b := 32) (by show _ ≤ i.toInt + 32; omega) (by show i.toInt + 32 < _; omega)
  have a2 : (64 * (i + 32)).toInt = 64 * (i.toInt + 32) := by
    have := tI_mul (a := 64) (b := i + 32) (by rw [a1]; show _ ≤ 64 * (i.toInt + 32); omega) (by rw [a1]; show 64 * (i.toInt + 32) < _; omega)
    rw [this, a1]; rfl
  have a3 : (64 * (i + 32) + j).toInt = 64 * (i.toInt + 32) + j.toInt := by rw [tI_add (by rw [a2]; omega) (by rw [a2]; omega), a2]
  show (64 * (i + 32) + j + 32).toInt = _
  rw [tI_add (b := 32) (by rw [a3]; show _ ≤ 64 * (i.toInt + 32) + j.toInt + 32; omega) (by rw [a3]; show 64 * (i.toInt + 32) + j.toInt + 32 < _; omega), a3]
  rfl
theorem at_in {i j : Int32} (h1 : -32 ≤ i.toInt) (h2 : i.toInt ≤ 31) (h3 : -32 ≤ j.toInt) (h4 : j.toInt ≤ 31) : vp_in (atI i j) 4096 := by
  rw [vp_in_iff, at_toInt h1 h2 h3 h4]
  omega
theorem cnt_le {i li : Int32} {n : Nat} (h : cntI i li = n + 1) (h2 : li.toInt ≤ 31) : i.toInt ≤ 31 := by unfold cntI at h; omega

set_option maxHeartbeats 4000000 in
set_option maxRecDepth 100000 in
theorem c_Mo_look (l : Launch) (g : Glob) (ad : Nat → Nat) (x : MS) (n np : Nat) (hI : InvL n np x) (h3 : n ≤ 3) (h20 : np ≤ 20) : CV l g y_Mo_look b_Mo_look 9 3 78 [.ref (ad 0)] (wM g ad x) (wM g ad (itF (lookB np) n 0 x)) := by
  refine CV.of (by decide +kernel) (Nat.le_of_ble_eq_true rfl) ?_
  intro p e s m below meth c A Q ls C hP hD hl hret hS
  obtain ⟨hx, hb, hml, hown, hw, hE, hA⟩ := id C
  have hl : lv_has ls 9 [(0, .ref (ad 0))] := hl
  generalize h9 : itF (lookB np) n 0 x = x9 at hret
  refine lv_iconst (v := 0) hx hb d_Mo_look_0 (by decide) ?_
  refine lv_istore_n (lv' := [(1, .int 0), (0, .ref (ad 0))]) hx hb d_Mo_look_1 rfl hl (by decide) rfl (fun ls hl => ?_)
  have lp : ∀ (t : Nat) (b : Nat) (x : MS) (H : Heap) (locs : List Loc) (ls : Array Slot), b ≤ n → n < b + t → InvL n np x → itF (lookB np) n b x = x9 → va_P g.1 classes (wM g ad x) H → va_D A (wM g ad x) → va_S A s.heap H locs → lv_has ls 9 [(1, .int (nI b)), (0, .ref (ad 0))] → W p l e { frames := 3, cells := 0, slots := 0, locals := 78 } s m ([.ref (ad 0)] : List Value).toArray below meth c H locs 0 0 Q (F0 m 2 ls []) := by
    intro t
    induction t with
    | zero =>
      intro b x H locs ls hbn ht hI h9 hP hD hS hl
      exact absurd trivial (by omega)
    | succ t ih =>
      intro b x H locs ls hbn ht hI h9 hP hD hS hl
      obtain ⟨hc, hn, hp, hm⟩ := id hI
      refine lv_iload_n hx hb d_Mo_look_2 rfl (lv_at hl 0 rfl) ?_
      refine lv_aload_n hx hb d_Mo_look_3 rfl (lv_at hl 1 rfl) ?_
      refine get_mi (x := x) C 2 q_552 rfl (by decide) rfl (x.1 2) rfl hP d_Mo_look_4 ?_
      refine lv_icmp_ge (tgt := 263) hx hb d_Mo_look_7 (by decide) (fun c7_1 => ?_) (fun c7_1 => ?_)
      · have h9 := (itF_end (ge_of_le' 3 hn h3 (by decide) (by omega) c7_1)).symm.trans h9
        subst h9
        exact hret _ _ _ _ _ rfl hP hD hS d_Mo_look_263
      · have h9b := h9
        have ihb := ih
        have hlt := lt_of_nle' 3 hn h3 (by decide) (by omega) c7_1
        have hb3 : b < 3 := by omega
        refine lv_aload_n hx hb d_Mo_look_10 rfl (lv_at hl 1 rfl) ?_
        refine get_ms (x := x) C 19 q_569 rfl (by decide) (.ref (ad 13)) rfl hP d_Mo_look_11 ?_
        refine lv_iload_n hx hb d_Mo_look_14 rfl (lv_at hl 0 rfl) ?_
        refine get_ma (x := x) C 13 3 rfl (vp_in_nI hb3 (by omega)) (x.2 13 b) ((congrArg (x.2 13) (nI_clamp (by omega))).trans rfl) hP d_Mo_look_15 ?_
        refine csI C v_Mo_106 [.int (x.2 13 b)] [] (c_Mo_cellOf l g (x.2 13 b)) hP hS rfl rfl hl.1 (Nat.le_of_ble_eq_true rfl) ⟨Nat.le_of_ble_eq_true rfl, Nat.le_of_ble_eq_true rfl⟩ d_Mo_look_16 ⟨Nat.zero_le _, Nat.zero_le _⟩ (fun H locs hP hS => ?_)
        refine lv_bipush (v := 10) hx hb d_Mo_look_19 (by decide) ?_
        refine lv_isub hx hb d_Mo_look_21 ?_
        refine csI C v_Mo_109 [.int ((cellI (x.2 13 b)) - 10)] [] (c_Mo_within l g ((cellI (x.2 13 b)) - 10)) hP hS rfl rfl hl.1 (Nat.le_of_ble_eq_true rfl) ⟨Nat.le_of_ble_eq_true rfl, Nat.le_of_ble_eq_true rfl⟩ d_Mo_look_22 ⟨Nat.zero_le _, Nat.zero_le _⟩ (fun H locs hP hS => ?_)
        refine lv_topi (fun z2_2 ez2_2 => ?_)
        refine lv_istore_n (lv' := [(2, .int z2_2), (1, .int (nI b)), (0, .ref (ad 0))]) hx hb d_Mo_look_25 rfl hl (by decide) rfl (fun ls hl => ?_)
        refine lv_aload_n hx hb d_Mo_look_26 rfl (lv_at hl 2 rfl) ?_
        refine get_ms (x := x) C 19 q_569 rfl (by decide) (.ref (ad 13)) rfl hP d_Mo_look_27 ?_
        refine lv_iload_n hx hb d_Mo_look_30 rfl (lv_at hl 1 rfl) ?_
        refine get_ma (x := x) C 13 3 rfl (vp_in_nI hb3 (by omega)) (x.2 13 b) ((congrArg (x.2 13) (nI_clamp (by omega))).trans rfl) hP d_Mo_look_31 ?_
        refine csI C v_Mo_106 [.int (x.2 13 b)] [] (c_Mo_cellOf l g (x.2 13 b)) hP hS rfl rfl hl.1 (Nat.le_of_ble_eq_true rfl) ⟨Nat.le_of_ble_eq_true rfl, Nat.le_of_ble_eq_true rfl⟩ d_Mo_look_32 ⟨Nat.zero_le _, Nat.zero_le _⟩ (fun H locs hP hS => ?_)
        refine lv_bipush (v := 10) hx hb d_Mo_look_35 (by decide) ?_
        refine lv_iadd hx hb d_Mo_look_37 ?_
        refine csI C v_Mo_109 [.int ((cellI (x.2 13 b)) + 10)] [] (c_Mo_within l g ((cellI (x.2 13 b)) + 10)) hP hS rfl rfl hl.1 (Nat.le_of_ble_eq_true rfl) ⟨Nat.le_of_ble_eq_true rfl, Nat.le_of_ble_eq_true rfl⟩ d_Mo_look_38 ⟨Nat.zero_le _, Nat.zero_le _⟩ (fun H locs hP hS => ?_)
        refine lv_topi (fun z3_3 ez3_3 => ?_)
        refine lv_istore_n (lv' := [(3, .int z3_3), (2, .int z2_2), (1, .int (nI b)), (0, .ref (ad 0))]) hx hb d_Mo_look_41 rfl hl (by decide) rfl (fun ls hl => ?_)
        refine lv_aload_n hx hb d_Mo_look_42 rfl (lv_at hl 3 rfl) ?_
        refine get_ms (x := x) C 20 q_570 rfl (by decide) (.ref (ad 14)) rfl hP d_Mo_look_43 ?_
        refine lv_iload_n hx hb d_Mo_look_46 rfl (lv_at hl 2 rfl) ?_
        refine get_ma (x := x) C 14 3 rfl (vp_in_nI hb3 (by omega)) (x.2 14 b) ((congrArg (x.2 14) (nI_clamp (by omega))).trans rfl) hP d_Mo_look_47 ?_
        refine csI C v_Mo_106 [.int (x.2 14 b)] [] (c_Mo_cellOf l g (x.2 14 b)) hP hS rfl rfl hl.1 (Nat.le_of_ble_eq_true rfl) ⟨Nat.le_of_ble_eq_true rfl, Nat.le_of_ble_eq_true rfl⟩ d_Mo_look_48 ⟨Nat.zero_le _, Nat.zero_le _⟩ (fun H locs hP hS => ?_)
        refine lv_bipush (v := 10) hx hb d_Mo_look_51 (by decide) ?_
        refine lv_isub hx hb d_Mo_look_53 ?_
        refine csI C v_Mo_109 [.int ((cellI (x.2 14 b)) - 10)] [] (c_Mo_within l g ((cellI (x.2 14 b)) - 10)) hP hS rfl rfl hl.1 (Nat.le_of_ble_eq_true rfl) ⟨Nat.le_of_ble_eq_true rfl, Nat.le_of_ble_eq_true rfl⟩ d_Mo_look_54 ⟨Nat.zero_le _, Nat.zero_le _⟩ (fun H locs hP hS => ?_)
        refine lv_topi (fun z4_4 ez4_4 => ?_)
        refine lv_istore (lv' := [(4, .int z4_4), (3, .int z3_3), (2, .int z2_2), (1, .int (nI b)), (0, .ref (ad 0))]) hx hb d_Mo_look_57 hl (by decide) rfl (fun ls hl => ?_)
        refine lv_aload_n hx hb d_Mo_look_59 rfl (lv_at hl 4 rfl) ?_
        refine get_ms (x := x) C 20 q_570 rfl (by decide) (.ref (ad 14)) rfl hP d_Mo_look_60 ?_
        refine lv_iload_n hx hb d_Mo_look_63 rfl (lv_at hl 3 rfl) ?_
        refine get_ma (x := x) C 14 3 rfl (vp_in_nI hb3 (by omega)) (x.2 14 b) ((congrArg (x.2 14) (nI_clamp (by omega))).trans rfl) hP d_Mo_look_64 ?_
        refine csI C v_Mo_106 [.int (x.2 14 b)] [] (c_Mo_cellOf l g (x.2 14 b)) hP hS rfl rfl hl.1 (Nat.le_of_ble_eq_true rfl) ⟨Nat.le_of_ble_eq_true rfl, Nat.le_of_ble_eq_true rfl⟩ d_Mo_look_65 ⟨Nat.zero_le _, Nat.zero_le _⟩ (fun H locs hP hS => ?_)
        refine lv_bipush (v := 10) hx hb d_Mo_look_68 (by decide) ?_
        refine lv_iadd hx hb d_Mo_look_70 ?_
        refine csI C v_Mo_109 [.int ((cellI (x.2 14 b)) + 10)] [] (c_Mo_within l g ((cellI (x.2 14 b)) + 10)) hP hS rfl rfl hl.1 (Nat.le_of_ble_eq_true rfl) ⟨Nat.le_of_ble_eq_true rfl, Nat.le_of_ble_eq_true rfl⟩ d_Mo_look_71 ⟨Nat.zero_le _, Nat.zero_le _⟩ (fun H locs hP hS => ?_)
        refine lv_topi (fun z5_5 ez5_5 => ?_)
        refine lv_istore (lv' := [(5, .int z5_5), (4, .int z4_4), (3, .int z3_3), (2, .int z2_2), (1, .int (nI b)), (0, .ref (ad 0))]) hx hb d_Mo_look_74 hl (by decide) rfl (fun ls hl => ?_)
        refine lv_iload_n hx hb d_Mo_look_76 rfl (lv_at hl 3 rfl) ?_
        refine lv_istore (lv' := [(6, .int z2_2), (5, .int z5_5), (4, .int z4_4), (3, .int z3_3), (2, .int z2_2), (1, .int (nI b)), (0, .ref (ad 0))]) hx hb d_Mo_look_77 hl (by decide) rfl (fun ls hl => ?_)
        have bfi := withI_b (cellI (x.2 13 b) - 10)
        rw [← ez2_2] at bfi
        have bti := withI_b (cellI (x.2 13 b) + 10)
        rw [← ez3_3] at bti
        have bfj := withI_b (cellI (x.2 14 b) - 10)
        rw [← ez4_4] at bfj
        have btj := withI_b (cellI (x.2 14 b) + 10)
        rw [← ez5_5] at btj
        generalize hq9 : gridF x.2 b (x.1 29, x.2 18) = q9
        have h9 : gridM x.2 b (cntI z4_4 z5_5) z4_4 (cntI z2_2 z3_3) z2_2 (x.1 29, x.2 18) = q9 := by rw [ez2_2, ez3_3, ez4_4, ez5_5]; exact hq9
        obtain ⟨s0, a0⟩ := x
        dsimp only at h9 hq9 hc hn hp hm
        have K : ∀ (H : Heap) (locs : List Loc) (ls : Array Slot), va_P g.1 classes (wM g ad (upd s0 29 q9.1, u1 a0 18 q9.2)) H → va_D A (wM g ad (upd s0 29 q9.1, u1 a0 18 q9.2)) → va_S A s.heap H locs → lv_has ls 9 [(1, .int (nI b)), (0, .ref (ad 0))] → W p l e { frames := 3, cells := 0, slots := 0, locals := 78 } s m ([.ref (ad 0)] : List Value).toArray below meth c H locs 0 0 Q (F0 m 182 ls []) := by
          intro H locs ls hP hD hS hl
          refine lv_iconst (v := 0) hx hb d_Mo_look_182 (by decide) ?_
          refine lv_istore (lv' := [(6, .int 0), (1, .int (nI b)), (0, .ref (ad 0))]) hx hb d_Mo_look_183 hl (by decide) rfl (fun ls hl => ?_)
          by_cases hcl : s0 26 = -1
          · generalize hf9 : firstHit (hitM a0 b) np 0 = o9
            have lk : ∀ (t2 : Nat) (k : Nat) (H : Heap) (locs : List Loc) (ls : Array Slot), k ≤ np → np < k + t2 → firstHit (hitM a0 b) (np - k) k = o9 → va_P g.1 classes (wM g ad (upd s0 29 q9.1, u1 a0 18 q9.2)) H → va_D A (wM g ad (upd s0 29 q9.1, u1 a0 18 q9.2)) → va_S A s.heap H locs → lv_has ls 9 [(6, .int (nI k)), (1, .int (nI b)), (0, .ref (ad 0))] → W p l e { frames := 3, cells := 0, slots := 0, locals := 78 } s m ([.ref (ad 0)] : List Value).toArray below meth c H locs 0 0 Q (F0 m 185 ls []) := by
              intro t2
              induction t2 with
              | zero =>
                intro k H locs ls hk ht2 hf hP hD hS hl
                exact absurd trivial (by omega)
              | succ t2 ih =>
                intro k H locs ls hk ht2 hf hP hD hS hl
                refine lv_iload hx hb d_Mo_look_185 (lv_at hl 0 rfl) ?_
                refine lv_aload_n hx hb d_Mo_look_187 rfl (lv_at hl 2 rfl) ?_
                refine get_mi (x := ((upd s0 29 q9.1), (u1 a0 18 q9.2))) C 12 q_562 rfl (by decide) rfl (s0 12) (pk_un (f := s0) (k := 29) (x := q9.1) (j := 12) (by decide)) hP d_Mo_look_188 ?_
                refine lv_icmp_ge (tgt := 257) hx hb d_Mo_look_191 (by decide) (fun c191_6 => ?_) (fun c191_6 => ?_)
                · have hf := fh_end (ge_of_le' 20 hp h20 (by decide) (by omega) c191_6) hf
                  subst hf
                  refine lv_iinc (v := (nI (b + 1))) (lv' := [(1, .int (nI (b + 1))), (6, .int (nI k)), (0, .ref (ad 0))]) hx hb d_Mo_look_257 hl (k := 1) rfl (nI_1 b) (by decide) rfl (fun ls hl => ?_)
                  refine lv_goto (tgt := 2) hx hb d_Mo_look_260 (by decide) ?_
                  have e1 : lookB np b (s0, a0) = ((upd s0 29 q9.1), (u1 a0 18 q9.2)) := by unfold lookB; dsimp only; rw [if_pos hcl, hq9, hf9]; rfl
                  exact ihb (b + 1) ((upd s0 29 q9.1), (u1 a0 18 q9.2)) _ _ _ (by omega) (by omega) (e1 ▸ lookB_inv hI) (it_back hlt h9b e1) hP hD hS (lv_sub hl [0, 2] rfl)
                · have hlk := lt_of_nle' 20 hp h20 (by decide) (by omega) c191_6
                  refine lv_aload_n hx hb d_Mo_look_194 rfl (lv_at hl 2 rfl) ?_
                  refine get_mi (x := ((upd s0 29 q9.1), (u1 a0 18 q9.2))) C 26 q_576 rfl (by decide) rfl (s0 26) (pk_un (f := s0) (k := 29) (x := q9.1) (j := 26) (by decide)) hP d_Mo_look_195 ?_
                  refine lv_iconst (v := (-1)) hx hb d_Mo_look_198 (by decide) ?_
                  refine lv_icmp_ne (tgt := 257) hx hb d_Mo_look_199 (by decide) (fun c199_7 => ?_) (fun c199_7 => ?_)
                  · exact absurd c199_7 (fun q => q hcl)
                  refine lv_aload_n hx hb d_Mo_look_202 rfl (lv_at hl 2 rfl) ?_
                  refine lv_iload_n hx hb d_Mo_look_203 rfl (lv_at hl 1 rfl) ?_
                  refine lv_sipush (v := 4096) hx hb d_Mo_look_204 (by decide) ?_
                  refine lv_aload_n hx hb d_Mo_look_207 rfl (lv_at hl 2 rfl) ?_
                  refine get_ms (x := ((upd s0 29 q9.1), (u1 a0 18 q9.2))) C 13 q_563 rfl (by decide) (.ref (ad 7)) rfl hP d_Mo_look_208 ?_
                  refine lv_iload hx hb d_Mo_look_211 (lv_at hl 0 rfl) ?_
                  refine get_ma (x := ((upd s0 29 q9.1), (u1 a0 18 q9.2))) C 7 20 rfl (vp_in_nI (show k < 20 by omega) (by omega)) (a0 7 k) ((congrArg ((u1 a0 18 q9.2) 7) (nI_clamp (by omega))).trans (congrFun (u1_k (a := a0) (k := 18) (f := q9.2) (n := 7) (by decide)) k)) hP d_Mo_look_213 ?_
                  refine lv_imul hx hb d_Mo_look_214 ?_
                  refine lv_sipush (v := 4096) hx hb d_Mo_look_215 (by decide) ?_
                  refine lv_aload_n hx hb d_Mo_look_218 rfl (lv_at hl 2 rfl) ?_
                  refine get_ms (x := ((upd s0 29 q9.1), (u1 a0 18 q9.2))) C 14 q_564 rfl (by decide) (.ref (ad 8)) rfl hP d_Mo_look_219 ?_
                  refine lv_iload hx hb d_Mo_look_222 (lv_at hl 0 rfl) ?_
                  refine get_ma (x := ((upd s0 29 q9.1), (u1 a0 18 q9.2))) C 8 20 rfl (vp_in_nI (show k < 20 by omega) (by omega)) (a0 8 k) ((congrArg ((u1 a0 18 q9.2) 8) (nI_clamp (by omega))).trans (congrFun (u1_k (a := a0) (k := 18) (f := q9.2) (n := 8) (by decide)) k)) hP d_Mo_look_224 ?_
                  refine lv_imul hx hb d_Mo_look_225 ?_
                  refine cvI C v_Mo_112 [.int (nI b), .int (4096 * (a0 7 k)), .int (4096 * (a0 8 k))] [] (c_Mo_covers l g ad ((upd s0 29 q9.1), (u1 a0 18 q9.2)) (fun i hi => (congrFun (u1_k (a := a0) (k := 18) (f := q9.2) (n := 1) (by decide)) i).trans (hc i hi)) b hb3 (4096 * (a0 7 k)) (4096 * (a0 8 k))) hP hD hS [0, 1, 2, 3, 4, 5, 6, 7, 8, 9, 10, 11, 12, 13, 14, 15, 16, 17, 18, 19, 20] [] [0, 1, 2, 3, 4, 5, 6, 7, 8, 9, 10, 11, 12, 13, 14, 15, 16, 17, 18, 19, 20] [] (wM g ad ((upd s0 29 q9.1), (u1 a0 18 q9.2))) rfl rfl (by decide) (by decide) (by decide) rfl (by decide) 0 rfl rfl rfl rfl hl.1 (Nat.le_of_ble_eq_true rfl) ⟨Nat.le_of_ble_eq_true rfl, Nat.le_of_ble_eq_true rfl⟩ d_Mo_look_226 ⟨Nat.zero_le _, Nat.zero_le _⟩ (fun H locs hP hD hS => ?_)
                  refine lv_if_eq (tgt := 251) hx hb d_Mo_look_229 (by decide) (fun c229_8 => ?_) (fun c229_8 => ?_)
                  · refine lv_iinc (v := (nI (k + 1))) (lv' := [(6, .int (nI (k + 1))), (1, .int (nI b)), (0, .ref (ad 0))]) hx hb d_Mo_look_251 hl (k := 0) rfl (nI_1 k) (by decide) rfl (fun ls hl => ?_)
                    refine lv_goto (tgt := 185) hx hb d_Mo_look_254 (by decide) ?_
                    exact ih (k + 1) _ _ _ (by omega) (by omega) (fh_back hlk hf c229_8) hP hD hS (lv_sub hl [0, 1, 2] rfl)
                  · refine lv_aload_n hx hb d_Mo_look_232 rfl (lv_at hl 2 rfl) ?_
                    refine lv_aload_n hx hb d_Mo_look_233 rfl (lv_at hl 2 rfl) ?_
                    refine get_mi (x := ((upd s0 29 q9.1), (u1 a0 18 q9.2))) C 24 q_574 rfl (by decide) rfl (s0 24) (pk_un (f := s0) (k := 29) (x := q9.1) (j := 24) (by decide)) hP d_Mo_look_234 ?_
                    refine put_ms C 26 (ty := .int) q_576 rfl (by decide) rfl (by decide +kernel) rfl rfl wM_s26 hP hD hS d_Mo_look_237 (fun H locs hP hD hS => ?_)
                    refine lv_aload_n hx hb d_Mo_look_240 rfl (lv_at hl 2 rfl) ?_
                    refine lv_iload_n hx hb d_Mo_look_241 rfl (lv_at hl 1 rfl) ?_
                    refine put_ms C 27 (ty := .int) q_577 rfl (by decide) rfl (by decide +kernel) rfl rfl wM_s27 hP hD hS d_Mo_look_242 (fun H locs hP hD hS => ?_)
                    refine lv_aload_n hx hb d_Mo_look_245 rfl (lv_at hl 2 rfl) ?_
                    refine lv_iload hx hb d_Mo_look_246 (lv_at hl 0 rfl) ?_
                    refine put_ms C 28 (ty := .int) q_578 rfl (by decide) rfl (by decide +kernel) rfl rfl wM_s28 hP hD hS d_Mo_look_248 (fun H locs hP hD hS => ?_)
                    refine lv_iinc (v := (nI (k + 1))) (lv' := [(6, .int (nI (k + 1))), (1, .int (nI b)), (0, .ref (ad 0))]) hx hb d_Mo_look_251 hl (k := 0) rfl (nI_1 k) (by decide) rfl (fun ls hl => ?_)
                    refine lv_goto (tgt := 185) hx hb d_Mo_look_254 (by decide) ?_
                    have hf := fh_hit hlk hf c229_8
                    subst hf
                    refine lv_iload hx hb d_Mo_look_185 (lv_at hl 0 rfl) ?_
                    refine lv_aload_n hx hb d_Mo_look_187 rfl (lv_at hl 2 rfl) ?_
                    refine get_mi (x := ((upd (upd (upd (upd s0 29 q9.1) 26 (s0 24)) 27 (nI b)) 28 (nI k)), (u1 a0 18 q9.2))) C 12 q_562 rfl (by decide) rfl (s0 12) ((pk_un (f := (upd (upd (upd s0 29 q9.1) 26 (s0 24)) 27 (nI b))) (k := 28) (x := (nI k)) (j := 12) (by decide)).trans ((pk_un (f := (upd (upd s0 29 q9.1) 26 (s0 24))) (k := 27) (x := (nI b)) (j := 12) (by decide)).trans ((pk_un (f := (upd s0 29 q9.1)) (k := 26) (x := (s0 24)) (j := 12) (by decide)).trans (pk_un (f := s0) (k := 29) (x := q9.1) (j := 12) (by decide))))) hP d_Mo_look_188 ?_
                    refine lv_icmp_ge (tgt := 257) hx hb d_Mo_look_191 (by decide) (fun c191_9 => ?_) (fun c191_9 => ?_)
                    · refine lv_iinc (v := (nI (b + 1))) (lv' := [(1, .int (nI (b + 1))), (6, .int (nI (k + 1))), (0, .ref (ad 0))]) hx hb d_Mo_look_257 hl (k := 1) rfl (nI_1 b) (by decide) rfl (fun ls hl => ?_)
                      refine lv_goto (tgt := 2) hx hb d_Mo_look_260 (by decide) ?_
                      have e1 : lookB np b (s0, a0) = ((upd (upd (upd (upd s0 29 q9.1) 26 (s0 24)) 27 (nI b)) 28 (nI k)), (u1 a0 18 q9.2)) := by unfold lookB; dsimp only; rw [if_pos hcl, hq9, hf9]; rfl
                      exact ihb (b + 1) ((upd (upd (upd (upd s0 29 q9.1) 26 (s0 24)) 27 (nI b)) 28 (nI k)), (u1 a0 18 q9.2)) _ _ _ (by omega) (by omega) (e1 ▸ lookB_inv hI) (it_back hlt h9b e1) hP hD hS (lv_sub hl [0, 2] rfl)
                    · refine lv_aload_n hx hb d_Mo_look_194 rfl (lv_at hl 2 rfl) ?_
                      refine get_mi (x := ((upd (upd (upd (upd s0 29 q9.1) 26 (s0 24)) 27 (nI b)) 28 (nI k)), (u1 a0 18 q9.2))) C 26 q_576 rfl (by decide) rfl (s0 24) ((pk_un (f := (upd (upd (upd s0 29 q9.1) 26 (s0 24)) 27 (nI b))) (k := 28) (x := (nI k)) (j := 26) (by decide)).trans ((pk_un (f := (upd (upd s0 29 q9.1) 26 (s0 24))) (k := 27) (x := (nI b)) (j := 26) (by decide)).trans (pk_us (f := (upd s0 29 q9.1)) (k := 26) (x := (s0 24))))) hP d_Mo_look_195 ?_
                      refine lv_iconst (v := (-1)) hx hb d_Mo_look_198 (by decide) ?_
                      refine lv_icmp_ne (tgt := 257) hx hb d_Mo_look_199 (by decide) (fun c199_10 => ?_) (fun c199_10 => ?_)
                      rotate_left
                      · exact absurd c199_10 hm
                      refine lv_iinc (v := (nI (b + 1))) (lv' := [(1, .int (nI (b + 1))), (6, .int (nI (k + 1))), (0, .ref (ad 0))]) hx hb d_Mo_look_257 hl (k := 1) rfl (nI_1 b) (by decide) rfl (fun ls hl => ?_)
                      refine lv_goto (tgt := 2) hx hb d_Mo_look_260 (by decide) ?_
                      have e1 : lookB np b (s0, a0) = ((upd (upd (upd (upd s0 29 q9.1) 26 (s0 24)) 27 (nI b)) 28 (nI k)), (u1 a0 18 q9.2)) := by unfold lookB; dsimp only; rw [if_pos hcl, hq9, hf9]; rfl
                      exact ihb (b + 1) ((upd (upd (upd (upd s0 29 q9.1) 26 (s0 24)) 27 (nI b)) 28 (nI k)), (u1 a0 18 q9.2)) _ _ _ (by omega) (by omega) (e1 ▸ lookB_inv hI) (it_back hlt h9b e1) hP hD hS (lv_sub hl [0, 2] rfl)
            exact lk (np + 1) 0 _ _ _ (by omega) (by omega) hf9 hP hD hS (lv_sub hl [0, 1, 2] rfl)
          · refine lv_iload hx hb d_Mo_look_185 (lv_at hl 0 rfl) ?_
            refine lv_aload_n hx hb d_Mo_look_187 rfl (lv_at hl 2 rfl) ?_
            refine get_mi (x := ((upd s0 29 q9.1), (u1 a0 18 q9.2))) C 12 q_562 rfl (by decide) rfl (s0 12) (pk_un (f := s0) (k := 29) (x := q9.1) (j := 12) (by decide)) hP d_Mo_look_188 ?_
            refine lv_icmp_ge (tgt := 257) hx hb d_Mo_look_191 (by decide) (fun c191_11 => ?_) (fun c191_11 => ?_)
            · refine lv_iinc (v := (nI (b + 1))) (lv' := [(1, .int (nI (b + 1))), (6, .int 0), (0, .ref (ad 0))]) hx hb d_Mo_look_257 hl (k := 1) rfl (nI_1 b) (by decide) rfl (fun ls hl => ?_)
              refine lv_goto (tgt := 2) hx hb d_Mo_look_260 (by decide) ?_
              have e1 : lookB np b (s0, a0) = ((upd s0 29 q9.1), (u1 a0 18 q9.2)) := by unfold lookB; dsimp only; rw [if_neg hcl, hq9]
              exact ihb (b + 1) ((upd s0 29 q9.1), (u1 a0 18 q9.2)) _ _ _ (by omega) (by omega) (e1 ▸ lookB_inv hI) (it_back hlt h9b e1) hP hD hS (lv_sub hl [0, 2] rfl)
            · refine lv_aload_n hx hb d_Mo_look_194 rfl (lv_at hl 2 rfl) ?_
              refine get_mi (x := ((upd s0 29 q9.1), (u1 a0 18 q9.2))) C 26 q_576 rfl (by decide) rfl (s0 26) (pk_un (f := s0) (k := 29) (x := q9.1) (j := 26) (by decide)) hP d_Mo_look_195 ?_
              refine lv_iconst (v := (-1)) hx hb d_Mo_look_198 (by decide) ?_
              refine lv_icmp_ne (tgt := 257) hx hb d_Mo_look_199 (by decide) (fun c199_12 => ?_) (fun c199_12 => ?_)
              rotate_left
              · exact absurd c199_12 hcl
              refine lv_iinc (v := (nI (b + 1))) (lv' := [(1, .int (nI (b + 1))), (6, .int 0), (0, .ref (ad 0))]) hx hb d_Mo_look_257 hl (k := 1) rfl (nI_1 b) (by decide) rfl (fun ls hl => ?_)
              refine lv_goto (tgt := 2) hx hb d_Mo_look_260 (by decide) ?_
              have e1 : lookB np b (s0, a0) = ((upd s0 29 q9.1), (u1 a0 18 q9.2)) := by unfold lookB; dsimp only; rw [if_neg hcl, hq9]
              exact ihb (b + 1) ((upd s0 29 q9.1), (u1 a0 18 q9.2)) _ _ _ (by omega) (by omega) (e1 ▸ lookB_inv hI) (it_back hlt h9b e1) hP hD hS (lv_sub hl [0, 2] rfl)
        have li : ∀ (n1 : Nat) (i : Int32) (q : CM) (H : Heap) (locs : List Loc) (ls : Array Slot), cntI i z3_3 = n1 → -32 ≤ i.toInt → gridM a0 b (cntI z4_4 z5_5) z4_4 n1 i q = q9 → va_P g.1 classes (wM g ad (upd s0 29 q.1, u1 a0 18 q.2)) H → va_D A (wM g ad (upd s0 29 q.1, u1 a0 18 q.2)) → va_S A s.heap H locs → lv_has ls 9 [(6, .int i), (5, .int z5_5), (4, .int z4_4), (3, .int z3_3), (2, .int z2_2), (1, .int (nI b)), (0, .ref (ad 0))] → W p l e { frames := 3, cells := 0, slots := 0, locals := 78 } s m ([.ref (ad 0)] : List Value).toArray below meth c H locs 0 0 Q (F0 m 79 ls []) := by
          intro n1
          induction n1 with
          | zero =>
            intro i q H locs ls hk hlo hg hP hD hS hl
            have hg := gridM_z hg
            subst hg
            refine lv_iload hx hb d_Mo_look_79 (lv_at hl 0 rfl) ?_
            refine lv_iload_n hx hb d_Mo_look_81 rfl (lv_at hl 3 rfl) ?_
            refine lv_icmp_gt (tgt := 182) hx hb d_Mo_look_82 (by decide) (fun c82_13 => ?_) (fun c82_13 => ?_)
            rotate_left
            · exact absurd (cnt_z hk) c82_13
            exact K _ _ _ hP hD hS (lv_sub hl [5, 6] rfl)
          | succ n1 ih1 =>
            intro i q H locs ls hk hlo hg hP hD hS hl
            refine lv_iload hx hb d_Mo_look_79 (lv_at hl 0 rfl) ?_
            refine lv_iload_n hx hb d_Mo_look_81 rfl (lv_at hl 3 rfl) ?_
            refine lv_icmp_gt (tgt := 182) hx hb d_Mo_look_82 (by decide) (fun c82_14 => ?_) (fun c82_14 => ?_)
            · exact absurd c82_14 (cnt_s hk)
            refine lv_iload hx hb d_Mo_look_85 (lv_at hl 2 rfl) ?_
            refine lv_istore (lv' := [(7, .int z4_4), (6, .int i), (5, .int z5_5), (4, .int z4_4), (3, .int z3_3), (2, .int z2_2), (1, .int (nI b)), (0, .ref (ad 0))]) hx hb d_Mo_look_87 hl (by decide) rfl (fun ls hl => ?_)
            generalize hq8 : rowM a0 b i (cntI z4_4 z5_5) z4_4 q = q8
            have hg := gridM_s hg hq8
            have K2 : ∀ (H : Heap) (locs : List Loc) (ls : Array Slot), va_P g.1 classes (wM g ad (upd s0 29 q8.1, u1 a0 18 q8.2)) H → va_D A (wM g ad (upd s0 29 q8.1, u1 a0 18 q8.2)) → va_S A s.heap H locs → lv_has ls 9 [(6, .int i), (5, .int z5_5), (4, .int z4_4), (3, .int z3_3), (2, .int z2_2), (1, .int (nI b)), (0, .ref (ad 0))] → W p l e { frames := 3, cells := 0, slots := 0, locals := 78 } s m ([.ref (ad 0)] : List Value).toArray below meth c H locs 0 0 Q (F0 m 176 ls []) := by
              intro H locs ls hP hD hS hl
              refine lv_iinc (v := (i + 1)) (lv' := [(6, .int (i + 1)), (5, .int z5_5), (4, .int z4_4), (3, .int z3_3), (2, .int z2_2), (1, .int (nI b)), (0, .ref (ad 0))]) hx hb d_Mo_look_176 hl (k := 0) rfl rfl (by decide) rfl (fun ls hl => ?_)
              refine lv_goto (tgt := 79) hx hb d_Mo_look_179 (by decide) ?_
              exact ih1 _ q8 _ _ _ (cnt_n hk hlo bti.2).1 (cnt_n hk hlo bti.2).2 hg hP hD hS (lv_sub hl [0, 1, 2, 3, 4, 5, 6] rfl)
            have lj : ∀ (n2 : Nat) (j : Int32) (q : CM) (H : Heap) (locs : List Loc) (ls : Array Slot), cntI j z5_5 = n2 → -32 ≤ j.toInt → rowM a0 b i n2 j q = q8 → va_P g.1 classes (wM g ad (upd s0 29 q.1, u1 a0 18 q.2)) H → va_D A (wM g ad (upd s0 29 q.1, u1 a0 18 q.2)) → va_S A s.heap H locs → lv_has ls 9 [(7, .int j), (6, .int i), (5, .int z5_5), (4, .int z4_4), (3, .int z3_3), (2, .int z2_2), (1, .int (nI b)), (0, .ref (ad 0))] → W p l e { frames := 3, cells := 0, slots := 0, locals := 78 } s m ([.ref (ad 0)] : List Value).toArray below meth c H locs 0 0 Q (F0 m 89 ls []) := by
              intro n2
              induction n2 with
              | zero =>
                intro j q H locs ls hk2 hlo2 hr hP hD hS hl
                have hr := rowM_z hr
                subst hr
                refine lv_iload hx hb d_Mo_look_89 (lv_at hl 0 rfl) ?_
                refine lv_iload hx hb d_Mo_look_91 (lv_at hl 2 rfl) ?_
                refine lv_icmp_gt (tgt := 176) hx hb d_Mo_look_93 (by decide) (fun c93_15 => ?_) (fun c93_15 => ?_)
                rotate_left
                · exact absurd (cnt_z hk2) c93_15
                exact K2 _ _ _ hP hD hS (lv_sub hl [1, 2, 3, 4, 5, 6, 7] rfl)
              | succ n2 ih2 =>
                intro j q H locs ls hk2 hlo2 hr hP hD hS hl
                have hat : vp_in (atI i j) 4096 := at_in hlo (cnt_le hk bti.2) hlo2 (cnt_le hk2 btj.2)
                refine lv_iload hx hb d_Mo_look_89 (lv_at hl 0 rfl) ?_
                refine lv_iload hx hb d_Mo_look_91 (lv_at hl 2 rfl) ?_
                refine lv_icmp_gt (tgt := 176) hx hb d_Mo_look_93 (by decide) (fun c93_16 => ?_) (fun c93_16 => ?_)
                · exact absurd c93_16 (cnt_s hk2)
                refine lv_bipush (v := 64) hx hb d_Mo_look_96 (by decide) ?_
                refine lv_iload hx hb d_Mo_look_98 (lv_at hl 1 rfl) ?_
                refine lv_bipush (v := 32) hx hb d_Mo_look_100 (by decide) ?_
                refine lv_iadd hx hb d_Mo_look_102 ?_
                refine lv_imul hx hb d_Mo_look_103 ?_
                refine lv_iload hx hb d_Mo_look_104 (lv_at hl 0 rfl) ?_
                refine lv_iadd hx hb d_Mo_look_106 ?_
                refine lv_bipush (v := 32) hx hb d_Mo_look_107 (by decide) ?_
                refine lv_iadd hx hb d_Mo_look_109 ?_
                refine lv_istore (lv' := [(8, .int (((64 * (i + 32)) + j) + 32)), (7, .int j), (6, .int i), (5, .int z5_5), (4, .int z4_4), (3, .int z3_3), (2, .int z2_2), (1, .int (nI b)), (0, .ref (ad 0))]) hx hb d_Mo_look_110 hl (by decide) rfl (fun ls hl => ?_)
                refine lv_aload_n hx hb d_Mo_look_112 rfl (lv_at hl 8 rfl) ?_
                refine get_ms (x := ((upd s0 29 q.1), (u1 a0 18 q.2))) C 30 q_580 rfl (by decide) (.ref (ad 18)) rfl hP d_Mo_look_113 ?_
                refine lv_iload hx hb d_Mo_look_116 (lv_at hl 0 rfl) ?_
                refine get_mz (x := ((upd s0 29 q.1), (u1 a0 18 q.2))) C 18 4096 rfl hat (q.2 ((((64 * (i + 32)) + j) + 32).toNatClampNeg)) (congrFun (u1_s (a := a0) (k := 18) (f := q.2)) ((((64 * (i + 32)) + j) + 32).toNatClampNeg)) hP d_Mo_look_118 ?_
                refine lv_if_ne (tgt := 170) hx hb d_Mo_look_119 (by decide) (fun c119_17 => ?_) (fun c119_17 => ?_)
                · refine lv_iinc (v := (j + 1)) (lv' := [(7, .int (j + 1)), (8, .int (((64 * (i + 32)) + j) + 32)), (6, .int i), (5, .int z5_5), (4, .int z4_4), (3, .int z3_3), (2, .int z2_2), (1, .int (nI b)), (0, .ref (ad 0))]) hx hb d_Mo_look_170 hl (k := 1) rfl rfl (by decide) rfl (fun ls hl => ?_)
                  refine lv_goto (tgt := 89) hx hb d_Mo_look_173 (by decide) ?_
                  exact ih2 _ q _ _ _ (cnt_n hk2 hlo2 btj.2).1 (cnt_n hk2 hlo2 btj.2).2 (rowM_s hr (if_neg c119_17)) hP hD hS (lv_sub hl [0, 2, 3, 4, 5, 6, 7, 8] rfl)
                · refine lv_aload_n hx hb d_Mo_look_122 rfl (lv_at hl 8 rfl) ?_
                  refine lv_iload_n hx hb d_Mo_look_123 rfl (lv_at hl 7 rfl) ?_
                  refine lv_sipush (v := 4096) hx hb d_Mo_look_124 (by decide) ?_
                  refine lv_bipush (v := 8) hx hb d_Mo_look_127 (by decide) ?_
                  refine lv_iload hx hb d_Mo_look_129 (lv_at hl 2 rfl) ?_
                  refine lv_imul hx hb d_Mo_look_131 ?_
                  refine lv_iconst (v := 4) hx hb d_Mo_look_132 (by decide) ?_
                  refine lv_iadd hx hb d_Mo_look_133 ?_
                  refine lv_imul hx hb d_Mo_look_134 ?_
                  refine lv_sipush (v := 4096) hx hb d_Mo_look_135 (by decide) ?_
                  refine lv_bipush (v := 8) hx hb d_Mo_look_138 (by decide) ?_
                  refine lv_iload hx hb d_Mo_look_140 (lv_at hl 1 rfl) ?_
                  refine lv_imul hx hb d_Mo_look_142 ?_
                  refine lv_iconst (v := 4) hx hb d_Mo_look_143 (by decide) ?_
                  refine lv_iadd hx hb d_Mo_look_144 ?_
                  refine lv_imul hx hb d_Mo_look_145 ?_
                  refine cvI C v_Mo_112 [.int (nI b), .int (4096 * ((8 * i) + 4)), .int (4096 * ((8 * j) + 4))] [] (c_Mo_covers l g ad ((upd s0 29 q.1), (u1 a0 18 q.2)) (fun i hi => (congrFun (u1_k (a := a0) (k := 18) (f := q.2) (n := 1) (by decide)) i).trans (hc i hi)) b hb3 (4096 * ((8 * i) + 4)) (4096 * ((8 * j) + 4))) hP hD hS [0, 1, 2, 3, 4, 5, 6, 7, 8, 9, 10, 11, 12, 13, 14, 15, 16, 17, 18, 19, 20] [] [0, 1, 2, 3, 4, 5, 6, 7, 8, 9, 10, 11, 12, 13, 14, 15, 16, 17, 18, 19, 20] [] (wM g ad ((upd s0 29 q.1), (u1 a0 18 q.2))) rfl rfl (by decide) (by decide) (by decide) rfl (by decide) 0 rfl rfl rfl rfl hl.1 (Nat.le_of_ble_eq_true rfl) ⟨Nat.le_of_ble_eq_true rfl, Nat.le_of_ble_eq_true rfl⟩ d_Mo_look_146 ⟨Nat.zero_le _, Nat.zero_le _⟩ (fun H locs hP hD hS => ?_)
                  refine lv_if_eq (tgt := 170) hx hb d_Mo_look_149 (by decide) (fun c149_18 => ?_) (fun c149_18 => ?_)
                  · refine lv_iinc (v := (j + 1)) (lv' := [(7, .int (j + 1)), (8, .int (((64 * (i + 32)) + j) + 32)), (6, .int i), (5, .int z5_5), (4, .int z4_4), (3, .int z3_3), (2, .int z2_2), (1, .int (nI b)), (0, .ref (ad 0))]) hx hb d_Mo_look_170 hl (k := 1) rfl rfl (by decide) rfl (fun ls hl => ?_)
                    refine lv_goto (tgt := 89) hx hb d_Mo_look_173 (by decide) ?_
                    exact ih2 _ q _ _ _ (cnt_n hk2 hlo2 btj.2).1 (cnt_n hk2 hlo2 btj.2).2 (rowM_s hr ((if_pos c119_17).trans (if_pos c149_18))) hP hD hS (lv_sub hl [0, 2, 3, 4, 5, 6, 7, 8] rfl)
                  · refine lv_aload_n hx hb d_Mo_look_152 rfl (lv_at hl 8 rfl) ?_
                    refine get_ms (x := ((upd s0 29 q.1), (u1 a0 18 q.2))) C 30 q_580 rfl (by decide) (.ref (ad 18)) rfl hP d_Mo_look_153 ?_
                    refine lv_iload hx hb d_Mo_look_156 (lv_at hl 0 rfl) ?_
                    refine lv_iconst (v := 1) hx hb d_Mo_look_158 (by decide) ?_
                    refine put_mz C 18 4096 rfl hat ((((64 * (i + 32)) + j) + 32).toNatClampNeg) rfl rfl wM_a18 hP hD hS d_Mo_look_159 (fun H locs hP hD hS => ?_)
                    refine lv_aload_n hx hb d_Mo_look_160 rfl (lv_at hl 8 rfl) ?_
                    refine lv_dup hx hb d_Mo_look_161 rfl ?_
                    refine get_mi (x := ((upd s0 29 q.1), (u2 (u1 a0 18 q.2) 18 ((((64 * (i + 32)) + j) + 32).toNatClampNeg) 1))) C 29 q_579 rfl (by decide) rfl q.1 (pk_us (f := s0) (k := 29) (x := q.1)) hP d_Mo_look_162 ?_
                    refine lv_iconst (v := 1) hx hb d_Mo_look_165 (by decide) ?_
                    refine lv_iadd hx hb d_Mo_look_166 ?_
                    refine put_ms C 29 (ty := .int) q_579 rfl (by decide) rfl (by decide +kernel) rfl rfl wM_s29 hP hD hS d_Mo_look_167 (fun H locs hP hD hS => ?_)
                    refine lv_iinc (v := (j + 1)) (lv' := [(7, .int (j + 1)), (8, .int (((64 * (i + 32)) + j) + 32)), (6, .int i), (5, .int z5_5), (4, .int z4_4), (3, .int z3_3), (2, .int z2_2), (1, .int (nI b)), (0, .ref (ad 0))]) hx hb d_Mo_look_170 hl (k := 1) rfl rfl (by decide) rfl (fun ls hl => ?_)
                    refine lv_goto (tgt := 89) hx hb d_Mo_look_173 (by decide) ?_
                    rw [u2_u1, upd_upd] at hP hD
                    exact ih2 _ (q.1 + 1, upd q.2 (atI i j).toNatClampNeg 1) _ _ _ (cnt_n hk2 hlo2 btj.2).1 (cnt_n hk2 hlo2 btj.2).2 (rowM_s hr ((if_pos c119_17).trans (if_neg c149_18))) hP hD hS (lv_sub hl [0, 2, 3, 4, 5, 6, 7, 8] rfl)
            exact lj _ _ q _ _ _ rfl bfj.1 hq8 hP hD hS (lv_sub hl [0, 1, 2, 3, 4, 5, 6, 7] rfl)
        have hP : va_P g.1 classes (wM g ad (upd s0 29 (s0 29), u1 a0 18 (a0 18))) H := by rw [upd_id, u1_id]; exact hP
        have hD : va_D A (wM g ad (upd s0 29 (s0 29), u1 a0 18 (a0 18))) := by rw [upd_id, u1_id]; exact hD
        exact li _ _ (s0 29, a0 18) _ _ _ rfl bfi.1 h9 hP hD hS (lv_sub hl [0, 1, 2, 3, 4, 5, 6] rfl)
  exact lp (n + 1) 0 x _ _ _ (by omega) (by omega) hI h9 hP hD hS (lv_sub hl [0, 1] rfl)
end
section
/-! beginning and moving, the reference's way -/
def clr (f : Nat → Int32) (n : Nat) : Nat → Int32 := fun j => if j < n then 0 else f j
theorem clr_0 (f : Nat → Int32) : clr f 0 = f := by funext j; simp [clr]
theorem clr_s (f : Nat → Int32) (n : Nat) : upd (clr f n) n 0 = clr f (n + 1) := by
  funext j
  by_cases h : j = n
  · subst h
    simp [upd, clr]
  · simp only [upd, clr, if_neg h]
    by_cases h2 : j < n
    · rw [if_pos h2, if_pos (by omega)]
    · rw [if_neg h2, if_neg (by omega)]
def bgS (s : Nat → Int32) : Nat → Int32 := upd (upd (upd (upd (upd (upd s 24 0) 25 0) 26 (-1)) 27 (-1)) 28 (-1)) 29 0
def bgA0 (s : Nat → Int32) (a : St2) : St2 := u2 (u2 (u1 a 18 (clr (a 18) 4096)) 13 0 (4096 * s 8)) 14 0 (4096 * s 9)
def bgA1 (s : Nat → Int32) (b : Nat) (a : St2) : St2 := u2 (u2 (u2 a 15 b (s 10)) 16 b 0) 17 b 0
def bgB (n b : Nat) (x : MS) : MS := (x.1, if 0 < b then (if b < n then hangA b (bgA1 x.1 b x.2) else bgA1 x.1 b x.2) else bgA1 x.1 b x.2)
def begM (n np : Nat) (x : MS) : MS := itF (lookB np) n 0 (itF (bgB n) 3 0 (bgS x.1, bgA0 x.1 x.2))
theorem u2_row {σ : St2} {k b n : Nat} {v : Int32} (h : n ≠ k) : u2 σ k b v n = σ n := by
  funext j
  exact u2_k h
theorem bgA1_k {s : Nat → Int32} {b : Nat} {a : St2} {k : Nat} (h1 : k ≠ 15) (h2 : k ≠ 16) (h3 : k ≠ 17) : bgA1 s b a k = a k := by
  unfold bgA1
  rw [u2_row h3, u2_row h2, u2_row h1]
theorem hangA_k {b : Nat} {a : St2} {k : Nat} (h1 : k ≠ 13) (h2 : k ≠ 14) : hangA b a k = a k := by
  unfold hangA
  rw [u2_row h2, u2_row h1]
theorem bgB_k {n b : Nat} {x : MS} {k : Nat} (h1 : k ≠ 15) (h2 : k ≠ 16) (h3 : k ≠ 17) (h4 : k ≠ 13) (h5 : k ≠ 14) : (bgB n b x).2 k = x.2 k := by
  unfold bgB
  dsimp only
  split
  · split
    · rw [hangA_k h4 h5, bgA1_k h1 h2 h3]
    · rw [bgA1_k h1 h2 h3]
  · rw [bgA1_k h1 h2 h3]
/-- the reference's numbers while it runs -/
def InvB (n np : Nat) (x : MS) : Prop := (∀ i, i < 17 → x.2 1 i = cosT i) ∧ x.1 2 = nI n ∧ x.1 12 = nI np ∧ ¬ x.1 24 = -1
theorem bgB_inv {n np b : Nat} {x : MS} (h : InvL n np x) : InvL n np (bgB n b x) := by
  obtain ⟨h1, h2, h3, h4⟩ := h
  refine ⟨fun i hi => ?_, h2, h3, h4⟩
  rw [bgB_k (by decide) (by decide) (by decide) (by decide) (by decide)]
  exact h1 i hi
theorem le0_of {b : Nat} (hb : b ≤ 3) (c : nI b ≤ 0) : ¬ 0 < b := by
  have := (nI_leI (a := b) (b := 0) (by omega) (by omega)).mp c
  omega
theorem pos0_of {b : Nat} (c : ¬ nI b ≤ 0) : 0 < b := by
  rcases Nat.eq_zero_or_pos b with q | q
  · exact absurd (by rw [q]; decide) c
  · exact q
def sizI (v : Int32) : Int32 := if 0 ≤ v then v else -v
def mvA0 (s : Nat → Int32) (turn way : Int32) (a : St2) : St2 := u2 (u2 (u2 a 13 0 (a 13 0 + way * s 11 * dX (a 15 0))) 14 0 (a 14 0 + way * s 11 * dY (a 15 0))) 15 0 ((a 15 0 + way * turn) &&& 63)
def mvR (s : Nat → Int32) (way : Int32) (b : Nat) (a : St2) : Int32 := a 16 b + way * askF (poM a) b * s 11
def mvA1 (s : Nat → Int32) (way : Int32) (b : Nat) (a : St2) : St2 := u2 (u2 (u2 a 16 b (mvR s way b a)) 15 b ((a 15 b + mvR s way b a / a 2 b) &&& 63)) 16 b (mvR s way b a - mvR s way b a / a 2 b * a 2 b)
def mvB (way : Int32) (b : Nat) (x : MS) : MS := (x.1, hangA b (mvA1 x.1 way b x.2))
def msB (b : Nat) (x : MS) : MS := (upd x.1 25 (if x.1 25 = 0 then (if sizI (askF (poM x.2) b) ≤ 24 then 0 else 1) else 1), u2 x.2 17 b (if sizI (askF (poM x.2) b) ≤ x.2 17 b then x.2 17 b else sizI (askF (poM x.2) b)))
def mdM (x : MS) : MS := (upd x.1 24 (x.1 24 + 1), x.2)
def moveM (n np : Nat) (turn way : Int32) (x : MS) : MS := itF (lookB np) n 0 (itF msB n 1 (mdM (itF (mvB way) n 1 (x.1, mvA0 x.1 turn way x.2))))

set_option maxHeartbeats 4000000 in
set_option maxRecDepth 100000 in
theorem c_Mo_beginAnew (l : Launch) (g : Glob) (ad : Nat → Nat) (x : MS) (n np : Nat) (hc : ∀ i, i < 17 → x.2 1 i = cosT i) (hn : x.1 2 = nI n) (hp : x.1 12 = nI np) (h3 : n ≤ 3) (h20 : np ≤ 20) : CV l g y_Mo_beginAnew b_Mo_beginAnew 2 4 106 [.ref (ad 0)] (wM g ad x) (wM g ad (begM n np x)) := by
  refine CV.of (by decide +kernel) (Nat.le_of_ble_eq_true rfl) ?_
  intro p e s m below meth c A Q ls C hP hD hl hret hS
  obtain ⟨hx, hb, hml, hown, hw, hE, hA⟩ := id C
  have hl : lv_has ls 2 [(0, .ref (ad 0))] := hl
  unfold begM at hret
  generalize h9 : itF (lookB np) n 0 (itF (bgB n) 3 0 (bgS x.1, bgA0 x.1 x.2)) = x9 at hret
  refine lv_aload_n hx hb d_Mo_beginAnew_0 rfl (lv_at hl 0 rfl) ?_
  refine lv_iconst (v := 0) hx hb d_Mo_beginAnew_1 (by decide) ?_
  refine put_ms C 24 (ty := .int) q_574 rfl (by decide) rfl (by decide +kernel) rfl rfl wM_s24 hP hD hS d_Mo_beginAnew_2 (fun H locs hP hD hS => ?_)
  refine lv_aload_n hx hb d_Mo_beginAnew_5 rfl (lv_at hl 0 rfl) ?_
  refine lv_iconst (v := 0) hx hb d_Mo_beginAnew_6 (by decide) ?_
  refine put_ms C 25 (ty := .boolean) q_575 rfl (by decide) rfl (by decide +kernel) rfl rfl wM_s25 hP hD hS d_Mo_beginAnew_7 (fun H locs hP hD hS => ?_)
  refine lv_aload_n hx hb d_Mo_beginAnew_10 rfl (lv_at hl 0 rfl) ?_
  refine lv_iconst (v := (-1)) hx hb d_Mo_beginAnew_11 (by decide) ?_
  refine put_ms C 26 (ty := .int) q_576 rfl (by decide) rfl (by decide +kernel) rfl rfl wM_s26 hP hD hS d_Mo_beginAnew_12 (fun H locs hP hD hS => ?_)
  refine lv_aload_n hx hb d_Mo_beginAnew_15 rfl (lv_at hl 0 rfl) ?_
  refine lv_iconst (v := (-1)) hx hb d_Mo_beginAnew_16 (by decide) ?_
  refine put_ms C 27 (ty := .int) q_577 rfl (by decide) rfl (by decide +kernel) rfl rfl wM_s27 hP hD hS d_Mo_beginAnew_17 (fun H locs hP hD hS => ?_)
  refine lv_aload_n hx hb d_Mo_beginAnew_20 rfl (lv_at hl 0 rfl) ?_
  refine lv_iconst (v := (-1)) hx hb d_Mo_beginAnew_21 (by decide) ?_
  refine put_ms C 28 (ty := .int) q_578 rfl (by decide) rfl (by decide +kernel) rfl rfl wM_s28 hP hD hS d_Mo_beginAnew_22 (fun H locs hP hD hS => ?_)
  refine lv_aload_n hx hb d_Mo_beginAnew_25 rfl (lv_at hl 0 rfl) ?_
  refine lv_iconst (v := 0) hx hb d_Mo_beginAnew_26 (by decide) ?_
  refine put_ms C 29 (ty := .int) q_579 rfl (by decide) rfl (by decide +kernel) rfl rfl wM_s29 hP hD hS d_Mo_beginAnew_27 (fun H locs hP hD hS => ?_)
  refine lv_iconst (v := 0) hx hb d_Mo_beginAnew_30 (by decide) ?_
  refine lv_istore_n (lv' := [(1, .int 0), (0, .ref (ad 0))]) hx hb d_Mo_beginAnew_31 rfl hl (by decide) rfl (fun ls hl => ?_)
  obtain ⟨s0, a0⟩ := x
  dsimp only at hc hn hp
  generalize hs1 : (upd (upd (upd (upd (upd (upd s0 24 0) 25 0) 26 (-1)) 27 (-1)) 28 (-1)) 29 0) = s1 at hP hD
  have K : ∀ (H : Heap) (locs : List Loc) (ls : Array Slot), va_P g.1 classes (wM g ad (s1, u1 a0 18 (clr (a0 18) 4096))) H → va_D A (wM g ad (s1, u1 a0 18 (clr (a0 18) 4096))) → va_S A s.heap H locs → lv_has ls 2 [(0, .ref (ad 0))] → W p l e { frames := 4, cells := 0, slots := 0, locals := 106 } s m ([.ref (ad 0)] : List Value).toArray below meth c H locs 0 0 Q (F0 m 52 ls []) := by
    intro H locs ls hP hD hS hl
    refine lv_aload_n hx hb d_Mo_beginAnew_52 rfl (lv_at hl 0 rfl) ?_
    refine get_ms (x := (s1, (u1 a0 18 (clr (a0 18) 4096)))) C 19 q_569 rfl (by decide) (.ref (ad 13)) rfl hP d_Mo_beginAnew_53 ?_
    refine lv_iconst (v := 0) hx hb d_Mo_beginAnew_56 (by decide) ?_
    refine lv_sipush (v := 4096) hx hb d_Mo_beginAnew_57 (by decide) ?_
    refine lv_aload_n hx hb d_Mo_beginAnew_60 rfl (lv_at hl 0 rfl) ?_
    refine get_mi (x := (s1, (u1 a0 18 (clr (a0 18) 4096)))) C 8 q_558 rfl (by decide) rfl (s1 8) rfl hP d_Mo_beginAnew_61 ?_
    refine lv_imul hx hb d_Mo_beginAnew_64 ?_
    refine put_ma C 13 3 rfl (by unfold vp_in; decide) 0 (show (0 : Int32).toNatClampNeg = 0 from by decide) wM_a13 hP hD hS d_Mo_beginAnew_65 (fun H locs hP hD hS => ?_)
    refine lv_aload_n hx hb d_Mo_beginAnew_66 rfl (lv_at hl 0 rfl) ?_
    refine get_ms (x := (s1, (u2 (u1 a0 18 (clr (a0 18) 4096)) 13 0 (4096 * (s1 8))))) C 20 q_570 rfl (by decide) (.ref (ad 14)) rfl hP d_Mo_beginAnew_67 ?_
    refine lv_iconst (v := 0) hx hb d_Mo_beginAnew_70 (by decide) ?_
    refine lv_sipush (v := 4096) hx hb d_Mo_beginAnew_71 (by decide) ?_
    refine lv_aload_n hx hb d_Mo_beginAnew_74 rfl (lv_at hl 0 rfl) ?_
    refine get_mi (x := (s1, (u2 (u1 a0 18 (clr (a0 18) 4096)) 13 0 (4096 * (s1 8))))) C 9 q_559 rfl (by decide) rfl (s1 9) rfl hP d_Mo_beginAnew_75 ?_
    refine lv_imul hx hb d_Mo_beginAnew_78 ?_
    refine put_ma C 14 3 rfl (by unfold vp_in; decide) 0 (show (0 : Int32).toNatClampNeg = 0 from by decide) wM_a14 hP hD hS d_Mo_beginAnew_79 (fun H locs hP hD hS => ?_)
    refine lv_iconst (v := 0) hx hb d_Mo_beginAnew_80 (by decide) ?_
    refine lv_istore_n (lv' := [(1, .int 0), (0, .ref (ad 0))]) hx hb d_Mo_beginAnew_81 rfl hl (by decide) rfl (fun ls hl => ?_)
    have hs : s1 8 = s0 8 ∧ s1 9 = s0 9 := by rw [← hs1]; exact ⟨rfl, rfl⟩
    rw [hs.1, hs.2] at hP hD
    have hI : InvL n np (s1, bgA0 s0 a0) := ⟨hc, by rw [← hs1]; exact hn, by rw [← hs1]; exact hp, by rw [← hs1]; exact (by decide : ¬ (0 : Int32) = -1)⟩
    have hx9 : itF (lookB np) n 0 (itF (bgB n) 3 0 (s1, bgA0 s0 a0)) = x9 := by rw [← hs1]; exact h9
    generalize hx8 : itF (bgB n) 3 0 (s1, bgA0 s0 a0) = x8 at hx9
    have lb : ∀ (t : Nat) (b : Nat) (x : MS) (H : Heap) (locs : List Loc) (ls : Array Slot), b ≤ 3 → 3 < b + t → InvL n np x → itF (bgB n) 3 b x = x8 → va_P g.1 classes (wM g ad x) H → va_D A (wM g ad x) → va_S A s.heap H locs → lv_has ls 2 [(1, .int (nI b)), (0, .ref (ad 0))] → W p l e { frames := 4, cells := 0, slots := 0, locals := 106 } s m ([.ref (ad 0)] : List Value).toArray below meth c H locs 0 0 Q (F0 m 82 ls []) := by
      intro t
      induction t with
      | zero =>
        intro b x H locs ls hb3n ht hI h8 hP hD hS hl
        exact absurd trivial (by omega)
      | succ t ih =>
        intro b x H locs ls hb3n ht hI h8 hP hD hS hl
        obtain ⟨hc, hn, hp, hm⟩ := id hI
        refine lv_iload_n hx hb d_Mo_beginAnew_82 rfl (lv_at hl 0 rfl) ?_
        refine lv_iconst (v := 3) hx hb d_Mo_beginAnew_83 (by decide) ?_
        refine lv_icmp_ge (tgt := 134) hx hb d_Mo_beginAnew_84 (by decide) (fun c84_1 => ?_) (fun c84_1 => ?_)
        · have hge := ge_of_le' (a := 3) (n := 3) 3 rfl (Nat.le_refl _) (by decide) (by omega) c84_1
          have h8 := (itF_end hge).symm.trans h8
          subst h8
          have hI9 := hI
          refine lv_aload_n hx hb d_Mo_beginAnew_134 rfl (lv_at hl 1 rfl) ?_
          refine cvV C v_Mo_142 [] [] (c_Mo_look l g ad x n np hI9 h3 h20) hP hD hS [0, 1, 2, 3, 4, 5, 6, 7, 8, 9, 10, 11, 12, 13, 14, 15, 16, 17, 18, 19, 20] [] [0, 1, 2, 3, 4, 5, 6, 7, 8, 9, 10, 11, 12, 13, 14, 15, 16, 17, 18, 19, 20] [] (wM g ad (itF (lookB np) n 0 x)) rfl rfl (by decide) (by decide) (by decide) rfl (by decide) 0 rfl rfl rfl rfl hl.1 (Nat.le_of_ble_eq_true rfl) ⟨Nat.le_of_ble_eq_true rfl, Nat.le_of_ble_eq_true rfl⟩ d_Mo_beginAnew_135 ⟨Nat.zero_le _, Nat.zero_le _⟩ (fun H locs hP hD hS => ?_)
          exact hret _ _ _ _ _ (by rw [← hx9]) hP hD hS d_Mo_beginAnew_138
        · have hb3 := lt_of_nle' (a := 3) (n := 3) 3 rfl (Nat.le_refl _) (by decide) (by omega) c84_1
          refine lv_aload_n hx hb d_Mo_beginAnew_87 rfl (lv_at hl 1 rfl) ?_
          refine get_ms (x := x) C 21 q_571 rfl (by decide) (.ref (ad 15)) rfl hP d_Mo_beginAnew_88 ?_
          refine lv_iload_n hx hb d_Mo_beginAnew_91 rfl (lv_at hl 0 rfl) ?_
          refine lv_aload_n hx hb d_Mo_beginAnew_92 rfl (lv_at hl 1 rfl) ?_
          refine get_mi (x := x) C 10 q_560 rfl (by decide) rfl (x.1 10) rfl hP d_Mo_beginAnew_93 ?_
          refine put_ma C 15 3 rfl (vp_in_nI hb3 (by omega)) b (nI_clamp (by omega)) wM_a15 hP hD hS d_Mo_beginAnew_96 (fun H locs hP hD hS => ?_)
          refine lv_aload_n hx hb d_Mo_beginAnew_97 rfl (lv_at hl 1 rfl) ?_
          refine get_ms (x := (x.1, (u2 x.2 15 b (x.1 10)))) C 22 q_572 rfl (by decide) (.ref (ad 16)) rfl hP d_Mo_beginAnew_98 ?_
          refine lv_iload_n hx hb d_Mo_beginAnew_101 rfl (lv_at hl 0 rfl) ?_
          refine lv_iconst (v := 0) hx hb d_Mo_beginAnew_102 (by decide) ?_
          refine put_ma C 16 3 rfl (vp_in_nI hb3 (by omega)) b (nI_clamp (by omega)) wM_a16 hP hD hS d_Mo_beginAnew_103 (fun H locs hP hD hS => ?_)
          refine lv_aload_n hx hb d_Mo_beginAnew_104 rfl (lv_at hl 1 rfl) ?_
          refine get_ms (x := (x.1, (u2 (u2 x.2 15 b (x.1 10)) 16 b 0))) C 23 q_573 rfl (by decide) (.ref (ad 17)) rfl hP d_Mo_beginAnew_105 ?_
          refine lv_iload_n hx hb d_Mo_beginAnew_108 rfl (lv_at hl 0 rfl) ?_
          refine lv_iconst (v := 0) hx hb d_Mo_beginAnew_109 (by decide) ?_
          refine put_ma C 17 3 rfl (vp_in_nI hb3 (by omega)) b (nI_clamp (by omega)) wM_a17 hP hD hS d_Mo_beginAnew_110 (fun H locs hP hD hS => ?_)
          refine lv_iload_n hx hb d_Mo_beginAnew_111 rfl (lv_at hl 0 rfl) ?_
          refine lv_if_le (tgt := 128) hx hb d_Mo_beginAnew_112 (by decide) (fun c112_2 => ?_) (fun c112_2 => ?_)
          · refine lv_iinc (v := (nI (b + 1))) (lv' := [(1, .int (nI (b + 1))), (0, .ref (ad 0))]) hx hb d_Mo_beginAnew_128 hl (k := 0) rfl (nI_1 b) (by decide) rfl (fun ls hl => ?_)
            refine lv_goto (tgt := 82) hx hb d_Mo_beginAnew_131 (by decide) ?_
            have e1 : bgB n b x = (x.1, (u2 (u2 (u2 x.2 15 b (x.1 10)) 16 b 0) 17 b 0)) := (by unfold bgB; rw [if_neg (le0_of (by omega) c112_2)]; rfl)
            exact ih (b + 1) (x.1, (u2 (u2 (u2 x.2 15 b (x.1 10)) 16 b 0) 17 b 0)) _ _ _ (by omega) (by omega) (e1 ▸ bgB_inv hI) (it_back hb3 h8 e1) hP hD hS (lv_sub hl [0, 1] rfl)
          · have hb1 := pos0_of c112_2
            refine lv_iload_n hx hb d_Mo_beginAnew_115 rfl (lv_at hl 0 rfl) ?_
            refine lv_aload_n hx hb d_Mo_beginAnew_116 rfl (lv_at hl 1 rfl) ?_
            refine get_mi (x := (x.1, (u2 (u2 (u2 x.2 15 b (x.1 10)) 16 b 0) 17 b 0))) C 2 q_552 rfl (by decide) rfl (x.1 2) rfl hP d_Mo_beginAnew_117 ?_
            refine lv_icmp_ge (tgt := 128) hx hb d_Mo_beginAnew_120 (by decide) (fun c120_3 => ?_) (fun c120_3 => ?_)
            · refine lv_iinc (v := (nI (b + 1))) (lv' := [(1, .int (nI (b + 1))), (0, .ref (ad 0))]) hx hb d_Mo_beginAnew_128 hl (k := 0) rfl (nI_1 b) (by decide) rfl (fun ls hl => ?_)
              refine lv_goto (tgt := 82) hx hb d_Mo_beginAnew_131 (by decide) ?_
              have e1 : bgB n b x = (x.1, (u2 (u2 (u2 x.2 15 b (x.1 10)) 16 b 0) 17 b 0)) := (by unfold bgB; rw [if_pos hb1, if_neg (by rw [hn] at c120_3; exact Nat.not_lt.mpr ((nI_leI (by omega) (by omega)).mp c120_3))]; rfl)
              exact ih (b + 1) (x.1, (u2 (u2 (u2 x.2 15 b (x.1 10)) 16 b 0) 17 b 0)) _ _ _ (by omega) (by omega) (e1 ▸ bgB_inv hI) (it_back hb3 h8 e1) hP hD hS (lv_sub hl [0, 1] rfl)
            · have hbn : b < n := by
                rcases Nat.lt_or_ge b n with q | q
                · exact q
                · exact absurd (by rw [hn]; exact nI_le q (by omega)) c120_3
              refine lv_aload_n hx hb d_Mo_beginAnew_123 rfl (lv_at hl 1 rfl) ?_
              refine lv_iload_n hx hb d_Mo_beginAnew_124 rfl (lv_at hl 0 rfl) ?_
              refine cvV C v_Mo_138 [.int (nI b)] [] (c_Mo_hang l g ad (x.1, (u2 (u2 (u2 x.2 15 b (x.1 10)) 16 b 0) 17 b 0)) (fun i hi => (u2_k (σ := (u2 (u2 x.2 15 b (x.1 10)) 16 b 0)) (k := 17) (b := b) (x := 0) (i := 1) (j := i) (by decide)).trans ((fun i hi => (u2_k (σ := (u2 x.2 15 b (x.1 10))) (k := 16) (b := b) (x := 0) (i := 1) (j := i) (by decide)).trans ((fun i hi => (u2_k (σ := x.2) (k := 15) (b := b) (x := (x.1 10)) (i := 1) (j := i) (by decide)).trans (hc i hi)) i hi)) i hi)) b hb3 hb1) hP hD hS [0, 1, 2, 3, 4, 5, 6, 7, 8, 9, 10, 11, 12, 13, 14, 15, 16, 17, 18, 19, 20] [] [0, 1, 2, 3, 4, 5, 6, 7, 8, 9, 10, 11, 12, 13, 14, 15, 16, 17, 18, 19, 20] [] (wM g ad (x.1, (hangA b (u2 (u2 (u2 x.2 15 b (x.1 10)) 16 b 0) 17 b 0)))) rfl rfl (by decide) (by decide) (by decide) rfl (by decide) 0 rfl rfl rfl rfl hl.1 (Nat.le_of_ble_eq_true rfl) ⟨Nat.le_of_ble_eq_true rfl, Nat.le_of_ble_eq_true rfl⟩ d_Mo_beginAnew_125 ⟨Nat.zero_le _, Nat.zero_le _⟩ (fun H locs hP hD hS => ?_)
              refine lv_iinc (v := (nI (b + 1))) (lv' := [(1, .int (nI (b + 1))), (0, .ref (ad 0))]) hx hb d_Mo_beginAnew_128 hl (k := 0) rfl (nI_1 b) (by decide) rfl (fun ls hl => ?_)
              refine lv_goto (tgt := 82) hx hb d_Mo_beginAnew_131 (by decide) ?_
              have e1 : bgB n b x = (x.1, (hangA b (u2 (u2 (u2 x.2 15 b (x.1 10)) 16 b 0) 17 b 0))) := (by unfold bgB; rw [if_pos hb1, if_pos hbn]; rfl)
              exact ih (b + 1) (x.1, (hangA b (u2 (u2 (u2 x.2 15 b (x.1 10)) 16 b 0) 17 b 0))) _ _ _ (by omega) (by omega) (e1 ▸ bgB_inv hI) (it_back hb3 h8 e1) hP hD hS (lv_sub hl [0, 1] rfl)
    exact lb 4 0 (s1, bgA0 s0 a0) _ _ _ (by omega) (by omega) hI hx8 hP hD hS (lv_sub hl [0, 1] rfl)
  have lz : ∀ (t : Nat) (q : Nat) (H : Heap) (locs : List Loc) (ls : Array Slot), q ≤ 4096 → 4096 < q + t → va_P g.1 classes (wM g ad (s1, u1 a0 18 (clr (a0 18) q))) H → va_D A (wM g ad (s1, u1 a0 18 (clr (a0 18) q))) → va_S A s.heap H locs → lv_has ls 2 [(1, .int (nI q)), (0, .ref (ad 0))] → W p l e { frames := 4, cells := 0, slots := 0, locals := 106 } s m ([.ref (ad 0)] : List Value).toArray below meth c H locs 0 0 Q (F0 m 32 ls []) := by
    intro t
    induction t with
    | zero =>
      intro q H locs ls hq ht hP hD hS hl
      exact absurd trivial (by omega)
    | succ t ih =>
      intro q H locs ls hq ht hP hD hS hl
      refine lv_iload_n hx hb d_Mo_beginAnew_32 rfl (lv_at hl 0 rfl) ?_
      refine lv_sipush (v := 4096) hx hb d_Mo_beginAnew_33 (by decide) ?_
      refine lv_icmp_ge (tgt := 52) hx hb d_Mo_beginAnew_36 (by decide) (fun c36_4 => ?_) (fun c36_4 => ?_)
      · have hge := ge_of_le' (a := 4096) (n := 4096) 4096 rfl (Nat.le_refl _) (by decide) (by omega) c36_4
        have : q = 4096 := by omega
        subst this
        exact K _ _ _ hP hD hS (lv_sub hl [1] rfl)
      · have hlq := lt_of_nle' (a := 4096) (n := 4096) 4096 rfl (Nat.le_refl _) (by decide) (by omega) c36_4
        refine lv_aload_n hx hb d_Mo_beginAnew_39 rfl (lv_at hl 1 rfl) ?_
        refine get_ms (x := (s1, (u1 a0 18 (clr (a0 18) q)))) C 30 q_580 rfl (by decide) (.ref (ad 18)) rfl hP d_Mo_beginAnew_40 ?_
        refine lv_iload_n hx hb d_Mo_beginAnew_43 rfl (lv_at hl 0 rfl) ?_
        refine lv_iconst (v := 0) hx hb d_Mo_beginAnew_44 (by decide) ?_
        refine put_mz C 18 4096 rfl (vp_in_nI hlq (by omega)) q (nI_clamp (by omega)) rfl wM_a18 hP hD hS d_Mo_beginAnew_45 (fun H locs hP hD hS => ?_)
        refine lv_iinc (v := (nI (q + 1))) (lv' := [(1, .int (nI (q + 1))), (0, .ref (ad 0))]) hx hb d_Mo_beginAnew_46 hl (k := 0) rfl (nI_1 q) (by decide) rfl (fun ls hl => ?_)
        refine lv_goto (tgt := 32) hx hb d_Mo_beginAnew_49 (by decide) ?_
        rw [u2_u1, clr_s] at hP hD
        exact ih (q + 1) _ _ _ (by omega) (by omega) hP hD hS (lv_sub hl [0, 1] rfl)
  have hP : va_P g.1 classes (wM g ad (s1, u1 a0 18 (clr (a0 18) 0))) H := by rw [clr_0, u1_id]; exact hP
  have hD : va_D A (wM g ad (s1, u1 a0 18 (clr (a0 18) 0))) := by rw [clr_0, u1_id]; exact hD
  exact lz 4097 0 _ _ _ (by omega) (by omega) hP hD hS (lv_sub hl [0, 1] rfl)
end
section
theorem mvA1_k {s : Nat → Int32} {way : Int32} {b : Nat} {a : St2} {k : Nat} (h1 : k ≠ 15) (h2 : k ≠ 16) : mvA1 s way b a k = a k := by
  unfold mvA1
  rw [u2_row h2, u2_row h1, u2_row h2]
theorem mvB_k {way : Int32} {b : Nat} {x : MS} {k : Nat} (h1 : k ≠ 15) (h2 : k ≠ 16) (h3 : k ≠ 13) (h4 : k ≠ 14) : (mvB way b x).2 k = x.2 k := by
  unfold mvB
  dsimp only
  rw [hangA_k h3 h4, mvA1_k h1 h2]
theorem msB_s {b : Nat} {x : MS} {f : Nat} (h : f ≠ 25) : (msB b x).1 f = x.1 f := by
  unfold msB
  exact pk_un h
theorem msB_a {b : Nat} {x : MS} {k : Nat} (h : k ≠ 17) : (msB b x).2 k = x.2 k := by
  unfold msB
  exact u2_row h
theorem mdM_s {x : MS} {f : Nat} (h : f ≠ 24) : (mdM x).1 f = x.1 f := by
  unfold mdM
  exact pk_un h
theorem mdM_24 {x : MS} : (mdM x).1 24 = x.1 24 + 1 := by
  show upd x.1 24 (x.1 24 + 1) 24 = _
  exact pk_us
theorem mvA0_k {s : Nat → Int32} {turn way : Int32} {a : St2} {k : Nat} (h1 : k ≠ 13) (h2 : k ≠ 14) (h3 : k ≠ 15) : mvA0 s turn way a k = a k := by
  unfold mvA0
  rw [u2_row h3, u2_row h2, u2_row h1]
theorem msB_inv {n np b : Nat} {x : MS} (h : InvL n np x) : InvL n np (msB b x) := by
  obtain ⟨h1, h2, h3, h4⟩ := h
  exact ⟨fun i hi => by rw [msB_a (by decide)]; exact h1 i hi, by rw [msB_s (by decide)]; exact h2, by rw [msB_s (by decide)]; exact h3, by rw [msB_s (by decide)]; exact h4⟩
theorem stk01 {a b : Int32} : (if a = 0 then (if b ≤ 24 then (0 : Int32) else 1) else 1) = 0 ∨ (if a = 0 then (if b ≤ 24 then (0 : Int32) else 1) else 1) = 1 := by
  split
  · split <;> simp
  · simp
theorem fit01 {v : Int32} (h : v = 0 ∨ v = 1) : fits .boolean (.int v) = true := by
  rcases h with rfl | rfl <;> rfl
theorem made_ne {v : Int32} (h1 : 0 ≤ v.toInt) (h2 : v.toInt < 4000) : ¬ v + 1 = -1 := fun q => by
  have h := congrArg Int32.toInt q
  rw [tI_add (b := 1) (by show _ ≤ v.toInt + 1; omega) (by show v.toInt + 1 < _; omega)] at h
  have h' : v.toInt + 1 = -1 := h
  omega
theorem nn_ne {v : Int32} (h1 : 0 ≤ v.toInt) : ¬ v = -1 := fun q => by
  rw [q] at h1
  exact absurd h1 (by decide)
def stopM (x : MS) : Bool := !(x.1 25 == 0) || decide (4000 ≤ x.1 24)
theorem stopM_t1 {x : MS} (c : ¬ x.1 25 = 0) : stopM x = true := by simp [stopM, c]
theorem stopM_t2 {x : MS} (c : 4000 ≤ x.1 24) : stopM x = true := by simp [stopM, c]
theorem stopM_f {x : MS} (c1 : x.1 25 = 0) (c2 : ¬ 4000 ≤ x.1 24) : stopM x = false := by simp [stopM, c1, c2]
def goM (n np : Nat) (turn : Int32) (N : Nat) (fw : Int32) (x : MS) : MS := whileF stopM (moveM n np turn (sgnI fw)) N x
/-- what holds of the reference while it goes -/
def InvG (n np : Nat) (x : MS) : Prop := (∀ i, i < 17 → x.2 1 i = cosT i) ∧ x.1 2 = nI n ∧ x.1 12 = nI np ∧ 0 ≤ (x.1 24).toInt ∧ ∀ b, b < n → ¬ x.2 2 b = 0
theorem itF_keep {α : Type} {P : α → Prop} {f : Nat → α → α} (hf : ∀ i x, P x → P (f i x)) : ∀ (j n i : Nat) (x : α), n ≤ i + j → P x → P (itF f n i x) := by
  intro j
  induction j with
  | zero => intro n i x h hx; rw [itF_end (by omega)]; exact hx
  | succ j ih =>
    intro n i x h hx
    rcases Nat.lt_or_ge i n with q | q
    · rw [itF_step q]; exact ih n (i + 1) _ (by omega) (hf i x hx)
    · rw [itF_end q]; exact hx
theorem itF_all {α : Type} {P : α → Prop} {f : Nat → α → α} {n i : Nat} {x : α} (hf : ∀ i x, P x → P (f i x)) (hx : P x) : P (itF f n i x) := itF_keep hf n n i x (by omega) hx
/-- the parts of the reference's state that a move leaves -/
def KeepG (y x : MS) : Prop := x.2 1 = y.2 1 ∧ x.2 2 = y.2 2 ∧ x.1 2 = y.1 2 ∧ x.1 12 = y.1 12 ∧ x.1 24 = y.1 24
theorem mvB_keep {y : MS} {way : Int32} (b : Nat) (x : MS) (h : KeepG y x) : KeepG y (mvB way b x) := by
  obtain ⟨h1, h2, h3, h4, h5⟩ := h
  exact ⟨(mvB_k (by decide) (by decide) (by decide) (by decide)).trans h1, (mvB_k (by decide) (by decide) (by decide) (by decide)).trans h2, h3, h4, h5⟩
theorem msB_keep {y : MS} (b : Nat) (x : MS) (h : KeepG y x) : KeepG y (msB b x) := by
  obtain ⟨h1, h2, h3, h4, h5⟩ := h
  exact ⟨(msB_a (by decide)).trans h1, (msB_a (by decide)).trans h2, (msB_s (by decide)).trans h3, (msB_s (by decide)).trans h4, (msB_s (by decide)).trans h5⟩
theorem lookB_keep {y : MS} {np : Nat} (b : Nat) (x : MS) (h : KeepG y x) : KeepG y (lookB np b x) := by
  obtain ⟨h1, h2, h3, h4, h5⟩ := h
  exact ⟨(lookB_a (by decide)).trans h1, (lookB_a (by decide)).trans h2, (lookB_s (by decide) (by decide) (by decide) (by decide)).trans h3, (lookB_s (by decide) (by decide) (by decide) (by decide)).trans h4, (lookB_s (by decide) (by decide) (by decide) (by decide)).trans h5⟩
theorem moveM_keep {n np : Nat} {turn way : Int32} {x : MS} : (moveM n np turn way x).2 1 = x.2 1 ∧ (moveM n np turn way x).2 2 = x.2 2 ∧ (moveM n np turn way x).1 2 = x.1 2 ∧ (moveM n np turn way x).1 12 = x.1 12 ∧ (moveM n np turn way x).1 24 = x.1 24 + 1 := by
  unfold moveM
  have k1 : KeepG x (itF (mvB way) n 1 (x.1, mvA0 x.1 turn way x.2)) := itF_all mvB_keep ⟨mvA0_k (s := x.1) (turn := turn) (way := way) (a := x.2) (k := 1) (by decide) (by decide) (by decide), mvA0_k (s := x.1) (turn := turn) (way := way) (a := x.2) (k := 2) (by decide) (by decide) (by decide), rfl, rfl, rfl⟩
  generalize itF (mvB way) n 1 (x.1, mvA0 x.1 turn way x.2) = x1 at k1
  have k2 : KeepG (mdM x1) (itF (lookB np) n 0 (itF msB n 1 (mdM x1))) := itF_all lookB_keep (itF_all msB_keep ⟨rfl, rfl, rfl, rfl, rfl⟩)
  obtain ⟨a1, a2, a3, a4, a5⟩ := k1
  obtain ⟨b1, b2, b3, b4, b5⟩ := k2
  exact ⟨b1.trans a1, b2.trans a2, b3.trans ((mdM_s (by decide)).trans a3), b4.trans ((mdM_s (by decide)).trans a4), b5.trans (mdM_24.trans (by rw [a5]))⟩
theorem lt4000 {v : Int32} (c : ¬ 4000 ≤ v) : v.toInt < 4000 := by
  rcases Int.lt_or_le v.toInt 4000 with q | q
  · exact q
  · exact absurd (i32_le.mpr (show (4000 : Int32).toInt ≤ v.toInt from q)) c
theorem moveM_inv {n np : Nat} {turn way : Int32} {x : MS} (h : InvG n np x) (h4 : (x.1 24).toInt < 4000) : InvG n np (moveM n np turn way x) := by
  obtain ⟨k1, k2, k3, k4, k5⟩ := moveM_keep (n := n) (np := np) (turn := turn) (way := way) (x := x)
  obtain ⟨h1, h2, h3, h5, h6⟩ := h
  refine ⟨fun i hi => by rw [k1]; exact h1 i hi, k3.trans h2, k4.trans h3, ?_, fun b hb => by rw [k2]; exact h6 b hb⟩
  rw [k5, tI_add (b := 1) (by show _ ≤ (x.1 24).toInt + 1; omega) (by show (x.1 24).toInt + 1 < _; omega)]
  show 0 ≤ (x.1 24).toInt + 1
  omega

set_option maxHeartbeats 4000000 in
set_option maxRecDepth 100000 in
theorem c_Mo_move (l : Launch) (g : Glob) (ad : Nat → Nat) (x : MS) (n np : Nat) (hc : ∀ i, i < 17 → x.2 1 i = cosT i) (hn : x.1 2 = nI n) (hp : x.1 12 = nI np) (hm0 : 0 ≤ (x.1 24).toInt) (hm4 : (x.1 24).toInt < 4000) (hL : ∀ b, b < n → ¬ x.2 2 b = 0) (h3 : n ≤ 3) (h20 : np ≤ 20) (turn fw : Int32) : CV l g y_Mo_move b_Mo_move 7 4 106 [.ref (ad 0), .int turn, .int fw] (wM g ad x) (wM g ad (moveM n np turn (sgnI fw) x)) := by
  refine CV.of (by decide +kernel) (Nat.le_of_ble_eq_true rfl) ?_
  intro p e s m below meth c A Q ls C hP hD hl hret hS
  obtain ⟨hx, hb, hml, hown, hw, hE, hA⟩ := id C
  have hl : lv_has ls 7 [(0, .ref (ad 0)), (1, .int turn), (2, .int fw)] := hl
  unfold moveM at hret
  generalize hway : sgnI fw = way at hret
  generalize h9 : itF (lookB np) n 0 (itF msB n 1 (mdM (itF (mvB way) n 1 (x.1, mvA0 x.1 turn way x.2)))) = x9 at hret
  obtain ⟨s0, a0⟩ := x
  dsimp only at hc hn hp hm0 hm4 hL hret h9
  have K0 : ∀ (ls : Array Slot), lv_has ls 7 [(3, .int way), (0, .ref (ad 0)), (1, .int turn), (2, .int fw)] → W p l e { frames := 4, cells := 0, slots := 0, locals := 106 } s m ([.ref (ad 0), .int turn, .int fw] : List Value).toArray below meth c s.heap [] 0 0 Q (F0 m 10 ls []) := by
    intro ls hl
    refine lv_aload_n hx hb d_Mo_move_10 rfl (lv_at hl 1 rfl) ?_
    refine get_ms (x := (s0, a0)) C 19 q_569 rfl (by decide) (.ref (ad 13)) rfl hP d_Mo_move_11 ?_
    refine lv_iconst (v := 0) hx hb d_Mo_move_14 (by decide) ?_
    refine lv_aload_n hx hb d_Mo_move_15 rfl (lv_at hl 1 rfl) ?_
    refine get_ms (x := (s0, a0)) C 19 q_569 rfl (by decide) (.ref (ad 13)) rfl hP d_Mo_move_16 ?_
    refine lv_iconst (v := 0) hx hb d_Mo_move_19 (by decide) ?_
    refine get_ma (x := (s0, a0)) C 13 3 rfl (by unfold vp_in; decide) (a0 13 0) ((congrArg (a0 13) (show (0 : Int32).toNatClampNeg = 0 from by decide)).trans rfl) hP d_Mo_move_20 ?_
    refine lv_iload_n hx hb d_Mo_move_21 rfl (lv_at hl 0 rfl) ?_
    refine lv_aload_n hx hb d_Mo_move_22 rfl (lv_at hl 1 rfl) ?_
    refine get_mi (x := (s0, a0)) C 11 q_561 rfl (by decide) rfl (s0 11) rfl hP d_Mo_move_23 ?_
    refine lv_imul hx hb d_Mo_move_26 ?_
    refine lv_aload_n hx hb d_Mo_move_27 rfl (lv_at hl 1 rfl) ?_
    refine lv_aload_n hx hb d_Mo_move_28 rfl (lv_at hl 1 rfl) ?_
    refine get_ms (x := (s0, a0)) C 21 q_571 rfl (by decide) (.ref (ad 15)) rfl hP d_Mo_move_29 ?_
    refine lv_iconst (v := 0) hx hb d_Mo_move_32 (by decide) ?_
    refine get_ma (x := (s0, a0)) C 15 3 rfl (by unfold vp_in; decide) (a0 15 0) ((congrArg (a0 15) (show (0 : Int32).toNatClampNeg = 0 from by decide)).trans rfl) hP d_Mo_move_33 ?_
    refine cvI C v_Mo_90 [.int (a0 15 0)] [.int (way * (s0 11)), .int (a0 13 0), .int 0, .ref (ad 13)] (c_Mo_dx l g ad (s0, a0) hc (a0 15 0)) hP hD hS [0, 1, 2, 3, 4, 5, 6, 7, 8, 9, 10, 11, 12, 13, 14, 15, 16, 17, 18, 19, 20] [] [0, 1, 2, 3, 4, 5, 6, 7, 8, 9, 10, 11, 12, 13, 14, 15, 16, 17, 18, 19, 20] [] (wM g ad (s0, a0)) rfl rfl (by decide) (by decide) (by decide) rfl (by decide) 0 rfl rfl rfl rfl hl.1 (Nat.le_of_ble_eq_true rfl) ⟨Nat.le_of_ble_eq_true rfl, Nat.le_of_ble_eq_true rfl⟩ d_Mo_move_34 ⟨Nat.zero_le _, Nat.zero_le _⟩ (fun H locs hP hD hS => ?_)
    refine lv_imul hx hb d_Mo_move_37 ?_
    refine lv_iadd hx hb d_Mo_move_38 ?_
    refine put_ma C 13 3 rfl (by unfold vp_in; decide) 0 (show (0 : Int32).toNatClampNeg = 0 from by decide) wM_a13 hP hD hS d_Mo_move_39 (fun H locs hP hD hS => ?_)
    refine lv_aload_n hx hb d_Mo_move_40 rfl (lv_at hl 1 rfl) ?_
    refine get_ms (x := (s0, (u2 a0 13 0 ((a0 13 0) + ((way * (s0 11)) * (dX (a0 15 0))))))) C 20 q_570 rfl (by decide) (.ref (ad 14)) rfl hP d_Mo_move_41 ?_
    refine lv_iconst (v := 0) hx hb d_Mo_move_44 (by decide) ?_
    refine lv_aload_n hx hb d_Mo_move_45 rfl (lv_at hl 1 rfl) ?_
    refine get_ms (x := (s0, (u2 a0 13 0 ((a0 13 0) + ((way * (s0 11)) * (dX (a0 15 0))))))) C 20 q_570 rfl (by decide) (.ref (ad 14)) rfl hP d_Mo_move_46 ?_
    refine lv_iconst (v := 0) hx hb d_Mo_move_49 (by decide) ?_
    refine get_ma (x := (s0, (u2 a0 13 0 ((a0 13 0) + ((way * (s0 11)) * (dX (a0 15 0))))))) C 14 3 rfl (by unfold vp_in; decide) (a0 14 0) ((congrArg ((u2 a0 13 0 ((a0 13 0) + ((way * (s0 11)) * (dX (a0 15 0))))) 14) (show (0 : Int32).toNatClampNeg = 0 from by decide)).trans (u2_k (σ := a0) (k := 13) (b := 0) (x := ((a0 13 0) + ((way * (s0 11)) * (dX (a0 15 0))))) (i := 14) (j := 0) (by decide))) hP d_Mo_move_50 ?_
    refine lv_iload_n hx hb d_Mo_move_51 rfl (lv_at hl 0 rfl) ?_
    refine lv_aload_n hx hb d_Mo_move_52 rfl (lv_at hl 1 rfl) ?_
    refine get_mi (x := (s0, (u2 a0 13 0 ((a0 13 0) + ((way * (s0 11)) * (dX (a0 15 0))))))) C 11 q_561 rfl (by decide) rfl (s0 11) rfl hP d_Mo_move_53 ?_
    refine lv_imul hx hb d_Mo_move_56 ?_
    refine lv_aload_n hx hb d_Mo_move_57 rfl (lv_at hl 1 rfl) ?_
    refine lv_aload_n hx hb d_Mo_move_58 rfl (lv_at hl 1 rfl) ?_
    refine get_ms (x := (s0, (u2 a0 13 0 ((a0 13 0) + ((way * (s0 11)) * (dX (a0 15 0))))))) C 21 q_571 rfl (by decide) (.ref (ad 15)) rfl hP d_Mo_move_59 ?_
    refine lv_iconst (v := 0) hx hb d_Mo_move_62 (by decide) ?_
    refine get_ma (x := (s0, (u2 a0 13 0 ((a0 13 0) + ((way * (s0 11)) * (dX (a0 15 0))))))) C 15 3 rfl (by unfold vp_in; decide) (a0 15 0) ((congrArg ((u2 a0 13 0 ((a0 13 0) + ((way * (s0 11)) * (dX (a0 15 0))))) 15) (show (0 : Int32).toNatClampNeg = 0 from by decide)).trans (u2_k (σ := a0) (k := 13) (b := 0) (x := ((a0 13 0) + ((way * (s0 11)) * (dX (a0 15 0))))) (i := 15) (j := 0) (by decide))) hP d_Mo_move_63 ?_
    refine cvI C v_Mo_97 [.int (a0 15 0)] [.int (way * (s0 11)), .int (a0 14 0), .int 0, .ref (ad 14)] (c_Mo_dy l g ad (s0, (u2 a0 13 0 ((a0 13 0) + ((way * (s0 11)) * (dX (a0 15 0)))))) (fun i hi => (u2_k (σ := a0) (k := 13) (b := 0) (x := ((a0 13 0) + ((way * (s0 11)) * (dX (a0 15 0))))) (i := 1) (j := i) (by decide)).trans (hc i hi)) (a0 15 0)) hP hD hS [0, 1, 2, 3, 4, 5, 6, 7, 8, 9, 10, 11, 12, 13, 14, 15, 16, 17, 18, 19, 20] [] [0, 1, 2, 3, 4, 5, 6, 7, 8, 9, 10, 11, 12, 13, 14, 15, 16, 17, 18, 19, 20] [] (wM g ad (s0, (u2 a0 13 0 ((a0 13 0) + ((way * (s0 11)) * (dX (a0 15 0))))))) rfl rfl (by decide) (by decide) (by decide) rfl (by decide) 0 rfl rfl rfl rfl hl.1 (Nat.le_of_ble_eq_true rfl) ⟨Nat.le_of_ble_eq_true rfl, Nat.le_of_ble_eq_true rfl⟩ d_Mo_move_64 ⟨Nat.zero_le _, Nat.zero_le _⟩ (fun H locs hP hD hS => ?_)
    refine lv_imul hx hb d_Mo_move_67 ?_
    refine lv_iadd hx hb d_Mo_move_68 ?_
    refine put_ma C 14 3 rfl (by unfold vp_in; decide) 0 (show (0 : Int32).toNatClampNeg = 0 from by decide) wM_a14 hP hD hS d_Mo_move_69 (fun H locs hP hD hS => ?_)
    refine lv_aload_n hx hb d_Mo_move_70 rfl (lv_at hl 1 rfl) ?_
    refine get_ms (x := (s0, (u2 (u2 a0 13 0 ((a0 13 0) + ((way * (s0 11)) * (dX (a0 15 0))))) 14 0 ((a0 14 0) + ((way * (s0 11)) * (dY (a0 15 0))))))) C 21 q_571 rfl (by decide) (.ref (ad 15)) rfl hP d_Mo_move_71 ?_
    refine lv_iconst (v := 0) hx hb d_Mo_move_74 (by decide) ?_
    refine lv_aload_n hx hb d_Mo_move_75 rfl (lv_at hl 1 rfl) ?_
    refine get_ms (x := (s0, (u2 (u2 a0 13 0 ((a0 13 0) + ((way * (s0 11)) * (dX (a0 15 0))))) 14 0 ((a0 14 0) + ((way * (s0 11)) * (dY (a0 15 0))))))) C 21 q_571 rfl (by decide) (.ref (ad 15)) rfl hP d_Mo_move_76 ?_
    refine lv_iconst (v := 0) hx hb d_Mo_move_79 (by decide) ?_
    refine get_ma (x := (s0, (u2 (u2 a0 13 0 ((a0 13 0) + ((way * (s0 11)) * (dX (a0 15 0))))) 14 0 ((a0 14 0) + ((way * (s0 11)) * (dY (a0 15 0))))))) C 15 3 rfl (by unfold vp_in; decide) (a0 15 0) ((congrArg ((u2 (u2 a0 13 0 ((a0 13 0) + ((way * (s0 11)) * (dX (a0 15 0))))) 14 0 ((a0 14 0) + ((way * (s0 11)) * (dY (a0 15 0))))) 15) (show (0 : Int32).toNatClampNeg = 0 from by decide)).trans ((u2_k (σ := (u2 a0 13 0 ((a0 13 0) + ((way * (s0 11)) * (dX (a0 15 0)))))) (k := 14) (b := 0) (x := ((a0 14 0) + ((way * (s0 11)) * (dY (a0 15 0))))) (i := 15) (j := 0) (by decide)).trans (u2_k (σ := a0) (k := 13) (b := 0) (x := ((a0 13 0) + ((way * (s0 11)) * (dX (a0 15 0))))) (i := 15) (j := 0) (by decide)))) hP d_Mo_move_80 ?_
    refine lv_iload_n hx hb d_Mo_move_81 rfl (lv_at hl 0 rfl) ?_
    refine lv_iload_n hx hb d_Mo_move_82 rfl (lv_at hl 2 rfl) ?_
    refine lv_imul hx hb d_Mo_move_83 ?_
    refine lv_iadd hx hb d_Mo_move_84 ?_
    refine lv_bipush (v := 63) hx hb d_Mo_move_85 (by decide) ?_
    refine lv_iand hx hb d_Mo_move_87 ?_
    refine put_ma C 15 3 rfl (by unfold vp_in; decide) 0 (show (0 : Int32).toNatClampNeg = 0 from by decide) wM_a15 hP hD hS d_Mo_move_88 (fun H locs hP hD hS => ?_)
    refine lv_iconst (v := 1) hx hb d_Mo_move_89 (by decide) ?_
    refine lv_istore (lv' := [(4, .int 1), (3, .int way), (0, .ref (ad 0)), (1, .int turn), (2, .int fw)]) hx hb d_Mo_move_90 hl (by decide) rfl (fun ls hl => ?_)
    generalize hx8 : itF (mvB way) n 1 (s0, mvA0 s0 turn way a0) = x8 at h9
    have l1 : ∀ (t : Nat) (b : Nat) (a : St2) (H : Heap) (locs : List Loc) (ls : Array Slot), 1 ≤ b → b ≤ n + 1 → n + 1 < b + t → (∀ i, i < 17 → a 1 i = cosT i) → (∀ b, b < n → ¬ a 2 b = 0) → itF (mvB way) n b (s0, a) = x8 → va_P g.1 classes (wM g ad (s0, a)) H → va_D A (wM g ad (s0, a)) → va_S A s.heap H locs → lv_has ls 7 [(4, .int (nI b)), (3, .int way), (0, .ref (ad 0)), (1, .int turn), (2, .int fw)] → W p l e { frames := 4, cells := 0, slots := 0, locals := 106 } s m ([.ref (ad 0), .int turn, .int fw] : List Value).toArray below meth c H locs 0 0 Q (F0 m 92 ls []) := by
      intro t
      induction t with
      | zero =>
        intro b a H locs ls hb1 hbn ht hc hL h8 hP hD hS hl
        exact absurd trivial (by omega)
      | succ t ih =>
        intro b a H locs ls hb1 hbn ht hc hL h8 hP hD hS hl
        refine lv_iload hx hb d_Mo_move_92 (lv_at hl 0 rfl) ?_
        refine lv_aload_n hx hb d_Mo_move_94 rfl (lv_at hl 2 rfl) ?_
        refine get_mi (x := (s0, a)) C 2 q_552 rfl (by decide) rfl (s0 2) rfl hP d_Mo_move_95 ?_
        refine lv_icmp_ge (tgt := 203) hx hb d_Mo_move_98 (by decide) (fun c98_1 => ?_) (fun c98_1 => ?_)
        · have h8 := (itF_end (ge_of_le hn h3 hbn c98_1)).symm.trans h8
          subst h8
          refine lv_aload_n hx hb d_Mo_move_203 rfl (lv_at hl 2 rfl) ?_
          refine lv_dup hx hb d_Mo_move_204 rfl ?_
          refine get_mi (x := (s0, a)) C 24 q_574 rfl (by decide) rfl (s0 24) rfl hP d_Mo_move_205 ?_
          refine lv_iconst (v := 1) hx hb d_Mo_move_208 (by decide) ?_
          refine lv_iadd hx hb d_Mo_move_209 ?_
          refine put_ms C 24 (ty := .int) q_574 rfl (by decide) rfl (by decide +kernel) rfl rfl wM_s24 hP hD hS d_Mo_move_210 (fun H locs hP hD hS => ?_)
          refine lv_iconst (v := 1) hx hb d_Mo_move_213 (by decide) ?_
          refine lv_istore (lv' := [(4, .int 1), (3, .int way), (0, .ref (ad 0)), (1, .int turn), (2, .int fw)]) hx hb d_Mo_move_214 hl (by decide) rfl (fun ls hl => ?_)
          have hI : InvL n np (mdM (s0, a)) := ⟨hc, by rw [mdM_s (by decide)]; exact hn, by rw [mdM_s (by decide)]; exact hp, by rw [mdM_24]; exact made_ne hm0 hm4⟩
          generalize hx7 : itF msB n 1 (mdM (s0, a)) = x7 at h9
          have l2 : ∀ (t2 : Nat) (b : Nat) (x : MS) (H : Heap) (locs : List Loc) (ls : Array Slot), 1 ≤ b → b ≤ n + 1 → n + 1 < b + t2 → InvL n np x → itF msB n b x = x7 → va_P g.1 classes (wM g ad x) H → va_D A (wM g ad x) → va_S A s.heap H locs → lv_has ls 7 [(4, .int (nI b)), (0, .ref (ad 0))] → W p l e { frames := 4, cells := 0, slots := 0, locals := 106 } s m ([.ref (ad 0), .int turn, .int fw] : List Value).toArray below meth c H locs 0 0 Q (F0 m 216 ls []) := by
            intro t2
            induction t2 with
            | zero =>
              intro b x H locs ls hb1 hbn ht2 hI h7 hP hD hS hl
              exact absurd trivial (by omega)
            | succ t2 ih =>
              intro b x H locs ls hb1 hbn ht2 hI h7 hP hD hS hl
              obtain ⟨hc, hn, hp, hm⟩ := id hI
              refine lv_iload hx hb d_Mo_move_216 (lv_at hl 0 rfl) ?_
              refine lv_aload_n hx hb d_Mo_move_218 rfl (lv_at hl 1 rfl) ?_
              refine get_mi (x := x) C 2 q_552 rfl (by decide) rfl (x.1 2) rfl hP d_Mo_move_219 ?_
              refine lv_icmp_ge (tgt := 308) hx hb d_Mo_move_222 (by decide) (fun c222_2 => ?_) (fun c222_2 => ?_)
              · have h7 := (itF_end (ge_of_le hn h3 hbn c222_2)).symm.trans h7
                subst h7
                have hI9 := hI
                refine lv_aload_n hx hb d_Mo_move_308 rfl (lv_at hl 1 rfl) ?_
                refine cvV C v_Mo_142 [] [] (c_Mo_look l g ad x n np hI9 h3 h20) hP hD hS [0, 1, 2, 3, 4, 5, 6, 7, 8, 9, 10, 11, 12, 13, 14, 15, 16, 17, 18, 19, 20] [] [0, 1, 2, 3, 4, 5, 6, 7, 8, 9, 10, 11, 12, 13, 14, 15, 16, 17, 18, 19, 20] [] (wM g ad (itF (lookB np) n 0 x)) rfl rfl (by decide) (by decide) (by decide) rfl (by decide) 0 rfl rfl rfl rfl hl.1 (Nat.le_of_ble_eq_true rfl) ⟨Nat.le_of_ble_eq_true rfl, Nat.le_of_ble_eq_true rfl⟩ d_Mo_move_309 ⟨Nat.zero_le _, Nat.zero_le _⟩ (fun H locs hP hD hS => ?_)
                exact hret _ _ _ _ _ (by rw [← h9]) hP hD hS d_Mo_move_312
              · have hlt := lt_of_nle hn h3 hbn c222_2
                have hb3 : b < 3 := by omega
                refine lv_aload_n hx hb d_Mo_move_225 rfl (lv_at hl 1 rfl) ?_
                refine lv_iload hx hb d_Mo_move_226 (lv_at hl 0 rfl) ?_
                refine cvI C v_Mo_145 [.int (nI b)] [] (c_Mo_askewOf l g ad x b hb3) hP hD hS [0, 1, 2, 3, 4, 5, 6, 7, 8, 9, 10, 11, 12, 13, 14, 15, 16, 17, 18, 19, 20] [] [0, 1, 2, 3, 4, 5, 6, 7, 8, 9, 10, 11, 12, 13, 14, 15, 16, 17, 18, 19, 20] [] (wM g ad x) rfl rfl (by decide) (by decide) (by decide) rfl (by decide) 0 rfl rfl rfl rfl hl.1 (Nat.le_of_ble_eq_true rfl) ⟨Nat.le_of_ble_eq_true rfl, Nat.le_of_ble_eq_true rfl⟩ d_Mo_move_228 ⟨Nat.zero_le _, Nat.zero_le _⟩ (fun H locs hP hD hS => ?_)
                refine lv_istore (lv' := [(5, .int (askF (poM x.2) b)), (4, .int (nI b)), (0, .ref (ad 0))]) hx hb d_Mo_move_231 hl (by decide) rfl (fun ls hl => ?_)
                have J246 : ∀ (sz : Int32), sz = sizI (askF (poM x.2) b) → W p l e { frames := 4, cells := 0, slots := 0, locals := 106 } s m ([.ref (ad 0), .int turn, .int fw] : List Value).toArray below meth c H locs 0 0 Q (F0 m 246 ls [.int sz]) := by
                  intro sz esz
                  refine lv_istore (lv' := [(6, .int sz), (5, .int (askF (poM x.2) b)), (4, .int (nI b)), (0, .ref (ad 0))]) hx hb d_Mo_move_246 hl (by decide) rfl (fun ls hl => ?_)
                  refine lv_aload_n hx hb d_Mo_move_248 rfl (lv_at hl 3 rfl) ?_
                  refine get_ms (x := x) C 23 q_573 rfl (by decide) (.ref (ad 17)) rfl hP d_Mo_move_249 ?_
                  refine lv_iload hx hb d_Mo_move_252 (lv_at hl 2 rfl) ?_
                  have J278 : ∀ (gr : Int32), gr = (if sz ≤ x.2 17 b then x.2 17 b else sz) → W p l e { frames := 4, cells := 0, slots := 0, locals := 106 } s m ([.ref (ad 0), .int turn, .int fw] : List Value).toArray below meth c H locs 0 0 Q (F0 m 278 ls [.int gr, .int (nI b), .ref (ad 17)]) := by
                    intro gr egr
                    refine put_ma C 17 3 rfl (vp_in_nI hb3 (by omega)) b (nI_clamp (by omega)) wM_a17 hP hD hS d_Mo_move_278 (fun H locs hP hD hS => ?_)
                    refine lv_aload_n hx hb d_Mo_move_279 rfl (lv_at hl 3 rfl) ?_
                    have J299 : ∀ (sk : Int32), sk = (if x.1 25 = 0 then (if sz ≤ 24 then 0 else 1) else 1) → W p l e { frames := 4, cells := 0, slots := 0, locals := 106 } s m ([.ref (ad 0), .int turn, .int fw] : List Value).toArray below meth c H locs 0 0 Q (F0 m 299 ls [.int sk, .ref (ad 0)]) := by
                      intro sk esk
                      refine put_ms C 25 (ty := .boolean) q_575 rfl (by decide) rfl (by decide +kernel) (nar01 (by rw [esk]; exact stk01)) (fit01 (by rw [esk]; exact stk01)) wM_s25 hP hD hS d_Mo_move_299 (fun H locs hP hD hS => ?_)
                      refine lv_iinc (v := (nI (b + 1))) (lv' := [(4, .int (nI (b + 1))), (6, .int sz), (5, .int (askF (poM x.2) b)), (0, .ref (ad 0))]) hx hb d_Mo_move_302 hl (k := 2) rfl (nI_1 b) (by decide) rfl (fun ls hl => ?_)
                      refine lv_goto (tgt := 216) hx hb d_Mo_move_305 (by decide) ?_
                      have e1 : msB b x = ((upd x.1 25 sk), (u2 x.2 17 b gr)) := by unfold msB; rw [esk, egr, esz]
                      exact ih (b + 1) ((upd x.1 25 sk), (u2 x.2 17 b gr)) _ _ _ (by omega) (by omega) (by omega) (e1 ▸ msB_inv hI) (it_back hlt h7 e1) hP hD hS (lv_sub hl [0, 3] rfl)
                    refine lv_aload_n hx hb d_Mo_move_280 rfl (lv_at hl 3 rfl) ?_
                    refine get_mi (x := (x.1, (u2 x.2 17 b gr))) C 25 q_575 rfl (by decide) rfl (x.1 25) rfl hP d_Mo_move_281 ?_
                    refine lv_if_ne (tgt := 294) hx hb d_Mo_move_284 (by decide) (fun c284_3 => ?_) (fun c284_3 => ?_)
                    · refine lv_iconst (v := 1) hx hb d_Mo_move_294 (by decide) ?_
                      refine lv_goto (tgt := 299) hx hb d_Mo_move_295 (by decide) ?_
                      exact J299 _ ((if_neg c284_3).symm)
                    · refine lv_iload hx hb d_Mo_move_287 (lv_at hl 0 rfl) ?_
                      refine lv_bipush (v := 24) hx hb d_Mo_move_289 (by decide) ?_
                      refine lv_icmp_le (tgt := 298) hx hb d_Mo_move_291 (by decide) (fun c291_4 => ?_) (fun c291_4 => ?_)
                      · refine lv_iconst (v := 0) hx hb d_Mo_move_298 (by decide) ?_
                        exact J299 _ (((if_pos c284_3).trans (if_pos c291_4)).symm)
                      · refine lv_iconst (v := 1) hx hb d_Mo_move_294 (by decide) ?_
                        refine lv_goto (tgt := 299) hx hb d_Mo_move_295 (by decide) ?_
                        exact J299 _ (((if_pos c284_3).trans (if_neg c291_4)).symm)
                  refine lv_iload hx hb d_Mo_move_254 (lv_at hl 0 rfl) ?_
                  refine lv_aload_n hx hb d_Mo_move_256 rfl (lv_at hl 3 rfl) ?_
                  refine get_ms (x := x) C 23 q_573 rfl (by decide) (.ref (ad 17)) rfl hP d_Mo_move_257 ?_
                  refine lv_iload hx hb d_Mo_move_260 (lv_at hl 2 rfl) ?_
                  refine get_ma (x := x) C 17 3 rfl (vp_in_nI hb3 (by omega)) (x.2 17 b) ((congrArg (x.2 17) (nI_clamp (by omega))).trans rfl) hP d_Mo_move_262 ?_
                  refine lv_icmp_le (tgt := 271) hx hb d_Mo_move_263 (by decide) (fun c263_5 => ?_) (fun c263_5 => ?_)
                  · refine lv_aload_n hx hb d_Mo_move_271 rfl (lv_at hl 3 rfl) ?_
                    refine get_ms (x := x) C 23 q_573 rfl (by decide) (.ref (ad 17)) rfl hP d_Mo_move_272 ?_
                    refine lv_iload hx hb d_Mo_move_275 (lv_at hl 2 rfl) ?_
                    refine get_ma (x := x) C 17 3 rfl (vp_in_nI hb3 (by omega)) (x.2 17 b) ((congrArg (x.2 17) (nI_clamp (by omega))).trans rfl) hP d_Mo_move_277 ?_
                    exact J278 _ ((if_pos c263_5).symm)
                  · refine lv_iload hx hb d_Mo_move_266 (lv_at hl 0 rfl) ?_
                    refine lv_goto (tgt := 278) hx hb d_Mo_move_268 (by decide) ?_
                    exact J278 _ ((if_neg c263_5).symm)
                refine lv_iload hx hb d_Mo_move_233 (lv_at hl 0 rfl) ?_
                refine lv_if_ge (tgt := 244) hx hb d_Mo_move_235 (by decide) (fun c235_6 => ?_) (fun c235_6 => ?_)
                · refine lv_iload hx hb d_Mo_move_244 (lv_at hl 0 rfl) ?_
                  exact J246 _ ((if_pos c235_6).symm)
                · refine lv_iload hx hb d_Mo_move_238 (lv_at hl 0 rfl) ?_
                  refine lv_ineg hx hb d_Mo_move_240 ?_
                  refine lv_goto (tgt := 246) hx hb d_Mo_move_241 (by decide) ?_
                  exact J246 _ ((if_neg c235_6).symm)
          exact l2 (n + 2) 1 (mdM (s0, a)) _ _ _ (by omega) (by omega) (by omega) hI hx7 hP hD hS (lv_sub hl [0, 2] rfl)
        · have hlt := lt_of_nle hn h3 hbn c98_1
          have hb3 : b < 3 := by omega
          refine lv_aload_n hx hb d_Mo_move_101 rfl (lv_at hl 2 rfl) ?_
          refine get_ms (x := (s0, a)) C 22 q_572 rfl (by decide) (.ref (ad 16)) rfl hP d_Mo_move_102 ?_
          refine lv_iload hx hb d_Mo_move_105 (lv_at hl 0 rfl) ?_
          refine lv_aload_n hx hb d_Mo_move_107 rfl (lv_at hl 2 rfl) ?_
          refine get_ms (x := (s0, a)) C 22 q_572 rfl (by decide) (.ref (ad 16)) rfl hP d_Mo_move_108 ?_
          refine lv_iload hx hb d_Mo_move_111 (lv_at hl 0 rfl) ?_
          refine get_ma (x := (s0, a)) C 16 3 rfl (vp_in_nI hb3 (by omega)) (a 16 b) ((congrArg (a 16) (nI_clamp (by omega))).trans rfl) hP d_Mo_move_113 ?_
          refine lv_iload_n hx hb d_Mo_move_114 rfl (lv_at hl 1 rfl) ?_
          refine lv_aload_n hx hb d_Mo_move_115 rfl (lv_at hl 2 rfl) ?_
          refine lv_iload hx hb d_Mo_move_116 (lv_at hl 0 rfl) ?_
          refine cvI C v_Mo_145 [.int (nI b)] [.int way, .int (a 16 b), .int (nI b), .ref (ad 16)] (c_Mo_askewOf l g ad (s0, a) b hb3) hP hD hS [0, 1, 2, 3, 4, 5, 6, 7, 8, 9, 10, 11, 12, 13, 14, 15, 16, 17, 18, 19, 20] [] [0, 1, 2, 3, 4, 5, 6, 7, 8, 9, 10, 11, 12, 13, 14, 15, 16, 17, 18, 19, 20] [] (wM g ad (s0, a)) rfl rfl (by decide) (by decide) (by decide) rfl (by decide) 0 rfl rfl rfl rfl hl.1 (Nat.le_of_ble_eq_true rfl) ⟨Nat.le_of_ble_eq_true rfl, Nat.le_of_ble_eq_true rfl⟩ d_Mo_move_118 ⟨Nat.zero_le _, Nat.zero_le _⟩ (fun H locs hP hD hS => ?_)
          refine lv_imul hx hb d_Mo_move_121 ?_
          refine lv_aload_n hx hb d_Mo_move_122 rfl (lv_at hl 2 rfl) ?_
          refine get_mi (x := (s0, a)) C 11 q_561 rfl (by decide) rfl (s0 11) rfl hP d_Mo_move_123 ?_
          refine lv_imul hx hb d_Mo_move_126 ?_
          refine lv_iadd hx hb d_Mo_move_127 ?_
          refine put_ma C 16 3 rfl (vp_in_nI hb3 (by omega)) b (nI_clamp (by omega)) wM_a16 hP hD hS d_Mo_move_128 (fun H locs hP hD hS => ?_)
          refine lv_aload_n hx hb d_Mo_move_129 rfl (lv_at hl 2 rfl) ?_
          refine get_ms (x := (s0, (u2 a 16 b ((a 16 b) + ((way * (askF (poM a) b)) * (s0 11)))))) C 22 q_572 rfl (by decide) (.ref (ad 16)) rfl hP d_Mo_move_130 ?_
          refine lv_iload hx hb d_Mo_move_133 (lv_at hl 0 rfl) ?_
          refine get_ma (x := (s0, (u2 a 16 b ((a 16 b) + ((way * (askF (poM a) b)) * (s0 11)))))) C 16 3 rfl (vp_in_nI hb3 (by omega)) ((a 16 b) + ((way * (askF (poM a) b)) * (s0 11))) ((congrArg ((u2 a 16 b ((a 16 b) + ((way * (askF (poM a) b)) * (s0 11)))) 16) (nI_clamp (by omega))).trans (u2_s (σ := a) (k := 16) (b := b) (x := ((a 16 b) + ((way * (askF (poM a) b)) * (s0 11)))))) hP d_Mo_move_135 ?_
          refine lv_aload_n hx hb d_Mo_move_136 rfl (lv_at hl 2 rfl) ?_
          refine get_ms (x := (s0, (u2 a 16 b ((a 16 b) + ((way * (askF (poM a) b)) * (s0 11)))))) C 3 q_553 rfl (by decide) (.ref (ad 2)) rfl hP d_Mo_move_137 ?_
          refine lv_iload hx hb d_Mo_move_140 (lv_at hl 0 rfl) ?_
          refine get_ma (x := (s0, (u2 a 16 b ((a 16 b) + ((way * (askF (poM a) b)) * (s0 11)))))) C 2 3 rfl (vp_in_nI hb3 (by omega)) (a 2 b) ((congrArg ((u2 a 16 b ((a 16 b) + ((way * (askF (poM a) b)) * (s0 11)))) 2) (nI_clamp (by omega))).trans (u2_k (σ := a) (k := 16) (b := b) (x := ((a 16 b) + ((way * (askF (poM a) b)) * (s0 11)))) (i := 2) (j := b) (by decide))) hP d_Mo_move_142 ?_
          refine lv_idiv hx hb d_Mo_move_143 (hL b hlt) ?_
          refine lv_istore (lv' := [(5, .int (((a 16 b) + ((way * (askF (poM a) b)) * (s0 11))) / (a 2 b))), (4, .int (nI b)), (3, .int way), (0, .ref (ad 0)), (1, .int turn), (2, .int fw)]) hx hb d_Mo_move_144 hl (by decide) rfl (fun ls hl => ?_)
          refine lv_aload_n hx hb d_Mo_move_146 rfl (lv_at hl 3 rfl) ?_
          refine get_ms (x := (s0, (u2 a 16 b ((a 16 b) + ((way * (askF (poM a) b)) * (s0 11)))))) C 21 q_571 rfl (by decide) (.ref (ad 15)) rfl hP d_Mo_move_147 ?_
          refine lv_iload hx hb d_Mo_move_150 (lv_at hl 1 rfl) ?_
          refine lv_aload_n hx hb d_Mo_move_152 rfl (lv_at hl 3 rfl) ?_
          refine get_ms (x := (s0, (u2 a 16 b ((a 16 b) + ((way * (askF (poM a) b)) * (s0 11)))))) C 21 q_571 rfl (by decide) (.ref (ad 15)) rfl hP d_Mo_move_153 ?_
          refine lv_iload hx hb d_Mo_move_156 (lv_at hl 1 rfl) ?_
          refine get_ma (x := (s0, (u2 a 16 b ((a 16 b) + ((way * (askF (poM a) b)) * (s0 11)))))) C 15 3 rfl (vp_in_nI hb3 (by omega)) (a 15 b) ((congrArg ((u2 a 16 b ((a 16 b) + ((way * (askF (poM a) b)) * (s0 11)))) 15) (nI_clamp (by omega))).trans (u2_k (σ := a) (k := 16) (b := b) (x := ((a 16 b) + ((way * (askF (poM a) b)) * (s0 11)))) (i := 15) (j := b) (by decide))) hP d_Mo_move_158 ?_
          refine lv_iload hx hb d_Mo_move_159 (lv_at hl 0 rfl) ?_
          refine lv_iadd hx hb d_Mo_move_161 ?_
          refine lv_bipush (v := 63) hx hb d_Mo_move_162 (by decide) ?_
          refine lv_iand hx hb d_Mo_move_164 ?_
          refine put_ma C 15 3 rfl (vp_in_nI hb3 (by omega)) b (nI_clamp (by omega)) wM_a15 hP hD hS d_Mo_move_165 (fun H locs hP hD hS => ?_)
          refine lv_aload_n hx hb d_Mo_move_166 rfl (lv_at hl 3 rfl) ?_
          refine get_ms (x := (s0, (u2 (u2 a 16 b ((a 16 b) + ((way * (askF (poM a) b)) * (s0 11)))) 15 b (((a 15 b) + (((a 16 b) + ((way * (askF (poM a) b)) * (s0 11))) / (a 2 b))) &&& 63)))) C 22 q_572 rfl (by decide) (.ref (ad 16)) rfl hP d_Mo_move_167 ?_
          refine lv_iload hx hb d_Mo_move_170 (lv_at hl 1 rfl) ?_
          refine lv_aload_n hx hb d_Mo_move_172 rfl (lv_at hl 3 rfl) ?_
          refine get_ms (x := (s0, (u2 (u2 a 16 b ((a 16 b) + ((way * (askF (poM a) b)) * (s0 11)))) 15 b (((a 15 b) + (((a 16 b) + ((way * (askF (poM a) b)) * (s0 11))) / (a 2 b))) &&& 63)))) C 22 q_572 rfl (by decide) (.ref (ad 16)) rfl hP d_Mo_move_173 ?_
          refine lv_iload hx hb d_Mo_move_176 (lv_at hl 1 rfl) ?_
          refine get_ma (x := (s0, (u2 (u2 a 16 b ((a 16 b) + ((way * (askF (poM a) b)) * (s0 11)))) 15 b (((a 15 b) + (((a 16 b) + ((way * (askF (poM a) b)) * (s0 11))) / (a 2 b))) &&& 63)))) C 16 3 rfl (vp_in_nI hb3 (by omega)) ((a 16 b) + ((way * (askF (poM a) b)) * (s0 11))) ((congrArg ((u2 (u2 a 16 b ((a 16 b) + ((way * (askF (poM a) b)) * (s0 11)))) 15 b (((a 15 b) + (((a 16 b) + ((way * (askF (poM a) b)) * (s0 11))) / (a 2 b))) &&& 63)) 16) (nI_clamp (by omega))).trans ((u2_k (σ := (u2 a 16 b ((a 16 b) + ((way * (askF (poM a) b)) * (s0 11))))) (k := 15) (b := b) (x := (((a 15 b) + (((a 16 b) + ((way * (askF (poM a) b)) * (s0 11))) / (a 2 b))) &&& 63)) (i := 16) (j := b) (by decide)).trans (u2_s (σ := a) (k := 16) (b := b) (x := ((a 16 b) + ((way * (askF (poM a) b)) * (s0 11))))))) hP d_Mo_move_178 ?_
          refine lv_iload hx hb d_Mo_move_179 (lv_at hl 0 rfl) ?_
          refine lv_aload_n hx hb d_Mo_move_181 rfl (lv_at hl 3 rfl) ?_
          refine get_ms (x := (s0, (u2 (u2 a 16 b ((a 16 b) + ((way * (askF (poM a) b)) * (s0 11)))) 15 b (((a 15 b) + (((a 16 b) + ((way * (askF (poM a) b)) * (s0 11))) / (a 2 b))) &&& 63)))) C 3 q_553 rfl (by decide) (.ref (ad 2)) rfl hP d_Mo_move_182 ?_
          refine lv_iload hx hb d_Mo_move_185 (lv_at hl 1 rfl) ?_
          refine get_ma (x := (s0, (u2 (u2 a 16 b ((a 16 b) + ((way * (askF (poM a) b)) * (s0 11)))) 15 b (((a 15 b) + (((a 16 b) + ((way * (askF (poM a) b)) * (s0 11))) / (a 2 b))) &&& 63)))) C 2 3 rfl (vp_in_nI hb3 (by omega)) (a 2 b) ((congrArg ((u2 (u2 a 16 b ((a 16 b) + ((way * (askF (poM a) b)) * (s0 11)))) 15 b (((a 15 b) + (((a 16 b) + ((way * (askF (poM a) b)) * (s0 11))) / (a 2 b))) &&& 63)) 2) (nI_clamp (by omega))).trans ((u2_k (σ := (u2 a 16 b ((a 16 b) + ((way * (askF (poM a) b)) * (s0 11))))) (k := 15) (b := b) (x := (((a 15 b) + (((a 16 b) + ((way * (askF (poM a) b)) * (s0 11))) / (a 2 b))) &&& 63)) (i := 2) (j := b) (by decide)).trans (u2_k (σ := a) (k := 16) (b := b) (x := ((a 16 b) + ((way * (askF (poM a) b)) * (s0 11)))) (i := 2) (j := b) (by decide)))) hP d_Mo_move_187 ?_
          refine lv_imul hx hb d_Mo_move_188 ?_
          refine lv_isub hx hb d_Mo_move_189 ?_
          refine put_ma C 16 3 rfl (vp_in_nI hb3 (by omega)) b (nI_clamp (by omega)) wM_a16 hP hD hS d_Mo_move_190 (fun H locs hP hD hS => ?_)
          refine lv_aload_n hx hb d_Mo_move_191 rfl (lv_at hl 3 rfl) ?_
          refine lv_iload hx hb d_Mo_move_192 (lv_at hl 1 rfl) ?_
          refine cvV C v_Mo_138 [.int (nI b)] [] (c_Mo_hang l g ad (s0, (u2 (u2 (u2 a 16 b ((a 16 b) + ((way * (askF (poM a) b)) * (s0 11)))) 15 b (((a 15 b) + (((a 16 b) + ((way * (askF (poM a) b)) * (s0 11))) / (a 2 b))) &&& 63)) 16 b (((a 16 b) + ((way * (askF (poM a) b)) * (s0 11))) - ((((a 16 b) + ((way * (askF (poM a) b)) * (s0 11))) / (a 2 b)) * (a 2 b))))) (fun i hi => (u2_k (σ := (u2 (u2 a 16 b ((a 16 b) + ((way * (askF (poM a) b)) * (s0 11)))) 15 b (((a 15 b) + (((a 16 b) + ((way * (askF (poM a) b)) * (s0 11))) / (a 2 b))) &&& 63))) (k := 16) (b := b) (x := (((a 16 b) + ((way * (askF (poM a) b)) * (s0 11))) - ((((a 16 b) + ((way * (askF (poM a) b)) * (s0 11))) / (a 2 b)) * (a 2 b)))) (i := 1) (j := i) (by decide)).trans ((fun i hi => (u2_k (σ := (u2 a 16 b ((a 16 b) + ((way * (askF (poM a) b)) * (s0 11))))) (k := 15) (b := b) (x := (((a 15 b) + (((a 16 b) + ((way * (askF (poM a) b)) * (s0 11))) / (a 2 b))) &&& 63)) (i := 1) (j := i) (by decide)).trans ((fun i hi => (u2_k (σ := a) (k := 16) (b := b) (x := ((a 16 b) + ((way * (askF (poM a) b)) * (s0 11)))) (i := 1) (j := i) (by decide)).trans (hc i hi)) i hi)) i hi)) b hb3 hb1) hP hD hS [0, 1, 2, 3, 4, 5, 6, 7, 8, 9, 10, 11, 12, 13, 14, 15, 16, 17, 18, 19, 20] [] [0, 1, 2, 3, 4, 5, 6, 7, 8, 9, 10, 11, 12, 13, 14, 15, 16, 17, 18, 19, 20] [] (wM g ad (s0, (hangA b (u2 (u2 (u2 a 16 b ((a 16 b) + ((way * (askF (poM a) b)) * (s0 11)))) 15 b (((a 15 b) + (((a 16 b) + ((way * (askF (poM a) b)) * (s0 11))) / (a 2 b))) &&& 63)) 16 b (((a 16 b) + ((way * (askF (poM a) b)) * (s0 11))) - ((((a 16 b) + ((way * (askF (poM a) b)) * (s0 11))) / (a 2 b)) * (a 2 b))))))) rfl rfl (by decide) (by decide) (by decide) rfl (by decide) 0 rfl rfl rfl rfl hl.1 (Nat.le_of_ble_eq_true rfl) ⟨Nat.le_of_ble_eq_true rfl, Nat.le_of_ble_eq_true rfl⟩ d_Mo_move_194 ⟨Nat.zero_le _, Nat.zero_le _⟩ (fun H locs hP hD hS => ?_)
          refine lv_iinc (v := (nI (b + 1))) (lv' := [(4, .int (nI (b + 1))), (5, .int (((a 16 b) + ((way * (askF (poM a) b)) * (s0 11))) / (a 2 b))), (3, .int way), (0, .ref (ad 0)), (1, .int turn), (2, .int fw)]) hx hb d_Mo_move_197 hl (k := 1) rfl (nI_1 b) (by decide) rfl (fun ls hl => ?_)
          refine lv_goto (tgt := 92) hx hb d_Mo_move_200 (by decide) ?_
          exact ih (b + 1) (hangA b (mvA1 s0 way b a)) _ _ _ (by omega) (by omega) (by omega) (fun i hi => by rw [hangA_k (by decide) (by decide), mvA1_k (by decide) (by decide)]; exact hc i hi) (fun q hq => by rw [hangA_k (by decide) (by decide), mvA1_k (by decide) (by decide)]; exact hL q hq) (it_back hlt h8 rfl) hP hD hS (lv_sub hl [0, 2, 3, 4, 5] rfl)
    exact l1 (n + 2) 1 (mvA0 s0 turn way a0) _ _ _ (by omega) (by omega) (by omega) (fun i hi => by rw [mvA0_k (by decide) (by decide) (by decide)]; exact hc i hi) (fun b hb => by rw [mvA0_k (by decide) (by decide) (by decide)]; exact hL b hb) hx8 hP hD hS (lv_sub hl [0, 1, 2, 3, 4] rfl)
  refine lv_iload_n hx hb d_Mo_move_0 rfl (lv_at hl 2 rfl) ?_
  refine lv_if_eq (tgt := 8) hx hb d_Mo_move_1 (by decide) (fun c1_7 => ?_) (fun c1_7 => ?_)
  · refine lv_iconst (v := (-1)) hx hb d_Mo_move_8 (by decide) ?_
    refine lv_istore_n (lv' := [(3, .int (-1)), (0, .ref (ad 0)), (1, .int turn), (2, .int fw)]) hx hb d_Mo_move_9 rfl hl (by decide) rfl (fun ls hl => ?_)
    refine K0 _ ?_
    rw [← hway, show sgnI fw = -1 from if_pos c1_7]
    exact lv_sub hl [0, 1, 2, 3] rfl
  · refine lv_iconst (v := 1) hx hb d_Mo_move_4 (by decide) ?_
    refine lv_goto (tgt := 9) hx hb d_Mo_move_5 (by decide) ?_
    refine lv_istore_n (lv' := [(3, .int 1), (0, .ref (ad 0)), (1, .int turn), (2, .int fw)]) hx hb d_Mo_move_9 rfl hl (by decide) rfl (fun ls hl => ?_)
    refine K0 _ ?_
    rw [← hway, show sgnI fw = 1 from if_neg c1_7]
    exact lv_sub hl [0, 1, 2, 3] rfl
set_option maxHeartbeats 4000000 in
set_option maxRecDepth 100000 in
theorem c_Mo_goOn (l : Launch) (g : Glob) (ad : Nat → Nat) (x : MS) (n np : Nat) (hI : InvG n np x) (h3 : n ≤ 3) (h20 : np ≤ 20) (turn sp fw : Int32) (N : Nat) (hN : sp = nI N) (hN6 : N ≤ 1000000) : CV l g y_Mo_goOn b_Mo_goOn 5 5 132 [.ref (ad 0), .int turn, .int sp, .int fw] (wM g ad x) (wM g ad (goM n np turn N fw x)) := by
  refine CV.of (by decide +kernel) (Nat.le_of_ble_eq_true rfl) ?_
  intro p e s m below meth c A Q ls C hP hD hl hret hS
  obtain ⟨hx, hb, hml, hown, hw, hE, hA⟩ := id C
  have hl : lv_has ls 5 [(0, .ref (ad 0)), (1, .int turn), (2, .int sp), (3, .int fw)] := hl
  unfold goM at hret
  generalize h9 : whileF stopM (moveM n np turn (sgnI fw)) N x = x9 at hret
  refine lv_iconst (v := 0) hx hb d_Mo_goOn_0 (by decide) ?_
  refine lv_istore (lv' := [(4, .int 0), (0, .ref (ad 0)), (1, .int turn), (2, .int sp), (3, .int fw)]) hx hb d_Mo_goOn_1 hl (by decide) rfl (fun ls hl => ?_)
  have lp : ∀ (j : Nat) (q : Nat) (x : MS) (H : Heap) (locs : List Loc) (ls : Array Slot), q ≤ N → N < q + j → InvG n np x → whileF stopM (moveM n np turn (sgnI fw)) (N - q) x = x9 → va_P g.1 classes (wM g ad x) H → va_D A (wM g ad x) → va_S A s.heap H locs → lv_has ls 5 [(4, .int (nI q)), (0, .ref (ad 0)), (1, .int turn), (2, .int sp), (3, .int fw)] → W p l e { frames := 5, cells := 0, slots := 0, locals := 132 } s m ([.ref (ad 0), .int turn, .int sp, .int fw] : List Value).toArray below meth c H locs 0 0 Q (F0 m 3 ls []) := by
    intro j
    induction j with
    | zero =>
      intro q x H locs ls hq hj hI h9 hP hD hS hl
      exact absurd trivial (by omega)
    | succ j ih =>
      intro q x H locs ls hq hj hI h9 hP hD hS hl
      refine lv_iload hx hb d_Mo_goOn_3 (lv_at hl 0 rfl) ?_
      refine lv_iload_n hx hb d_Mo_goOn_5 rfl (lv_at hl 3 rfl) ?_
      refine lv_icmp_ge (tgt := 38) hx hb d_Mo_goOn_6 (by decide) (fun c6_1 => ?_) (fun c6_1 => ?_)
      · have h9 := wh_end (ge_of_le' 1000000 hN hN6 (by decide) (by omega) c6_1) h9
        subst h9
        exact hret _ _ _ _ _ rfl hP hD hS d_Mo_goOn_38
      · have hlt := lt_of_nle' 1000000 hN hN6 (by decide) (by omega) c6_1
        refine lv_aload_n hx hb d_Mo_goOn_9 rfl (lv_at hl 1 rfl) ?_
        refine get_mi (x := x) C 25 q_575 rfl (by decide) rfl (x.1 25) rfl hP d_Mo_goOn_10 ?_
        refine lv_if_ne (tgt := 38) hx hb d_Mo_goOn_13 (by decide) (fun c13_2 => ?_) (fun c13_2 => ?_)
        · have h9 := wh_stop (stopM_t1 c13_2) h9
          subst h9
          exact hret _ _ _ _ _ rfl hP hD hS d_Mo_goOn_38
        · refine lv_aload_n hx hb d_Mo_goOn_16 rfl (lv_at hl 1 rfl) ?_
          refine get_mi (x := x) C 24 q_574 rfl (by decide) rfl (x.1 24) rfl hP d_Mo_goOn_17 ?_
          refine lv_sipush (v := 4000) hx hb d_Mo_goOn_20 (by decide) ?_
          refine lv_icmp_ge (tgt := 38) hx hb d_Mo_goOn_23 (by decide) (fun c23_3 => ?_) (fun c23_3 => ?_)
          · have h9 := wh_stop (stopM_t2 c23_3) h9
            subst h9
            exact hret _ _ _ _ _ rfl hP hD hS d_Mo_goOn_38
          · refine lv_aload_n hx hb d_Mo_goOn_26 rfl (lv_at hl 1 rfl) ?_
            refine lv_iload_n hx hb d_Mo_goOn_27 rfl (lv_at hl 2 rfl) ?_
            refine lv_iload_n hx hb d_Mo_goOn_28 rfl (lv_at hl 4 rfl) ?_
            refine cvV C v_Mo_148 [.int turn, .int fw] [] (c_Mo_move l g ad x n np hI.1 hI.2.1 hI.2.2.1 hI.2.2.2.1 (lt4000 c23_3) hI.2.2.2.2 h3 h20 turn fw) hP hD hS [0, 1, 2, 3, 4, 5, 6, 7, 8, 9, 10, 11, 12, 13, 14, 15, 16, 17, 18, 19, 20] [] [0, 1, 2, 3, 4, 5, 6, 7, 8, 9, 10, 11, 12, 13, 14, 15, 16, 17, 18, 19, 20] [] (wM g ad (moveM n np turn (sgnI fw) x)) rfl rfl (by decide) (by decide) (by decide) rfl (by decide) 0 rfl rfl rfl rfl hl.1 (Nat.le_of_ble_eq_true rfl) ⟨Nat.le_of_ble_eq_true rfl, Nat.le_of_ble_eq_true rfl⟩ d_Mo_goOn_29 ⟨Nat.zero_le _, Nat.zero_le _⟩ (fun H locs hP hD hS => ?_)
            refine lv_iinc (v := (nI (q + 1))) (lv' := [(4, .int (nI (q + 1))), (0, .ref (ad 0)), (1, .int turn), (2, .int sp), (3, .int fw)]) hx hb d_Mo_goOn_32 hl (k := 0) rfl (nI_1 q) (by decide) rfl (fun ls hl => ?_)
            refine lv_goto (tgt := 3) hx hb d_Mo_goOn_35 (by decide) ?_
            exact ih (q + 1) _ _ _ _ (by omega) (by omega) (moveM_inv hI (lt4000 c23_3)) (wh_back hlt (stopM_f c13_2 c23_3) h9 rfl) hP hD hS (lv_sub hl [0, 1, 2, 3, 4] rfl)
  exact lp (N + 1) 0 x _ _ _ (by omega) (by omega) hI h9 hP hD hS (lv_sub hl [0, 1, 2, 3, 4] rfl)
end
