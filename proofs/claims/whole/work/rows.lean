section
-- ===== PART A: goes FIRST, ahead of the names: the tables' words, and 'selects' of the private methods out of them =====
/-- a private method of a class that the tables say can be made, by its rows of tables_1 -/
def lw_okq (q : MethodName × Nat) : Prop := (q.1.cls ≠ "java/lang/invoke/MethodHandle" ∧ q.1.cls ≠ "java/lang/invoke/VarHandle") ∧ Cond.instantiable q.1.cls q.2 ∈ tables_1 ∧ Cond.privateMethod q.1 ∈ tables_1 ∧ Cond.instanceMethod q.1 ∈ tables_1
theorem lw_p0 : lw_okq (⟨"java/lang/Throwable", "fillInStackTrace", "(I)Ljava/lang/Throwable;"⟩, 6) := ⟨⟨by decide +kernel, by decide +kernel⟩, List.mem_of_getElem? (i := 285) (by decide +kernel), List.mem_of_getElem? (i := 283) (by decide +kernel), List.mem_of_getElem? (i := 284) (by decide +kernel)⟩
theorem lw_p1 : lw_okq (⟨"SweptPaths$Run", "placeTrailers", "()V"⟩, 8) := ⟨⟨by decide +kernel, by decide +kernel⟩, List.mem_of_getElem? (i := 106) (by decide +kernel), List.mem_of_getElem? (i := 342) (by decide +kernel), List.mem_of_getElem? (i := 343) (by decide +kernel)⟩
theorem lw_p2 : lw_okq (⟨"SweptPaths$Run", "lookRound", "()V"⟩, 8) := ⟨⟨by decide +kernel, by decide +kernel⟩, List.mem_of_getElem? (i := 106) (by decide +kernel), List.mem_of_getElem? (i := 354) (by decide +kernel), List.mem_of_getElem? (i := 355) (by decide +kernel)⟩
theorem lw_p3 : lw_okq (⟨"SweptPaths$Cells", "mark", "(II)V"⟩, 2) := ⟨⟨by decide +kernel, by decide +kernel⟩, List.mem_of_getElem? (i := 142) (by decide +kernel), List.mem_of_getElem? (i := 391) (by decide +kernel), List.mem_of_getElem? (i := 392) (by decide +kernel)⟩
theorem lw_p4 : lw_okq (⟨"SweptPaths$Run", "lookForPoles", "(I)V"⟩, 8) := ⟨⟨by decide +kernel, by decide +kernel⟩, List.mem_of_getElem? (i := 106) (by decide +kernel), List.mem_of_getElem? (i := 396) (by decide +kernel), List.mem_of_getElem? (i := 397) (by decide +kernel)⟩
theorem lw_p5 : lw_okq (⟨"SweptPaths", "demandSomeBody", "()V"⟩, 4) := ⟨⟨by decide +kernel, by decide +kernel⟩, List.mem_of_getElem? (i := 18) (by decide +kernel), List.mem_of_getElem? (i := 430) (by decide +kernel), List.mem_of_getElem? (i := 431) (by decide +kernel)⟩
theorem lw_p6 : lw_okq (⟨"SweptPaths$Run", "move", "(II)V"⟩, 8) := ⟨⟨by decide +kernel, by decide +kernel⟩, List.mem_of_getElem? (i := 106) (by decide +kernel), List.mem_of_getElem? (i := 439) (by decide +kernel), List.mem_of_getElem? (i := 440) (by decide +kernel)⟩
theorem lw_p7 : lw_okq (⟨"SweptPaths$Run", "swing", "(II)V"⟩, 8) := ⟨⟨by decide +kernel, by decide +kernel⟩, List.mem_of_getElem? (i := 106) (by decide +kernel), List.mem_of_getElem? (i := 446) (by decide +kernel), List.mem_of_getElem? (i := 447) (by decide +kernel)⟩
theorem lw_p8 : lw_okq (⟨"SweptPaths$Run", "measureAskew", "()V"⟩, 8) := ⟨⟨by decide +kernel, by decide +kernel⟩, List.mem_of_getElem? (i := 106) (by decide +kernel), List.mem_of_getElem? (i := 461) (by decide +kernel), List.mem_of_getElem? (i := 462) (by decide +kernel)⟩
theorem lw_p9 : lw_okq (⟨"SweptPathsModel", "beginAnew", "()V"⟩, 33) := ⟨⟨by decide +kernel, by decide +kernel⟩, List.mem_of_getElem? (i := 545) (by decide +kernel), List.mem_of_getElem? (i := 662) (by decide +kernel), List.mem_of_getElem? (i := 663) (by decide +kernel)⟩
theorem lw_p10 : lw_okq (⟨"SweptPathsModel", "hang", "(I)V"⟩, 33) := ⟨⟨by decide +kernel, by decide +kernel⟩, List.mem_of_getElem? (i := 545) (by decide +kernel), List.mem_of_getElem? (i := 666) (by decide +kernel), List.mem_of_getElem? (i := 667) (by decide +kernel)⟩
theorem lw_p11 : lw_okq (⟨"SweptPathsModel", "dx", "(I)I"⟩, 33) := ⟨⟨by decide +kernel, by decide +kernel⟩, List.mem_of_getElem? (i := 545) (by decide +kernel), List.mem_of_getElem? (i := 670) (by decide +kernel), List.mem_of_getElem? (i := 671) (by decide +kernel)⟩
theorem lw_p12 : lw_okq (⟨"SweptPathsModel", "dy", "(I)I"⟩, 33) := ⟨⟨by decide +kernel, by decide +kernel⟩, List.mem_of_getElem? (i := 545) (by decide +kernel), List.mem_of_getElem? (i := 674) (by decide +kernel), List.mem_of_getElem? (i := 675) (by decide +kernel)⟩
theorem lw_p13 : lw_okq (⟨"SweptPathsModel", "look", "()V"⟩, 33) := ⟨⟨by decide +kernel, by decide +kernel⟩, List.mem_of_getElem? (i := 545) (by decide +kernel), List.mem_of_getElem? (i := 678) (by decide +kernel), List.mem_of_getElem? (i := 679) (by decide +kernel)⟩
theorem lw_p14 : lw_okq (⟨"SweptPathsModel", "covers", "(III)Z"⟩, 33) := ⟨⟨by decide +kernel, by decide +kernel⟩, List.mem_of_getElem? (i := 545) (by decide +kernel), List.mem_of_getElem? (i := 691) (by decide +kernel), List.mem_of_getElem? (i := 692) (by decide +kernel)⟩
theorem lw_p15 : lw_okq (⟨"SweptPathsModel", "goOn", "(IIZ)V"⟩, 33) := ⟨⟨by decide +kernel, by decide +kernel⟩, List.mem_of_getElem? (i := 545) (by decide +kernel), List.mem_of_getElem? (i := 712) (by decide +kernel), List.mem_of_getElem? (i := 713) (by decide +kernel)⟩
def lw_privs_1 : List (MethodName × Nat) := [(⟨"java/lang/Throwable", "fillInStackTrace", "(I)Ljava/lang/Throwable;"⟩, 6), (⟨"SweptPaths$Run", "placeTrailers", "()V"⟩, 8), (⟨"SweptPaths$Run", "lookRound", "()V"⟩, 8), (⟨"SweptPaths$Cells", "mark", "(II)V"⟩, 2), (⟨"SweptPaths$Run", "lookForPoles", "(I)V"⟩, 8), (⟨"SweptPaths", "demandSomeBody", "()V"⟩, 4), (⟨"SweptPaths$Run", "move", "(II)V"⟩, 8), (⟨"SweptPaths$Run", "swing", "(II)V"⟩, 8), (⟨"SweptPaths$Run", "measureAskew", "()V"⟩, 8), (⟨"SweptPathsModel", "beginAnew", "()V"⟩, 33), (⟨"SweptPathsModel", "hang", "(I)V"⟩, 33), (⟨"SweptPathsModel", "dx", "(I)I"⟩, 33), (⟨"SweptPathsModel", "dy", "(I)I"⟩, 33), (⟨"SweptPathsModel", "look", "()V"⟩, 33), (⟨"SweptPathsModel", "covers", "(III)Z"⟩, 33), (⟨"SweptPathsModel", "goOn", "(IIZ)V"⟩, 33)]
theorem lw_r1 : ∀ q ∈ lw_privs_1, lw_okq q := List.forall_mem_cons.mpr ⟨lw_p0, List.forall_mem_cons.mpr ⟨lw_p1, List.forall_mem_cons.mpr ⟨lw_p2, List.forall_mem_cons.mpr ⟨lw_p3, List.forall_mem_cons.mpr ⟨lw_p4, List.forall_mem_cons.mpr ⟨lw_p5, List.forall_mem_cons.mpr ⟨lw_p6, List.forall_mem_cons.mpr ⟨lw_p7, List.forall_mem_cons.mpr ⟨lw_p8, List.forall_mem_cons.mpr ⟨lw_p9, List.forall_mem_cons.mpr ⟨lw_p10, List.forall_mem_cons.mpr ⟨lw_p11, List.forall_mem_cons.mpr ⟨lw_p12, List.forall_mem_cons.mpr ⟨lw_p13, List.forall_mem_cons.mpr ⟨lw_p14, List.forall_mem_cons.mpr ⟨lw_p15, fun _ h => absurd h List.not_mem_nil⟩⟩⟩⟩⟩⟩⟩⟩⟩⟩⟩⟩⟩⟩⟩⟩
theorem lw_p16 : lw_okq (⟨"SweptPathsModel", "move", "(IZ)V"⟩, 33) := ⟨⟨by decide +kernel, by decide +kernel⟩, List.mem_of_getElem? (i := 545) (by decide +kernel), List.mem_of_getElem? (i := 716) (by decide +kernel), List.mem_of_getElem? (i := 717) (by decide +kernel)⟩
theorem lw_p17 : lw_okq (⟨"SweptPathsModel", "askewOf", "(I)I"⟩, 33) := ⟨⟨by decide +kernel, by decide +kernel⟩, List.mem_of_getElem? (i := 545) (by decide +kernel), List.mem_of_getElem? (i := 720) (by decide +kernel), List.mem_of_getElem? (i := 721) (by decide +kernel)⟩
theorem lw_p18 : lw_okq (⟨"SweptPathsModel", "keepAside", "()V"⟩, 33) := ⟨⟨by decide +kernel, by decide +kernel⟩, List.mem_of_getElem? (i := 545) (by decide +kernel), List.mem_of_getElem? (i := 763) (by decide +kernel), List.mem_of_getElem? (i := 764) (by decide +kernel)⟩
theorem lw_p19 : lw_okq (⟨"SweptPathsModel", "goPlan", "(I)V"⟩, 33) := ⟨⟨by decide +kernel, by decide +kernel⟩, List.mem_of_getElem? (i := 545) (by decide +kernel), List.mem_of_getElem? (i := 767) (by decide +kernel), List.mem_of_getElem? (i := 768) (by decide +kernel)⟩
theorem lw_p20 : lw_okq (⟨"SweptPathsModel", "putBack", "()V"⟩, 33) := ⟨⟨by decide +kernel, by decide +kernel⟩, List.mem_of_getElem? (i := 545) (by decide +kernel), List.mem_of_getElem? (i := 771) (by decide +kernel), List.mem_of_getElem? (i := 772) (by decide +kernel)⟩
def lw_privs_2 : List (MethodName × Nat) := [(⟨"SweptPathsModel", "move", "(IZ)V"⟩, 33), (⟨"SweptPathsModel", "askewOf", "(I)I"⟩, 33), (⟨"SweptPathsModel", "keepAside", "()V"⟩, 33), (⟨"SweptPathsModel", "goPlan", "(I)V"⟩, 33), (⟨"SweptPathsModel", "putBack", "()V"⟩, 33)]
theorem lw_r2 : ∀ q ∈ lw_privs_2, lw_okq q := List.forall_mem_cons.mpr ⟨lw_p16, List.forall_mem_cons.mpr ⟨lw_p17, List.forall_mem_cons.mpr ⟨lw_p18, List.forall_mem_cons.mpr ⟨lw_p19, List.forall_mem_cons.mpr ⟨lw_p20, fun _ h => absurd h List.not_mem_nil⟩⟩⟩⟩⟩
def lw_privs : List (MethodName × Nat) := lw_privs_1 ++ (lw_privs_2)
def lw_tbl : List Cond := k2_sels lw_privs ++ tables_1
theorem lw_privs_ok : ∀ q ∈ lw_privs, lw_okq q := by
  show ∀ q ∈ lw_privs_1 ++ (lw_privs_2), lw_okq q
  exact List.forall_mem_append.mpr ⟨lw_r1, lw_r2⟩

/-- the tables' words that a call carries on -/
def W0 : List Cond := lw_tbl.filter goodWord
theorem W0_tab {w : Cond} (i : Nat) (h : tables_1[i]? = some w) (g : goodWord w = true) : w ∈ W0 := List.mem_filter.mpr ⟨List.mem_append_right _ (List.mem_of_getElem? h), g⟩
theorem W0_sel {w : Cond} (i : Nat) (h : (k2_sels lw_privs)[i]? = some w) (g : goodWord w = true) : w ∈ W0 := List.mem_filter.mpr ⟨List.mem_append_left _ (List.mem_of_getElem? h), g⟩
theorem W0_in : ∀ w ∈ W0, w ∈ lw_tbl := fun _ h => (List.mem_filter.mp h).1
theorem W0_good : GoodIn W0 W0 := fun _ h => ⟨h, good_of_word (List.mem_filter.mp h).2⟩
theorem W0_goodL {l : List Cond} (h : ∀ w ∈ l, w ∈ W0) : GoodIn W0 l := fun w hw => W0_good w (h w hw)
theorem all_nil {p : Cond → Prop} : ∀ w ∈ ([] : List Cond), p w := fun _ h => absurd h List.not_mem_nil
theorem all_cons {p : Cond → Prop} {a : Cond} {l : List Cond} (h : p a) (t : ∀ w ∈ l, p w) : ∀ w ∈ a :: l, p w := List.forall_mem_cons.mpr ⟨h, t⟩

theorem q_0 : (Jvm.Cond.initialized "SweptPathsLaw") ∈ W0 := W0_tab 0 (by decide +kernel) (by decide +kernel)
theorem q_1 : (Jvm.Cond.initialized "SweptPaths") ∈ W0 := W0_tab 1 (by decide +kernel) (by decide +kernel)
theorem q_2 : (Jvm.Cond.initialized "SweptPaths$Setting") ∈ W0 := W0_tab 2 (by decide +kernel) (by decide +kernel)
theorem q_3 : (Jvm.Cond.initialized "SweptPaths$Shape") ∈ W0 := W0_tab 3 (by decide +kernel) (by decide +kernel)
theorem q_4 : (Jvm.Cond.initialized "SweptPaths$Run") ∈ W0 := W0_tab 4 (by decide +kernel) (by decide +kernel)
theorem q_5 : (Jvm.Cond.initialized "SweptPaths$Pose") ∈ W0 := W0_tab 5 (by decide +kernel) (by decide +kernel)
theorem q_6 : (Jvm.Cond.initialized "SweptPaths$Cells") ∈ W0 := W0_tab 6 (by decide +kernel) (by decide +kernel)
theorem q_7 : (Jvm.Cond.initialized "SweptPaths$Plan") ∈ W0 := W0_tab 7 (by decide +kernel) (by decide +kernel)
theorem q_8 : (Jvm.Cond.initialized "SweptPathsModel") ∈ W0 := W0_tab 8 (by decide +kernel) (by decide +kernel)
theorem q_9 : (Jvm.Cond.initialized "java/lang/Throwable") ∈ W0 := W0_tab 9 (by decide +kernel) (by decide +kernel)
theorem q_10 : (Jvm.Cond.initialized "java/lang/Exception") ∈ W0 := W0_tab 10 (by decide +kernel) (by decide +kernel)
theorem q_11 : (Jvm.Cond.initialized "java/lang/RuntimeException") ∈ W0 := W0_tab 11 (by decide +kernel) (by decide +kernel)
theorem q_12 : (Jvm.Cond.initialized "java/lang/IllegalArgumentException") ∈ W0 := W0_tab 12 (by decide +kernel) (by decide +kernel)
theorem q_13 : (Jvm.Cond.initialized "java/lang/IllegalStateException") ∈ W0 := W0_tab 13 (by decide +kernel) (by decide +kernel)
theorem q_14 : (Jvm.Cond.initialized "java/util/Arrays") ∈ W0 := W0_tab 14 (by decide +kernel) (by decide +kernel)
theorem q_15 : (Jvm.Cond.initialized "SweptPaths$Directions") ∈ W0 := W0_tab 15 (by decide +kernel) (by decide +kernel)
theorem q_16 : (Jvm.Cond.initialized "java/lang/Math") ∈ W0 := W0_tab 16 (by decide +kernel) (by decide +kernel)
theorem q_17 : (Jvm.Cond.classLink "SweptPathsLaw" (8 : Nat) "SweptPaths") ∈ W0 := W0_tab 17 (by decide +kernel) (by decide +kernel)
theorem q_18 : (Jvm.Cond.instantiable "SweptPaths" (4 : Nat)) ∈ W0 := W0_tab 18 (by decide +kernel) (by decide +kernel)
theorem q_19 : (Jvm.Cond.methodLink "SweptPathsLaw" (61 : Nat) ({ cls := "SweptPaths", name := "<init>", desc := "()V" } : Jvm.MethodName)) ∈ W0 := W0_tab 19 (by decide +kernel) (by decide +kernel)
theorem q_20 : (Jvm.Cond.instanceMethod ({ cls := "SweptPaths", name := "<init>", desc := "()V" } : Jvm.MethodName)) ∈ W0 := W0_tab 20 (by decide +kernel) (by decide +kernel)
set_option maxRecDepth 20000 in
theorem q_21 : (Jvm.Cond.code ({ cls := "SweptPaths", name := "<init>", desc := "()V" } : Jvm.MethodName) prog_1_method_1_code (2 : Nat) (Option.none : Option Jvm.ClassFile.FieldType)) ∈ W0 := W0_tab 21 (by rfl) (by decide +kernel)
theorem q_22 : (Jvm.Cond.methodLink "SweptPaths" (1 : Nat) ({ cls := "java/lang/Object", name := "<init>", desc := "()V" } : Jvm.MethodName)) ∈ W0 := W0_tab 22 (by decide +kernel) (by decide +kernel)
theorem q_23 : (Jvm.Cond.instanceMethod ({ cls := "java/lang/Object", name := "<init>", desc := "()V" } : Jvm.MethodName)) ∈ W0 := W0_tab 23 (by decide +kernel) (by decide +kernel)
set_option maxRecDepth 20000 in
theorem q_24 : (Jvm.Cond.code ({ cls := "java/lang/Object", name := "<init>", desc := "()V" } : Jvm.MethodName) object_method_1_code (1 : Nat) (Option.none : Option Jvm.ClassFile.FieldType)) ∈ W0 := W0_tab 24 (by rfl) (by decide +kernel)
theorem q_25 : (Jvm.Cond.classLink "SweptPaths" (7 : Nat) "SweptPaths$Setting") ∈ W0 := W0_tab 25 (by decide +kernel) (by decide +kernel)
theorem q_26 : (Jvm.Cond.instantiable "SweptPaths$Setting" (9 : Nat)) ∈ W0 := W0_tab 26 (by decide +kernel) (by decide +kernel)
theorem q_28 : (Jvm.Cond.instanceMethod ({ cls := "SweptPaths$Setting", name := "<init>", desc := "()V" } : Jvm.MethodName)) ∈ W0 := W0_tab 28 (by decide +kernel) (by decide +kernel)
set_option maxRecDepth 20000 in
theorem q_29 : (Jvm.Cond.code ({ cls := "SweptPaths$Setting", name := "<init>", desc := "()V" } : Jvm.MethodName) prog_7_method_1_code (1 : Nat) (Option.none : Option Jvm.ClassFile.FieldType)) ∈ W0 := W0_tab 29 (by rfl) (by decide +kernel)
theorem q_30 : (Jvm.Cond.methodLink "SweptPaths$Setting" (3 : Nat) ({ cls := "java/lang/Object", name := "<init>", desc := "()V" } : Jvm.MethodName)) ∈ W0 := W0_tab 30 (by decide +kernel) (by decide +kernel)
theorem q_31 : (Jvm.Cond.classLink "SweptPaths$Setting" (9 : Nat) "SweptPaths$Shape") ∈ W0 := W0_tab 31 (by decide +kernel) (by decide +kernel)
theorem q_33 : (Jvm.Cond.instantiable "SweptPaths$Shape" (5 : Nat)) ∈ W0 := W0_tab 33 (by decide +kernel) (by decide +kernel)
theorem q_35 : (Jvm.Cond.instanceMethod ({ cls := "SweptPaths$Shape", name := "<init>", desc := "()V" } : Jvm.MethodName)) ∈ W0 := W0_tab 35 (by decide +kernel) (by decide +kernel)
set_option maxRecDepth 20000 in
theorem q_36 : (Jvm.Cond.code ({ cls := "SweptPaths$Shape", name := "<init>", desc := "()V" } : Jvm.MethodName) prog_8_method_1_code (1 : Nat) (Option.none : Option Jvm.ClassFile.FieldType)) ∈ W0 := W0_tab 36 (by rfl) (by decide +kernel)
theorem q_37 : (Jvm.Cond.methodLink "SweptPaths$Shape" (3 : Nat) ({ cls := "java/lang/Object", name := "<init>", desc := "()V" } : Jvm.MethodName)) ∈ W0 := W0_tab 37 (by decide +kernel) (by decide +kernel)
theorem q_38 : (Jvm.Cond.fieldLink "SweptPaths$Shape" (9 : Nat) "SweptPaths$Shape" "length" "I") ∈ W0 := W0_tab 38 (by decide +kernel) (by decide +kernel)
theorem q_39 : (Jvm.Cond.fieldLink "SweptPaths" (54 : Nat) "SweptPaths$Shape" "length" "I") ∈ W0 := W0_tab 39 (by decide +kernel) (by decide +kernel)
theorem q_40 : (Jvm.Cond.fieldLink "SweptPaths$Run" (148 : Nat) "SweptPaths$Shape" "length" "I") ∈ W0 := W0_tab 40 (by decide +kernel) (by decide +kernel)
theorem q_41 : (Jvm.Cond.fieldLink "SweptPaths" (59 : Nat) "SweptPaths$Shape" "hitch" "I") ∈ W0 := W0_tab 41 (by decide +kernel) (by decide +kernel)
theorem q_42 : (Jvm.Cond.fieldLink "SweptPaths$Run" (151 : Nat) "SweptPaths$Shape" "hitch" "I") ∈ W0 := W0_tab 42 (by decide +kernel) (by decide +kernel)
theorem q_43 : (Jvm.Cond.fieldLink "SweptPaths$Shape" (20 : Nat) "SweptPaths$Shape" "front" "I") ∈ W0 := W0_tab 43 (by decide +kernel) (by decide +kernel)
theorem q_44 : (Jvm.Cond.fieldLink "SweptPaths" (62 : Nat) "SweptPaths$Shape" "front" "I") ∈ W0 := W0_tab 44 (by decide +kernel) (by decide +kernel)
theorem q_45 : (Jvm.Cond.fieldLink "SweptPaths$Cells" (39 : Nat) "SweptPaths$Shape" "front" "I") ∈ W0 := W0_tab 45 (by decide +kernel) (by decide +kernel)
theorem q_46 : (Jvm.Cond.fieldLink "SweptPaths$Shape" (15 : Nat) "SweptPaths$Shape" "rear" "I") ∈ W0 := W0_tab 46 (by decide +kernel) (by decide +kernel)
theorem q_47 : (Jvm.Cond.fieldLink "SweptPaths" (65 : Nat) "SweptPaths$Shape" "rear" "I") ∈ W0 := W0_tab 47 (by decide +kernel) (by decide +kernel)
theorem q_48 : (Jvm.Cond.fieldLink "SweptPaths$Cells" (44 : Nat) "SweptPaths$Shape" "rear" "I") ∈ W0 := W0_tab 48 (by decide +kernel) (by decide +kernel)
theorem q_49 : (Jvm.Cond.fieldLink "SweptPaths$Shape" (23 : Nat) "SweptPaths$Shape" "half" "I") ∈ W0 := W0_tab 49 (by decide +kernel) (by decide +kernel)
theorem q_50 : (Jvm.Cond.fieldLink "SweptPaths" (68 : Nat) "SweptPaths$Shape" "half" "I") ∈ W0 := W0_tab 50 (by decide +kernel) (by decide +kernel)
theorem q_51 : (Jvm.Cond.fieldLink "SweptPaths$Cells" (47 : Nat) "SweptPaths$Shape" "half" "I") ∈ W0 := W0_tab 51 (by decide +kernel) (by decide +kernel)
theorem q_52 : (Jvm.Cond.lays "SweptPaths$Shape" "SweptPaths$Shape" "length" "I") ∈ W0 := W0_tab 52 (by decide +kernel) (by decide +kernel)
theorem q_54 : (Jvm.Cond.lays "SweptPaths$Shape" "SweptPaths$Shape" "hitch" "I") ∈ W0 := W0_tab 54 (by decide +kernel) (by decide +kernel)
theorem q_56 : (Jvm.Cond.lays "SweptPaths$Shape" "SweptPaths$Shape" "front" "I") ∈ W0 := W0_tab 56 (by decide +kernel) (by decide +kernel)
theorem q_58 : (Jvm.Cond.lays "SweptPaths$Shape" "SweptPaths$Shape" "rear" "I") ∈ W0 := W0_tab 58 (by decide +kernel) (by decide +kernel)
theorem q_60 : (Jvm.Cond.lays "SweptPaths$Shape" "SweptPaths$Shape" "half" "I") ∈ W0 := W0_tab 60 (by decide +kernel) (by decide +kernel)
theorem q_63 : (Jvm.Cond.fieldLink "SweptPaths$Setting" (12 : Nat) "SweptPaths$Setting" "shapes" "[LSweptPaths$Shape;") ∈ W0 := W0_tab 63 (by decide +kernel) (by decide +kernel)
theorem q_64 : (Jvm.Cond.fieldLink "SweptPaths" (50 : Nat) "SweptPaths$Setting" "shapes" "[LSweptPaths$Shape;") ∈ W0 := W0_tab 64 (by decide +kernel) (by decide +kernel)
theorem q_65 : (Jvm.Cond.fieldLink "SweptPaths$Run" (136 : Nat) "SweptPaths$Setting" "shapes" "[LSweptPaths$Shape;") ∈ W0 := W0_tab 65 (by decide +kernel) (by decide +kernel)
theorem q_66 : (Jvm.Cond.fieldLink "SweptPaths$Setting" (18 : Nat) "SweptPaths$Setting" "poleX" "[I") ∈ W0 := W0_tab 66 (by decide +kernel) (by decide +kernel)
theorem q_67 : (Jvm.Cond.fieldLink "SweptPaths" (93 : Nat) "SweptPaths$Setting" "poleX" "[I") ∈ W0 := W0_tab 67 (by decide +kernel) (by decide +kernel)
theorem q_68 : (Jvm.Cond.fieldLink "SweptPaths$Run" (173 : Nat) "SweptPaths$Setting" "poleX" "[I") ∈ W0 := W0_tab 68 (by decide +kernel) (by decide +kernel)
theorem q_69 : (Jvm.Cond.fieldLink "SweptPaths$Setting" (22 : Nat) "SweptPaths$Setting" "poleY" "[I") ∈ W0 := W0_tab 69 (by decide +kernel) (by decide +kernel)
theorem q_70 : (Jvm.Cond.fieldLink "SweptPaths" (97 : Nat) "SweptPaths$Setting" "poleY" "[I") ∈ W0 := W0_tab 70 (by decide +kernel) (by decide +kernel)
theorem q_71 : (Jvm.Cond.fieldLink "SweptPaths$Run" (176 : Nat) "SweptPaths$Setting" "poleY" "[I") ∈ W0 := W0_tab 71 (by decide +kernel) (by decide +kernel)
theorem q_72 : (Jvm.Cond.fieldLink "SweptPaths$Run" (49 : Nat) "SweptPaths$Setting" "bodies" "I") ∈ W0 := W0_tab 72 (by decide +kernel) (by decide +kernel)
theorem q_73 : (Jvm.Cond.fieldLink "SweptPaths" (39 : Nat) "SweptPaths$Setting" "bodies" "I") ∈ W0 := W0_tab 73 (by decide +kernel) (by decide +kernel)
theorem q_74 : (Jvm.Cond.fieldLink "SweptPaths" (88 : Nat) "SweptPaths$Setting" "poles" "I") ∈ W0 := W0_tab 74 (by decide +kernel) (by decide +kernel)
theorem q_75 : (Jvm.Cond.fieldLink "SweptPaths$Run" (170 : Nat) "SweptPaths$Setting" "poles" "I") ∈ W0 := W0_tab 75 (by decide +kernel) (by decide +kernel)
theorem q_76 : (Jvm.Cond.fieldLink "SweptPaths$Run" (66 : Nat) "SweptPaths$Setting" "startX" "I") ∈ W0 := W0_tab 76 (by decide +kernel) (by decide +kernel)
theorem q_77 : (Jvm.Cond.fieldLink "SweptPaths" (76 : Nat) "SweptPaths$Setting" "startX" "I") ∈ W0 := W0_tab 77 (by decide +kernel) (by decide +kernel)
theorem q_78 : (Jvm.Cond.fieldLink "SweptPaths$Run" (72 : Nat) "SweptPaths$Setting" "startY" "I") ∈ W0 := W0_tab 78 (by decide +kernel) (by decide +kernel)
theorem q_79 : (Jvm.Cond.fieldLink "SweptPaths" (79 : Nat) "SweptPaths$Setting" "startY" "I") ∈ W0 := W0_tab 79 (by decide +kernel) (by decide +kernel)
theorem q_80 : (Jvm.Cond.fieldLink "SweptPaths$Run" (54 : Nat) "SweptPaths$Setting" "startHeading" "I") ∈ W0 := W0_tab 80 (by decide +kernel) (by decide +kernel)
theorem q_81 : (Jvm.Cond.fieldLink "SweptPaths" (82 : Nat) "SweptPaths$Setting" "startHeading" "I") ∈ W0 := W0_tab 81 (by decide +kernel) (by decide +kernel)
theorem q_82 : (Jvm.Cond.fieldLink "SweptPaths$Setting" (25 : Nat) "SweptPaths$Setting" "stepLength" "I") ∈ W0 := W0_tab 82 (by decide +kernel) (by decide +kernel)
theorem q_83 : (Jvm.Cond.fieldLink "SweptPaths" (85 : Nat) "SweptPaths$Setting" "stepLength" "I") ∈ W0 := W0_tab 83 (by decide +kernel) (by decide +kernel)
theorem q_84 : (Jvm.Cond.fieldLink "SweptPaths$Run" (107 : Nat) "SweptPaths$Setting" "stepLength" "I") ∈ W0 := W0_tab 84 (by decide +kernel) (by decide +kernel)
theorem q_85 : (Jvm.Cond.laysFinal "SweptPaths$Setting" "SweptPaths$Setting" "shapes" "[LSweptPaths$Shape;") ∈ W0 := W0_tab 85 (by decide +kernel) (by decide +kernel)
theorem q_87 : (Jvm.Cond.laysFinal "SweptPaths$Setting" "SweptPaths$Setting" "poleX" "[I") ∈ W0 := W0_tab 87 (by decide +kernel) (by decide +kernel)
theorem q_89 : (Jvm.Cond.laysFinal "SweptPaths$Setting" "SweptPaths$Setting" "poleY" "[I") ∈ W0 := W0_tab 89 (by decide +kernel) (by decide +kernel)
theorem q_91 : (Jvm.Cond.lays "SweptPaths$Setting" "SweptPaths$Setting" "bodies" "I") ∈ W0 := W0_tab 91 (by decide +kernel) (by decide +kernel)
theorem q_93 : (Jvm.Cond.lays "SweptPaths$Setting" "SweptPaths$Setting" "poles" "I") ∈ W0 := W0_tab 93 (by decide +kernel) (by decide +kernel)
theorem q_95 : (Jvm.Cond.lays "SweptPaths$Setting" "SweptPaths$Setting" "startX" "I") ∈ W0 := W0_tab 95 (by decide +kernel) (by decide +kernel)
theorem q_97 : (Jvm.Cond.lays "SweptPaths$Setting" "SweptPaths$Setting" "startY" "I") ∈ W0 := W0_tab 97 (by decide +kernel) (by decide +kernel)
theorem q_99 : (Jvm.Cond.lays "SweptPaths$Setting" "SweptPaths$Setting" "startHeading" "I") ∈ W0 := W0_tab 99 (by decide +kernel) (by decide +kernel)
theorem q_101 : (Jvm.Cond.lays "SweptPaths$Setting" "SweptPaths$Setting" "stepLength" "I") ∈ W0 := W0_tab 101 (by decide +kernel) (by decide +kernel)
theorem q_104 : (Jvm.Cond.arrayClass Jvm.ClassFile.FieldType.int) ∈ W0 := W0_tab 104 (by decide +kernel) (by decide +kernel)
theorem q_105 : (Jvm.Cond.classLink "SweptPaths" (16 : Nat) "SweptPaths$Run") ∈ W0 := W0_tab 105 (by decide +kernel) (by decide +kernel)
theorem q_106 : (Jvm.Cond.instantiable "SweptPaths$Run" (8 : Nat)) ∈ W0 := W0_tab 106 (by decide +kernel) (by decide +kernel)
theorem q_107 : (Jvm.Cond.methodLink "SweptPaths" (18 : Nat) ({ cls := "SweptPaths$Run", name := "<init>", desc := "(LSweptPaths$Setting;)V" } : Jvm.MethodName)) ∈ W0 := W0_tab 107 (by decide +kernel) (by decide +kernel)
theorem q_108 : (Jvm.Cond.instanceMethod ({ cls := "SweptPaths$Run", name := "<init>", desc := "(LSweptPaths$Setting;)V" } : Jvm.MethodName)) ∈ W0 := W0_tab 108 (by decide +kernel) (by decide +kernel)
set_option maxRecDepth 20000 in
theorem q_109 : (Jvm.Cond.code ({ cls := "SweptPaths$Run", name := "<init>", desc := "(LSweptPaths$Setting;)V" } : Jvm.MethodName) prog_6_method_1_code (2 : Nat) (Option.none : Option Jvm.ClassFile.FieldType)) ∈ W0 := W0_tab 109 (by rfl) (by decide +kernel)
theorem q_110 : (Jvm.Cond.methodLink "SweptPaths$Run" (3 : Nat) ({ cls := "java/lang/Object", name := "<init>", desc := "()V" } : Jvm.MethodName)) ∈ W0 := W0_tab 110 (by decide +kernel) (by decide +kernel)
theorem q_111 : (Jvm.Cond.classLink "SweptPaths$Run" (9 : Nat) "SweptPaths$Pose") ∈ W0 := W0_tab 111 (by decide +kernel) (by decide +kernel)
theorem q_113 : (Jvm.Cond.instantiable "SweptPaths$Pose" (5 : Nat)) ∈ W0 := W0_tab 113 (by decide +kernel) (by decide +kernel)
theorem q_115 : (Jvm.Cond.instanceMethod ({ cls := "SweptPaths$Pose", name := "<init>", desc := "()V" } : Jvm.MethodName)) ∈ W0 := W0_tab 115 (by decide +kernel) (by decide +kernel)
set_option maxRecDepth 20000 in
theorem q_116 : (Jvm.Cond.code ({ cls := "SweptPaths$Pose", name := "<init>", desc := "()V" } : Jvm.MethodName) prog_5_method_1_code (1 : Nat) (Option.none : Option Jvm.ClassFile.FieldType)) ∈ W0 := W0_tab 116 (by rfl) (by decide +kernel)
theorem q_117 : (Jvm.Cond.methodLink "SweptPaths$Pose" (1 : Nat) ({ cls := "java/lang/Object", name := "<init>", desc := "()V" } : Jvm.MethodName)) ∈ W0 := W0_tab 117 (by decide +kernel) (by decide +kernel)
theorem q_118 : (Jvm.Cond.fieldLink "SweptPaths$Run" (69 : Nat) "SweptPaths$Pose" "x" "I") ∈ W0 := W0_tab 118 (by decide +kernel) (by decide +kernel)
theorem q_119 : (Jvm.Cond.fieldLink "SweptPaths$Cells" (55 : Nat) "SweptPaths$Pose" "x" "I") ∈ W0 := W0_tab 119 (by decide +kernel) (by decide +kernel)
theorem q_120 : (Jvm.Cond.fieldLink "SweptPaths" (114 : Nat) "SweptPaths$Pose" "x" "I") ∈ W0 := W0_tab 120 (by decide +kernel) (by decide +kernel)
theorem q_121 : (Jvm.Cond.fieldLink "SweptPaths$Run" (75 : Nat) "SweptPaths$Pose" "y" "I") ∈ W0 := W0_tab 121 (by decide +kernel) (by decide +kernel)
theorem q_122 : (Jvm.Cond.fieldLink "SweptPaths$Cells" (71 : Nat) "SweptPaths$Pose" "y" "I") ∈ W0 := W0_tab 122 (by decide +kernel) (by decide +kernel)
theorem q_123 : (Jvm.Cond.fieldLink "SweptPaths" (119 : Nat) "SweptPaths$Pose" "y" "I") ∈ W0 := W0_tab 123 (by decide +kernel) (by decide +kernel)
theorem q_124 : (Jvm.Cond.fieldLink "SweptPaths$Run" (57 : Nat) "SweptPaths$Pose" "heading" "I") ∈ W0 := W0_tab 124 (by decide +kernel) (by decide +kernel)
theorem q_125 : (Jvm.Cond.fieldLink "SweptPaths$Cells" (25 : Nat) "SweptPaths$Pose" "heading" "I") ∈ W0 := W0_tab 125 (by decide +kernel) (by decide +kernel)
theorem q_126 : (Jvm.Cond.fieldLink "SweptPaths" (122 : Nat) "SweptPaths$Pose" "heading" "I") ∈ W0 := W0_tab 126 (by decide +kernel) (by decide +kernel)
theorem q_127 : (Jvm.Cond.fieldLink "SweptPaths$Run" (60 : Nat) "SweptPaths$Pose" "rest" "I") ∈ W0 := W0_tab 127 (by decide +kernel) (by decide +kernel)
theorem q_128 : (Jvm.Cond.fieldLink "SweptPaths$Run" (63 : Nat) "SweptPaths$Pose" "greatestAskew" "I") ∈ W0 := W0_tab 128 (by decide +kernel) (by decide +kernel)
theorem q_129 : (Jvm.Cond.fieldLink "SweptPaths" (129 : Nat) "SweptPaths$Pose" "greatestAskew" "I") ∈ W0 := W0_tab 129 (by decide +kernel) (by decide +kernel)
theorem q_130 : (Jvm.Cond.lays "SweptPaths$Pose" "SweptPaths$Pose" "x" "I") ∈ W0 := W0_tab 130 (by decide +kernel) (by decide +kernel)
theorem q_132 : (Jvm.Cond.lays "SweptPaths$Pose" "SweptPaths$Pose" "y" "I") ∈ W0 := W0_tab 132 (by decide +kernel) (by decide +kernel)
theorem q_134 : (Jvm.Cond.lays "SweptPaths$Pose" "SweptPaths$Pose" "heading" "I") ∈ W0 := W0_tab 134 (by decide +kernel) (by decide +kernel)
theorem q_136 : (Jvm.Cond.lays "SweptPaths$Pose" "SweptPaths$Pose" "rest" "I") ∈ W0 := W0_tab 136 (by decide +kernel) (by decide +kernel)
theorem q_138 : (Jvm.Cond.lays "SweptPaths$Pose" "SweptPaths$Pose" "greatestAskew" "I") ∈ W0 := W0_tab 138 (by decide +kernel) (by decide +kernel)
theorem q_141 : (Jvm.Cond.classLink "SweptPaths$Run" (18 : Nat) "SweptPaths$Cells") ∈ W0 := W0_tab 141 (by decide +kernel) (by decide +kernel)
theorem q_142 : (Jvm.Cond.instantiable "SweptPaths$Cells" (2 : Nat)) ∈ W0 := W0_tab 142 (by decide +kernel) (by decide +kernel)
theorem q_144 : (Jvm.Cond.instanceMethod ({ cls := "SweptPaths$Cells", name := "<init>", desc := "()V" } : Jvm.MethodName)) ∈ W0 := W0_tab 144 (by decide +kernel) (by decide +kernel)
set_option maxRecDepth 20000 in
theorem q_145 : (Jvm.Cond.code ({ cls := "SweptPaths$Cells", name := "<init>", desc := "()V" } : Jvm.MethodName) prog_2_method_1_code (1 : Nat) (Option.none : Option Jvm.ClassFile.FieldType)) ∈ W0 := W0_tab 145 (by rfl) (by decide +kernel)
theorem q_146 : (Jvm.Cond.methodLink "SweptPaths$Cells" (3 : Nat) ({ cls := "java/lang/Object", name := "<init>", desc := "()V" } : Jvm.MethodName)) ∈ W0 := W0_tab 146 (by decide +kernel) (by decide +kernel)
theorem q_147 : (Jvm.Cond.fieldLink "SweptPaths$Cells" (11 : Nat) "SweptPaths$Cells" "rows" "[J") ∈ W0 := W0_tab 147 (by decide +kernel) (by decide +kernel)
theorem q_148 : (Jvm.Cond.fieldLink "SweptPaths$Cells" (21 : Nat) "SweptPaths$Cells" "count" "I") ∈ W0 := W0_tab 148 (by decide +kernel) (by decide +kernel)
theorem q_149 : (Jvm.Cond.fieldLink "SweptPaths" (142 : Nat) "SweptPaths$Cells" "count" "I") ∈ W0 := W0_tab 149 (by decide +kernel) (by decide +kernel)
theorem q_150 : (Jvm.Cond.laysFinal "SweptPaths$Cells" "SweptPaths$Cells" "rows" "[J") ∈ W0 := W0_tab 150 (by decide +kernel) (by decide +kernel)
theorem q_152 : (Jvm.Cond.lays "SweptPaths$Cells" "SweptPaths$Cells" "count" "I") ∈ W0 := W0_tab 152 (by decide +kernel) (by decide +kernel)
theorem q_155 : (Jvm.Cond.arrayClass Jvm.ClassFile.FieldType.long) ∈ W0 := W0_tab 155 (by decide +kernel) (by decide +kernel)
theorem q_156 : (Jvm.Cond.fieldLink "SweptPaths$Run" (12 : Nat) "SweptPaths$Run" "poses" "[LSweptPaths$Pose;") ∈ W0 := W0_tab 156 (by decide +kernel) (by decide +kernel)
theorem q_157 : (Jvm.Cond.fieldLink "SweptPaths" (110 : Nat) "SweptPaths$Run" "poses" "[LSweptPaths$Pose;") ∈ W0 := W0_tab 157 (by decide +kernel) (by decide +kernel)
theorem q_158 : (Jvm.Cond.fieldLink "SweptPaths$Run" (21 : Nat) "SweptPaths$Run" "cells" "LSweptPaths$Cells;") ∈ W0 := W0_tab 158 (by decide +kernel) (by decide +kernel)
theorem q_159 : (Jvm.Cond.fieldLink "SweptPaths" (138 : Nat) "SweptPaths$Run" "cells" "LSweptPaths$Cells;") ∈ W0 := W0_tab 159 (by decide +kernel) (by decide +kernel)
theorem q_160 : (Jvm.Cond.fieldLink "SweptPaths$Run" (39 : Nat) "SweptPaths$Run" "made" "I") ∈ W0 := W0_tab 160 (by decide +kernel) (by decide +kernel)
theorem q_161 : (Jvm.Cond.fieldLink "SweptPaths" (107 : Nat) "SweptPaths$Run" "made" "I") ∈ W0 := W0_tab 161 (by decide +kernel) (by decide +kernel)
theorem q_162 : (Jvm.Cond.fieldLink "SweptPaths$Run" (42 : Nat) "SweptPaths$Run" "stuck" "Z") ∈ W0 := W0_tab 162 (by decide +kernel) (by decide +kernel)
theorem q_163 : (Jvm.Cond.fieldLink "SweptPaths" (160 : Nat) "SweptPaths$Run" "stuck" "Z") ∈ W0 := W0_tab 163 (by decide +kernel) (by decide +kernel)
theorem q_164 : (Jvm.Cond.fieldLink "SweptPaths$Run" (25 : Nat) "SweptPaths$Run" "clashStep" "I") ∈ W0 := W0_tab 164 (by decide +kernel) (by decide +kernel)
theorem q_165 : (Jvm.Cond.fieldLink "SweptPaths" (151 : Nat) "SweptPaths$Run" "clashStep" "I") ∈ W0 := W0_tab 165 (by decide +kernel) (by decide +kernel)
theorem q_166 : (Jvm.Cond.fieldLink "SweptPaths$Run" (29 : Nat) "SweptPaths$Run" "clashBody" "I") ∈ W0 := W0_tab 166 (by decide +kernel) (by decide +kernel)
theorem q_167 : (Jvm.Cond.fieldLink "SweptPaths" (154 : Nat) "SweptPaths$Run" "clashBody" "I") ∈ W0 := W0_tab 167 (by decide +kernel) (by decide +kernel)
theorem q_168 : (Jvm.Cond.fieldLink "SweptPaths$Run" (32 : Nat) "SweptPaths$Run" "clashPole" "I") ∈ W0 := W0_tab 168 (by decide +kernel) (by decide +kernel)
theorem q_169 : (Jvm.Cond.fieldLink "SweptPaths" (157 : Nat) "SweptPaths$Run" "clashPole" "I") ∈ W0 := W0_tab 169 (by decide +kernel) (by decide +kernel)
theorem q_170 : (Jvm.Cond.fieldLink "SweptPaths$Run" (35 : Nat) "SweptPaths$Run" "setting" "LSweptPaths$Setting;") ∈ W0 := W0_tab 170 (by decide +kernel) (by decide +kernel)
theorem q_171 : (Jvm.Cond.laysFinal "SweptPaths$Run" "SweptPaths$Run" "poses" "[LSweptPaths$Pose;") ∈ W0 := W0_tab 171 (by decide +kernel) (by decide +kernel)
theorem q_173 : (Jvm.Cond.laysFinal "SweptPaths$Run" "SweptPaths$Run" "cells" "LSweptPaths$Cells;") ∈ W0 := W0_tab 173 (by decide +kernel) (by decide +kernel)
theorem q_175 : (Jvm.Cond.lays "SweptPaths$Run" "SweptPaths$Run" "made" "I") ∈ W0 := W0_tab 175 (by decide +kernel) (by decide +kernel)
theorem q_177 : (Jvm.Cond.lays "SweptPaths$Run" "SweptPaths$Run" "stuck" "Z") ∈ W0 := W0_tab 177 (by decide +kernel) (by decide +kernel)
theorem q_179 : (Jvm.Cond.lays "SweptPaths$Run" "SweptPaths$Run" "clashStep" "I") ∈ W0 := W0_tab 179 (by decide +kernel) (by decide +kernel)
theorem q_181 : (Jvm.Cond.lays "SweptPaths$Run" "SweptPaths$Run" "clashBody" "I") ∈ W0 := W0_tab 181 (by decide +kernel) (by decide +kernel)
theorem q_183 : (Jvm.Cond.lays "SweptPaths$Run" "SweptPaths$Run" "clashPole" "I") ∈ W0 := W0_tab 183 (by decide +kernel) (by decide +kernel)
theorem q_185 : (Jvm.Cond.laysFinal "SweptPaths$Run" "SweptPaths$Run" "setting" "LSweptPaths$Setting;") ∈ W0 := W0_tab 185 (by decide +kernel) (by decide +kernel)
theorem q_188 : (Jvm.Cond.classLink "SweptPaths" (28 : Nat) "SweptPaths$Plan") ∈ W0 := W0_tab 188 (by decide +kernel) (by decide +kernel)
theorem q_190 : (Jvm.Cond.instantiable "SweptPaths$Plan" (4 : Nat)) ∈ W0 := W0_tab 190 (by decide +kernel) (by decide +kernel)
theorem q_192 : (Jvm.Cond.instanceMethod ({ cls := "SweptPaths$Plan", name := "<init>", desc := "()V" } : Jvm.MethodName)) ∈ W0 := W0_tab 192 (by decide +kernel) (by decide +kernel)
set_option maxRecDepth 20000 in
theorem q_193 : (Jvm.Cond.code ({ cls := "SweptPaths$Plan", name := "<init>", desc := "()V" } : Jvm.MethodName) prog_4_method_1_code (1 : Nat) (Option.none : Option Jvm.ClassFile.FieldType)) ∈ W0 := W0_tab 193 (by rfl) (by decide +kernel)
theorem q_194 : (Jvm.Cond.methodLink "SweptPaths$Plan" (3 : Nat) ({ cls := "java/lang/Object", name := "<init>", desc := "()V" } : Jvm.MethodName)) ∈ W0 := W0_tab 194 (by decide +kernel) (by decide +kernel)
theorem q_195 : (Jvm.Cond.fieldLink "SweptPaths$Plan" (9 : Nat) "SweptPaths$Plan" "turns" "[I") ∈ W0 := W0_tab 195 (by decide +kernel) (by decide +kernel)
theorem q_196 : (Jvm.Cond.fieldLink "SweptPaths$Run" (92 : Nat) "SweptPaths$Plan" "turns" "[I") ∈ W0 := W0_tab 196 (by decide +kernel) (by decide +kernel)
theorem q_197 : (Jvm.Cond.fieldLink "SweptPaths$Plan" (15 : Nat) "SweptPaths$Plan" "steps" "[I") ∈ W0 := W0_tab 197 (by decide +kernel) (by decide +kernel)
theorem q_198 : (Jvm.Cond.fieldLink "SweptPaths$Run" (96 : Nat) "SweptPaths$Plan" "steps" "[I") ∈ W0 := W0_tab 198 (by decide +kernel) (by decide +kernel)
theorem q_199 : (Jvm.Cond.fieldLink "SweptPaths$Plan" (18 : Nat) "SweptPaths$Plan" "forwards" "[Z") ∈ W0 := W0_tab 199 (by decide +kernel) (by decide +kernel)
theorem q_200 : (Jvm.Cond.fieldLink "SweptPaths$Run" (99 : Nat) "SweptPaths$Plan" "forwards" "[Z") ∈ W0 := W0_tab 200 (by decide +kernel) (by decide +kernel)
theorem q_201 : (Jvm.Cond.fieldLink "SweptPaths$Plan" (22 : Nat) "SweptPaths$Plan" "parts" "I") ∈ W0 := W0_tab 201 (by decide +kernel) (by decide +kernel)
theorem q_202 : (Jvm.Cond.fieldLink "SweptPaths$Run" (87 : Nat) "SweptPaths$Plan" "parts" "I") ∈ W0 := W0_tab 202 (by decide +kernel) (by decide +kernel)
theorem q_203 : (Jvm.Cond.fieldLink "SweptPaths" (170 : Nat) "SweptPaths$Plan" "parts" "I") ∈ W0 := W0_tab 203 (by decide +kernel) (by decide +kernel)
theorem q_204 : (Jvm.Cond.laysFinal "SweptPaths$Plan" "SweptPaths$Plan" "turns" "[I") ∈ W0 := W0_tab 204 (by decide +kernel) (by decide +kernel)
theorem q_206 : (Jvm.Cond.laysFinal "SweptPaths$Plan" "SweptPaths$Plan" "steps" "[I") ∈ W0 := W0_tab 206 (by decide +kernel) (by decide +kernel)
theorem q_208 : (Jvm.Cond.laysFinal "SweptPaths$Plan" "SweptPaths$Plan" "forwards" "[Z") ∈ W0 := W0_tab 208 (by decide +kernel) (by decide +kernel)
theorem q_210 : (Jvm.Cond.lays "SweptPaths$Plan" "SweptPaths$Plan" "parts" "I") ∈ W0 := W0_tab 210 (by decide +kernel) (by decide +kernel)
theorem q_213 : (Jvm.Cond.arrayClass Jvm.ClassFile.FieldType.boolean) ∈ W0 := W0_tab 213 (by decide +kernel) (by decide +kernel)
theorem q_214 : (Jvm.Cond.fieldLink "SweptPaths" (10 : Nat) "SweptPaths" "setting" "LSweptPaths$Setting;") ∈ W0 := W0_tab 214 (by decide +kernel) (by decide +kernel)
theorem q_215 : (Jvm.Cond.fieldLink "SweptPaths" (21 : Nat) "SweptPaths" "live" "LSweptPaths$Run;") ∈ W0 := W0_tab 215 (by decide +kernel) (by decide +kernel)
theorem q_216 : (Jvm.Cond.fieldLink "SweptPaths" (25 : Nat) "SweptPaths" "trial" "LSweptPaths$Run;") ∈ W0 := W0_tab 216 (by decide +kernel) (by decide +kernel)
theorem q_217 : (Jvm.Cond.fieldLink "SweptPaths" (30 : Nat) "SweptPaths" "plans" "[LSweptPaths$Plan;") ∈ W0 := W0_tab 217 (by decide +kernel) (by decide +kernel)
theorem q_218 : (Jvm.Cond.laysFinal "SweptPaths" "SweptPaths" "setting" "LSweptPaths$Setting;") ∈ W0 := W0_tab 218 (by decide +kernel) (by decide +kernel)
theorem q_220 : (Jvm.Cond.laysFinal "SweptPaths" "SweptPaths" "live" "LSweptPaths$Run;") ∈ W0 := W0_tab 220 (by decide +kernel) (by decide +kernel)
theorem q_222 : (Jvm.Cond.laysFinal "SweptPaths" "SweptPaths" "trial" "LSweptPaths$Run;") ∈ W0 := W0_tab 222 (by decide +kernel) (by decide +kernel)
theorem q_224 : (Jvm.Cond.laysFinal "SweptPaths" "SweptPaths" "plans" "[LSweptPaths$Plan;") ∈ W0 := W0_tab 224 (by decide +kernel) (by decide +kernel)
theorem q_227 : (Jvm.Cond.methodLink "SweptPathsLaw" (97 : Nat) ({ cls := "SweptPaths", name := "swept", desc := "()I" } : Jvm.MethodName)) ∈ W0 := W0_tab 227 (by decide +kernel) (by decide +kernel)
theorem q_228 : (Jvm.Cond.instanceMethod ({ cls := "SweptPaths", name := "swept", desc := "()I" } : Jvm.MethodName)) ∈ W0 := W0_tab 228 (by decide +kernel) (by decide +kernel)
theorem q_229 : (Jvm.Cond.selects "SweptPaths" ({ cls := "SweptPaths", name := "swept", desc := "()I" } : Jvm.MethodName) ({ cls := "SweptPaths", name := "swept", desc := "()I" } : Jvm.MethodName)) ∈ W0 := W0_tab 229 (by decide +kernel) (by decide +kernel)
set_option maxRecDepth 20000 in
theorem q_230 : (Jvm.Cond.code ({ cls := "SweptPaths", name := "swept", desc := "()I" } : Jvm.MethodName) prog_1_method_9_code (1 : Nat) (Option.some Jvm.ClassFile.FieldType.int)) ∈ W0 := W0_tab 230 (by rfl) (by decide +kernel)
theorem q_231 : (Jvm.Cond.methodLink "SweptPathsLaw" (107 : Nat) ({ cls := "SweptPaths", name := "isStuck", desc := "()Z" } : Jvm.MethodName)) ∈ W0 := W0_tab 231 (by decide +kernel) (by decide +kernel)
theorem q_232 : (Jvm.Cond.instanceMethod ({ cls := "SweptPaths", name := "isStuck", desc := "()Z" } : Jvm.MethodName)) ∈ W0 := W0_tab 232 (by decide +kernel) (by decide +kernel)
theorem q_233 : (Jvm.Cond.selects "SweptPaths" ({ cls := "SweptPaths", name := "isStuck", desc := "()Z" } : Jvm.MethodName) ({ cls := "SweptPaths", name := "isStuck", desc := "()Z" } : Jvm.MethodName)) ∈ W0 := W0_tab 233 (by decide +kernel) (by decide +kernel)
set_option maxRecDepth 20000 in
theorem q_234 : (Jvm.Cond.code ({ cls := "SweptPaths", name := "isStuck", desc := "()Z" } : Jvm.MethodName) prog_1_method_12_code (1 : Nat) (Option.some Jvm.ClassFile.FieldType.boolean)) ∈ W0 := W0_tab 234 (by rfl) (by decide +kernel)
theorem q_235 : (Jvm.Cond.methodLink "SweptPathsLaw" (65 : Nat) ({ cls := "SweptPathsLaw", name := "body", desc := "(LSweptPaths;IIIII[J)I" } : Jvm.MethodName)) ∈ W0 := W0_tab 235 (by decide +kernel) (by decide +kernel)
theorem q_236 : (Jvm.Cond.static ({ cls := "SweptPathsLaw", name := "body", desc := "(LSweptPaths;IIIII[J)I" } : Jvm.MethodName)) ∈ W0 := W0_tab 236 (by decide +kernel) (by decide +kernel)
theorem q_238 : (Jvm.Cond.classLink "SweptPathsLaw" (13 : Nat) "java/lang/IllegalArgumentException") ∈ W0 := W0_tab 238 (by decide +kernel) (by decide +kernel)
theorem q_239 : (Jvm.Cond.classLink "SweptPathsLaw" (15 : Nat) "java/lang/IllegalStateException") ∈ W0 := W0_tab 239 (by decide +kernel) (by decide +kernel)
theorem q_240 : (Jvm.Cond.methodLink "SweptPathsLaw" (7 : Nat) ({ cls := "SweptPaths", name := "body", desc := "(IIIII)I" } : Jvm.MethodName)) ∈ W0 := W0_tab 240 (by decide +kernel) (by decide +kernel)
theorem q_241 : (Jvm.Cond.instanceMethod ({ cls := "SweptPaths", name := "body", desc := "(IIIII)I" } : Jvm.MethodName)) ∈ W0 := W0_tab 241 (by decide +kernel) (by decide +kernel)
theorem q_242 : (Jvm.Cond.selects "SweptPaths" ({ cls := "SweptPaths", name := "body", desc := "(IIIII)I" } : Jvm.MethodName) ({ cls := "SweptPaths", name := "body", desc := "(IIIII)I" } : Jvm.MethodName)) ∈ W0 := W0_tab 242 (by decide +kernel) (by decide +kernel)
set_option maxRecDepth 20000 in
theorem q_243 : (Jvm.Cond.code ({ cls := "SweptPaths", name := "body", desc := "(IIIII)I" } : Jvm.MethodName) prog_1_method_2_code (8 : Nat) (Option.some Jvm.ClassFile.FieldType.int)) ∈ W0 := W0_tab 243 (by rfl) (by decide +kernel)
theorem q_244 : (Jvm.Cond.methodLink "SweptPaths" (35 : Nat) ({ cls := "SweptPaths", name := "demandWithin", desc := "(III)V" } : Jvm.MethodName)) ∈ W0 := W0_tab 244 (by decide +kernel) (by decide +kernel)
theorem q_245 : (Jvm.Cond.static ({ cls := "SweptPaths", name := "demandWithin", desc := "(III)V" } : Jvm.MethodName)) ∈ W0 := W0_tab 245 (by decide +kernel) (by decide +kernel)
set_option maxRecDepth 20000 in
theorem q_246 : (Jvm.Cond.code ({ cls := "SweptPaths", name := "demandWithin", desc := "(III)V" } : Jvm.MethodName) prog_1_method_17_code (3 : Nat) (Option.none : Option Jvm.ClassFile.FieldType)) ∈ W0 := W0_tab 246 (by rfl) (by decide +kernel)
theorem q_247 : (Jvm.Cond.classLink "SweptPaths" (181 : Nat) "java/lang/IllegalArgumentException") ∈ W0 := W0_tab 247 (by decide +kernel) (by decide +kernel)
theorem q_248 : (Jvm.Cond.instantiable "java/lang/IllegalArgumentException" (6 : Nat)) ∈ W0 := W0_tab 248 (by decide +kernel) (by decide +kernel)
theorem q_256 : (Jvm.Cond.selects "java/lang/IllegalArgumentException" ({ cls := "java/lang/Throwable", name := "fillInStackTrace", desc := "(I)Ljava/lang/Throwable;" } : Jvm.MethodName) ({ cls := "java/lang/Throwable", name := "fillInStackTrace", desc := "(I)Ljava/lang/Throwable;" } : Jvm.MethodName)) ∈ W0 := W0_tab 256 (by decide +kernel) (by decide +kernel)
theorem q_257 : (Jvm.Cond.selects "java/lang/IllegalArgumentException" ({ cls := "java/lang/Throwable", name := "fillInStackTrace", desc := "()Ljava/lang/Throwable;" } : Jvm.MethodName) ({ cls := "java/lang/Throwable", name := "fillInStackTrace", desc := "()Ljava/lang/Throwable;" } : Jvm.MethodName)) ∈ W0 := W0_tab 257 (by decide +kernel) (by decide +kernel)
theorem q_258 : (Jvm.Cond.lays "java/lang/IllegalArgumentException" "java/lang/Throwable" "cause" "Ljava/lang/Throwable;") ∈ W0 := W0_tab 258 (by decide +kernel) (by decide +kernel)
theorem q_259 : (Jvm.Cond.lays "java/lang/Throwable" "java/lang/Throwable" "cause" "Ljava/lang/Throwable;") ∈ W0 := W0_tab 259 (by decide +kernel) (by decide +kernel)
theorem q_260 : (Jvm.Cond.lays "java/lang/IllegalArgumentException" "java/lang/Throwable" "stackTrace" "[Ljava/lang/StackTraceElement;") ∈ W0 := W0_tab 260 (by decide +kernel) (by decide +kernel)
theorem q_261 : (Jvm.Cond.lays "java/lang/Throwable" "java/lang/Throwable" "stackTrace" "[Ljava/lang/StackTraceElement;") ∈ W0 := W0_tab 261 (by decide +kernel) (by decide +kernel)
theorem q_262 : (Jvm.Cond.lays "java/lang/IllegalArgumentException" "java/lang/Throwable" "suppressedExceptions" "Ljava/util/List;") ∈ W0 := W0_tab 262 (by decide +kernel) (by decide +kernel)
theorem q_263 : (Jvm.Cond.lays "java/lang/Throwable" "java/lang/Throwable" "suppressedExceptions" "Ljava/util/List;") ∈ W0 := W0_tab 263 (by decide +kernel) (by decide +kernel)
theorem q_264 : (Jvm.Cond.lays "java/lang/IllegalArgumentException" "java/lang/Throwable" "detailMessage" "Ljava/lang/String;") ∈ W0 := W0_tab 264 (by decide +kernel) (by decide +kernel)
theorem q_265 : (Jvm.Cond.lays "java/lang/Throwable" "java/lang/Throwable" "detailMessage" "Ljava/lang/String;") ∈ W0 := W0_tab 265 (by decide +kernel) (by decide +kernel)
theorem q_266 : (Jvm.Cond.lays "java/lang/IllegalArgumentException" "java/lang/Throwable" "backtrace" "Ljava/lang/Object;") ∈ W0 := W0_tab 266 (by decide +kernel) (by decide +kernel)
theorem q_267 : (Jvm.Cond.lays "java/lang/Throwable" "java/lang/Throwable" "backtrace" "Ljava/lang/Object;") ∈ W0 := W0_tab 267 (by decide +kernel) (by decide +kernel)
theorem q_268 : (Jvm.Cond.fieldLink "java/lang/Throwable" (198 : Nat) "java/lang/Throwable" "backtrace" "Ljava/lang/Object;") ∈ W0 := W0_tab 268 (by decide +kernel) (by decide +kernel)
theorem q_270 : (Jvm.Cond.instanceMethod ({ cls := "java/lang/Throwable", name := "<init>", desc := "()V" } : Jvm.MethodName)) ∈ W0 := W0_tab 270 (by decide +kernel) (by decide +kernel)
set_option maxRecDepth 20000 in
theorem q_271 : (Jvm.Cond.code ({ cls := "java/lang/Throwable", name := "<init>", desc := "()V" } : Jvm.MethodName) prog_17_method_1_code (1 : Nat) (Option.none : Option Jvm.ClassFile.FieldType)) ∈ W0 := W0_tab 271 (by rfl) (by decide +kernel)
theorem q_272 : (Jvm.Cond.methodLink "java/lang/Throwable" (1 : Nat) ({ cls := "java/lang/Object", name := "<init>", desc := "()V" } : Jvm.MethodName)) ∈ W0 := W0_tab 272 (by decide +kernel) (by decide +kernel)
theorem q_273 : (Jvm.Cond.fieldLink "java/lang/Throwable" (13 : Nat) "java/lang/Throwable" "UNASSIGNED_STACK" "[Ljava/lang/StackTraceElement;") ∈ W0 := W0_tab 273 (by decide +kernel) (by decide +kernel)
theorem q_275 : (Jvm.Cond.fieldLink "java/lang/Throwable" (20 : Nat) "java/lang/Throwable" "SUPPRESSED_SENTINEL" "Ljava/util/List;") ∈ W0 := W0_tab 275 (by decide +kernel) (by decide +kernel)
theorem q_277 : (Jvm.Cond.methodLink "java/lang/Throwable" (27 : Nat) ({ cls := "java/lang/Throwable", name := "fillInStackTrace", desc := "()Ljava/lang/Throwable;" } : Jvm.MethodName)) ∈ W0 := W0_tab 277 (by decide +kernel) (by decide +kernel)
theorem q_278 : (Jvm.Cond.instanceMethod ({ cls := "java/lang/Throwable", name := "fillInStackTrace", desc := "()Ljava/lang/Throwable;" } : Jvm.MethodName)) ∈ W0 := W0_tab 278 (by decide +kernel) (by decide +kernel)
theorem q_280 : (Jvm.Cond.selects "java/lang/IllegalStateException" ({ cls := "java/lang/Throwable", name := "fillInStackTrace", desc := "()Ljava/lang/Throwable;" } : Jvm.MethodName) ({ cls := "java/lang/Throwable", name := "fillInStackTrace", desc := "()Ljava/lang/Throwable;" } : Jvm.MethodName)) ∈ W0 := W0_tab 280 (by decide +kernel) (by decide +kernel)
theorem q_282 : (Jvm.Cond.methodLink "java/lang/Throwable" (202 : Nat) ({ cls := "java/lang/Throwable", name := "fillInStackTrace", desc := "(I)Ljava/lang/Throwable;" } : Jvm.MethodName)) ∈ W0 := W0_tab 282 (by decide +kernel) (by decide +kernel)
theorem q_284 : (Jvm.Cond.instanceMethod ({ cls := "java/lang/Throwable", name := "fillInStackTrace", desc := "(I)Ljava/lang/Throwable;" } : Jvm.MethodName)) ∈ W0 := W0_tab 284 (by decide +kernel) (by decide +kernel)
theorem q_285 : (Jvm.Cond.instantiable "java/lang/Throwable" (6 : Nat)) ∈ W0 := W0_tab 285 (by decide +kernel) (by decide +kernel)
theorem q_288 : (Jvm.Cond.methodLink "SweptPaths" (185 : Nat) ({ cls := "java/lang/IllegalArgumentException", name := "<init>", desc := "(Ljava/lang/String;)V" } : Jvm.MethodName)) ∈ W0 := W0_tab 288 (by decide +kernel) (by decide +kernel)
theorem q_289 : (Jvm.Cond.instanceMethod ({ cls := "java/lang/IllegalArgumentException", name := "<init>", desc := "(Ljava/lang/String;)V" } : Jvm.MethodName)) ∈ W0 := W0_tab 289 (by decide +kernel) (by decide +kernel)
set_option maxRecDepth 20000 in
theorem q_290 : (Jvm.Cond.code ({ cls := "java/lang/IllegalArgumentException", name := "<init>", desc := "(Ljava/lang/String;)V" } : Jvm.MethodName) prog_12_method_2_code (2 : Nat) (Option.none : Option Jvm.ClassFile.FieldType)) ∈ W0 := W0_tab 290 (by rfl) (by decide +kernel)
theorem q_291 : (Jvm.Cond.methodLink "java/lang/IllegalArgumentException" (7 : Nat) ({ cls := "java/lang/RuntimeException", name := "<init>", desc := "(Ljava/lang/String;)V" } : Jvm.MethodName)) ∈ W0 := W0_tab 291 (by decide +kernel) (by decide +kernel)
theorem q_292 : (Jvm.Cond.instanceMethod ({ cls := "java/lang/RuntimeException", name := "<init>", desc := "(Ljava/lang/String;)V" } : Jvm.MethodName)) ∈ W0 := W0_tab 292 (by decide +kernel) (by decide +kernel)
set_option maxRecDepth 20000 in
theorem q_293 : (Jvm.Cond.code ({ cls := "java/lang/RuntimeException", name := "<init>", desc := "(Ljava/lang/String;)V" } : Jvm.MethodName) prog_15_method_2_code (2 : Nat) (Option.none : Option Jvm.ClassFile.FieldType)) ∈ W0 := W0_tab 293 (by rfl) (by decide +kernel)
theorem q_294 : (Jvm.Cond.methodLink "java/lang/RuntimeException" (7 : Nat) ({ cls := "java/lang/Exception", name := "<init>", desc := "(Ljava/lang/String;)V" } : Jvm.MethodName)) ∈ W0 := W0_tab 294 (by decide +kernel) (by decide +kernel)
theorem q_295 : (Jvm.Cond.instanceMethod ({ cls := "java/lang/Exception", name := "<init>", desc := "(Ljava/lang/String;)V" } : Jvm.MethodName)) ∈ W0 := W0_tab 295 (by decide +kernel) (by decide +kernel)
set_option maxRecDepth 20000 in
theorem q_296 : (Jvm.Cond.code ({ cls := "java/lang/Exception", name := "<init>", desc := "(Ljava/lang/String;)V" } : Jvm.MethodName) prog_11_method_2_code (2 : Nat) (Option.none : Option Jvm.ClassFile.FieldType)) ∈ W0 := W0_tab 296 (by rfl) (by decide +kernel)
theorem q_297 : (Jvm.Cond.methodLink "java/lang/Exception" (7 : Nat) ({ cls := "java/lang/Throwable", name := "<init>", desc := "(Ljava/lang/String;)V" } : Jvm.MethodName)) ∈ W0 := W0_tab 297 (by decide +kernel) (by decide +kernel)
theorem q_298 : (Jvm.Cond.instanceMethod ({ cls := "java/lang/Throwable", name := "<init>", desc := "(Ljava/lang/String;)V" } : Jvm.MethodName)) ∈ W0 := W0_tab 298 (by decide +kernel) (by decide +kernel)
set_option maxRecDepth 20000 in
theorem q_299 : (Jvm.Cond.code ({ cls := "java/lang/Throwable", name := "<init>", desc := "(Ljava/lang/String;)V" } : Jvm.MethodName) prog_17_method_2_code (2 : Nat) (Option.none : Option Jvm.ClassFile.FieldType)) ∈ W0 := W0_tab 299 (by rfl) (by decide +kernel)
theorem q_300 : (Jvm.Cond.fieldLink "java/lang/Throwable" (198 : Nat) "java/lang/Throwable" "backtrace" "Ljava/lang/Object;") ∈ W0 := W0_tab 300 (by decide +kernel) (by decide +kernel)
theorem q_301 : (Jvm.Cond.fieldLink "java/lang/Throwable" (31 : Nat) "java/lang/Throwable" "detailMessage" "Ljava/lang/String;") ∈ W0 := W0_tab 301 (by decide +kernel) (by decide +kernel)
theorem q_302 : (Jvm.Cond.fieldLink "java/lang/Throwable" (7 : Nat) "java/lang/Throwable" "cause" "Ljava/lang/Throwable;") ∈ W0 := W0_tab 302 (by decide +kernel) (by decide +kernel)
theorem q_303 : (Jvm.Cond.fieldLink "java/lang/Throwable" (17 : Nat) "java/lang/Throwable" "stackTrace" "[Ljava/lang/StackTraceElement;") ∈ W0 := W0_tab 303 (by decide +kernel) (by decide +kernel)
theorem q_304 : (Jvm.Cond.fieldLink "java/lang/Throwable" (24 : Nat) "java/lang/Throwable" "suppressedExceptions" "Ljava/util/List;") ∈ W0 := W0_tab 304 (by decide +kernel) (by decide +kernel)
theorem q_309 : (Jvm.Cond.lays "java/lang/IllegalArgumentException" "java/lang/Throwable" "depth" "I") ∈ W0 := W0_tab 309 (by decide +kernel) (by decide +kernel)
theorem q_313 : (Jvm.Cond.arrayClass Jvm.ClassFile.FieldType.byte) ∈ W0 := W0_tab 313 (by decide +kernel) (by decide +kernel)
theorem q_314 : (Jvm.Cond.classLink "SweptPaths" (43 : Nat) "java/lang/IllegalStateException") ∈ W0 := W0_tab 314 (by decide +kernel) (by decide +kernel)
theorem q_315 : (Jvm.Cond.instantiable "java/lang/IllegalStateException" (6 : Nat)) ∈ W0 := W0_tab 315 (by decide +kernel) (by decide +kernel)
theorem q_317 : (Jvm.Cond.selects "java/lang/IllegalStateException" ({ cls := "java/lang/Throwable", name := "fillInStackTrace", desc := "(I)Ljava/lang/Throwable;" } : Jvm.MethodName) ({ cls := "java/lang/Throwable", name := "fillInStackTrace", desc := "(I)Ljava/lang/Throwable;" } : Jvm.MethodName)) ∈ W0 := W0_tab 317 (by decide +kernel) (by decide +kernel)
theorem q_318 : (Jvm.Cond.lays "java/lang/IllegalStateException" "java/lang/Throwable" "cause" "Ljava/lang/Throwable;") ∈ W0 := W0_tab 318 (by decide +kernel) (by decide +kernel)
theorem q_319 : (Jvm.Cond.lays "java/lang/IllegalStateException" "java/lang/Throwable" "stackTrace" "[Ljava/lang/StackTraceElement;") ∈ W0 := W0_tab 319 (by decide +kernel) (by decide +kernel)
theorem q_320 : (Jvm.Cond.lays "java/lang/IllegalStateException" "java/lang/Throwable" "suppressedExceptions" "Ljava/util/List;") ∈ W0 := W0_tab 320 (by decide +kernel) (by decide +kernel)
theorem q_321 : (Jvm.Cond.lays "java/lang/IllegalStateException" "java/lang/Throwable" "detailMessage" "Ljava/lang/String;") ∈ W0 := W0_tab 321 (by decide +kernel) (by decide +kernel)
theorem q_322 : (Jvm.Cond.lays "java/lang/IllegalStateException" "java/lang/Throwable" "backtrace" "Ljava/lang/Object;") ∈ W0 := W0_tab 322 (by decide +kernel) (by decide +kernel)
theorem q_324 : (Jvm.Cond.methodLink "SweptPaths" (47 : Nat) ({ cls := "java/lang/IllegalStateException", name := "<init>", desc := "(Ljava/lang/String;)V" } : Jvm.MethodName)) ∈ W0 := W0_tab 324 (by decide +kernel) (by decide +kernel)
theorem q_325 : (Jvm.Cond.instanceMethod ({ cls := "java/lang/IllegalStateException", name := "<init>", desc := "(Ljava/lang/String;)V" } : Jvm.MethodName)) ∈ W0 := W0_tab 325 (by decide +kernel) (by decide +kernel)
set_option maxRecDepth 20000 in
theorem q_326 : (Jvm.Cond.code ({ cls := "java/lang/IllegalStateException", name := "<init>", desc := "(Ljava/lang/String;)V" } : Jvm.MethodName) prog_13_method_2_code (2 : Nat) (Option.none : Option Jvm.ClassFile.FieldType)) ∈ W0 := W0_tab 326 (by rfl) (by decide +kernel)
theorem q_327 : (Jvm.Cond.methodLink "java/lang/IllegalStateException" (7 : Nat) ({ cls := "java/lang/RuntimeException", name := "<init>", desc := "(Ljava/lang/String;)V" } : Jvm.MethodName)) ∈ W0 := W0_tab 327 (by decide +kernel) (by decide +kernel)
theorem q_328 : (Jvm.Cond.lays "java/lang/IllegalStateException" "java/lang/Throwable" "depth" "I") ∈ W0 := W0_tab 328 (by decide +kernel) (by decide +kernel)
theorem q_330 : (Jvm.Cond.methodLink "SweptPaths" (71 : Nat) ({ cls := "SweptPaths$Run", name := "begin", desc := "()V" } : Jvm.MethodName)) ∈ W0 := W0_tab 330 (by decide +kernel) (by decide +kernel)
theorem q_331 : (Jvm.Cond.instanceMethod ({ cls := "SweptPaths$Run", name := "begin", desc := "()V" } : Jvm.MethodName)) ∈ W0 := W0_tab 331 (by decide +kernel) (by decide +kernel)
theorem q_332 : (Jvm.Cond.selects "SweptPaths$Run" ({ cls := "SweptPaths$Run", name := "begin", desc := "()V" } : Jvm.MethodName) ({ cls := "SweptPaths$Run", name := "begin", desc := "()V" } : Jvm.MethodName)) ∈ W0 := W0_tab 332 (by decide +kernel) (by decide +kernel)
set_option maxRecDepth 20000 in
theorem q_333 : (Jvm.Cond.code ({ cls := "SweptPaths$Run", name := "begin", desc := "()V" } : Jvm.MethodName) prog_6_method_2_code (3 : Nat) (Option.none : Option Jvm.ClassFile.FieldType)) ∈ W0 := W0_tab 333 (by rfl) (by decide +kernel)
theorem q_334 : (Jvm.Cond.methodLink "SweptPaths$Run" (46 : Nat) ({ cls := "SweptPaths$Cells", name := "wipe", desc := "()V" } : Jvm.MethodName)) ∈ W0 := W0_tab 334 (by decide +kernel) (by decide +kernel)
theorem q_335 : (Jvm.Cond.instanceMethod ({ cls := "SweptPaths$Cells", name := "wipe", desc := "()V" } : Jvm.MethodName)) ∈ W0 := W0_tab 335 (by decide +kernel) (by decide +kernel)
theorem q_336 : (Jvm.Cond.selects "SweptPaths$Cells" ({ cls := "SweptPaths$Cells", name := "wipe", desc := "()V" } : Jvm.MethodName) ({ cls := "SweptPaths$Cells", name := "wipe", desc := "()V" } : Jvm.MethodName)) ∈ W0 := W0_tab 336 (by decide +kernel) (by decide +kernel)
set_option maxRecDepth 20000 in
theorem q_337 : (Jvm.Cond.code ({ cls := "SweptPaths$Cells", name := "wipe", desc := "()V" } : Jvm.MethodName) prog_2_method_2_code (1 : Nat) (Option.none : Option Jvm.ClassFile.FieldType)) ∈ W0 := W0_tab 337 (by rfl) (by decide +kernel)
theorem q_338 : (Jvm.Cond.methodLink "SweptPaths$Cells" (15 : Nat) ({ cls := "java/util/Arrays", name := "fill", desc := "([JJ)V" } : Jvm.MethodName)) ∈ W0 := W0_tab 338 (by decide +kernel) (by decide +kernel)
theorem q_339 : (Jvm.Cond.static ({ cls := "java/util/Arrays", name := "fill", desc := "([JJ)V" } : Jvm.MethodName)) ∈ W0 := W0_tab 339 (by decide +kernel) (by decide +kernel)
set_option maxRecDepth 20000 in
theorem q_340 : (Jvm.Cond.code ({ cls := "java/util/Arrays", name := "fill", desc := "([JJ)V" } : Jvm.MethodName) prog_18_method_101_code (5 : Nat) (Option.none : Option Jvm.ClassFile.FieldType)) ∈ W0 := W0_tab 340 (by rfl) (by decide +kernel)
theorem q_341 : (Jvm.Cond.methodLink "SweptPaths$Run" (78 : Nat) ({ cls := "SweptPaths$Run", name := "placeTrailers", desc := "()V" } : Jvm.MethodName)) ∈ W0 := W0_tab 341 (by decide +kernel) (by decide +kernel)
theorem q_343 : (Jvm.Cond.instanceMethod ({ cls := "SweptPaths$Run", name := "placeTrailers", desc := "()V" } : Jvm.MethodName)) ∈ W0 := W0_tab 343 (by decide +kernel) (by decide +kernel)
set_option maxRecDepth 20000 in
theorem q_344 : (Jvm.Cond.code ({ cls := "SweptPaths$Run", name := "placeTrailers", desc := "()V" } : Jvm.MethodName) prog_6_method_9_code (6 : Nat) (Option.none : Option Jvm.ClassFile.FieldType)) ∈ W0 := W0_tab 344 (by rfl) (by decide +kernel)
theorem q_345 : (Jvm.Cond.methodLink "SweptPaths$Run" (123 : Nat) ({ cls := "SweptPaths$Directions", name := "dx", desc := "(I)I" } : Jvm.MethodName)) ∈ W0 := W0_tab 345 (by decide +kernel) (by decide +kernel)
theorem q_346 : (Jvm.Cond.static ({ cls := "SweptPaths$Directions", name := "dx", desc := "(I)I" } : Jvm.MethodName)) ∈ W0 := W0_tab 346 (by decide +kernel) (by decide +kernel)
set_option maxRecDepth 20000 in
theorem q_347 : (Jvm.Cond.code ({ cls := "SweptPaths$Directions", name := "dx", desc := "(I)I" } : Jvm.MethodName) prog_3_method_3_code (1 : Nat) (Option.some Jvm.ClassFile.FieldType.int)) ∈ W0 := W0_tab 347 (by rfl) (by decide +kernel)
theorem q_348 : (Jvm.Cond.fieldLink "SweptPaths$Directions" (9 : Nat) "SweptPaths$Directions" "DX" "[I") ∈ W0 := W0_tab 348 (by decide +kernel) (by decide +kernel)
theorem q_350 : (Jvm.Cond.methodLink "SweptPaths$Run" (127 : Nat) ({ cls := "SweptPaths$Directions", name := "dy", desc := "(I)I" } : Jvm.MethodName)) ∈ W0 := W0_tab 350 (by decide +kernel) (by decide +kernel)
theorem q_351 : (Jvm.Cond.static ({ cls := "SweptPaths$Directions", name := "dy", desc := "(I)I" } : Jvm.MethodName)) ∈ W0 := W0_tab 351 (by decide +kernel) (by decide +kernel)
set_option maxRecDepth 20000 in
theorem q_352 : (Jvm.Cond.code ({ cls := "SweptPaths$Directions", name := "dy", desc := "(I)I" } : Jvm.MethodName) prog_3_method_4_code (1 : Nat) (Option.some Jvm.ClassFile.FieldType.int)) ∈ W0 := W0_tab 352 (by rfl) (by decide +kernel)
theorem q_353 : (Jvm.Cond.methodLink "SweptPaths$Run" (81 : Nat) ({ cls := "SweptPaths$Run", name := "lookRound", desc := "()V" } : Jvm.MethodName)) ∈ W0 := W0_tab 353 (by decide +kernel) (by decide +kernel)
theorem q_355 : (Jvm.Cond.instanceMethod ({ cls := "SweptPaths$Run", name := "lookRound", desc := "()V" } : Jvm.MethodName)) ∈ W0 := W0_tab 355 (by decide +kernel) (by decide +kernel)
set_option maxRecDepth 20000 in
theorem q_356 : (Jvm.Cond.code ({ cls := "SweptPaths$Run", name := "lookRound", desc := "()V" } : Jvm.MethodName) prog_6_method_11_code (2 : Nat) (Option.none : Option Jvm.ClassFile.FieldType)) ∈ W0 := W0_tab 356 (by rfl) (by decide +kernel)
theorem q_357 : (Jvm.Cond.methodLink "SweptPaths$Run" (162 : Nat) ({ cls := "SweptPaths$Cells", name := "cover", desc := "(LSweptPaths$Shape;LSweptPaths$Pose;)V" } : Jvm.MethodName)) ∈ W0 := W0_tab 357 (by decide +kernel) (by decide +kernel)
theorem q_358 : (Jvm.Cond.instanceMethod ({ cls := "SweptPaths$Cells", name := "cover", desc := "(LSweptPaths$Shape;LSweptPaths$Pose;)V" } : Jvm.MethodName)) ∈ W0 := W0_tab 358 (by decide +kernel) (by decide +kernel)
theorem q_359 : (Jvm.Cond.selects "SweptPaths$Cells" ({ cls := "SweptPaths$Cells", name := "cover", desc := "(LSweptPaths$Shape;LSweptPaths$Pose;)V" } : Jvm.MethodName) ({ cls := "SweptPaths$Cells", name := "cover", desc := "(LSweptPaths$Shape;LSweptPaths$Pose;)V" } : Jvm.MethodName)) ∈ W0 := W0_tab 359 (by decide +kernel) (by decide +kernel)
set_option maxRecDepth 20000 in
theorem q_360 : (Jvm.Cond.code ({ cls := "SweptPaths$Cells", name := "cover", desc := "(LSweptPaths$Shape;LSweptPaths$Pose;)V" } : Jvm.MethodName) prog_2_method_4_code (25 : Nat) (Option.none : Option Jvm.ClassFile.FieldType)) ∈ W0 := W0_tab 360 (by rfl) (by decide +kernel)
theorem q_361 : (Jvm.Cond.methodLink "SweptPaths$Cells" (30 : Nat) ({ cls := "SweptPaths$Directions", name := "dx", desc := "(I)I" } : Jvm.MethodName)) ∈ W0 := W0_tab 361 (by decide +kernel) (by decide +kernel)
theorem q_362 : (Jvm.Cond.methodLink "SweptPaths$Cells" (36 : Nat) ({ cls := "SweptPaths$Directions", name := "dy", desc := "(I)I" } : Jvm.MethodName)) ∈ W0 := W0_tab 362 (by decide +kernel) (by decide +kernel)
theorem q_363 : (Jvm.Cond.methodLink "SweptPaths$Cells" (50 : Nat) ({ cls := "java/lang/Math", name := "abs", desc := "(I)I" } : Jvm.MethodName)) ∈ W0 := W0_tab 363 (by decide +kernel) (by decide +kernel)
theorem q_364 : (Jvm.Cond.static ({ cls := "java/lang/Math", name := "abs", desc := "(I)I" } : Jvm.MethodName)) ∈ W0 := W0_tab 364 (by decide +kernel) (by decide +kernel)
set_option maxRecDepth 20000 in
theorem q_365 : (Jvm.Cond.code ({ cls := "java/lang/Math", name := "abs", desc := "(I)I" } : Jvm.MethodName) prog_14_method_59_code (1 : Nat) (Option.some Jvm.ClassFile.FieldType.int)) ∈ W0 := W0_tab 365 (by rfl) (by decide +kernel)
theorem q_366 : (Jvm.Cond.methodLink "SweptPaths$Cells" (58 : Nat) ({ cls := "java/lang/Math", name := "min", desc := "(II)I" } : Jvm.MethodName)) ∈ W0 := W0_tab 366 (by decide +kernel) (by decide +kernel)
theorem q_367 : (Jvm.Cond.static ({ cls := "java/lang/Math", name := "min", desc := "(II)I" } : Jvm.MethodName)) ∈ W0 := W0_tab 367 (by decide +kernel) (by decide +kernel)
set_option maxRecDepth 20000 in
theorem q_368 : (Jvm.Cond.code ({ cls := "java/lang/Math", name := "min", desc := "(II)I" } : Jvm.MethodName) prog_14_method_69_code (2 : Nat) (Option.some Jvm.ClassFile.FieldType.int)) ∈ W0 := W0_tab 368 (by rfl) (by decide +kernel)
theorem q_369 : (Jvm.Cond.methodLink "SweptPaths$Cells" (62 : Nat) ({ cls := "SweptPaths$Cells", name := "firstFrom", desc := "(I)I" } : Jvm.MethodName)) ∈ W0 := W0_tab 369 (by decide +kernel) (by decide +kernel)
theorem q_370 : (Jvm.Cond.static ({ cls := "SweptPaths$Cells", name := "firstFrom", desc := "(I)I" } : Jvm.MethodName)) ∈ W0 := W0_tab 370 (by decide +kernel) (by decide +kernel)
set_option maxRecDepth 20000 in
theorem q_371 : (Jvm.Cond.code ({ cls := "SweptPaths$Cells", name := "firstFrom", desc := "(I)I" } : Jvm.MethodName) prog_2_method_7_code (1 : Nat) (Option.some Jvm.ClassFile.FieldType.int)) ∈ W0 := W0_tab 371 (by rfl) (by decide +kernel)
theorem q_372 : (Jvm.Cond.constant "SweptPaths$Cells" (87 : Nat) (32768 : Int32)) ∈ W0 := W0_tab 372 (by decide +kernel) (by decide +kernel)
theorem q_373 : (Jvm.Cond.methodLink "SweptPaths$Cells" (88 : Nat) ({ cls := "java/lang/Math", name := "floorDiv", desc := "(II)I" } : Jvm.MethodName)) ∈ W0 := W0_tab 373 (by decide +kernel) (by decide +kernel)
theorem q_374 : (Jvm.Cond.static ({ cls := "java/lang/Math", name := "floorDiv", desc := "(II)I" } : Jvm.MethodName)) ∈ W0 := W0_tab 374 (by decide +kernel) (by decide +kernel)
set_option maxRecDepth 20000 in
theorem q_375 : (Jvm.Cond.code ({ cls := "java/lang/Math", name := "floorDiv", desc := "(II)I" } : Jvm.MethodName) prog_14_method_47_code (3 : Nat) (Option.some Jvm.ClassFile.FieldType.int)) ∈ W0 := W0_tab 375 (by rfl) (by decide +kernel)
theorem q_376 : (Jvm.Cond.methodLink "SweptPaths$Cells" (65 : Nat) ({ cls := "java/lang/Math", name := "max", desc := "(II)I" } : Jvm.MethodName)) ∈ W0 := W0_tab 376 (by decide +kernel) (by decide +kernel)
theorem q_377 : (Jvm.Cond.static ({ cls := "java/lang/Math", name := "max", desc := "(II)I" } : Jvm.MethodName)) ∈ W0 := W0_tab 377 (by decide +kernel) (by decide +kernel)
set_option maxRecDepth 20000 in
theorem q_378 : (Jvm.Cond.code ({ cls := "java/lang/Math", name := "max", desc := "(II)I" } : Jvm.MethodName) prog_14_method_65_code (2 : Nat) (Option.some Jvm.ClassFile.FieldType.int)) ∈ W0 := W0_tab 378 (by rfl) (by decide +kernel)
theorem q_379 : (Jvm.Cond.methodLink "SweptPaths$Cells" (68 : Nat) ({ cls := "SweptPaths$Cells", name := "lastUpTo", desc := "(I)I" } : Jvm.MethodName)) ∈ W0 := W0_tab 379 (by decide +kernel) (by decide +kernel)
theorem q_380 : (Jvm.Cond.static ({ cls := "SweptPaths$Cells", name := "lastUpTo", desc := "(I)I" } : Jvm.MethodName)) ∈ W0 := W0_tab 380 (by decide +kernel) (by decide +kernel)
set_option maxRecDepth 20000 in
theorem q_381 : (Jvm.Cond.code ({ cls := "SweptPaths$Cells", name := "lastUpTo", desc := "(I)I" } : Jvm.MethodName) prog_2_method_8_code (1 : Nat) (Option.some Jvm.ClassFile.FieldType.int)) ∈ W0 := W0_tab 381 (by rfl) (by decide +kernel)
theorem q_382 : (Jvm.Cond.methodLink "SweptPaths$Cells" (74 : Nat) ({ cls := "SweptPaths$Cells", name := "middleOf", desc := "(I)I" } : Jvm.MethodName)) ∈ W0 := W0_tab 382 (by decide +kernel) (by decide +kernel)
theorem q_383 : (Jvm.Cond.static ({ cls := "SweptPaths$Cells", name := "middleOf", desc := "(I)I" } : Jvm.MethodName)) ∈ W0 := W0_tab 383 (by decide +kernel) (by decide +kernel)
set_option maxRecDepth 20000 in
theorem q_384 : (Jvm.Cond.code ({ cls := "SweptPaths$Cells", name := "middleOf", desc := "(I)I" } : Jvm.MethodName) prog_2_method_6_code (1 : Nat) (Option.some Jvm.ClassFile.FieldType.int)) ∈ W0 := W0_tab 384 (by rfl) (by decide +kernel)
theorem q_385 : (Jvm.Cond.methodLink "SweptPaths$Cells" (77 : Nat) ({ cls := "SweptPaths$Shape", name := "holds", desc := "(JJ)Z" } : Jvm.MethodName)) ∈ W0 := W0_tab 385 (by decide +kernel) (by decide +kernel)
theorem q_386 : (Jvm.Cond.instanceMethod ({ cls := "SweptPaths$Shape", name := "holds", desc := "(JJ)Z" } : Jvm.MethodName)) ∈ W0 := W0_tab 386 (by decide +kernel) (by decide +kernel)
theorem q_387 : (Jvm.Cond.selects "SweptPaths$Shape" ({ cls := "SweptPaths$Shape", name := "holds", desc := "(JJ)Z" } : Jvm.MethodName) ({ cls := "SweptPaths$Shape", name := "holds", desc := "(JJ)Z" } : Jvm.MethodName)) ∈ W0 := W0_tab 387 (by decide +kernel) (by decide +kernel)
set_option maxRecDepth 20000 in
theorem q_388 : (Jvm.Cond.code ({ cls := "SweptPaths$Shape", name := "holds", desc := "(JJ)Z" } : Jvm.MethodName) prog_8_method_2_code (5 : Nat) (Option.some Jvm.ClassFile.FieldType.boolean)) ∈ W0 := W0_tab 388 (by rfl) (by decide +kernel)
theorem q_389 : (Jvm.Cond.constantLong "SweptPaths$Shape" (18 : Nat) (16777216 : Int64)) ∈ W0 := W0_tab 389 (by decide +kernel) (by decide +kernel)
theorem q_390 : (Jvm.Cond.methodLink "SweptPaths$Cells" (81 : Nat) ({ cls := "SweptPaths$Cells", name := "mark", desc := "(II)V" } : Jvm.MethodName)) ∈ W0 := W0_tab 390 (by decide +kernel) (by decide +kernel)
theorem q_392 : (Jvm.Cond.instanceMethod ({ cls := "SweptPaths$Cells", name := "mark", desc := "(II)V" } : Jvm.MethodName)) ∈ W0 := W0_tab 392 (by decide +kernel) (by decide +kernel)
set_option maxRecDepth 20000 in
theorem q_393 : (Jvm.Cond.code ({ cls := "SweptPaths$Cells", name := "mark", desc := "(II)V" } : Jvm.MethodName) prog_2_method_5_code (6 : Nat) (Option.none : Option Jvm.ClassFile.FieldType)) ∈ W0 := W0_tab 393 (by rfl) (by decide +kernel)
theorem q_394 : (Jvm.Cond.constantLong "SweptPaths$Cells" (85 : Nat) (32768 : Int64)) ∈ W0 := W0_tab 394 (by decide +kernel) (by decide +kernel)
theorem q_395 : (Jvm.Cond.methodLink "SweptPaths$Run" (166 : Nat) ({ cls := "SweptPaths$Run", name := "lookForPoles", desc := "(I)V" } : Jvm.MethodName)) ∈ W0 := W0_tab 395 (by decide +kernel) (by decide +kernel)
theorem q_397 : (Jvm.Cond.instanceMethod ({ cls := "SweptPaths$Run", name := "lookForPoles", desc := "(I)V" } : Jvm.MethodName)) ∈ W0 := W0_tab 397 (by decide +kernel) (by decide +kernel)
set_option maxRecDepth 20000 in
theorem q_398 : (Jvm.Cond.code ({ cls := "SweptPaths$Run", name := "lookForPoles", desc := "(I)V" } : Jvm.MethodName) prog_6_method_12_code (13 : Nat) (Option.none : Option Jvm.ClassFile.FieldType)) ∈ W0 := W0_tab 398 (by rfl) (by decide +kernel)
theorem q_399 : (Jvm.Cond.methodLink "SweptPaths$Run" (179 : Nat) ({ cls := "SweptPaths$Shape", name := "holds", desc := "(JJ)Z" } : Jvm.MethodName)) ∈ W0 := W0_tab 399 (by decide +kernel) (by decide +kernel)
theorem q_400 : (Jvm.Cond.methodLink "SweptPathsLaw" (74 : Nat) ({ cls := "SweptPathsLaw", name := "start", desc := "(LSweptPaths;III)I" } : Jvm.MethodName)) ∈ W0 := W0_tab 400 (by decide +kernel) (by decide +kernel)
theorem q_401 : (Jvm.Cond.static ({ cls := "SweptPathsLaw", name := "start", desc := "(LSweptPaths;III)I" } : Jvm.MethodName)) ∈ W0 := W0_tab 401 (by decide +kernel) (by decide +kernel)
theorem q_403 : (Jvm.Cond.methodLink "SweptPathsLaw" (17 : Nat) ({ cls := "SweptPaths", name := "start", desc := "(III)V" } : Jvm.MethodName)) ∈ W0 := W0_tab 403 (by decide +kernel) (by decide +kernel)
theorem q_404 : (Jvm.Cond.instanceMethod ({ cls := "SweptPaths", name := "start", desc := "(III)V" } : Jvm.MethodName)) ∈ W0 := W0_tab 404 (by decide +kernel) (by decide +kernel)
theorem q_405 : (Jvm.Cond.selects "SweptPaths" ({ cls := "SweptPaths", name := "start", desc := "(III)V" } : Jvm.MethodName) ({ cls := "SweptPaths", name := "start", desc := "(III)V" } : Jvm.MethodName)) ∈ W0 := W0_tab 405 (by decide +kernel) (by decide +kernel)
set_option maxRecDepth 20000 in
theorem q_406 : (Jvm.Cond.code ({ cls := "SweptPaths", name := "start", desc := "(III)V" } : Jvm.MethodName) prog_1_method_3_code (4 : Nat) (Option.none : Option Jvm.ClassFile.FieldType)) ∈ W0 := W0_tab 406 (by rfl) (by decide +kernel)
theorem q_407 : (Jvm.Cond.methodLink "SweptPathsLaw" (78 : Nat) ({ cls := "SweptPathsLaw", name := "step", desc := "(LSweptPaths;I[J)I" } : Jvm.MethodName)) ∈ W0 := W0_tab 407 (by decide +kernel) (by decide +kernel)
theorem q_408 : (Jvm.Cond.static ({ cls := "SweptPathsLaw", name := "step", desc := "(LSweptPaths;I[J)I" } : Jvm.MethodName)) ∈ W0 := W0_tab 408 (by decide +kernel) (by decide +kernel)
theorem q_410 : (Jvm.Cond.methodLink "SweptPathsLaw" (21 : Nat) ({ cls := "SweptPaths", name := "step", desc := "(I)I" } : Jvm.MethodName)) ∈ W0 := W0_tab 410 (by decide +kernel) (by decide +kernel)
theorem q_411 : (Jvm.Cond.instanceMethod ({ cls := "SweptPaths", name := "step", desc := "(I)I" } : Jvm.MethodName)) ∈ W0 := W0_tab 411 (by decide +kernel) (by decide +kernel)
theorem q_412 : (Jvm.Cond.selects "SweptPaths" ({ cls := "SweptPaths", name := "step", desc := "(I)I" } : Jvm.MethodName) ({ cls := "SweptPaths", name := "step", desc := "(I)I" } : Jvm.MethodName)) ∈ W0 := W0_tab 412 (by decide +kernel) (by decide +kernel)
set_option maxRecDepth 20000 in
theorem q_413 : (Jvm.Cond.code ({ cls := "SweptPaths", name := "step", desc := "(I)I" } : Jvm.MethodName) prog_1_method_4_code (3 : Nat) (Option.some Jvm.ClassFile.FieldType.int)) ∈ W0 := W0_tab 413 (by rfl) (by decide +kernel)
theorem q_414 : (Jvm.Cond.methodLink "SweptPathsLaw" (82 : Nat) ({ cls := "SweptPathsLaw", name := "pole", desc := "(LSweptPaths;II[J)I" } : Jvm.MethodName)) ∈ W0 := W0_tab 414 (by decide +kernel) (by decide +kernel)
theorem q_415 : (Jvm.Cond.static ({ cls := "SweptPathsLaw", name := "pole", desc := "(LSweptPaths;II[J)I" } : Jvm.MethodName)) ∈ W0 := W0_tab 415 (by decide +kernel) (by decide +kernel)
theorem q_417 : (Jvm.Cond.methodLink "SweptPathsLaw" (25 : Nat) ({ cls := "SweptPaths", name := "pole", desc := "(II)I" } : Jvm.MethodName)) ∈ W0 := W0_tab 417 (by decide +kernel) (by decide +kernel)
theorem q_418 : (Jvm.Cond.instanceMethod ({ cls := "SweptPaths", name := "pole", desc := "(II)I" } : Jvm.MethodName)) ∈ W0 := W0_tab 418 (by decide +kernel) (by decide +kernel)
theorem q_419 : (Jvm.Cond.selects "SweptPaths" ({ cls := "SweptPaths", name := "pole", desc := "(II)I" } : Jvm.MethodName) ({ cls := "SweptPaths", name := "pole", desc := "(II)I" } : Jvm.MethodName)) ∈ W0 := W0_tab 419 (by decide +kernel) (by decide +kernel)
set_option maxRecDepth 20000 in
theorem q_420 : (Jvm.Cond.code ({ cls := "SweptPaths", name := "pole", desc := "(II)I" } : Jvm.MethodName) prog_1_method_5_code (4 : Nat) (Option.some Jvm.ClassFile.FieldType.int)) ∈ W0 := W0_tab 420 (by rfl) (by decide +kernel)
theorem q_422 : (Jvm.Cond.methodLink "SweptPathsLaw" (86 : Nat) ({ cls := "SweptPathsLaw", name := "go", desc := "(LSweptPaths;IIZ[J)I" } : Jvm.MethodName)) ∈ W0 := W0_tab 422 (by decide +kernel) (by decide +kernel)
theorem q_423 : (Jvm.Cond.static ({ cls := "SweptPathsLaw", name := "go", desc := "(LSweptPaths;IIZ[J)I" } : Jvm.MethodName)) ∈ W0 := W0_tab 423 (by decide +kernel) (by decide +kernel)
theorem q_425 : (Jvm.Cond.methodLink "SweptPathsLaw" (29 : Nat) ({ cls := "SweptPaths", name := "go", desc := "(IIZ)I" } : Jvm.MethodName)) ∈ W0 := W0_tab 425 (by decide +kernel) (by decide +kernel)
theorem q_426 : (Jvm.Cond.instanceMethod ({ cls := "SweptPaths", name := "go", desc := "(IIZ)I" } : Jvm.MethodName)) ∈ W0 := W0_tab 426 (by decide +kernel) (by decide +kernel)
theorem q_427 : (Jvm.Cond.selects "SweptPaths" ({ cls := "SweptPaths", name := "go", desc := "(IIZ)I" } : Jvm.MethodName) ({ cls := "SweptPaths", name := "go", desc := "(IIZ)I" } : Jvm.MethodName)) ∈ W0 := W0_tab 427 (by decide +kernel) (by decide +kernel)
set_option maxRecDepth 20000 in
theorem q_428 : (Jvm.Cond.code ({ cls := "SweptPaths", name := "go", desc := "(IIZ)I" } : Jvm.MethodName) prog_1_method_6_code (4 : Nat) (Option.some Jvm.ClassFile.FieldType.int)) ∈ W0 := W0_tab 428 (by rfl) (by decide +kernel)
theorem q_429 : (Jvm.Cond.methodLink "SweptPaths" (100 : Nat) ({ cls := "SweptPaths", name := "demandSomeBody", desc := "()V" } : Jvm.MethodName)) ∈ W0 := W0_tab 429 (by decide +kernel) (by decide +kernel)
theorem q_431 : (Jvm.Cond.instanceMethod ({ cls := "SweptPaths", name := "demandSomeBody", desc := "()V" } : Jvm.MethodName)) ∈ W0 := W0_tab 431 (by decide +kernel) (by decide +kernel)
set_option maxRecDepth 20000 in
theorem q_432 : (Jvm.Cond.code ({ cls := "SweptPaths", name := "demandSomeBody", desc := "()V" } : Jvm.MethodName) prog_1_method_18_code (1 : Nat) (Option.none : Option Jvm.ClassFile.FieldType)) ∈ W0 := W0_tab 432 (by rfl) (by decide +kernel)
theorem q_434 : (Jvm.Cond.methodLink "SweptPaths" (103 : Nat) ({ cls := "SweptPaths$Run", name := "walk", desc := "(IIZ)V" } : Jvm.MethodName)) ∈ W0 := W0_tab 434 (by decide +kernel) (by decide +kernel)
theorem q_435 : (Jvm.Cond.instanceMethod ({ cls := "SweptPaths$Run", name := "walk", desc := "(IIZ)V" } : Jvm.MethodName)) ∈ W0 := W0_tab 435 (by decide +kernel) (by decide +kernel)
theorem q_436 : (Jvm.Cond.selects "SweptPaths$Run" ({ cls := "SweptPaths$Run", name := "walk", desc := "(IIZ)V" } : Jvm.MethodName) ({ cls := "SweptPaths$Run", name := "walk", desc := "(IIZ)V" } : Jvm.MethodName)) ∈ W0 := W0_tab 436 (by decide +kernel) (by decide +kernel)
set_option maxRecDepth 20000 in
theorem q_437 : (Jvm.Cond.code ({ cls := "SweptPaths$Run", name := "walk", desc := "(IIZ)V" } : Jvm.MethodName) prog_6_method_4_code (6 : Nat) (Option.none : Option Jvm.ClassFile.FieldType)) ∈ W0 := W0_tab 437 (by rfl) (by decide +kernel)
theorem q_438 : (Jvm.Cond.methodLink "SweptPaths$Run" (110 : Nat) ({ cls := "SweptPaths$Run", name := "move", desc := "(II)V" } : Jvm.MethodName)) ∈ W0 := W0_tab 438 (by decide +kernel) (by decide +kernel)
theorem q_440 : (Jvm.Cond.instanceMethod ({ cls := "SweptPaths$Run", name := "move", desc := "(II)V" } : Jvm.MethodName)) ∈ W0 := W0_tab 440 (by decide +kernel) (by decide +kernel)
set_option maxRecDepth 20000 in
theorem q_441 : (Jvm.Cond.code ({ cls := "SweptPaths$Run", name := "move", desc := "(II)V" } : Jvm.MethodName) prog_6_method_7_code (5 : Nat) (Option.none : Option Jvm.ClassFile.FieldType)) ∈ W0 := W0_tab 441 (by rfl) (by decide +kernel)
theorem q_442 : (Jvm.Cond.methodLink "SweptPaths$Run" (130 : Nat) ({ cls := "SweptPaths$Directions", name := "round", desc := "(I)I" } : Jvm.MethodName)) ∈ W0 := W0_tab 442 (by decide +kernel) (by decide +kernel)
theorem q_443 : (Jvm.Cond.static ({ cls := "SweptPaths$Directions", name := "round", desc := "(I)I" } : Jvm.MethodName)) ∈ W0 := W0_tab 443 (by decide +kernel) (by decide +kernel)
set_option maxRecDepth 20000 in
theorem q_444 : (Jvm.Cond.code ({ cls := "SweptPaths$Directions", name := "round", desc := "(I)I" } : Jvm.MethodName) prog_3_method_2_code (1 : Nat) (Option.some Jvm.ClassFile.FieldType.int)) ∈ W0 := W0_tab 444 (by rfl) (by decide +kernel)
theorem q_445 : (Jvm.Cond.methodLink "SweptPaths$Run" (133 : Nat) ({ cls := "SweptPaths$Run", name := "swing", desc := "(II)V" } : Jvm.MethodName)) ∈ W0 := W0_tab 445 (by decide +kernel) (by decide +kernel)
theorem q_447 : (Jvm.Cond.instanceMethod ({ cls := "SweptPaths$Run", name := "swing", desc := "(II)V" } : Jvm.MethodName)) ∈ W0 := W0_tab 447 (by decide +kernel) (by decide +kernel)
set_option maxRecDepth 20000 in
theorem q_448 : (Jvm.Cond.code ({ cls := "SweptPaths$Run", name := "swing", desc := "(II)V" } : Jvm.MethodName) prog_6_method_8_code (7 : Nat) (Option.none : Option Jvm.ClassFile.FieldType)) ∈ W0 := W0_tab 448 (by rfl) (by decide +kernel)
theorem q_449 : (Jvm.Cond.methodLink "SweptPaths$Run" (140 : Nat) ({ cls := "SweptPaths$Run", name := "askewOf", desc := "(I)I" } : Jvm.MethodName)) ∈ W0 := W0_tab 449 (by decide +kernel) (by decide +kernel)
theorem q_450 : (Jvm.Cond.instanceMethod ({ cls := "SweptPaths$Run", name := "askewOf", desc := "(I)I" } : Jvm.MethodName)) ∈ W0 := W0_tab 450 (by decide +kernel) (by decide +kernel)
theorem q_451 : (Jvm.Cond.selects "SweptPaths$Run" ({ cls := "SweptPaths$Run", name := "askewOf", desc := "(I)I" } : Jvm.MethodName) ({ cls := "SweptPaths$Run", name := "askewOf", desc := "(I)I" } : Jvm.MethodName)) ∈ W0 := W0_tab 451 (by decide +kernel) (by decide +kernel)
set_option maxRecDepth 20000 in
theorem q_452 : (Jvm.Cond.code ({ cls := "SweptPaths$Run", name := "askewOf", desc := "(I)I" } : Jvm.MethodName) prog_6_method_6_code (2 : Nat) (Option.some Jvm.ClassFile.FieldType.int)) ∈ W0 := W0_tab 452 (by rfl) (by decide +kernel)
theorem q_453 : (Jvm.Cond.methodLink "SweptPaths$Run" (117 : Nat) ({ cls := "SweptPaths$Directions", name := "askew", desc := "(II)I" } : Jvm.MethodName)) ∈ W0 := W0_tab 453 (by decide +kernel) (by decide +kernel)
theorem q_454 : (Jvm.Cond.static ({ cls := "SweptPaths$Directions", name := "askew", desc := "(II)I" } : Jvm.MethodName)) ∈ W0 := W0_tab 454 (by decide +kernel) (by decide +kernel)
set_option maxRecDepth 20000 in
theorem q_455 : (Jvm.Cond.code ({ cls := "SweptPaths$Directions", name := "askew", desc := "(II)I" } : Jvm.MethodName) prog_3_method_5_code (2 : Nat) (Option.some Jvm.ClassFile.FieldType.int)) ∈ W0 := W0_tab 455 (by rfl) (by decide +kernel)
theorem q_456 : (Jvm.Cond.methodLink "SweptPaths$Run" (143 : Nat) ({ cls := "SweptPaths$Shape", name := "directionsIn", desc := "(I)I" } : Jvm.MethodName)) ∈ W0 := W0_tab 456 (by decide +kernel) (by decide +kernel)
theorem q_457 : (Jvm.Cond.instanceMethod ({ cls := "SweptPaths$Shape", name := "directionsIn", desc := "(I)I" } : Jvm.MethodName)) ∈ W0 := W0_tab 457 (by decide +kernel) (by decide +kernel)
theorem q_458 : (Jvm.Cond.selects "SweptPaths$Shape" ({ cls := "SweptPaths$Shape", name := "directionsIn", desc := "(I)I" } : Jvm.MethodName) ({ cls := "SweptPaths$Shape", name := "directionsIn", desc := "(I)I" } : Jvm.MethodName)) ∈ W0 := W0_tab 458 (by decide +kernel) (by decide +kernel)
set_option maxRecDepth 20000 in
theorem q_459 : (Jvm.Cond.code ({ cls := "SweptPaths$Shape", name := "directionsIn", desc := "(I)I" } : Jvm.MethodName) prog_8_method_3_code (2 : Nat) (Option.some Jvm.ClassFile.FieldType.int)) ∈ W0 := W0_tab 459 (by rfl) (by decide +kernel)
theorem q_460 : (Jvm.Cond.methodLink "SweptPaths$Run" (114 : Nat) ({ cls := "SweptPaths$Run", name := "measureAskew", desc := "()V" } : Jvm.MethodName)) ∈ W0 := W0_tab 460 (by decide +kernel) (by decide +kernel)
theorem q_462 : (Jvm.Cond.instanceMethod ({ cls := "SweptPaths$Run", name := "measureAskew", desc := "()V" } : Jvm.MethodName)) ∈ W0 := W0_tab 462 (by decide +kernel) (by decide +kernel)
set_option maxRecDepth 20000 in
theorem q_463 : (Jvm.Cond.code ({ cls := "SweptPaths$Run", name := "measureAskew", desc := "()V" } : Jvm.MethodName) prog_6_method_10_code (3 : Nat) (Option.none : Option Jvm.ClassFile.FieldType)) ∈ W0 := W0_tab 463 (by rfl) (by decide +kernel)
theorem q_464 : (Jvm.Cond.methodLink "SweptPaths$Run" (154 : Nat) ({ cls := "java/lang/Math", name := "abs", desc := "(I)I" } : Jvm.MethodName)) ∈ W0 := W0_tab 464 (by decide +kernel) (by decide +kernel)
theorem q_465 : (Jvm.Cond.methodLink "SweptPaths$Run" (159 : Nat) ({ cls := "java/lang/Math", name := "max", desc := "(II)I" } : Jvm.MethodName)) ∈ W0 := W0_tab 465 (by decide +kernel) (by decide +kernel)
theorem q_466 : (Jvm.Cond.methodLink "SweptPathsLaw" (90 : Nat) ({ cls := "SweptPathsLaw", name := "told", desc := "(LSweptPaths;II[J)I" } : Jvm.MethodName)) ∈ W0 := W0_tab 466 (by decide +kernel) (by decide +kernel)
theorem q_467 : (Jvm.Cond.static ({ cls := "SweptPathsLaw", name := "told", desc := "(LSweptPaths;II[J)I" } : Jvm.MethodName)) ∈ W0 := W0_tab 467 (by decide +kernel) (by decide +kernel)
theorem q_469 : (Jvm.Cond.methodLink "SweptPathsLaw" (33 : Nat) ({ cls := "SweptPaths", name := "told", desc := "(II)I" } : Jvm.MethodName)) ∈ W0 := W0_tab 469 (by decide +kernel) (by decide +kernel)
theorem q_470 : (Jvm.Cond.instanceMethod ({ cls := "SweptPaths", name := "told", desc := "(II)I" } : Jvm.MethodName)) ∈ W0 := W0_tab 470 (by decide +kernel) (by decide +kernel)
theorem q_471 : (Jvm.Cond.selects "SweptPaths" ({ cls := "SweptPaths", name := "told", desc := "(II)I" } : Jvm.MethodName) ({ cls := "SweptPaths", name := "told", desc := "(II)I" } : Jvm.MethodName)) ∈ W0 := W0_tab 471 (by decide +kernel) (by decide +kernel)
set_option maxRecDepth 20000 in
theorem q_472 : (Jvm.Cond.code ({ cls := "SweptPaths", name := "told", desc := "(II)I" } : Jvm.MethodName) prog_1_method_7_code (4 : Nat) (Option.some Jvm.ClassFile.FieldType.int)) ∈ W0 := W0_tab 472 (by rfl) (by decide +kernel)
theorem q_473 : (Jvm.Cond.methodLink "SweptPaths" (125 : Nat) ({ cls := "SweptPaths$Run", name := "askewOf", desc := "(I)I" } : Jvm.MethodName)) ∈ W0 := W0_tab 473 (by decide +kernel) (by decide +kernel)
theorem q_474 : (Jvm.Cond.methodLink "SweptPathsLaw" (93 : Nat) ({ cls := "SweptPathsLaw", name := "corner", desc := "(LSweptPaths;III[J)I" } : Jvm.MethodName)) ∈ W0 := W0_tab 474 (by decide +kernel) (by decide +kernel)
theorem q_475 : (Jvm.Cond.static ({ cls := "SweptPathsLaw", name := "corner", desc := "(LSweptPaths;III[J)I" } : Jvm.MethodName)) ∈ W0 := W0_tab 475 (by decide +kernel) (by decide +kernel)
theorem q_477 : (Jvm.Cond.methodLink "SweptPathsLaw" (36 : Nat) ({ cls := "SweptPaths", name := "corner", desc := "(III)I" } : Jvm.MethodName)) ∈ W0 := W0_tab 477 (by decide +kernel) (by decide +kernel)
theorem q_478 : (Jvm.Cond.instanceMethod ({ cls := "SweptPaths", name := "corner", desc := "(III)I" } : Jvm.MethodName)) ∈ W0 := W0_tab 478 (by decide +kernel) (by decide +kernel)
theorem q_479 : (Jvm.Cond.selects "SweptPaths" ({ cls := "SweptPaths", name := "corner", desc := "(III)I" } : Jvm.MethodName) ({ cls := "SweptPaths", name := "corner", desc := "(III)I" } : Jvm.MethodName)) ∈ W0 := W0_tab 479 (by decide +kernel) (by decide +kernel)
set_option maxRecDepth 20000 in
theorem q_480 : (Jvm.Cond.code ({ cls := "SweptPaths", name := "corner", desc := "(III)I" } : Jvm.MethodName) prog_1_method_8_code (10 : Nat) (Option.some Jvm.ClassFile.FieldType.int)) ∈ W0 := W0_tab 480 (by rfl) (by decide +kernel)
theorem q_481 : (Jvm.Cond.methodLink "SweptPaths" (132 : Nat) ({ cls := "SweptPaths$Directions", name := "dx", desc := "(I)I" } : Jvm.MethodName)) ∈ W0 := W0_tab 481 (by decide +kernel) (by decide +kernel)
theorem q_482 : (Jvm.Cond.methodLink "SweptPaths" (135 : Nat) ({ cls := "SweptPaths$Directions", name := "dy", desc := "(I)I" } : Jvm.MethodName)) ∈ W0 := W0_tab 482 (by decide +kernel) (by decide +kernel)
theorem q_483 : (Jvm.Cond.methodLink "SweptPathsLaw" (101 : Nat) ({ cls := "SweptPathsLaw", name := "cell", desc := "(LSweptPaths;II[J)I" } : Jvm.MethodName)) ∈ W0 := W0_tab 483 (by decide +kernel) (by decide +kernel)
theorem q_484 : (Jvm.Cond.static ({ cls := "SweptPathsLaw", name := "cell", desc := "(LSweptPaths;II[J)I" } : Jvm.MethodName)) ∈ W0 := W0_tab 484 (by decide +kernel) (by decide +kernel)
theorem q_486 : (Jvm.Cond.methodLink "SweptPathsLaw" (40 : Nat) ({ cls := "SweptPaths", name := "cell", desc := "(II)Z" } : Jvm.MethodName)) ∈ W0 := W0_tab 486 (by decide +kernel) (by decide +kernel)
theorem q_487 : (Jvm.Cond.instanceMethod ({ cls := "SweptPaths", name := "cell", desc := "(II)Z" } : Jvm.MethodName)) ∈ W0 := W0_tab 487 (by decide +kernel) (by decide +kernel)
theorem q_488 : (Jvm.Cond.selects "SweptPaths" ({ cls := "SweptPaths", name := "cell", desc := "(II)Z" } : Jvm.MethodName) ({ cls := "SweptPaths", name := "cell", desc := "(II)Z" } : Jvm.MethodName)) ∈ W0 := W0_tab 488 (by decide +kernel) (by decide +kernel)
set_option maxRecDepth 20000 in
theorem q_489 : (Jvm.Cond.code ({ cls := "SweptPaths", name := "cell", desc := "(II)Z" } : Jvm.MethodName) prog_1_method_10_code (3 : Nat) (Option.some Jvm.ClassFile.FieldType.boolean)) ∈ W0 := W0_tab 489 (by rfl) (by decide +kernel)
theorem q_490 : (Jvm.Cond.methodLink "SweptPaths" (147 : Nat) ({ cls := "SweptPaths$Cells", name := "has", desc := "(II)Z" } : Jvm.MethodName)) ∈ W0 := W0_tab 490 (by decide +kernel) (by decide +kernel)
theorem q_491 : (Jvm.Cond.instanceMethod ({ cls := "SweptPaths$Cells", name := "has", desc := "(II)Z" } : Jvm.MethodName)) ∈ W0 := W0_tab 491 (by decide +kernel) (by decide +kernel)
theorem q_492 : (Jvm.Cond.selects "SweptPaths$Cells" ({ cls := "SweptPaths$Cells", name := "has", desc := "(II)Z" } : Jvm.MethodName) ({ cls := "SweptPaths$Cells", name := "has", desc := "(II)Z" } : Jvm.MethodName)) ∈ W0 := W0_tab 492 (by decide +kernel) (by decide +kernel)
set_option maxRecDepth 20000 in
theorem q_493 : (Jvm.Cond.code ({ cls := "SweptPaths$Cells", name := "has", desc := "(II)Z" } : Jvm.MethodName) prog_2_method_3_code (5 : Nat) (Option.some Jvm.ClassFile.FieldType.boolean)) ∈ W0 := W0_tab 493 (by rfl) (by decide +kernel)
theorem q_494 : (Jvm.Cond.methodLink "SweptPathsLaw" (104 : Nat) ({ cls := "SweptPathsLaw", name := "clash", desc := "(LSweptPaths;I[J)I" } : Jvm.MethodName)) ∈ W0 := W0_tab 494 (by decide +kernel) (by decide +kernel)
theorem q_495 : (Jvm.Cond.static ({ cls := "SweptPathsLaw", name := "clash", desc := "(LSweptPaths;I[J)I" } : Jvm.MethodName)) ∈ W0 := W0_tab 495 (by decide +kernel) (by decide +kernel)
theorem q_497 : (Jvm.Cond.methodLink "SweptPathsLaw" (44 : Nat) ({ cls := "SweptPaths", name := "clash", desc := "(I)I" } : Jvm.MethodName)) ∈ W0 := W0_tab 497 (by decide +kernel) (by decide +kernel)
theorem q_498 : (Jvm.Cond.instanceMethod ({ cls := "SweptPaths", name := "clash", desc := "(I)I" } : Jvm.MethodName)) ∈ W0 := W0_tab 498 (by decide +kernel) (by decide +kernel)
theorem q_499 : (Jvm.Cond.selects "SweptPaths" ({ cls := "SweptPaths", name := "clash", desc := "(I)I" } : Jvm.MethodName) ({ cls := "SweptPaths", name := "clash", desc := "(I)I" } : Jvm.MethodName)) ∈ W0 := W0_tab 499 (by decide +kernel) (by decide +kernel)
set_option maxRecDepth 20000 in
theorem q_500 : (Jvm.Cond.code ({ cls := "SweptPaths", name := "clash", desc := "(I)I" } : Jvm.MethodName) prog_1_method_11_code (2 : Nat) (Option.some Jvm.ClassFile.FieldType.int)) ∈ W0 := W0_tab 500 (by rfl) (by decide +kernel)
theorem q_501 : (Jvm.Cond.methodLink "SweptPathsLaw" (112 : Nat) ({ cls := "SweptPathsLaw", name := "part", desc := "(LSweptPaths;IIIZ[J)I" } : Jvm.MethodName)) ∈ W0 := W0_tab 501 (by decide +kernel) (by decide +kernel)
theorem q_502 : (Jvm.Cond.static ({ cls := "SweptPathsLaw", name := "part", desc := "(LSweptPaths;IIIZ[J)I" } : Jvm.MethodName)) ∈ W0 := W0_tab 502 (by decide +kernel) (by decide +kernel)
theorem q_504 : (Jvm.Cond.methodLink "SweptPathsLaw" (47 : Nat) ({ cls := "SweptPaths", name := "part", desc := "(IIIZ)I" } : Jvm.MethodName)) ∈ W0 := W0_tab 504 (by decide +kernel) (by decide +kernel)
theorem q_505 : (Jvm.Cond.instanceMethod ({ cls := "SweptPaths", name := "part", desc := "(IIIZ)I" } : Jvm.MethodName)) ∈ W0 := W0_tab 505 (by decide +kernel) (by decide +kernel)
theorem q_506 : (Jvm.Cond.selects "SweptPaths" ({ cls := "SweptPaths", name := "part", desc := "(IIIZ)I" } : Jvm.MethodName) ({ cls := "SweptPaths", name := "part", desc := "(IIIZ)I" } : Jvm.MethodName)) ∈ W0 := W0_tab 506 (by decide +kernel) (by decide +kernel)
set_option maxRecDepth 20000 in
theorem q_507 : (Jvm.Cond.code ({ cls := "SweptPaths", name := "part", desc := "(IIIZ)I" } : Jvm.MethodName) prog_1_method_13_code (6 : Nat) (Option.some Jvm.ClassFile.FieldType.int)) ∈ W0 := W0_tab 507 (by rfl) (by decide +kernel)
theorem q_508 : (Jvm.Cond.methodLink "SweptPaths" (164 : Nat) ({ cls := "SweptPaths$Plan", name := "add", desc := "(IIZ)Z" } : Jvm.MethodName)) ∈ W0 := W0_tab 508 (by decide +kernel) (by decide +kernel)
theorem q_509 : (Jvm.Cond.instanceMethod ({ cls := "SweptPaths$Plan", name := "add", desc := "(IIZ)Z" } : Jvm.MethodName)) ∈ W0 := W0_tab 509 (by decide +kernel) (by decide +kernel)
theorem q_510 : (Jvm.Cond.selects "SweptPaths$Plan" ({ cls := "SweptPaths$Plan", name := "add", desc := "(IIZ)Z" } : Jvm.MethodName) ({ cls := "SweptPaths$Plan", name := "add", desc := "(IIZ)Z" } : Jvm.MethodName)) ∈ W0 := W0_tab 510 (by decide +kernel) (by decide +kernel)
set_option maxRecDepth 20000 in
theorem q_511 : (Jvm.Cond.code ({ cls := "SweptPaths$Plan", name := "add", desc := "(IIZ)Z" } : Jvm.MethodName) prog_4_method_2_code (4 : Nat) (Option.some Jvm.ClassFile.FieldType.boolean)) ∈ W0 := W0_tab 511 (by rfl) (by decide +kernel)
theorem q_513 : (Jvm.Cond.methodLink "SweptPathsLaw" (116 : Nat) ({ cls := "SweptPathsLaw", name := "clear", desc := "(LSweptPaths;I[J)I" } : Jvm.MethodName)) ∈ W0 := W0_tab 513 (by decide +kernel) (by decide +kernel)
theorem q_514 : (Jvm.Cond.static ({ cls := "SweptPathsLaw", name := "clear", desc := "(LSweptPaths;I[J)I" } : Jvm.MethodName)) ∈ W0 := W0_tab 514 (by decide +kernel) (by decide +kernel)
theorem q_516 : (Jvm.Cond.methodLink "SweptPathsLaw" (51 : Nat) ({ cls := "SweptPaths", name := "clear", desc := "(I)I" } : Jvm.MethodName)) ∈ W0 := W0_tab 516 (by decide +kernel) (by decide +kernel)
theorem q_517 : (Jvm.Cond.instanceMethod ({ cls := "SweptPaths", name := "clear", desc := "(I)I" } : Jvm.MethodName)) ∈ W0 := W0_tab 517 (by decide +kernel) (by decide +kernel)
theorem q_518 : (Jvm.Cond.selects "SweptPaths" ({ cls := "SweptPaths", name := "clear", desc := "(I)I" } : Jvm.MethodName) ({ cls := "SweptPaths", name := "clear", desc := "(I)I" } : Jvm.MethodName)) ∈ W0 := W0_tab 518 (by decide +kernel) (by decide +kernel)
set_option maxRecDepth 20000 in
theorem q_519 : (Jvm.Cond.code ({ cls := "SweptPaths", name := "clear", desc := "(I)I" } : Jvm.MethodName) prog_1_method_14_code (3 : Nat) (Option.some Jvm.ClassFile.FieldType.int)) ∈ W0 := W0_tab 519 (by rfl) (by decide +kernel)
theorem q_520 : (Jvm.Cond.methodLink "SweptPathsLaw" (119 : Nat) ({ cls := "SweptPathsLaw", name := "best", desc := "(LSweptPaths;[J)I" } : Jvm.MethodName)) ∈ W0 := W0_tab 520 (by decide +kernel) (by decide +kernel)
theorem q_521 : (Jvm.Cond.static ({ cls := "SweptPathsLaw", name := "best", desc := "(LSweptPaths;[J)I" } : Jvm.MethodName)) ∈ W0 := W0_tab 521 (by decide +kernel) (by decide +kernel)
theorem q_523 : (Jvm.Cond.methodLink "SweptPathsLaw" (54 : Nat) ({ cls := "SweptPaths", name := "best", desc := "()I" } : Jvm.MethodName)) ∈ W0 := W0_tab 523 (by decide +kernel) (by decide +kernel)
theorem q_524 : (Jvm.Cond.instanceMethod ({ cls := "SweptPaths", name := "best", desc := "()I" } : Jvm.MethodName)) ∈ W0 := W0_tab 524 (by decide +kernel) (by decide +kernel)
theorem q_525 : (Jvm.Cond.selects "SweptPaths" ({ cls := "SweptPaths", name := "best", desc := "()I" } : Jvm.MethodName) ({ cls := "SweptPaths", name := "best", desc := "()I" } : Jvm.MethodName)) ∈ W0 := W0_tab 525 (by decide +kernel) (by decide +kernel)
set_option maxRecDepth 20000 in
theorem q_526 : (Jvm.Cond.code ({ cls := "SweptPaths", name := "best", desc := "()I" } : Jvm.MethodName) prog_1_method_15_code (4 : Nat) (Option.some Jvm.ClassFile.FieldType.int)) ∈ W0 := W0_tab 526 (by rfl) (by decide +kernel)
theorem q_527 : (Jvm.Cond.methodLink "SweptPaths" (173 : Nat) ({ cls := "SweptPaths$Run", name := "follow", desc := "(LSweptPaths$Plan;)V" } : Jvm.MethodName)) ∈ W0 := W0_tab 527 (by decide +kernel) (by decide +kernel)
theorem q_528 : (Jvm.Cond.instanceMethod ({ cls := "SweptPaths$Run", name := "follow", desc := "(LSweptPaths$Plan;)V" } : Jvm.MethodName)) ∈ W0 := W0_tab 528 (by decide +kernel) (by decide +kernel)
theorem q_529 : (Jvm.Cond.selects "SweptPaths$Run" ({ cls := "SweptPaths$Run", name := "follow", desc := "(LSweptPaths$Plan;)V" } : Jvm.MethodName) ({ cls := "SweptPaths$Run", name := "follow", desc := "(LSweptPaths$Plan;)V" } : Jvm.MethodName)) ∈ W0 := W0_tab 529 (by decide +kernel) (by decide +kernel)
set_option maxRecDepth 20000 in
theorem q_530 : (Jvm.Cond.code ({ cls := "SweptPaths$Run", name := "follow", desc := "(LSweptPaths$Plan;)V" } : Jvm.MethodName) prog_6_method_3_code (3 : Nat) (Option.none : Option Jvm.ClassFile.FieldType)) ∈ W0 := W0_tab 530 (by rfl) (by decide +kernel)
theorem q_531 : (Jvm.Cond.methodLink "SweptPaths$Run" (84 : Nat) ({ cls := "SweptPaths$Run", name := "begin", desc := "()V" } : Jvm.MethodName)) ∈ W0 := W0_tab 531 (by decide +kernel) (by decide +kernel)
theorem q_532 : (Jvm.Cond.methodLink "SweptPaths$Run" (103 : Nat) ({ cls := "SweptPaths$Run", name := "walk", desc := "(IIZ)V" } : Jvm.MethodName)) ∈ W0 := W0_tab 532 (by decide +kernel) (by decide +kernel)
theorem q_533 : (Jvm.Cond.methodLink "SweptPaths" (177 : Nat) ({ cls := "SweptPaths$Run", name := "isFaultless", desc := "()Z" } : Jvm.MethodName)) ∈ W0 := W0_tab 533 (by decide +kernel) (by decide +kernel)
theorem q_534 : (Jvm.Cond.instanceMethod ({ cls := "SweptPaths$Run", name := "isFaultless", desc := "()Z" } : Jvm.MethodName)) ∈ W0 := W0_tab 534 (by decide +kernel) (by decide +kernel)
theorem q_535 : (Jvm.Cond.selects "SweptPaths$Run" ({ cls := "SweptPaths$Run", name := "isFaultless", desc := "()Z" } : Jvm.MethodName) ({ cls := "SweptPaths$Run", name := "isFaultless", desc := "()Z" } : Jvm.MethodName)) ∈ W0 := W0_tab 535 (by decide +kernel) (by decide +kernel)
set_option maxRecDepth 20000 in
theorem q_536 : (Jvm.Cond.code ({ cls := "SweptPaths$Run", name := "isFaultless", desc := "()Z" } : Jvm.MethodName) prog_6_method_5_code (1 : Nat) (Option.some Jvm.ClassFile.FieldType.boolean)) ∈ W0 := W0_tab 536 (by rfl) (by decide +kernel)
theorem q_537 : (Jvm.Cond.methodLink "SweptPathsLaw" (123 : Nat) ({ cls := "SweptPathsLaw", name := "sweeps", desc := "(LSweptPaths;I[J)I" } : Jvm.MethodName)) ∈ W0 := W0_tab 537 (by decide +kernel) (by decide +kernel)
theorem q_538 : (Jvm.Cond.static ({ cls := "SweptPathsLaw", name := "sweeps", desc := "(LSweptPaths;I[J)I" } : Jvm.MethodName)) ∈ W0 := W0_tab 538 (by decide +kernel) (by decide +kernel)
theorem q_540 : (Jvm.Cond.methodLink "SweptPathsLaw" (58 : Nat) ({ cls := "SweptPaths", name := "sweeps", desc := "(I)I" } : Jvm.MethodName)) ∈ W0 := W0_tab 540 (by decide +kernel) (by decide +kernel)
theorem q_541 : (Jvm.Cond.instanceMethod ({ cls := "SweptPaths", name := "sweeps", desc := "(I)I" } : Jvm.MethodName)) ∈ W0 := W0_tab 541 (by decide +kernel) (by decide +kernel)
theorem q_542 : (Jvm.Cond.selects "SweptPaths" ({ cls := "SweptPaths", name := "sweeps", desc := "(I)I" } : Jvm.MethodName) ({ cls := "SweptPaths", name := "sweeps", desc := "(I)I" } : Jvm.MethodName)) ∈ W0 := W0_tab 542 (by decide +kernel) (by decide +kernel)
set_option maxRecDepth 20000 in
theorem q_543 : (Jvm.Cond.code ({ cls := "SweptPaths", name := "sweeps", desc := "(I)I" } : Jvm.MethodName) prog_1_method_16_code (2 : Nat) (Option.some Jvm.ClassFile.FieldType.int)) ∈ W0 := W0_tab 543 (by rfl) (by decide +kernel)
theorem q_544 : (Jvm.Cond.classLink "SweptPathsLaw" (62 : Nat) "SweptPathsModel") ∈ W0 := W0_tab 544 (by decide +kernel) (by decide +kernel)
theorem q_545 : (Jvm.Cond.instantiable "SweptPathsModel" (33 : Nat)) ∈ W0 := W0_tab 545 (by decide +kernel) (by decide +kernel)
theorem q_546 : (Jvm.Cond.methodLink "SweptPathsLaw" (64 : Nat) ({ cls := "SweptPathsModel", name := "<init>", desc := "()V" } : Jvm.MethodName)) ∈ W0 := W0_tab 546 (by decide +kernel) (by decide +kernel)
theorem q_547 : (Jvm.Cond.instanceMethod ({ cls := "SweptPathsModel", name := "<init>", desc := "()V" } : Jvm.MethodName)) ∈ W0 := W0_tab 547 (by decide +kernel) (by decide +kernel)
set_option maxRecDepth 20000 in
theorem q_548 : (Jvm.Cond.code ({ cls := "SweptPathsModel", name := "<init>", desc := "()V" } : Jvm.MethodName) prog_10_method_1_code (1 : Nat) (Option.none : Option Jvm.ClassFile.FieldType)) ∈ W0 := W0_tab 548 (by rfl) (by decide +kernel)
theorem q_549 : (Jvm.Cond.methodLink "SweptPathsModel" (1 : Nat) ({ cls := "java/lang/Object", name := "<init>", desc := "()V" } : Jvm.MethodName)) ∈ W0 := W0_tab 549 (by decide +kernel) (by decide +kernel)
theorem q_550 : (Jvm.Cond.fieldLink "SweptPathsModel" (87 : Nat) "SweptPathsModel" "thrown" "I") ∈ W0 := W0_tab 550 (by decide +kernel) (by decide +kernel)
theorem q_551 : (Jvm.Cond.fieldLink "SweptPathsModel" (7 : Nat) "SweptPathsModel" "cosines" "[I") ∈ W0 := W0_tab 551 (by decide +kernel) (by decide +kernel)
theorem q_552 : (Jvm.Cond.fieldLink "SweptPathsModel" (84 : Nat) "SweptPathsModel" "bodies" "I") ∈ W0 := W0_tab 552 (by decide +kernel) (by decide +kernel)
theorem q_553 : (Jvm.Cond.fieldLink "SweptPathsModel" (13 : Nat) "SweptPathsModel" "lengths" "[I") ∈ W0 := W0_tab 553 (by decide +kernel) (by decide +kernel)
theorem q_554 : (Jvm.Cond.fieldLink "SweptPathsModel" (16 : Nat) "SweptPathsModel" "hitches" "[I") ∈ W0 := W0_tab 554 (by decide +kernel) (by decide +kernel)
theorem q_555 : (Jvm.Cond.fieldLink "SweptPathsModel" (19 : Nat) "SweptPathsModel" "fronts" "[I") ∈ W0 := W0_tab 555 (by decide +kernel) (by decide +kernel)
theorem q_556 : (Jvm.Cond.fieldLink "SweptPathsModel" (22 : Nat) "SweptPathsModel" "rears" "[I") ∈ W0 := W0_tab 556 (by decide +kernel) (by decide +kernel)
theorem q_557 : (Jvm.Cond.fieldLink "SweptPathsModel" (25 : Nat) "SweptPathsModel" "halves" "[I") ∈ W0 := W0_tab 557 (by decide +kernel) (by decide +kernel)
theorem q_558 : (Jvm.Cond.fieldLink "SweptPathsModel" (129 : Nat) "SweptPathsModel" "startX" "I") ∈ W0 := W0_tab 558 (by decide +kernel) (by decide +kernel)
theorem q_559 : (Jvm.Cond.fieldLink "SweptPathsModel" (132 : Nat) "SweptPathsModel" "startY" "I") ∈ W0 := W0_tab 559 (by decide +kernel) (by decide +kernel)
theorem q_560 : (Jvm.Cond.fieldLink "SweptPathsModel" (135 : Nat) "SweptPathsModel" "startHeading" "I") ∈ W0 := W0_tab 560 (by decide +kernel) (by decide +kernel)
theorem q_561 : (Jvm.Cond.fieldLink "SweptPathsModel" (28 : Nat) "SweptPathsModel" "stepLength" "I") ∈ W0 := W0_tab 561 (by decide +kernel) (by decide +kernel)
theorem q_562 : (Jvm.Cond.fieldLink "SweptPathsModel" (119 : Nat) "SweptPathsModel" "poles" "I") ∈ W0 := W0_tab 562 (by decide +kernel) (by decide +kernel)
theorem q_563 : (Jvm.Cond.fieldLink "SweptPathsModel" (32 : Nat) "SweptPathsModel" "poleX" "[I") ∈ W0 := W0_tab 563 (by decide +kernel) (by decide +kernel)
theorem q_564 : (Jvm.Cond.fieldLink "SweptPathsModel" (35 : Nat) "SweptPathsModel" "poleY" "[I") ∈ W0 := W0_tab 564 (by decide +kernel) (by decide +kernel)
theorem q_565 : (Jvm.Cond.fieldLink "SweptPathsModel" (38 : Nat) "SweptPathsModel" "many" "[I") ∈ W0 := W0_tab 565 (by decide +kernel) (by decide +kernel)
theorem q_566 : (Jvm.Cond.fieldLink "SweptPathsModel" (41 : Nat) "SweptPathsModel" "turns" "[I") ∈ W0 := W0_tab 566 (by decide +kernel) (by decide +kernel)
theorem q_567 : (Jvm.Cond.fieldLink "SweptPathsModel" (44 : Nat) "SweptPathsModel" "counts" "[I") ∈ W0 := W0_tab 567 (by decide +kernel) (by decide +kernel)
theorem q_568 : (Jvm.Cond.fieldLink "SweptPathsModel" (47 : Nat) "SweptPathsModel" "ways" "[Z") ∈ W0 := W0_tab 568 (by decide +kernel) (by decide +kernel)
theorem q_569 : (Jvm.Cond.fieldLink "SweptPathsModel" (51 : Nat) "SweptPathsModel" "xs" "[I") ∈ W0 := W0_tab 569 (by decide +kernel) (by decide +kernel)
theorem q_570 : (Jvm.Cond.fieldLink "SweptPathsModel" (54 : Nat) "SweptPathsModel" "ys" "[I") ∈ W0 := W0_tab 570 (by decide +kernel) (by decide +kernel)
theorem q_571 : (Jvm.Cond.fieldLink "SweptPathsModel" (57 : Nat) "SweptPathsModel" "headings" "[I") ∈ W0 := W0_tab 571 (by decide +kernel) (by decide +kernel)
theorem q_572 : (Jvm.Cond.fieldLink "SweptPathsModel" (60 : Nat) "SweptPathsModel" "rests" "[I") ∈ W0 := W0_tab 572 (by decide +kernel) (by decide +kernel)
theorem q_573 : (Jvm.Cond.fieldLink "SweptPathsModel" (63 : Nat) "SweptPathsModel" "greatest" "[I") ∈ W0 := W0_tab 573 (by decide +kernel) (by decide +kernel)
theorem q_574 : (Jvm.Cond.fieldLink "SweptPathsModel" (122 : Nat) "SweptPathsModel" "made" "I") ∈ W0 := W0_tab 574 (by decide +kernel) (by decide +kernel)
theorem q_575 : (Jvm.Cond.fieldLink "SweptPathsModel" (125 : Nat) "SweptPathsModel" "stuck" "Z") ∈ W0 := W0_tab 575 (by decide +kernel) (by decide +kernel)
theorem q_576 : (Jvm.Cond.fieldLink "SweptPathsModel" (66 : Nat) "SweptPathsModel" "clashStep" "I") ∈ W0 := W0_tab 576 (by decide +kernel) (by decide +kernel)
theorem q_577 : (Jvm.Cond.fieldLink "SweptPathsModel" (69 : Nat) "SweptPathsModel" "clashBody" "I") ∈ W0 := W0_tab 577 (by decide +kernel) (by decide +kernel)
theorem q_578 : (Jvm.Cond.fieldLink "SweptPathsModel" (72 : Nat) "SweptPathsModel" "clashPole" "I") ∈ W0 := W0_tab 578 (by decide +kernel) (by decide +kernel)
theorem q_579 : (Jvm.Cond.fieldLink "SweptPathsModel" (116 : Nat) "SweptPathsModel" "cells" "I") ∈ W0 := W0_tab 579 (by decide +kernel) (by decide +kernel)
theorem q_580 : (Jvm.Cond.fieldLink "SweptPathsModel" (75 : Nat) "SweptPathsModel" "swept" "[Z") ∈ W0 := W0_tab 580 (by decide +kernel) (by decide +kernel)
theorem q_581 : (Jvm.Cond.fieldLink "SweptPathsModel" (78 : Nat) "SweptPathsModel" "asideNumbers" "[I") ∈ W0 := W0_tab 581 (by decide +kernel) (by decide +kernel)
theorem q_582 : (Jvm.Cond.fieldLink "SweptPathsModel" (81 : Nat) "SweptPathsModel" "asideCells" "[Z") ∈ W0 := W0_tab 582 (by decide +kernel) (by decide +kernel)
theorem q_583 : (Jvm.Cond.lays "SweptPathsModel" "SweptPathsModel" "thrown" "I") ∈ W0 := W0_tab 583 (by decide +kernel) (by decide +kernel)
theorem q_585 : (Jvm.Cond.laysFinal "SweptPathsModel" "SweptPathsModel" "cosines" "[I") ∈ W0 := W0_tab 585 (by decide +kernel) (by decide +kernel)
theorem q_587 : (Jvm.Cond.lays "SweptPathsModel" "SweptPathsModel" "bodies" "I") ∈ W0 := W0_tab 587 (by decide +kernel) (by decide +kernel)
theorem q_589 : (Jvm.Cond.laysFinal "SweptPathsModel" "SweptPathsModel" "lengths" "[I") ∈ W0 := W0_tab 589 (by decide +kernel) (by decide +kernel)
theorem q_591 : (Jvm.Cond.laysFinal "SweptPathsModel" "SweptPathsModel" "hitches" "[I") ∈ W0 := W0_tab 591 (by decide +kernel) (by decide +kernel)
theorem q_593 : (Jvm.Cond.laysFinal "SweptPathsModel" "SweptPathsModel" "fronts" "[I") ∈ W0 := W0_tab 593 (by decide +kernel) (by decide +kernel)
theorem q_595 : (Jvm.Cond.laysFinal "SweptPathsModel" "SweptPathsModel" "rears" "[I") ∈ W0 := W0_tab 595 (by decide +kernel) (by decide +kernel)
theorem q_597 : (Jvm.Cond.laysFinal "SweptPathsModel" "SweptPathsModel" "halves" "[I") ∈ W0 := W0_tab 597 (by decide +kernel) (by decide +kernel)
theorem q_599 : (Jvm.Cond.lays "SweptPathsModel" "SweptPathsModel" "startX" "I") ∈ W0 := W0_tab 599 (by decide +kernel) (by decide +kernel)
theorem q_601 : (Jvm.Cond.lays "SweptPathsModel" "SweptPathsModel" "startY" "I") ∈ W0 := W0_tab 601 (by decide +kernel) (by decide +kernel)
theorem q_603 : (Jvm.Cond.lays "SweptPathsModel" "SweptPathsModel" "startHeading" "I") ∈ W0 := W0_tab 603 (by decide +kernel) (by decide +kernel)
theorem q_605 : (Jvm.Cond.lays "SweptPathsModel" "SweptPathsModel" "stepLength" "I") ∈ W0 := W0_tab 605 (by decide +kernel) (by decide +kernel)
theorem q_607 : (Jvm.Cond.lays "SweptPathsModel" "SweptPathsModel" "poles" "I") ∈ W0 := W0_tab 607 (by decide +kernel) (by decide +kernel)
theorem q_609 : (Jvm.Cond.laysFinal "SweptPathsModel" "SweptPathsModel" "poleX" "[I") ∈ W0 := W0_tab 609 (by decide +kernel) (by decide +kernel)
theorem q_611 : (Jvm.Cond.laysFinal "SweptPathsModel" "SweptPathsModel" "poleY" "[I") ∈ W0 := W0_tab 611 (by decide +kernel) (by decide +kernel)
theorem q_613 : (Jvm.Cond.laysFinal "SweptPathsModel" "SweptPathsModel" "many" "[I") ∈ W0 := W0_tab 613 (by decide +kernel) (by decide +kernel)
theorem q_615 : (Jvm.Cond.laysFinal "SweptPathsModel" "SweptPathsModel" "turns" "[I") ∈ W0 := W0_tab 615 (by decide +kernel) (by decide +kernel)
theorem q_617 : (Jvm.Cond.laysFinal "SweptPathsModel" "SweptPathsModel" "counts" "[I") ∈ W0 := W0_tab 617 (by decide +kernel) (by decide +kernel)
theorem q_619 : (Jvm.Cond.laysFinal "SweptPathsModel" "SweptPathsModel" "ways" "[Z") ∈ W0 := W0_tab 619 (by decide +kernel) (by decide +kernel)
theorem q_621 : (Jvm.Cond.laysFinal "SweptPathsModel" "SweptPathsModel" "xs" "[I") ∈ W0 := W0_tab 621 (by decide +kernel) (by decide +kernel)
theorem q_623 : (Jvm.Cond.laysFinal "SweptPathsModel" "SweptPathsModel" "ys" "[I") ∈ W0 := W0_tab 623 (by decide +kernel) (by decide +kernel)
theorem q_625 : (Jvm.Cond.laysFinal "SweptPathsModel" "SweptPathsModel" "headings" "[I") ∈ W0 := W0_tab 625 (by decide +kernel) (by decide +kernel)
theorem q_627 : (Jvm.Cond.laysFinal "SweptPathsModel" "SweptPathsModel" "rests" "[I") ∈ W0 := W0_tab 627 (by decide +kernel) (by decide +kernel)
theorem q_629 : (Jvm.Cond.laysFinal "SweptPathsModel" "SweptPathsModel" "greatest" "[I") ∈ W0 := W0_tab 629 (by decide +kernel) (by decide +kernel)
theorem q_631 : (Jvm.Cond.lays "SweptPathsModel" "SweptPathsModel" "made" "I") ∈ W0 := W0_tab 631 (by decide +kernel) (by decide +kernel)
theorem q_633 : (Jvm.Cond.lays "SweptPathsModel" "SweptPathsModel" "stuck" "Z") ∈ W0 := W0_tab 633 (by decide +kernel) (by decide +kernel)
theorem q_635 : (Jvm.Cond.lays "SweptPathsModel" "SweptPathsModel" "clashStep" "I") ∈ W0 := W0_tab 635 (by decide +kernel) (by decide +kernel)
theorem q_637 : (Jvm.Cond.lays "SweptPathsModel" "SweptPathsModel" "clashBody" "I") ∈ W0 := W0_tab 637 (by decide +kernel) (by decide +kernel)
theorem q_639 : (Jvm.Cond.lays "SweptPathsModel" "SweptPathsModel" "clashPole" "I") ∈ W0 := W0_tab 639 (by decide +kernel) (by decide +kernel)
theorem q_641 : (Jvm.Cond.lays "SweptPathsModel" "SweptPathsModel" "cells" "I") ∈ W0 := W0_tab 641 (by decide +kernel) (by decide +kernel)
theorem q_643 : (Jvm.Cond.laysFinal "SweptPathsModel" "SweptPathsModel" "swept" "[Z") ∈ W0 := W0_tab 643 (by decide +kernel) (by decide +kernel)
theorem q_645 : (Jvm.Cond.laysFinal "SweptPathsModel" "SweptPathsModel" "asideNumbers" "[I") ∈ W0 := W0_tab 645 (by decide +kernel) (by decide +kernel)
theorem q_647 : (Jvm.Cond.laysFinal "SweptPathsModel" "SweptPathsModel" "asideCells" "[Z") ∈ W0 := W0_tab 647 (by decide +kernel) (by decide +kernel)
theorem q_650 : (Jvm.Cond.methodLink "SweptPathsLaw" (71 : Nat) ({ cls := "SweptPathsModel", name := "thrown", desc := "()I" } : Jvm.MethodName)) ∈ W0 := W0_tab 650 (by decide +kernel) (by decide +kernel)
theorem q_651 : (Jvm.Cond.instanceMethod ({ cls := "SweptPathsModel", name := "thrown", desc := "()I" } : Jvm.MethodName)) ∈ W0 := W0_tab 651 (by decide +kernel) (by decide +kernel)
theorem q_652 : (Jvm.Cond.selects "SweptPathsModel" ({ cls := "SweptPathsModel", name := "thrown", desc := "()I" } : Jvm.MethodName) ({ cls := "SweptPathsModel", name := "thrown", desc := "()I" } : Jvm.MethodName)) ∈ W0 := W0_tab 652 (by decide +kernel) (by decide +kernel)
set_option maxRecDepth 20000 in
theorem q_653 : (Jvm.Cond.code ({ cls := "SweptPathsModel", name := "thrown", desc := "()I" } : Jvm.MethodName) prog_10_method_2_code (1 : Nat) (Option.some Jvm.ClassFile.FieldType.int)) ∈ W0 := W0_tab 653 (by rfl) (by decide +kernel)
theorem q_654 : (Jvm.Cond.methodLink "SweptPathsLaw" (70 : Nat) ({ cls := "SweptPathsModel", name := "body", desc := "(IIIII)I" } : Jvm.MethodName)) ∈ W0 := W0_tab 654 (by decide +kernel) (by decide +kernel)
theorem q_655 : (Jvm.Cond.instanceMethod ({ cls := "SweptPathsModel", name := "body", desc := "(IIIII)I" } : Jvm.MethodName)) ∈ W0 := W0_tab 655 (by decide +kernel) (by decide +kernel)
theorem q_656 : (Jvm.Cond.selects "SweptPathsModel" ({ cls := "SweptPathsModel", name := "body", desc := "(IIIII)I" } : Jvm.MethodName) ({ cls := "SweptPathsModel", name := "body", desc := "(IIIII)I" } : Jvm.MethodName)) ∈ W0 := W0_tab 656 (by decide +kernel) (by decide +kernel)
set_option maxRecDepth 20000 in
theorem q_657 : (Jvm.Cond.code ({ cls := "SweptPathsModel", name := "body", desc := "(IIIII)I" } : Jvm.MethodName) prog_10_method_17_code (7 : Nat) (Option.some Jvm.ClassFile.FieldType.int)) ∈ W0 := W0_tab 657 (by rfl) (by decide +kernel)
theorem q_658 : (Jvm.Cond.methodLink "SweptPathsModel" (152 : Nat) ({ cls := "SweptPathsModel", name := "in", desc := "(III)Z" } : Jvm.MethodName)) ∈ W0 := W0_tab 658 (by decide +kernel) (by decide +kernel)
theorem q_659 : (Jvm.Cond.static ({ cls := "SweptPathsModel", name := "in", desc := "(III)Z" } : Jvm.MethodName)) ∈ W0 := W0_tab 659 (by decide +kernel) (by decide +kernel)
set_option maxRecDepth 20000 in
theorem q_660 : (Jvm.Cond.code ({ cls := "SweptPathsModel", name := "in", desc := "(III)Z" } : Jvm.MethodName) prog_10_method_3_code (3 : Nat) (Option.some Jvm.ClassFile.FieldType.boolean)) ∈ W0 := W0_tab 660 (by rfl) (by decide +kernel)
theorem q_661 : (Jvm.Cond.methodLink "SweptPathsModel" (155 : Nat) ({ cls := "SweptPathsModel", name := "beginAnew", desc := "()V" } : Jvm.MethodName)) ∈ W0 := W0_tab 661 (by decide +kernel) (by decide +kernel)
theorem q_663 : (Jvm.Cond.instanceMethod ({ cls := "SweptPathsModel", name := "beginAnew", desc := "()V" } : Jvm.MethodName)) ∈ W0 := W0_tab 663 (by decide +kernel) (by decide +kernel)
set_option maxRecDepth 20000 in
theorem q_664 : (Jvm.Cond.code ({ cls := "SweptPathsModel", name := "beginAnew", desc := "()V" } : Jvm.MethodName) prog_10_method_14_code (2 : Nat) (Option.none : Option Jvm.ClassFile.FieldType)) ∈ W0 := W0_tab 664 (by rfl) (by decide +kernel)
theorem q_665 : (Jvm.Cond.methodLink "SweptPathsModel" (138 : Nat) ({ cls := "SweptPathsModel", name := "hang", desc := "(I)V" } : Jvm.MethodName)) ∈ W0 := W0_tab 665 (by decide +kernel) (by decide +kernel)
theorem q_667 : (Jvm.Cond.instanceMethod ({ cls := "SweptPathsModel", name := "hang", desc := "(I)V" } : Jvm.MethodName)) ∈ W0 := W0_tab 667 (by decide +kernel) (by decide +kernel)
set_option maxRecDepth 20000 in
theorem q_668 : (Jvm.Cond.code ({ cls := "SweptPathsModel", name := "hang", desc := "(I)V" } : Jvm.MethodName) prog_10_method_8_code (3 : Nat) (Option.none : Option Jvm.ClassFile.FieldType)) ∈ W0 := W0_tab 668 (by rfl) (by decide +kernel)
theorem q_669 : (Jvm.Cond.methodLink "SweptPathsModel" (90 : Nat) ({ cls := "SweptPathsModel", name := "dx", desc := "(I)I" } : Jvm.MethodName)) ∈ W0 := W0_tab 669 (by decide +kernel) (by decide +kernel)
theorem q_671 : (Jvm.Cond.instanceMethod ({ cls := "SweptPathsModel", name := "dx", desc := "(I)I" } : Jvm.MethodName)) ∈ W0 := W0_tab 671 (by decide +kernel) (by decide +kernel)
set_option maxRecDepth 20000 in
theorem q_672 : (Jvm.Cond.code ({ cls := "SweptPathsModel", name := "dx", desc := "(I)I" } : Jvm.MethodName) prog_10_method_4_code (3 : Nat) (Option.some Jvm.ClassFile.FieldType.int)) ∈ W0 := W0_tab 672 (by rfl) (by decide +kernel)
theorem q_673 : (Jvm.Cond.methodLink "SweptPathsModel" (97 : Nat) ({ cls := "SweptPathsModel", name := "dy", desc := "(I)I" } : Jvm.MethodName)) ∈ W0 := W0_tab 673 (by decide +kernel) (by decide +kernel)
theorem q_675 : (Jvm.Cond.instanceMethod ({ cls := "SweptPathsModel", name := "dy", desc := "(I)I" } : Jvm.MethodName)) ∈ W0 := W0_tab 675 (by decide +kernel) (by decide +kernel)
set_option maxRecDepth 20000 in
theorem q_676 : (Jvm.Cond.code ({ cls := "SweptPathsModel", name := "dy", desc := "(I)I" } : Jvm.MethodName) prog_10_method_5_code (2 : Nat) (Option.some Jvm.ClassFile.FieldType.int)) ∈ W0 := W0_tab 676 (by rfl) (by decide +kernel)
theorem q_677 : (Jvm.Cond.methodLink "SweptPathsModel" (142 : Nat) ({ cls := "SweptPathsModel", name := "look", desc := "()V" } : Jvm.MethodName)) ∈ W0 := W0_tab 677 (by decide +kernel) (by decide +kernel)
theorem q_679 : (Jvm.Cond.instanceMethod ({ cls := "SweptPathsModel", name := "look", desc := "()V" } : Jvm.MethodName)) ∈ W0 := W0_tab 679 (by decide +kernel) (by decide +kernel)
set_option maxRecDepth 20000 in
theorem q_680 : (Jvm.Cond.code ({ cls := "SweptPathsModel", name := "look", desc := "()V" } : Jvm.MethodName) prog_10_method_13_code (9 : Nat) (Option.none : Option Jvm.ClassFile.FieldType)) ∈ W0 := W0_tab 680 (by rfl) (by decide +kernel)
theorem q_681 : (Jvm.Cond.methodLink "SweptPathsModel" (106 : Nat) ({ cls := "SweptPathsModel", name := "cellOf", desc := "(I)I" } : Jvm.MethodName)) ∈ W0 := W0_tab 681 (by decide +kernel) (by decide +kernel)
theorem q_682 : (Jvm.Cond.static ({ cls := "SweptPathsModel", name := "cellOf", desc := "(I)I" } : Jvm.MethodName)) ∈ W0 := W0_tab 682 (by decide +kernel) (by decide +kernel)
set_option maxRecDepth 20000 in
theorem q_683 : (Jvm.Cond.code ({ cls := "SweptPathsModel", name := "cellOf", desc := "(I)I" } : Jvm.MethodName) prog_10_method_10_code (2 : Nat) (Option.some Jvm.ClassFile.FieldType.int)) ∈ W0 := W0_tab 683 (by rfl) (by decide +kernel)
theorem q_684 : (Jvm.Cond.methodLink "SweptPathsModel" (102 : Nat) ({ cls := "SweptPathsModel", name := "down", desc := "(II)I" } : Jvm.MethodName)) ∈ W0 := W0_tab 684 (by decide +kernel) (by decide +kernel)
theorem q_685 : (Jvm.Cond.static ({ cls := "SweptPathsModel", name := "down", desc := "(II)I" } : Jvm.MethodName)) ∈ W0 := W0_tab 685 (by decide +kernel) (by decide +kernel)
set_option maxRecDepth 20000 in
theorem q_686 : (Jvm.Cond.code ({ cls := "SweptPathsModel", name := "down", desc := "(II)I" } : Jvm.MethodName) prog_10_method_11_code (3 : Nat) (Option.some Jvm.ClassFile.FieldType.int)) ∈ W0 := W0_tab 686 (by rfl) (by decide +kernel)
theorem q_687 : (Jvm.Cond.methodLink "SweptPathsModel" (109 : Nat) ({ cls := "SweptPathsModel", name := "within", desc := "(I)I" } : Jvm.MethodName)) ∈ W0 := W0_tab 687 (by decide +kernel) (by decide +kernel)
theorem q_688 : (Jvm.Cond.static ({ cls := "SweptPathsModel", name := "within", desc := "(I)I" } : Jvm.MethodName)) ∈ W0 := W0_tab 688 (by decide +kernel) (by decide +kernel)
set_option maxRecDepth 20000 in
theorem q_689 : (Jvm.Cond.code ({ cls := "SweptPathsModel", name := "within", desc := "(I)I" } : Jvm.MethodName) prog_10_method_12_code (1 : Nat) (Option.some Jvm.ClassFile.FieldType.int)) ∈ W0 := W0_tab 689 (by rfl) (by decide +kernel)
theorem q_690 : (Jvm.Cond.methodLink "SweptPathsModel" (112 : Nat) ({ cls := "SweptPathsModel", name := "covers", desc := "(III)Z" } : Jvm.MethodName)) ∈ W0 := W0_tab 690 (by decide +kernel) (by decide +kernel)
theorem q_692 : (Jvm.Cond.instanceMethod ({ cls := "SweptPathsModel", name := "covers", desc := "(III)Z" } : Jvm.MethodName)) ∈ W0 := W0_tab 692 (by decide +kernel) (by decide +kernel)
set_option maxRecDepth 20000 in
theorem q_693 : (Jvm.Cond.code ({ cls := "SweptPathsModel", name := "covers", desc := "(III)Z" } : Jvm.MethodName) prog_10_method_9_code (16 : Nat) (Option.some Jvm.ClassFile.FieldType.boolean)) ∈ W0 := W0_tab 693 (by rfl) (by decide +kernel)
theorem q_694 : (Jvm.Cond.constantLong "SweptPathsModel" (100 : Nat) (16777216 : Int64)) ∈ W0 := W0_tab 694 (by decide +kernel) (by decide +kernel)
theorem q_695 : (Jvm.Cond.methodLink "SweptPathsLaw" (77 : Nat) ({ cls := "SweptPathsModel", name := "start", desc := "(III)V" } : Jvm.MethodName)) ∈ W0 := W0_tab 695 (by decide +kernel) (by decide +kernel)
theorem q_696 : (Jvm.Cond.instanceMethod ({ cls := "SweptPathsModel", name := "start", desc := "(III)V" } : Jvm.MethodName)) ∈ W0 := W0_tab 696 (by decide +kernel) (by decide +kernel)
theorem q_697 : (Jvm.Cond.selects "SweptPathsModel" ({ cls := "SweptPathsModel", name := "start", desc := "(III)V" } : Jvm.MethodName) ({ cls := "SweptPathsModel", name := "start", desc := "(III)V" } : Jvm.MethodName)) ∈ W0 := W0_tab 697 (by decide +kernel) (by decide +kernel)
set_option maxRecDepth 20000 in
theorem q_698 : (Jvm.Cond.code ({ cls := "SweptPathsModel", name := "start", desc := "(III)V" } : Jvm.MethodName) prog_10_method_18_code (4 : Nat) (Option.none : Option Jvm.ClassFile.FieldType)) ∈ W0 := W0_tab 698 (by rfl) (by decide +kernel)
theorem q_699 : (Jvm.Cond.methodLink "SweptPathsLaw" (81 : Nat) ({ cls := "SweptPathsModel", name := "step", desc := "(I)I" } : Jvm.MethodName)) ∈ W0 := W0_tab 699 (by decide +kernel) (by decide +kernel)
theorem q_700 : (Jvm.Cond.instanceMethod ({ cls := "SweptPathsModel", name := "step", desc := "(I)I" } : Jvm.MethodName)) ∈ W0 := W0_tab 700 (by decide +kernel) (by decide +kernel)
theorem q_701 : (Jvm.Cond.selects "SweptPathsModel" ({ cls := "SweptPathsModel", name := "step", desc := "(I)I" } : Jvm.MethodName) ({ cls := "SweptPathsModel", name := "step", desc := "(I)I" } : Jvm.MethodName)) ∈ W0 := W0_tab 701 (by decide +kernel) (by decide +kernel)
set_option maxRecDepth 20000 in
theorem q_702 : (Jvm.Cond.code ({ cls := "SweptPathsModel", name := "step", desc := "(I)I" } : Jvm.MethodName) prog_10_method_19_code (3 : Nat) (Option.some Jvm.ClassFile.FieldType.int)) ∈ W0 := W0_tab 702 (by rfl) (by decide +kernel)
theorem q_703 : (Jvm.Cond.methodLink "SweptPathsLaw" (85 : Nat) ({ cls := "SweptPathsModel", name := "pole", desc := "(II)I" } : Jvm.MethodName)) ∈ W0 := W0_tab 703 (by decide +kernel) (by decide +kernel)
theorem q_704 : (Jvm.Cond.instanceMethod ({ cls := "SweptPathsModel", name := "pole", desc := "(II)I" } : Jvm.MethodName)) ∈ W0 := W0_tab 704 (by decide +kernel) (by decide +kernel)
theorem q_705 : (Jvm.Cond.selects "SweptPathsModel" ({ cls := "SweptPathsModel", name := "pole", desc := "(II)I" } : Jvm.MethodName) ({ cls := "SweptPathsModel", name := "pole", desc := "(II)I" } : Jvm.MethodName)) ∈ W0 := W0_tab 705 (by decide +kernel) (by decide +kernel)
set_option maxRecDepth 20000 in
theorem q_706 : (Jvm.Cond.code ({ cls := "SweptPathsModel", name := "pole", desc := "(II)I" } : Jvm.MethodName) prog_10_method_20_code (3 : Nat) (Option.some Jvm.ClassFile.FieldType.int)) ∈ W0 := W0_tab 706 (by rfl) (by decide +kernel)
theorem q_707 : (Jvm.Cond.methodLink "SweptPathsLaw" (89 : Nat) ({ cls := "SweptPathsModel", name := "go", desc := "(IIZ)I" } : Jvm.MethodName)) ∈ W0 := W0_tab 707 (by decide +kernel) (by decide +kernel)
theorem q_708 : (Jvm.Cond.instanceMethod ({ cls := "SweptPathsModel", name := "go", desc := "(IIZ)I" } : Jvm.MethodName)) ∈ W0 := W0_tab 708 (by decide +kernel) (by decide +kernel)
theorem q_709 : (Jvm.Cond.selects "SweptPathsModel" ({ cls := "SweptPathsModel", name := "go", desc := "(IIZ)I" } : Jvm.MethodName) ({ cls := "SweptPathsModel", name := "go", desc := "(IIZ)I" } : Jvm.MethodName)) ∈ W0 := W0_tab 709 (by decide +kernel) (by decide +kernel)
set_option maxRecDepth 20000 in
theorem q_710 : (Jvm.Cond.code ({ cls := "SweptPathsModel", name := "go", desc := "(IIZ)I" } : Jvm.MethodName) prog_10_method_21_code (4 : Nat) (Option.some Jvm.ClassFile.FieldType.int)) ∈ W0 := W0_tab 710 (by rfl) (by decide +kernel)
theorem q_711 : (Jvm.Cond.methodLink "SweptPathsModel" (158 : Nat) ({ cls := "SweptPathsModel", name := "goOn", desc := "(IIZ)V" } : Jvm.MethodName)) ∈ W0 := W0_tab 711 (by decide +kernel) (by decide +kernel)
theorem q_713 : (Jvm.Cond.instanceMethod ({ cls := "SweptPathsModel", name := "goOn", desc := "(IIZ)V" } : Jvm.MethodName)) ∈ W0 := W0_tab 713 (by decide +kernel) (by decide +kernel)
set_option maxRecDepth 20000 in
theorem q_714 : (Jvm.Cond.code ({ cls := "SweptPathsModel", name := "goOn", desc := "(IIZ)V" } : Jvm.MethodName) prog_10_method_16_code (5 : Nat) (Option.none : Option Jvm.ClassFile.FieldType)) ∈ W0 := W0_tab 714 (by rfl) (by decide +kernel)
theorem q_715 : (Jvm.Cond.methodLink "SweptPathsModel" (148 : Nat) ({ cls := "SweptPathsModel", name := "move", desc := "(IZ)V" } : Jvm.MethodName)) ∈ W0 := W0_tab 715 (by decide +kernel) (by decide +kernel)
theorem q_717 : (Jvm.Cond.instanceMethod ({ cls := "SweptPathsModel", name := "move", desc := "(IZ)V" } : Jvm.MethodName)) ∈ W0 := W0_tab 717 (by decide +kernel) (by decide +kernel)
set_option maxRecDepth 20000 in
theorem q_718 : (Jvm.Cond.code ({ cls := "SweptPathsModel", name := "move", desc := "(IZ)V" } : Jvm.MethodName) prog_10_method_15_code (7 : Nat) (Option.none : Option Jvm.ClassFile.FieldType)) ∈ W0 := W0_tab 718 (by rfl) (by decide +kernel)
theorem q_719 : (Jvm.Cond.methodLink "SweptPathsModel" (145 : Nat) ({ cls := "SweptPathsModel", name := "askewOf", desc := "(I)I" } : Jvm.MethodName)) ∈ W0 := W0_tab 719 (by decide +kernel) (by decide +kernel)
theorem q_721 : (Jvm.Cond.instanceMethod ({ cls := "SweptPathsModel", name := "askewOf", desc := "(I)I" } : Jvm.MethodName)) ∈ W0 := W0_tab 721 (by decide +kernel) (by decide +kernel)
set_option maxRecDepth 20000 in
theorem q_722 : (Jvm.Cond.code ({ cls := "SweptPathsModel", name := "askewOf", desc := "(I)I" } : Jvm.MethodName) prog_10_method_7_code (2 : Nat) (Option.some Jvm.ClassFile.FieldType.int)) ∈ W0 := W0_tab 722 (by rfl) (by decide +kernel)
theorem q_723 : (Jvm.Cond.methodLink "SweptPathsModel" (94 : Nat) ({ cls := "SweptPathsModel", name := "wrapped", desc := "(I)I" } : Jvm.MethodName)) ∈ W0 := W0_tab 723 (by decide +kernel) (by decide +kernel)
theorem q_724 : (Jvm.Cond.static ({ cls := "SweptPathsModel", name := "wrapped", desc := "(I)I" } : Jvm.MethodName)) ∈ W0 := W0_tab 724 (by decide +kernel) (by decide +kernel)
set_option maxRecDepth 20000 in
theorem q_725 : (Jvm.Cond.code ({ cls := "SweptPathsModel", name := "wrapped", desc := "(I)I" } : Jvm.MethodName) prog_10_method_6_code (1 : Nat) (Option.some Jvm.ClassFile.FieldType.int)) ∈ W0 := W0_tab 725 (by rfl) (by decide +kernel)
theorem q_726 : (Jvm.Cond.methodLink "SweptPathsLaw" (92 : Nat) ({ cls := "SweptPathsModel", name := "told", desc := "(II)I" } : Jvm.MethodName)) ∈ W0 := W0_tab 726 (by decide +kernel) (by decide +kernel)
theorem q_727 : (Jvm.Cond.instanceMethod ({ cls := "SweptPathsModel", name := "told", desc := "(II)I" } : Jvm.MethodName)) ∈ W0 := W0_tab 727 (by decide +kernel) (by decide +kernel)
theorem q_728 : (Jvm.Cond.selects "SweptPathsModel" ({ cls := "SweptPathsModel", name := "told", desc := "(II)I" } : Jvm.MethodName) ({ cls := "SweptPathsModel", name := "told", desc := "(II)I" } : Jvm.MethodName)) ∈ W0 := W0_tab 728 (by decide +kernel) (by decide +kernel)
set_option maxRecDepth 20000 in
theorem q_729 : (Jvm.Cond.code ({ cls := "SweptPathsModel", name := "told", desc := "(II)I" } : Jvm.MethodName) prog_10_method_22_code (3 : Nat) (Option.some Jvm.ClassFile.FieldType.int)) ∈ W0 := W0_tab 729 (by rfl) (by decide +kernel)
theorem q_730 : (Jvm.Cond.methodLink "SweptPathsLaw" (96 : Nat) ({ cls := "SweptPathsModel", name := "corner", desc := "(III)I" } : Jvm.MethodName)) ∈ W0 := W0_tab 730 (by decide +kernel) (by decide +kernel)
theorem q_731 : (Jvm.Cond.instanceMethod ({ cls := "SweptPathsModel", name := "corner", desc := "(III)I" } : Jvm.MethodName)) ∈ W0 := W0_tab 731 (by decide +kernel) (by decide +kernel)
theorem q_732 : (Jvm.Cond.selects "SweptPathsModel" ({ cls := "SweptPathsModel", name := "corner", desc := "(III)I" } : Jvm.MethodName) ({ cls := "SweptPathsModel", name := "corner", desc := "(III)I" } : Jvm.MethodName)) ∈ W0 := W0_tab 732 (by decide +kernel) (by decide +kernel)
set_option maxRecDepth 20000 in
theorem q_733 : (Jvm.Cond.code ({ cls := "SweptPathsModel", name := "corner", desc := "(III)I" } : Jvm.MethodName) prog_10_method_23_code (8 : Nat) (Option.some Jvm.ClassFile.FieldType.int)) ∈ W0 := W0_tab 733 (by rfl) (by decide +kernel)
theorem q_734 : (Jvm.Cond.methodLink "SweptPathsLaw" (100 : Nat) ({ cls := "SweptPathsModel", name := "swept", desc := "()I" } : Jvm.MethodName)) ∈ W0 := W0_tab 734 (by decide +kernel) (by decide +kernel)
theorem q_735 : (Jvm.Cond.instanceMethod ({ cls := "SweptPathsModel", name := "swept", desc := "()I" } : Jvm.MethodName)) ∈ W0 := W0_tab 735 (by decide +kernel) (by decide +kernel)
theorem q_736 : (Jvm.Cond.selects "SweptPathsModel" ({ cls := "SweptPathsModel", name := "swept", desc := "()I" } : Jvm.MethodName) ({ cls := "SweptPathsModel", name := "swept", desc := "()I" } : Jvm.MethodName)) ∈ W0 := W0_tab 736 (by decide +kernel) (by decide +kernel)
set_option maxRecDepth 20000 in
theorem q_737 : (Jvm.Cond.code ({ cls := "SweptPathsModel", name := "swept", desc := "()I" } : Jvm.MethodName) prog_10_method_24_code (1 : Nat) (Option.some Jvm.ClassFile.FieldType.int)) ∈ W0 := W0_tab 737 (by rfl) (by decide +kernel)
theorem q_738 : (Jvm.Cond.methodLink "SweptPathsLaw" (103 : Nat) ({ cls := "SweptPathsModel", name := "cell", desc := "(II)Z" } : Jvm.MethodName)) ∈ W0 := W0_tab 738 (by decide +kernel) (by decide +kernel)
theorem q_739 : (Jvm.Cond.instanceMethod ({ cls := "SweptPathsModel", name := "cell", desc := "(II)Z" } : Jvm.MethodName)) ∈ W0 := W0_tab 739 (by decide +kernel) (by decide +kernel)
theorem q_740 : (Jvm.Cond.selects "SweptPathsModel" ({ cls := "SweptPathsModel", name := "cell", desc := "(II)Z" } : Jvm.MethodName) ({ cls := "SweptPathsModel", name := "cell", desc := "(II)Z" } : Jvm.MethodName)) ∈ W0 := W0_tab 740 (by decide +kernel) (by decide +kernel)
set_option maxRecDepth 20000 in
theorem q_741 : (Jvm.Cond.code ({ cls := "SweptPathsModel", name := "cell", desc := "(II)Z" } : Jvm.MethodName) prog_10_method_25_code (3 : Nat) (Option.some Jvm.ClassFile.FieldType.boolean)) ∈ W0 := W0_tab 741 (by rfl) (by decide +kernel)
theorem q_742 : (Jvm.Cond.methodLink "SweptPathsLaw" (106 : Nat) ({ cls := "SweptPathsModel", name := "clash", desc := "(I)I" } : Jvm.MethodName)) ∈ W0 := W0_tab 742 (by decide +kernel) (by decide +kernel)
theorem q_743 : (Jvm.Cond.instanceMethod ({ cls := "SweptPathsModel", name := "clash", desc := "(I)I" } : Jvm.MethodName)) ∈ W0 := W0_tab 743 (by decide +kernel) (by decide +kernel)
theorem q_744 : (Jvm.Cond.selects "SweptPathsModel" ({ cls := "SweptPathsModel", name := "clash", desc := "(I)I" } : Jvm.MethodName) ({ cls := "SweptPathsModel", name := "clash", desc := "(I)I" } : Jvm.MethodName)) ∈ W0 := W0_tab 744 (by decide +kernel) (by decide +kernel)
set_option maxRecDepth 20000 in
theorem q_745 : (Jvm.Cond.code ({ cls := "SweptPathsModel", name := "clash", desc := "(I)I" } : Jvm.MethodName) prog_10_method_26_code (2 : Nat) (Option.some Jvm.ClassFile.FieldType.int)) ∈ W0 := W0_tab 745 (by rfl) (by decide +kernel)
theorem q_746 : (Jvm.Cond.methodLink "SweptPathsLaw" (111 : Nat) ({ cls := "SweptPathsModel", name := "isStuck", desc := "()Z" } : Jvm.MethodName)) ∈ W0 := W0_tab 746 (by decide +kernel) (by decide +kernel)
theorem q_747 : (Jvm.Cond.instanceMethod ({ cls := "SweptPathsModel", name := "isStuck", desc := "()Z" } : Jvm.MethodName)) ∈ W0 := W0_tab 747 (by decide +kernel) (by decide +kernel)
theorem q_748 : (Jvm.Cond.selects "SweptPathsModel" ({ cls := "SweptPathsModel", name := "isStuck", desc := "()Z" } : Jvm.MethodName) ({ cls := "SweptPathsModel", name := "isStuck", desc := "()Z" } : Jvm.MethodName)) ∈ W0 := W0_tab 748 (by decide +kernel) (by decide +kernel)
set_option maxRecDepth 20000 in
theorem q_749 : (Jvm.Cond.code ({ cls := "SweptPathsModel", name := "isStuck", desc := "()Z" } : Jvm.MethodName) prog_10_method_27_code (1 : Nat) (Option.some Jvm.ClassFile.FieldType.boolean)) ∈ W0 := W0_tab 749 (by rfl) (by decide +kernel)
theorem q_750 : (Jvm.Cond.methodLink "SweptPathsLaw" (115 : Nat) ({ cls := "SweptPathsModel", name := "part", desc := "(IIIZ)I" } : Jvm.MethodName)) ∈ W0 := W0_tab 750 (by decide +kernel) (by decide +kernel)
theorem q_751 : (Jvm.Cond.instanceMethod ({ cls := "SweptPathsModel", name := "part", desc := "(IIIZ)I" } : Jvm.MethodName)) ∈ W0 := W0_tab 751 (by decide +kernel) (by decide +kernel)
theorem q_752 : (Jvm.Cond.selects "SweptPathsModel" ({ cls := "SweptPathsModel", name := "part", desc := "(IIIZ)I" } : Jvm.MethodName) ({ cls := "SweptPathsModel", name := "part", desc := "(IIIZ)I" } : Jvm.MethodName)) ∈ W0 := W0_tab 752 (by decide +kernel) (by decide +kernel)
set_option maxRecDepth 20000 in
theorem q_753 : (Jvm.Cond.code ({ cls := "SweptPathsModel", name := "part", desc := "(IIIZ)I" } : Jvm.MethodName) prog_10_method_28_code (6 : Nat) (Option.some Jvm.ClassFile.FieldType.int)) ∈ W0 := W0_tab 753 (by rfl) (by decide +kernel)
theorem q_754 : (Jvm.Cond.methodLink "SweptPathsLaw" (118 : Nat) ({ cls := "SweptPathsModel", name := "clear", desc := "(I)I" } : Jvm.MethodName)) ∈ W0 := W0_tab 754 (by decide +kernel) (by decide +kernel)
theorem q_755 : (Jvm.Cond.instanceMethod ({ cls := "SweptPathsModel", name := "clear", desc := "(I)I" } : Jvm.MethodName)) ∈ W0 := W0_tab 755 (by decide +kernel) (by decide +kernel)
theorem q_756 : (Jvm.Cond.selects "SweptPathsModel" ({ cls := "SweptPathsModel", name := "clear", desc := "(I)I" } : Jvm.MethodName) ({ cls := "SweptPathsModel", name := "clear", desc := "(I)I" } : Jvm.MethodName)) ∈ W0 := W0_tab 756 (by decide +kernel) (by decide +kernel)
set_option maxRecDepth 20000 in
theorem q_757 : (Jvm.Cond.code ({ cls := "SweptPathsModel", name := "clear", desc := "(I)I" } : Jvm.MethodName) prog_10_method_29_code (3 : Nat) (Option.some Jvm.ClassFile.FieldType.int)) ∈ W0 := W0_tab 757 (by rfl) (by decide +kernel)
theorem q_758 : (Jvm.Cond.methodLink "SweptPathsLaw" (122 : Nat) ({ cls := "SweptPathsModel", name := "best", desc := "()I" } : Jvm.MethodName)) ∈ W0 := W0_tab 758 (by decide +kernel) (by decide +kernel)
theorem q_759 : (Jvm.Cond.instanceMethod ({ cls := "SweptPathsModel", name := "best", desc := "()I" } : Jvm.MethodName)) ∈ W0 := W0_tab 759 (by decide +kernel) (by decide +kernel)
theorem q_760 : (Jvm.Cond.selects "SweptPathsModel" ({ cls := "SweptPathsModel", name := "best", desc := "()I" } : Jvm.MethodName) ({ cls := "SweptPathsModel", name := "best", desc := "()I" } : Jvm.MethodName)) ∈ W0 := W0_tab 760 (by decide +kernel) (by decide +kernel)
set_option maxRecDepth 20000 in
theorem q_761 : (Jvm.Cond.code ({ cls := "SweptPathsModel", name := "best", desc := "()I" } : Jvm.MethodName) prog_10_method_33_code (4 : Nat) (Option.some Jvm.ClassFile.FieldType.int)) ∈ W0 := W0_tab 761 (by rfl) (by decide +kernel)
theorem q_762 : (Jvm.Cond.methodLink "SweptPathsModel" (162 : Nat) ({ cls := "SweptPathsModel", name := "keepAside", desc := "()V" } : Jvm.MethodName)) ∈ W0 := W0_tab 762 (by decide +kernel) (by decide +kernel)
theorem q_764 : (Jvm.Cond.instanceMethod ({ cls := "SweptPathsModel", name := "keepAside", desc := "()V" } : Jvm.MethodName)) ∈ W0 := W0_tab 764 (by decide +kernel) (by decide +kernel)
set_option maxRecDepth 20000 in
theorem q_765 : (Jvm.Cond.code ({ cls := "SweptPathsModel", name := "keepAside", desc := "()V" } : Jvm.MethodName) prog_10_method_30_code (2 : Nat) (Option.none : Option Jvm.ClassFile.FieldType)) ∈ W0 := W0_tab 765 (by rfl) (by decide +kernel)
theorem q_766 : (Jvm.Cond.methodLink "SweptPathsModel" (165 : Nat) ({ cls := "SweptPathsModel", name := "goPlan", desc := "(I)V" } : Jvm.MethodName)) ∈ W0 := W0_tab 766 (by decide +kernel) (by decide +kernel)
theorem q_768 : (Jvm.Cond.instanceMethod ({ cls := "SweptPathsModel", name := "goPlan", desc := "(I)V" } : Jvm.MethodName)) ∈ W0 := W0_tab 768 (by decide +kernel) (by decide +kernel)
set_option maxRecDepth 20000 in
theorem q_769 : (Jvm.Cond.code ({ cls := "SweptPathsModel", name := "goPlan", desc := "(I)V" } : Jvm.MethodName) prog_10_method_32_code (4 : Nat) (Option.none : Option Jvm.ClassFile.FieldType)) ∈ W0 := W0_tab 769 (by rfl) (by decide +kernel)
theorem q_770 : (Jvm.Cond.methodLink "SweptPathsModel" (168 : Nat) ({ cls := "SweptPathsModel", name := "putBack", desc := "()V" } : Jvm.MethodName)) ∈ W0 := W0_tab 770 (by decide +kernel) (by decide +kernel)
theorem q_772 : (Jvm.Cond.instanceMethod ({ cls := "SweptPathsModel", name := "putBack", desc := "()V" } : Jvm.MethodName)) ∈ W0 := W0_tab 772 (by decide +kernel) (by decide +kernel)
set_option maxRecDepth 20000 in
theorem q_773 : (Jvm.Cond.code ({ cls := "SweptPathsModel", name := "putBack", desc := "()V" } : Jvm.MethodName) prog_10_method_31_code (2 : Nat) (Option.none : Option Jvm.ClassFile.FieldType)) ∈ W0 := W0_tab 773 (by rfl) (by decide +kernel)
theorem q_774 : (Jvm.Cond.methodLink "SweptPathsLaw" (125 : Nat) ({ cls := "SweptPathsModel", name := "sweeps", desc := "(I)I" } : Jvm.MethodName)) ∈ W0 := W0_tab 774 (by decide +kernel) (by decide +kernel)
theorem q_775 : (Jvm.Cond.instanceMethod ({ cls := "SweptPathsModel", name := "sweeps", desc := "(I)I" } : Jvm.MethodName)) ∈ W0 := W0_tab 775 (by decide +kernel) (by decide +kernel)
theorem q_776 : (Jvm.Cond.selects "SweptPathsModel" ({ cls := "SweptPathsModel", name := "sweeps", desc := "(I)I" } : Jvm.MethodName) ({ cls := "SweptPathsModel", name := "sweeps", desc := "(I)I" } : Jvm.MethodName)) ∈ W0 := W0_tab 776 (by decide +kernel) (by decide +kernel)
set_option maxRecDepth 20000 in
theorem q_777 : (Jvm.Cond.code ({ cls := "SweptPathsModel", name := "sweeps", desc := "(I)I" } : Jvm.MethodName) prog_10_method_34_code (3 : Nat) (Option.some Jvm.ClassFile.FieldType.int)) ∈ W0 := W0_tab 777 (by rfl) (by decide +kernel)
theorem s_0 : (Jvm.Cond.selects "java/lang/Throwable" ({ cls := "java/lang/Throwable", name := "fillInStackTrace", desc := "(I)Ljava/lang/Throwable;" } : Jvm.MethodName) ({ cls := "java/lang/Throwable", name := "fillInStackTrace", desc := "(I)Ljava/lang/Throwable;" } : Jvm.MethodName)) ∈ W0 := W0_sel 0 (by decide +kernel) (by decide +kernel)
theorem s_1 : (Jvm.Cond.selects "SweptPaths$Run" ({ cls := "SweptPaths$Run", name := "placeTrailers", desc := "()V" } : Jvm.MethodName) ({ cls := "SweptPaths$Run", name := "placeTrailers", desc := "()V" } : Jvm.MethodName)) ∈ W0 := W0_sel 1 (by decide +kernel) (by decide +kernel)
theorem s_2 : (Jvm.Cond.selects "SweptPaths$Run" ({ cls := "SweptPaths$Run", name := "lookRound", desc := "()V" } : Jvm.MethodName) ({ cls := "SweptPaths$Run", name := "lookRound", desc := "()V" } : Jvm.MethodName)) ∈ W0 := W0_sel 2 (by decide +kernel) (by decide +kernel)
theorem s_3 : (Jvm.Cond.selects "SweptPaths$Cells" ({ cls := "SweptPaths$Cells", name := "mark", desc := "(II)V" } : Jvm.MethodName) ({ cls := "SweptPaths$Cells", name := "mark", desc := "(II)V" } : Jvm.MethodName)) ∈ W0 := W0_sel 3 (by decide +kernel) (by decide +kernel)
theorem s_4 : (Jvm.Cond.selects "SweptPaths$Run" ({ cls := "SweptPaths$Run", name := "lookForPoles", desc := "(I)V" } : Jvm.MethodName) ({ cls := "SweptPaths$Run", name := "lookForPoles", desc := "(I)V" } : Jvm.MethodName)) ∈ W0 := W0_sel 4 (by decide +kernel) (by decide +kernel)
theorem s_5 : (Jvm.Cond.selects "SweptPaths" ({ cls := "SweptPaths", name := "demandSomeBody", desc := "()V" } : Jvm.MethodName) ({ cls := "SweptPaths", name := "demandSomeBody", desc := "()V" } : Jvm.MethodName)) ∈ W0 := W0_sel 5 (by decide +kernel) (by decide +kernel)
theorem s_6 : (Jvm.Cond.selects "SweptPaths$Run" ({ cls := "SweptPaths$Run", name := "move", desc := "(II)V" } : Jvm.MethodName) ({ cls := "SweptPaths$Run", name := "move", desc := "(II)V" } : Jvm.MethodName)) ∈ W0 := W0_sel 6 (by decide +kernel) (by decide +kernel)
theorem s_7 : (Jvm.Cond.selects "SweptPaths$Run" ({ cls := "SweptPaths$Run", name := "swing", desc := "(II)V" } : Jvm.MethodName) ({ cls := "SweptPaths$Run", name := "swing", desc := "(II)V" } : Jvm.MethodName)) ∈ W0 := W0_sel 7 (by decide +kernel) (by decide +kernel)
theorem s_8 : (Jvm.Cond.selects "SweptPaths$Run" ({ cls := "SweptPaths$Run", name := "measureAskew", desc := "()V" } : Jvm.MethodName) ({ cls := "SweptPaths$Run", name := "measureAskew", desc := "()V" } : Jvm.MethodName)) ∈ W0 := W0_sel 8 (by decide +kernel) (by decide +kernel)
theorem s_9 : (Jvm.Cond.selects "SweptPathsModel" ({ cls := "SweptPathsModel", name := "beginAnew", desc := "()V" } : Jvm.MethodName) ({ cls := "SweptPathsModel", name := "beginAnew", desc := "()V" } : Jvm.MethodName)) ∈ W0 := W0_sel 9 (by decide +kernel) (by decide +kernel)
theorem s_10 : (Jvm.Cond.selects "SweptPathsModel" ({ cls := "SweptPathsModel", name := "hang", desc := "(I)V" } : Jvm.MethodName) ({ cls := "SweptPathsModel", name := "hang", desc := "(I)V" } : Jvm.MethodName)) ∈ W0 := W0_sel 10 (by decide +kernel) (by decide +kernel)
theorem s_11 : (Jvm.Cond.selects "SweptPathsModel" ({ cls := "SweptPathsModel", name := "dx", desc := "(I)I" } : Jvm.MethodName) ({ cls := "SweptPathsModel", name := "dx", desc := "(I)I" } : Jvm.MethodName)) ∈ W0 := W0_sel 11 (by decide +kernel) (by decide +kernel)
theorem s_12 : (Jvm.Cond.selects "SweptPathsModel" ({ cls := "SweptPathsModel", name := "dy", desc := "(I)I" } : Jvm.MethodName) ({ cls := "SweptPathsModel", name := "dy", desc := "(I)I" } : Jvm.MethodName)) ∈ W0 := W0_sel 12 (by decide +kernel) (by decide +kernel)
theorem s_13 : (Jvm.Cond.selects "SweptPathsModel" ({ cls := "SweptPathsModel", name := "look", desc := "()V" } : Jvm.MethodName) ({ cls := "SweptPathsModel", name := "look", desc := "()V" } : Jvm.MethodName)) ∈ W0 := W0_sel 13 (by decide +kernel) (by decide +kernel)
theorem s_14 : (Jvm.Cond.selects "SweptPathsModel" ({ cls := "SweptPathsModel", name := "covers", desc := "(III)Z" } : Jvm.MethodName) ({ cls := "SweptPathsModel", name := "covers", desc := "(III)Z" } : Jvm.MethodName)) ∈ W0 := W0_sel 14 (by decide +kernel) (by decide +kernel)
theorem s_15 : (Jvm.Cond.selects "SweptPathsModel" ({ cls := "SweptPathsModel", name := "goOn", desc := "(IIZ)V" } : Jvm.MethodName) ({ cls := "SweptPathsModel", name := "goOn", desc := "(IIZ)V" } : Jvm.MethodName)) ∈ W0 := W0_sel 15 (by decide +kernel) (by decide +kernel)
theorem s_16 : (Jvm.Cond.selects "SweptPathsModel" ({ cls := "SweptPathsModel", name := "move", desc := "(IZ)V" } : Jvm.MethodName) ({ cls := "SweptPathsModel", name := "move", desc := "(IZ)V" } : Jvm.MethodName)) ∈ W0 := W0_sel 16 (by decide +kernel) (by decide +kernel)
theorem s_17 : (Jvm.Cond.selects "SweptPathsModel" ({ cls := "SweptPathsModel", name := "askewOf", desc := "(I)I" } : Jvm.MethodName) ({ cls := "SweptPathsModel", name := "askewOf", desc := "(I)I" } : Jvm.MethodName)) ∈ W0 := W0_sel 17 (by decide +kernel) (by decide +kernel)
theorem s_18 : (Jvm.Cond.selects "SweptPathsModel" ({ cls := "SweptPathsModel", name := "keepAside", desc := "()V" } : Jvm.MethodName) ({ cls := "SweptPathsModel", name := "keepAside", desc := "()V" } : Jvm.MethodName)) ∈ W0 := W0_sel 18 (by decide +kernel) (by decide +kernel)
theorem s_19 : (Jvm.Cond.selects "SweptPathsModel" ({ cls := "SweptPathsModel", name := "goPlan", desc := "(I)V" } : Jvm.MethodName) ({ cls := "SweptPathsModel", name := "goPlan", desc := "(I)V" } : Jvm.MethodName)) ∈ W0 := W0_sel 19 (by decide +kernel) (by decide +kernel)
theorem s_20 : (Jvm.Cond.selects "SweptPathsModel" ({ cls := "SweptPathsModel", name := "putBack", desc := "()V" } : Jvm.MethodName) ({ cls := "SweptPathsModel", name := "putBack", desc := "()V" } : Jvm.MethodName)) ∈ W0 := W0_sel 20 (by decide +kernel) (by decide +kernel)
end
section
abbrev R_SP : String := "SweptPaths"
abbrev R_Ce : String := "SweptPaths$Cells"
abbrev R_Pl : String := "SweptPaths$Plan"
abbrev R_Po : String := "SweptPaths$Pose"
abbrev R_Ru : String := "SweptPaths$Run"
abbrev R_Se : String := "SweptPaths$Setting"
abbrev R_Sh : String := "SweptPaths$Shape"
abbrev R_Mo : String := "SweptPathsModel"
abbrev R_Di : String := "SweptPaths$Directions"
abbrev R_La : String := "SweptPathsLaw"
abbrev R_Ma : String := "java/lang/Math"
abbrev R_Ar : String := "java/util/Arrays"
abbrev R_IA : String := "java/lang/IllegalArgumentException"
abbrev R_IS : String := "java/lang/IllegalStateException"
abbrev R_law : String := "SweptPathsLaw"
def F_SP : u_T := fun k => match k with
  | 0 => ("SweptPaths", "setting", "LSweptPaths$Setting;", true)
  | 1 => ("SweptPaths", "live", "LSweptPaths$Run;", true)
  | 2 => ("SweptPaths", "trial", "LSweptPaths$Run;", true)
  | _ => ("SweptPaths", "plans", "[LSweptPaths$Plan;", true)
def t_SP : Nat → FieldType := fun k => match k with
  | 0 => .object "SweptPaths$Setting"
  | 1 => .object "SweptPaths$Run"
  | 2 => .object "SweptPaths$Run"
  | _ => .array (.object "SweptPaths$Plan")
theorem n_SP : ∀ a, a < 4 → ∀ b, b < 4 → a ≠ b → (F_SP a).2.1 ≠ (F_SP b).2.1 := by decide +kernel
theorem t_SP_ok : ∀ k, k < 4 → parseFieldDescriptor (F_SP k).2.2.1 = some (t_SP k) := by decide +kernel
theorem i_SP : ∀ w ∈ u_ws R_SP F_SP 4, w ∈ W0 := all_cons q_218 (all_cons q_220 (all_cons q_222 (all_cons q_224 (all_nil))))
def F_Ce : u_T := fun k => match k with
  | 0 => ("SweptPaths$Cells", "rows", "[J", true)
  | _ => ("SweptPaths$Cells", "count", "I", false)
def t_Ce : Nat → FieldType := fun k => match k with
  | 0 => .array .long
  | _ => .int
theorem n_Ce : ∀ a, a < 2 → ∀ b, b < 2 → a ≠ b → (F_Ce a).2.1 ≠ (F_Ce b).2.1 := by decide +kernel
theorem t_Ce_ok : ∀ k, k < 2 → parseFieldDescriptor (F_Ce k).2.2.1 = some (t_Ce k) := by decide +kernel
theorem i_Ce : ∀ w ∈ u_ws R_Ce F_Ce 2, w ∈ W0 := all_cons q_150 (all_cons q_152 (all_nil))
def F_Pl : u_T := fun k => match k with
  | 0 => ("SweptPaths$Plan", "turns", "[I", true)
  | 1 => ("SweptPaths$Plan", "steps", "[I", true)
  | 2 => ("SweptPaths$Plan", "forwards", "[Z", true)
  | _ => ("SweptPaths$Plan", "parts", "I", false)
def t_Pl : Nat → FieldType := fun k => match k with
  | 0 => .array .int
  | 1 => .array .int
  | 2 => .array .boolean
  | _ => .int
theorem n_Pl : ∀ a, a < 4 → ∀ b, b < 4 → a ≠ b → (F_Pl a).2.1 ≠ (F_Pl b).2.1 := by decide +kernel
theorem t_Pl_ok : ∀ k, k < 4 → parseFieldDescriptor (F_Pl k).2.2.1 = some (t_Pl k) := by decide +kernel
theorem i_Pl : ∀ w ∈ u_ws R_Pl F_Pl 4, w ∈ W0 := all_cons q_204 (all_cons q_206 (all_cons q_208 (all_cons q_210 (all_nil))))
def F_Po : u_T := fun k => match k with
  | 0 => ("SweptPaths$Pose", "x", "I", false)
  | 1 => ("SweptPaths$Pose", "y", "I", false)
  | 2 => ("SweptPaths$Pose", "heading", "I", false)
  | 3 => ("SweptPaths$Pose", "rest", "I", false)
  | _ => ("SweptPaths$Pose", "greatestAskew", "I", false)
def t_Po : Nat → FieldType := fun k => match k with
  | 0 => .int
  | 1 => .int
  | 2 => .int
  | 3 => .int
  | _ => .int
theorem n_Po : ∀ a, a < 5 → ∀ b, b < 5 → a ≠ b → (F_Po a).2.1 ≠ (F_Po b).2.1 := by decide +kernel
theorem t_Po_ok : ∀ k, k < 5 → parseFieldDescriptor (F_Po k).2.2.1 = some (t_Po k) := by decide +kernel
theorem i_Po : ∀ w ∈ u_ws R_Po F_Po 5, w ∈ W0 := all_cons q_130 (all_cons q_132 (all_cons q_134 (all_cons q_136 (all_cons q_138 (all_nil)))))
def F_Ru : u_T := fun k => match k with
  | 0 => ("SweptPaths$Run", "poses", "[LSweptPaths$Pose;", true)
  | 1 => ("SweptPaths$Run", "cells", "LSweptPaths$Cells;", true)
  | 2 => ("SweptPaths$Run", "made", "I", false)
  | 3 => ("SweptPaths$Run", "stuck", "Z", false)
  | 4 => ("SweptPaths$Run", "clashStep", "I", false)
  | 5 => ("SweptPaths$Run", "clashBody", "I", false)
  | 6 => ("SweptPaths$Run", "clashPole", "I", false)
  | _ => ("SweptPaths$Run", "setting", "LSweptPaths$Setting;", true)
def t_Ru : Nat → FieldType := fun k => match k with
  | 0 => .array (.object "SweptPaths$Pose")
  | 1 => .object "SweptPaths$Cells"
  | 2 => .int
  | 3 => .boolean
  | 4 => .int
  | 5 => .int
  | 6 => .int
  | _ => .object "SweptPaths$Setting"
theorem n_Ru : ∀ a, a < 8 → ∀ b, b < 8 → a ≠ b → (F_Ru a).2.1 ≠ (F_Ru b).2.1 := by decide +kernel
theorem t_Ru_ok : ∀ k, k < 8 → parseFieldDescriptor (F_Ru k).2.2.1 = some (t_Ru k) := by decide +kernel
theorem i_Ru : ∀ w ∈ u_ws R_Ru F_Ru 8, w ∈ W0 := all_cons q_171 (all_cons q_173 (all_cons q_175 (all_cons q_177 (all_cons q_179 (all_cons q_181 (all_cons q_183 (all_cons q_185 (all_nil))))))))
def F_Se : u_T := fun k => match k with
  | 0 => ("SweptPaths$Setting", "shapes", "[LSweptPaths$Shape;", true)
  | 1 => ("SweptPaths$Setting", "poleX", "[I", true)
  | 2 => ("SweptPaths$Setting", "poleY", "[I", true)
  | 3 => ("SweptPaths$Setting", "bodies", "I", false)
  | 4 => ("SweptPaths$Setting", "poles", "I", false)
  | 5 => ("SweptPaths$Setting", "startX", "I", false)
  | 6 => ("SweptPaths$Setting", "startY", "I", false)
  | 7 => ("SweptPaths$Setting", "startHeading", "I", false)
  | _ => ("SweptPaths$Setting", "stepLength", "I", false)
def t_Se : Nat → FieldType := fun k => match k with
  | 0 => .array (.object "SweptPaths$Shape")
  | 1 => .array .int
  | 2 => .array .int
  | 3 => .int
  | 4 => .int
  | 5 => .int
  | 6 => .int
  | 7 => .int
  | _ => .int
theorem n_Se : ∀ a, a < 9 → ∀ b, b < 9 → a ≠ b → (F_Se a).2.1 ≠ (F_Se b).2.1 := by decide +kernel
theorem t_Se_ok : ∀ k, k < 9 → parseFieldDescriptor (F_Se k).2.2.1 = some (t_Se k) := by decide +kernel
theorem i_Se : ∀ w ∈ u_ws R_Se F_Se 9, w ∈ W0 := all_cons q_85 (all_cons q_87 (all_cons q_89 (all_cons q_91 (all_cons q_93 (all_cons q_95 (all_cons q_97 (all_cons q_99 (all_cons q_101 (all_nil)))))))))
def F_Sh : u_T := fun k => match k with
  | 0 => ("SweptPaths$Shape", "length", "I", false)
  | 1 => ("SweptPaths$Shape", "hitch", "I", false)
  | 2 => ("SweptPaths$Shape", "front", "I", false)
  | 3 => ("SweptPaths$Shape", "rear", "I", false)
  | _ => ("SweptPaths$Shape", "half", "I", false)
def t_Sh : Nat → FieldType := fun k => match k with
  | 0 => .int
  | 1 => .int
  | 2 => .int
  | 3 => .int
  | _ => .int
theorem n_Sh : ∀ a, a < 5 → ∀ b, b < 5 → a ≠ b → (F_Sh a).2.1 ≠ (F_Sh b).2.1 := by decide +kernel
theorem t_Sh_ok : ∀ k, k < 5 → parseFieldDescriptor (F_Sh k).2.2.1 = some (t_Sh k) := by decide +kernel
theorem i_Sh : ∀ w ∈ u_ws R_Sh F_Sh 5, w ∈ W0 := all_cons q_52 (all_cons q_54 (all_cons q_56 (all_cons q_58 (all_cons q_60 (all_nil)))))
def F_Mo : u_T := fun k => match k with
  | 0 => ("SweptPathsModel", "thrown", "I", false)
  | 1 => ("SweptPathsModel", "cosines", "[I", true)
  | 2 => ("SweptPathsModel", "bodies", "I", false)
  | 3 => ("SweptPathsModel", "lengths", "[I", true)
  | 4 => ("SweptPathsModel", "hitches", "[I", true)
  | 5 => ("SweptPathsModel", "fronts", "[I", true)
  | 6 => ("SweptPathsModel", "rears", "[I", true)
  | 7 => ("SweptPathsModel", "halves", "[I", true)
  | 8 => ("SweptPathsModel", "startX", "I", false)
  | 9 => ("SweptPathsModel", "startY", "I", false)
  | 10 => ("SweptPathsModel", "startHeading", "I", false)
  | 11 => ("SweptPathsModel", "stepLength", "I", false)
  | 12 => ("SweptPathsModel", "poles", "I", false)
  | 13 => ("SweptPathsModel", "poleX", "[I", true)
  | 14 => ("SweptPathsModel", "poleY", "[I", true)
  | 15 => ("SweptPathsModel", "many", "[I", true)
  | 16 => ("SweptPathsModel", "turns", "[I", true)
  | 17 => ("SweptPathsModel", "counts", "[I", true)
  | 18 => ("SweptPathsModel", "ways", "[Z", true)
  | 19 => ("SweptPathsModel", "xs", "[I", true)
  | 20 => ("SweptPathsModel", "ys", "[I", true)
  | 21 => ("SweptPathsModel", "headings", "[I", true)
  | 22 => ("SweptPathsModel", "rests", "[I", true)
  | 23 => ("SweptPathsModel", "greatest", "[I", true)
  | 24 => ("SweptPathsModel", "made", "I", false)
  | 25 => ("SweptPathsModel", "stuck", "Z", false)
  | 26 => ("SweptPathsModel", "clashStep", "I", false)
  | 27 => ("SweptPathsModel", "clashBody", "I", false)
  | 28 => ("SweptPathsModel", "clashPole", "I", false)
  | 29 => ("SweptPathsModel", "cells", "I", false)
  | 30 => ("SweptPathsModel", "swept", "[Z", true)
  | 31 => ("SweptPathsModel", "asideNumbers", "[I", true)
  | _ => ("SweptPathsModel", "asideCells", "[Z", true)
def t_Mo : Nat → FieldType := fun k => match k with
  | 0 => .int
  | 1 => .array .int
  | 2 => .int
  | 3 => .array .int
  | 4 => .array .int
  | 5 => .array .int
  | 6 => .array .int
  | 7 => .array .int
  | 8 => .int
  | 9 => .int
  | 10 => .int
  | 11 => .int
  | 12 => .int
  | 13 => .array .int
  | 14 => .array .int
  | 15 => .array .int
  | 16 => .array .int
  | 17 => .array .int
  | 18 => .array .boolean
  | 19 => .array .int
  | 20 => .array .int
  | 21 => .array .int
  | 22 => .array .int
  | 23 => .array .int
  | 24 => .int
  | 25 => .boolean
  | 26 => .int
  | 27 => .int
  | 28 => .int
  | 29 => .int
  | 30 => .array .boolean
  | 31 => .array .int
  | _ => .array .boolean
theorem n_Mo : ∀ a, a < 33 → ∀ b, b < 33 → a ≠ b → (F_Mo a).2.1 ≠ (F_Mo b).2.1 := by decide +kernel
theorem t_Mo_ok : ∀ k, k < 33 → parseFieldDescriptor (F_Mo k).2.2.1 = some (t_Mo k) := by decide +kernel
theorem i_Mo : ∀ w ∈ u_ws R_Mo F_Mo 33, w ∈ W0 := all_cons q_583 (all_cons q_585 (all_cons q_587 (all_cons q_589 (all_cons q_591 (all_cons q_593 (all_cons q_595 (all_cons q_597 (all_cons q_599 (all_cons q_601 (all_cons q_603 (all_cons q_605 (all_cons q_607 (all_cons q_609 (all_cons q_611 (all_cons q_613 (all_cons q_615 (all_cons q_617 (all_cons q_619 (all_cons q_621 (all_cons q_623 (all_cons q_625 (all_cons q_627 (all_cons q_629 (all_cons q_631 (all_cons q_633 (all_cons q_635 (all_cons q_637 (all_cons q_639 (all_cons q_641 (all_cons q_643 (all_cons q_645 (all_cons q_647 (all_nil)))))))))))))))))))))))))))))))))
abbrev classes : List vw_C := [(R_SP, F_SP, 4), (R_Ce, F_Ce, 2), (R_Pl, F_Pl, 4), (R_Po, F_Po, 5), (R_Ru, F_Ru, 8), (R_Se, F_Se, 9), (R_Sh, F_Sh, 5), (R_Mo, F_Mo, 33)]
abbrev b_SP_init : ByteArray := prog_1_method_1_code
abbrev y_SP_init : MethodName := { cls := "SweptPaths", name := "<init>", desc := "()V" }
abbrev b_SP_body : ByteArray := prog_1_method_2_code
abbrev y_SP_body : MethodName := { cls := "SweptPaths", name := "body", desc := "(IIIII)I" }
abbrev b_SP_start : ByteArray := prog_1_method_3_code
abbrev y_SP_start : MethodName := { cls := "SweptPaths", name := "start", desc := "(III)V" }
abbrev b_SP_step : ByteArray := prog_1_method_4_code
abbrev y_SP_step : MethodName := { cls := "SweptPaths", name := "step", desc := "(I)I" }
abbrev b_SP_pole : ByteArray := prog_1_method_5_code
abbrev y_SP_pole : MethodName := { cls := "SweptPaths", name := "pole", desc := "(II)I" }
abbrev b_SP_go : ByteArray := prog_1_method_6_code
abbrev y_SP_go : MethodName := { cls := "SweptPaths", name := "go", desc := "(IIZ)I" }
abbrev b_SP_told : ByteArray := prog_1_method_7_code
abbrev y_SP_told : MethodName := { cls := "SweptPaths", name := "told", desc := "(II)I" }
abbrev b_SP_corner : ByteArray := prog_1_method_8_code
abbrev y_SP_corner : MethodName := { cls := "SweptPaths", name := "corner", desc := "(III)I" }
abbrev b_SP_swept : ByteArray := prog_1_method_9_code
abbrev y_SP_swept : MethodName := { cls := "SweptPaths", name := "swept", desc := "()I" }
abbrev b_SP_cell : ByteArray := prog_1_method_10_code
abbrev y_SP_cell : MethodName := { cls := "SweptPaths", name := "cell", desc := "(II)Z" }
abbrev b_SP_clash : ByteArray := prog_1_method_11_code
abbrev y_SP_clash : MethodName := { cls := "SweptPaths", name := "clash", desc := "(I)I" }
abbrev b_SP_isStuck : ByteArray := prog_1_method_12_code
abbrev y_SP_isStuck : MethodName := { cls := "SweptPaths", name := "isStuck", desc := "()Z" }
abbrev b_SP_part : ByteArray := prog_1_method_13_code
abbrev y_SP_part : MethodName := { cls := "SweptPaths", name := "part", desc := "(IIIZ)I" }
abbrev b_SP_clear : ByteArray := prog_1_method_14_code
abbrev y_SP_clear : MethodName := { cls := "SweptPaths", name := "clear", desc := "(I)I" }
abbrev b_SP_best : ByteArray := prog_1_method_15_code
abbrev y_SP_best : MethodName := { cls := "SweptPaths", name := "best", desc := "()I" }
abbrev b_SP_sweeps : ByteArray := prog_1_method_16_code
abbrev y_SP_sweeps : MethodName := { cls := "SweptPaths", name := "sweeps", desc := "(I)I" }
abbrev b_SP_demandWithin : ByteArray := prog_1_method_17_code
abbrev y_SP_demandWithin : MethodName := { cls := "SweptPaths", name := "demandWithin", desc := "(III)V" }
abbrev b_SP_demandSomeBody : ByteArray := prog_1_method_18_code
abbrev y_SP_demandSomeBody : MethodName := { cls := "SweptPaths", name := "demandSomeBody", desc := "()V" }
abbrev b_Mo_init : ByteArray := prog_10_method_1_code
abbrev y_Mo_init : MethodName := { cls := "SweptPathsModel", name := "<init>", desc := "()V" }
abbrev b_Mo_thrown : ByteArray := prog_10_method_2_code
abbrev y_Mo_thrown : MethodName := { cls := "SweptPathsModel", name := "thrown", desc := "()I" }
abbrev b_Mo_in : ByteArray := prog_10_method_3_code
abbrev y_Mo_in : MethodName := { cls := "SweptPathsModel", name := "in", desc := "(III)Z" }
abbrev b_Mo_dx : ByteArray := prog_10_method_4_code
abbrev y_Mo_dx : MethodName := { cls := "SweptPathsModel", name := "dx", desc := "(I)I" }
abbrev b_Mo_dy : ByteArray := prog_10_method_5_code
abbrev y_Mo_dy : MethodName := { cls := "SweptPathsModel", name := "dy", desc := "(I)I" }
abbrev b_Mo_wrapped : ByteArray := prog_10_method_6_code
abbrev y_Mo_wrapped : MethodName := { cls := "SweptPathsModel", name := "wrapped", desc := "(I)I" }
abbrev b_Mo_askewOf : ByteArray := prog_10_method_7_code
abbrev y_Mo_askewOf : MethodName := { cls := "SweptPathsModel", name := "askewOf", desc := "(I)I" }
abbrev b_Mo_hang : ByteArray := prog_10_method_8_code
abbrev y_Mo_hang : MethodName := { cls := "SweptPathsModel", name := "hang", desc := "(I)V" }
abbrev b_Mo_covers : ByteArray := prog_10_method_9_code
abbrev y_Mo_covers : MethodName := { cls := "SweptPathsModel", name := "covers", desc := "(III)Z" }
abbrev b_Mo_cellOf : ByteArray := prog_10_method_10_code
abbrev y_Mo_cellOf : MethodName := { cls := "SweptPathsModel", name := "cellOf", desc := "(I)I" }
abbrev b_Mo_down : ByteArray := prog_10_method_11_code
abbrev y_Mo_down : MethodName := { cls := "SweptPathsModel", name := "down", desc := "(II)I" }
abbrev b_Mo_within : ByteArray := prog_10_method_12_code
abbrev y_Mo_within : MethodName := { cls := "SweptPathsModel", name := "within", desc := "(I)I" }
abbrev b_Mo_look : ByteArray := prog_10_method_13_code
abbrev y_Mo_look : MethodName := { cls := "SweptPathsModel", name := "look", desc := "()V" }
abbrev b_Mo_beginAnew : ByteArray := prog_10_method_14_code
abbrev y_Mo_beginAnew : MethodName := { cls := "SweptPathsModel", name := "beginAnew", desc := "()V" }
abbrev b_Mo_move : ByteArray := prog_10_method_15_code
abbrev y_Mo_move : MethodName := { cls := "SweptPathsModel", name := "move", desc := "(IZ)V" }
abbrev b_Mo_goOn : ByteArray := prog_10_method_16_code
abbrev y_Mo_goOn : MethodName := { cls := "SweptPathsModel", name := "goOn", desc := "(IIZ)V" }
abbrev b_Mo_body : ByteArray := prog_10_method_17_code
abbrev y_Mo_body : MethodName := { cls := "SweptPathsModel", name := "body", desc := "(IIIII)I" }
abbrev b_Mo_start : ByteArray := prog_10_method_18_code
abbrev y_Mo_start : MethodName := { cls := "SweptPathsModel", name := "start", desc := "(III)V" }
abbrev b_Mo_step : ByteArray := prog_10_method_19_code
abbrev y_Mo_step : MethodName := { cls := "SweptPathsModel", name := "step", desc := "(I)I" }
abbrev b_Mo_pole : ByteArray := prog_10_method_20_code
abbrev y_Mo_pole : MethodName := { cls := "SweptPathsModel", name := "pole", desc := "(II)I" }
abbrev b_Mo_go : ByteArray := prog_10_method_21_code
abbrev y_Mo_go : MethodName := { cls := "SweptPathsModel", name := "go", desc := "(IIZ)I" }
abbrev b_Mo_told : ByteArray := prog_10_method_22_code
abbrev y_Mo_told : MethodName := { cls := "SweptPathsModel", name := "told", desc := "(II)I" }
abbrev b_Mo_corner : ByteArray := prog_10_method_23_code
abbrev y_Mo_corner : MethodName := { cls := "SweptPathsModel", name := "corner", desc := "(III)I" }
abbrev b_Mo_swept : ByteArray := prog_10_method_24_code
abbrev y_Mo_swept : MethodName := { cls := "SweptPathsModel", name := "swept", desc := "()I" }
abbrev b_Mo_cell : ByteArray := prog_10_method_25_code
abbrev y_Mo_cell : MethodName := { cls := "SweptPathsModel", name := "cell", desc := "(II)Z" }
abbrev b_Mo_clash : ByteArray := prog_10_method_26_code
abbrev y_Mo_clash : MethodName := { cls := "SweptPathsModel", name := "clash", desc := "(I)I" }
abbrev b_Mo_isStuck : ByteArray := prog_10_method_27_code
abbrev y_Mo_isStuck : MethodName := { cls := "SweptPathsModel", name := "isStuck", desc := "()Z" }
abbrev b_Mo_part : ByteArray := prog_10_method_28_code
abbrev y_Mo_part : MethodName := { cls := "SweptPathsModel", name := "part", desc := "(IIIZ)I" }
abbrev b_Mo_clear : ByteArray := prog_10_method_29_code
abbrev y_Mo_clear : MethodName := { cls := "SweptPathsModel", name := "clear", desc := "(I)I" }
abbrev b_Mo_keepAside : ByteArray := prog_10_method_30_code
abbrev y_Mo_keepAside : MethodName := { cls := "SweptPathsModel", name := "keepAside", desc := "()V" }
abbrev b_Mo_putBack : ByteArray := prog_10_method_31_code
abbrev y_Mo_putBack : MethodName := { cls := "SweptPathsModel", name := "putBack", desc := "()V" }
abbrev b_Mo_goPlan : ByteArray := prog_10_method_32_code
abbrev y_Mo_goPlan : MethodName := { cls := "SweptPathsModel", name := "goPlan", desc := "(I)V" }
abbrev b_Mo_best : ByteArray := prog_10_method_33_code
abbrev y_Mo_best : MethodName := { cls := "SweptPathsModel", name := "best", desc := "()I" }
abbrev b_Mo_sweeps : ByteArray := prog_10_method_34_code
abbrev y_Mo_sweeps : MethodName := { cls := "SweptPathsModel", name := "sweeps", desc := "(I)I" }
abbrev b_Ce_init : ByteArray := prog_2_method_1_code
abbrev y_Ce_init : MethodName := { cls := "SweptPaths$Cells", name := "<init>", desc := "()V" }
abbrev b_Ce_wipe : ByteArray := prog_2_method_2_code
abbrev y_Ce_wipe : MethodName := { cls := "SweptPaths$Cells", name := "wipe", desc := "()V" }
abbrev b_Ce_has : ByteArray := prog_2_method_3_code
abbrev y_Ce_has : MethodName := { cls := "SweptPaths$Cells", name := "has", desc := "(II)Z" }
abbrev b_Ce_cover : ByteArray := prog_2_method_4_code
abbrev y_Ce_cover : MethodName := { cls := "SweptPaths$Cells", name := "cover", desc := "(LSweptPaths$Shape;LSweptPaths$Pose;)V" }
abbrev b_Ce_mark : ByteArray := prog_2_method_5_code
abbrev y_Ce_mark : MethodName := { cls := "SweptPaths$Cells", name := "mark", desc := "(II)V" }
abbrev b_Ce_middleOf : ByteArray := prog_2_method_6_code
abbrev y_Ce_middleOf : MethodName := { cls := "SweptPaths$Cells", name := "middleOf", desc := "(I)I" }
abbrev b_Ce_firstFrom : ByteArray := prog_2_method_7_code
abbrev y_Ce_firstFrom : MethodName := { cls := "SweptPaths$Cells", name := "firstFrom", desc := "(I)I" }
abbrev b_Ce_lastUpTo : ByteArray := prog_2_method_8_code
abbrev y_Ce_lastUpTo : MethodName := { cls := "SweptPaths$Cells", name := "lastUpTo", desc := "(I)I" }
abbrev b_Di_round : ByteArray := prog_3_method_2_code
abbrev y_Di_round : MethodName := { cls := "SweptPaths$Directions", name := "round", desc := "(I)I" }
abbrev b_Di_dx : ByteArray := prog_3_method_3_code
abbrev y_Di_dx : MethodName := { cls := "SweptPaths$Directions", name := "dx", desc := "(I)I" }
abbrev b_Di_dy : ByteArray := prog_3_method_4_code
abbrev y_Di_dy : MethodName := { cls := "SweptPaths$Directions", name := "dy", desc := "(I)I" }
abbrev b_Di_askew : ByteArray := prog_3_method_5_code
abbrev y_Di_askew : MethodName := { cls := "SweptPaths$Directions", name := "askew", desc := "(II)I" }
abbrev b_Pl_init : ByteArray := prog_4_method_1_code
abbrev y_Pl_init : MethodName := { cls := "SweptPaths$Plan", name := "<init>", desc := "()V" }
abbrev b_Pl_add : ByteArray := prog_4_method_2_code
abbrev y_Pl_add : MethodName := { cls := "SweptPaths$Plan", name := "add", desc := "(IIZ)Z" }
abbrev b_Po_init : ByteArray := prog_5_method_1_code
abbrev y_Po_init : MethodName := { cls := "SweptPaths$Pose", name := "<init>", desc := "()V" }
abbrev b_Ru_init : ByteArray := prog_6_method_1_code
abbrev y_Ru_init : MethodName := { cls := "SweptPaths$Run", name := "<init>", desc := "(LSweptPaths$Setting;)V" }
abbrev b_Ru_begin : ByteArray := prog_6_method_2_code
abbrev y_Ru_begin : MethodName := { cls := "SweptPaths$Run", name := "begin", desc := "()V" }
abbrev b_Ru_follow : ByteArray := prog_6_method_3_code
abbrev y_Ru_follow : MethodName := { cls := "SweptPaths$Run", name := "follow", desc := "(LSweptPaths$Plan;)V" }
abbrev b_Ru_walk : ByteArray := prog_6_method_4_code
abbrev y_Ru_walk : MethodName := { cls := "SweptPaths$Run", name := "walk", desc := "(IIZ)V" }
abbrev b_Ru_isFaultless : ByteArray := prog_6_method_5_code
abbrev y_Ru_isFaultless : MethodName := { cls := "SweptPaths$Run", name := "isFaultless", desc := "()Z" }
abbrev b_Ru_askewOf : ByteArray := prog_6_method_6_code
abbrev y_Ru_askewOf : MethodName := { cls := "SweptPaths$Run", name := "askewOf", desc := "(I)I" }
abbrev b_Ru_move : ByteArray := prog_6_method_7_code
abbrev y_Ru_move : MethodName := { cls := "SweptPaths$Run", name := "move", desc := "(II)V" }
abbrev b_Ru_swing : ByteArray := prog_6_method_8_code
abbrev y_Ru_swing : MethodName := { cls := "SweptPaths$Run", name := "swing", desc := "(II)V" }
abbrev b_Ru_placeTrailers : ByteArray := prog_6_method_9_code
abbrev y_Ru_placeTrailers : MethodName := { cls := "SweptPaths$Run", name := "placeTrailers", desc := "()V" }
abbrev b_Ru_measureAskew : ByteArray := prog_6_method_10_code
abbrev y_Ru_measureAskew : MethodName := { cls := "SweptPaths$Run", name := "measureAskew", desc := "()V" }
abbrev b_Ru_lookRound : ByteArray := prog_6_method_11_code
abbrev y_Ru_lookRound : MethodName := { cls := "SweptPaths$Run", name := "lookRound", desc := "()V" }
abbrev b_Ru_lookForPoles : ByteArray := prog_6_method_12_code
abbrev y_Ru_lookForPoles : MethodName := { cls := "SweptPaths$Run", name := "lookForPoles", desc := "(I)V" }
abbrev b_Se_init : ByteArray := prog_7_method_1_code
abbrev y_Se_init : MethodName := { cls := "SweptPaths$Setting", name := "<init>", desc := "()V" }
abbrev b_Sh_init : ByteArray := prog_8_method_1_code
abbrev y_Sh_init : MethodName := { cls := "SweptPaths$Shape", name := "<init>", desc := "()V" }
abbrev b_Sh_holds : ByteArray := prog_8_method_2_code
abbrev y_Sh_holds : MethodName := { cls := "SweptPaths$Shape", name := "holds", desc := "(JJ)Z" }
abbrev b_Sh_directionsIn : ByteArray := prog_8_method_3_code
abbrev y_Sh_directionsIn : MethodName := { cls := "SweptPaths$Shape", name := "directionsIn", desc := "(I)I" }
abbrev b_La_body : ByteArray := method_3_code
abbrev y_La_body : MethodName := { cls := "SweptPathsLaw", name := "body", desc := "(LSweptPaths;IIIII[J)I" }
abbrev b_La_start : ByteArray := method_4_code
abbrev y_La_start : MethodName := { cls := "SweptPathsLaw", name := "start", desc := "(LSweptPaths;III)I" }
abbrev b_La_step : ByteArray := method_5_code
abbrev y_La_step : MethodName := { cls := "SweptPathsLaw", name := "step", desc := "(LSweptPaths;I[J)I" }
abbrev b_La_pole : ByteArray := method_6_code
abbrev y_La_pole : MethodName := { cls := "SweptPathsLaw", name := "pole", desc := "(LSweptPaths;II[J)I" }
abbrev b_La_go : ByteArray := method_7_code
abbrev y_La_go : MethodName := { cls := "SweptPathsLaw", name := "go", desc := "(LSweptPaths;IIZ[J)I" }
abbrev b_La_told : ByteArray := method_8_code
abbrev y_La_told : MethodName := { cls := "SweptPathsLaw", name := "told", desc := "(LSweptPaths;II[J)I" }
abbrev b_La_corner : ByteArray := method_9_code
abbrev y_La_corner : MethodName := { cls := "SweptPathsLaw", name := "corner", desc := "(LSweptPaths;III[J)I" }
abbrev b_La_cell_LPIIaJ : ByteArray := method_10_code
abbrev y_La_cell_LPIIaJ : MethodName := { cls := "SweptPathsLaw", name := "cell", desc := "(LSweptPaths;II[J)I" }
abbrev b_La_clash : ByteArray := method_11_code
abbrev y_La_clash : MethodName := { cls := "SweptPathsLaw", name := "clash", desc := "(LSweptPaths;I[J)I" }
abbrev b_La_part : ByteArray := method_12_code
abbrev y_La_part : MethodName := { cls := "SweptPathsLaw", name := "part", desc := "(LSweptPaths;IIIZ[J)I" }
abbrev b_La_clear : ByteArray := method_13_code
abbrev y_La_clear : MethodName := { cls := "SweptPathsLaw", name := "clear", desc := "(LSweptPaths;I[J)I" }
abbrev b_La_best : ByteArray := method_14_code
abbrev y_La_best : MethodName := { cls := "SweptPathsLaw", name := "best", desc := "(LSweptPaths;[J)I" }
abbrev b_La_sweeps : ByteArray := method_15_code
abbrev y_La_sweeps : MethodName := { cls := "SweptPathsLaw", name := "sweeps", desc := "(LSweptPaths;I[J)I" }
abbrev b_La_law : ByteArray := code
abbrev y_La_law : MethodName := { cls := "SweptPathsLaw", name := "law", desc := "([I)Z" }
abbrev b_Ob_init : ByteArray := object_method_1_code
abbrev y_Ob_init : MethodName := { cls := "java/lang/Object", name := "<init>", desc := "()V" }
abbrev b_Ex_init : ByteArray := prog_11_method_2_code
abbrev y_Ex_init : MethodName := { cls := "java/lang/Exception", name := "<init>", desc := "(Ljava/lang/String;)V" }
abbrev b_IA_init : ByteArray := prog_12_method_2_code
abbrev y_IA_init : MethodName := { cls := "java/lang/IllegalArgumentException", name := "<init>", desc := "(Ljava/lang/String;)V" }
abbrev b_IS_init : ByteArray := prog_13_method_2_code
abbrev y_IS_init : MethodName := { cls := "java/lang/IllegalStateException", name := "<init>", desc := "(Ljava/lang/String;)V" }
abbrev b_Ma_abs : ByteArray := prog_14_method_59_code
abbrev y_Ma_abs : MethodName := { cls := "java/lang/Math", name := "abs", desc := "(I)I" }
abbrev b_Ma_floorDiv : ByteArray := prog_14_method_47_code
abbrev y_Ma_floorDiv : MethodName := { cls := "java/lang/Math", name := "floorDiv", desc := "(II)I" }
abbrev b_Ma_max : ByteArray := prog_14_method_65_code
abbrev y_Ma_max : MethodName := { cls := "java/lang/Math", name := "max", desc := "(II)I" }
abbrev b_Ma_min : ByteArray := prog_14_method_69_code
abbrev y_Ma_min : MethodName := { cls := "java/lang/Math", name := "min", desc := "(II)I" }
abbrev b_Rt_init : ByteArray := prog_15_method_2_code
abbrev y_Rt_init : MethodName := { cls := "java/lang/RuntimeException", name := "<init>", desc := "(Ljava/lang/String;)V" }
abbrev b_Th_init : ByteArray := prog_17_method_2_code
abbrev y_Th_init : MethodName := { cls := "java/lang/Throwable", name := "<init>", desc := "(Ljava/lang/String;)V" }
abbrev b_Ar_fill : ByteArray := prog_18_method_101_code
abbrev y_Ar_fill : MethodName := { cls := "java/util/Arrays", name := "fill", desc := "([JJ)V" }
end
section
theorem d_SP_init_0 : decode b_SP_init 0 = .ok (.aload_n 0, 1) := by decide +kernel
theorem d_SP_init_1 : decode b_SP_init 1 = .ok (.invokespecial 1, 3) := by decide +kernel
theorem d_SP_init_4 : decode b_SP_init 4 = .ok (.aload_n 0, 1) := by decide +kernel
theorem d_SP_init_5 : decode b_SP_init 5 = .ok (.new 7, 3) := by decide +kernel
theorem d_SP_init_8 : decode b_SP_init 8 = .ok (.dup, 1) := by decide +kernel
theorem d_SP_init_9 : decode b_SP_init 9 = .ok (.invokespecial 9, 3) := by decide +kernel
theorem d_SP_init_12 : decode b_SP_init 12 = .ok (.putfield 10, 3) := by decide +kernel
theorem d_SP_init_15 : decode b_SP_init 15 = .ok (.aload_n 0, 1) := by decide +kernel
theorem d_SP_init_16 : decode b_SP_init 16 = .ok (.new 16, 3) := by decide +kernel
theorem d_SP_init_19 : decode b_SP_init 19 = .ok (.dup, 1) := by decide +kernel
theorem d_SP_init_20 : decode b_SP_init 20 = .ok (.aload_n 0, 1) := by decide +kernel
theorem d_SP_init_21 : decode b_SP_init 21 = .ok (.getfield 10, 3) := by decide +kernel
theorem d_SP_init_24 : decode b_SP_init 24 = .ok (.invokespecial 18, 3) := by decide +kernel
theorem d_SP_init_27 : decode b_SP_init 27 = .ok (.putfield 21, 3) := by decide +kernel
theorem d_SP_init_30 : decode b_SP_init 30 = .ok (.aload_n 0, 1) := by decide +kernel
theorem d_SP_init_31 : decode b_SP_init 31 = .ok (.new 16, 3) := by decide +kernel
theorem d_SP_init_34 : decode b_SP_init 34 = .ok (.dup, 1) := by decide +kernel
theorem d_SP_init_35 : decode b_SP_init 35 = .ok (.aload_n 0, 1) := by decide +kernel
theorem d_SP_init_36 : decode b_SP_init 36 = .ok (.getfield 10, 3) := by decide +kernel
theorem d_SP_init_39 : decode b_SP_init 39 = .ok (.invokespecial 18, 3) := by decide +kernel
theorem d_SP_init_42 : decode b_SP_init 42 = .ok (.putfield 25, 3) := by decide +kernel
theorem d_SP_init_45 : decode b_SP_init 45 = .ok (.aload_n 0, 1) := by decide +kernel
theorem d_SP_init_46 : decode b_SP_init 46 = .ok (.iconst 4, 1) := by decide +kernel
theorem d_SP_init_47 : decode b_SP_init 47 = .ok (.anewarray 28, 3) := by decide +kernel
theorem d_SP_init_50 : decode b_SP_init 50 = .ok (.putfield 30, 3) := by decide +kernel
theorem d_SP_init_53 : decode b_SP_init 53 = .ok (.iconst 0, 1) := by decide +kernel
theorem d_SP_init_54 : decode b_SP_init 54 = .ok (.istore_n 1, 1) := by decide +kernel
theorem d_SP_init_55 : decode b_SP_init 55 = .ok (.iload_n 1, 1) := by decide +kernel
theorem d_SP_init_56 : decode b_SP_init 56 = .ok (.iconst 4, 1) := by decide +kernel
theorem d_SP_init_57 : decode b_SP_init 57 = .ok (.if_icmp .ge 22, 3) := by decide +kernel
theorem d_SP_init_60 : decode b_SP_init 60 = .ok (.aload_n 0, 1) := by decide +kernel
theorem d_SP_init_61 : decode b_SP_init 61 = .ok (.getfield 30, 3) := by decide +kernel
theorem d_SP_init_64 : decode b_SP_init 64 = .ok (.iload_n 1, 1) := by decide +kernel
theorem d_SP_init_65 : decode b_SP_init 65 = .ok (.new 28, 3) := by decide +kernel
theorem d_SP_init_68 : decode b_SP_init 68 = .ok (.dup, 1) := by decide +kernel
theorem d_SP_init_69 : decode b_SP_init 69 = .ok (.invokespecial 34, 3) := by decide +kernel
theorem d_SP_init_72 : decode b_SP_init 72 = .ok (.aastore, 1) := by decide +kernel
theorem d_SP_init_73 : decode b_SP_init 73 = .ok (.iinc 1 1, 3) := by decide +kernel
theorem d_SP_init_76 : decode b_SP_init 76 = .ok (.goto (-21), 3) := by decide +kernel
theorem d_SP_init_79 : decode b_SP_init 79 = .ok (.return_, 1) := by decide +kernel
theorem d_SP_body_0 : decode b_SP_body 0 = .ok (.iload_n 1, 1) := by decide +kernel
theorem d_SP_body_1 : decode b_SP_body 1 = .ok (.iconst 1, 1) := by decide +kernel
theorem d_SP_body_2 : decode b_SP_body 2 = .ok (.sipush 200, 3) := by decide +kernel
theorem d_SP_body_5 : decode b_SP_body 5 = .ok (.invokestatic 35, 3) := by decide +kernel
theorem d_SP_body_8 : decode b_SP_body 8 = .ok (.iload_n 2, 1) := by decide +kernel
theorem d_SP_body_9 : decode b_SP_body 9 = .ok (.iconst 0, 1) := by decide +kernel
theorem d_SP_body_10 : decode b_SP_body 10 = .ok (.sipush 200, 3) := by decide +kernel
theorem d_SP_body_13 : decode b_SP_body 13 = .ok (.invokestatic 35, 3) := by decide +kernel
theorem d_SP_body_16 : decode b_SP_body 16 = .ok (.iload_n 3, 1) := by decide +kernel
theorem d_SP_body_17 : decode b_SP_body 17 = .ok (.iconst 0, 1) := by decide +kernel
theorem d_SP_body_18 : decode b_SP_body 18 = .ok (.bipush 60, 2) := by decide +kernel
theorem d_SP_body_20 : decode b_SP_body 20 = .ok (.invokestatic 35, 3) := by decide +kernel
theorem d_SP_body_23 : decode b_SP_body 23 = .ok (.iload 4, 2) := by decide +kernel
theorem d_SP_body_25 : decode b_SP_body 25 = .ok (.iconst 0, 1) := by decide +kernel
theorem d_SP_body_26 : decode b_SP_body 26 = .ok (.bipush 60, 2) := by decide +kernel
theorem d_SP_body_28 : decode b_SP_body 28 = .ok (.invokestatic 35, 3) := by decide +kernel
theorem d_SP_body_31 : decode b_SP_body 31 = .ok (.iload 5, 2) := by decide +kernel
theorem d_SP_body_33 : decode b_SP_body 33 = .ok (.iconst 1, 1) := by decide +kernel
theorem d_SP_body_34 : decode b_SP_body 34 = .ok (.bipush 20, 2) := by decide +kernel
theorem d_SP_body_36 : decode b_SP_body 36 = .ok (.invokestatic 35, 3) := by decide +kernel
theorem d_SP_body_39 : decode b_SP_body 39 = .ok (.aload_n 0, 1) := by decide +kernel
theorem d_SP_body_40 : decode b_SP_body 40 = .ok (.getfield 10, 3) := by decide +kernel
theorem d_SP_body_43 : decode b_SP_body 43 = .ok (.getfield 39, 3) := by decide +kernel
theorem d_SP_body_46 : decode b_SP_body 46 = .ok (.istore 6, 2) := by decide +kernel
theorem d_SP_body_48 : decode b_SP_body 48 = .ok (.iload 6, 2) := by decide +kernel
theorem d_SP_body_50 : decode b_SP_body 50 = .ok (.iconst 3, 1) := by decide +kernel
theorem d_SP_body_51 : decode b_SP_body 51 = .ok (.if_icmp .lt 13, 3) := by decide +kernel
theorem d_SP_body_54 : decode b_SP_body 54 = .ok (.new 43, 3) := by decide +kernel
theorem d_SP_body_57 : decode b_SP_body 57 = .ok (.dup, 1) := by decide +kernel
theorem d_SP_body_58 : decode b_SP_body 58 = .ok (.ldc 45, 2) := by decide +kernel
theorem d_SP_body_60 : decode b_SP_body 60 = .ok (.invokespecial 47, 3) := by decide +kernel
theorem d_SP_body_63 : decode b_SP_body 63 = .ok (.athrow, 1) := by decide +kernel
theorem d_SP_body_64 : decode b_SP_body 64 = .ok (.aload_n 0, 1) := by decide +kernel
theorem d_SP_body_65 : decode b_SP_body 65 = .ok (.getfield 10, 3) := by decide +kernel
theorem d_SP_body_68 : decode b_SP_body 68 = .ok (.getfield 50, 3) := by decide +kernel
theorem d_SP_body_71 : decode b_SP_body 71 = .ok (.iload 6, 2) := by decide +kernel
theorem d_SP_body_73 : decode b_SP_body 73 = .ok (.aaload, 1) := by decide +kernel
theorem d_SP_body_74 : decode b_SP_body 74 = .ok (.astore 7, 2) := by decide +kernel
theorem d_SP_body_76 : decode b_SP_body 76 = .ok (.aload 7, 2) := by decide +kernel
theorem d_SP_body_78 : decode b_SP_body 78 = .ok (.iload_n 1, 1) := by decide +kernel
theorem d_SP_body_79 : decode b_SP_body 79 = .ok (.putfield 54, 3) := by decide +kernel
theorem d_SP_body_82 : decode b_SP_body 82 = .ok (.aload 7, 2) := by decide +kernel
theorem d_SP_body_84 : decode b_SP_body 84 = .ok (.iload_n 2, 1) := by decide +kernel
theorem d_SP_body_85 : decode b_SP_body 85 = .ok (.putfield 59, 3) := by decide +kernel
theorem d_SP_body_88 : decode b_SP_body 88 = .ok (.aload 7, 2) := by decide +kernel
theorem d_SP_body_90 : decode b_SP_body 90 = .ok (.iload_n 3, 1) := by decide +kernel
theorem d_SP_body_91 : decode b_SP_body 91 = .ok (.putfield 62, 3) := by decide +kernel
theorem d_SP_body_94 : decode b_SP_body 94 = .ok (.aload 7, 2) := by decide +kernel
theorem d_SP_body_96 : decode b_SP_body 96 = .ok (.iload 4, 2) := by decide +kernel
theorem d_SP_body_98 : decode b_SP_body 98 = .ok (.putfield 65, 3) := by decide +kernel
theorem d_SP_body_101 : decode b_SP_body 101 = .ok (.aload 7, 2) := by decide +kernel
theorem d_SP_body_103 : decode b_SP_body 103 = .ok (.iload 5, 2) := by decide +kernel
theorem d_SP_body_105 : decode b_SP_body 105 = .ok (.putfield 68, 3) := by decide +kernel
theorem d_SP_body_108 : decode b_SP_body 108 = .ok (.aload_n 0, 1) := by decide +kernel
theorem d_SP_body_109 : decode b_SP_body 109 = .ok (.getfield 10, 3) := by decide +kernel
theorem d_SP_body_112 : decode b_SP_body 112 = .ok (.iload 6, 2) := by decide +kernel
theorem d_SP_body_114 : decode b_SP_body 114 = .ok (.iconst 1, 1) := by decide +kernel
theorem d_SP_body_115 : decode b_SP_body 115 = .ok (.iadd, 1) := by decide +kernel
theorem d_SP_body_116 : decode b_SP_body 116 = .ok (.putfield 39, 3) := by decide +kernel
theorem d_SP_body_119 : decode b_SP_body 119 = .ok (.aload_n 0, 1) := by decide +kernel
theorem d_SP_body_120 : decode b_SP_body 120 = .ok (.getfield 21, 3) := by decide +kernel
theorem d_SP_body_123 : decode b_SP_body 123 = .ok (.invokevirtual 71, 3) := by decide +kernel
theorem d_SP_body_126 : decode b_SP_body 126 = .ok (.iload 6, 2) := by decide +kernel
theorem d_SP_body_128 : decode b_SP_body 128 = .ok (.ireturn, 1) := by decide +kernel
theorem d_SP_start_0 : decode b_SP_start 0 = .ok (.iload_n 1, 1) := by decide +kernel
theorem d_SP_start_1 : decode b_SP_start 1 = .ok (.sipush (-1000), 3) := by decide +kernel
theorem d_SP_start_4 : decode b_SP_start 4 = .ok (.sipush 1000, 3) := by decide +kernel
theorem d_SP_start_7 : decode b_SP_start 7 = .ok (.invokestatic 35, 3) := by decide +kernel
theorem d_SP_start_10 : decode b_SP_start 10 = .ok (.iload_n 2, 1) := by decide +kernel
theorem d_SP_start_11 : decode b_SP_start 11 = .ok (.sipush (-1000), 3) := by decide +kernel
theorem d_SP_start_14 : decode b_SP_start 14 = .ok (.sipush 1000, 3) := by decide +kernel
theorem d_SP_start_17 : decode b_SP_start 17 = .ok (.invokestatic 35, 3) := by decide +kernel
theorem d_SP_start_20 : decode b_SP_start 20 = .ok (.iload_n 3, 1) := by decide +kernel
theorem d_SP_start_21 : decode b_SP_start 21 = .ok (.iconst 0, 1) := by decide +kernel
theorem d_SP_start_22 : decode b_SP_start 22 = .ok (.bipush 63, 2) := by decide +kernel
theorem d_SP_start_24 : decode b_SP_start 24 = .ok (.invokestatic 35, 3) := by decide +kernel
theorem d_SP_start_27 : decode b_SP_start 27 = .ok (.aload_n 0, 1) := by decide +kernel
theorem d_SP_start_28 : decode b_SP_start 28 = .ok (.getfield 10, 3) := by decide +kernel
theorem d_SP_start_31 : decode b_SP_start 31 = .ok (.iload_n 1, 1) := by decide +kernel
theorem d_SP_start_32 : decode b_SP_start 32 = .ok (.putfield 76, 3) := by decide +kernel
theorem d_SP_start_35 : decode b_SP_start 35 = .ok (.aload_n 0, 1) := by decide +kernel
theorem d_SP_start_36 : decode b_SP_start 36 = .ok (.getfield 10, 3) := by decide +kernel
theorem d_SP_start_39 : decode b_SP_start 39 = .ok (.iload_n 2, 1) := by decide +kernel
theorem d_SP_start_40 : decode b_SP_start 40 = .ok (.putfield 79, 3) := by decide +kernel
theorem d_SP_start_43 : decode b_SP_start 43 = .ok (.aload_n 0, 1) := by decide +kernel
theorem d_SP_start_44 : decode b_SP_start 44 = .ok (.getfield 10, 3) := by decide +kernel
theorem d_SP_start_47 : decode b_SP_start 47 = .ok (.iload_n 3, 1) := by decide +kernel
theorem d_SP_start_48 : decode b_SP_start 48 = .ok (.putfield 82, 3) := by decide +kernel
theorem d_SP_start_51 : decode b_SP_start 51 = .ok (.aload_n 0, 1) := by decide +kernel
theorem d_SP_start_52 : decode b_SP_start 52 = .ok (.getfield 21, 3) := by decide +kernel
theorem d_SP_start_55 : decode b_SP_start 55 = .ok (.invokevirtual 71, 3) := by decide +kernel
theorem d_SP_start_58 : decode b_SP_start 58 = .ok (.return_, 1) := by decide +kernel
theorem d_SP_step_0 : decode b_SP_step 0 = .ok (.iload_n 1, 1) := by decide +kernel
theorem d_SP_step_1 : decode b_SP_step 1 = .ok (.iconst 1, 1) := by decide +kernel
theorem d_SP_step_2 : decode b_SP_step 2 = .ok (.bipush 20, 2) := by decide +kernel
theorem d_SP_step_4 : decode b_SP_step 4 = .ok (.invokestatic 35, 3) := by decide +kernel
theorem d_SP_step_7 : decode b_SP_step 7 = .ok (.aload_n 0, 1) := by decide +kernel
theorem d_SP_step_8 : decode b_SP_step 8 = .ok (.getfield 10, 3) := by decide +kernel
theorem d_SP_step_11 : decode b_SP_step 11 = .ok (.getfield 85, 3) := by decide +kernel
theorem d_SP_step_14 : decode b_SP_step 14 = .ok (.istore_n 2, 1) := by decide +kernel
theorem d_SP_step_15 : decode b_SP_step 15 = .ok (.aload_n 0, 1) := by decide +kernel
theorem d_SP_step_16 : decode b_SP_step 16 = .ok (.getfield 10, 3) := by decide +kernel
theorem d_SP_step_19 : decode b_SP_step 19 = .ok (.iload_n 1, 1) := by decide +kernel
theorem d_SP_step_20 : decode b_SP_step 20 = .ok (.putfield 85, 3) := by decide +kernel
theorem d_SP_step_23 : decode b_SP_step 23 = .ok (.aload_n 0, 1) := by decide +kernel
theorem d_SP_step_24 : decode b_SP_step 24 = .ok (.getfield 21, 3) := by decide +kernel
theorem d_SP_step_27 : decode b_SP_step 27 = .ok (.invokevirtual 71, 3) := by decide +kernel
theorem d_SP_step_30 : decode b_SP_step 30 = .ok (.iload_n 2, 1) := by decide +kernel
theorem d_SP_step_31 : decode b_SP_step 31 = .ok (.ireturn, 1) := by decide +kernel
theorem d_SP_pole_0 : decode b_SP_pole 0 = .ok (.iload_n 1, 1) := by decide +kernel
theorem d_SP_pole_1 : decode b_SP_pole 1 = .ok (.sipush (-1000), 3) := by decide +kernel
theorem d_SP_pole_4 : decode b_SP_pole 4 = .ok (.sipush 1000, 3) := by decide +kernel
theorem d_SP_pole_7 : decode b_SP_pole 7 = .ok (.invokestatic 35, 3) := by decide +kernel
theorem d_SP_pole_10 : decode b_SP_pole 10 = .ok (.iload_n 2, 1) := by decide +kernel
theorem d_SP_pole_11 : decode b_SP_pole 11 = .ok (.sipush (-1000), 3) := by decide +kernel
theorem d_SP_pole_14 : decode b_SP_pole 14 = .ok (.sipush 1000, 3) := by decide +kernel
theorem d_SP_pole_17 : decode b_SP_pole 17 = .ok (.invokestatic 35, 3) := by decide +kernel
theorem d_SP_pole_20 : decode b_SP_pole 20 = .ok (.aload_n 0, 1) := by decide +kernel
theorem d_SP_pole_21 : decode b_SP_pole 21 = .ok (.getfield 10, 3) := by decide +kernel
theorem d_SP_pole_24 : decode b_SP_pole 24 = .ok (.getfield 88, 3) := by decide +kernel
theorem d_SP_pole_27 : decode b_SP_pole 27 = .ok (.istore_n 3, 1) := by decide +kernel
theorem d_SP_pole_28 : decode b_SP_pole 28 = .ok (.iload_n 3, 1) := by decide +kernel
theorem d_SP_pole_29 : decode b_SP_pole 29 = .ok (.bipush 20, 2) := by decide +kernel
theorem d_SP_pole_31 : decode b_SP_pole 31 = .ok (.if_icmp .lt 13, 3) := by decide +kernel
theorem d_SP_pole_34 : decode b_SP_pole 34 = .ok (.new 43, 3) := by decide +kernel
theorem d_SP_pole_37 : decode b_SP_pole 37 = .ok (.dup, 1) := by decide +kernel
theorem d_SP_pole_38 : decode b_SP_pole 38 = .ok (.ldc 91, 2) := by decide +kernel
theorem d_SP_pole_40 : decode b_SP_pole 40 = .ok (.invokespecial 47, 3) := by decide +kernel
theorem d_SP_pole_43 : decode b_SP_pole 43 = .ok (.athrow, 1) := by decide +kernel
theorem d_SP_pole_44 : decode b_SP_pole 44 = .ok (.aload_n 0, 1) := by decide +kernel
theorem d_SP_pole_45 : decode b_SP_pole 45 = .ok (.getfield 10, 3) := by decide +kernel
theorem d_SP_pole_48 : decode b_SP_pole 48 = .ok (.getfield 93, 3) := by decide +kernel
theorem d_SP_pole_51 : decode b_SP_pole 51 = .ok (.iload_n 3, 1) := by decide +kernel
theorem d_SP_pole_52 : decode b_SP_pole 52 = .ok (.iload_n 1, 1) := by decide +kernel
theorem d_SP_pole_53 : decode b_SP_pole 53 = .ok (.sipush 4096, 3) := by decide +kernel
theorem d_SP_pole_56 : decode b_SP_pole 56 = .ok (.imul, 1) := by decide +kernel
theorem d_SP_pole_57 : decode b_SP_pole 57 = .ok (.iastore, 1) := by decide +kernel
theorem d_SP_pole_58 : decode b_SP_pole 58 = .ok (.aload_n 0, 1) := by decide +kernel
theorem d_SP_pole_59 : decode b_SP_pole 59 = .ok (.getfield 10, 3) := by decide +kernel
theorem d_SP_pole_62 : decode b_SP_pole 62 = .ok (.getfield 97, 3) := by decide +kernel
theorem d_SP_pole_65 : decode b_SP_pole 65 = .ok (.iload_n 3, 1) := by decide +kernel
theorem d_SP_pole_66 : decode b_SP_pole 66 = .ok (.iload_n 2, 1) := by decide +kernel
theorem d_SP_pole_67 : decode b_SP_pole 67 = .ok (.sipush 4096, 3) := by decide +kernel
theorem d_SP_pole_70 : decode b_SP_pole 70 = .ok (.imul, 1) := by decide +kernel
theorem d_SP_pole_71 : decode b_SP_pole 71 = .ok (.iastore, 1) := by decide +kernel
theorem d_SP_pole_72 : decode b_SP_pole 72 = .ok (.aload_n 0, 1) := by decide +kernel
theorem d_SP_pole_73 : decode b_SP_pole 73 = .ok (.getfield 10, 3) := by decide +kernel
theorem d_SP_pole_76 : decode b_SP_pole 76 = .ok (.iload_n 3, 1) := by decide +kernel
theorem d_SP_pole_77 : decode b_SP_pole 77 = .ok (.iconst 1, 1) := by decide +kernel
theorem d_SP_pole_78 : decode b_SP_pole 78 = .ok (.iadd, 1) := by decide +kernel
theorem d_SP_pole_79 : decode b_SP_pole 79 = .ok (.putfield 88, 3) := by decide +kernel
theorem d_SP_pole_82 : decode b_SP_pole 82 = .ok (.iload_n 3, 1) := by decide +kernel
theorem d_SP_pole_83 : decode b_SP_pole 83 = .ok (.ireturn, 1) := by decide +kernel
theorem d_SP_go_0 : decode b_SP_go 0 = .ok (.iload_n 1, 1) := by decide +kernel
theorem d_SP_go_1 : decode b_SP_go 1 = .ok (.bipush (-3), 2) := by decide +kernel
theorem d_SP_go_3 : decode b_SP_go 3 = .ok (.iconst 3, 1) := by decide +kernel
theorem d_SP_go_4 : decode b_SP_go 4 = .ok (.invokestatic 35, 3) := by decide +kernel
theorem d_SP_go_7 : decode b_SP_go 7 = .ok (.iload_n 2, 1) := by decide +kernel
theorem d_SP_go_8 : decode b_SP_go 8 = .ok (.iconst 1, 1) := by decide +kernel
theorem d_SP_go_9 : decode b_SP_go 9 = .ok (.sipush 200, 3) := by decide +kernel
theorem d_SP_go_12 : decode b_SP_go 12 = .ok (.invokestatic 35, 3) := by decide +kernel
theorem d_SP_go_15 : decode b_SP_go 15 = .ok (.aload_n 0, 1) := by decide +kernel
theorem d_SP_go_16 : decode b_SP_go 16 = .ok (.invokevirtual 100, 3) := by decide +kernel
theorem d_SP_go_19 : decode b_SP_go 19 = .ok (.aload_n 0, 1) := by decide +kernel
theorem d_SP_go_20 : decode b_SP_go 20 = .ok (.getfield 21, 3) := by decide +kernel
theorem d_SP_go_23 : decode b_SP_go 23 = .ok (.iload_n 1, 1) := by decide +kernel
theorem d_SP_go_24 : decode b_SP_go 24 = .ok (.iload_n 2, 1) := by decide +kernel
theorem d_SP_go_25 : decode b_SP_go 25 = .ok (.iload_n 3, 1) := by decide +kernel
theorem d_SP_go_26 : decode b_SP_go 26 = .ok (.invokevirtual 103, 3) := by decide +kernel
theorem d_SP_go_29 : decode b_SP_go 29 = .ok (.aload_n 0, 1) := by decide +kernel
theorem d_SP_go_30 : decode b_SP_go 30 = .ok (.getfield 21, 3) := by decide +kernel
theorem d_SP_go_33 : decode b_SP_go 33 = .ok (.getfield 107, 3) := by decide +kernel
theorem d_SP_go_36 : decode b_SP_go 36 = .ok (.ireturn, 1) := by decide +kernel
theorem d_SP_told_0 : decode b_SP_told 0 = .ok (.iload_n 1, 1) := by decide +kernel
theorem d_SP_told_1 : decode b_SP_told 1 = .ok (.iconst 0, 1) := by decide +kernel
theorem d_SP_told_2 : decode b_SP_told 2 = .ok (.aload_n 0, 1) := by decide +kernel
theorem d_SP_told_3 : decode b_SP_told 3 = .ok (.getfield 10, 3) := by decide +kernel
theorem d_SP_told_6 : decode b_SP_told 6 = .ok (.getfield 39, 3) := by decide +kernel
theorem d_SP_told_9 : decode b_SP_told 9 = .ok (.iconst 1, 1) := by decide +kernel
theorem d_SP_told_10 : decode b_SP_told 10 = .ok (.isub, 1) := by decide +kernel
theorem d_SP_told_11 : decode b_SP_told 11 = .ok (.invokestatic 35, 3) := by decide +kernel
theorem d_SP_told_14 : decode b_SP_told 14 = .ok (.iload_n 2, 1) := by decide +kernel
theorem d_SP_told_15 : decode b_SP_told 15 = .ok (.iconst 0, 1) := by decide +kernel
theorem d_SP_told_16 : decode b_SP_told 16 = .ok (.iconst 4, 1) := by decide +kernel
theorem d_SP_told_17 : decode b_SP_told 17 = .ok (.invokestatic 35, 3) := by decide +kernel
theorem d_SP_told_20 : decode b_SP_told 20 = .ok (.aload_n 0, 1) := by decide +kernel
theorem d_SP_told_21 : decode b_SP_told 21 = .ok (.getfield 21, 3) := by decide +kernel
theorem d_SP_told_24 : decode b_SP_told 24 = .ok (.getfield 110, 3) := by decide +kernel
theorem d_SP_told_27 : decode b_SP_told 27 = .ok (.iload_n 1, 1) := by decide +kernel
theorem d_SP_told_28 : decode b_SP_told 28 = .ok (.aaload, 1) := by decide +kernel
theorem d_SP_told_29 : decode b_SP_told 29 = .ok (.astore_n 3, 1) := by decide +kernel
theorem d_SP_told_30 : decode b_SP_told 30 = .ok (.iload_n 2, 1) := by decide +kernel
theorem d_SP_told_31 : decode b_SP_told 31 = .ok (.tableswitch 53 0 3 #[29, 34, 39, 44], 29) := by decide +kernel
theorem d_SP_told_60 : decode b_SP_told 60 = .ok (.aload_n 3, 1) := by decide +kernel
theorem d_SP_told_61 : decode b_SP_told 61 = .ok (.getfield 114, 3) := by decide +kernel
theorem d_SP_told_64 : decode b_SP_told 64 = .ok (.ireturn, 1) := by decide +kernel
theorem d_SP_told_65 : decode b_SP_told 65 = .ok (.aload_n 3, 1) := by decide +kernel
theorem d_SP_told_66 : decode b_SP_told 66 = .ok (.getfield 119, 3) := by decide +kernel
theorem d_SP_told_69 : decode b_SP_told 69 = .ok (.ireturn, 1) := by decide +kernel
theorem d_SP_told_70 : decode b_SP_told 70 = .ok (.aload_n 3, 1) := by decide +kernel
theorem d_SP_told_71 : decode b_SP_told 71 = .ok (.getfield 122, 3) := by decide +kernel
theorem d_SP_told_74 : decode b_SP_told 74 = .ok (.ireturn, 1) := by decide +kernel
theorem d_SP_told_75 : decode b_SP_told 75 = .ok (.aload_n 0, 1) := by decide +kernel
theorem d_SP_told_76 : decode b_SP_told 76 = .ok (.getfield 21, 3) := by decide +kernel
theorem d_SP_told_79 : decode b_SP_told 79 = .ok (.iload_n 1, 1) := by decide +kernel
theorem d_SP_told_80 : decode b_SP_told 80 = .ok (.invokevirtual 125, 3) := by decide +kernel
theorem d_SP_told_83 : decode b_SP_told 83 = .ok (.ireturn, 1) := by decide +kernel
theorem d_SP_told_84 : decode b_SP_told 84 = .ok (.aload_n 3, 1) := by decide +kernel
theorem d_SP_told_85 : decode b_SP_told 85 = .ok (.getfield 129, 3) := by decide +kernel
theorem d_SP_told_88 : decode b_SP_told 88 = .ok (.ireturn, 1) := by decide +kernel
theorem d_SP_corner_0 : decode b_SP_corner 0 = .ok (.iload_n 1, 1) := by decide +kernel
theorem d_SP_corner_1 : decode b_SP_corner 1 = .ok (.iconst 0, 1) := by decide +kernel
theorem d_SP_corner_2 : decode b_SP_corner 2 = .ok (.aload_n 0, 1) := by decide +kernel
theorem d_SP_corner_3 : decode b_SP_corner 3 = .ok (.getfield 10, 3) := by decide +kernel
theorem d_SP_corner_6 : decode b_SP_corner 6 = .ok (.getfield 39, 3) := by decide +kernel
theorem d_SP_corner_9 : decode b_SP_corner 9 = .ok (.iconst 1, 1) := by decide +kernel
theorem d_SP_corner_10 : decode b_SP_corner 10 = .ok (.isub, 1) := by decide +kernel
theorem d_SP_corner_11 : decode b_SP_corner 11 = .ok (.invokestatic 35, 3) := by decide +kernel
theorem d_SP_corner_14 : decode b_SP_corner 14 = .ok (.iload_n 2, 1) := by decide +kernel
theorem d_SP_corner_15 : decode b_SP_corner 15 = .ok (.iconst 0, 1) := by decide +kernel
theorem d_SP_corner_16 : decode b_SP_corner 16 = .ok (.iconst 3, 1) := by decide +kernel
theorem d_SP_corner_17 : decode b_SP_corner 17 = .ok (.invokestatic 35, 3) := by decide +kernel
theorem d_SP_corner_20 : decode b_SP_corner 20 = .ok (.iload_n 3, 1) := by decide +kernel
theorem d_SP_corner_21 : decode b_SP_corner 21 = .ok (.iconst 0, 1) := by decide +kernel
theorem d_SP_corner_22 : decode b_SP_corner 22 = .ok (.iconst 1, 1) := by decide +kernel
theorem d_SP_corner_23 : decode b_SP_corner 23 = .ok (.invokestatic 35, 3) := by decide +kernel
theorem d_SP_corner_26 : decode b_SP_corner 26 = .ok (.aload_n 0, 1) := by decide +kernel
theorem d_SP_corner_27 : decode b_SP_corner 27 = .ok (.getfield 10, 3) := by decide +kernel
theorem d_SP_corner_30 : decode b_SP_corner 30 = .ok (.getfield 50, 3) := by decide +kernel
theorem d_SP_corner_33 : decode b_SP_corner 33 = .ok (.iload_n 1, 1) := by decide +kernel
theorem d_SP_corner_34 : decode b_SP_corner 34 = .ok (.aaload, 1) := by decide +kernel
theorem d_SP_corner_35 : decode b_SP_corner 35 = .ok (.astore 4, 2) := by decide +kernel
theorem d_SP_corner_37 : decode b_SP_corner 37 = .ok (.aload_n 0, 1) := by decide +kernel
theorem d_SP_corner_38 : decode b_SP_corner 38 = .ok (.getfield 21, 3) := by decide +kernel
theorem d_SP_corner_41 : decode b_SP_corner 41 = .ok (.getfield 110, 3) := by decide +kernel
theorem d_SP_corner_44 : decode b_SP_corner 44 = .ok (.iload_n 1, 1) := by decide +kernel
theorem d_SP_corner_45 : decode b_SP_corner 45 = .ok (.aaload, 1) := by decide +kernel
theorem d_SP_corner_46 : decode b_SP_corner 46 = .ok (.astore 5, 2) := by decide +kernel
theorem d_SP_corner_48 : decode b_SP_corner 48 = .ok (.aload 5, 2) := by decide +kernel
theorem d_SP_corner_50 : decode b_SP_corner 50 = .ok (.getfield 122, 3) := by decide +kernel
theorem d_SP_corner_53 : decode b_SP_corner 53 = .ok (.invokestatic 132, 3) := by decide +kernel
theorem d_SP_corner_56 : decode b_SP_corner 56 = .ok (.istore 6, 2) := by decide +kernel
theorem d_SP_corner_58 : decode b_SP_corner 58 = .ok (.aload 5, 2) := by decide +kernel
theorem d_SP_corner_60 : decode b_SP_corner 60 = .ok (.getfield 122, 3) := by decide +kernel
theorem d_SP_corner_63 : decode b_SP_corner 63 = .ok (.invokestatic 135, 3) := by decide +kernel
theorem d_SP_corner_66 : decode b_SP_corner 66 = .ok (.istore 7, 2) := by decide +kernel
theorem d_SP_corner_68 : decode b_SP_corner 68 = .ok (.iload_n 2, 1) := by decide +kernel
theorem d_SP_corner_69 : decode b_SP_corner 69 = .ok (.iconst 1, 1) := by decide +kernel
theorem d_SP_corner_70 : decode b_SP_corner 70 = .ok (.if_icmp .gt 11, 3) := by decide +kernel
theorem d_SP_corner_73 : decode b_SP_corner 73 = .ok (.aload 4, 2) := by decide +kernel
theorem d_SP_corner_75 : decode b_SP_corner 75 = .ok (.getfield 62, 3) := by decide +kernel
theorem d_SP_corner_78 : decode b_SP_corner 78 = .ok (.goto 9, 3) := by decide +kernel
theorem d_SP_corner_81 : decode b_SP_corner 81 = .ok (.aload 4, 2) := by decide +kernel
theorem d_SP_corner_83 : decode b_SP_corner 83 = .ok (.getfield 65, 3) := by decide +kernel
theorem d_SP_corner_86 : decode b_SP_corner 86 = .ok (.ineg, 1) := by decide +kernel
theorem d_SP_corner_87 : decode b_SP_corner 87 = .ok (.istore 8, 2) := by decide +kernel
theorem d_SP_corner_89 : decode b_SP_corner 89 = .ok (.iload_n 2, 1) := by decide +kernel
theorem d_SP_corner_90 : decode b_SP_corner 90 = .ok (.ifCond .eq 8, 3) := by decide +kernel
theorem d_SP_corner_93 : decode b_SP_corner 93 = .ok (.iload_n 2, 1) := by decide +kernel
theorem d_SP_corner_94 : decode b_SP_corner 94 = .ok (.iconst 3, 1) := by decide +kernel
theorem d_SP_corner_95 : decode b_SP_corner 95 = .ok (.if_icmp .ne 11, 3) := by decide +kernel
theorem d_SP_corner_98 : decode b_SP_corner 98 = .ok (.aload 4, 2) := by decide +kernel
theorem d_SP_corner_100 : decode b_SP_corner 100 = .ok (.getfield 68, 3) := by decide +kernel
theorem d_SP_corner_103 : decode b_SP_corner 103 = .ok (.goto 9, 3) := by decide +kernel
theorem d_SP_corner_106 : decode b_SP_corner 106 = .ok (.aload 4, 2) := by decide +kernel
theorem d_SP_corner_108 : decode b_SP_corner 108 = .ok (.getfield 68, 3) := by decide +kernel
theorem d_SP_corner_111 : decode b_SP_corner 111 = .ok (.ineg, 1) := by decide +kernel
theorem d_SP_corner_112 : decode b_SP_corner 112 = .ok (.istore 9, 2) := by decide +kernel
theorem d_SP_corner_114 : decode b_SP_corner 114 = .ok (.iload_n 3, 1) := by decide +kernel
theorem d_SP_corner_115 : decode b_SP_corner 115 = .ok (.ifCond .ne 23, 3) := by decide +kernel
theorem d_SP_corner_118 : decode b_SP_corner 118 = .ok (.aload 5, 2) := by decide +kernel
theorem d_SP_corner_120 : decode b_SP_corner 120 = .ok (.getfield 114, 3) := by decide +kernel
theorem d_SP_corner_123 : decode b_SP_corner 123 = .ok (.iload 8, 2) := by decide +kernel
theorem d_SP_corner_125 : decode b_SP_corner 125 = .ok (.iload 6, 2) := by decide +kernel
theorem d_SP_corner_127 : decode b_SP_corner 127 = .ok (.imul, 1) := by decide +kernel
theorem d_SP_corner_128 : decode b_SP_corner 128 = .ok (.iadd, 1) := by decide +kernel
theorem d_SP_corner_129 : decode b_SP_corner 129 = .ok (.iload 9, 2) := by decide +kernel
theorem d_SP_corner_131 : decode b_SP_corner 131 = .ok (.iload 7, 2) := by decide +kernel
theorem d_SP_corner_133 : decode b_SP_corner 133 = .ok (.imul, 1) := by decide +kernel
theorem d_SP_corner_134 : decode b_SP_corner 134 = .ok (.isub, 1) := by decide +kernel
theorem d_SP_corner_135 : decode b_SP_corner 135 = .ok (.goto 20, 3) := by decide +kernel
theorem d_SP_corner_138 : decode b_SP_corner 138 = .ok (.aload 5, 2) := by decide +kernel
theorem d_SP_corner_140 : decode b_SP_corner 140 = .ok (.getfield 119, 3) := by decide +kernel
theorem d_SP_corner_143 : decode b_SP_corner 143 = .ok (.iload 8, 2) := by decide +kernel
theorem d_SP_corner_145 : decode b_SP_corner 145 = .ok (.iload 7, 2) := by decide +kernel
theorem d_SP_corner_147 : decode b_SP_corner 147 = .ok (.imul, 1) := by decide +kernel
theorem d_SP_corner_148 : decode b_SP_corner 148 = .ok (.iadd, 1) := by decide +kernel
theorem d_SP_corner_149 : decode b_SP_corner 149 = .ok (.iload 9, 2) := by decide +kernel
theorem d_SP_corner_151 : decode b_SP_corner 151 = .ok (.iload 6, 2) := by decide +kernel
theorem d_SP_corner_153 : decode b_SP_corner 153 = .ok (.imul, 1) := by decide +kernel
theorem d_SP_corner_154 : decode b_SP_corner 154 = .ok (.iadd, 1) := by decide +kernel
theorem d_SP_corner_155 : decode b_SP_corner 155 = .ok (.ireturn, 1) := by decide +kernel
theorem d_SP_swept_0 : decode b_SP_swept 0 = .ok (.aload_n 0, 1) := by decide +kernel
theorem d_SP_swept_1 : decode b_SP_swept 1 = .ok (.getfield 21, 3) := by decide +kernel
theorem d_SP_swept_4 : decode b_SP_swept 4 = .ok (.getfield 138, 3) := by decide +kernel
theorem d_SP_swept_7 : decode b_SP_swept 7 = .ok (.getfield 142, 3) := by decide +kernel
theorem d_SP_swept_10 : decode b_SP_swept 10 = .ok (.ireturn, 1) := by decide +kernel
theorem d_SP_cell_0 : decode b_SP_cell 0 = .ok (.iload_n 1, 1) := by decide +kernel
theorem d_SP_cell_1 : decode b_SP_cell 1 = .ok (.bipush (-32), 2) := by decide +kernel
theorem d_SP_cell_3 : decode b_SP_cell 3 = .ok (.bipush 31, 2) := by decide +kernel
theorem d_SP_cell_5 : decode b_SP_cell 5 = .ok (.invokestatic 35, 3) := by decide +kernel
theorem d_SP_cell_8 : decode b_SP_cell 8 = .ok (.iload_n 2, 1) := by decide +kernel
theorem d_SP_cell_9 : decode b_SP_cell 9 = .ok (.bipush (-32), 2) := by decide +kernel
theorem d_SP_cell_11 : decode b_SP_cell 11 = .ok (.bipush 31, 2) := by decide +kernel
theorem d_SP_cell_13 : decode b_SP_cell 13 = .ok (.invokestatic 35, 3) := by decide +kernel
theorem d_SP_cell_16 : decode b_SP_cell 16 = .ok (.aload_n 0, 1) := by decide +kernel
theorem d_SP_cell_17 : decode b_SP_cell 17 = .ok (.getfield 21, 3) := by decide +kernel
theorem d_SP_cell_20 : decode b_SP_cell 20 = .ok (.getfield 138, 3) := by decide +kernel
theorem d_SP_cell_23 : decode b_SP_cell 23 = .ok (.iload_n 1, 1) := by decide +kernel
theorem d_SP_cell_24 : decode b_SP_cell 24 = .ok (.iload_n 2, 1) := by decide +kernel
theorem d_SP_cell_25 : decode b_SP_cell 25 = .ok (.invokevirtual 147, 3) := by decide +kernel
theorem d_SP_cell_28 : decode b_SP_cell 28 = .ok (.ireturn, 1) := by decide +kernel
theorem d_SP_clash_0 : decode b_SP_clash 0 = .ok (.iload_n 1, 1) := by decide +kernel
theorem d_SP_clash_1 : decode b_SP_clash 1 = .ok (.iconst 0, 1) := by decide +kernel
theorem d_SP_clash_2 : decode b_SP_clash 2 = .ok (.iconst 2, 1) := by decide +kernel
theorem d_SP_clash_3 : decode b_SP_clash 3 = .ok (.invokestatic 35, 3) := by decide +kernel
theorem d_SP_clash_6 : decode b_SP_clash 6 = .ok (.iload_n 1, 1) := by decide +kernel
theorem d_SP_clash_7 : decode b_SP_clash 7 = .ok (.lookupswitch 41 #[(0, 25), (1, 33)], 25) := by decide +kernel
theorem d_SP_clash_32 : decode b_SP_clash 32 = .ok (.aload_n 0, 1) := by decide +kernel
theorem d_SP_clash_33 : decode b_SP_clash 33 = .ok (.getfield 21, 3) := by decide +kernel
theorem d_SP_clash_36 : decode b_SP_clash 36 = .ok (.getfield 151, 3) := by decide +kernel
theorem d_SP_clash_39 : decode b_SP_clash 39 = .ok (.ireturn, 1) := by decide +kernel
theorem d_SP_clash_40 : decode b_SP_clash 40 = .ok (.aload_n 0, 1) := by decide +kernel
theorem d_SP_clash_41 : decode b_SP_clash 41 = .ok (.getfield 21, 3) := by decide +kernel
theorem d_SP_clash_44 : decode b_SP_clash 44 = .ok (.getfield 154, 3) := by decide +kernel
theorem d_SP_clash_47 : decode b_SP_clash 47 = .ok (.ireturn, 1) := by decide +kernel
theorem d_SP_clash_48 : decode b_SP_clash 48 = .ok (.aload_n 0, 1) := by decide +kernel
theorem d_SP_clash_49 : decode b_SP_clash 49 = .ok (.getfield 21, 3) := by decide +kernel
theorem d_SP_clash_52 : decode b_SP_clash 52 = .ok (.getfield 157, 3) := by decide +kernel
theorem d_SP_clash_55 : decode b_SP_clash 55 = .ok (.ireturn, 1) := by decide +kernel
theorem d_SP_isStuck_0 : decode b_SP_isStuck 0 = .ok (.aload_n 0, 1) := by decide +kernel
theorem d_SP_isStuck_1 : decode b_SP_isStuck 1 = .ok (.getfield 21, 3) := by decide +kernel
theorem d_SP_isStuck_4 : decode b_SP_isStuck 4 = .ok (.getfield 160, 3) := by decide +kernel
theorem d_SP_isStuck_7 : decode b_SP_isStuck 7 = .ok (.ireturn, 1) := by decide +kernel
theorem d_SP_part_0 : decode b_SP_part 0 = .ok (.iload_n 1, 1) := by decide +kernel
theorem d_SP_part_1 : decode b_SP_part 1 = .ok (.iconst 0, 1) := by decide +kernel
theorem d_SP_part_2 : decode b_SP_part 2 = .ok (.iconst 3, 1) := by decide +kernel
theorem d_SP_part_3 : decode b_SP_part 3 = .ok (.invokestatic 35, 3) := by decide +kernel
theorem d_SP_part_6 : decode b_SP_part 6 = .ok (.iload_n 2, 1) := by decide +kernel
theorem d_SP_part_7 : decode b_SP_part 7 = .ok (.bipush (-3), 2) := by decide +kernel
theorem d_SP_part_9 : decode b_SP_part 9 = .ok (.iconst 3, 1) := by decide +kernel
theorem d_SP_part_10 : decode b_SP_part 10 = .ok (.invokestatic 35, 3) := by decide +kernel
theorem d_SP_part_13 : decode b_SP_part 13 = .ok (.iload_n 3, 1) := by decide +kernel
theorem d_SP_part_14 : decode b_SP_part 14 = .ok (.iconst 1, 1) := by decide +kernel
theorem d_SP_part_15 : decode b_SP_part 15 = .ok (.bipush 60, 2) := by decide +kernel
theorem d_SP_part_17 : decode b_SP_part 17 = .ok (.invokestatic 35, 3) := by decide +kernel
theorem d_SP_part_20 : decode b_SP_part 20 = .ok (.aload_n 0, 1) := by decide +kernel
theorem d_SP_part_21 : decode b_SP_part 21 = .ok (.getfield 30, 3) := by decide +kernel
theorem d_SP_part_24 : decode b_SP_part 24 = .ok (.iload_n 1, 1) := by decide +kernel
theorem d_SP_part_25 : decode b_SP_part 25 = .ok (.aaload, 1) := by decide +kernel
theorem d_SP_part_26 : decode b_SP_part 26 = .ok (.astore 5, 2) := by decide +kernel
theorem d_SP_part_28 : decode b_SP_part 28 = .ok (.aload 5, 2) := by decide +kernel
theorem d_SP_part_30 : decode b_SP_part 30 = .ok (.iload_n 2, 1) := by decide +kernel
theorem d_SP_part_31 : decode b_SP_part 31 = .ok (.iload_n 3, 1) := by decide +kernel
theorem d_SP_part_32 : decode b_SP_part 32 = .ok (.iload 4, 2) := by decide +kernel
theorem d_SP_part_34 : decode b_SP_part 34 = .ok (.invokevirtual 164, 3) := by decide +kernel
theorem d_SP_part_37 : decode b_SP_part 37 = .ok (.ifCond .ne 13, 3) := by decide +kernel
theorem d_SP_part_40 : decode b_SP_part 40 = .ok (.new 43, 3) := by decide +kernel
theorem d_SP_part_43 : decode b_SP_part 43 = .ok (.dup, 1) := by decide +kernel
theorem d_SP_part_44 : decode b_SP_part 44 = .ok (.ldc 168, 2) := by decide +kernel
theorem d_SP_part_46 : decode b_SP_part 46 = .ok (.invokespecial 47, 3) := by decide +kernel
theorem d_SP_part_49 : decode b_SP_part 49 = .ok (.athrow, 1) := by decide +kernel
theorem d_SP_part_50 : decode b_SP_part 50 = .ok (.aload 5, 2) := by decide +kernel
theorem d_SP_part_52 : decode b_SP_part 52 = .ok (.getfield 170, 3) := by decide +kernel
theorem d_SP_part_55 : decode b_SP_part 55 = .ok (.ireturn, 1) := by decide +kernel
theorem d_SP_clear_0 : decode b_SP_clear 0 = .ok (.iload_n 1, 1) := by decide +kernel
theorem d_SP_clear_1 : decode b_SP_clear 1 = .ok (.iconst 0, 1) := by decide +kernel
theorem d_SP_clear_2 : decode b_SP_clear 2 = .ok (.iconst 3, 1) := by decide +kernel
theorem d_SP_clear_3 : decode b_SP_clear 3 = .ok (.invokestatic 35, 3) := by decide +kernel
theorem d_SP_clear_6 : decode b_SP_clear 6 = .ok (.aload_n 0, 1) := by decide +kernel
theorem d_SP_clear_7 : decode b_SP_clear 7 = .ok (.getfield 30, 3) := by decide +kernel
theorem d_SP_clear_10 : decode b_SP_clear 10 = .ok (.iload_n 1, 1) := by decide +kernel
theorem d_SP_clear_11 : decode b_SP_clear 11 = .ok (.aaload, 1) := by decide +kernel
theorem d_SP_clear_12 : decode b_SP_clear 12 = .ok (.getfield 170, 3) := by decide +kernel
theorem d_SP_clear_15 : decode b_SP_clear 15 = .ok (.istore_n 2, 1) := by decide +kernel
theorem d_SP_clear_16 : decode b_SP_clear 16 = .ok (.aload_n 0, 1) := by decide +kernel
theorem d_SP_clear_17 : decode b_SP_clear 17 = .ok (.getfield 30, 3) := by decide +kernel
theorem d_SP_clear_20 : decode b_SP_clear 20 = .ok (.iload_n 1, 1) := by decide +kernel
theorem d_SP_clear_21 : decode b_SP_clear 21 = .ok (.aaload, 1) := by decide +kernel
theorem d_SP_clear_22 : decode b_SP_clear 22 = .ok (.iconst 0, 1) := by decide +kernel
theorem d_SP_clear_23 : decode b_SP_clear 23 = .ok (.putfield 170, 3) := by decide +kernel
theorem d_SP_clear_26 : decode b_SP_clear 26 = .ok (.iload_n 2, 1) := by decide +kernel
theorem d_SP_clear_27 : decode b_SP_clear 27 = .ok (.ireturn, 1) := by decide +kernel
theorem d_SP_best_0 : decode b_SP_best 0 = .ok (.aload_n 0, 1) := by decide +kernel
theorem d_SP_best_1 : decode b_SP_best 1 = .ok (.invokevirtual 100, 3) := by decide +kernel
theorem d_SP_best_4 : decode b_SP_best 4 = .ok (.iconst (-1), 1) := by decide +kernel
theorem d_SP_best_5 : decode b_SP_best 5 = .ok (.istore_n 1, 1) := by decide +kernel
theorem d_SP_best_6 : decode b_SP_best 6 = .ok (.iconst 0, 1) := by decide +kernel
theorem d_SP_best_7 : decode b_SP_best 7 = .ok (.istore_n 2, 1) := by decide +kernel
theorem d_SP_best_8 : decode b_SP_best 8 = .ok (.iconst 0, 1) := by decide +kernel
theorem d_SP_best_9 : decode b_SP_best 9 = .ok (.istore_n 3, 1) := by decide +kernel
theorem d_SP_best_10 : decode b_SP_best 10 = .ok (.iload_n 3, 1) := by decide +kernel
theorem d_SP_best_11 : decode b_SP_best 11 = .ok (.iconst 4, 1) := by decide +kernel
theorem d_SP_best_12 : decode b_SP_best 12 = .ok (.if_icmp .ge 64, 3) := by decide +kernel
theorem d_SP_best_15 : decode b_SP_best 15 = .ok (.aload_n 0, 1) := by decide +kernel
theorem d_SP_best_16 : decode b_SP_best 16 = .ok (.getfield 25, 3) := by decide +kernel
theorem d_SP_best_19 : decode b_SP_best 19 = .ok (.aload_n 0, 1) := by decide +kernel
theorem d_SP_best_20 : decode b_SP_best 20 = .ok (.getfield 30, 3) := by decide +kernel
theorem d_SP_best_23 : decode b_SP_best 23 = .ok (.iload_n 3, 1) := by decide +kernel
theorem d_SP_best_24 : decode b_SP_best 24 = .ok (.aaload, 1) := by decide +kernel
theorem d_SP_best_25 : decode b_SP_best 25 = .ok (.invokevirtual 173, 3) := by decide +kernel
theorem d_SP_best_28 : decode b_SP_best 28 = .ok (.aload_n 0, 1) := by decide +kernel
theorem d_SP_best_29 : decode b_SP_best 29 = .ok (.getfield 25, 3) := by decide +kernel
theorem d_SP_best_32 : decode b_SP_best 32 = .ok (.invokevirtual 177, 3) := by decide +kernel
theorem d_SP_best_35 : decode b_SP_best 35 = .ok (.ifCond .eq 35, 3) := by decide +kernel
theorem d_SP_best_38 : decode b_SP_best 38 = .ok (.iload_n 1, 1) := by decide +kernel
theorem d_SP_best_39 : decode b_SP_best 39 = .ok (.iconst (-1), 1) := by decide +kernel
theorem d_SP_best_40 : decode b_SP_best 40 = .ok (.if_icmp .eq 17, 3) := by decide +kernel
theorem d_SP_best_43 : decode b_SP_best 43 = .ok (.aload_n 0, 1) := by decide +kernel
theorem d_SP_best_44 : decode b_SP_best 44 = .ok (.getfield 25, 3) := by decide +kernel
theorem d_SP_best_47 : decode b_SP_best 47 = .ok (.getfield 138, 3) := by decide +kernel
theorem d_SP_best_50 : decode b_SP_best 50 = .ok (.getfield 142, 3) := by decide +kernel
theorem d_SP_best_53 : decode b_SP_best 53 = .ok (.iload_n 2, 1) := by decide +kernel
theorem d_SP_best_54 : decode b_SP_best 54 = .ok (.if_icmp .ge 16, 3) := by decide +kernel
theorem d_SP_best_57 : decode b_SP_best 57 = .ok (.iload_n 3, 1) := by decide +kernel
theorem d_SP_best_58 : decode b_SP_best 58 = .ok (.istore_n 1, 1) := by decide +kernel
theorem d_SP_best_59 : decode b_SP_best 59 = .ok (.aload_n 0, 1) := by decide +kernel
theorem d_SP_best_60 : decode b_SP_best 60 = .ok (.getfield 25, 3) := by decide +kernel
theorem d_SP_best_63 : decode b_SP_best 63 = .ok (.getfield 138, 3) := by decide +kernel
theorem d_SP_best_66 : decode b_SP_best 66 = .ok (.getfield 142, 3) := by decide +kernel
theorem d_SP_best_69 : decode b_SP_best 69 = .ok (.istore_n 2, 1) := by decide +kernel
theorem d_SP_best_70 : decode b_SP_best 70 = .ok (.iinc 3 1, 3) := by decide +kernel
theorem d_SP_best_73 : decode b_SP_best 73 = .ok (.goto (-63), 3) := by decide +kernel
theorem d_SP_best_76 : decode b_SP_best 76 = .ok (.iload_n 1, 1) := by decide +kernel
theorem d_SP_best_77 : decode b_SP_best 77 = .ok (.ireturn, 1) := by decide +kernel
theorem d_SP_sweeps_0 : decode b_SP_sweeps 0 = .ok (.iload_n 1, 1) := by decide +kernel
theorem d_SP_sweeps_1 : decode b_SP_sweeps 1 = .ok (.iconst 0, 1) := by decide +kernel
theorem d_SP_sweeps_2 : decode b_SP_sweeps 2 = .ok (.iconst 3, 1) := by decide +kernel
theorem d_SP_sweeps_3 : decode b_SP_sweeps 3 = .ok (.invokestatic 35, 3) := by decide +kernel
theorem d_SP_sweeps_6 : decode b_SP_sweeps 6 = .ok (.aload_n 0, 1) := by decide +kernel
theorem d_SP_sweeps_7 : decode b_SP_sweeps 7 = .ok (.invokevirtual 100, 3) := by decide +kernel
theorem d_SP_sweeps_10 : decode b_SP_sweeps 10 = .ok (.aload_n 0, 1) := by decide +kernel
theorem d_SP_sweeps_11 : decode b_SP_sweeps 11 = .ok (.getfield 25, 3) := by decide +kernel
theorem d_SP_sweeps_14 : decode b_SP_sweeps 14 = .ok (.aload_n 0, 1) := by decide +kernel
theorem d_SP_sweeps_15 : decode b_SP_sweeps 15 = .ok (.getfield 30, 3) := by decide +kernel
theorem d_SP_sweeps_18 : decode b_SP_sweeps 18 = .ok (.iload_n 1, 1) := by decide +kernel
theorem d_SP_sweeps_19 : decode b_SP_sweeps 19 = .ok (.aaload, 1) := by decide +kernel
theorem d_SP_sweeps_20 : decode b_SP_sweeps 20 = .ok (.invokevirtual 173, 3) := by decide +kernel
theorem d_SP_sweeps_23 : decode b_SP_sweeps 23 = .ok (.aload_n 0, 1) := by decide +kernel
theorem d_SP_sweeps_24 : decode b_SP_sweeps 24 = .ok (.getfield 25, 3) := by decide +kernel
theorem d_SP_sweeps_27 : decode b_SP_sweeps 27 = .ok (.getfield 138, 3) := by decide +kernel
theorem d_SP_sweeps_30 : decode b_SP_sweeps 30 = .ok (.getfield 142, 3) := by decide +kernel
theorem d_SP_sweeps_33 : decode b_SP_sweeps 33 = .ok (.ireturn, 1) := by decide +kernel
theorem d_SP_demandWithin_0 : decode b_SP_demandWithin 0 = .ok (.iload_n 0, 1) := by decide +kernel
theorem d_SP_demandWithin_1 : decode b_SP_demandWithin 1 = .ok (.iload_n 1, 1) := by decide +kernel
theorem d_SP_demandWithin_2 : decode b_SP_demandWithin 2 = .ok (.if_icmp .lt 8, 3) := by decide +kernel
theorem d_SP_demandWithin_5 : decode b_SP_demandWithin 5 = .ok (.iload_n 0, 1) := by decide +kernel
theorem d_SP_demandWithin_6 : decode b_SP_demandWithin 6 = .ok (.iload_n 2, 1) := by decide +kernel
theorem d_SP_demandWithin_7 : decode b_SP_demandWithin 7 = .ok (.if_icmp .le 13, 3) := by decide +kernel
theorem d_SP_demandWithin_10 : decode b_SP_demandWithin 10 = .ok (.new 181, 3) := by decide +kernel
theorem d_SP_demandWithin_13 : decode b_SP_demandWithin 13 = .ok (.dup, 1) := by decide +kernel
theorem d_SP_demandWithin_14 : decode b_SP_demandWithin 14 = .ok (.ldc 183, 2) := by decide +kernel
theorem d_SP_demandWithin_16 : decode b_SP_demandWithin 16 = .ok (.invokespecial 185, 3) := by decide +kernel
theorem d_SP_demandWithin_19 : decode b_SP_demandWithin 19 = .ok (.athrow, 1) := by decide +kernel
theorem d_SP_demandWithin_20 : decode b_SP_demandWithin 20 = .ok (.return_, 1) := by decide +kernel
theorem d_SP_demandSomeBody_0 : decode b_SP_demandSomeBody 0 = .ok (.aload_n 0, 1) := by decide +kernel
theorem d_SP_demandSomeBody_1 : decode b_SP_demandSomeBody 1 = .ok (.getfield 10, 3) := by decide +kernel
theorem d_SP_demandSomeBody_4 : decode b_SP_demandSomeBody 4 = .ok (.getfield 39, 3) := by decide +kernel
theorem d_SP_demandSomeBody_7 : decode b_SP_demandSomeBody 7 = .ok (.ifCond .ne 13, 3) := by decide +kernel
theorem d_SP_demandSomeBody_10 : decode b_SP_demandSomeBody 10 = .ok (.new 43, 3) := by decide +kernel
theorem d_SP_demandSomeBody_13 : decode b_SP_demandSomeBody 13 = .ok (.dup, 1) := by decide +kernel
theorem d_SP_demandSomeBody_14 : decode b_SP_demandSomeBody 14 = .ok (.ldc 186, 2) := by decide +kernel
theorem d_SP_demandSomeBody_16 : decode b_SP_demandSomeBody 16 = .ok (.invokespecial 47, 3) := by decide +kernel
theorem d_SP_demandSomeBody_19 : decode b_SP_demandSomeBody 19 = .ok (.athrow, 1) := by decide +kernel
theorem d_SP_demandSomeBody_20 : decode b_SP_demandSomeBody 20 = .ok (.return_, 1) := by decide +kernel
theorem d_Mo_init_0 : decode b_Mo_init 0 = .ok (.aload_n 0, 1) := by decide +kernel
theorem d_Mo_init_1 : decode b_Mo_init 1 = .ok (.invokespecial 1, 3) := by decide +kernel
theorem d_Mo_init_4 : decode b_Mo_init 4 = .ok (.aload_n 0, 1) := by decide +kernel
theorem d_Mo_init_5 : decode b_Mo_init 5 = .ok (.bipush 17, 2) := by decide +kernel
theorem d_Mo_init_7 : decode b_Mo_init 7 = .ok (.newarray .int, 2) := by decide +kernel
theorem d_Mo_init_9 : decode b_Mo_init 9 = .ok (.dup, 1) := by decide +kernel
theorem d_Mo_init_10 : decode b_Mo_init 10 = .ok (.iconst 0, 1) := by decide +kernel
theorem d_Mo_init_11 : decode b_Mo_init 11 = .ok (.sipush 4096, 3) := by decide +kernel
theorem d_Mo_init_14 : decode b_Mo_init 14 = .ok (.iastore, 1) := by decide +kernel
theorem d_Mo_init_15 : decode b_Mo_init 15 = .ok (.dup, 1) := by decide +kernel
theorem d_Mo_init_16 : decode b_Mo_init 16 = .ok (.iconst 1, 1) := by decide +kernel
theorem d_Mo_init_17 : decode b_Mo_init 17 = .ok (.sipush 4076, 3) := by decide +kernel
theorem d_Mo_init_20 : decode b_Mo_init 20 = .ok (.iastore, 1) := by decide +kernel
theorem d_Mo_init_21 : decode b_Mo_init 21 = .ok (.dup, 1) := by decide +kernel
theorem d_Mo_init_22 : decode b_Mo_init 22 = .ok (.iconst 2, 1) := by decide +kernel
theorem d_Mo_init_23 : decode b_Mo_init 23 = .ok (.sipush 4017, 3) := by decide +kernel
theorem d_Mo_init_26 : decode b_Mo_init 26 = .ok (.iastore, 1) := by decide +kernel
theorem d_Mo_init_27 : decode b_Mo_init 27 = .ok (.dup, 1) := by decide +kernel
theorem d_Mo_init_28 : decode b_Mo_init 28 = .ok (.iconst 3, 1) := by decide +kernel
theorem d_Mo_init_29 : decode b_Mo_init 29 = .ok (.sipush 3920, 3) := by decide +kernel
theorem d_Mo_init_32 : decode b_Mo_init 32 = .ok (.iastore, 1) := by decide +kernel
theorem d_Mo_init_33 : decode b_Mo_init 33 = .ok (.dup, 1) := by decide +kernel
theorem d_Mo_init_34 : decode b_Mo_init 34 = .ok (.iconst 4, 1) := by decide +kernel
theorem d_Mo_init_35 : decode b_Mo_init 35 = .ok (.sipush 3784, 3) := by decide +kernel
theorem d_Mo_init_38 : decode b_Mo_init 38 = .ok (.iastore, 1) := by decide +kernel
theorem d_Mo_init_39 : decode b_Mo_init 39 = .ok (.dup, 1) := by decide +kernel
theorem d_Mo_init_40 : decode b_Mo_init 40 = .ok (.iconst 5, 1) := by decide +kernel
theorem d_Mo_init_41 : decode b_Mo_init 41 = .ok (.sipush 3612, 3) := by decide +kernel
theorem d_Mo_init_44 : decode b_Mo_init 44 = .ok (.iastore, 1) := by decide +kernel
theorem d_Mo_init_45 : decode b_Mo_init 45 = .ok (.dup, 1) := by decide +kernel
theorem d_Mo_init_46 : decode b_Mo_init 46 = .ok (.bipush 6, 2) := by decide +kernel
theorem d_Mo_init_48 : decode b_Mo_init 48 = .ok (.sipush 3406, 3) := by decide +kernel
theorem d_Mo_init_51 : decode b_Mo_init 51 = .ok (.iastore, 1) := by decide +kernel
theorem d_Mo_init_52 : decode b_Mo_init 52 = .ok (.dup, 1) := by decide +kernel
theorem d_Mo_init_53 : decode b_Mo_init 53 = .ok (.bipush 7, 2) := by decide +kernel
theorem d_Mo_init_55 : decode b_Mo_init 55 = .ok (.sipush 3166, 3) := by decide +kernel
theorem d_Mo_init_58 : decode b_Mo_init 58 = .ok (.iastore, 1) := by decide +kernel
theorem d_Mo_init_59 : decode b_Mo_init 59 = .ok (.dup, 1) := by decide +kernel
theorem d_Mo_init_60 : decode b_Mo_init 60 = .ok (.bipush 8, 2) := by decide +kernel
theorem d_Mo_init_62 : decode b_Mo_init 62 = .ok (.sipush 2896, 3) := by decide +kernel
theorem d_Mo_init_65 : decode b_Mo_init 65 = .ok (.iastore, 1) := by decide +kernel
theorem d_Mo_init_66 : decode b_Mo_init 66 = .ok (.dup, 1) := by decide +kernel
theorem d_Mo_init_67 : decode b_Mo_init 67 = .ok (.bipush 9, 2) := by decide +kernel
theorem d_Mo_init_69 : decode b_Mo_init 69 = .ok (.sipush 2598, 3) := by decide +kernel
theorem d_Mo_init_72 : decode b_Mo_init 72 = .ok (.iastore, 1) := by decide +kernel
theorem d_Mo_init_73 : decode b_Mo_init 73 = .ok (.dup, 1) := by decide +kernel
theorem d_Mo_init_74 : decode b_Mo_init 74 = .ok (.bipush 10, 2) := by decide +kernel
theorem d_Mo_init_76 : decode b_Mo_init 76 = .ok (.sipush 2276, 3) := by decide +kernel
theorem d_Mo_init_79 : decode b_Mo_init 79 = .ok (.iastore, 1) := by decide +kernel
theorem d_Mo_init_80 : decode b_Mo_init 80 = .ok (.dup, 1) := by decide +kernel
theorem d_Mo_init_81 : decode b_Mo_init 81 = .ok (.bipush 11, 2) := by decide +kernel
theorem d_Mo_init_83 : decode b_Mo_init 83 = .ok (.sipush 1931, 3) := by decide +kernel
theorem d_Mo_init_86 : decode b_Mo_init 86 = .ok (.iastore, 1) := by decide +kernel
theorem d_Mo_init_87 : decode b_Mo_init 87 = .ok (.dup, 1) := by decide +kernel
theorem d_Mo_init_88 : decode b_Mo_init 88 = .ok (.bipush 12, 2) := by decide +kernel
theorem d_Mo_init_90 : decode b_Mo_init 90 = .ok (.sipush 1567, 3) := by decide +kernel
theorem d_Mo_init_93 : decode b_Mo_init 93 = .ok (.iastore, 1) := by decide +kernel
theorem d_Mo_init_94 : decode b_Mo_init 94 = .ok (.dup, 1) := by decide +kernel
theorem d_Mo_init_95 : decode b_Mo_init 95 = .ok (.bipush 13, 2) := by decide +kernel
theorem d_Mo_init_97 : decode b_Mo_init 97 = .ok (.sipush 1189, 3) := by decide +kernel
theorem d_Mo_init_100 : decode b_Mo_init 100 = .ok (.iastore, 1) := by decide +kernel
theorem d_Mo_init_101 : decode b_Mo_init 101 = .ok (.dup, 1) := by decide +kernel
theorem d_Mo_init_102 : decode b_Mo_init 102 = .ok (.bipush 14, 2) := by decide +kernel
theorem d_Mo_init_104 : decode b_Mo_init 104 = .ok (.sipush 799, 3) := by decide +kernel
theorem d_Mo_init_107 : decode b_Mo_init 107 = .ok (.iastore, 1) := by decide +kernel
theorem d_Mo_init_108 : decode b_Mo_init 108 = .ok (.dup, 1) := by decide +kernel
theorem d_Mo_init_109 : decode b_Mo_init 109 = .ok (.bipush 15, 2) := by decide +kernel
theorem d_Mo_init_111 : decode b_Mo_init 111 = .ok (.sipush 401, 3) := by decide +kernel
theorem d_Mo_init_114 : decode b_Mo_init 114 = .ok (.iastore, 1) := by decide +kernel
theorem d_Mo_init_115 : decode b_Mo_init 115 = .ok (.dup, 1) := by decide +kernel
theorem d_Mo_init_116 : decode b_Mo_init 116 = .ok (.bipush 16, 2) := by decide +kernel
theorem d_Mo_init_118 : decode b_Mo_init 118 = .ok (.iconst 0, 1) := by decide +kernel
theorem d_Mo_init_119 : decode b_Mo_init 119 = .ok (.iastore, 1) := by decide +kernel
theorem d_Mo_init_120 : decode b_Mo_init 120 = .ok (.putfield 7, 3) := by decide +kernel
theorem d_Mo_init_123 : decode b_Mo_init 123 = .ok (.aload_n 0, 1) := by decide +kernel
theorem d_Mo_init_124 : decode b_Mo_init 124 = .ok (.iconst 3, 1) := by decide +kernel
theorem d_Mo_init_125 : decode b_Mo_init 125 = .ok (.newarray .int, 2) := by decide +kernel
theorem d_Mo_init_127 : decode b_Mo_init 127 = .ok (.putfield 13, 3) := by decide +kernel
theorem d_Mo_init_130 : decode b_Mo_init 130 = .ok (.aload_n 0, 1) := by decide +kernel
theorem d_Mo_init_131 : decode b_Mo_init 131 = .ok (.iconst 3, 1) := by decide +kernel
theorem d_Mo_init_132 : decode b_Mo_init 132 = .ok (.newarray .int, 2) := by decide +kernel
theorem d_Mo_init_134 : decode b_Mo_init 134 = .ok (.putfield 16, 3) := by decide +kernel
theorem d_Mo_init_137 : decode b_Mo_init 137 = .ok (.aload_n 0, 1) := by decide +kernel
theorem d_Mo_init_138 : decode b_Mo_init 138 = .ok (.iconst 3, 1) := by decide +kernel
theorem d_Mo_init_139 : decode b_Mo_init 139 = .ok (.newarray .int, 2) := by decide +kernel
theorem d_Mo_init_141 : decode b_Mo_init 141 = .ok (.putfield 19, 3) := by decide +kernel
theorem d_Mo_init_144 : decode b_Mo_init 144 = .ok (.aload_n 0, 1) := by decide +kernel
theorem d_Mo_init_145 : decode b_Mo_init 145 = .ok (.iconst 3, 1) := by decide +kernel
theorem d_Mo_init_146 : decode b_Mo_init 146 = .ok (.newarray .int, 2) := by decide +kernel
theorem d_Mo_init_148 : decode b_Mo_init 148 = .ok (.putfield 22, 3) := by decide +kernel
theorem d_Mo_init_151 : decode b_Mo_init 151 = .ok (.aload_n 0, 1) := by decide +kernel
theorem d_Mo_init_152 : decode b_Mo_init 152 = .ok (.iconst 3, 1) := by decide +kernel
theorem d_Mo_init_153 : decode b_Mo_init 153 = .ok (.newarray .int, 2) := by decide +kernel
theorem d_Mo_init_155 : decode b_Mo_init 155 = .ok (.putfield 25, 3) := by decide +kernel
theorem d_Mo_init_158 : decode b_Mo_init 158 = .ok (.aload_n 0, 1) := by decide +kernel
theorem d_Mo_init_159 : decode b_Mo_init 159 = .ok (.iconst 4, 1) := by decide +kernel
theorem d_Mo_init_160 : decode b_Mo_init 160 = .ok (.putfield 28, 3) := by decide +kernel
theorem d_Mo_init_163 : decode b_Mo_init 163 = .ok (.aload_n 0, 1) := by decide +kernel
theorem d_Mo_init_164 : decode b_Mo_init 164 = .ok (.bipush 20, 2) := by decide +kernel
theorem d_Mo_init_166 : decode b_Mo_init 166 = .ok (.newarray .int, 2) := by decide +kernel
theorem d_Mo_init_168 : decode b_Mo_init 168 = .ok (.putfield 32, 3) := by decide +kernel
theorem d_Mo_init_171 : decode b_Mo_init 171 = .ok (.aload_n 0, 1) := by decide +kernel
theorem d_Mo_init_172 : decode b_Mo_init 172 = .ok (.bipush 20, 2) := by decide +kernel
theorem d_Mo_init_174 : decode b_Mo_init 174 = .ok (.newarray .int, 2) := by decide +kernel
theorem d_Mo_init_176 : decode b_Mo_init 176 = .ok (.putfield 35, 3) := by decide +kernel
theorem d_Mo_init_179 : decode b_Mo_init 179 = .ok (.aload_n 0, 1) := by decide +kernel
theorem d_Mo_init_180 : decode b_Mo_init 180 = .ok (.iconst 4, 1) := by decide +kernel
theorem d_Mo_init_181 : decode b_Mo_init 181 = .ok (.newarray .int, 2) := by decide +kernel
theorem d_Mo_init_183 : decode b_Mo_init 183 = .ok (.putfield 38, 3) := by decide +kernel
theorem d_Mo_init_186 : decode b_Mo_init 186 = .ok (.aload_n 0, 1) := by decide +kernel
theorem d_Mo_init_187 : decode b_Mo_init 187 = .ok (.bipush 24, 2) := by decide +kernel
theorem d_Mo_init_189 : decode b_Mo_init 189 = .ok (.newarray .int, 2) := by decide +kernel
theorem d_Mo_init_191 : decode b_Mo_init 191 = .ok (.putfield 41, 3) := by decide +kernel
theorem d_Mo_init_194 : decode b_Mo_init 194 = .ok (.aload_n 0, 1) := by decide +kernel
theorem d_Mo_init_195 : decode b_Mo_init 195 = .ok (.bipush 24, 2) := by decide +kernel
theorem d_Mo_init_197 : decode b_Mo_init 197 = .ok (.newarray .int, 2) := by decide +kernel
theorem d_Mo_init_199 : decode b_Mo_init 199 = .ok (.putfield 44, 3) := by decide +kernel
theorem d_Mo_init_202 : decode b_Mo_init 202 = .ok (.aload_n 0, 1) := by decide +kernel
theorem d_Mo_init_203 : decode b_Mo_init 203 = .ok (.bipush 24, 2) := by decide +kernel
theorem d_Mo_init_205 : decode b_Mo_init 205 = .ok (.newarray .boolean, 2) := by decide +kernel
theorem d_Mo_init_207 : decode b_Mo_init 207 = .ok (.putfield 47, 3) := by decide +kernel
theorem d_Mo_init_210 : decode b_Mo_init 210 = .ok (.aload_n 0, 1) := by decide +kernel
theorem d_Mo_init_211 : decode b_Mo_init 211 = .ok (.iconst 3, 1) := by decide +kernel
theorem d_Mo_init_212 : decode b_Mo_init 212 = .ok (.newarray .int, 2) := by decide +kernel
theorem d_Mo_init_214 : decode b_Mo_init 214 = .ok (.putfield 51, 3) := by decide +kernel
theorem d_Mo_init_217 : decode b_Mo_init 217 = .ok (.aload_n 0, 1) := by decide +kernel
theorem d_Mo_init_218 : decode b_Mo_init 218 = .ok (.iconst 3, 1) := by decide +kernel
theorem d_Mo_init_219 : decode b_Mo_init 219 = .ok (.newarray .int, 2) := by decide +kernel
theorem d_Mo_init_221 : decode b_Mo_init 221 = .ok (.putfield 54, 3) := by decide +kernel
theorem d_Mo_init_224 : decode b_Mo_init 224 = .ok (.aload_n 0, 1) := by decide +kernel
theorem d_Mo_init_225 : decode b_Mo_init 225 = .ok (.iconst 3, 1) := by decide +kernel
theorem d_Mo_init_226 : decode b_Mo_init 226 = .ok (.newarray .int, 2) := by decide +kernel
theorem d_Mo_init_228 : decode b_Mo_init 228 = .ok (.putfield 57, 3) := by decide +kernel
theorem d_Mo_init_231 : decode b_Mo_init 231 = .ok (.aload_n 0, 1) := by decide +kernel
theorem d_Mo_init_232 : decode b_Mo_init 232 = .ok (.iconst 3, 1) := by decide +kernel
theorem d_Mo_init_233 : decode b_Mo_init 233 = .ok (.newarray .int, 2) := by decide +kernel
theorem d_Mo_init_235 : decode b_Mo_init 235 = .ok (.putfield 60, 3) := by decide +kernel
theorem d_Mo_init_238 : decode b_Mo_init 238 = .ok (.aload_n 0, 1) := by decide +kernel
theorem d_Mo_init_239 : decode b_Mo_init 239 = .ok (.iconst 3, 1) := by decide +kernel
theorem d_Mo_init_240 : decode b_Mo_init 240 = .ok (.newarray .int, 2) := by decide +kernel
theorem d_Mo_init_242 : decode b_Mo_init 242 = .ok (.putfield 63, 3) := by decide +kernel
theorem d_Mo_init_245 : decode b_Mo_init 245 = .ok (.aload_n 0, 1) := by decide +kernel
theorem d_Mo_init_246 : decode b_Mo_init 246 = .ok (.iconst (-1), 1) := by decide +kernel
theorem d_Mo_init_247 : decode b_Mo_init 247 = .ok (.putfield 66, 3) := by decide +kernel
theorem d_Mo_init_250 : decode b_Mo_init 250 = .ok (.aload_n 0, 1) := by decide +kernel
theorem d_Mo_init_251 : decode b_Mo_init 251 = .ok (.iconst (-1), 1) := by decide +kernel
theorem d_Mo_init_252 : decode b_Mo_init 252 = .ok (.putfield 69, 3) := by decide +kernel
theorem d_Mo_init_255 : decode b_Mo_init 255 = .ok (.aload_n 0, 1) := by decide +kernel
theorem d_Mo_init_256 : decode b_Mo_init 256 = .ok (.iconst (-1), 1) := by decide +kernel
theorem d_Mo_init_257 : decode b_Mo_init 257 = .ok (.putfield 72, 3) := by decide +kernel
theorem d_Mo_init_260 : decode b_Mo_init 260 = .ok (.aload_n 0, 1) := by decide +kernel
theorem d_Mo_init_261 : decode b_Mo_init 261 = .ok (.sipush 4096, 3) := by decide +kernel
theorem d_Mo_init_264 : decode b_Mo_init 264 = .ok (.newarray .boolean, 2) := by decide +kernel
theorem d_Mo_init_266 : decode b_Mo_init 266 = .ok (.putfield 75, 3) := by decide +kernel
theorem d_Mo_init_269 : decode b_Mo_init 269 = .ok (.aload_n 0, 1) := by decide +kernel
theorem d_Mo_init_270 : decode b_Mo_init 270 = .ok (.bipush 20, 2) := by decide +kernel
theorem d_Mo_init_272 : decode b_Mo_init 272 = .ok (.newarray .int, 2) := by decide +kernel
theorem d_Mo_init_274 : decode b_Mo_init 274 = .ok (.putfield 78, 3) := by decide +kernel
theorem d_Mo_init_277 : decode b_Mo_init 277 = .ok (.aload_n 0, 1) := by decide +kernel
theorem d_Mo_init_278 : decode b_Mo_init 278 = .ok (.sipush 4096, 3) := by decide +kernel
theorem d_Mo_init_281 : decode b_Mo_init 281 = .ok (.newarray .boolean, 2) := by decide +kernel
theorem d_Mo_init_283 : decode b_Mo_init 283 = .ok (.putfield 81, 3) := by decide +kernel
theorem d_Mo_init_286 : decode b_Mo_init 286 = .ok (.aload_n 0, 1) := by decide +kernel
theorem d_Mo_init_287 : decode b_Mo_init 287 = .ok (.iconst 0, 1) := by decide +kernel
theorem d_Mo_init_288 : decode b_Mo_init 288 = .ok (.putfield 84, 3) := by decide +kernel
theorem d_Mo_init_291 : decode b_Mo_init 291 = .ok (.return_, 1) := by decide +kernel
theorem d_Mo_thrown_0 : decode b_Mo_thrown 0 = .ok (.aload_n 0, 1) := by decide +kernel
theorem d_Mo_thrown_1 : decode b_Mo_thrown 1 = .ok (.getfield 87, 3) := by decide +kernel
theorem d_Mo_thrown_4 : decode b_Mo_thrown 4 = .ok (.ireturn, 1) := by decide +kernel
theorem d_Mo_in_0 : decode b_Mo_in 0 = .ok (.iload_n 0, 1) := by decide +kernel
theorem d_Mo_in_1 : decode b_Mo_in 1 = .ok (.iload_n 1, 1) := by decide +kernel
theorem d_Mo_in_2 : decode b_Mo_in 2 = .ok (.if_icmp .lt 12, 3) := by decide +kernel
theorem d_Mo_in_5 : decode b_Mo_in 5 = .ok (.iload_n 0, 1) := by decide +kernel
theorem d_Mo_in_6 : decode b_Mo_in 6 = .ok (.iload_n 2, 1) := by decide +kernel
theorem d_Mo_in_7 : decode b_Mo_in 7 = .ok (.if_icmp .gt 7, 3) := by decide +kernel
theorem d_Mo_in_10 : decode b_Mo_in 10 = .ok (.iconst 1, 1) := by decide +kernel
theorem d_Mo_in_11 : decode b_Mo_in 11 = .ok (.goto 4, 3) := by decide +kernel
theorem d_Mo_in_14 : decode b_Mo_in 14 = .ok (.iconst 0, 1) := by decide +kernel
theorem d_Mo_in_15 : decode b_Mo_in 15 = .ok (.ireturn, 1) := by decide +kernel
theorem d_Mo_dx_0 : decode b_Mo_dx 0 = .ok (.iload_n 1, 1) := by decide +kernel
theorem d_Mo_dx_1 : decode b_Mo_dx 1 = .ok (.bipush 63, 2) := by decide +kernel
theorem d_Mo_dx_3 : decode b_Mo_dx 3 = .ok (.iand, 1) := by decide +kernel
theorem d_Mo_dx_4 : decode b_Mo_dx 4 = .ok (.istore_n 2, 1) := by decide +kernel
theorem d_Mo_dx_5 : decode b_Mo_dx 5 = .ok (.iload_n 2, 1) := by decide +kernel
theorem d_Mo_dx_6 : decode b_Mo_dx 6 = .ok (.bipush 16, 2) := by decide +kernel
theorem d_Mo_dx_8 : decode b_Mo_dx 8 = .ok (.if_icmp .gt 10, 3) := by decide +kernel
theorem d_Mo_dx_11 : decode b_Mo_dx 11 = .ok (.aload_n 0, 1) := by decide +kernel
theorem d_Mo_dx_12 : decode b_Mo_dx 12 = .ok (.getfield 7, 3) := by decide +kernel
theorem d_Mo_dx_15 : decode b_Mo_dx 15 = .ok (.iload_n 2, 1) := by decide +kernel
theorem d_Mo_dx_16 : decode b_Mo_dx 16 = .ok (.iaload, 1) := by decide +kernel
theorem d_Mo_dx_17 : decode b_Mo_dx 17 = .ok (.ireturn, 1) := by decide +kernel
theorem d_Mo_dx_18 : decode b_Mo_dx 18 = .ok (.iload_n 2, 1) := by decide +kernel
theorem d_Mo_dx_19 : decode b_Mo_dx 19 = .ok (.bipush 32, 2) := by decide +kernel
theorem d_Mo_dx_21 : decode b_Mo_dx 21 = .ok (.if_icmp .gt 14, 3) := by decide +kernel
theorem d_Mo_dx_24 : decode b_Mo_dx 24 = .ok (.aload_n 0, 1) := by decide +kernel
theorem d_Mo_dx_25 : decode b_Mo_dx 25 = .ok (.getfield 7, 3) := by decide +kernel
theorem d_Mo_dx_28 : decode b_Mo_dx 28 = .ok (.bipush 32, 2) := by decide +kernel
theorem d_Mo_dx_30 : decode b_Mo_dx 30 = .ok (.iload_n 2, 1) := by decide +kernel
theorem d_Mo_dx_31 : decode b_Mo_dx 31 = .ok (.isub, 1) := by decide +kernel
theorem d_Mo_dx_32 : decode b_Mo_dx 32 = .ok (.iaload, 1) := by decide +kernel
theorem d_Mo_dx_33 : decode b_Mo_dx 33 = .ok (.ineg, 1) := by decide +kernel
theorem d_Mo_dx_34 : decode b_Mo_dx 34 = .ok (.ireturn, 1) := by decide +kernel
theorem d_Mo_dx_35 : decode b_Mo_dx 35 = .ok (.iload_n 2, 1) := by decide +kernel
theorem d_Mo_dx_36 : decode b_Mo_dx 36 = .ok (.bipush 48, 2) := by decide +kernel
theorem d_Mo_dx_38 : decode b_Mo_dx 38 = .ok (.if_icmp .gt 16, 3) := by decide +kernel
theorem d_Mo_dx_41 : decode b_Mo_dx 41 = .ok (.aload_n 0, 1) := by decide +kernel
theorem d_Mo_dx_42 : decode b_Mo_dx 42 = .ok (.getfield 7, 3) := by decide +kernel
theorem d_Mo_dx_45 : decode b_Mo_dx 45 = .ok (.iload_n 2, 1) := by decide +kernel
theorem d_Mo_dx_46 : decode b_Mo_dx 46 = .ok (.bipush 32, 2) := by decide +kernel
theorem d_Mo_dx_48 : decode b_Mo_dx 48 = .ok (.isub, 1) := by decide +kernel
theorem d_Mo_dx_49 : decode b_Mo_dx 49 = .ok (.iaload, 1) := by decide +kernel
theorem d_Mo_dx_50 : decode b_Mo_dx 50 = .ok (.ineg, 1) := by decide +kernel
theorem d_Mo_dx_51 : decode b_Mo_dx 51 = .ok (.goto 12, 3) := by decide +kernel
theorem d_Mo_dx_54 : decode b_Mo_dx 54 = .ok (.aload_n 0, 1) := by decide +kernel
theorem d_Mo_dx_55 : decode b_Mo_dx 55 = .ok (.getfield 7, 3) := by decide +kernel
theorem d_Mo_dx_58 : decode b_Mo_dx 58 = .ok (.bipush 64, 2) := by decide +kernel
theorem d_Mo_dx_60 : decode b_Mo_dx 60 = .ok (.iload_n 2, 1) := by decide +kernel
theorem d_Mo_dx_61 : decode b_Mo_dx 61 = .ok (.isub, 1) := by decide +kernel
theorem d_Mo_dx_62 : decode b_Mo_dx 62 = .ok (.iaload, 1) := by decide +kernel
theorem d_Mo_dx_63 : decode b_Mo_dx 63 = .ok (.ireturn, 1) := by decide +kernel
theorem d_Mo_dy_0 : decode b_Mo_dy 0 = .ok (.aload_n 0, 1) := by decide +kernel
theorem d_Mo_dy_1 : decode b_Mo_dy 1 = .ok (.iload_n 1, 1) := by decide +kernel
theorem d_Mo_dy_2 : decode b_Mo_dy 2 = .ok (.bipush 48, 2) := by decide +kernel
theorem d_Mo_dy_4 : decode b_Mo_dy 4 = .ok (.iadd, 1) := by decide +kernel
theorem d_Mo_dy_5 : decode b_Mo_dy 5 = .ok (.invokevirtual 90, 3) := by decide +kernel
theorem d_Mo_dy_8 : decode b_Mo_dy 8 = .ok (.ireturn, 1) := by decide +kernel
theorem d_Mo_wrapped_0 : decode b_Mo_wrapped 0 = .ok (.iload_n 0, 1) := by decide +kernel
theorem d_Mo_wrapped_1 : decode b_Mo_wrapped 1 = .ok (.bipush 32, 2) := by decide +kernel
theorem d_Mo_wrapped_3 : decode b_Mo_wrapped 3 = .ok (.iadd, 1) := by decide +kernel
theorem d_Mo_wrapped_4 : decode b_Mo_wrapped 4 = .ok (.bipush 63, 2) := by decide +kernel
theorem d_Mo_wrapped_6 : decode b_Mo_wrapped 6 = .ok (.iand, 1) := by decide +kernel
theorem d_Mo_wrapped_7 : decode b_Mo_wrapped 7 = .ok (.bipush 32, 2) := by decide +kernel
theorem d_Mo_wrapped_9 : decode b_Mo_wrapped 9 = .ok (.isub, 1) := by decide +kernel
theorem d_Mo_wrapped_10 : decode b_Mo_wrapped 10 = .ok (.ireturn, 1) := by decide +kernel
theorem d_Mo_askewOf_0 : decode b_Mo_askewOf 0 = .ok (.iload_n 1, 1) := by decide +kernel
theorem d_Mo_askewOf_1 : decode b_Mo_askewOf 1 = .ok (.ifCond .ne 7, 3) := by decide +kernel
theorem d_Mo_askewOf_4 : decode b_Mo_askewOf 4 = .ok (.iconst 0, 1) := by decide +kernel
theorem d_Mo_askewOf_5 : decode b_Mo_askewOf 5 = .ok (.goto 21, 3) := by decide +kernel
theorem d_Mo_askewOf_8 : decode b_Mo_askewOf 8 = .ok (.aload_n 0, 1) := by decide +kernel
theorem d_Mo_askewOf_9 : decode b_Mo_askewOf 9 = .ok (.getfield 57, 3) := by decide +kernel
theorem d_Mo_askewOf_12 : decode b_Mo_askewOf 12 = .ok (.iload_n 1, 1) := by decide +kernel
theorem d_Mo_askewOf_13 : decode b_Mo_askewOf 13 = .ok (.iconst 1, 1) := by decide +kernel
theorem d_Mo_askewOf_14 : decode b_Mo_askewOf 14 = .ok (.isub, 1) := by decide +kernel
theorem d_Mo_askewOf_15 : decode b_Mo_askewOf 15 = .ok (.iaload, 1) := by decide +kernel
theorem d_Mo_askewOf_16 : decode b_Mo_askewOf 16 = .ok (.aload_n 0, 1) := by decide +kernel
theorem d_Mo_askewOf_17 : decode b_Mo_askewOf 17 = .ok (.getfield 57, 3) := by decide +kernel
theorem d_Mo_askewOf_20 : decode b_Mo_askewOf 20 = .ok (.iload_n 1, 1) := by decide +kernel
theorem d_Mo_askewOf_21 : decode b_Mo_askewOf 21 = .ok (.iaload, 1) := by decide +kernel
theorem d_Mo_askewOf_22 : decode b_Mo_askewOf 22 = .ok (.isub, 1) := by decide +kernel
theorem d_Mo_askewOf_23 : decode b_Mo_askewOf 23 = .ok (.invokestatic 94, 3) := by decide +kernel
theorem d_Mo_askewOf_26 : decode b_Mo_askewOf 26 = .ok (.ireturn, 1) := by decide +kernel
theorem d_Mo_hang_0 : decode b_Mo_hang 0 = .ok (.aload_n 0, 1) := by decide +kernel
theorem d_Mo_hang_1 : decode b_Mo_hang 1 = .ok (.getfield 57, 3) := by decide +kernel
theorem d_Mo_hang_4 : decode b_Mo_hang 4 = .ok (.iload_n 1, 1) := by decide +kernel
theorem d_Mo_hang_5 : decode b_Mo_hang 5 = .ok (.iconst 1, 1) := by decide +kernel
theorem d_Mo_hang_6 : decode b_Mo_hang 6 = .ok (.isub, 1) := by decide +kernel
theorem d_Mo_hang_7 : decode b_Mo_hang 7 = .ok (.iaload, 1) := by decide +kernel
theorem d_Mo_hang_8 : decode b_Mo_hang 8 = .ok (.istore_n 2, 1) := by decide +kernel
theorem d_Mo_hang_9 : decode b_Mo_hang 9 = .ok (.aload_n 0, 1) := by decide +kernel
theorem d_Mo_hang_10 : decode b_Mo_hang 10 = .ok (.getfield 51, 3) := by decide +kernel
theorem d_Mo_hang_13 : decode b_Mo_hang 13 = .ok (.iload_n 1, 1) := by decide +kernel
theorem d_Mo_hang_14 : decode b_Mo_hang 14 = .ok (.aload_n 0, 1) := by decide +kernel
theorem d_Mo_hang_15 : decode b_Mo_hang 15 = .ok (.getfield 51, 3) := by decide +kernel
theorem d_Mo_hang_18 : decode b_Mo_hang 18 = .ok (.iload_n 1, 1) := by decide +kernel
theorem d_Mo_hang_19 : decode b_Mo_hang 19 = .ok (.iconst 1, 1) := by decide +kernel
theorem d_Mo_hang_20 : decode b_Mo_hang 20 = .ok (.isub, 1) := by decide +kernel
theorem d_Mo_hang_21 : decode b_Mo_hang 21 = .ok (.iaload, 1) := by decide +kernel
theorem d_Mo_hang_22 : decode b_Mo_hang 22 = .ok (.aload_n 0, 1) := by decide +kernel
theorem d_Mo_hang_23 : decode b_Mo_hang 23 = .ok (.getfield 16, 3) := by decide +kernel
theorem d_Mo_hang_26 : decode b_Mo_hang 26 = .ok (.iload_n 1, 1) := by decide +kernel
theorem d_Mo_hang_27 : decode b_Mo_hang 27 = .ok (.iconst 1, 1) := by decide +kernel
theorem d_Mo_hang_28 : decode b_Mo_hang 28 = .ok (.isub, 1) := by decide +kernel
theorem d_Mo_hang_29 : decode b_Mo_hang 29 = .ok (.iaload, 1) := by decide +kernel
theorem d_Mo_hang_30 : decode b_Mo_hang 30 = .ok (.aload_n 0, 1) := by decide +kernel
theorem d_Mo_hang_31 : decode b_Mo_hang 31 = .ok (.iload_n 2, 1) := by decide +kernel
theorem d_Mo_hang_32 : decode b_Mo_hang 32 = .ok (.invokevirtual 90, 3) := by decide +kernel
theorem d_Mo_hang_35 : decode b_Mo_hang 35 = .ok (.imul, 1) := by decide +kernel
theorem d_Mo_hang_36 : decode b_Mo_hang 36 = .ok (.isub, 1) := by decide +kernel
theorem d_Mo_hang_37 : decode b_Mo_hang 37 = .ok (.aload_n 0, 1) := by decide +kernel
theorem d_Mo_hang_38 : decode b_Mo_hang 38 = .ok (.getfield 13, 3) := by decide +kernel
theorem d_Mo_hang_41 : decode b_Mo_hang 41 = .ok (.iload_n 1, 1) := by decide +kernel
theorem d_Mo_hang_42 : decode b_Mo_hang 42 = .ok (.iaload, 1) := by decide +kernel
theorem d_Mo_hang_43 : decode b_Mo_hang 43 = .ok (.aload_n 0, 1) := by decide +kernel
theorem d_Mo_hang_44 : decode b_Mo_hang 44 = .ok (.aload_n 0, 1) := by decide +kernel
theorem d_Mo_hang_45 : decode b_Mo_hang 45 = .ok (.getfield 57, 3) := by decide +kernel
theorem d_Mo_hang_48 : decode b_Mo_hang 48 = .ok (.iload_n 1, 1) := by decide +kernel
theorem d_Mo_hang_49 : decode b_Mo_hang 49 = .ok (.iaload, 1) := by decide +kernel
theorem d_Mo_hang_50 : decode b_Mo_hang 50 = .ok (.invokevirtual 90, 3) := by decide +kernel
theorem d_Mo_hang_53 : decode b_Mo_hang 53 = .ok (.imul, 1) := by decide +kernel
theorem d_Mo_hang_54 : decode b_Mo_hang 54 = .ok (.isub, 1) := by decide +kernel
theorem d_Mo_hang_55 : decode b_Mo_hang 55 = .ok (.iastore, 1) := by decide +kernel
theorem d_Mo_hang_56 : decode b_Mo_hang 56 = .ok (.aload_n 0, 1) := by decide +kernel
theorem d_Mo_hang_57 : decode b_Mo_hang 57 = .ok (.getfield 54, 3) := by decide +kernel
theorem d_Mo_hang_60 : decode b_Mo_hang 60 = .ok (.iload_n 1, 1) := by decide +kernel
theorem d_Mo_hang_61 : decode b_Mo_hang 61 = .ok (.aload_n 0, 1) := by decide +kernel
theorem d_Mo_hang_62 : decode b_Mo_hang 62 = .ok (.getfield 54, 3) := by decide +kernel
theorem d_Mo_hang_65 : decode b_Mo_hang 65 = .ok (.iload_n 1, 1) := by decide +kernel
theorem d_Mo_hang_66 : decode b_Mo_hang 66 = .ok (.iconst 1, 1) := by decide +kernel
theorem d_Mo_hang_67 : decode b_Mo_hang 67 = .ok (.isub, 1) := by decide +kernel
theorem d_Mo_hang_68 : decode b_Mo_hang 68 = .ok (.iaload, 1) := by decide +kernel
theorem d_Mo_hang_69 : decode b_Mo_hang 69 = .ok (.aload_n 0, 1) := by decide +kernel
theorem d_Mo_hang_70 : decode b_Mo_hang 70 = .ok (.getfield 16, 3) := by decide +kernel
theorem d_Mo_hang_73 : decode b_Mo_hang 73 = .ok (.iload_n 1, 1) := by decide +kernel
theorem d_Mo_hang_74 : decode b_Mo_hang 74 = .ok (.iconst 1, 1) := by decide +kernel
theorem d_Mo_hang_75 : decode b_Mo_hang 75 = .ok (.isub, 1) := by decide +kernel
theorem d_Mo_hang_76 : decode b_Mo_hang 76 = .ok (.iaload, 1) := by decide +kernel
theorem d_Mo_hang_77 : decode b_Mo_hang 77 = .ok (.aload_n 0, 1) := by decide +kernel
theorem d_Mo_hang_78 : decode b_Mo_hang 78 = .ok (.iload_n 2, 1) := by decide +kernel
theorem d_Mo_hang_79 : decode b_Mo_hang 79 = .ok (.invokevirtual 97, 3) := by decide +kernel
theorem d_Mo_hang_82 : decode b_Mo_hang 82 = .ok (.imul, 1) := by decide +kernel
theorem d_Mo_hang_83 : decode b_Mo_hang 83 = .ok (.isub, 1) := by decide +kernel
theorem d_Mo_hang_84 : decode b_Mo_hang 84 = .ok (.aload_n 0, 1) := by decide +kernel
theorem d_Mo_hang_85 : decode b_Mo_hang 85 = .ok (.getfield 13, 3) := by decide +kernel
theorem d_Mo_hang_88 : decode b_Mo_hang 88 = .ok (.iload_n 1, 1) := by decide +kernel
theorem d_Mo_hang_89 : decode b_Mo_hang 89 = .ok (.iaload, 1) := by decide +kernel
theorem d_Mo_hang_90 : decode b_Mo_hang 90 = .ok (.aload_n 0, 1) := by decide +kernel
theorem d_Mo_hang_91 : decode b_Mo_hang 91 = .ok (.aload_n 0, 1) := by decide +kernel
theorem d_Mo_hang_92 : decode b_Mo_hang 92 = .ok (.getfield 57, 3) := by decide +kernel
theorem d_Mo_hang_95 : decode b_Mo_hang 95 = .ok (.iload_n 1, 1) := by decide +kernel
theorem d_Mo_hang_96 : decode b_Mo_hang 96 = .ok (.iaload, 1) := by decide +kernel
theorem d_Mo_hang_97 : decode b_Mo_hang 97 = .ok (.invokevirtual 97, 3) := by decide +kernel
theorem d_Mo_hang_100 : decode b_Mo_hang 100 = .ok (.imul, 1) := by decide +kernel
theorem d_Mo_hang_101 : decode b_Mo_hang 101 = .ok (.isub, 1) := by decide +kernel
theorem d_Mo_hang_102 : decode b_Mo_hang 102 = .ok (.iastore, 1) := by decide +kernel
theorem d_Mo_hang_103 : decode b_Mo_hang 103 = .ok (.return_, 1) := by decide +kernel
theorem d_Mo_covers_0 : decode b_Mo_covers 0 = .ok (.iload_n 2, 1) := by decide +kernel
theorem d_Mo_covers_1 : decode b_Mo_covers 1 = .ok (.aload_n 0, 1) := by decide +kernel
theorem d_Mo_covers_2 : decode b_Mo_covers 2 = .ok (.getfield 51, 3) := by decide +kernel
theorem d_Mo_covers_5 : decode b_Mo_covers 5 = .ok (.iload_n 1, 1) := by decide +kernel
theorem d_Mo_covers_6 : decode b_Mo_covers 6 = .ok (.iaload, 1) := by decide +kernel
theorem d_Mo_covers_7 : decode b_Mo_covers 7 = .ok (.isub, 1) := by decide +kernel
theorem d_Mo_covers_8 : decode b_Mo_covers 8 = .ok (.i2l, 1) := by decide +kernel
theorem d_Mo_covers_9 : decode b_Mo_covers 9 = .ok (.lstore 4, 2) := by decide +kernel
theorem d_Mo_covers_11 : decode b_Mo_covers 11 = .ok (.iload_n 3, 1) := by decide +kernel
theorem d_Mo_covers_12 : decode b_Mo_covers 12 = .ok (.aload_n 0, 1) := by decide +kernel
theorem d_Mo_covers_13 : decode b_Mo_covers 13 = .ok (.getfield 54, 3) := by decide +kernel
theorem d_Mo_covers_16 : decode b_Mo_covers 16 = .ok (.iload_n 1, 1) := by decide +kernel
theorem d_Mo_covers_17 : decode b_Mo_covers 17 = .ok (.iaload, 1) := by decide +kernel
theorem d_Mo_covers_18 : decode b_Mo_covers 18 = .ok (.isub, 1) := by decide +kernel
theorem d_Mo_covers_19 : decode b_Mo_covers 19 = .ok (.i2l, 1) := by decide +kernel
theorem d_Mo_covers_20 : decode b_Mo_covers 20 = .ok (.lstore 6, 2) := by decide +kernel
theorem d_Mo_covers_22 : decode b_Mo_covers 22 = .ok (.aload_n 0, 1) := by decide +kernel
theorem d_Mo_covers_23 : decode b_Mo_covers 23 = .ok (.aload_n 0, 1) := by decide +kernel
theorem d_Mo_covers_24 : decode b_Mo_covers 24 = .ok (.getfield 57, 3) := by decide +kernel
theorem d_Mo_covers_27 : decode b_Mo_covers 27 = .ok (.iload_n 1, 1) := by decide +kernel
theorem d_Mo_covers_28 : decode b_Mo_covers 28 = .ok (.iaload, 1) := by decide +kernel
theorem d_Mo_covers_29 : decode b_Mo_covers 29 = .ok (.invokevirtual 90, 3) := by decide +kernel
theorem d_Mo_covers_32 : decode b_Mo_covers 32 = .ok (.i2l, 1) := by decide +kernel
theorem d_Mo_covers_33 : decode b_Mo_covers 33 = .ok (.lstore 8, 2) := by decide +kernel
theorem d_Mo_covers_35 : decode b_Mo_covers 35 = .ok (.aload_n 0, 1) := by decide +kernel
theorem d_Mo_covers_36 : decode b_Mo_covers 36 = .ok (.aload_n 0, 1) := by decide +kernel
theorem d_Mo_covers_37 : decode b_Mo_covers 37 = .ok (.getfield 57, 3) := by decide +kernel
theorem d_Mo_covers_40 : decode b_Mo_covers 40 = .ok (.iload_n 1, 1) := by decide +kernel
theorem d_Mo_covers_41 : decode b_Mo_covers 41 = .ok (.iaload, 1) := by decide +kernel
theorem d_Mo_covers_42 : decode b_Mo_covers 42 = .ok (.invokevirtual 97, 3) := by decide +kernel
theorem d_Mo_covers_45 : decode b_Mo_covers 45 = .ok (.i2l, 1) := by decide +kernel
theorem d_Mo_covers_46 : decode b_Mo_covers 46 = .ok (.lstore 10, 2) := by decide +kernel
theorem d_Mo_covers_48 : decode b_Mo_covers 48 = .ok (.lload 4, 2) := by decide +kernel
theorem d_Mo_covers_50 : decode b_Mo_covers 50 = .ok (.lload 8, 2) := by decide +kernel
theorem d_Mo_covers_52 : decode b_Mo_covers 52 = .ok (.lmul, 1) := by decide +kernel
theorem d_Mo_covers_53 : decode b_Mo_covers 53 = .ok (.lload 6, 2) := by decide +kernel
theorem d_Mo_covers_55 : decode b_Mo_covers 55 = .ok (.lload 10, 2) := by decide +kernel
theorem d_Mo_covers_57 : decode b_Mo_covers 57 = .ok (.lmul, 1) := by decide +kernel
theorem d_Mo_covers_58 : decode b_Mo_covers 58 = .ok (.ladd, 1) := by decide +kernel
theorem d_Mo_covers_59 : decode b_Mo_covers 59 = .ok (.lstore 12, 2) := by decide +kernel
theorem d_Mo_covers_61 : decode b_Mo_covers 61 = .ok (.lload 6, 2) := by decide +kernel
theorem d_Mo_covers_63 : decode b_Mo_covers 63 = .ok (.lload 8, 2) := by decide +kernel
theorem d_Mo_covers_65 : decode b_Mo_covers 65 = .ok (.lmul, 1) := by decide +kernel
theorem d_Mo_covers_66 : decode b_Mo_covers 66 = .ok (.lload 4, 2) := by decide +kernel
theorem d_Mo_covers_68 : decode b_Mo_covers 68 = .ok (.lload 10, 2) := by decide +kernel
theorem d_Mo_covers_70 : decode b_Mo_covers 70 = .ok (.lmul, 1) := by decide +kernel
theorem d_Mo_covers_71 : decode b_Mo_covers 71 = .ok (.lsub, 1) := by decide +kernel
theorem d_Mo_covers_72 : decode b_Mo_covers 72 = .ok (.lstore 14, 2) := by decide +kernel
theorem d_Mo_covers_74 : decode b_Mo_covers 74 = .ok (.lload 12, 2) := by decide +kernel
theorem d_Mo_covers_76 : decode b_Mo_covers 76 = .ok (.aload_n 0, 1) := by decide +kernel
theorem d_Mo_covers_77 : decode b_Mo_covers 77 = .ok (.getfield 22, 3) := by decide +kernel
theorem d_Mo_covers_80 : decode b_Mo_covers 80 = .ok (.iload_n 1, 1) := by decide +kernel
theorem d_Mo_covers_81 : decode b_Mo_covers 81 = .ok (.iaload, 1) := by decide +kernel
theorem d_Mo_covers_82 : decode b_Mo_covers 82 = .ok (.ineg, 1) := by decide +kernel
theorem d_Mo_covers_83 : decode b_Mo_covers 83 = .ok (.i2l, 1) := by decide +kernel
theorem d_Mo_covers_84 : decode b_Mo_covers 84 = .ok (.ldc2_w 100, 3) := by decide +kernel
theorem d_Mo_covers_87 : decode b_Mo_covers 87 = .ok (.lmul, 1) := by decide +kernel
theorem d_Mo_covers_88 : decode b_Mo_covers 88 = .ok (.lcmp, 1) := by decide +kernel
theorem d_Mo_covers_89 : decode b_Mo_covers 89 = .ok (.ifCond .lt 59, 3) := by decide +kernel
theorem d_Mo_covers_92 : decode b_Mo_covers 92 = .ok (.lload 12, 2) := by decide +kernel
theorem d_Mo_covers_94 : decode b_Mo_covers 94 = .ok (.aload_n 0, 1) := by decide +kernel
theorem d_Mo_covers_95 : decode b_Mo_covers 95 = .ok (.getfield 19, 3) := by decide +kernel
theorem d_Mo_covers_98 : decode b_Mo_covers 98 = .ok (.iload_n 1, 1) := by decide +kernel
theorem d_Mo_covers_99 : decode b_Mo_covers 99 = .ok (.iaload, 1) := by decide +kernel
theorem d_Mo_covers_100 : decode b_Mo_covers 100 = .ok (.i2l, 1) := by decide +kernel
theorem d_Mo_covers_101 : decode b_Mo_covers 101 = .ok (.ldc2_w 100, 3) := by decide +kernel
theorem d_Mo_covers_104 : decode b_Mo_covers 104 = .ok (.lmul, 1) := by decide +kernel
theorem d_Mo_covers_105 : decode b_Mo_covers 105 = .ok (.lcmp, 1) := by decide +kernel
theorem d_Mo_covers_106 : decode b_Mo_covers 106 = .ok (.ifCond .gt 42, 3) := by decide +kernel
theorem d_Mo_covers_109 : decode b_Mo_covers 109 = .ok (.lload 14, 2) := by decide +kernel
end
section
theorem d_Mo_covers_111 : decode b_Mo_covers 111 = .ok (.aload_n 0, 1) := by decide +kernel
theorem d_Mo_covers_112 : decode b_Mo_covers 112 = .ok (.getfield 25, 3) := by decide +kernel
theorem d_Mo_covers_115 : decode b_Mo_covers 115 = .ok (.iload_n 1, 1) := by decide +kernel
theorem d_Mo_covers_116 : decode b_Mo_covers 116 = .ok (.iaload, 1) := by decide +kernel
theorem d_Mo_covers_117 : decode b_Mo_covers 117 = .ok (.ineg, 1) := by decide +kernel
theorem d_Mo_covers_118 : decode b_Mo_covers 118 = .ok (.i2l, 1) := by decide +kernel
theorem d_Mo_covers_119 : decode b_Mo_covers 119 = .ok (.ldc2_w 100, 3) := by decide +kernel
theorem d_Mo_covers_122 : decode b_Mo_covers 122 = .ok (.lmul, 1) := by decide +kernel
theorem d_Mo_covers_123 : decode b_Mo_covers 123 = .ok (.lcmp, 1) := by decide +kernel
theorem d_Mo_covers_124 : decode b_Mo_covers 124 = .ok (.ifCond .lt 24, 3) := by decide +kernel
theorem d_Mo_covers_127 : decode b_Mo_covers 127 = .ok (.lload 14, 2) := by decide +kernel
theorem d_Mo_covers_129 : decode b_Mo_covers 129 = .ok (.aload_n 0, 1) := by decide +kernel
theorem d_Mo_covers_130 : decode b_Mo_covers 130 = .ok (.getfield 25, 3) := by decide +kernel
theorem d_Mo_covers_133 : decode b_Mo_covers 133 = .ok (.iload_n 1, 1) := by decide +kernel
theorem d_Mo_covers_134 : decode b_Mo_covers 134 = .ok (.iaload, 1) := by decide +kernel
theorem d_Mo_covers_135 : decode b_Mo_covers 135 = .ok (.i2l, 1) := by decide +kernel
theorem d_Mo_covers_136 : decode b_Mo_covers 136 = .ok (.ldc2_w 100, 3) := by decide +kernel
theorem d_Mo_covers_139 : decode b_Mo_covers 139 = .ok (.lmul, 1) := by decide +kernel
theorem d_Mo_covers_140 : decode b_Mo_covers 140 = .ok (.lcmp, 1) := by decide +kernel
theorem d_Mo_covers_141 : decode b_Mo_covers 141 = .ok (.ifCond .gt 7, 3) := by decide +kernel
theorem d_Mo_covers_144 : decode b_Mo_covers 144 = .ok (.iconst 1, 1) := by decide +kernel
theorem d_Mo_covers_145 : decode b_Mo_covers 145 = .ok (.goto 4, 3) := by decide +kernel
theorem d_Mo_covers_148 : decode b_Mo_covers 148 = .ok (.iconst 0, 1) := by decide +kernel
theorem d_Mo_covers_149 : decode b_Mo_covers 149 = .ok (.ireturn, 1) := by decide +kernel
theorem d_Mo_cellOf_0 : decode b_Mo_cellOf 0 = .ok (.iload_n 0, 1) := by decide +kernel
theorem d_Mo_cellOf_1 : decode b_Mo_cellOf 1 = .ok (.sipush 4096, 3) := by decide +kernel
theorem d_Mo_cellOf_4 : decode b_Mo_cellOf 4 = .ok (.invokestatic 102, 3) := by decide +kernel
theorem d_Mo_cellOf_7 : decode b_Mo_cellOf 7 = .ok (.istore_n 1, 1) := by decide +kernel
theorem d_Mo_cellOf_8 : decode b_Mo_cellOf 8 = .ok (.iload_n 1, 1) := by decide +kernel
theorem d_Mo_cellOf_9 : decode b_Mo_cellOf 9 = .ok (.bipush 8, 2) := by decide +kernel
theorem d_Mo_cellOf_11 : decode b_Mo_cellOf 11 = .ok (.invokestatic 102, 3) := by decide +kernel
theorem d_Mo_cellOf_14 : decode b_Mo_cellOf 14 = .ok (.ireturn, 1) := by decide +kernel
theorem d_Mo_down_0 : decode b_Mo_down 0 = .ok (.iload_n 0, 1) := by decide +kernel
theorem d_Mo_down_1 : decode b_Mo_down 1 = .ok (.iload_n 1, 1) := by decide +kernel
theorem d_Mo_down_2 : decode b_Mo_down 2 = .ok (.idiv, 1) := by decide +kernel
theorem d_Mo_down_3 : decode b_Mo_down 3 = .ok (.istore_n 2, 1) := by decide +kernel
theorem d_Mo_down_4 : decode b_Mo_down 4 = .ok (.iload_n 2, 1) := by decide +kernel
theorem d_Mo_down_5 : decode b_Mo_down 5 = .ok (.iload_n 1, 1) := by decide +kernel
theorem d_Mo_down_6 : decode b_Mo_down 6 = .ok (.imul, 1) := by decide +kernel
theorem d_Mo_down_7 : decode b_Mo_down 7 = .ok (.iload_n 0, 1) := by decide +kernel
theorem d_Mo_down_8 : decode b_Mo_down 8 = .ok (.if_icmp .le 9, 3) := by decide +kernel
theorem d_Mo_down_11 : decode b_Mo_down 11 = .ok (.iload_n 2, 1) := by decide +kernel
theorem d_Mo_down_12 : decode b_Mo_down 12 = .ok (.iconst 1, 1) := by decide +kernel
theorem d_Mo_down_13 : decode b_Mo_down 13 = .ok (.isub, 1) := by decide +kernel
theorem d_Mo_down_14 : decode b_Mo_down 14 = .ok (.goto 4, 3) := by decide +kernel
theorem d_Mo_down_17 : decode b_Mo_down 17 = .ok (.iload_n 2, 1) := by decide +kernel
theorem d_Mo_down_18 : decode b_Mo_down 18 = .ok (.ireturn, 1) := by decide +kernel
theorem d_Mo_within_0 : decode b_Mo_within 0 = .ok (.iload_n 0, 1) := by decide +kernel
theorem d_Mo_within_1 : decode b_Mo_within 1 = .ok (.bipush (-32), 2) := by decide +kernel
theorem d_Mo_within_3 : decode b_Mo_within 3 = .ok (.if_icmp .ge 8, 3) := by decide +kernel
theorem d_Mo_within_6 : decode b_Mo_within 6 = .ok (.bipush (-32), 2) := by decide +kernel
theorem d_Mo_within_8 : decode b_Mo_within 8 = .ok (.goto 15, 3) := by decide +kernel
theorem d_Mo_within_11 : decode b_Mo_within 11 = .ok (.iload_n 0, 1) := by decide +kernel
theorem d_Mo_within_12 : decode b_Mo_within 12 = .ok (.bipush 31, 2) := by decide +kernel
theorem d_Mo_within_14 : decode b_Mo_within 14 = .ok (.if_icmp .le 8, 3) := by decide +kernel
theorem d_Mo_within_17 : decode b_Mo_within 17 = .ok (.bipush 31, 2) := by decide +kernel
theorem d_Mo_within_19 : decode b_Mo_within 19 = .ok (.goto 4, 3) := by decide +kernel
theorem d_Mo_within_22 : decode b_Mo_within 22 = .ok (.iload_n 0, 1) := by decide +kernel
theorem d_Mo_within_23 : decode b_Mo_within 23 = .ok (.ireturn, 1) := by decide +kernel
theorem d_Mo_look_0 : decode b_Mo_look 0 = .ok (.iconst 0, 1) := by decide +kernel
theorem d_Mo_look_1 : decode b_Mo_look 1 = .ok (.istore_n 1, 1) := by decide +kernel
theorem d_Mo_look_2 : decode b_Mo_look 2 = .ok (.iload_n 1, 1) := by decide +kernel
theorem d_Mo_look_3 : decode b_Mo_look 3 = .ok (.aload_n 0, 1) := by decide +kernel
theorem d_Mo_look_4 : decode b_Mo_look 4 = .ok (.getfield 84, 3) := by decide +kernel
theorem d_Mo_look_7 : decode b_Mo_look 7 = .ok (.if_icmp .ge 256, 3) := by decide +kernel
theorem d_Mo_look_10 : decode b_Mo_look 10 = .ok (.aload_n 0, 1) := by decide +kernel
theorem d_Mo_look_11 : decode b_Mo_look 11 = .ok (.getfield 51, 3) := by decide +kernel
theorem d_Mo_look_14 : decode b_Mo_look 14 = .ok (.iload_n 1, 1) := by decide +kernel
theorem d_Mo_look_15 : decode b_Mo_look 15 = .ok (.iaload, 1) := by decide +kernel
theorem d_Mo_look_16 : decode b_Mo_look 16 = .ok (.invokestatic 106, 3) := by decide +kernel
theorem d_Mo_look_19 : decode b_Mo_look 19 = .ok (.bipush 10, 2) := by decide +kernel
theorem d_Mo_look_21 : decode b_Mo_look 21 = .ok (.isub, 1) := by decide +kernel
theorem d_Mo_look_22 : decode b_Mo_look 22 = .ok (.invokestatic 109, 3) := by decide +kernel
theorem d_Mo_look_25 : decode b_Mo_look 25 = .ok (.istore_n 2, 1) := by decide +kernel
theorem d_Mo_look_26 : decode b_Mo_look 26 = .ok (.aload_n 0, 1) := by decide +kernel
theorem d_Mo_look_27 : decode b_Mo_look 27 = .ok (.getfield 51, 3) := by decide +kernel
theorem d_Mo_look_30 : decode b_Mo_look 30 = .ok (.iload_n 1, 1) := by decide +kernel
theorem d_Mo_look_31 : decode b_Mo_look 31 = .ok (.iaload, 1) := by decide +kernel
theorem d_Mo_look_32 : decode b_Mo_look 32 = .ok (.invokestatic 106, 3) := by decide +kernel
theorem d_Mo_look_35 : decode b_Mo_look 35 = .ok (.bipush 10, 2) := by decide +kernel
theorem d_Mo_look_37 : decode b_Mo_look 37 = .ok (.iadd, 1) := by decide +kernel
theorem d_Mo_look_38 : decode b_Mo_look 38 = .ok (.invokestatic 109, 3) := by decide +kernel
theorem d_Mo_look_41 : decode b_Mo_look 41 = .ok (.istore_n 3, 1) := by decide +kernel
theorem d_Mo_look_42 : decode b_Mo_look 42 = .ok (.aload_n 0, 1) := by decide +kernel
theorem d_Mo_look_43 : decode b_Mo_look 43 = .ok (.getfield 54, 3) := by decide +kernel
theorem d_Mo_look_46 : decode b_Mo_look 46 = .ok (.iload_n 1, 1) := by decide +kernel
theorem d_Mo_look_47 : decode b_Mo_look 47 = .ok (.iaload, 1) := by decide +kernel
theorem d_Mo_look_48 : decode b_Mo_look 48 = .ok (.invokestatic 106, 3) := by decide +kernel
theorem d_Mo_look_51 : decode b_Mo_look 51 = .ok (.bipush 10, 2) := by decide +kernel
theorem d_Mo_look_53 : decode b_Mo_look 53 = .ok (.isub, 1) := by decide +kernel
theorem d_Mo_look_54 : decode b_Mo_look 54 = .ok (.invokestatic 109, 3) := by decide +kernel
theorem d_Mo_look_57 : decode b_Mo_look 57 = .ok (.istore 4, 2) := by decide +kernel
theorem d_Mo_look_59 : decode b_Mo_look 59 = .ok (.aload_n 0, 1) := by decide +kernel
theorem d_Mo_look_60 : decode b_Mo_look 60 = .ok (.getfield 54, 3) := by decide +kernel
theorem d_Mo_look_63 : decode b_Mo_look 63 = .ok (.iload_n 1, 1) := by decide +kernel
theorem d_Mo_look_64 : decode b_Mo_look 64 = .ok (.iaload, 1) := by decide +kernel
theorem d_Mo_look_65 : decode b_Mo_look 65 = .ok (.invokestatic 106, 3) := by decide +kernel
theorem d_Mo_look_68 : decode b_Mo_look 68 = .ok (.bipush 10, 2) := by decide +kernel
theorem d_Mo_look_70 : decode b_Mo_look 70 = .ok (.iadd, 1) := by decide +kernel
theorem d_Mo_look_71 : decode b_Mo_look 71 = .ok (.invokestatic 109, 3) := by decide +kernel
theorem d_Mo_look_74 : decode b_Mo_look 74 = .ok (.istore 5, 2) := by decide +kernel
theorem d_Mo_look_76 : decode b_Mo_look 76 = .ok (.iload_n 2, 1) := by decide +kernel
theorem d_Mo_look_77 : decode b_Mo_look 77 = .ok (.istore 6, 2) := by decide +kernel
theorem d_Mo_look_79 : decode b_Mo_look 79 = .ok (.iload 6, 2) := by decide +kernel
theorem d_Mo_look_81 : decode b_Mo_look 81 = .ok (.iload_n 3, 1) := by decide +kernel
theorem d_Mo_look_82 : decode b_Mo_look 82 = .ok (.if_icmp .gt 100, 3) := by decide +kernel
theorem d_Mo_look_85 : decode b_Mo_look 85 = .ok (.iload 4, 2) := by decide +kernel
theorem d_Mo_look_87 : decode b_Mo_look 87 = .ok (.istore 7, 2) := by decide +kernel
theorem d_Mo_look_89 : decode b_Mo_look 89 = .ok (.iload 7, 2) := by decide +kernel
theorem d_Mo_look_91 : decode b_Mo_look 91 = .ok (.iload 5, 2) := by decide +kernel
theorem d_Mo_look_93 : decode b_Mo_look 93 = .ok (.if_icmp .gt 83, 3) := by decide +kernel
theorem d_Mo_look_96 : decode b_Mo_look 96 = .ok (.bipush 64, 2) := by decide +kernel
theorem d_Mo_look_98 : decode b_Mo_look 98 = .ok (.iload 6, 2) := by decide +kernel
theorem d_Mo_look_100 : decode b_Mo_look 100 = .ok (.bipush 32, 2) := by decide +kernel
theorem d_Mo_look_102 : decode b_Mo_look 102 = .ok (.iadd, 1) := by decide +kernel
theorem d_Mo_look_103 : decode b_Mo_look 103 = .ok (.imul, 1) := by decide +kernel
theorem d_Mo_look_104 : decode b_Mo_look 104 = .ok (.iload 7, 2) := by decide +kernel
theorem d_Mo_look_106 : decode b_Mo_look 106 = .ok (.iadd, 1) := by decide +kernel
theorem d_Mo_look_107 : decode b_Mo_look 107 = .ok (.bipush 32, 2) := by decide +kernel
theorem d_Mo_look_109 : decode b_Mo_look 109 = .ok (.iadd, 1) := by decide +kernel
theorem d_Mo_look_110 : decode b_Mo_look 110 = .ok (.istore 8, 2) := by decide +kernel
theorem d_Mo_look_112 : decode b_Mo_look 112 = .ok (.aload_n 0, 1) := by decide +kernel
theorem d_Mo_look_113 : decode b_Mo_look 113 = .ok (.getfield 75, 3) := by decide +kernel
theorem d_Mo_look_116 : decode b_Mo_look 116 = .ok (.iload 8, 2) := by decide +kernel
theorem d_Mo_look_118 : decode b_Mo_look 118 = .ok (.baload, 1) := by decide +kernel
theorem d_Mo_look_119 : decode b_Mo_look 119 = .ok (.ifCond .ne 51, 3) := by decide +kernel
theorem d_Mo_look_122 : decode b_Mo_look 122 = .ok (.aload_n 0, 1) := by decide +kernel
theorem d_Mo_look_123 : decode b_Mo_look 123 = .ok (.iload_n 1, 1) := by decide +kernel
theorem d_Mo_look_124 : decode b_Mo_look 124 = .ok (.sipush 4096, 3) := by decide +kernel
theorem d_Mo_look_127 : decode b_Mo_look 127 = .ok (.bipush 8, 2) := by decide +kernel
theorem d_Mo_look_129 : decode b_Mo_look 129 = .ok (.iload 6, 2) := by decide +kernel
theorem d_Mo_look_131 : decode b_Mo_look 131 = .ok (.imul, 1) := by decide +kernel
theorem d_Mo_look_132 : decode b_Mo_look 132 = .ok (.iconst 4, 1) := by decide +kernel
theorem d_Mo_look_133 : decode b_Mo_look 133 = .ok (.iadd, 1) := by decide +kernel
theorem d_Mo_look_134 : decode b_Mo_look 134 = .ok (.imul, 1) := by decide +kernel
theorem d_Mo_look_135 : decode b_Mo_look 135 = .ok (.sipush 4096, 3) := by decide +kernel
theorem d_Mo_look_138 : decode b_Mo_look 138 = .ok (.bipush 8, 2) := by decide +kernel
theorem d_Mo_look_140 : decode b_Mo_look 140 = .ok (.iload 7, 2) := by decide +kernel
theorem d_Mo_look_142 : decode b_Mo_look 142 = .ok (.imul, 1) := by decide +kernel
theorem d_Mo_look_143 : decode b_Mo_look 143 = .ok (.iconst 4, 1) := by decide +kernel
theorem d_Mo_look_144 : decode b_Mo_look 144 = .ok (.iadd, 1) := by decide +kernel
theorem d_Mo_look_145 : decode b_Mo_look 145 = .ok (.imul, 1) := by decide +kernel
theorem d_Mo_look_146 : decode b_Mo_look 146 = .ok (.invokevirtual 112, 3) := by decide +kernel
theorem d_Mo_look_149 : decode b_Mo_look 149 = .ok (.ifCond .eq 21, 3) := by decide +kernel
theorem d_Mo_look_152 : decode b_Mo_look 152 = .ok (.aload_n 0, 1) := by decide +kernel
theorem d_Mo_look_153 : decode b_Mo_look 153 = .ok (.getfield 75, 3) := by decide +kernel
theorem d_Mo_look_156 : decode b_Mo_look 156 = .ok (.iload 8, 2) := by decide +kernel
theorem d_Mo_look_158 : decode b_Mo_look 158 = .ok (.iconst 1, 1) := by decide +kernel
theorem d_Mo_look_159 : decode b_Mo_look 159 = .ok (.bastore, 1) := by decide +kernel
theorem d_Mo_look_160 : decode b_Mo_look 160 = .ok (.aload_n 0, 1) := by decide +kernel
theorem d_Mo_look_161 : decode b_Mo_look 161 = .ok (.dup, 1) := by decide +kernel
theorem d_Mo_look_162 : decode b_Mo_look 162 = .ok (.getfield 116, 3) := by decide +kernel
theorem d_Mo_look_165 : decode b_Mo_look 165 = .ok (.iconst 1, 1) := by decide +kernel
theorem d_Mo_look_166 : decode b_Mo_look 166 = .ok (.iadd, 1) := by decide +kernel
theorem d_Mo_look_167 : decode b_Mo_look 167 = .ok (.putfield 116, 3) := by decide +kernel
theorem d_Mo_look_170 : decode b_Mo_look 170 = .ok (.iinc 7 1, 3) := by decide +kernel
theorem d_Mo_look_173 : decode b_Mo_look 173 = .ok (.goto (-84), 3) := by decide +kernel
theorem d_Mo_look_176 : decode b_Mo_look 176 = .ok (.iinc 6 1, 3) := by decide +kernel
theorem d_Mo_look_179 : decode b_Mo_look 179 = .ok (.goto (-100), 3) := by decide +kernel
theorem d_Mo_look_182 : decode b_Mo_look 182 = .ok (.iconst 0, 1) := by decide +kernel
theorem d_Mo_look_183 : decode b_Mo_look 183 = .ok (.istore 6, 2) := by decide +kernel
theorem d_Mo_look_185 : decode b_Mo_look 185 = .ok (.iload 6, 2) := by decide +kernel
theorem d_Mo_look_187 : decode b_Mo_look 187 = .ok (.aload_n 0, 1) := by decide +kernel
theorem d_Mo_look_188 : decode b_Mo_look 188 = .ok (.getfield 119, 3) := by decide +kernel
theorem d_Mo_look_191 : decode b_Mo_look 191 = .ok (.if_icmp .ge 66, 3) := by decide +kernel
theorem d_Mo_look_194 : decode b_Mo_look 194 = .ok (.aload_n 0, 1) := by decide +kernel
theorem d_Mo_look_195 : decode b_Mo_look 195 = .ok (.getfield 66, 3) := by decide +kernel
theorem d_Mo_look_198 : decode b_Mo_look 198 = .ok (.iconst (-1), 1) := by decide +kernel
theorem d_Mo_look_199 : decode b_Mo_look 199 = .ok (.if_icmp .ne 58, 3) := by decide +kernel
theorem d_Mo_look_202 : decode b_Mo_look 202 = .ok (.aload_n 0, 1) := by decide +kernel
theorem d_Mo_look_203 : decode b_Mo_look 203 = .ok (.iload_n 1, 1) := by decide +kernel
theorem d_Mo_look_204 : decode b_Mo_look 204 = .ok (.sipush 4096, 3) := by decide +kernel
theorem d_Mo_look_207 : decode b_Mo_look 207 = .ok (.aload_n 0, 1) := by decide +kernel
theorem d_Mo_look_208 : decode b_Mo_look 208 = .ok (.getfield 32, 3) := by decide +kernel
theorem d_Mo_look_211 : decode b_Mo_look 211 = .ok (.iload 6, 2) := by decide +kernel
theorem d_Mo_look_213 : decode b_Mo_look 213 = .ok (.iaload, 1) := by decide +kernel
theorem d_Mo_look_214 : decode b_Mo_look 214 = .ok (.imul, 1) := by decide +kernel
theorem d_Mo_look_215 : decode b_Mo_look 215 = .ok (.sipush 4096, 3) := by decide +kernel
theorem d_Mo_look_218 : decode b_Mo_look 218 = .ok (.aload_n 0, 1) := by decide +kernel
theorem d_Mo_look_219 : decode b_Mo_look 219 = .ok (.getfield 35, 3) := by decide +kernel
theorem d_Mo_look_222 : decode b_Mo_look 222 = .ok (.iload 6, 2) := by decide +kernel
theorem d_Mo_look_224 : decode b_Mo_look 224 = .ok (.iaload, 1) := by decide +kernel
theorem d_Mo_look_225 : decode b_Mo_look 225 = .ok (.imul, 1) := by decide +kernel
theorem d_Mo_look_226 : decode b_Mo_look 226 = .ok (.invokevirtual 112, 3) := by decide +kernel
theorem d_Mo_look_229 : decode b_Mo_look 229 = .ok (.ifCond .eq 22, 3) := by decide +kernel
theorem d_Mo_look_232 : decode b_Mo_look 232 = .ok (.aload_n 0, 1) := by decide +kernel
theorem d_Mo_look_233 : decode b_Mo_look 233 = .ok (.aload_n 0, 1) := by decide +kernel
theorem d_Mo_look_234 : decode b_Mo_look 234 = .ok (.getfield 122, 3) := by decide +kernel
theorem d_Mo_look_237 : decode b_Mo_look 237 = .ok (.putfield 66, 3) := by decide +kernel
theorem d_Mo_look_240 : decode b_Mo_look 240 = .ok (.aload_n 0, 1) := by decide +kernel
theorem d_Mo_look_241 : decode b_Mo_look 241 = .ok (.iload_n 1, 1) := by decide +kernel
theorem d_Mo_look_242 : decode b_Mo_look 242 = .ok (.putfield 69, 3) := by decide +kernel
theorem d_Mo_look_245 : decode b_Mo_look 245 = .ok (.aload_n 0, 1) := by decide +kernel
theorem d_Mo_look_246 : decode b_Mo_look 246 = .ok (.iload 6, 2) := by decide +kernel
theorem d_Mo_look_248 : decode b_Mo_look 248 = .ok (.putfield 72, 3) := by decide +kernel
theorem d_Mo_look_251 : decode b_Mo_look 251 = .ok (.iinc 6 1, 3) := by decide +kernel
theorem d_Mo_look_254 : decode b_Mo_look 254 = .ok (.goto (-69), 3) := by decide +kernel
theorem d_Mo_look_257 : decode b_Mo_look 257 = .ok (.iinc 1 1, 3) := by decide +kernel
theorem d_Mo_look_260 : decode b_Mo_look 260 = .ok (.goto (-258), 3) := by decide +kernel
theorem d_Mo_look_263 : decode b_Mo_look 263 = .ok (.return_, 1) := by decide +kernel
theorem d_Mo_beginAnew_0 : decode b_Mo_beginAnew 0 = .ok (.aload_n 0, 1) := by decide +kernel
theorem d_Mo_beginAnew_1 : decode b_Mo_beginAnew 1 = .ok (.iconst 0, 1) := by decide +kernel
theorem d_Mo_beginAnew_2 : decode b_Mo_beginAnew 2 = .ok (.putfield 122, 3) := by decide +kernel
theorem d_Mo_beginAnew_5 : decode b_Mo_beginAnew 5 = .ok (.aload_n 0, 1) := by decide +kernel
theorem d_Mo_beginAnew_6 : decode b_Mo_beginAnew 6 = .ok (.iconst 0, 1) := by decide +kernel
theorem d_Mo_beginAnew_7 : decode b_Mo_beginAnew 7 = .ok (.putfield 125, 3) := by decide +kernel
theorem d_Mo_beginAnew_10 : decode b_Mo_beginAnew 10 = .ok (.aload_n 0, 1) := by decide +kernel
theorem d_Mo_beginAnew_11 : decode b_Mo_beginAnew 11 = .ok (.iconst (-1), 1) := by decide +kernel
theorem d_Mo_beginAnew_12 : decode b_Mo_beginAnew 12 = .ok (.putfield 66, 3) := by decide +kernel
theorem d_Mo_beginAnew_15 : decode b_Mo_beginAnew 15 = .ok (.aload_n 0, 1) := by decide +kernel
theorem d_Mo_beginAnew_16 : decode b_Mo_beginAnew 16 = .ok (.iconst (-1), 1) := by decide +kernel
theorem d_Mo_beginAnew_17 : decode b_Mo_beginAnew 17 = .ok (.putfield 69, 3) := by decide +kernel
theorem d_Mo_beginAnew_20 : decode b_Mo_beginAnew 20 = .ok (.aload_n 0, 1) := by decide +kernel
theorem d_Mo_beginAnew_21 : decode b_Mo_beginAnew 21 = .ok (.iconst (-1), 1) := by decide +kernel
theorem d_Mo_beginAnew_22 : decode b_Mo_beginAnew 22 = .ok (.putfield 72, 3) := by decide +kernel
theorem d_Mo_beginAnew_25 : decode b_Mo_beginAnew 25 = .ok (.aload_n 0, 1) := by decide +kernel
theorem d_Mo_beginAnew_26 : decode b_Mo_beginAnew 26 = .ok (.iconst 0, 1) := by decide +kernel
theorem d_Mo_beginAnew_27 : decode b_Mo_beginAnew 27 = .ok (.putfield 116, 3) := by decide +kernel
theorem d_Mo_beginAnew_30 : decode b_Mo_beginAnew 30 = .ok (.iconst 0, 1) := by decide +kernel
theorem d_Mo_beginAnew_31 : decode b_Mo_beginAnew 31 = .ok (.istore_n 1, 1) := by decide +kernel
theorem d_Mo_beginAnew_32 : decode b_Mo_beginAnew 32 = .ok (.iload_n 1, 1) := by decide +kernel
theorem d_Mo_beginAnew_33 : decode b_Mo_beginAnew 33 = .ok (.sipush 4096, 3) := by decide +kernel
theorem d_Mo_beginAnew_36 : decode b_Mo_beginAnew 36 = .ok (.if_icmp .ge 16, 3) := by decide +kernel
theorem d_Mo_beginAnew_39 : decode b_Mo_beginAnew 39 = .ok (.aload_n 0, 1) := by decide +kernel
theorem d_Mo_beginAnew_40 : decode b_Mo_beginAnew 40 = .ok (.getfield 75, 3) := by decide +kernel
theorem d_Mo_beginAnew_43 : decode b_Mo_beginAnew 43 = .ok (.iload_n 1, 1) := by decide +kernel
theorem d_Mo_beginAnew_44 : decode b_Mo_beginAnew 44 = .ok (.iconst 0, 1) := by decide +kernel
theorem d_Mo_beginAnew_45 : decode b_Mo_beginAnew 45 = .ok (.bastore, 1) := by decide +kernel
theorem d_Mo_beginAnew_46 : decode b_Mo_beginAnew 46 = .ok (.iinc 1 1, 3) := by decide +kernel
theorem d_Mo_beginAnew_49 : decode b_Mo_beginAnew 49 = .ok (.goto (-17), 3) := by decide +kernel
theorem d_Mo_beginAnew_52 : decode b_Mo_beginAnew 52 = .ok (.aload_n 0, 1) := by decide +kernel
theorem d_Mo_beginAnew_53 : decode b_Mo_beginAnew 53 = .ok (.getfield 51, 3) := by decide +kernel
theorem d_Mo_beginAnew_56 : decode b_Mo_beginAnew 56 = .ok (.iconst 0, 1) := by decide +kernel
theorem d_Mo_beginAnew_57 : decode b_Mo_beginAnew 57 = .ok (.sipush 4096, 3) := by decide +kernel
theorem d_Mo_beginAnew_60 : decode b_Mo_beginAnew 60 = .ok (.aload_n 0, 1) := by decide +kernel
theorem d_Mo_beginAnew_61 : decode b_Mo_beginAnew 61 = .ok (.getfield 129, 3) := by decide +kernel
theorem d_Mo_beginAnew_64 : decode b_Mo_beginAnew 64 = .ok (.imul, 1) := by decide +kernel
theorem d_Mo_beginAnew_65 : decode b_Mo_beginAnew 65 = .ok (.iastore, 1) := by decide +kernel
theorem d_Mo_beginAnew_66 : decode b_Mo_beginAnew 66 = .ok (.aload_n 0, 1) := by decide +kernel
theorem d_Mo_beginAnew_67 : decode b_Mo_beginAnew 67 = .ok (.getfield 54, 3) := by decide +kernel
theorem d_Mo_beginAnew_70 : decode b_Mo_beginAnew 70 = .ok (.iconst 0, 1) := by decide +kernel
theorem d_Mo_beginAnew_71 : decode b_Mo_beginAnew 71 = .ok (.sipush 4096, 3) := by decide +kernel
theorem d_Mo_beginAnew_74 : decode b_Mo_beginAnew 74 = .ok (.aload_n 0, 1) := by decide +kernel
theorem d_Mo_beginAnew_75 : decode b_Mo_beginAnew 75 = .ok (.getfield 132, 3) := by decide +kernel
theorem d_Mo_beginAnew_78 : decode b_Mo_beginAnew 78 = .ok (.imul, 1) := by decide +kernel
theorem d_Mo_beginAnew_79 : decode b_Mo_beginAnew 79 = .ok (.iastore, 1) := by decide +kernel
theorem d_Mo_beginAnew_80 : decode b_Mo_beginAnew 80 = .ok (.iconst 0, 1) := by decide +kernel
theorem d_Mo_beginAnew_81 : decode b_Mo_beginAnew 81 = .ok (.istore_n 1, 1) := by decide +kernel
theorem d_Mo_beginAnew_82 : decode b_Mo_beginAnew 82 = .ok (.iload_n 1, 1) := by decide +kernel
theorem d_Mo_beginAnew_83 : decode b_Mo_beginAnew 83 = .ok (.iconst 3, 1) := by decide +kernel
theorem d_Mo_beginAnew_84 : decode b_Mo_beginAnew 84 = .ok (.if_icmp .ge 50, 3) := by decide +kernel
theorem d_Mo_beginAnew_87 : decode b_Mo_beginAnew 87 = .ok (.aload_n 0, 1) := by decide +kernel
theorem d_Mo_beginAnew_88 : decode b_Mo_beginAnew 88 = .ok (.getfield 57, 3) := by decide +kernel
theorem d_Mo_beginAnew_91 : decode b_Mo_beginAnew 91 = .ok (.iload_n 1, 1) := by decide +kernel
theorem d_Mo_beginAnew_92 : decode b_Mo_beginAnew 92 = .ok (.aload_n 0, 1) := by decide +kernel
theorem d_Mo_beginAnew_93 : decode b_Mo_beginAnew 93 = .ok (.getfield 135, 3) := by decide +kernel
theorem d_Mo_beginAnew_96 : decode b_Mo_beginAnew 96 = .ok (.iastore, 1) := by decide +kernel
theorem d_Mo_beginAnew_97 : decode b_Mo_beginAnew 97 = .ok (.aload_n 0, 1) := by decide +kernel
theorem d_Mo_beginAnew_98 : decode b_Mo_beginAnew 98 = .ok (.getfield 60, 3) := by decide +kernel
theorem d_Mo_beginAnew_101 : decode b_Mo_beginAnew 101 = .ok (.iload_n 1, 1) := by decide +kernel
theorem d_Mo_beginAnew_102 : decode b_Mo_beginAnew 102 = .ok (.iconst 0, 1) := by decide +kernel
theorem d_Mo_beginAnew_103 : decode b_Mo_beginAnew 103 = .ok (.iastore, 1) := by decide +kernel
theorem d_Mo_beginAnew_104 : decode b_Mo_beginAnew 104 = .ok (.aload_n 0, 1) := by decide +kernel
theorem d_Mo_beginAnew_105 : decode b_Mo_beginAnew 105 = .ok (.getfield 63, 3) := by decide +kernel
theorem d_Mo_beginAnew_108 : decode b_Mo_beginAnew 108 = .ok (.iload_n 1, 1) := by decide +kernel
theorem d_Mo_beginAnew_109 : decode b_Mo_beginAnew 109 = .ok (.iconst 0, 1) := by decide +kernel
theorem d_Mo_beginAnew_110 : decode b_Mo_beginAnew 110 = .ok (.iastore, 1) := by decide +kernel
theorem d_Mo_beginAnew_111 : decode b_Mo_beginAnew 111 = .ok (.iload_n 1, 1) := by decide +kernel
theorem d_Mo_beginAnew_112 : decode b_Mo_beginAnew 112 = .ok (.ifCond .le 16, 3) := by decide +kernel
theorem d_Mo_beginAnew_115 : decode b_Mo_beginAnew 115 = .ok (.iload_n 1, 1) := by decide +kernel
theorem d_Mo_beginAnew_116 : decode b_Mo_beginAnew 116 = .ok (.aload_n 0, 1) := by decide +kernel
theorem d_Mo_beginAnew_117 : decode b_Mo_beginAnew 117 = .ok (.getfield 84, 3) := by decide +kernel
theorem d_Mo_beginAnew_120 : decode b_Mo_beginAnew 120 = .ok (.if_icmp .ge 8, 3) := by decide +kernel
theorem d_Mo_beginAnew_123 : decode b_Mo_beginAnew 123 = .ok (.aload_n 0, 1) := by decide +kernel
theorem d_Mo_beginAnew_124 : decode b_Mo_beginAnew 124 = .ok (.iload_n 1, 1) := by decide +kernel
theorem d_Mo_beginAnew_125 : decode b_Mo_beginAnew 125 = .ok (.invokevirtual 138, 3) := by decide +kernel
theorem d_Mo_beginAnew_128 : decode b_Mo_beginAnew 128 = .ok (.iinc 1 1, 3) := by decide +kernel
theorem d_Mo_beginAnew_131 : decode b_Mo_beginAnew 131 = .ok (.goto (-49), 3) := by decide +kernel
theorem d_Mo_beginAnew_134 : decode b_Mo_beginAnew 134 = .ok (.aload_n 0, 1) := by decide +kernel
theorem d_Mo_beginAnew_135 : decode b_Mo_beginAnew 135 = .ok (.invokevirtual 142, 3) := by decide +kernel
theorem d_Mo_beginAnew_138 : decode b_Mo_beginAnew 138 = .ok (.return_, 1) := by decide +kernel
theorem d_Mo_move_0 : decode b_Mo_move 0 = .ok (.iload_n 2, 1) := by decide +kernel
theorem d_Mo_move_1 : decode b_Mo_move 1 = .ok (.ifCond .eq 7, 3) := by decide +kernel
theorem d_Mo_move_4 : decode b_Mo_move 4 = .ok (.iconst 1, 1) := by decide +kernel
theorem d_Mo_move_5 : decode b_Mo_move 5 = .ok (.goto 4, 3) := by decide +kernel
theorem d_Mo_move_8 : decode b_Mo_move 8 = .ok (.iconst (-1), 1) := by decide +kernel
theorem d_Mo_move_9 : decode b_Mo_move 9 = .ok (.istore_n 3, 1) := by decide +kernel
theorem d_Mo_move_10 : decode b_Mo_move 10 = .ok (.aload_n 0, 1) := by decide +kernel
theorem d_Mo_move_11 : decode b_Mo_move 11 = .ok (.getfield 51, 3) := by decide +kernel
theorem d_Mo_move_14 : decode b_Mo_move 14 = .ok (.iconst 0, 1) := by decide +kernel
theorem d_Mo_move_15 : decode b_Mo_move 15 = .ok (.aload_n 0, 1) := by decide +kernel
theorem d_Mo_move_16 : decode b_Mo_move 16 = .ok (.getfield 51, 3) := by decide +kernel
theorem d_Mo_move_19 : decode b_Mo_move 19 = .ok (.iconst 0, 1) := by decide +kernel
theorem d_Mo_move_20 : decode b_Mo_move 20 = .ok (.iaload, 1) := by decide +kernel
theorem d_Mo_move_21 : decode b_Mo_move 21 = .ok (.iload_n 3, 1) := by decide +kernel
theorem d_Mo_move_22 : decode b_Mo_move 22 = .ok (.aload_n 0, 1) := by decide +kernel
theorem d_Mo_move_23 : decode b_Mo_move 23 = .ok (.getfield 28, 3) := by decide +kernel
theorem d_Mo_move_26 : decode b_Mo_move 26 = .ok (.imul, 1) := by decide +kernel
theorem d_Mo_move_27 : decode b_Mo_move 27 = .ok (.aload_n 0, 1) := by decide +kernel
theorem d_Mo_move_28 : decode b_Mo_move 28 = .ok (.aload_n 0, 1) := by decide +kernel
theorem d_Mo_move_29 : decode b_Mo_move 29 = .ok (.getfield 57, 3) := by decide +kernel
theorem d_Mo_move_32 : decode b_Mo_move 32 = .ok (.iconst 0, 1) := by decide +kernel
theorem d_Mo_move_33 : decode b_Mo_move 33 = .ok (.iaload, 1) := by decide +kernel
theorem d_Mo_move_34 : decode b_Mo_move 34 = .ok (.invokevirtual 90, 3) := by decide +kernel
theorem d_Mo_move_37 : decode b_Mo_move 37 = .ok (.imul, 1) := by decide +kernel
theorem d_Mo_move_38 : decode b_Mo_move 38 = .ok (.iadd, 1) := by decide +kernel
theorem d_Mo_move_39 : decode b_Mo_move 39 = .ok (.iastore, 1) := by decide +kernel
theorem d_Mo_move_40 : decode b_Mo_move 40 = .ok (.aload_n 0, 1) := by decide +kernel
theorem d_Mo_move_41 : decode b_Mo_move 41 = .ok (.getfield 54, 3) := by decide +kernel
theorem d_Mo_move_44 : decode b_Mo_move 44 = .ok (.iconst 0, 1) := by decide +kernel
theorem d_Mo_move_45 : decode b_Mo_move 45 = .ok (.aload_n 0, 1) := by decide +kernel
theorem d_Mo_move_46 : decode b_Mo_move 46 = .ok (.getfield 54, 3) := by decide +kernel
theorem d_Mo_move_49 : decode b_Mo_move 49 = .ok (.iconst 0, 1) := by decide +kernel
theorem d_Mo_move_50 : decode b_Mo_move 50 = .ok (.iaload, 1) := by decide +kernel
theorem d_Mo_move_51 : decode b_Mo_move 51 = .ok (.iload_n 3, 1) := by decide +kernel
theorem d_Mo_move_52 : decode b_Mo_move 52 = .ok (.aload_n 0, 1) := by decide +kernel
theorem d_Mo_move_53 : decode b_Mo_move 53 = .ok (.getfield 28, 3) := by decide +kernel
theorem d_Mo_move_56 : decode b_Mo_move 56 = .ok (.imul, 1) := by decide +kernel
theorem d_Mo_move_57 : decode b_Mo_move 57 = .ok (.aload_n 0, 1) := by decide +kernel
theorem d_Mo_move_58 : decode b_Mo_move 58 = .ok (.aload_n 0, 1) := by decide +kernel
theorem d_Mo_move_59 : decode b_Mo_move 59 = .ok (.getfield 57, 3) := by decide +kernel
theorem d_Mo_move_62 : decode b_Mo_move 62 = .ok (.iconst 0, 1) := by decide +kernel
theorem d_Mo_move_63 : decode b_Mo_move 63 = .ok (.iaload, 1) := by decide +kernel
theorem d_Mo_move_64 : decode b_Mo_move 64 = .ok (.invokevirtual 97, 3) := by decide +kernel
theorem d_Mo_move_67 : decode b_Mo_move 67 = .ok (.imul, 1) := by decide +kernel
theorem d_Mo_move_68 : decode b_Mo_move 68 = .ok (.iadd, 1) := by decide +kernel
theorem d_Mo_move_69 : decode b_Mo_move 69 = .ok (.iastore, 1) := by decide +kernel
theorem d_Mo_move_70 : decode b_Mo_move 70 = .ok (.aload_n 0, 1) := by decide +kernel
theorem d_Mo_move_71 : decode b_Mo_move 71 = .ok (.getfield 57, 3) := by decide +kernel
theorem d_Mo_move_74 : decode b_Mo_move 74 = .ok (.iconst 0, 1) := by decide +kernel
theorem d_Mo_move_75 : decode b_Mo_move 75 = .ok (.aload_n 0, 1) := by decide +kernel
theorem d_Mo_move_76 : decode b_Mo_move 76 = .ok (.getfield 57, 3) := by decide +kernel
theorem d_Mo_move_79 : decode b_Mo_move 79 = .ok (.iconst 0, 1) := by decide +kernel
theorem d_Mo_move_80 : decode b_Mo_move 80 = .ok (.iaload, 1) := by decide +kernel
theorem d_Mo_move_81 : decode b_Mo_move 81 = .ok (.iload_n 3, 1) := by decide +kernel
theorem d_Mo_move_82 : decode b_Mo_move 82 = .ok (.iload_n 1, 1) := by decide +kernel
theorem d_Mo_move_83 : decode b_Mo_move 83 = .ok (.imul, 1) := by decide +kernel
theorem d_Mo_move_84 : decode b_Mo_move 84 = .ok (.iadd, 1) := by decide +kernel
theorem d_Mo_move_85 : decode b_Mo_move 85 = .ok (.bipush 63, 2) := by decide +kernel
theorem d_Mo_move_87 : decode b_Mo_move 87 = .ok (.iand, 1) := by decide +kernel
theorem d_Mo_move_88 : decode b_Mo_move 88 = .ok (.iastore, 1) := by decide +kernel
theorem d_Mo_move_89 : decode b_Mo_move 89 = .ok (.iconst 1, 1) := by decide +kernel
theorem d_Mo_move_90 : decode b_Mo_move 90 = .ok (.istore 4, 2) := by decide +kernel
theorem d_Mo_move_92 : decode b_Mo_move 92 = .ok (.iload 4, 2) := by decide +kernel
theorem d_Mo_move_94 : decode b_Mo_move 94 = .ok (.aload_n 0, 1) := by decide +kernel
theorem d_Mo_move_95 : decode b_Mo_move 95 = .ok (.getfield 84, 3) := by decide +kernel
theorem d_Mo_move_98 : decode b_Mo_move 98 = .ok (.if_icmp .ge 105, 3) := by decide +kernel
theorem d_Mo_move_101 : decode b_Mo_move 101 = .ok (.aload_n 0, 1) := by decide +kernel
theorem d_Mo_move_102 : decode b_Mo_move 102 = .ok (.getfield 60, 3) := by decide +kernel
theorem d_Mo_move_105 : decode b_Mo_move 105 = .ok (.iload 4, 2) := by decide +kernel
theorem d_Mo_move_107 : decode b_Mo_move 107 = .ok (.aload_n 0, 1) := by decide +kernel
theorem d_Mo_move_108 : decode b_Mo_move 108 = .ok (.getfield 60, 3) := by decide +kernel
theorem d_Mo_move_111 : decode b_Mo_move 111 = .ok (.iload 4, 2) := by decide +kernel
theorem d_Mo_move_113 : decode b_Mo_move 113 = .ok (.iaload, 1) := by decide +kernel
theorem d_Mo_move_114 : decode b_Mo_move 114 = .ok (.iload_n 3, 1) := by decide +kernel
theorem d_Mo_move_115 : decode b_Mo_move 115 = .ok (.aload_n 0, 1) := by decide +kernel
theorem d_Mo_move_116 : decode b_Mo_move 116 = .ok (.iload 4, 2) := by decide +kernel
theorem d_Mo_move_118 : decode b_Mo_move 118 = .ok (.invokevirtual 145, 3) := by decide +kernel
theorem d_Mo_move_121 : decode b_Mo_move 121 = .ok (.imul, 1) := by decide +kernel
theorem d_Mo_move_122 : decode b_Mo_move 122 = .ok (.aload_n 0, 1) := by decide +kernel
theorem d_Mo_move_123 : decode b_Mo_move 123 = .ok (.getfield 28, 3) := by decide +kernel
theorem d_Mo_move_126 : decode b_Mo_move 126 = .ok (.imul, 1) := by decide +kernel
theorem d_Mo_move_127 : decode b_Mo_move 127 = .ok (.iadd, 1) := by decide +kernel
theorem d_Mo_move_128 : decode b_Mo_move 128 = .ok (.iastore, 1) := by decide +kernel
theorem d_Mo_move_129 : decode b_Mo_move 129 = .ok (.aload_n 0, 1) := by decide +kernel
theorem d_Mo_move_130 : decode b_Mo_move 130 = .ok (.getfield 60, 3) := by decide +kernel
theorem d_Mo_move_133 : decode b_Mo_move 133 = .ok (.iload 4, 2) := by decide +kernel
theorem d_Mo_move_135 : decode b_Mo_move 135 = .ok (.iaload, 1) := by decide +kernel
theorem d_Mo_move_136 : decode b_Mo_move 136 = .ok (.aload_n 0, 1) := by decide +kernel
theorem d_Mo_move_137 : decode b_Mo_move 137 = .ok (.getfield 13, 3) := by decide +kernel
theorem d_Mo_move_140 : decode b_Mo_move 140 = .ok (.iload 4, 2) := by decide +kernel
theorem d_Mo_move_142 : decode b_Mo_move 142 = .ok (.iaload, 1) := by decide +kernel
theorem d_Mo_move_143 : decode b_Mo_move 143 = .ok (.idiv, 1) := by decide +kernel
theorem d_Mo_move_144 : decode b_Mo_move 144 = .ok (.istore 5, 2) := by decide +kernel
theorem d_Mo_move_146 : decode b_Mo_move 146 = .ok (.aload_n 0, 1) := by decide +kernel
theorem d_Mo_move_147 : decode b_Mo_move 147 = .ok (.getfield 57, 3) := by decide +kernel
theorem d_Mo_move_150 : decode b_Mo_move 150 = .ok (.iload 4, 2) := by decide +kernel
theorem d_Mo_move_152 : decode b_Mo_move 152 = .ok (.aload_n 0, 1) := by decide +kernel
theorem d_Mo_move_153 : decode b_Mo_move 153 = .ok (.getfield 57, 3) := by decide +kernel
theorem d_Mo_move_156 : decode b_Mo_move 156 = .ok (.iload 4, 2) := by decide +kernel
theorem d_Mo_move_158 : decode b_Mo_move 158 = .ok (.iaload, 1) := by decide +kernel
theorem d_Mo_move_159 : decode b_Mo_move 159 = .ok (.iload 5, 2) := by decide +kernel
theorem d_Mo_move_161 : decode b_Mo_move 161 = .ok (.iadd, 1) := by decide +kernel
theorem d_Mo_move_162 : decode b_Mo_move 162 = .ok (.bipush 63, 2) := by decide +kernel
theorem d_Mo_move_164 : decode b_Mo_move 164 = .ok (.iand, 1) := by decide +kernel
theorem d_Mo_move_165 : decode b_Mo_move 165 = .ok (.iastore, 1) := by decide +kernel
theorem d_Mo_move_166 : decode b_Mo_move 166 = .ok (.aload_n 0, 1) := by decide +kernel
theorem d_Mo_move_167 : decode b_Mo_move 167 = .ok (.getfield 60, 3) := by decide +kernel
theorem d_Mo_move_170 : decode b_Mo_move 170 = .ok (.iload 4, 2) := by decide +kernel
theorem d_Mo_move_172 : decode b_Mo_move 172 = .ok (.aload_n 0, 1) := by decide +kernel
theorem d_Mo_move_173 : decode b_Mo_move 173 = .ok (.getfield 60, 3) := by decide +kernel
theorem d_Mo_move_176 : decode b_Mo_move 176 = .ok (.iload 4, 2) := by decide +kernel
theorem d_Mo_move_178 : decode b_Mo_move 178 = .ok (.iaload, 1) := by decide +kernel
theorem d_Mo_move_179 : decode b_Mo_move 179 = .ok (.iload 5, 2) := by decide +kernel
theorem d_Mo_move_181 : decode b_Mo_move 181 = .ok (.aload_n 0, 1) := by decide +kernel
theorem d_Mo_move_182 : decode b_Mo_move 182 = .ok (.getfield 13, 3) := by decide +kernel
theorem d_Mo_move_185 : decode b_Mo_move 185 = .ok (.iload 4, 2) := by decide +kernel
theorem d_Mo_move_187 : decode b_Mo_move 187 = .ok (.iaload, 1) := by decide +kernel
theorem d_Mo_move_188 : decode b_Mo_move 188 = .ok (.imul, 1) := by decide +kernel
theorem d_Mo_move_189 : decode b_Mo_move 189 = .ok (.isub, 1) := by decide +kernel
theorem d_Mo_move_190 : decode b_Mo_move 190 = .ok (.iastore, 1) := by decide +kernel
theorem d_Mo_move_191 : decode b_Mo_move 191 = .ok (.aload_n 0, 1) := by decide +kernel
theorem d_Mo_move_192 : decode b_Mo_move 192 = .ok (.iload 4, 2) := by decide +kernel
theorem d_Mo_move_194 : decode b_Mo_move 194 = .ok (.invokevirtual 138, 3) := by decide +kernel
theorem d_Mo_move_197 : decode b_Mo_move 197 = .ok (.iinc 4 1, 3) := by decide +kernel
theorem d_Mo_move_200 : decode b_Mo_move 200 = .ok (.goto (-108), 3) := by decide +kernel
theorem d_Mo_move_203 : decode b_Mo_move 203 = .ok (.aload_n 0, 1) := by decide +kernel
theorem d_Mo_move_204 : decode b_Mo_move 204 = .ok (.dup, 1) := by decide +kernel
theorem d_Mo_move_205 : decode b_Mo_move 205 = .ok (.getfield 122, 3) := by decide +kernel
theorem d_Mo_move_208 : decode b_Mo_move 208 = .ok (.iconst 1, 1) := by decide +kernel
theorem d_Mo_move_209 : decode b_Mo_move 209 = .ok (.iadd, 1) := by decide +kernel
theorem d_Mo_move_210 : decode b_Mo_move 210 = .ok (.putfield 122, 3) := by decide +kernel
theorem d_Mo_move_213 : decode b_Mo_move 213 = .ok (.iconst 1, 1) := by decide +kernel
theorem d_Mo_move_214 : decode b_Mo_move 214 = .ok (.istore 4, 2) := by decide +kernel
theorem d_Mo_move_216 : decode b_Mo_move 216 = .ok (.iload 4, 2) := by decide +kernel
theorem d_Mo_move_218 : decode b_Mo_move 218 = .ok (.aload_n 0, 1) := by decide +kernel
theorem d_Mo_move_219 : decode b_Mo_move 219 = .ok (.getfield 84, 3) := by decide +kernel
theorem d_Mo_move_222 : decode b_Mo_move 222 = .ok (.if_icmp .ge 86, 3) := by decide +kernel
theorem d_Mo_move_225 : decode b_Mo_move 225 = .ok (.aload_n 0, 1) := by decide +kernel
theorem d_Mo_move_226 : decode b_Mo_move 226 = .ok (.iload 4, 2) := by decide +kernel
theorem d_Mo_move_228 : decode b_Mo_move 228 = .ok (.invokevirtual 145, 3) := by decide +kernel
theorem d_Mo_move_231 : decode b_Mo_move 231 = .ok (.istore 5, 2) := by decide +kernel
theorem d_Mo_move_233 : decode b_Mo_move 233 = .ok (.iload 5, 2) := by decide +kernel
theorem d_Mo_move_235 : decode b_Mo_move 235 = .ok (.ifCond .ge 9, 3) := by decide +kernel
theorem d_Mo_move_238 : decode b_Mo_move 238 = .ok (.iload 5, 2) := by decide +kernel
theorem d_Mo_move_240 : decode b_Mo_move 240 = .ok (.ineg, 1) := by decide +kernel
theorem d_Mo_move_241 : decode b_Mo_move 241 = .ok (.goto 5, 3) := by decide +kernel
theorem d_Mo_move_244 : decode b_Mo_move 244 = .ok (.iload 5, 2) := by decide +kernel
theorem d_Mo_move_246 : decode b_Mo_move 246 = .ok (.istore 6, 2) := by decide +kernel
theorem d_Mo_move_248 : decode b_Mo_move 248 = .ok (.aload_n 0, 1) := by decide +kernel
theorem d_Mo_move_249 : decode b_Mo_move 249 = .ok (.getfield 63, 3) := by decide +kernel
theorem d_Mo_move_252 : decode b_Mo_move 252 = .ok (.iload 4, 2) := by decide +kernel
theorem d_Mo_move_254 : decode b_Mo_move 254 = .ok (.iload 6, 2) := by decide +kernel
theorem d_Mo_move_256 : decode b_Mo_move 256 = .ok (.aload_n 0, 1) := by decide +kernel
theorem d_Mo_move_257 : decode b_Mo_move 257 = .ok (.getfield 63, 3) := by decide +kernel
theorem d_Mo_move_260 : decode b_Mo_move 260 = .ok (.iload 4, 2) := by decide +kernel
theorem d_Mo_move_262 : decode b_Mo_move 262 = .ok (.iaload, 1) := by decide +kernel
theorem d_Mo_move_263 : decode b_Mo_move 263 = .ok (.if_icmp .le 8, 3) := by decide +kernel
theorem d_Mo_move_266 : decode b_Mo_move 266 = .ok (.iload 6, 2) := by decide +kernel
theorem d_Mo_move_268 : decode b_Mo_move 268 = .ok (.goto 10, 3) := by decide +kernel
theorem d_Mo_move_271 : decode b_Mo_move 271 = .ok (.aload_n 0, 1) := by decide +kernel
theorem d_Mo_move_272 : decode b_Mo_move 272 = .ok (.getfield 63, 3) := by decide +kernel
theorem d_Mo_move_275 : decode b_Mo_move 275 = .ok (.iload 4, 2) := by decide +kernel
theorem d_Mo_move_277 : decode b_Mo_move 277 = .ok (.iaload, 1) := by decide +kernel
theorem d_Mo_move_278 : decode b_Mo_move 278 = .ok (.iastore, 1) := by decide +kernel
theorem d_Mo_move_279 : decode b_Mo_move 279 = .ok (.aload_n 0, 1) := by decide +kernel
theorem d_Mo_move_280 : decode b_Mo_move 280 = .ok (.aload_n 0, 1) := by decide +kernel
theorem d_Mo_move_281 : decode b_Mo_move 281 = .ok (.getfield 125, 3) := by decide +kernel
theorem d_Mo_move_284 : decode b_Mo_move 284 = .ok (.ifCond .ne 10, 3) := by decide +kernel
theorem d_Mo_move_287 : decode b_Mo_move 287 = .ok (.iload 6, 2) := by decide +kernel
theorem d_Mo_move_289 : decode b_Mo_move 289 = .ok (.bipush 24, 2) := by decide +kernel
theorem d_Mo_move_291 : decode b_Mo_move 291 = .ok (.if_icmp .le 7, 3) := by decide +kernel
theorem d_Mo_move_294 : decode b_Mo_move 294 = .ok (.iconst 1, 1) := by decide +kernel
theorem d_Mo_move_295 : decode b_Mo_move 295 = .ok (.goto 4, 3) := by decide +kernel
theorem d_Mo_move_298 : decode b_Mo_move 298 = .ok (.iconst 0, 1) := by decide +kernel
theorem d_Mo_move_299 : decode b_Mo_move 299 = .ok (.putfield 125, 3) := by decide +kernel
theorem d_Mo_move_302 : decode b_Mo_move 302 = .ok (.iinc 4 1, 3) := by decide +kernel
theorem d_Mo_move_305 : decode b_Mo_move 305 = .ok (.goto (-89), 3) := by decide +kernel
theorem d_Mo_move_308 : decode b_Mo_move 308 = .ok (.aload_n 0, 1) := by decide +kernel
theorem d_Mo_move_309 : decode b_Mo_move 309 = .ok (.invokevirtual 142, 3) := by decide +kernel
theorem d_Mo_move_312 : decode b_Mo_move 312 = .ok (.return_, 1) := by decide +kernel
theorem d_Mo_goOn_0 : decode b_Mo_goOn 0 = .ok (.iconst 0, 1) := by decide +kernel
theorem d_Mo_goOn_1 : decode b_Mo_goOn 1 = .ok (.istore 4, 2) := by decide +kernel
theorem d_Mo_goOn_3 : decode b_Mo_goOn 3 = .ok (.iload 4, 2) := by decide +kernel
theorem d_Mo_goOn_5 : decode b_Mo_goOn 5 = .ok (.iload_n 2, 1) := by decide +kernel
theorem d_Mo_goOn_6 : decode b_Mo_goOn 6 = .ok (.if_icmp .ge 32, 3) := by decide +kernel
theorem d_Mo_goOn_9 : decode b_Mo_goOn 9 = .ok (.aload_n 0, 1) := by decide +kernel
theorem d_Mo_goOn_10 : decode b_Mo_goOn 10 = .ok (.getfield 125, 3) := by decide +kernel
theorem d_Mo_goOn_13 : decode b_Mo_goOn 13 = .ok (.ifCond .ne 25, 3) := by decide +kernel
theorem d_Mo_goOn_16 : decode b_Mo_goOn 16 = .ok (.aload_n 0, 1) := by decide +kernel
theorem d_Mo_goOn_17 : decode b_Mo_goOn 17 = .ok (.getfield 122, 3) := by decide +kernel
theorem d_Mo_goOn_20 : decode b_Mo_goOn 20 = .ok (.sipush 4000, 3) := by decide +kernel
theorem d_Mo_goOn_23 : decode b_Mo_goOn 23 = .ok (.if_icmp .ge 15, 3) := by decide +kernel
theorem d_Mo_goOn_26 : decode b_Mo_goOn 26 = .ok (.aload_n 0, 1) := by decide +kernel
theorem d_Mo_goOn_27 : decode b_Mo_goOn 27 = .ok (.iload_n 1, 1) := by decide +kernel
theorem d_Mo_goOn_28 : decode b_Mo_goOn 28 = .ok (.iload_n 3, 1) := by decide +kernel
theorem d_Mo_goOn_29 : decode b_Mo_goOn 29 = .ok (.invokevirtual 148, 3) := by decide +kernel
theorem d_Mo_goOn_32 : decode b_Mo_goOn 32 = .ok (.iinc 4 1, 3) := by decide +kernel
theorem d_Mo_goOn_35 : decode b_Mo_goOn 35 = .ok (.goto (-32), 3) := by decide +kernel
theorem d_Mo_goOn_38 : decode b_Mo_goOn 38 = .ok (.return_, 1) := by decide +kernel
theorem d_Mo_body_0 : decode b_Mo_body 0 = .ok (.iload_n 1, 1) := by decide +kernel
theorem d_Mo_body_1 : decode b_Mo_body 1 = .ok (.iconst 1, 1) := by decide +kernel
theorem d_Mo_body_2 : decode b_Mo_body 2 = .ok (.sipush 200, 3) := by decide +kernel
theorem d_Mo_body_5 : decode b_Mo_body 5 = .ok (.invokestatic 152, 3) := by decide +kernel
theorem d_Mo_body_8 : decode b_Mo_body 8 = .ok (.ifCond .eq 50, 3) := by decide +kernel
theorem d_Mo_body_11 : decode b_Mo_body 11 = .ok (.iload_n 2, 1) := by decide +kernel
theorem d_Mo_body_12 : decode b_Mo_body 12 = .ok (.iconst 0, 1) := by decide +kernel
theorem d_Mo_body_13 : decode b_Mo_body 13 = .ok (.sipush 200, 3) := by decide +kernel
theorem d_Mo_body_16 : decode b_Mo_body 16 = .ok (.invokestatic 152, 3) := by decide +kernel
theorem d_Mo_body_19 : decode b_Mo_body 19 = .ok (.ifCond .eq 39, 3) := by decide +kernel
theorem d_Mo_body_22 : decode b_Mo_body 22 = .ok (.iload_n 3, 1) := by decide +kernel
theorem d_Mo_body_23 : decode b_Mo_body 23 = .ok (.iconst 0, 1) := by decide +kernel
theorem d_Mo_body_24 : decode b_Mo_body 24 = .ok (.bipush 60, 2) := by decide +kernel
theorem d_Mo_body_26 : decode b_Mo_body 26 = .ok (.invokestatic 152, 3) := by decide +kernel
theorem d_Mo_body_29 : decode b_Mo_body 29 = .ok (.ifCond .eq 29, 3) := by decide +kernel
theorem d_Mo_body_32 : decode b_Mo_body 32 = .ok (.iload 4, 2) := by decide +kernel
theorem d_Mo_body_34 : decode b_Mo_body 34 = .ok (.iconst 0, 1) := by decide +kernel
theorem d_Mo_body_35 : decode b_Mo_body 35 = .ok (.bipush 60, 2) := by decide +kernel
theorem d_Mo_body_37 : decode b_Mo_body 37 = .ok (.invokestatic 152, 3) := by decide +kernel
theorem d_Mo_body_40 : decode b_Mo_body 40 = .ok (.ifCond .eq 18, 3) := by decide +kernel
theorem d_Mo_body_43 : decode b_Mo_body 43 = .ok (.iload 5, 2) := by decide +kernel
theorem d_Mo_body_45 : decode b_Mo_body 45 = .ok (.iconst 1, 1) := by decide +kernel
theorem d_Mo_body_46 : decode b_Mo_body 46 = .ok (.bipush 20, 2) := by decide +kernel
theorem d_Mo_body_48 : decode b_Mo_body 48 = .ok (.invokestatic 152, 3) := by decide +kernel
theorem d_Mo_body_51 : decode b_Mo_body 51 = .ok (.ifCond .eq 7, 3) := by decide +kernel
theorem d_Mo_body_54 : decode b_Mo_body 54 = .ok (.iconst 1, 1) := by decide +kernel
theorem d_Mo_body_55 : decode b_Mo_body 55 = .ok (.goto 4, 3) := by decide +kernel
theorem d_Mo_body_58 : decode b_Mo_body 58 = .ok (.iconst 0, 1) := by decide +kernel
theorem d_Mo_body_59 : decode b_Mo_body 59 = .ok (.istore 6, 2) := by decide +kernel
theorem d_Mo_body_61 : decode b_Mo_body 61 = .ok (.aload_n 0, 1) := by decide +kernel
theorem d_Mo_body_62 : decode b_Mo_body 62 = .ok (.iload 6, 2) := by decide +kernel
theorem d_Mo_body_64 : decode b_Mo_body 64 = .ok (.ifCond .ne 7, 3) := by decide +kernel
theorem d_Mo_body_67 : decode b_Mo_body 67 = .ok (.iconst 1, 1) := by decide +kernel
theorem d_Mo_body_68 : decode b_Mo_body 68 = .ok (.goto 16, 3) := by decide +kernel
theorem d_Mo_body_71 : decode b_Mo_body 71 = .ok (.aload_n 0, 1) := by decide +kernel
theorem d_Mo_body_72 : decode b_Mo_body 72 = .ok (.getfield 84, 3) := by decide +kernel
theorem d_Mo_body_75 : decode b_Mo_body 75 = .ok (.iconst 3, 1) := by decide +kernel
theorem d_Mo_body_76 : decode b_Mo_body 76 = .ok (.if_icmp .ne 7, 3) := by decide +kernel
theorem d_Mo_body_79 : decode b_Mo_body 79 = .ok (.iconst 2, 1) := by decide +kernel
theorem d_Mo_body_80 : decode b_Mo_body 80 = .ok (.goto 4, 3) := by decide +kernel
theorem d_Mo_body_83 : decode b_Mo_body 83 = .ok (.iconst 0, 1) := by decide +kernel
theorem d_Mo_body_84 : decode b_Mo_body 84 = .ok (.putfield 87, 3) := by decide +kernel
theorem d_Mo_body_87 : decode b_Mo_body 87 = .ok (.aload_n 0, 1) := by decide +kernel
theorem d_Mo_body_88 : decode b_Mo_body 88 = .ok (.getfield 87, 3) := by decide +kernel
theorem d_Mo_body_91 : decode b_Mo_body 91 = .ok (.ifCond .le 5, 3) := by decide +kernel
theorem d_Mo_body_94 : decode b_Mo_body 94 = .ok (.iconst 0, 1) := by decide +kernel
theorem d_Mo_body_95 : decode b_Mo_body 95 = .ok (.ireturn, 1) := by decide +kernel
theorem d_Mo_body_96 : decode b_Mo_body 96 = .ok (.aload_n 0, 1) := by decide +kernel
theorem d_Mo_body_97 : decode b_Mo_body 97 = .ok (.getfield 13, 3) := by decide +kernel
theorem d_Mo_body_100 : decode b_Mo_body 100 = .ok (.aload_n 0, 1) := by decide +kernel
theorem d_Mo_body_101 : decode b_Mo_body 101 = .ok (.getfield 84, 3) := by decide +kernel
theorem d_Mo_body_104 : decode b_Mo_body 104 = .ok (.iload_n 1, 1) := by decide +kernel
theorem d_Mo_body_105 : decode b_Mo_body 105 = .ok (.iastore, 1) := by decide +kernel
theorem d_Mo_body_106 : decode b_Mo_body 106 = .ok (.aload_n 0, 1) := by decide +kernel
theorem d_Mo_body_107 : decode b_Mo_body 107 = .ok (.getfield 16, 3) := by decide +kernel
theorem d_Mo_body_110 : decode b_Mo_body 110 = .ok (.aload_n 0, 1) := by decide +kernel
theorem d_Mo_body_111 : decode b_Mo_body 111 = .ok (.getfield 84, 3) := by decide +kernel
theorem d_Mo_body_114 : decode b_Mo_body 114 = .ok (.iload_n 2, 1) := by decide +kernel
theorem d_Mo_body_115 : decode b_Mo_body 115 = .ok (.iastore, 1) := by decide +kernel
theorem d_Mo_body_116 : decode b_Mo_body 116 = .ok (.aload_n 0, 1) := by decide +kernel
theorem d_Mo_body_117 : decode b_Mo_body 117 = .ok (.getfield 19, 3) := by decide +kernel
theorem d_Mo_body_120 : decode b_Mo_body 120 = .ok (.aload_n 0, 1) := by decide +kernel
theorem d_Mo_body_121 : decode b_Mo_body 121 = .ok (.getfield 84, 3) := by decide +kernel
theorem d_Mo_body_124 : decode b_Mo_body 124 = .ok (.iload_n 3, 1) := by decide +kernel
theorem d_Mo_body_125 : decode b_Mo_body 125 = .ok (.iastore, 1) := by decide +kernel
theorem d_Mo_body_126 : decode b_Mo_body 126 = .ok (.aload_n 0, 1) := by decide +kernel
theorem d_Mo_body_127 : decode b_Mo_body 127 = .ok (.getfield 22, 3) := by decide +kernel
theorem d_Mo_body_130 : decode b_Mo_body 130 = .ok (.aload_n 0, 1) := by decide +kernel
theorem d_Mo_body_131 : decode b_Mo_body 131 = .ok (.getfield 84, 3) := by decide +kernel
theorem d_Mo_body_134 : decode b_Mo_body 134 = .ok (.iload 4, 2) := by decide +kernel
theorem d_Mo_body_136 : decode b_Mo_body 136 = .ok (.iastore, 1) := by decide +kernel
theorem d_Mo_body_137 : decode b_Mo_body 137 = .ok (.aload_n 0, 1) := by decide +kernel
theorem d_Mo_body_138 : decode b_Mo_body 138 = .ok (.getfield 25, 3) := by decide +kernel
theorem d_Mo_body_141 : decode b_Mo_body 141 = .ok (.aload_n 0, 1) := by decide +kernel
theorem d_Mo_body_142 : decode b_Mo_body 142 = .ok (.getfield 84, 3) := by decide +kernel
theorem d_Mo_body_145 : decode b_Mo_body 145 = .ok (.iload 5, 2) := by decide +kernel
theorem d_Mo_body_147 : decode b_Mo_body 147 = .ok (.iastore, 1) := by decide +kernel
theorem d_Mo_body_148 : decode b_Mo_body 148 = .ok (.aload_n 0, 1) := by decide +kernel
theorem d_Mo_body_149 : decode b_Mo_body 149 = .ok (.dup, 1) := by decide +kernel
theorem d_Mo_body_150 : decode b_Mo_body 150 = .ok (.getfield 84, 3) := by decide +kernel
theorem d_Mo_body_153 : decode b_Mo_body 153 = .ok (.iconst 1, 1) := by decide +kernel
theorem d_Mo_body_154 : decode b_Mo_body 154 = .ok (.iadd, 1) := by decide +kernel
theorem d_Mo_body_155 : decode b_Mo_body 155 = .ok (.putfield 84, 3) := by decide +kernel
theorem d_Mo_body_158 : decode b_Mo_body 158 = .ok (.aload_n 0, 1) := by decide +kernel
theorem d_Mo_body_159 : decode b_Mo_body 159 = .ok (.invokevirtual 155, 3) := by decide +kernel
theorem d_Mo_body_162 : decode b_Mo_body 162 = .ok (.aload_n 0, 1) := by decide +kernel
theorem d_Mo_body_163 : decode b_Mo_body 163 = .ok (.getfield 84, 3) := by decide +kernel
theorem d_Mo_body_166 : decode b_Mo_body 166 = .ok (.iconst 1, 1) := by decide +kernel
theorem d_Mo_body_167 : decode b_Mo_body 167 = .ok (.isub, 1) := by decide +kernel
theorem d_Mo_body_168 : decode b_Mo_body 168 = .ok (.ireturn, 1) := by decide +kernel
theorem d_Mo_start_0 : decode b_Mo_start 0 = .ok (.aload_n 0, 1) := by decide +kernel
theorem d_Mo_start_1 : decode b_Mo_start 1 = .ok (.iload_n 1, 1) := by decide +kernel
theorem d_Mo_start_2 : decode b_Mo_start 2 = .ok (.sipush (-1000), 3) := by decide +kernel
theorem d_Mo_start_5 : decode b_Mo_start 5 = .ok (.sipush 1000, 3) := by decide +kernel
theorem d_Mo_start_8 : decode b_Mo_start 8 = .ok (.invokestatic 152, 3) := by decide +kernel
theorem d_Mo_start_11 : decode b_Mo_start 11 = .ok (.ifCond .eq 30, 3) := by decide +kernel
theorem d_Mo_start_14 : decode b_Mo_start 14 = .ok (.iload_n 2, 1) := by decide +kernel
theorem d_Mo_start_15 : decode b_Mo_start 15 = .ok (.sipush (-1000), 3) := by decide +kernel
theorem d_Mo_start_18 : decode b_Mo_start 18 = .ok (.sipush 1000, 3) := by decide +kernel
theorem d_Mo_start_21 : decode b_Mo_start 21 = .ok (.invokestatic 152, 3) := by decide +kernel
theorem d_Mo_start_24 : decode b_Mo_start 24 = .ok (.ifCond .eq 17, 3) := by decide +kernel
theorem d_Mo_start_27 : decode b_Mo_start 27 = .ok (.iload_n 3, 1) := by decide +kernel
theorem d_Mo_start_28 : decode b_Mo_start 28 = .ok (.iconst 0, 1) := by decide +kernel
theorem d_Mo_start_29 : decode b_Mo_start 29 = .ok (.bipush 63, 2) := by decide +kernel
theorem d_Mo_start_31 : decode b_Mo_start 31 = .ok (.invokestatic 152, 3) := by decide +kernel
theorem d_Mo_start_34 : decode b_Mo_start 34 = .ok (.ifCond .eq 7, 3) := by decide +kernel
theorem d_Mo_start_37 : decode b_Mo_start 37 = .ok (.iconst 0, 1) := by decide +kernel
theorem d_Mo_start_38 : decode b_Mo_start 38 = .ok (.goto 4, 3) := by decide +kernel
theorem d_Mo_start_41 : decode b_Mo_start 41 = .ok (.iconst 1, 1) := by decide +kernel
theorem d_Mo_start_42 : decode b_Mo_start 42 = .ok (.putfield 87, 3) := by decide +kernel
theorem d_Mo_start_45 : decode b_Mo_start 45 = .ok (.aload_n 0, 1) := by decide +kernel
theorem d_Mo_start_46 : decode b_Mo_start 46 = .ok (.getfield 87, 3) := by decide +kernel
theorem d_Mo_start_49 : decode b_Mo_start 49 = .ok (.ifCond .le 4, 3) := by decide +kernel
theorem d_Mo_start_52 : decode b_Mo_start 52 = .ok (.return_, 1) := by decide +kernel
theorem d_Mo_start_53 : decode b_Mo_start 53 = .ok (.aload_n 0, 1) := by decide +kernel
theorem d_Mo_start_54 : decode b_Mo_start 54 = .ok (.iload_n 1, 1) := by decide +kernel
theorem d_Mo_start_55 : decode b_Mo_start 55 = .ok (.putfield 129, 3) := by decide +kernel
theorem d_Mo_start_58 : decode b_Mo_start 58 = .ok (.aload_n 0, 1) := by decide +kernel
theorem d_Mo_start_59 : decode b_Mo_start 59 = .ok (.iload_n 2, 1) := by decide +kernel
theorem d_Mo_start_60 : decode b_Mo_start 60 = .ok (.putfield 132, 3) := by decide +kernel
theorem d_Mo_start_63 : decode b_Mo_start 63 = .ok (.aload_n 0, 1) := by decide +kernel
theorem d_Mo_start_64 : decode b_Mo_start 64 = .ok (.iload_n 3, 1) := by decide +kernel
theorem d_Mo_start_65 : decode b_Mo_start 65 = .ok (.putfield 135, 3) := by decide +kernel
theorem d_Mo_start_68 : decode b_Mo_start 68 = .ok (.aload_n 0, 1) := by decide +kernel
theorem d_Mo_start_69 : decode b_Mo_start 69 = .ok (.invokevirtual 155, 3) := by decide +kernel
theorem d_Mo_start_72 : decode b_Mo_start 72 = .ok (.return_, 1) := by decide +kernel
theorem d_Mo_step_0 : decode b_Mo_step 0 = .ok (.aload_n 0, 1) := by decide +kernel
theorem d_Mo_step_1 : decode b_Mo_step 1 = .ok (.iload_n 1, 1) := by decide +kernel
theorem d_Mo_step_2 : decode b_Mo_step 2 = .ok (.iconst 1, 1) := by decide +kernel
theorem d_Mo_step_3 : decode b_Mo_step 3 = .ok (.bipush 20, 2) := by decide +kernel
theorem d_Mo_step_5 : decode b_Mo_step 5 = .ok (.invokestatic 152, 3) := by decide +kernel
theorem d_Mo_step_8 : decode b_Mo_step 8 = .ok (.ifCond .eq 7, 3) := by decide +kernel
theorem d_Mo_step_11 : decode b_Mo_step 11 = .ok (.iconst 0, 1) := by decide +kernel
theorem d_Mo_step_12 : decode b_Mo_step 12 = .ok (.goto 4, 3) := by decide +kernel
theorem d_Mo_step_15 : decode b_Mo_step 15 = .ok (.iconst 1, 1) := by decide +kernel
theorem d_Mo_step_16 : decode b_Mo_step 16 = .ok (.putfield 87, 3) := by decide +kernel
theorem d_Mo_step_19 : decode b_Mo_step 19 = .ok (.aload_n 0, 1) := by decide +kernel
theorem d_Mo_step_20 : decode b_Mo_step 20 = .ok (.getfield 87, 3) := by decide +kernel
theorem d_Mo_step_23 : decode b_Mo_step 23 = .ok (.ifCond .le 5, 3) := by decide +kernel
theorem d_Mo_step_26 : decode b_Mo_step 26 = .ok (.iconst 0, 1) := by decide +kernel
theorem d_Mo_step_27 : decode b_Mo_step 27 = .ok (.ireturn, 1) := by decide +kernel
theorem d_Mo_step_28 : decode b_Mo_step 28 = .ok (.aload_n 0, 1) := by decide +kernel
theorem d_Mo_step_29 : decode b_Mo_step 29 = .ok (.getfield 28, 3) := by decide +kernel
theorem d_Mo_step_32 : decode b_Mo_step 32 = .ok (.istore_n 2, 1) := by decide +kernel
theorem d_Mo_step_33 : decode b_Mo_step 33 = .ok (.aload_n 0, 1) := by decide +kernel
theorem d_Mo_step_34 : decode b_Mo_step 34 = .ok (.iload_n 1, 1) := by decide +kernel
theorem d_Mo_step_35 : decode b_Mo_step 35 = .ok (.putfield 28, 3) := by decide +kernel
theorem d_Mo_step_38 : decode b_Mo_step 38 = .ok (.aload_n 0, 1) := by decide +kernel
theorem d_Mo_step_39 : decode b_Mo_step 39 = .ok (.invokevirtual 155, 3) := by decide +kernel
theorem d_Mo_step_42 : decode b_Mo_step 42 = .ok (.iload_n 2, 1) := by decide +kernel
theorem d_Mo_step_43 : decode b_Mo_step 43 = .ok (.ireturn, 1) := by decide +kernel
theorem d_Mo_pole_0 : decode b_Mo_pole 0 = .ok (.aload_n 0, 1) := by decide +kernel
theorem d_Mo_pole_1 : decode b_Mo_pole 1 = .ok (.iload_n 1, 1) := by decide +kernel
theorem d_Mo_pole_2 : decode b_Mo_pole 2 = .ok (.sipush (-1000), 3) := by decide +kernel
theorem d_Mo_pole_5 : decode b_Mo_pole 5 = .ok (.sipush 1000, 3) := by decide +kernel
theorem d_Mo_pole_8 : decode b_Mo_pole 8 = .ok (.invokestatic 152, 3) := by decide +kernel
theorem d_Mo_pole_11 : decode b_Mo_pole 11 = .ok (.ifCond .eq 16, 3) := by decide +kernel
theorem d_Mo_pole_14 : decode b_Mo_pole 14 = .ok (.iload_n 2, 1) := by decide +kernel
theorem d_Mo_pole_15 : decode b_Mo_pole 15 = .ok (.sipush (-1000), 3) := by decide +kernel
theorem d_Mo_pole_18 : decode b_Mo_pole 18 = .ok (.sipush 1000, 3) := by decide +kernel
theorem d_Mo_pole_21 : decode b_Mo_pole 21 = .ok (.invokestatic 152, 3) := by decide +kernel
theorem d_Mo_pole_24 : decode b_Mo_pole 24 = .ok (.ifCond .ne 7, 3) := by decide +kernel
theorem d_Mo_pole_27 : decode b_Mo_pole 27 = .ok (.iconst 1, 1) := by decide +kernel
theorem d_Mo_pole_28 : decode b_Mo_pole 28 = .ok (.goto 17, 3) := by decide +kernel
theorem d_Mo_pole_31 : decode b_Mo_pole 31 = .ok (.aload_n 0, 1) := by decide +kernel
theorem d_Mo_pole_32 : decode b_Mo_pole 32 = .ok (.getfield 119, 3) := by decide +kernel
theorem d_Mo_pole_35 : decode b_Mo_pole 35 = .ok (.bipush 20, 2) := by decide +kernel
theorem d_Mo_pole_37 : decode b_Mo_pole 37 = .ok (.if_icmp .ne 7, 3) := by decide +kernel
theorem d_Mo_pole_40 : decode b_Mo_pole 40 = .ok (.iconst 2, 1) := by decide +kernel
theorem d_Mo_pole_41 : decode b_Mo_pole 41 = .ok (.goto 4, 3) := by decide +kernel
theorem d_Mo_pole_44 : decode b_Mo_pole 44 = .ok (.iconst 0, 1) := by decide +kernel
theorem d_Mo_pole_45 : decode b_Mo_pole 45 = .ok (.putfield 87, 3) := by decide +kernel
theorem d_Mo_pole_48 : decode b_Mo_pole 48 = .ok (.aload_n 0, 1) := by decide +kernel
theorem d_Mo_pole_49 : decode b_Mo_pole 49 = .ok (.getfield 87, 3) := by decide +kernel
theorem d_Mo_pole_52 : decode b_Mo_pole 52 = .ok (.ifCond .le 5, 3) := by decide +kernel
theorem d_Mo_pole_55 : decode b_Mo_pole 55 = .ok (.iconst 0, 1) := by decide +kernel
theorem d_Mo_pole_56 : decode b_Mo_pole 56 = .ok (.ireturn, 1) := by decide +kernel
theorem d_Mo_pole_57 : decode b_Mo_pole 57 = .ok (.aload_n 0, 1) := by decide +kernel
theorem d_Mo_pole_58 : decode b_Mo_pole 58 = .ok (.getfield 32, 3) := by decide +kernel
theorem d_Mo_pole_61 : decode b_Mo_pole 61 = .ok (.aload_n 0, 1) := by decide +kernel
theorem d_Mo_pole_62 : decode b_Mo_pole 62 = .ok (.getfield 119, 3) := by decide +kernel
theorem d_Mo_pole_65 : decode b_Mo_pole 65 = .ok (.iload_n 1, 1) := by decide +kernel
theorem d_Mo_pole_66 : decode b_Mo_pole 66 = .ok (.iastore, 1) := by decide +kernel
theorem d_Mo_pole_67 : decode b_Mo_pole 67 = .ok (.aload_n 0, 1) := by decide +kernel
theorem d_Mo_pole_68 : decode b_Mo_pole 68 = .ok (.getfield 35, 3) := by decide +kernel
theorem d_Mo_pole_71 : decode b_Mo_pole 71 = .ok (.aload_n 0, 1) := by decide +kernel
theorem d_Mo_pole_72 : decode b_Mo_pole 72 = .ok (.getfield 119, 3) := by decide +kernel
theorem d_Mo_pole_75 : decode b_Mo_pole 75 = .ok (.iload_n 2, 1) := by decide +kernel
theorem d_Mo_pole_76 : decode b_Mo_pole 76 = .ok (.iastore, 1) := by decide +kernel
theorem d_Mo_pole_77 : decode b_Mo_pole 77 = .ok (.aload_n 0, 1) := by decide +kernel
theorem d_Mo_pole_78 : decode b_Mo_pole 78 = .ok (.dup, 1) := by decide +kernel
theorem d_Mo_pole_79 : decode b_Mo_pole 79 = .ok (.getfield 119, 3) := by decide +kernel
theorem d_Mo_pole_82 : decode b_Mo_pole 82 = .ok (.iconst 1, 1) := by decide +kernel
theorem d_Mo_pole_83 : decode b_Mo_pole 83 = .ok (.iadd, 1) := by decide +kernel
theorem d_Mo_pole_84 : decode b_Mo_pole 84 = .ok (.putfield 119, 3) := by decide +kernel
theorem d_Mo_pole_87 : decode b_Mo_pole 87 = .ok (.aload_n 0, 1) := by decide +kernel
theorem d_Mo_pole_88 : decode b_Mo_pole 88 = .ok (.getfield 119, 3) := by decide +kernel
theorem d_Mo_pole_91 : decode b_Mo_pole 91 = .ok (.iconst 1, 1) := by decide +kernel
theorem d_Mo_pole_92 : decode b_Mo_pole 92 = .ok (.isub, 1) := by decide +kernel
theorem d_Mo_pole_93 : decode b_Mo_pole 93 = .ok (.ireturn, 1) := by decide +kernel
theorem d_Mo_go_0 : decode b_Mo_go 0 = .ok (.aload_n 0, 1) := by decide +kernel
theorem d_Mo_go_1 : decode b_Mo_go 1 = .ok (.iload_n 1, 1) := by decide +kernel
theorem d_Mo_go_2 : decode b_Mo_go 2 = .ok (.bipush (-3), 2) := by decide +kernel
theorem d_Mo_go_4 : decode b_Mo_go 4 = .ok (.iconst 3, 1) := by decide +kernel
theorem d_Mo_go_5 : decode b_Mo_go 5 = .ok (.invokestatic 152, 3) := by decide +kernel
theorem d_Mo_go_8 : decode b_Mo_go 8 = .ok (.ifCond .eq 14, 3) := by decide +kernel
theorem d_Mo_go_11 : decode b_Mo_go 11 = .ok (.iload_n 2, 1) := by decide +kernel
theorem d_Mo_go_12 : decode b_Mo_go 12 = .ok (.iconst 1, 1) := by decide +kernel
theorem d_Mo_go_13 : decode b_Mo_go 13 = .ok (.sipush 200, 3) := by decide +kernel
theorem d_Mo_go_16 : decode b_Mo_go 16 = .ok (.invokestatic 152, 3) := by decide +kernel
theorem d_Mo_go_19 : decode b_Mo_go 19 = .ok (.ifCond .ne 7, 3) := by decide +kernel
theorem d_Mo_go_22 : decode b_Mo_go 22 = .ok (.iconst 1, 1) := by decide +kernel
theorem d_Mo_go_23 : decode b_Mo_go 23 = .ok (.goto 15, 3) := by decide +kernel
theorem d_Mo_go_26 : decode b_Mo_go 26 = .ok (.aload_n 0, 1) := by decide +kernel
theorem d_Mo_go_27 : decode b_Mo_go 27 = .ok (.getfield 84, 3) := by decide +kernel
theorem d_Mo_go_30 : decode b_Mo_go 30 = .ok (.ifCond .ne 7, 3) := by decide +kernel
theorem d_Mo_go_33 : decode b_Mo_go 33 = .ok (.iconst 2, 1) := by decide +kernel
theorem d_Mo_go_34 : decode b_Mo_go 34 = .ok (.goto 4, 3) := by decide +kernel
theorem d_Mo_go_37 : decode b_Mo_go 37 = .ok (.iconst 0, 1) := by decide +kernel
theorem d_Mo_go_38 : decode b_Mo_go 38 = .ok (.putfield 87, 3) := by decide +kernel
theorem d_Mo_go_41 : decode b_Mo_go 41 = .ok (.aload_n 0, 1) := by decide +kernel
theorem d_Mo_go_42 : decode b_Mo_go 42 = .ok (.getfield 87, 3) := by decide +kernel
theorem d_Mo_go_45 : decode b_Mo_go 45 = .ok (.ifCond .le 5, 3) := by decide +kernel
theorem d_Mo_go_48 : decode b_Mo_go 48 = .ok (.iconst 0, 1) := by decide +kernel
theorem d_Mo_go_49 : decode b_Mo_go 49 = .ok (.ireturn, 1) := by decide +kernel
theorem d_Mo_go_50 : decode b_Mo_go 50 = .ok (.aload_n 0, 1) := by decide +kernel
theorem d_Mo_go_51 : decode b_Mo_go 51 = .ok (.iload_n 1, 1) := by decide +kernel
theorem d_Mo_go_52 : decode b_Mo_go 52 = .ok (.iload_n 2, 1) := by decide +kernel
theorem d_Mo_go_53 : decode b_Mo_go 53 = .ok (.iload_n 3, 1) := by decide +kernel
theorem d_Mo_go_54 : decode b_Mo_go 54 = .ok (.invokevirtual 158, 3) := by decide +kernel
theorem d_Mo_go_57 : decode b_Mo_go 57 = .ok (.aload_n 0, 1) := by decide +kernel
theorem d_Mo_go_58 : decode b_Mo_go 58 = .ok (.getfield 122, 3) := by decide +kernel
theorem d_Mo_go_61 : decode b_Mo_go 61 = .ok (.ireturn, 1) := by decide +kernel
theorem d_Mo_told_0 : decode b_Mo_told 0 = .ok (.aload_n 0, 1) := by decide +kernel
theorem d_Mo_told_1 : decode b_Mo_told 1 = .ok (.iload_n 1, 1) := by decide +kernel
theorem d_Mo_told_2 : decode b_Mo_told 2 = .ok (.iconst 0, 1) := by decide +kernel
theorem d_Mo_told_3 : decode b_Mo_told 3 = .ok (.aload_n 0, 1) := by decide +kernel
theorem d_Mo_told_4 : decode b_Mo_told 4 = .ok (.getfield 84, 3) := by decide +kernel
theorem d_Mo_told_7 : decode b_Mo_told 7 = .ok (.iconst 1, 1) := by decide +kernel
theorem d_Mo_told_8 : decode b_Mo_told 8 = .ok (.isub, 1) := by decide +kernel
theorem d_Mo_told_9 : decode b_Mo_told 9 = .ok (.invokestatic 152, 3) := by decide +kernel
theorem d_Mo_told_12 : decode b_Mo_told 12 = .ok (.ifCond .eq 16, 3) := by decide +kernel
theorem d_Mo_told_15 : decode b_Mo_told 15 = .ok (.iload_n 2, 1) := by decide +kernel
theorem d_Mo_told_16 : decode b_Mo_told 16 = .ok (.iconst 0, 1) := by decide +kernel
theorem d_Mo_told_17 : decode b_Mo_told 17 = .ok (.iconst 4, 1) := by decide +kernel
theorem d_Mo_told_18 : decode b_Mo_told 18 = .ok (.invokestatic 152, 3) := by decide +kernel
theorem d_Mo_told_21 : decode b_Mo_told 21 = .ok (.ifCond .eq 7, 3) := by decide +kernel
theorem d_Mo_told_24 : decode b_Mo_told 24 = .ok (.iconst 0, 1) := by decide +kernel
theorem d_Mo_told_25 : decode b_Mo_told 25 = .ok (.goto 4, 3) := by decide +kernel
theorem d_Mo_told_28 : decode b_Mo_told 28 = .ok (.iconst 1, 1) := by decide +kernel
theorem d_Mo_told_29 : decode b_Mo_told 29 = .ok (.putfield 87, 3) := by decide +kernel
theorem d_Mo_told_32 : decode b_Mo_told 32 = .ok (.aload_n 0, 1) := by decide +kernel
theorem d_Mo_told_33 : decode b_Mo_told 33 = .ok (.getfield 87, 3) := by decide +kernel
theorem d_Mo_told_36 : decode b_Mo_told 36 = .ok (.ifCond .le 5, 3) := by decide +kernel
theorem d_Mo_told_39 : decode b_Mo_told 39 = .ok (.iconst 0, 1) := by decide +kernel
theorem d_Mo_told_40 : decode b_Mo_told 40 = .ok (.ireturn, 1) := by decide +kernel
theorem d_Mo_told_41 : decode b_Mo_told 41 = .ok (.iload_n 2, 1) := by decide +kernel
theorem d_Mo_told_42 : decode b_Mo_told 42 = .ok (.iconst 2, 1) := by decide +kernel
theorem d_Mo_told_43 : decode b_Mo_told 43 = .ok (.if_icmp .ge 23, 3) := by decide +kernel
theorem d_Mo_told_46 : decode b_Mo_told 46 = .ok (.iload_n 2, 1) := by decide +kernel
theorem d_Mo_told_47 : decode b_Mo_told 47 = .ok (.ifCond .ne 12, 3) := by decide +kernel
theorem d_Mo_told_50 : decode b_Mo_told 50 = .ok (.aload_n 0, 1) := by decide +kernel
theorem d_Mo_told_51 : decode b_Mo_told 51 = .ok (.getfield 51, 3) := by decide +kernel
theorem d_Mo_told_54 : decode b_Mo_told 54 = .ok (.iload_n 1, 1) := by decide +kernel
theorem d_Mo_told_55 : decode b_Mo_told 55 = .ok (.iaload, 1) := by decide +kernel
theorem d_Mo_told_56 : decode b_Mo_told 56 = .ok (.goto 9, 3) := by decide +kernel
theorem d_Mo_told_59 : decode b_Mo_told 59 = .ok (.aload_n 0, 1) := by decide +kernel
theorem d_Mo_told_60 : decode b_Mo_told 60 = .ok (.getfield 54, 3) := by decide +kernel
theorem d_Mo_told_63 : decode b_Mo_told 63 = .ok (.iload_n 1, 1) := by decide +kernel
theorem d_Mo_told_64 : decode b_Mo_told 64 = .ok (.iaload, 1) := by decide +kernel
theorem d_Mo_told_65 : decode b_Mo_told 65 = .ok (.ireturn, 1) := by decide +kernel
theorem d_Mo_told_66 : decode b_Mo_told 66 = .ok (.iload_n 2, 1) := by decide +kernel
theorem d_Mo_told_67 : decode b_Mo_told 67 = .ok (.iconst 2, 1) := by decide +kernel
theorem d_Mo_told_68 : decode b_Mo_told 68 = .ok (.if_icmp .ne 12, 3) := by decide +kernel
theorem d_Mo_told_71 : decode b_Mo_told 71 = .ok (.aload_n 0, 1) := by decide +kernel
theorem d_Mo_told_72 : decode b_Mo_told 72 = .ok (.getfield 57, 3) := by decide +kernel
theorem d_Mo_told_75 : decode b_Mo_told 75 = .ok (.iload_n 1, 1) := by decide +kernel
theorem d_Mo_told_76 : decode b_Mo_told 76 = .ok (.iaload, 1) := by decide +kernel
theorem d_Mo_told_77 : decode b_Mo_told 77 = .ok (.goto 22, 3) := by decide +kernel
theorem d_Mo_told_80 : decode b_Mo_told 80 = .ok (.iload_n 2, 1) := by decide +kernel
theorem d_Mo_told_81 : decode b_Mo_told 81 = .ok (.iconst 3, 1) := by decide +kernel
theorem d_Mo_told_82 : decode b_Mo_told 82 = .ok (.if_icmp .ne 11, 3) := by decide +kernel
theorem d_Mo_told_85 : decode b_Mo_told 85 = .ok (.aload_n 0, 1) := by decide +kernel
theorem d_Mo_told_86 : decode b_Mo_told 86 = .ok (.iload_n 1, 1) := by decide +kernel
theorem d_Mo_told_87 : decode b_Mo_told 87 = .ok (.invokevirtual 145, 3) := by decide +kernel
theorem d_Mo_told_90 : decode b_Mo_told 90 = .ok (.goto 9, 3) := by decide +kernel
theorem d_Mo_told_93 : decode b_Mo_told 93 = .ok (.aload_n 0, 1) := by decide +kernel
theorem d_Mo_told_94 : decode b_Mo_told 94 = .ok (.getfield 63, 3) := by decide +kernel
theorem d_Mo_told_97 : decode b_Mo_told 97 = .ok (.iload_n 1, 1) := by decide +kernel
theorem d_Mo_told_98 : decode b_Mo_told 98 = .ok (.iaload, 1) := by decide +kernel
theorem d_Mo_told_99 : decode b_Mo_told 99 = .ok (.ireturn, 1) := by decide +kernel
theorem d_Mo_corner_0 : decode b_Mo_corner 0 = .ok (.aload_n 0, 1) := by decide +kernel
theorem d_Mo_corner_1 : decode b_Mo_corner 1 = .ok (.iload_n 1, 1) := by decide +kernel
theorem d_Mo_corner_2 : decode b_Mo_corner 2 = .ok (.iconst 0, 1) := by decide +kernel
theorem d_Mo_corner_3 : decode b_Mo_corner 3 = .ok (.aload_n 0, 1) := by decide +kernel
theorem d_Mo_corner_4 : decode b_Mo_corner 4 = .ok (.getfield 84, 3) := by decide +kernel
theorem d_Mo_corner_7 : decode b_Mo_corner 7 = .ok (.iconst 1, 1) := by decide +kernel
theorem d_Mo_corner_8 : decode b_Mo_corner 8 = .ok (.isub, 1) := by decide +kernel
theorem d_Mo_corner_9 : decode b_Mo_corner 9 = .ok (.invokestatic 152, 3) := by decide +kernel
theorem d_Mo_corner_12 : decode b_Mo_corner 12 = .ok (.ifCond .eq 25, 3) := by decide +kernel
theorem d_Mo_corner_15 : decode b_Mo_corner 15 = .ok (.iload_n 2, 1) := by decide +kernel
theorem d_Mo_corner_16 : decode b_Mo_corner 16 = .ok (.iconst 0, 1) := by decide +kernel
theorem d_Mo_corner_17 : decode b_Mo_corner 17 = .ok (.iconst 3, 1) := by decide +kernel
theorem d_Mo_corner_18 : decode b_Mo_corner 18 = .ok (.invokestatic 152, 3) := by decide +kernel
theorem d_Mo_corner_21 : decode b_Mo_corner 21 = .ok (.ifCond .eq 16, 3) := by decide +kernel
theorem d_Mo_corner_24 : decode b_Mo_corner 24 = .ok (.iload_n 3, 1) := by decide +kernel
theorem d_Mo_corner_25 : decode b_Mo_corner 25 = .ok (.iconst 0, 1) := by decide +kernel
theorem d_Mo_corner_26 : decode b_Mo_corner 26 = .ok (.iconst 1, 1) := by decide +kernel
theorem d_Mo_corner_27 : decode b_Mo_corner 27 = .ok (.invokestatic 152, 3) := by decide +kernel
theorem d_Mo_corner_30 : decode b_Mo_corner 30 = .ok (.ifCond .eq 7, 3) := by decide +kernel
theorem d_Mo_corner_33 : decode b_Mo_corner 33 = .ok (.iconst 0, 1) := by decide +kernel
theorem d_Mo_corner_34 : decode b_Mo_corner 34 = .ok (.goto 4, 3) := by decide +kernel
theorem d_Mo_corner_37 : decode b_Mo_corner 37 = .ok (.iconst 1, 1) := by decide +kernel
theorem d_Mo_corner_38 : decode b_Mo_corner 38 = .ok (.putfield 87, 3) := by decide +kernel
theorem d_Mo_corner_41 : decode b_Mo_corner 41 = .ok (.aload_n 0, 1) := by decide +kernel
theorem d_Mo_corner_42 : decode b_Mo_corner 42 = .ok (.getfield 87, 3) := by decide +kernel
theorem d_Mo_corner_45 : decode b_Mo_corner 45 = .ok (.ifCond .le 5, 3) := by decide +kernel
theorem d_Mo_corner_48 : decode b_Mo_corner 48 = .ok (.iconst 0, 1) := by decide +kernel
theorem d_Mo_corner_49 : decode b_Mo_corner 49 = .ok (.ireturn, 1) := by decide +kernel
theorem d_Mo_corner_50 : decode b_Mo_corner 50 = .ok (.iload_n 2, 1) := by decide +kernel
theorem d_Mo_corner_51 : decode b_Mo_corner 51 = .ok (.iconst 2, 1) := by decide +kernel
theorem d_Mo_corner_52 : decode b_Mo_corner 52 = .ok (.if_icmp .ge 12, 3) := by decide +kernel
theorem d_Mo_corner_55 : decode b_Mo_corner 55 = .ok (.aload_n 0, 1) := by decide +kernel
theorem d_Mo_corner_56 : decode b_Mo_corner 56 = .ok (.getfield 19, 3) := by decide +kernel
theorem d_Mo_corner_59 : decode b_Mo_corner 59 = .ok (.iload_n 1, 1) := by decide +kernel
theorem d_Mo_corner_60 : decode b_Mo_corner 60 = .ok (.iaload, 1) := by decide +kernel
theorem d_Mo_corner_61 : decode b_Mo_corner 61 = .ok (.goto 10, 3) := by decide +kernel
theorem d_Mo_corner_64 : decode b_Mo_corner 64 = .ok (.aload_n 0, 1) := by decide +kernel
theorem d_Mo_corner_65 : decode b_Mo_corner 65 = .ok (.getfield 22, 3) := by decide +kernel
theorem d_Mo_corner_68 : decode b_Mo_corner 68 = .ok (.iload_n 1, 1) := by decide +kernel
theorem d_Mo_corner_69 : decode b_Mo_corner 69 = .ok (.iaload, 1) := by decide +kernel
theorem d_Mo_corner_70 : decode b_Mo_corner 70 = .ok (.ineg, 1) := by decide +kernel
theorem d_Mo_corner_71 : decode b_Mo_corner 71 = .ok (.istore 4, 2) := by decide +kernel
theorem d_Mo_corner_73 : decode b_Mo_corner 73 = .ok (.iload_n 2, 1) := by decide +kernel
theorem d_Mo_corner_74 : decode b_Mo_corner 74 = .ok (.ifCond .eq 8, 3) := by decide +kernel
theorem d_Mo_corner_77 : decode b_Mo_corner 77 = .ok (.iload_n 2, 1) := by decide +kernel
theorem d_Mo_corner_78 : decode b_Mo_corner 78 = .ok (.iconst 3, 1) := by decide +kernel
theorem d_Mo_corner_79 : decode b_Mo_corner 79 = .ok (.if_icmp .ne 12, 3) := by decide +kernel
theorem d_Mo_corner_82 : decode b_Mo_corner 82 = .ok (.aload_n 0, 1) := by decide +kernel
theorem d_Mo_corner_83 : decode b_Mo_corner 83 = .ok (.getfield 25, 3) := by decide +kernel
theorem d_Mo_corner_86 : decode b_Mo_corner 86 = .ok (.iload_n 1, 1) := by decide +kernel
theorem d_Mo_corner_87 : decode b_Mo_corner 87 = .ok (.iaload, 1) := by decide +kernel
theorem d_Mo_corner_88 : decode b_Mo_corner 88 = .ok (.goto 10, 3) := by decide +kernel
theorem d_Mo_corner_91 : decode b_Mo_corner 91 = .ok (.aload_n 0, 1) := by decide +kernel
theorem d_Mo_corner_92 : decode b_Mo_corner 92 = .ok (.getfield 25, 3) := by decide +kernel
theorem d_Mo_corner_95 : decode b_Mo_corner 95 = .ok (.iload_n 1, 1) := by decide +kernel
theorem d_Mo_corner_96 : decode b_Mo_corner 96 = .ok (.iaload, 1) := by decide +kernel
theorem d_Mo_corner_97 : decode b_Mo_corner 97 = .ok (.ineg, 1) := by decide +kernel
theorem d_Mo_corner_98 : decode b_Mo_corner 98 = .ok (.istore 5, 2) := by decide +kernel
theorem d_Mo_corner_100 : decode b_Mo_corner 100 = .ok (.aload_n 0, 1) := by decide +kernel
theorem d_Mo_corner_101 : decode b_Mo_corner 101 = .ok (.aload_n 0, 1) := by decide +kernel
theorem d_Mo_corner_102 : decode b_Mo_corner 102 = .ok (.getfield 57, 3) := by decide +kernel
theorem d_Mo_corner_105 : decode b_Mo_corner 105 = .ok (.iload_n 1, 1) := by decide +kernel
theorem d_Mo_corner_106 : decode b_Mo_corner 106 = .ok (.iaload, 1) := by decide +kernel
theorem d_Mo_corner_107 : decode b_Mo_corner 107 = .ok (.invokevirtual 90, 3) := by decide +kernel
theorem d_Mo_corner_110 : decode b_Mo_corner 110 = .ok (.istore 6, 2) := by decide +kernel
theorem d_Mo_corner_112 : decode b_Mo_corner 112 = .ok (.aload_n 0, 1) := by decide +kernel
theorem d_Mo_corner_113 : decode b_Mo_corner 113 = .ok (.aload_n 0, 1) := by decide +kernel
theorem d_Mo_corner_114 : decode b_Mo_corner 114 = .ok (.getfield 57, 3) := by decide +kernel
theorem d_Mo_corner_117 : decode b_Mo_corner 117 = .ok (.iload_n 1, 1) := by decide +kernel
theorem d_Mo_corner_118 : decode b_Mo_corner 118 = .ok (.iaload, 1) := by decide +kernel
theorem d_Mo_corner_119 : decode b_Mo_corner 119 = .ok (.invokevirtual 97, 3) := by decide +kernel
theorem d_Mo_corner_122 : decode b_Mo_corner 122 = .ok (.istore 7, 2) := by decide +kernel
theorem d_Mo_corner_124 : decode b_Mo_corner 124 = .ok (.iload_n 3, 1) := by decide +kernel
theorem d_Mo_corner_125 : decode b_Mo_corner 125 = .ok (.ifCond .ne 24, 3) := by decide +kernel
theorem d_Mo_corner_128 : decode b_Mo_corner 128 = .ok (.aload_n 0, 1) := by decide +kernel
theorem d_Mo_corner_129 : decode b_Mo_corner 129 = .ok (.getfield 51, 3) := by decide +kernel
theorem d_Mo_corner_132 : decode b_Mo_corner 132 = .ok (.iload_n 1, 1) := by decide +kernel
theorem d_Mo_corner_133 : decode b_Mo_corner 133 = .ok (.iaload, 1) := by decide +kernel
theorem d_Mo_corner_134 : decode b_Mo_corner 134 = .ok (.iload 4, 2) := by decide +kernel
theorem d_Mo_corner_136 : decode b_Mo_corner 136 = .ok (.iload 6, 2) := by decide +kernel
theorem d_Mo_corner_138 : decode b_Mo_corner 138 = .ok (.imul, 1) := by decide +kernel
theorem d_Mo_corner_139 : decode b_Mo_corner 139 = .ok (.iadd, 1) := by decide +kernel
theorem d_Mo_corner_140 : decode b_Mo_corner 140 = .ok (.iload 5, 2) := by decide +kernel
theorem d_Mo_corner_142 : decode b_Mo_corner 142 = .ok (.iload 7, 2) := by decide +kernel
theorem d_Mo_corner_144 : decode b_Mo_corner 144 = .ok (.imul, 1) := by decide +kernel
theorem d_Mo_corner_145 : decode b_Mo_corner 145 = .ok (.isub, 1) := by decide +kernel
theorem d_Mo_corner_146 : decode b_Mo_corner 146 = .ok (.goto 21, 3) := by decide +kernel
theorem d_Mo_corner_149 : decode b_Mo_corner 149 = .ok (.aload_n 0, 1) := by decide +kernel
theorem d_Mo_corner_150 : decode b_Mo_corner 150 = .ok (.getfield 54, 3) := by decide +kernel
theorem d_Mo_corner_153 : decode b_Mo_corner 153 = .ok (.iload_n 1, 1) := by decide +kernel
theorem d_Mo_corner_154 : decode b_Mo_corner 154 = .ok (.iaload, 1) := by decide +kernel
theorem d_Mo_corner_155 : decode b_Mo_corner 155 = .ok (.iload 4, 2) := by decide +kernel
theorem d_Mo_corner_157 : decode b_Mo_corner 157 = .ok (.iload 7, 2) := by decide +kernel
theorem d_Mo_corner_159 : decode b_Mo_corner 159 = .ok (.imul, 1) := by decide +kernel
theorem d_Mo_corner_160 : decode b_Mo_corner 160 = .ok (.iadd, 1) := by decide +kernel
theorem d_Mo_corner_161 : decode b_Mo_corner 161 = .ok (.iload 5, 2) := by decide +kernel
theorem d_Mo_corner_163 : decode b_Mo_corner 163 = .ok (.iload 6, 2) := by decide +kernel
theorem d_Mo_corner_165 : decode b_Mo_corner 165 = .ok (.imul, 1) := by decide +kernel
theorem d_Mo_corner_166 : decode b_Mo_corner 166 = .ok (.iadd, 1) := by decide +kernel
theorem d_Mo_corner_167 : decode b_Mo_corner 167 = .ok (.ireturn, 1) := by decide +kernel
theorem d_Mo_swept_0 : decode b_Mo_swept 0 = .ok (.aload_n 0, 1) := by decide +kernel
theorem d_Mo_swept_1 : decode b_Mo_swept 1 = .ok (.iconst 0, 1) := by decide +kernel
theorem d_Mo_swept_2 : decode b_Mo_swept 2 = .ok (.putfield 87, 3) := by decide +kernel
theorem d_Mo_swept_5 : decode b_Mo_swept 5 = .ok (.aload_n 0, 1) := by decide +kernel
theorem d_Mo_swept_6 : decode b_Mo_swept 6 = .ok (.getfield 116, 3) := by decide +kernel
theorem d_Mo_swept_9 : decode b_Mo_swept 9 = .ok (.ireturn, 1) := by decide +kernel
theorem d_Mo_cell_0 : decode b_Mo_cell 0 = .ok (.aload_n 0, 1) := by decide +kernel
theorem d_Mo_cell_1 : decode b_Mo_cell 1 = .ok (.iload_n 1, 1) := by decide +kernel
theorem d_Mo_cell_2 : decode b_Mo_cell 2 = .ok (.bipush (-32), 2) := by decide +kernel
theorem d_Mo_cell_4 : decode b_Mo_cell 4 = .ok (.bipush 31, 2) := by decide +kernel
theorem d_Mo_cell_6 : decode b_Mo_cell 6 = .ok (.invokestatic 152, 3) := by decide +kernel
theorem d_Mo_cell_9 : decode b_Mo_cell 9 = .ok (.ifCond .eq 18, 3) := by decide +kernel
theorem d_Mo_cell_12 : decode b_Mo_cell 12 = .ok (.iload_n 2, 1) := by decide +kernel
theorem d_Mo_cell_13 : decode b_Mo_cell 13 = .ok (.bipush (-32), 2) := by decide +kernel
theorem d_Mo_cell_15 : decode b_Mo_cell 15 = .ok (.bipush 31, 2) := by decide +kernel
theorem d_Mo_cell_17 : decode b_Mo_cell 17 = .ok (.invokestatic 152, 3) := by decide +kernel
theorem d_Mo_cell_20 : decode b_Mo_cell 20 = .ok (.ifCond .eq 7, 3) := by decide +kernel
theorem d_Mo_cell_23 : decode b_Mo_cell 23 = .ok (.iconst 0, 1) := by decide +kernel
theorem d_Mo_cell_24 : decode b_Mo_cell 24 = .ok (.goto 4, 3) := by decide +kernel
theorem d_Mo_cell_27 : decode b_Mo_cell 27 = .ok (.iconst 1, 1) := by decide +kernel
theorem d_Mo_cell_28 : decode b_Mo_cell 28 = .ok (.putfield 87, 3) := by decide +kernel
theorem d_Mo_cell_31 : decode b_Mo_cell 31 = .ok (.aload_n 0, 1) := by decide +kernel
theorem d_Mo_cell_32 : decode b_Mo_cell 32 = .ok (.getfield 87, 3) := by decide +kernel
theorem d_Mo_cell_35 : decode b_Mo_cell 35 = .ok (.ifCond .ne 27, 3) := by decide +kernel
theorem d_Mo_cell_38 : decode b_Mo_cell 38 = .ok (.aload_n 0, 1) := by decide +kernel
theorem d_Mo_cell_39 : decode b_Mo_cell 39 = .ok (.getfield 75, 3) := by decide +kernel
theorem d_Mo_cell_42 : decode b_Mo_cell 42 = .ok (.bipush 64, 2) := by decide +kernel
theorem d_Mo_cell_44 : decode b_Mo_cell 44 = .ok (.iload_n 1, 1) := by decide +kernel
theorem d_Mo_cell_45 : decode b_Mo_cell 45 = .ok (.bipush 32, 2) := by decide +kernel
end
section
theorem d_Mo_cell_47 : decode b_Mo_cell 47 = .ok (.iadd, 1) := by decide +kernel
theorem d_Mo_cell_48 : decode b_Mo_cell 48 = .ok (.imul, 1) := by decide +kernel
theorem d_Mo_cell_49 : decode b_Mo_cell 49 = .ok (.iload_n 2, 1) := by decide +kernel
theorem d_Mo_cell_50 : decode b_Mo_cell 50 = .ok (.iadd, 1) := by decide +kernel
theorem d_Mo_cell_51 : decode b_Mo_cell 51 = .ok (.bipush 32, 2) := by decide +kernel
theorem d_Mo_cell_53 : decode b_Mo_cell 53 = .ok (.iadd, 1) := by decide +kernel
theorem d_Mo_cell_54 : decode b_Mo_cell 54 = .ok (.baload, 1) := by decide +kernel
theorem d_Mo_cell_55 : decode b_Mo_cell 55 = .ok (.ifCond .eq 7, 3) := by decide +kernel
theorem d_Mo_cell_58 : decode b_Mo_cell 58 = .ok (.iconst 1, 1) := by decide +kernel
theorem d_Mo_cell_59 : decode b_Mo_cell 59 = .ok (.goto 4, 3) := by decide +kernel
theorem d_Mo_cell_62 : decode b_Mo_cell 62 = .ok (.iconst 0, 1) := by decide +kernel
theorem d_Mo_cell_63 : decode b_Mo_cell 63 = .ok (.ireturn, 1) := by decide +kernel
theorem d_Mo_clash_0 : decode b_Mo_clash 0 = .ok (.aload_n 0, 1) := by decide +kernel
theorem d_Mo_clash_1 : decode b_Mo_clash 1 = .ok (.iload_n 1, 1) := by decide +kernel
theorem d_Mo_clash_2 : decode b_Mo_clash 2 = .ok (.iconst 0, 1) := by decide +kernel
theorem d_Mo_clash_3 : decode b_Mo_clash 3 = .ok (.iconst 2, 1) := by decide +kernel
theorem d_Mo_clash_4 : decode b_Mo_clash 4 = .ok (.invokestatic 152, 3) := by decide +kernel
theorem d_Mo_clash_7 : decode b_Mo_clash 7 = .ok (.ifCond .eq 7, 3) := by decide +kernel
theorem d_Mo_clash_10 : decode b_Mo_clash 10 = .ok (.iconst 0, 1) := by decide +kernel
theorem d_Mo_clash_11 : decode b_Mo_clash 11 = .ok (.goto 4, 3) := by decide +kernel
theorem d_Mo_clash_14 : decode b_Mo_clash 14 = .ok (.iconst 1, 1) := by decide +kernel
theorem d_Mo_clash_15 : decode b_Mo_clash 15 = .ok (.putfield 87, 3) := by decide +kernel
theorem d_Mo_clash_18 : decode b_Mo_clash 18 = .ok (.aload_n 0, 1) := by decide +kernel
theorem d_Mo_clash_19 : decode b_Mo_clash 19 = .ok (.getfield 87, 3) := by decide +kernel
theorem d_Mo_clash_22 : decode b_Mo_clash 22 = .ok (.ifCond .le 5, 3) := by decide +kernel
theorem d_Mo_clash_25 : decode b_Mo_clash 25 = .ok (.iconst 0, 1) := by decide +kernel
theorem d_Mo_clash_26 : decode b_Mo_clash 26 = .ok (.ireturn, 1) := by decide +kernel
theorem d_Mo_clash_27 : decode b_Mo_clash 27 = .ok (.iload_n 1, 1) := by decide +kernel
theorem d_Mo_clash_28 : decode b_Mo_clash 28 = .ok (.ifCond .ne 10, 3) := by decide +kernel
theorem d_Mo_clash_31 : decode b_Mo_clash 31 = .ok (.aload_n 0, 1) := by decide +kernel
theorem d_Mo_clash_32 : decode b_Mo_clash 32 = .ok (.getfield 66, 3) := by decide +kernel
theorem d_Mo_clash_35 : decode b_Mo_clash 35 = .ok (.goto 19, 3) := by decide +kernel
theorem d_Mo_clash_38 : decode b_Mo_clash 38 = .ok (.iload_n 1, 1) := by decide +kernel
theorem d_Mo_clash_39 : decode b_Mo_clash 39 = .ok (.iconst 1, 1) := by decide +kernel
theorem d_Mo_clash_40 : decode b_Mo_clash 40 = .ok (.if_icmp .ne 10, 3) := by decide +kernel
theorem d_Mo_clash_43 : decode b_Mo_clash 43 = .ok (.aload_n 0, 1) := by decide +kernel
theorem d_Mo_clash_44 : decode b_Mo_clash 44 = .ok (.getfield 69, 3) := by decide +kernel
theorem d_Mo_clash_47 : decode b_Mo_clash 47 = .ok (.goto 7, 3) := by decide +kernel
theorem d_Mo_clash_50 : decode b_Mo_clash 50 = .ok (.aload_n 0, 1) := by decide +kernel
theorem d_Mo_clash_51 : decode b_Mo_clash 51 = .ok (.getfield 72, 3) := by decide +kernel
theorem d_Mo_clash_54 : decode b_Mo_clash 54 = .ok (.ireturn, 1) := by decide +kernel
theorem d_Mo_isStuck_0 : decode b_Mo_isStuck 0 = .ok (.aload_n 0, 1) := by decide +kernel
theorem d_Mo_isStuck_1 : decode b_Mo_isStuck 1 = .ok (.iconst 0, 1) := by decide +kernel
theorem d_Mo_isStuck_2 : decode b_Mo_isStuck 2 = .ok (.putfield 87, 3) := by decide +kernel
theorem d_Mo_isStuck_5 : decode b_Mo_isStuck 5 = .ok (.aload_n 0, 1) := by decide +kernel
theorem d_Mo_isStuck_6 : decode b_Mo_isStuck 6 = .ok (.getfield 125, 3) := by decide +kernel
theorem d_Mo_isStuck_9 : decode b_Mo_isStuck 9 = .ok (.ireturn, 1) := by decide +kernel
theorem d_Mo_part_0 : decode b_Mo_part 0 = .ok (.aload_n 0, 1) := by decide +kernel
theorem d_Mo_part_1 : decode b_Mo_part 1 = .ok (.iload_n 1, 1) := by decide +kernel
theorem d_Mo_part_2 : decode b_Mo_part 2 = .ok (.iconst 0, 1) := by decide +kernel
theorem d_Mo_part_3 : decode b_Mo_part 3 = .ok (.iconst 3, 1) := by decide +kernel
theorem d_Mo_part_4 : decode b_Mo_part 4 = .ok (.invokestatic 152, 3) := by decide +kernel
theorem d_Mo_part_7 : decode b_Mo_part 7 = .ok (.ifCond .eq 23, 3) := by decide +kernel
theorem d_Mo_part_10 : decode b_Mo_part 10 = .ok (.iload_n 2, 1) := by decide +kernel
theorem d_Mo_part_11 : decode b_Mo_part 11 = .ok (.bipush (-3), 2) := by decide +kernel
theorem d_Mo_part_13 : decode b_Mo_part 13 = .ok (.iconst 3, 1) := by decide +kernel
theorem d_Mo_part_14 : decode b_Mo_part 14 = .ok (.invokestatic 152, 3) := by decide +kernel
theorem d_Mo_part_17 : decode b_Mo_part 17 = .ok (.ifCond .eq 13, 3) := by decide +kernel
theorem d_Mo_part_20 : decode b_Mo_part 20 = .ok (.iload_n 3, 1) := by decide +kernel
theorem d_Mo_part_21 : decode b_Mo_part 21 = .ok (.iconst 1, 1) := by decide +kernel
theorem d_Mo_part_22 : decode b_Mo_part 22 = .ok (.bipush 60, 2) := by decide +kernel
theorem d_Mo_part_24 : decode b_Mo_part 24 = .ok (.invokestatic 152, 3) := by decide +kernel
theorem d_Mo_part_27 : decode b_Mo_part 27 = .ok (.ifCond .ne 7, 3) := by decide +kernel
theorem d_Mo_part_30 : decode b_Mo_part 30 = .ok (.iconst 1, 1) := by decide +kernel
theorem d_Mo_part_31 : decode b_Mo_part 31 = .ok (.goto 19, 3) := by decide +kernel
theorem d_Mo_part_34 : decode b_Mo_part 34 = .ok (.aload_n 0, 1) := by decide +kernel
theorem d_Mo_part_35 : decode b_Mo_part 35 = .ok (.getfield 38, 3) := by decide +kernel
theorem d_Mo_part_38 : decode b_Mo_part 38 = .ok (.iload_n 1, 1) := by decide +kernel
theorem d_Mo_part_39 : decode b_Mo_part 39 = .ok (.iaload, 1) := by decide +kernel
theorem d_Mo_part_40 : decode b_Mo_part 40 = .ok (.bipush 6, 2) := by decide +kernel
theorem d_Mo_part_42 : decode b_Mo_part 42 = .ok (.if_icmp .ne 7, 3) := by decide +kernel
theorem d_Mo_part_45 : decode b_Mo_part 45 = .ok (.iconst 2, 1) := by decide +kernel
theorem d_Mo_part_46 : decode b_Mo_part 46 = .ok (.goto 4, 3) := by decide +kernel
theorem d_Mo_part_49 : decode b_Mo_part 49 = .ok (.iconst 0, 1) := by decide +kernel
theorem d_Mo_part_50 : decode b_Mo_part 50 = .ok (.putfield 87, 3) := by decide +kernel
theorem d_Mo_part_53 : decode b_Mo_part 53 = .ok (.aload_n 0, 1) := by decide +kernel
theorem d_Mo_part_54 : decode b_Mo_part 54 = .ok (.getfield 87, 3) := by decide +kernel
theorem d_Mo_part_57 : decode b_Mo_part 57 = .ok (.ifCond .le 5, 3) := by decide +kernel
theorem d_Mo_part_60 : decode b_Mo_part 60 = .ok (.iconst 0, 1) := by decide +kernel
theorem d_Mo_part_61 : decode b_Mo_part 61 = .ok (.ireturn, 1) := by decide +kernel
theorem d_Mo_part_62 : decode b_Mo_part 62 = .ok (.bipush 6, 2) := by decide +kernel
theorem d_Mo_part_64 : decode b_Mo_part 64 = .ok (.iload_n 1, 1) := by decide +kernel
theorem d_Mo_part_65 : decode b_Mo_part 65 = .ok (.imul, 1) := by decide +kernel
theorem d_Mo_part_66 : decode b_Mo_part 66 = .ok (.aload_n 0, 1) := by decide +kernel
theorem d_Mo_part_67 : decode b_Mo_part 67 = .ok (.getfield 38, 3) := by decide +kernel
theorem d_Mo_part_70 : decode b_Mo_part 70 = .ok (.iload_n 1, 1) := by decide +kernel
theorem d_Mo_part_71 : decode b_Mo_part 71 = .ok (.iaload, 1) := by decide +kernel
theorem d_Mo_part_72 : decode b_Mo_part 72 = .ok (.iadd, 1) := by decide +kernel
theorem d_Mo_part_73 : decode b_Mo_part 73 = .ok (.istore 5, 2) := by decide +kernel
theorem d_Mo_part_75 : decode b_Mo_part 75 = .ok (.aload_n 0, 1) := by decide +kernel
theorem d_Mo_part_76 : decode b_Mo_part 76 = .ok (.getfield 41, 3) := by decide +kernel
theorem d_Mo_part_79 : decode b_Mo_part 79 = .ok (.iload 5, 2) := by decide +kernel
theorem d_Mo_part_81 : decode b_Mo_part 81 = .ok (.iload_n 2, 1) := by decide +kernel
theorem d_Mo_part_82 : decode b_Mo_part 82 = .ok (.iastore, 1) := by decide +kernel
theorem d_Mo_part_83 : decode b_Mo_part 83 = .ok (.aload_n 0, 1) := by decide +kernel
theorem d_Mo_part_84 : decode b_Mo_part 84 = .ok (.getfield 44, 3) := by decide +kernel
theorem d_Mo_part_87 : decode b_Mo_part 87 = .ok (.iload 5, 2) := by decide +kernel
theorem d_Mo_part_89 : decode b_Mo_part 89 = .ok (.iload_n 3, 1) := by decide +kernel
theorem d_Mo_part_90 : decode b_Mo_part 90 = .ok (.iastore, 1) := by decide +kernel
theorem d_Mo_part_91 : decode b_Mo_part 91 = .ok (.aload_n 0, 1) := by decide +kernel
theorem d_Mo_part_92 : decode b_Mo_part 92 = .ok (.getfield 47, 3) := by decide +kernel
theorem d_Mo_part_95 : decode b_Mo_part 95 = .ok (.iload 5, 2) := by decide +kernel
theorem d_Mo_part_97 : decode b_Mo_part 97 = .ok (.iload 4, 2) := by decide +kernel
theorem d_Mo_part_99 : decode b_Mo_part 99 = .ok (.bastore, 1) := by decide +kernel
theorem d_Mo_part_100 : decode b_Mo_part 100 = .ok (.aload_n 0, 1) := by decide +kernel
theorem d_Mo_part_101 : decode b_Mo_part 101 = .ok (.getfield 38, 3) := by decide +kernel
theorem d_Mo_part_104 : decode b_Mo_part 104 = .ok (.iload_n 1, 1) := by decide +kernel
theorem d_Mo_part_105 : decode b_Mo_part 105 = .ok (.dup2, 1) := by decide +kernel
theorem d_Mo_part_106 : decode b_Mo_part 106 = .ok (.iaload, 1) := by decide +kernel
theorem d_Mo_part_107 : decode b_Mo_part 107 = .ok (.iconst 1, 1) := by decide +kernel
theorem d_Mo_part_108 : decode b_Mo_part 108 = .ok (.iadd, 1) := by decide +kernel
theorem d_Mo_part_109 : decode b_Mo_part 109 = .ok (.iastore, 1) := by decide +kernel
theorem d_Mo_part_110 : decode b_Mo_part 110 = .ok (.aload_n 0, 1) := by decide +kernel
theorem d_Mo_part_111 : decode b_Mo_part 111 = .ok (.getfield 38, 3) := by decide +kernel
theorem d_Mo_part_114 : decode b_Mo_part 114 = .ok (.iload_n 1, 1) := by decide +kernel
theorem d_Mo_part_115 : decode b_Mo_part 115 = .ok (.iaload, 1) := by decide +kernel
theorem d_Mo_part_116 : decode b_Mo_part 116 = .ok (.ireturn, 1) := by decide +kernel
theorem d_Mo_clear_0 : decode b_Mo_clear 0 = .ok (.aload_n 0, 1) := by decide +kernel
theorem d_Mo_clear_1 : decode b_Mo_clear 1 = .ok (.iload_n 1, 1) := by decide +kernel
theorem d_Mo_clear_2 : decode b_Mo_clear 2 = .ok (.iconst 0, 1) := by decide +kernel
theorem d_Mo_clear_3 : decode b_Mo_clear 3 = .ok (.iconst 3, 1) := by decide +kernel
theorem d_Mo_clear_4 : decode b_Mo_clear 4 = .ok (.invokestatic 152, 3) := by decide +kernel
theorem d_Mo_clear_7 : decode b_Mo_clear 7 = .ok (.ifCond .eq 7, 3) := by decide +kernel
theorem d_Mo_clear_10 : decode b_Mo_clear 10 = .ok (.iconst 0, 1) := by decide +kernel
theorem d_Mo_clear_11 : decode b_Mo_clear 11 = .ok (.goto 4, 3) := by decide +kernel
theorem d_Mo_clear_14 : decode b_Mo_clear 14 = .ok (.iconst 1, 1) := by decide +kernel
theorem d_Mo_clear_15 : decode b_Mo_clear 15 = .ok (.putfield 87, 3) := by decide +kernel
theorem d_Mo_clear_18 : decode b_Mo_clear 18 = .ok (.aload_n 0, 1) := by decide +kernel
theorem d_Mo_clear_19 : decode b_Mo_clear 19 = .ok (.getfield 87, 3) := by decide +kernel
theorem d_Mo_clear_22 : decode b_Mo_clear 22 = .ok (.ifCond .le 5, 3) := by decide +kernel
theorem d_Mo_clear_25 : decode b_Mo_clear 25 = .ok (.iconst 0, 1) := by decide +kernel
theorem d_Mo_clear_26 : decode b_Mo_clear 26 = .ok (.ireturn, 1) := by decide +kernel
theorem d_Mo_clear_27 : decode b_Mo_clear 27 = .ok (.aload_n 0, 1) := by decide +kernel
theorem d_Mo_clear_28 : decode b_Mo_clear 28 = .ok (.getfield 38, 3) := by decide +kernel
theorem d_Mo_clear_31 : decode b_Mo_clear 31 = .ok (.iload_n 1, 1) := by decide +kernel
theorem d_Mo_clear_32 : decode b_Mo_clear 32 = .ok (.iaload, 1) := by decide +kernel
theorem d_Mo_clear_33 : decode b_Mo_clear 33 = .ok (.istore_n 2, 1) := by decide +kernel
theorem d_Mo_clear_34 : decode b_Mo_clear 34 = .ok (.aload_n 0, 1) := by decide +kernel
theorem d_Mo_clear_35 : decode b_Mo_clear 35 = .ok (.getfield 38, 3) := by decide +kernel
theorem d_Mo_clear_38 : decode b_Mo_clear 38 = .ok (.iload_n 1, 1) := by decide +kernel
theorem d_Mo_clear_39 : decode b_Mo_clear 39 = .ok (.iconst 0, 1) := by decide +kernel
theorem d_Mo_clear_40 : decode b_Mo_clear 40 = .ok (.iastore, 1) := by decide +kernel
theorem d_Mo_clear_41 : decode b_Mo_clear 41 = .ok (.iload_n 2, 1) := by decide +kernel
theorem d_Mo_clear_42 : decode b_Mo_clear 42 = .ok (.ireturn, 1) := by decide +kernel
theorem d_Mo_keepAside_0 : decode b_Mo_keepAside 0 = .ok (.iconst 0, 1) := by decide +kernel
theorem d_Mo_keepAside_1 : decode b_Mo_keepAside 1 = .ok (.istore_n 1, 1) := by decide +kernel
theorem d_Mo_keepAside_2 : decode b_Mo_keepAside 2 = .ok (.iload_n 1, 1) := by decide +kernel
theorem d_Mo_keepAside_3 : decode b_Mo_keepAside 3 = .ok (.iconst 3, 1) := by decide +kernel
theorem d_Mo_keepAside_4 : decode b_Mo_keepAside 4 = .ok (.if_icmp .ge 80, 3) := by decide +kernel
theorem d_Mo_keepAside_7 : decode b_Mo_keepAside 7 = .ok (.aload_n 0, 1) := by decide +kernel
theorem d_Mo_keepAside_8 : decode b_Mo_keepAside 8 = .ok (.getfield 78, 3) := by decide +kernel
theorem d_Mo_keepAside_11 : decode b_Mo_keepAside 11 = .ok (.iload_n 1, 1) := by decide +kernel
theorem d_Mo_keepAside_12 : decode b_Mo_keepAside 12 = .ok (.aload_n 0, 1) := by decide +kernel
theorem d_Mo_keepAside_13 : decode b_Mo_keepAside 13 = .ok (.getfield 51, 3) := by decide +kernel
theorem d_Mo_keepAside_16 : decode b_Mo_keepAside 16 = .ok (.iload_n 1, 1) := by decide +kernel
theorem d_Mo_keepAside_17 : decode b_Mo_keepAside 17 = .ok (.iaload, 1) := by decide +kernel
theorem d_Mo_keepAside_18 : decode b_Mo_keepAside 18 = .ok (.iastore, 1) := by decide +kernel
theorem d_Mo_keepAside_19 : decode b_Mo_keepAside 19 = .ok (.aload_n 0, 1) := by decide +kernel
theorem d_Mo_keepAside_20 : decode b_Mo_keepAside 20 = .ok (.getfield 78, 3) := by decide +kernel
theorem d_Mo_keepAside_23 : decode b_Mo_keepAside 23 = .ok (.iconst 3, 1) := by decide +kernel
theorem d_Mo_keepAside_24 : decode b_Mo_keepAside 24 = .ok (.iload_n 1, 1) := by decide +kernel
theorem d_Mo_keepAside_25 : decode b_Mo_keepAside 25 = .ok (.iadd, 1) := by decide +kernel
theorem d_Mo_keepAside_26 : decode b_Mo_keepAside 26 = .ok (.aload_n 0, 1) := by decide +kernel
theorem d_Mo_keepAside_27 : decode b_Mo_keepAside 27 = .ok (.getfield 54, 3) := by decide +kernel
theorem d_Mo_keepAside_30 : decode b_Mo_keepAside 30 = .ok (.iload_n 1, 1) := by decide +kernel
theorem d_Mo_keepAside_31 : decode b_Mo_keepAside 31 = .ok (.iaload, 1) := by decide +kernel
theorem d_Mo_keepAside_32 : decode b_Mo_keepAside 32 = .ok (.iastore, 1) := by decide +kernel
theorem d_Mo_keepAside_33 : decode b_Mo_keepAside 33 = .ok (.aload_n 0, 1) := by decide +kernel
theorem d_Mo_keepAside_34 : decode b_Mo_keepAside 34 = .ok (.getfield 78, 3) := by decide +kernel
theorem d_Mo_keepAside_37 : decode b_Mo_keepAside 37 = .ok (.bipush 6, 2) := by decide +kernel
theorem d_Mo_keepAside_39 : decode b_Mo_keepAside 39 = .ok (.iload_n 1, 1) := by decide +kernel
theorem d_Mo_keepAside_40 : decode b_Mo_keepAside 40 = .ok (.iadd, 1) := by decide +kernel
theorem d_Mo_keepAside_41 : decode b_Mo_keepAside 41 = .ok (.aload_n 0, 1) := by decide +kernel
theorem d_Mo_keepAside_42 : decode b_Mo_keepAside 42 = .ok (.getfield 57, 3) := by decide +kernel
theorem d_Mo_keepAside_45 : decode b_Mo_keepAside 45 = .ok (.iload_n 1, 1) := by decide +kernel
theorem d_Mo_keepAside_46 : decode b_Mo_keepAside 46 = .ok (.iaload, 1) := by decide +kernel
theorem d_Mo_keepAside_47 : decode b_Mo_keepAside 47 = .ok (.iastore, 1) := by decide +kernel
theorem d_Mo_keepAside_48 : decode b_Mo_keepAside 48 = .ok (.aload_n 0, 1) := by decide +kernel
theorem d_Mo_keepAside_49 : decode b_Mo_keepAside 49 = .ok (.getfield 78, 3) := by decide +kernel
theorem d_Mo_keepAside_52 : decode b_Mo_keepAside 52 = .ok (.bipush 9, 2) := by decide +kernel
theorem d_Mo_keepAside_54 : decode b_Mo_keepAside 54 = .ok (.iload_n 1, 1) := by decide +kernel
theorem d_Mo_keepAside_55 : decode b_Mo_keepAside 55 = .ok (.iadd, 1) := by decide +kernel
theorem d_Mo_keepAside_56 : decode b_Mo_keepAside 56 = .ok (.aload_n 0, 1) := by decide +kernel
theorem d_Mo_keepAside_57 : decode b_Mo_keepAside 57 = .ok (.getfield 60, 3) := by decide +kernel
theorem d_Mo_keepAside_60 : decode b_Mo_keepAside 60 = .ok (.iload_n 1, 1) := by decide +kernel
theorem d_Mo_keepAside_61 : decode b_Mo_keepAside 61 = .ok (.iaload, 1) := by decide +kernel
theorem d_Mo_keepAside_62 : decode b_Mo_keepAside 62 = .ok (.iastore, 1) := by decide +kernel
theorem d_Mo_keepAside_63 : decode b_Mo_keepAside 63 = .ok (.aload_n 0, 1) := by decide +kernel
theorem d_Mo_keepAside_64 : decode b_Mo_keepAside 64 = .ok (.getfield 78, 3) := by decide +kernel
theorem d_Mo_keepAside_67 : decode b_Mo_keepAside 67 = .ok (.bipush 12, 2) := by decide +kernel
theorem d_Mo_keepAside_69 : decode b_Mo_keepAside 69 = .ok (.iload_n 1, 1) := by decide +kernel
theorem d_Mo_keepAside_70 : decode b_Mo_keepAside 70 = .ok (.iadd, 1) := by decide +kernel
theorem d_Mo_keepAside_71 : decode b_Mo_keepAside 71 = .ok (.aload_n 0, 1) := by decide +kernel
theorem d_Mo_keepAside_72 : decode b_Mo_keepAside 72 = .ok (.getfield 63, 3) := by decide +kernel
theorem d_Mo_keepAside_75 : decode b_Mo_keepAside 75 = .ok (.iload_n 1, 1) := by decide +kernel
theorem d_Mo_keepAside_76 : decode b_Mo_keepAside 76 = .ok (.iaload, 1) := by decide +kernel
theorem d_Mo_keepAside_77 : decode b_Mo_keepAside 77 = .ok (.iastore, 1) := by decide +kernel
theorem d_Mo_keepAside_78 : decode b_Mo_keepAside 78 = .ok (.iinc 1 1, 3) := by decide +kernel
theorem d_Mo_keepAside_81 : decode b_Mo_keepAside 81 = .ok (.goto (-79), 3) := by decide +kernel
theorem d_Mo_keepAside_84 : decode b_Mo_keepAside 84 = .ok (.aload_n 0, 1) := by decide +kernel
theorem d_Mo_keepAside_85 : decode b_Mo_keepAside 85 = .ok (.getfield 78, 3) := by decide +kernel
theorem d_Mo_keepAside_88 : decode b_Mo_keepAside 88 = .ok (.bipush 15, 2) := by decide +kernel
theorem d_Mo_keepAside_90 : decode b_Mo_keepAside 90 = .ok (.aload_n 0, 1) := by decide +kernel
theorem d_Mo_keepAside_91 : decode b_Mo_keepAside 91 = .ok (.getfield 122, 3) := by decide +kernel
theorem d_Mo_keepAside_94 : decode b_Mo_keepAside 94 = .ok (.iastore, 1) := by decide +kernel
theorem d_Mo_keepAside_95 : decode b_Mo_keepAside 95 = .ok (.aload_n 0, 1) := by decide +kernel
theorem d_Mo_keepAside_96 : decode b_Mo_keepAside 96 = .ok (.getfield 78, 3) := by decide +kernel
theorem d_Mo_keepAside_99 : decode b_Mo_keepAside 99 = .ok (.bipush 16, 2) := by decide +kernel
theorem d_Mo_keepAside_101 : decode b_Mo_keepAside 101 = .ok (.aload_n 0, 1) := by decide +kernel
theorem d_Mo_keepAside_102 : decode b_Mo_keepAside 102 = .ok (.getfield 66, 3) := by decide +kernel
theorem d_Mo_keepAside_105 : decode b_Mo_keepAside 105 = .ok (.iastore, 1) := by decide +kernel
theorem d_Mo_keepAside_106 : decode b_Mo_keepAside 106 = .ok (.aload_n 0, 1) := by decide +kernel
theorem d_Mo_keepAside_107 : decode b_Mo_keepAside 107 = .ok (.getfield 78, 3) := by decide +kernel
theorem d_Mo_keepAside_110 : decode b_Mo_keepAside 110 = .ok (.bipush 17, 2) := by decide +kernel
theorem d_Mo_keepAside_112 : decode b_Mo_keepAside 112 = .ok (.aload_n 0, 1) := by decide +kernel
theorem d_Mo_keepAside_113 : decode b_Mo_keepAside 113 = .ok (.getfield 69, 3) := by decide +kernel
theorem d_Mo_keepAside_116 : decode b_Mo_keepAside 116 = .ok (.iastore, 1) := by decide +kernel
theorem d_Mo_keepAside_117 : decode b_Mo_keepAside 117 = .ok (.aload_n 0, 1) := by decide +kernel
theorem d_Mo_keepAside_118 : decode b_Mo_keepAside 118 = .ok (.getfield 78, 3) := by decide +kernel
theorem d_Mo_keepAside_121 : decode b_Mo_keepAside 121 = .ok (.bipush 18, 2) := by decide +kernel
theorem d_Mo_keepAside_123 : decode b_Mo_keepAside 123 = .ok (.aload_n 0, 1) := by decide +kernel
theorem d_Mo_keepAside_124 : decode b_Mo_keepAside 124 = .ok (.getfield 72, 3) := by decide +kernel
theorem d_Mo_keepAside_127 : decode b_Mo_keepAside 127 = .ok (.iastore, 1) := by decide +kernel
theorem d_Mo_keepAside_128 : decode b_Mo_keepAside 128 = .ok (.aload_n 0, 1) := by decide +kernel
theorem d_Mo_keepAside_129 : decode b_Mo_keepAside 129 = .ok (.getfield 78, 3) := by decide +kernel
theorem d_Mo_keepAside_132 : decode b_Mo_keepAside 132 = .ok (.bipush 19, 2) := by decide +kernel
theorem d_Mo_keepAside_134 : decode b_Mo_keepAside 134 = .ok (.aload_n 0, 1) := by decide +kernel
theorem d_Mo_keepAside_135 : decode b_Mo_keepAside 135 = .ok (.getfield 125, 3) := by decide +kernel
theorem d_Mo_keepAside_138 : decode b_Mo_keepAside 138 = .ok (.ifCond .eq 7, 3) := by decide +kernel
theorem d_Mo_keepAside_141 : decode b_Mo_keepAside 141 = .ok (.iconst 1, 1) := by decide +kernel
theorem d_Mo_keepAside_142 : decode b_Mo_keepAside 142 = .ok (.goto 4, 3) := by decide +kernel
theorem d_Mo_keepAside_145 : decode b_Mo_keepAside 145 = .ok (.iconst 0, 1) := by decide +kernel
theorem d_Mo_keepAside_146 : decode b_Mo_keepAside 146 = .ok (.iastore, 1) := by decide +kernel
theorem d_Mo_keepAside_147 : decode b_Mo_keepAside 147 = .ok (.iconst 0, 1) := by decide +kernel
theorem d_Mo_keepAside_148 : decode b_Mo_keepAside 148 = .ok (.istore_n 1, 1) := by decide +kernel
theorem d_Mo_keepAside_149 : decode b_Mo_keepAside 149 = .ok (.iload_n 1, 1) := by decide +kernel
theorem d_Mo_keepAside_150 : decode b_Mo_keepAside 150 = .ok (.sipush 4096, 3) := by decide +kernel
theorem d_Mo_keepAside_153 : decode b_Mo_keepAside 153 = .ok (.if_icmp .ge 21, 3) := by decide +kernel
theorem d_Mo_keepAside_156 : decode b_Mo_keepAside 156 = .ok (.aload_n 0, 1) := by decide +kernel
theorem d_Mo_keepAside_157 : decode b_Mo_keepAside 157 = .ok (.getfield 81, 3) := by decide +kernel
theorem d_Mo_keepAside_160 : decode b_Mo_keepAside 160 = .ok (.iload_n 1, 1) := by decide +kernel
theorem d_Mo_keepAside_161 : decode b_Mo_keepAside 161 = .ok (.aload_n 0, 1) := by decide +kernel
theorem d_Mo_keepAside_162 : decode b_Mo_keepAside 162 = .ok (.getfield 75, 3) := by decide +kernel
theorem d_Mo_keepAside_165 : decode b_Mo_keepAside 165 = .ok (.iload_n 1, 1) := by decide +kernel
theorem d_Mo_keepAside_166 : decode b_Mo_keepAside 166 = .ok (.baload, 1) := by decide +kernel
theorem d_Mo_keepAside_167 : decode b_Mo_keepAside 167 = .ok (.bastore, 1) := by decide +kernel
theorem d_Mo_keepAside_168 : decode b_Mo_keepAside 168 = .ok (.iinc 1 1, 3) := by decide +kernel
theorem d_Mo_keepAside_171 : decode b_Mo_keepAside 171 = .ok (.goto (-22), 3) := by decide +kernel
theorem d_Mo_keepAside_174 : decode b_Mo_keepAside 174 = .ok (.return_, 1) := by decide +kernel
theorem d_Mo_putBack_0 : decode b_Mo_putBack 0 = .ok (.iconst 0, 1) := by decide +kernel
theorem d_Mo_putBack_1 : decode b_Mo_putBack 1 = .ok (.istore_n 1, 1) := by decide +kernel
theorem d_Mo_putBack_2 : decode b_Mo_putBack 2 = .ok (.iload_n 1, 1) := by decide +kernel
theorem d_Mo_putBack_3 : decode b_Mo_putBack 3 = .ok (.iconst 3, 1) := by decide +kernel
theorem d_Mo_putBack_4 : decode b_Mo_putBack 4 = .ok (.if_icmp .ge 80, 3) := by decide +kernel
theorem d_Mo_putBack_7 : decode b_Mo_putBack 7 = .ok (.aload_n 0, 1) := by decide +kernel
theorem d_Mo_putBack_8 : decode b_Mo_putBack 8 = .ok (.getfield 51, 3) := by decide +kernel
theorem d_Mo_putBack_11 : decode b_Mo_putBack 11 = .ok (.iload_n 1, 1) := by decide +kernel
theorem d_Mo_putBack_12 : decode b_Mo_putBack 12 = .ok (.aload_n 0, 1) := by decide +kernel
theorem d_Mo_putBack_13 : decode b_Mo_putBack 13 = .ok (.getfield 78, 3) := by decide +kernel
theorem d_Mo_putBack_16 : decode b_Mo_putBack 16 = .ok (.iload_n 1, 1) := by decide +kernel
theorem d_Mo_putBack_17 : decode b_Mo_putBack 17 = .ok (.iaload, 1) := by decide +kernel
theorem d_Mo_putBack_18 : decode b_Mo_putBack 18 = .ok (.iastore, 1) := by decide +kernel
theorem d_Mo_putBack_19 : decode b_Mo_putBack 19 = .ok (.aload_n 0, 1) := by decide +kernel
theorem d_Mo_putBack_20 : decode b_Mo_putBack 20 = .ok (.getfield 54, 3) := by decide +kernel
theorem d_Mo_putBack_23 : decode b_Mo_putBack 23 = .ok (.iload_n 1, 1) := by decide +kernel
theorem d_Mo_putBack_24 : decode b_Mo_putBack 24 = .ok (.aload_n 0, 1) := by decide +kernel
theorem d_Mo_putBack_25 : decode b_Mo_putBack 25 = .ok (.getfield 78, 3) := by decide +kernel
theorem d_Mo_putBack_28 : decode b_Mo_putBack 28 = .ok (.iconst 3, 1) := by decide +kernel
theorem d_Mo_putBack_29 : decode b_Mo_putBack 29 = .ok (.iload_n 1, 1) := by decide +kernel
theorem d_Mo_putBack_30 : decode b_Mo_putBack 30 = .ok (.iadd, 1) := by decide +kernel
theorem d_Mo_putBack_31 : decode b_Mo_putBack 31 = .ok (.iaload, 1) := by decide +kernel
theorem d_Mo_putBack_32 : decode b_Mo_putBack 32 = .ok (.iastore, 1) := by decide +kernel
theorem d_Mo_putBack_33 : decode b_Mo_putBack 33 = .ok (.aload_n 0, 1) := by decide +kernel
theorem d_Mo_putBack_34 : decode b_Mo_putBack 34 = .ok (.getfield 57, 3) := by decide +kernel
theorem d_Mo_putBack_37 : decode b_Mo_putBack 37 = .ok (.iload_n 1, 1) := by decide +kernel
theorem d_Mo_putBack_38 : decode b_Mo_putBack 38 = .ok (.aload_n 0, 1) := by decide +kernel
theorem d_Mo_putBack_39 : decode b_Mo_putBack 39 = .ok (.getfield 78, 3) := by decide +kernel
theorem d_Mo_putBack_42 : decode b_Mo_putBack 42 = .ok (.bipush 6, 2) := by decide +kernel
theorem d_Mo_putBack_44 : decode b_Mo_putBack 44 = .ok (.iload_n 1, 1) := by decide +kernel
theorem d_Mo_putBack_45 : decode b_Mo_putBack 45 = .ok (.iadd, 1) := by decide +kernel
theorem d_Mo_putBack_46 : decode b_Mo_putBack 46 = .ok (.iaload, 1) := by decide +kernel
theorem d_Mo_putBack_47 : decode b_Mo_putBack 47 = .ok (.iastore, 1) := by decide +kernel
theorem d_Mo_putBack_48 : decode b_Mo_putBack 48 = .ok (.aload_n 0, 1) := by decide +kernel
theorem d_Mo_putBack_49 : decode b_Mo_putBack 49 = .ok (.getfield 60, 3) := by decide +kernel
theorem d_Mo_putBack_52 : decode b_Mo_putBack 52 = .ok (.iload_n 1, 1) := by decide +kernel
theorem d_Mo_putBack_53 : decode b_Mo_putBack 53 = .ok (.aload_n 0, 1) := by decide +kernel
theorem d_Mo_putBack_54 : decode b_Mo_putBack 54 = .ok (.getfield 78, 3) := by decide +kernel
theorem d_Mo_putBack_57 : decode b_Mo_putBack 57 = .ok (.bipush 9, 2) := by decide +kernel
theorem d_Mo_putBack_59 : decode b_Mo_putBack 59 = .ok (.iload_n 1, 1) := by decide +kernel
theorem d_Mo_putBack_60 : decode b_Mo_putBack 60 = .ok (.iadd, 1) := by decide +kernel
theorem d_Mo_putBack_61 : decode b_Mo_putBack 61 = .ok (.iaload, 1) := by decide +kernel
theorem d_Mo_putBack_62 : decode b_Mo_putBack 62 = .ok (.iastore, 1) := by decide +kernel
theorem d_Mo_putBack_63 : decode b_Mo_putBack 63 = .ok (.aload_n 0, 1) := by decide +kernel
theorem d_Mo_putBack_64 : decode b_Mo_putBack 64 = .ok (.getfield 63, 3) := by decide +kernel
theorem d_Mo_putBack_67 : decode b_Mo_putBack 67 = .ok (.iload_n 1, 1) := by decide +kernel
theorem d_Mo_putBack_68 : decode b_Mo_putBack 68 = .ok (.aload_n 0, 1) := by decide +kernel
theorem d_Mo_putBack_69 : decode b_Mo_putBack 69 = .ok (.getfield 78, 3) := by decide +kernel
theorem d_Mo_putBack_72 : decode b_Mo_putBack 72 = .ok (.bipush 12, 2) := by decide +kernel
theorem d_Mo_putBack_74 : decode b_Mo_putBack 74 = .ok (.iload_n 1, 1) := by decide +kernel
theorem d_Mo_putBack_75 : decode b_Mo_putBack 75 = .ok (.iadd, 1) := by decide +kernel
theorem d_Mo_putBack_76 : decode b_Mo_putBack 76 = .ok (.iaload, 1) := by decide +kernel
theorem d_Mo_putBack_77 : decode b_Mo_putBack 77 = .ok (.iastore, 1) := by decide +kernel
theorem d_Mo_putBack_78 : decode b_Mo_putBack 78 = .ok (.iinc 1 1, 3) := by decide +kernel
theorem d_Mo_putBack_81 : decode b_Mo_putBack 81 = .ok (.goto (-79), 3) := by decide +kernel
theorem d_Mo_putBack_84 : decode b_Mo_putBack 84 = .ok (.aload_n 0, 1) := by decide +kernel
theorem d_Mo_putBack_85 : decode b_Mo_putBack 85 = .ok (.aload_n 0, 1) := by decide +kernel
theorem d_Mo_putBack_86 : decode b_Mo_putBack 86 = .ok (.getfield 78, 3) := by decide +kernel
theorem d_Mo_putBack_89 : decode b_Mo_putBack 89 = .ok (.bipush 15, 2) := by decide +kernel
theorem d_Mo_putBack_91 : decode b_Mo_putBack 91 = .ok (.iaload, 1) := by decide +kernel
theorem d_Mo_putBack_92 : decode b_Mo_putBack 92 = .ok (.putfield 122, 3) := by decide +kernel
theorem d_Mo_putBack_95 : decode b_Mo_putBack 95 = .ok (.aload_n 0, 1) := by decide +kernel
theorem d_Mo_putBack_96 : decode b_Mo_putBack 96 = .ok (.aload_n 0, 1) := by decide +kernel
theorem d_Mo_putBack_97 : decode b_Mo_putBack 97 = .ok (.getfield 78, 3) := by decide +kernel
theorem d_Mo_putBack_100 : decode b_Mo_putBack 100 = .ok (.bipush 16, 2) := by decide +kernel
theorem d_Mo_putBack_102 : decode b_Mo_putBack 102 = .ok (.iaload, 1) := by decide +kernel
theorem d_Mo_putBack_103 : decode b_Mo_putBack 103 = .ok (.putfield 66, 3) := by decide +kernel
theorem d_Mo_putBack_106 : decode b_Mo_putBack 106 = .ok (.aload_n 0, 1) := by decide +kernel
theorem d_Mo_putBack_107 : decode b_Mo_putBack 107 = .ok (.aload_n 0, 1) := by decide +kernel
theorem d_Mo_putBack_108 : decode b_Mo_putBack 108 = .ok (.getfield 78, 3) := by decide +kernel
theorem d_Mo_putBack_111 : decode b_Mo_putBack 111 = .ok (.bipush 17, 2) := by decide +kernel
theorem d_Mo_putBack_113 : decode b_Mo_putBack 113 = .ok (.iaload, 1) := by decide +kernel
theorem d_Mo_putBack_114 : decode b_Mo_putBack 114 = .ok (.putfield 69, 3) := by decide +kernel
theorem d_Mo_putBack_117 : decode b_Mo_putBack 117 = .ok (.aload_n 0, 1) := by decide +kernel
theorem d_Mo_putBack_118 : decode b_Mo_putBack 118 = .ok (.aload_n 0, 1) := by decide +kernel
theorem d_Mo_putBack_119 : decode b_Mo_putBack 119 = .ok (.getfield 78, 3) := by decide +kernel
theorem d_Mo_putBack_122 : decode b_Mo_putBack 122 = .ok (.bipush 18, 2) := by decide +kernel
theorem d_Mo_putBack_124 : decode b_Mo_putBack 124 = .ok (.iaload, 1) := by decide +kernel
theorem d_Mo_putBack_125 : decode b_Mo_putBack 125 = .ok (.putfield 72, 3) := by decide +kernel
theorem d_Mo_putBack_128 : decode b_Mo_putBack 128 = .ok (.aload_n 0, 1) := by decide +kernel
theorem d_Mo_putBack_129 : decode b_Mo_putBack 129 = .ok (.aload_n 0, 1) := by decide +kernel
theorem d_Mo_putBack_130 : decode b_Mo_putBack 130 = .ok (.getfield 78, 3) := by decide +kernel
theorem d_Mo_putBack_133 : decode b_Mo_putBack 133 = .ok (.bipush 19, 2) := by decide +kernel
theorem d_Mo_putBack_135 : decode b_Mo_putBack 135 = .ok (.iaload, 1) := by decide +kernel
theorem d_Mo_putBack_136 : decode b_Mo_putBack 136 = .ok (.iconst 1, 1) := by decide +kernel
theorem d_Mo_putBack_137 : decode b_Mo_putBack 137 = .ok (.if_icmp .ne 7, 3) := by decide +kernel
theorem d_Mo_putBack_140 : decode b_Mo_putBack 140 = .ok (.iconst 1, 1) := by decide +kernel
theorem d_Mo_putBack_141 : decode b_Mo_putBack 141 = .ok (.goto 4, 3) := by decide +kernel
theorem d_Mo_putBack_144 : decode b_Mo_putBack 144 = .ok (.iconst 0, 1) := by decide +kernel
theorem d_Mo_putBack_145 : decode b_Mo_putBack 145 = .ok (.putfield 125, 3) := by decide +kernel
theorem d_Mo_putBack_148 : decode b_Mo_putBack 148 = .ok (.aload_n 0, 1) := by decide +kernel
theorem d_Mo_putBack_149 : decode b_Mo_putBack 149 = .ok (.iconst 0, 1) := by decide +kernel
theorem d_Mo_putBack_150 : decode b_Mo_putBack 150 = .ok (.putfield 116, 3) := by decide +kernel
theorem d_Mo_putBack_153 : decode b_Mo_putBack 153 = .ok (.iconst 0, 1) := by decide +kernel
theorem d_Mo_putBack_154 : decode b_Mo_putBack 154 = .ok (.istore_n 1, 1) := by decide +kernel
theorem d_Mo_putBack_155 : decode b_Mo_putBack 155 = .ok (.iload_n 1, 1) := by decide +kernel
theorem d_Mo_putBack_156 : decode b_Mo_putBack 156 = .ok (.sipush 4096, 3) := by decide +kernel
theorem d_Mo_putBack_159 : decode b_Mo_putBack 159 = .ok (.if_icmp .ge 47, 3) := by decide +kernel
theorem d_Mo_putBack_162 : decode b_Mo_putBack 162 = .ok (.aload_n 0, 1) := by decide +kernel
theorem d_Mo_putBack_163 : decode b_Mo_putBack 163 = .ok (.getfield 75, 3) := by decide +kernel
theorem d_Mo_putBack_166 : decode b_Mo_putBack 166 = .ok (.iload_n 1, 1) := by decide +kernel
theorem d_Mo_putBack_167 : decode b_Mo_putBack 167 = .ok (.aload_n 0, 1) := by decide +kernel
theorem d_Mo_putBack_168 : decode b_Mo_putBack 168 = .ok (.getfield 81, 3) := by decide +kernel
theorem d_Mo_putBack_171 : decode b_Mo_putBack 171 = .ok (.iload_n 1, 1) := by decide +kernel
theorem d_Mo_putBack_172 : decode b_Mo_putBack 172 = .ok (.baload, 1) := by decide +kernel
theorem d_Mo_putBack_173 : decode b_Mo_putBack 173 = .ok (.bastore, 1) := by decide +kernel
theorem d_Mo_putBack_174 : decode b_Mo_putBack 174 = .ok (.aload_n 0, 1) := by decide +kernel
theorem d_Mo_putBack_175 : decode b_Mo_putBack 175 = .ok (.aload_n 0, 1) := by decide +kernel
theorem d_Mo_putBack_176 : decode b_Mo_putBack 176 = .ok (.getfield 75, 3) := by decide +kernel
theorem d_Mo_putBack_179 : decode b_Mo_putBack 179 = .ok (.iload_n 1, 1) := by decide +kernel
theorem d_Mo_putBack_180 : decode b_Mo_putBack 180 = .ok (.baload, 1) := by decide +kernel
theorem d_Mo_putBack_181 : decode b_Mo_putBack 181 = .ok (.ifCond .eq 12, 3) := by decide +kernel
theorem d_Mo_putBack_184 : decode b_Mo_putBack 184 = .ok (.aload_n 0, 1) := by decide +kernel
theorem d_Mo_putBack_185 : decode b_Mo_putBack 185 = .ok (.getfield 116, 3) := by decide +kernel
theorem d_Mo_putBack_188 : decode b_Mo_putBack 188 = .ok (.iconst 1, 1) := by decide +kernel
theorem d_Mo_putBack_189 : decode b_Mo_putBack 189 = .ok (.iadd, 1) := by decide +kernel
theorem d_Mo_putBack_190 : decode b_Mo_putBack 190 = .ok (.goto 7, 3) := by decide +kernel
theorem d_Mo_putBack_193 : decode b_Mo_putBack 193 = .ok (.aload_n 0, 1) := by decide +kernel
theorem d_Mo_putBack_194 : decode b_Mo_putBack 194 = .ok (.getfield 116, 3) := by decide +kernel
theorem d_Mo_putBack_197 : decode b_Mo_putBack 197 = .ok (.putfield 116, 3) := by decide +kernel
theorem d_Mo_putBack_200 : decode b_Mo_putBack 200 = .ok (.iinc 1 1, 3) := by decide +kernel
theorem d_Mo_putBack_203 : decode b_Mo_putBack 203 = .ok (.goto (-48), 3) := by decide +kernel
theorem d_Mo_putBack_206 : decode b_Mo_putBack 206 = .ok (.return_, 1) := by decide +kernel
theorem d_Mo_goPlan_0 : decode b_Mo_goPlan 0 = .ok (.aload_n 0, 1) := by decide +kernel
theorem d_Mo_goPlan_1 : decode b_Mo_goPlan 1 = .ok (.invokevirtual 155, 3) := by decide +kernel
theorem d_Mo_goPlan_4 : decode b_Mo_goPlan 4 = .ok (.iconst 0, 1) := by decide +kernel
theorem d_Mo_goPlan_5 : decode b_Mo_goPlan 5 = .ok (.istore_n 2, 1) := by decide +kernel
theorem d_Mo_goPlan_6 : decode b_Mo_goPlan 6 = .ok (.iload_n 2, 1) := by decide +kernel
theorem d_Mo_goPlan_7 : decode b_Mo_goPlan 7 = .ok (.aload_n 0, 1) := by decide +kernel
theorem d_Mo_goPlan_8 : decode b_Mo_goPlan 8 = .ok (.getfield 38, 3) := by decide +kernel
theorem d_Mo_goPlan_11 : decode b_Mo_goPlan 11 = .ok (.iload_n 1, 1) := by decide +kernel
theorem d_Mo_goPlan_12 : decode b_Mo_goPlan 12 = .ok (.iaload, 1) := by decide +kernel
theorem d_Mo_goPlan_13 : decode b_Mo_goPlan 13 = .ok (.if_icmp .ge 38, 3) := by decide +kernel
theorem d_Mo_goPlan_16 : decode b_Mo_goPlan 16 = .ok (.bipush 6, 2) := by decide +kernel
theorem d_Mo_goPlan_18 : decode b_Mo_goPlan 18 = .ok (.iload_n 1, 1) := by decide +kernel
theorem d_Mo_goPlan_19 : decode b_Mo_goPlan 19 = .ok (.imul, 1) := by decide +kernel
theorem d_Mo_goPlan_20 : decode b_Mo_goPlan 20 = .ok (.iload_n 2, 1) := by decide +kernel
theorem d_Mo_goPlan_21 : decode b_Mo_goPlan 21 = .ok (.iadd, 1) := by decide +kernel
theorem d_Mo_goPlan_22 : decode b_Mo_goPlan 22 = .ok (.istore_n 3, 1) := by decide +kernel
theorem d_Mo_goPlan_23 : decode b_Mo_goPlan 23 = .ok (.aload_n 0, 1) := by decide +kernel
theorem d_Mo_goPlan_24 : decode b_Mo_goPlan 24 = .ok (.aload_n 0, 1) := by decide +kernel
theorem d_Mo_goPlan_25 : decode b_Mo_goPlan 25 = .ok (.getfield 41, 3) := by decide +kernel
theorem d_Mo_goPlan_28 : decode b_Mo_goPlan 28 = .ok (.iload_n 3, 1) := by decide +kernel
theorem d_Mo_goPlan_29 : decode b_Mo_goPlan 29 = .ok (.iaload, 1) := by decide +kernel
theorem d_Mo_goPlan_30 : decode b_Mo_goPlan 30 = .ok (.aload_n 0, 1) := by decide +kernel
theorem d_Mo_goPlan_31 : decode b_Mo_goPlan 31 = .ok (.getfield 44, 3) := by decide +kernel
theorem d_Mo_goPlan_34 : decode b_Mo_goPlan 34 = .ok (.iload_n 3, 1) := by decide +kernel
theorem d_Mo_goPlan_35 : decode b_Mo_goPlan 35 = .ok (.iaload, 1) := by decide +kernel
theorem d_Mo_goPlan_36 : decode b_Mo_goPlan 36 = .ok (.aload_n 0, 1) := by decide +kernel
theorem d_Mo_goPlan_37 : decode b_Mo_goPlan 37 = .ok (.getfield 47, 3) := by decide +kernel
theorem d_Mo_goPlan_40 : decode b_Mo_goPlan 40 = .ok (.iload_n 3, 1) := by decide +kernel
theorem d_Mo_goPlan_41 : decode b_Mo_goPlan 41 = .ok (.baload, 1) := by decide +kernel
theorem d_Mo_goPlan_42 : decode b_Mo_goPlan 42 = .ok (.invokevirtual 158, 3) := by decide +kernel
theorem d_Mo_goPlan_45 : decode b_Mo_goPlan 45 = .ok (.iinc 2 1, 3) := by decide +kernel
theorem d_Mo_goPlan_48 : decode b_Mo_goPlan 48 = .ok (.goto (-42), 3) := by decide +kernel
theorem d_Mo_goPlan_51 : decode b_Mo_goPlan 51 = .ok (.return_, 1) := by decide +kernel
theorem d_Mo_best_0 : decode b_Mo_best 0 = .ok (.aload_n 0, 1) := by decide +kernel
theorem d_Mo_best_1 : decode b_Mo_best 1 = .ok (.aload_n 0, 1) := by decide +kernel
theorem d_Mo_best_2 : decode b_Mo_best 2 = .ok (.getfield 84, 3) := by decide +kernel
theorem d_Mo_best_5 : decode b_Mo_best 5 = .ok (.ifCond .le 7, 3) := by decide +kernel
theorem d_Mo_best_8 : decode b_Mo_best 8 = .ok (.iconst 0, 1) := by decide +kernel
theorem d_Mo_best_9 : decode b_Mo_best 9 = .ok (.goto 4, 3) := by decide +kernel
theorem d_Mo_best_12 : decode b_Mo_best 12 = .ok (.iconst 1, 1) := by decide +kernel
theorem d_Mo_best_13 : decode b_Mo_best 13 = .ok (.putfield 87, 3) := by decide +kernel
theorem d_Mo_best_16 : decode b_Mo_best 16 = .ok (.aload_n 0, 1) := by decide +kernel
theorem d_Mo_best_17 : decode b_Mo_best 17 = .ok (.getfield 87, 3) := by decide +kernel
theorem d_Mo_best_20 : decode b_Mo_best 20 = .ok (.ifCond .le 5, 3) := by decide +kernel
theorem d_Mo_best_23 : decode b_Mo_best 23 = .ok (.iconst 0, 1) := by decide +kernel
theorem d_Mo_best_24 : decode b_Mo_best 24 = .ok (.ireturn, 1) := by decide +kernel
theorem d_Mo_best_25 : decode b_Mo_best 25 = .ok (.aload_n 0, 1) := by decide +kernel
theorem d_Mo_best_26 : decode b_Mo_best 26 = .ok (.invokevirtual 162, 3) := by decide +kernel
theorem d_Mo_best_29 : decode b_Mo_best 29 = .ok (.iconst (-1), 1) := by decide +kernel
theorem d_Mo_best_30 : decode b_Mo_best 30 = .ok (.istore_n 1, 1) := by decide +kernel
theorem d_Mo_best_31 : decode b_Mo_best 31 = .ok (.iconst 0, 1) := by decide +kernel
theorem d_Mo_best_32 : decode b_Mo_best 32 = .ok (.istore_n 2, 1) := by decide +kernel
theorem d_Mo_best_33 : decode b_Mo_best 33 = .ok (.iconst 0, 1) := by decide +kernel
theorem d_Mo_best_34 : decode b_Mo_best 34 = .ok (.istore_n 3, 1) := by decide +kernel
theorem d_Mo_best_35 : decode b_Mo_best 35 = .ok (.iload_n 3, 1) := by decide +kernel
theorem d_Mo_best_36 : decode b_Mo_best 36 = .ok (.iconst 4, 1) := by decide +kernel
theorem d_Mo_best_37 : decode b_Mo_best 37 = .ok (.if_icmp .ge 49, 3) := by decide +kernel
theorem d_Mo_best_40 : decode b_Mo_best 40 = .ok (.aload_n 0, 1) := by decide +kernel
theorem d_Mo_best_41 : decode b_Mo_best 41 = .ok (.iload_n 3, 1) := by decide +kernel
theorem d_Mo_best_42 : decode b_Mo_best 42 = .ok (.invokevirtual 165, 3) := by decide +kernel
theorem d_Mo_best_45 : decode b_Mo_best 45 = .ok (.aload_n 0, 1) := by decide +kernel
theorem d_Mo_best_46 : decode b_Mo_best 46 = .ok (.getfield 125, 3) := by decide +kernel
theorem d_Mo_best_49 : decode b_Mo_best 49 = .ok (.ifCond .ne 31, 3) := by decide +kernel
theorem d_Mo_best_52 : decode b_Mo_best 52 = .ok (.aload_n 0, 1) := by decide +kernel
theorem d_Mo_best_53 : decode b_Mo_best 53 = .ok (.getfield 66, 3) := by decide +kernel
theorem d_Mo_best_56 : decode b_Mo_best 56 = .ok (.iconst (-1), 1) := by decide +kernel
theorem d_Mo_best_57 : decode b_Mo_best 57 = .ok (.if_icmp .ne 23, 3) := by decide +kernel
theorem d_Mo_best_60 : decode b_Mo_best 60 = .ok (.iload_n 1, 1) := by decide +kernel
theorem d_Mo_best_61 : decode b_Mo_best 61 = .ok (.iconst (-1), 1) := by decide +kernel
theorem d_Mo_best_62 : decode b_Mo_best 62 = .ok (.if_icmp .eq 11, 3) := by decide +kernel
theorem d_Mo_best_65 : decode b_Mo_best 65 = .ok (.aload_n 0, 1) := by decide +kernel
theorem d_Mo_best_66 : decode b_Mo_best 66 = .ok (.getfield 116, 3) := by decide +kernel
theorem d_Mo_best_69 : decode b_Mo_best 69 = .ok (.iload_n 2, 1) := by decide +kernel
theorem d_Mo_best_70 : decode b_Mo_best 70 = .ok (.if_icmp .ge 10, 3) := by decide +kernel
theorem d_Mo_best_73 : decode b_Mo_best 73 = .ok (.iload_n 3, 1) := by decide +kernel
theorem d_Mo_best_74 : decode b_Mo_best 74 = .ok (.istore_n 1, 1) := by decide +kernel
theorem d_Mo_best_75 : decode b_Mo_best 75 = .ok (.aload_n 0, 1) := by decide +kernel
theorem d_Mo_best_76 : decode b_Mo_best 76 = .ok (.getfield 116, 3) := by decide +kernel
theorem d_Mo_best_79 : decode b_Mo_best 79 = .ok (.istore_n 2, 1) := by decide +kernel
theorem d_Mo_best_80 : decode b_Mo_best 80 = .ok (.iinc 3 1, 3) := by decide +kernel
theorem d_Mo_best_83 : decode b_Mo_best 83 = .ok (.goto (-48), 3) := by decide +kernel
theorem d_Mo_best_86 : decode b_Mo_best 86 = .ok (.aload_n 0, 1) := by decide +kernel
theorem d_Mo_best_87 : decode b_Mo_best 87 = .ok (.invokevirtual 168, 3) := by decide +kernel
theorem d_Mo_best_90 : decode b_Mo_best 90 = .ok (.iload_n 1, 1) := by decide +kernel
theorem d_Mo_best_91 : decode b_Mo_best 91 = .ok (.ireturn, 1) := by decide +kernel
theorem d_Mo_sweeps_0 : decode b_Mo_sweeps 0 = .ok (.aload_n 0, 1) := by decide +kernel
theorem d_Mo_sweeps_1 : decode b_Mo_sweeps 1 = .ok (.iload_n 1, 1) := by decide +kernel
theorem d_Mo_sweeps_2 : decode b_Mo_sweeps 2 = .ok (.iconst 0, 1) := by decide +kernel
theorem d_Mo_sweeps_3 : decode b_Mo_sweeps 3 = .ok (.iconst 3, 1) := by decide +kernel
theorem d_Mo_sweeps_4 : decode b_Mo_sweeps 4 = .ok (.invokestatic 152, 3) := by decide +kernel
theorem d_Mo_sweeps_7 : decode b_Mo_sweeps 7 = .ok (.ifCond .ne 7, 3) := by decide +kernel
theorem d_Mo_sweeps_10 : decode b_Mo_sweeps 10 = .ok (.iconst 1, 1) := by decide +kernel
theorem d_Mo_sweeps_11 : decode b_Mo_sweeps 11 = .ok (.goto 15, 3) := by decide +kernel
theorem d_Mo_sweeps_14 : decode b_Mo_sweeps 14 = .ok (.aload_n 0, 1) := by decide +kernel
theorem d_Mo_sweeps_15 : decode b_Mo_sweeps 15 = .ok (.getfield 84, 3) := by decide +kernel
theorem d_Mo_sweeps_18 : decode b_Mo_sweeps 18 = .ok (.ifCond .ne 7, 3) := by decide +kernel
theorem d_Mo_sweeps_21 : decode b_Mo_sweeps 21 = .ok (.iconst 2, 1) := by decide +kernel
theorem d_Mo_sweeps_22 : decode b_Mo_sweeps 22 = .ok (.goto 4, 3) := by decide +kernel
theorem d_Mo_sweeps_25 : decode b_Mo_sweeps 25 = .ok (.iconst 0, 1) := by decide +kernel
theorem d_Mo_sweeps_26 : decode b_Mo_sweeps 26 = .ok (.putfield 87, 3) := by decide +kernel
theorem d_Mo_sweeps_29 : decode b_Mo_sweeps 29 = .ok (.aload_n 0, 1) := by decide +kernel
theorem d_Mo_sweeps_30 : decode b_Mo_sweeps 30 = .ok (.getfield 87, 3) := by decide +kernel
theorem d_Mo_sweeps_33 : decode b_Mo_sweeps 33 = .ok (.ifCond .le 5, 3) := by decide +kernel
theorem d_Mo_sweeps_36 : decode b_Mo_sweeps 36 = .ok (.iconst 0, 1) := by decide +kernel
theorem d_Mo_sweeps_37 : decode b_Mo_sweeps 37 = .ok (.ireturn, 1) := by decide +kernel
theorem d_Mo_sweeps_38 : decode b_Mo_sweeps 38 = .ok (.aload_n 0, 1) := by decide +kernel
theorem d_Mo_sweeps_39 : decode b_Mo_sweeps 39 = .ok (.invokevirtual 162, 3) := by decide +kernel
theorem d_Mo_sweeps_42 : decode b_Mo_sweeps 42 = .ok (.aload_n 0, 1) := by decide +kernel
theorem d_Mo_sweeps_43 : decode b_Mo_sweeps 43 = .ok (.iload_n 1, 1) := by decide +kernel
theorem d_Mo_sweeps_44 : decode b_Mo_sweeps 44 = .ok (.invokevirtual 165, 3) := by decide +kernel
theorem d_Mo_sweeps_47 : decode b_Mo_sweeps 47 = .ok (.aload_n 0, 1) := by decide +kernel
theorem d_Mo_sweeps_48 : decode b_Mo_sweeps 48 = .ok (.getfield 116, 3) := by decide +kernel
theorem d_Mo_sweeps_51 : decode b_Mo_sweeps 51 = .ok (.istore_n 2, 1) := by decide +kernel
theorem d_Mo_sweeps_52 : decode b_Mo_sweeps 52 = .ok (.aload_n 0, 1) := by decide +kernel
theorem d_Mo_sweeps_53 : decode b_Mo_sweeps 53 = .ok (.invokevirtual 168, 3) := by decide +kernel
theorem d_Mo_sweeps_56 : decode b_Mo_sweeps 56 = .ok (.iload_n 2, 1) := by decide +kernel
theorem d_Mo_sweeps_57 : decode b_Mo_sweeps 57 = .ok (.ireturn, 1) := by decide +kernel
theorem d_Ce_init_0 : decode b_Ce_init 0 = .ok (.aload_n 0, 1) := by decide +kernel
theorem d_Ce_init_1 : decode b_Ce_init 1 = .ok (.invokespecial 3, 3) := by decide +kernel
theorem d_Ce_init_4 : decode b_Ce_init 4 = .ok (.aload_n 0, 1) := by decide +kernel
theorem d_Ce_init_5 : decode b_Ce_init 5 = .ok (.bipush 64, 2) := by decide +kernel
theorem d_Ce_init_7 : decode b_Ce_init 7 = .ok (.newarray .long, 2) := by decide +kernel
theorem d_Ce_init_9 : decode b_Ce_init 9 = .ok (.putfield 11, 3) := by decide +kernel
theorem d_Ce_init_12 : decode b_Ce_init 12 = .ok (.return_, 1) := by decide +kernel
theorem d_Ce_wipe_0 : decode b_Ce_wipe 0 = .ok (.aload_n 0, 1) := by decide +kernel
theorem d_Ce_wipe_1 : decode b_Ce_wipe 1 = .ok (.getfield 11, 3) := by decide +kernel
theorem d_Ce_wipe_4 : decode b_Ce_wipe 4 = .ok (.lconst 0, 1) := by decide +kernel
theorem d_Ce_wipe_5 : decode b_Ce_wipe 5 = .ok (.invokestatic 15, 3) := by decide +kernel
theorem d_Ce_wipe_8 : decode b_Ce_wipe 8 = .ok (.aload_n 0, 1) := by decide +kernel
theorem d_Ce_wipe_9 : decode b_Ce_wipe 9 = .ok (.iconst 0, 1) := by decide +kernel
theorem d_Ce_wipe_10 : decode b_Ce_wipe 10 = .ok (.putfield 21, 3) := by decide +kernel
theorem d_Ce_wipe_13 : decode b_Ce_wipe 13 = .ok (.return_, 1) := by decide +kernel
theorem d_Ce_has_0 : decode b_Ce_has 0 = .ok (.lconst 1, 1) := by decide +kernel
theorem d_Ce_has_1 : decode b_Ce_has 1 = .ok (.iload_n 1, 1) := by decide +kernel
theorem d_Ce_has_2 : decode b_Ce_has 2 = .ok (.bipush 63, 2) := by decide +kernel
theorem d_Ce_has_4 : decode b_Ce_has 4 = .ok (.iand, 1) := by decide +kernel
theorem d_Ce_has_5 : decode b_Ce_has 5 = .ok (.lshl, 1) := by decide +kernel
theorem d_Ce_has_6 : decode b_Ce_has 6 = .ok (.lstore_n 3, 1) := by decide +kernel
theorem d_Ce_has_7 : decode b_Ce_has 7 = .ok (.aload_n 0, 1) := by decide +kernel
theorem d_Ce_has_8 : decode b_Ce_has 8 = .ok (.getfield 11, 3) := by decide +kernel
theorem d_Ce_has_11 : decode b_Ce_has 11 = .ok (.iload_n 2, 1) := by decide +kernel
theorem d_Ce_has_12 : decode b_Ce_has 12 = .ok (.bipush 63, 2) := by decide +kernel
theorem d_Ce_has_14 : decode b_Ce_has 14 = .ok (.iand, 1) := by decide +kernel
theorem d_Ce_has_15 : decode b_Ce_has 15 = .ok (.laload, 1) := by decide +kernel
theorem d_Ce_has_16 : decode b_Ce_has 16 = .ok (.lload_n 3, 1) := by decide +kernel
theorem d_Ce_has_17 : decode b_Ce_has 17 = .ok (.land, 1) := by decide +kernel
theorem d_Ce_has_18 : decode b_Ce_has 18 = .ok (.lconst 0, 1) := by decide +kernel
theorem d_Ce_has_19 : decode b_Ce_has 19 = .ok (.lcmp, 1) := by decide +kernel
theorem d_Ce_has_20 : decode b_Ce_has 20 = .ok (.ifCond .eq 7, 3) := by decide +kernel
theorem d_Ce_has_23 : decode b_Ce_has 23 = .ok (.iconst 1, 1) := by decide +kernel
theorem d_Ce_has_24 : decode b_Ce_has 24 = .ok (.goto 4, 3) := by decide +kernel
theorem d_Ce_has_27 : decode b_Ce_has 27 = .ok (.iconst 0, 1) := by decide +kernel
theorem d_Ce_has_28 : decode b_Ce_has 28 = .ok (.ireturn, 1) := by decide +kernel
theorem d_Ce_cover_0 : decode b_Ce_cover 0 = .ok (.aload_n 2, 1) := by decide +kernel
theorem d_Ce_cover_1 : decode b_Ce_cover 1 = .ok (.getfield 25, 3) := by decide +kernel
theorem d_Ce_cover_4 : decode b_Ce_cover 4 = .ok (.invokestatic 30, 3) := by decide +kernel
theorem d_Ce_cover_7 : decode b_Ce_cover 7 = .ok (.istore_n 3, 1) := by decide +kernel
theorem d_Ce_cover_8 : decode b_Ce_cover 8 = .ok (.aload_n 2, 1) := by decide +kernel
theorem d_Ce_cover_9 : decode b_Ce_cover 9 = .ok (.getfield 25, 3) := by decide +kernel
theorem d_Ce_cover_12 : decode b_Ce_cover 12 = .ok (.invokestatic 36, 3) := by decide +kernel
theorem d_Ce_cover_15 : decode b_Ce_cover 15 = .ok (.istore 4, 2) := by decide +kernel
theorem d_Ce_cover_17 : decode b_Ce_cover 17 = .ok (.aload_n 1, 1) := by decide +kernel
theorem d_Ce_cover_18 : decode b_Ce_cover 18 = .ok (.getfield 39, 3) := by decide +kernel
theorem d_Ce_cover_21 : decode b_Ce_cover 21 = .ok (.iload_n 3, 1) := by decide +kernel
theorem d_Ce_cover_22 : decode b_Ce_cover 22 = .ok (.imul, 1) := by decide +kernel
theorem d_Ce_cover_23 : decode b_Ce_cover 23 = .ok (.istore 5, 2) := by decide +kernel
theorem d_Ce_cover_25 : decode b_Ce_cover 25 = .ok (.aload_n 1, 1) := by decide +kernel
theorem d_Ce_cover_26 : decode b_Ce_cover 26 = .ok (.getfield 44, 3) := by decide +kernel
theorem d_Ce_cover_29 : decode b_Ce_cover 29 = .ok (.ineg, 1) := by decide +kernel
theorem d_Ce_cover_30 : decode b_Ce_cover 30 = .ok (.iload_n 3, 1) := by decide +kernel
theorem d_Ce_cover_31 : decode b_Ce_cover 31 = .ok (.imul, 1) := by decide +kernel
theorem d_Ce_cover_32 : decode b_Ce_cover 32 = .ok (.istore 6, 2) := by decide +kernel
theorem d_Ce_cover_34 : decode b_Ce_cover 34 = .ok (.aload_n 1, 1) := by decide +kernel
theorem d_Ce_cover_35 : decode b_Ce_cover 35 = .ok (.getfield 39, 3) := by decide +kernel
theorem d_Ce_cover_38 : decode b_Ce_cover 38 = .ok (.iload 4, 2) := by decide +kernel
theorem d_Ce_cover_40 : decode b_Ce_cover 40 = .ok (.imul, 1) := by decide +kernel
theorem d_Ce_cover_41 : decode b_Ce_cover 41 = .ok (.istore 7, 2) := by decide +kernel
theorem d_Ce_cover_43 : decode b_Ce_cover 43 = .ok (.aload_n 1, 1) := by decide +kernel
theorem d_Ce_cover_44 : decode b_Ce_cover 44 = .ok (.getfield 44, 3) := by decide +kernel
theorem d_Ce_cover_47 : decode b_Ce_cover 47 = .ok (.ineg, 1) := by decide +kernel
theorem d_Ce_cover_48 : decode b_Ce_cover 48 = .ok (.iload 4, 2) := by decide +kernel
theorem d_Ce_cover_50 : decode b_Ce_cover 50 = .ok (.imul, 1) := by decide +kernel
theorem d_Ce_cover_51 : decode b_Ce_cover 51 = .ok (.istore 8, 2) := by decide +kernel
theorem d_Ce_cover_53 : decode b_Ce_cover 53 = .ok (.aload_n 1, 1) := by decide +kernel
theorem d_Ce_cover_54 : decode b_Ce_cover 54 = .ok (.getfield 47, 3) := by decide +kernel
theorem d_Ce_cover_57 : decode b_Ce_cover 57 = .ok (.iload 4, 2) := by decide +kernel
theorem d_Ce_cover_59 : decode b_Ce_cover 59 = .ok (.invokestatic 50, 3) := by decide +kernel
theorem d_Ce_cover_62 : decode b_Ce_cover 62 = .ok (.imul, 1) := by decide +kernel
theorem d_Ce_cover_63 : decode b_Ce_cover 63 = .ok (.sipush 4096, 3) := by decide +kernel
theorem d_Ce_cover_66 : decode b_Ce_cover 66 = .ok (.iadd, 1) := by decide +kernel
theorem d_Ce_cover_67 : decode b_Ce_cover 67 = .ok (.istore 9, 2) := by decide +kernel
theorem d_Ce_cover_69 : decode b_Ce_cover 69 = .ok (.aload_n 1, 1) := by decide +kernel
theorem d_Ce_cover_70 : decode b_Ce_cover 70 = .ok (.getfield 47, 3) := by decide +kernel
theorem d_Ce_cover_73 : decode b_Ce_cover 73 = .ok (.iload_n 3, 1) := by decide +kernel
theorem d_Ce_cover_74 : decode b_Ce_cover 74 = .ok (.invokestatic 50, 3) := by decide +kernel
theorem d_Ce_cover_77 : decode b_Ce_cover 77 = .ok (.imul, 1) := by decide +kernel
theorem d_Ce_cover_78 : decode b_Ce_cover 78 = .ok (.sipush 4096, 3) := by decide +kernel
theorem d_Ce_cover_81 : decode b_Ce_cover 81 = .ok (.iadd, 1) := by decide +kernel
theorem d_Ce_cover_82 : decode b_Ce_cover 82 = .ok (.istore 10, 2) := by decide +kernel
theorem d_Ce_cover_84 : decode b_Ce_cover 84 = .ok (.aload_n 2, 1) := by decide +kernel
theorem d_Ce_cover_85 : decode b_Ce_cover 85 = .ok (.getfield 55, 3) := by decide +kernel
theorem d_Ce_cover_88 : decode b_Ce_cover 88 = .ok (.iload 5, 2) := by decide +kernel
theorem d_Ce_cover_90 : decode b_Ce_cover 90 = .ok (.iload 6, 2) := by decide +kernel
theorem d_Ce_cover_92 : decode b_Ce_cover 92 = .ok (.invokestatic 58, 3) := by decide +kernel
theorem d_Ce_cover_95 : decode b_Ce_cover 95 = .ok (.iadd, 1) := by decide +kernel
theorem d_Ce_cover_96 : decode b_Ce_cover 96 = .ok (.iload 9, 2) := by decide +kernel
theorem d_Ce_cover_98 : decode b_Ce_cover 98 = .ok (.isub, 1) := by decide +kernel
theorem d_Ce_cover_99 : decode b_Ce_cover 99 = .ok (.invokestatic 62, 3) := by decide +kernel
theorem d_Ce_cover_102 : decode b_Ce_cover 102 = .ok (.istore 11, 2) := by decide +kernel
theorem d_Ce_cover_104 : decode b_Ce_cover 104 = .ok (.aload_n 2, 1) := by decide +kernel
theorem d_Ce_cover_105 : decode b_Ce_cover 105 = .ok (.getfield 55, 3) := by decide +kernel
theorem d_Ce_cover_108 : decode b_Ce_cover 108 = .ok (.iload 5, 2) := by decide +kernel
theorem d_Ce_cover_110 : decode b_Ce_cover 110 = .ok (.iload 6, 2) := by decide +kernel
theorem d_Ce_cover_112 : decode b_Ce_cover 112 = .ok (.invokestatic 65, 3) := by decide +kernel
theorem d_Ce_cover_115 : decode b_Ce_cover 115 = .ok (.iadd, 1) := by decide +kernel
theorem d_Ce_cover_116 : decode b_Ce_cover 116 = .ok (.iload 9, 2) := by decide +kernel
theorem d_Ce_cover_118 : decode b_Ce_cover 118 = .ok (.iadd, 1) := by decide +kernel
theorem d_Ce_cover_119 : decode b_Ce_cover 119 = .ok (.invokestatic 68, 3) := by decide +kernel
theorem d_Ce_cover_122 : decode b_Ce_cover 122 = .ok (.istore 12, 2) := by decide +kernel
theorem d_Ce_cover_124 : decode b_Ce_cover 124 = .ok (.aload_n 2, 1) := by decide +kernel
theorem d_Ce_cover_125 : decode b_Ce_cover 125 = .ok (.getfield 71, 3) := by decide +kernel
theorem d_Ce_cover_128 : decode b_Ce_cover 128 = .ok (.iload 7, 2) := by decide +kernel
theorem d_Ce_cover_130 : decode b_Ce_cover 130 = .ok (.iload 8, 2) := by decide +kernel
theorem d_Ce_cover_132 : decode b_Ce_cover 132 = .ok (.invokestatic 58, 3) := by decide +kernel
theorem d_Ce_cover_135 : decode b_Ce_cover 135 = .ok (.iadd, 1) := by decide +kernel
theorem d_Ce_cover_136 : decode b_Ce_cover 136 = .ok (.iload 10, 2) := by decide +kernel
theorem d_Ce_cover_138 : decode b_Ce_cover 138 = .ok (.isub, 1) := by decide +kernel
theorem d_Ce_cover_139 : decode b_Ce_cover 139 = .ok (.invokestatic 62, 3) := by decide +kernel
theorem d_Ce_cover_142 : decode b_Ce_cover 142 = .ok (.istore 13, 2) := by decide +kernel
theorem d_Ce_cover_144 : decode b_Ce_cover 144 = .ok (.aload_n 2, 1) := by decide +kernel
theorem d_Ce_cover_145 : decode b_Ce_cover 145 = .ok (.getfield 71, 3) := by decide +kernel
theorem d_Ce_cover_148 : decode b_Ce_cover 148 = .ok (.iload 7, 2) := by decide +kernel
theorem d_Ce_cover_150 : decode b_Ce_cover 150 = .ok (.iload 8, 2) := by decide +kernel
theorem d_Ce_cover_152 : decode b_Ce_cover 152 = .ok (.invokestatic 65, 3) := by decide +kernel
theorem d_Ce_cover_155 : decode b_Ce_cover 155 = .ok (.iadd, 1) := by decide +kernel
theorem d_Ce_cover_156 : decode b_Ce_cover 156 = .ok (.iload 10, 2) := by decide +kernel
theorem d_Ce_cover_158 : decode b_Ce_cover 158 = .ok (.iadd, 1) := by decide +kernel
theorem d_Ce_cover_159 : decode b_Ce_cover 159 = .ok (.invokestatic 68, 3) := by decide +kernel
theorem d_Ce_cover_162 : decode b_Ce_cover 162 = .ok (.istore 14, 2) := by decide +kernel
theorem d_Ce_cover_164 : decode b_Ce_cover 164 = .ok (.iload 11, 2) := by decide +kernel
theorem d_Ce_cover_166 : decode b_Ce_cover 166 = .ok (.invokestatic 74, 3) := by decide +kernel
theorem d_Ce_cover_169 : decode b_Ce_cover 169 = .ok (.aload_n 2, 1) := by decide +kernel
theorem d_Ce_cover_170 : decode b_Ce_cover 170 = .ok (.getfield 55, 3) := by decide +kernel
theorem d_Ce_cover_173 : decode b_Ce_cover 173 = .ok (.isub, 1) := by decide +kernel
theorem d_Ce_cover_174 : decode b_Ce_cover 174 = .ok (.i2l, 1) := by decide +kernel
theorem d_Ce_cover_175 : decode b_Ce_cover 175 = .ok (.lstore 15, 2) := by decide +kernel
theorem d_Ce_cover_177 : decode b_Ce_cover 177 = .ok (.iload 13, 2) := by decide +kernel
theorem d_Ce_cover_179 : decode b_Ce_cover 179 = .ok (.istore 17, 2) := by decide +kernel
theorem d_Ce_cover_181 : decode b_Ce_cover 181 = .ok (.iload 17, 2) := by decide +kernel
theorem d_Ce_cover_183 : decode b_Ce_cover 183 = .ok (.iload 14, 2) := by decide +kernel
theorem d_Ce_cover_185 : decode b_Ce_cover 185 = .ok (.if_icmp .gt 109, 3) := by decide +kernel
theorem d_Ce_cover_188 : decode b_Ce_cover 188 = .ok (.iload 17, 2) := by decide +kernel
theorem d_Ce_cover_190 : decode b_Ce_cover 190 = .ok (.invokestatic 74, 3) := by decide +kernel
theorem d_Ce_cover_193 : decode b_Ce_cover 193 = .ok (.aload_n 2, 1) := by decide +kernel
theorem d_Ce_cover_194 : decode b_Ce_cover 194 = .ok (.getfield 71, 3) := by decide +kernel
theorem d_Ce_cover_197 : decode b_Ce_cover 197 = .ok (.isub, 1) := by decide +kernel
theorem d_Ce_cover_198 : decode b_Ce_cover 198 = .ok (.i2l, 1) := by decide +kernel
theorem d_Ce_cover_199 : decode b_Ce_cover 199 = .ok (.lstore 18, 2) := by decide +kernel
theorem d_Ce_cover_201 : decode b_Ce_cover 201 = .ok (.lload 15, 2) := by decide +kernel
theorem d_Ce_cover_203 : decode b_Ce_cover 203 = .ok (.iload_n 3, 1) := by decide +kernel
theorem d_Ce_cover_204 : decode b_Ce_cover 204 = .ok (.i2l, 1) := by decide +kernel
theorem d_Ce_cover_205 : decode b_Ce_cover 205 = .ok (.lmul, 1) := by decide +kernel
theorem d_Ce_cover_206 : decode b_Ce_cover 206 = .ok (.lload 18, 2) := by decide +kernel
theorem d_Ce_cover_208 : decode b_Ce_cover 208 = .ok (.iload 4, 2) := by decide +kernel
theorem d_Ce_cover_210 : decode b_Ce_cover 210 = .ok (.i2l, 1) := by decide +kernel
theorem d_Ce_cover_211 : decode b_Ce_cover 211 = .ok (.lmul, 1) := by decide +kernel
theorem d_Ce_cover_212 : decode b_Ce_cover 212 = .ok (.ladd, 1) := by decide +kernel
theorem d_Ce_cover_213 : decode b_Ce_cover 213 = .ok (.lstore 20, 2) := by decide +kernel
theorem d_Ce_cover_215 : decode b_Ce_cover 215 = .ok (.lload 18, 2) := by decide +kernel
theorem d_Ce_cover_217 : decode b_Ce_cover 217 = .ok (.iload_n 3, 1) := by decide +kernel
theorem d_Ce_cover_218 : decode b_Ce_cover 218 = .ok (.i2l, 1) := by decide +kernel
theorem d_Ce_cover_219 : decode b_Ce_cover 219 = .ok (.lmul, 1) := by decide +kernel
theorem d_Ce_cover_220 : decode b_Ce_cover 220 = .ok (.lload 15, 2) := by decide +kernel
theorem d_Ce_cover_222 : decode b_Ce_cover 222 = .ok (.iload 4, 2) := by decide +kernel
theorem d_Ce_cover_224 : decode b_Ce_cover 224 = .ok (.i2l, 1) := by decide +kernel
theorem d_Ce_cover_225 : decode b_Ce_cover 225 = .ok (.lmul, 1) := by decide +kernel
theorem d_Ce_cover_226 : decode b_Ce_cover 226 = .ok (.lsub, 1) := by decide +kernel
theorem d_Ce_cover_227 : decode b_Ce_cover 227 = .ok (.lstore 22, 2) := by decide +kernel
theorem d_Ce_cover_229 : decode b_Ce_cover 229 = .ok (.iload 11, 2) := by decide +kernel
theorem d_Ce_cover_231 : decode b_Ce_cover 231 = .ok (.istore 24, 2) := by decide +kernel
theorem d_Ce_cover_233 : decode b_Ce_cover 233 = .ok (.iload 24, 2) := by decide +kernel
theorem d_Ce_cover_235 : decode b_Ce_cover 235 = .ok (.iload 12, 2) := by decide +kernel
theorem d_Ce_cover_237 : decode b_Ce_cover 237 = .ok (.if_icmp .gt 51, 3) := by decide +kernel
theorem d_Ce_cover_240 : decode b_Ce_cover 240 = .ok (.aload_n 1, 1) := by decide +kernel
theorem d_Ce_cover_241 : decode b_Ce_cover 241 = .ok (.lload 20, 2) := by decide +kernel
theorem d_Ce_cover_243 : decode b_Ce_cover 243 = .ok (.lload 22, 2) := by decide +kernel
theorem d_Ce_cover_245 : decode b_Ce_cover 245 = .ok (.invokevirtual 77, 3) := by decide +kernel
theorem d_Ce_cover_248 : decode b_Ce_cover 248 = .ok (.ifCond .eq 11, 3) := by decide +kernel
theorem d_Ce_cover_251 : decode b_Ce_cover 251 = .ok (.aload_n 0, 1) := by decide +kernel
theorem d_Ce_cover_252 : decode b_Ce_cover 252 = .ok (.iload 24, 2) := by decide +kernel
theorem d_Ce_cover_254 : decode b_Ce_cover 254 = .ok (.iload 17, 2) := by decide +kernel
theorem d_Ce_cover_256 : decode b_Ce_cover 256 = .ok (.invokevirtual 81, 3) := by decide +kernel
theorem d_Ce_cover_259 : decode b_Ce_cover 259 = .ok (.lload 20, 2) := by decide +kernel
theorem d_Ce_cover_261 : decode b_Ce_cover 261 = .ok (.ldc2_w 85, 3) := by decide +kernel
theorem d_Ce_cover_264 : decode b_Ce_cover 264 = .ok (.iload_n 3, 1) := by decide +kernel
theorem d_Ce_cover_265 : decode b_Ce_cover 265 = .ok (.i2l, 1) := by decide +kernel
theorem d_Ce_cover_266 : decode b_Ce_cover 266 = .ok (.lmul, 1) := by decide +kernel
theorem d_Ce_cover_267 : decode b_Ce_cover 267 = .ok (.ladd, 1) := by decide +kernel
theorem d_Ce_cover_268 : decode b_Ce_cover 268 = .ok (.lstore 20, 2) := by decide +kernel
theorem d_Ce_cover_270 : decode b_Ce_cover 270 = .ok (.lload 22, 2) := by decide +kernel
theorem d_Ce_cover_272 : decode b_Ce_cover 272 = .ok (.ldc2_w 85, 3) := by decide +kernel
theorem d_Ce_cover_275 : decode b_Ce_cover 275 = .ok (.iload 4, 2) := by decide +kernel
theorem d_Ce_cover_277 : decode b_Ce_cover 277 = .ok (.i2l, 1) := by decide +kernel
theorem d_Ce_cover_278 : decode b_Ce_cover 278 = .ok (.lmul, 1) := by decide +kernel
theorem d_Ce_cover_279 : decode b_Ce_cover 279 = .ok (.lsub, 1) := by decide +kernel
theorem d_Ce_cover_280 : decode b_Ce_cover 280 = .ok (.lstore 22, 2) := by decide +kernel
theorem d_Ce_cover_282 : decode b_Ce_cover 282 = .ok (.iinc 24 1, 3) := by decide +kernel
theorem d_Ce_cover_285 : decode b_Ce_cover 285 = .ok (.goto (-52), 3) := by decide +kernel
theorem d_Ce_cover_288 : decode b_Ce_cover 288 = .ok (.iinc 17 1, 3) := by decide +kernel
theorem d_Ce_cover_291 : decode b_Ce_cover 291 = .ok (.goto (-110), 3) := by decide +kernel
theorem d_Ce_cover_294 : decode b_Ce_cover 294 = .ok (.return_, 1) := by decide +kernel
theorem d_Ce_mark_0 : decode b_Ce_mark 0 = .ok (.iload_n 2, 1) := by decide +kernel
theorem d_Ce_mark_1 : decode b_Ce_mark 1 = .ok (.bipush 63, 2) := by decide +kernel
theorem d_Ce_mark_3 : decode b_Ce_mark 3 = .ok (.iand, 1) := by decide +kernel
theorem d_Ce_mark_4 : decode b_Ce_mark 4 = .ok (.istore_n 3, 1) := by decide +kernel
theorem d_Ce_mark_5 : decode b_Ce_mark 5 = .ok (.lconst 1, 1) := by decide +kernel
theorem d_Ce_mark_6 : decode b_Ce_mark 6 = .ok (.iload_n 1, 1) := by decide +kernel
theorem d_Ce_mark_7 : decode b_Ce_mark 7 = .ok (.bipush 63, 2) := by decide +kernel
theorem d_Ce_mark_9 : decode b_Ce_mark 9 = .ok (.iand, 1) := by decide +kernel
theorem d_Ce_mark_10 : decode b_Ce_mark 10 = .ok (.lshl, 1) := by decide +kernel
theorem d_Ce_mark_11 : decode b_Ce_mark 11 = .ok (.lstore 4, 2) := by decide +kernel
theorem d_Ce_mark_13 : decode b_Ce_mark 13 = .ok (.aload_n 0, 1) := by decide +kernel
theorem d_Ce_mark_14 : decode b_Ce_mark 14 = .ok (.getfield 11, 3) := by decide +kernel
theorem d_Ce_mark_17 : decode b_Ce_mark 17 = .ok (.iload_n 3, 1) := by decide +kernel
theorem d_Ce_mark_18 : decode b_Ce_mark 18 = .ok (.laload, 1) := by decide +kernel
theorem d_Ce_mark_19 : decode b_Ce_mark 19 = .ok (.lload 4, 2) := by decide +kernel
theorem d_Ce_mark_21 : decode b_Ce_mark 21 = .ok (.land, 1) := by decide +kernel
theorem d_Ce_mark_22 : decode b_Ce_mark 22 = .ok (.lconst 0, 1) := by decide +kernel
theorem d_Ce_mark_23 : decode b_Ce_mark 23 = .ok (.lcmp, 1) := by decide +kernel
theorem d_Ce_mark_24 : decode b_Ce_mark 24 = .ok (.ifCond .ne 24, 3) := by decide +kernel
theorem d_Ce_mark_27 : decode b_Ce_mark 27 = .ok (.aload_n 0, 1) := by decide +kernel
theorem d_Ce_mark_28 : decode b_Ce_mark 28 = .ok (.getfield 11, 3) := by decide +kernel
theorem d_Ce_mark_31 : decode b_Ce_mark 31 = .ok (.iload_n 3, 1) := by decide +kernel
theorem d_Ce_mark_32 : decode b_Ce_mark 32 = .ok (.dup2, 1) := by decide +kernel
theorem d_Ce_mark_33 : decode b_Ce_mark 33 = .ok (.laload, 1) := by decide +kernel
theorem d_Ce_mark_34 : decode b_Ce_mark 34 = .ok (.lload 4, 2) := by decide +kernel
theorem d_Ce_mark_36 : decode b_Ce_mark 36 = .ok (.lor, 1) := by decide +kernel
theorem d_Ce_mark_37 : decode b_Ce_mark 37 = .ok (.lastore, 1) := by decide +kernel
theorem d_Ce_mark_38 : decode b_Ce_mark 38 = .ok (.aload_n 0, 1) := by decide +kernel
theorem d_Ce_mark_39 : decode b_Ce_mark 39 = .ok (.dup, 1) := by decide +kernel
theorem d_Ce_mark_40 : decode b_Ce_mark 40 = .ok (.getfield 21, 3) := by decide +kernel
theorem d_Ce_mark_43 : decode b_Ce_mark 43 = .ok (.iconst 1, 1) := by decide +kernel
theorem d_Ce_mark_44 : decode b_Ce_mark 44 = .ok (.iadd, 1) := by decide +kernel
theorem d_Ce_mark_45 : decode b_Ce_mark 45 = .ok (.putfield 21, 3) := by decide +kernel
theorem d_Ce_mark_48 : decode b_Ce_mark 48 = .ok (.return_, 1) := by decide +kernel
theorem d_Ce_middleOf_0 : decode b_Ce_middleOf 0 = .ok (.iload_n 0, 1) := by decide +kernel
theorem d_Ce_middleOf_1 : decode b_Ce_middleOf 1 = .ok (.ldc 87, 2) := by decide +kernel
theorem d_Ce_middleOf_3 : decode b_Ce_middleOf 3 = .ok (.imul, 1) := by decide +kernel
theorem d_Ce_middleOf_4 : decode b_Ce_middleOf 4 = .ok (.sipush 16384, 3) := by decide +kernel
theorem d_Ce_middleOf_7 : decode b_Ce_middleOf 7 = .ok (.iadd, 1) := by decide +kernel
theorem d_Ce_middleOf_8 : decode b_Ce_middleOf 8 = .ok (.ireturn, 1) := by decide +kernel
theorem d_Ce_firstFrom_0 : decode b_Ce_firstFrom 0 = .ok (.bipush (-32), 2) := by decide +kernel
theorem d_Ce_firstFrom_2 : decode b_Ce_firstFrom 2 = .ok (.iload_n 0, 1) := by decide +kernel
theorem d_Ce_firstFrom_3 : decode b_Ce_firstFrom 3 = .ok (.sipush 16384, 3) := by decide +kernel
theorem d_Ce_firstFrom_6 : decode b_Ce_firstFrom 6 = .ok (.isub, 1) := by decide +kernel
theorem d_Ce_firstFrom_7 : decode b_Ce_firstFrom 7 = .ok (.ldc 87, 2) := by decide +kernel
theorem d_Ce_firstFrom_9 : decode b_Ce_firstFrom 9 = .ok (.iadd, 1) := by decide +kernel
theorem d_Ce_firstFrom_10 : decode b_Ce_firstFrom 10 = .ok (.iconst 1, 1) := by decide +kernel
theorem d_Ce_firstFrom_11 : decode b_Ce_firstFrom 11 = .ok (.isub, 1) := by decide +kernel
theorem d_Ce_firstFrom_12 : decode b_Ce_firstFrom 12 = .ok (.ldc 87, 2) := by decide +kernel
theorem d_Ce_firstFrom_14 : decode b_Ce_firstFrom 14 = .ok (.invokestatic 88, 3) := by decide +kernel
theorem d_Ce_firstFrom_17 : decode b_Ce_firstFrom 17 = .ok (.invokestatic 65, 3) := by decide +kernel
theorem d_Ce_firstFrom_20 : decode b_Ce_firstFrom 20 = .ok (.ireturn, 1) := by decide +kernel
theorem d_Ce_lastUpTo_0 : decode b_Ce_lastUpTo 0 = .ok (.bipush 31, 2) := by decide +kernel
theorem d_Ce_lastUpTo_2 : decode b_Ce_lastUpTo 2 = .ok (.iload_n 0, 1) := by decide +kernel
theorem d_Ce_lastUpTo_3 : decode b_Ce_lastUpTo 3 = .ok (.sipush 16384, 3) := by decide +kernel
theorem d_Ce_lastUpTo_6 : decode b_Ce_lastUpTo 6 = .ok (.isub, 1) := by decide +kernel
theorem d_Ce_lastUpTo_7 : decode b_Ce_lastUpTo 7 = .ok (.ldc 87, 2) := by decide +kernel
theorem d_Ce_lastUpTo_9 : decode b_Ce_lastUpTo 9 = .ok (.invokestatic 88, 3) := by decide +kernel
theorem d_Ce_lastUpTo_12 : decode b_Ce_lastUpTo 12 = .ok (.invokestatic 58, 3) := by decide +kernel
theorem d_Ce_lastUpTo_15 : decode b_Ce_lastUpTo 15 = .ok (.ireturn, 1) := by decide +kernel
theorem d_Di_round_0 : decode b_Di_round 0 = .ok (.iload_n 0, 1) := by decide +kernel
theorem d_Di_round_1 : decode b_Di_round 1 = .ok (.bipush 63, 2) := by decide +kernel
theorem d_Di_round_3 : decode b_Di_round 3 = .ok (.iand, 1) := by decide +kernel
theorem d_Di_round_4 : decode b_Di_round 4 = .ok (.ireturn, 1) := by decide +kernel
theorem d_Di_dx_0 : decode b_Di_dx 0 = .ok (.getstatic 9, 3) := by decide +kernel
theorem d_Di_dx_3 : decode b_Di_dx 3 = .ok (.iload_n 0, 1) := by decide +kernel
theorem d_Di_dx_4 : decode b_Di_dx 4 = .ok (.bipush 63, 2) := by decide +kernel
theorem d_Di_dx_6 : decode b_Di_dx 6 = .ok (.iand, 1) := by decide +kernel
theorem d_Di_dx_7 : decode b_Di_dx 7 = .ok (.iaload, 1) := by decide +kernel
theorem d_Di_dx_8 : decode b_Di_dx 8 = .ok (.ireturn, 1) := by decide +kernel
theorem d_Di_dy_0 : decode b_Di_dy 0 = .ok (.getstatic 9, 3) := by decide +kernel
theorem d_Di_dy_3 : decode b_Di_dy 3 = .ok (.iload_n 0, 1) := by decide +kernel
theorem d_Di_dy_4 : decode b_Di_dy 4 = .ok (.bipush 16, 2) := by decide +kernel
theorem d_Di_dy_6 : decode b_Di_dy 6 = .ok (.isub, 1) := by decide +kernel
theorem d_Di_dy_7 : decode b_Di_dy 7 = .ok (.bipush 63, 2) := by decide +kernel
theorem d_Di_dy_9 : decode b_Di_dy 9 = .ok (.iand, 1) := by decide +kernel
theorem d_Di_dy_10 : decode b_Di_dy 10 = .ok (.iaload, 1) := by decide +kernel
theorem d_Di_dy_11 : decode b_Di_dy 11 = .ok (.ireturn, 1) := by decide +kernel
theorem d_Di_askew_0 : decode b_Di_askew 0 = .ok (.iload_n 0, 1) := by decide +kernel
theorem d_Di_askew_1 : decode b_Di_askew 1 = .ok (.iload_n 1, 1) := by decide +kernel
theorem d_Di_askew_2 : decode b_Di_askew 2 = .ok (.isub, 1) := by decide +kernel
theorem d_Di_askew_3 : decode b_Di_askew 3 = .ok (.bipush 32, 2) := by decide +kernel
theorem d_Di_askew_5 : decode b_Di_askew 5 = .ok (.iadd, 1) := by decide +kernel
theorem d_Di_askew_6 : decode b_Di_askew 6 = .ok (.bipush 63, 2) := by decide +kernel
theorem d_Di_askew_8 : decode b_Di_askew 8 = .ok (.iand, 1) := by decide +kernel
theorem d_Di_askew_9 : decode b_Di_askew 9 = .ok (.bipush 32, 2) := by decide +kernel
theorem d_Di_askew_11 : decode b_Di_askew 11 = .ok (.isub, 1) := by decide +kernel
theorem d_Di_askew_12 : decode b_Di_askew 12 = .ok (.ireturn, 1) := by decide +kernel
theorem d_Pl_init_0 : decode b_Pl_init 0 = .ok (.aload_n 0, 1) := by decide +kernel
theorem d_Pl_init_1 : decode b_Pl_init 1 = .ok (.invokespecial 3, 3) := by decide +kernel
theorem d_Pl_init_4 : decode b_Pl_init 4 = .ok (.aload_n 0, 1) := by decide +kernel
theorem d_Pl_init_5 : decode b_Pl_init 5 = .ok (.bipush 6, 2) := by decide +kernel
theorem d_Pl_init_7 : decode b_Pl_init 7 = .ok (.newarray .int, 2) := by decide +kernel
theorem d_Pl_init_9 : decode b_Pl_init 9 = .ok (.putfield 9, 3) := by decide +kernel
theorem d_Pl_init_12 : decode b_Pl_init 12 = .ok (.aload_n 0, 1) := by decide +kernel
theorem d_Pl_init_13 : decode b_Pl_init 13 = .ok (.bipush 6, 2) := by decide +kernel
theorem d_Pl_init_15 : decode b_Pl_init 15 = .ok (.newarray .int, 2) := by decide +kernel
theorem d_Pl_init_17 : decode b_Pl_init 17 = .ok (.putfield 15, 3) := by decide +kernel
theorem d_Pl_init_20 : decode b_Pl_init 20 = .ok (.aload_n 0, 1) := by decide +kernel
theorem d_Pl_init_21 : decode b_Pl_init 21 = .ok (.bipush 6, 2) := by decide +kernel
theorem d_Pl_init_23 : decode b_Pl_init 23 = .ok (.newarray .boolean, 2) := by decide +kernel
theorem d_Pl_init_25 : decode b_Pl_init 25 = .ok (.putfield 18, 3) := by decide +kernel
theorem d_Pl_init_28 : decode b_Pl_init 28 = .ok (.return_, 1) := by decide +kernel
theorem d_Pl_add_0 : decode b_Pl_add 0 = .ok (.aload_n 0, 1) := by decide +kernel
theorem d_Pl_add_1 : decode b_Pl_add 1 = .ok (.getfield 22, 3) := by decide +kernel
theorem d_Pl_add_4 : decode b_Pl_add 4 = .ok (.bipush 6, 2) := by decide +kernel
theorem d_Pl_add_6 : decode b_Pl_add 6 = .ok (.if_icmp .lt 5, 3) := by decide +kernel
theorem d_Pl_add_9 : decode b_Pl_add 9 = .ok (.iconst 0, 1) := by decide +kernel
theorem d_Pl_add_10 : decode b_Pl_add 10 = .ok (.ireturn, 1) := by decide +kernel
theorem d_Pl_add_11 : decode b_Pl_add 11 = .ok (.aload_n 0, 1) := by decide +kernel
theorem d_Pl_add_12 : decode b_Pl_add 12 = .ok (.getfield 9, 3) := by decide +kernel
theorem d_Pl_add_15 : decode b_Pl_add 15 = .ok (.aload_n 0, 1) := by decide +kernel
theorem d_Pl_add_16 : decode b_Pl_add 16 = .ok (.getfield 22, 3) := by decide +kernel
theorem d_Pl_add_19 : decode b_Pl_add 19 = .ok (.iload_n 1, 1) := by decide +kernel
theorem d_Pl_add_20 : decode b_Pl_add 20 = .ok (.iastore, 1) := by decide +kernel
theorem d_Pl_add_21 : decode b_Pl_add 21 = .ok (.aload_n 0, 1) := by decide +kernel
theorem d_Pl_add_22 : decode b_Pl_add 22 = .ok (.getfield 15, 3) := by decide +kernel
theorem d_Pl_add_25 : decode b_Pl_add 25 = .ok (.aload_n 0, 1) := by decide +kernel
theorem d_Pl_add_26 : decode b_Pl_add 26 = .ok (.getfield 22, 3) := by decide +kernel
theorem d_Pl_add_29 : decode b_Pl_add 29 = .ok (.iload_n 2, 1) := by decide +kernel
theorem d_Pl_add_30 : decode b_Pl_add 30 = .ok (.iastore, 1) := by decide +kernel
theorem d_Pl_add_31 : decode b_Pl_add 31 = .ok (.aload_n 0, 1) := by decide +kernel
theorem d_Pl_add_32 : decode b_Pl_add 32 = .ok (.getfield 18, 3) := by decide +kernel
theorem d_Pl_add_35 : decode b_Pl_add 35 = .ok (.aload_n 0, 1) := by decide +kernel
theorem d_Pl_add_36 : decode b_Pl_add 36 = .ok (.getfield 22, 3) := by decide +kernel
theorem d_Pl_add_39 : decode b_Pl_add 39 = .ok (.iload_n 3, 1) := by decide +kernel
theorem d_Pl_add_40 : decode b_Pl_add 40 = .ok (.bastore, 1) := by decide +kernel
theorem d_Pl_add_41 : decode b_Pl_add 41 = .ok (.aload_n 0, 1) := by decide +kernel
theorem d_Pl_add_42 : decode b_Pl_add 42 = .ok (.dup, 1) := by decide +kernel
theorem d_Pl_add_43 : decode b_Pl_add 43 = .ok (.getfield 22, 3) := by decide +kernel
theorem d_Pl_add_46 : decode b_Pl_add 46 = .ok (.iconst 1, 1) := by decide +kernel
theorem d_Pl_add_47 : decode b_Pl_add 47 = .ok (.iadd, 1) := by decide +kernel
theorem d_Pl_add_48 : decode b_Pl_add 48 = .ok (.putfield 22, 3) := by decide +kernel
theorem d_Pl_add_51 : decode b_Pl_add 51 = .ok (.iconst 1, 1) := by decide +kernel
theorem d_Pl_add_52 : decode b_Pl_add 52 = .ok (.ireturn, 1) := by decide +kernel
theorem d_Po_init_0 : decode b_Po_init 0 = .ok (.aload_n 0, 1) := by decide +kernel
theorem d_Po_init_1 : decode b_Po_init 1 = .ok (.invokespecial 1, 3) := by decide +kernel
theorem d_Po_init_4 : decode b_Po_init 4 = .ok (.return_, 1) := by decide +kernel
theorem d_Ru_init_0 : decode b_Ru_init 0 = .ok (.aload_n 0, 1) := by decide +kernel
theorem d_Ru_init_1 : decode b_Ru_init 1 = .ok (.invokespecial 3, 3) := by decide +kernel
theorem d_Ru_init_4 : decode b_Ru_init 4 = .ok (.aload_n 0, 1) := by decide +kernel
theorem d_Ru_init_5 : decode b_Ru_init 5 = .ok (.iconst 3, 1) := by decide +kernel
theorem d_Ru_init_6 : decode b_Ru_init 6 = .ok (.anewarray 9, 3) := by decide +kernel
theorem d_Ru_init_9 : decode b_Ru_init 9 = .ok (.dup, 1) := by decide +kernel
theorem d_Ru_init_10 : decode b_Ru_init 10 = .ok (.iconst 0, 1) := by decide +kernel
theorem d_Ru_init_11 : decode b_Ru_init 11 = .ok (.new 9, 3) := by decide +kernel
theorem d_Ru_init_14 : decode b_Ru_init 14 = .ok (.dup, 1) := by decide +kernel
theorem d_Ru_init_15 : decode b_Ru_init 15 = .ok (.invokespecial 11, 3) := by decide +kernel
theorem d_Ru_init_18 : decode b_Ru_init 18 = .ok (.aastore, 1) := by decide +kernel
theorem d_Ru_init_19 : decode b_Ru_init 19 = .ok (.dup, 1) := by decide +kernel
theorem d_Ru_init_20 : decode b_Ru_init 20 = .ok (.iconst 1, 1) := by decide +kernel
theorem d_Ru_init_21 : decode b_Ru_init 21 = .ok (.new 9, 3) := by decide +kernel
theorem d_Ru_init_24 : decode b_Ru_init 24 = .ok (.dup, 1) := by decide +kernel
theorem d_Ru_init_25 : decode b_Ru_init 25 = .ok (.invokespecial 11, 3) := by decide +kernel
theorem d_Ru_init_28 : decode b_Ru_init 28 = .ok (.aastore, 1) := by decide +kernel
theorem d_Ru_init_29 : decode b_Ru_init 29 = .ok (.dup, 1) := by decide +kernel
theorem d_Ru_init_30 : decode b_Ru_init 30 = .ok (.iconst 2, 1) := by decide +kernel
theorem d_Ru_init_31 : decode b_Ru_init 31 = .ok (.new 9, 3) := by decide +kernel
theorem d_Ru_init_34 : decode b_Ru_init 34 = .ok (.dup, 1) := by decide +kernel
theorem d_Ru_init_35 : decode b_Ru_init 35 = .ok (.invokespecial 11, 3) := by decide +kernel
theorem d_Ru_init_38 : decode b_Ru_init 38 = .ok (.aastore, 1) := by decide +kernel
theorem d_Ru_init_39 : decode b_Ru_init 39 = .ok (.putfield 12, 3) := by decide +kernel
theorem d_Ru_init_42 : decode b_Ru_init 42 = .ok (.aload_n 0, 1) := by decide +kernel
theorem d_Ru_init_43 : decode b_Ru_init 43 = .ok (.new 18, 3) := by decide +kernel
theorem d_Ru_init_46 : decode b_Ru_init 46 = .ok (.dup, 1) := by decide +kernel
theorem d_Ru_init_47 : decode b_Ru_init 47 = .ok (.invokespecial 20, 3) := by decide +kernel
theorem d_Ru_init_50 : decode b_Ru_init 50 = .ok (.putfield 21, 3) := by decide +kernel
theorem d_Ru_init_53 : decode b_Ru_init 53 = .ok (.aload_n 0, 1) := by decide +kernel
theorem d_Ru_init_54 : decode b_Ru_init 54 = .ok (.iconst (-1), 1) := by decide +kernel
theorem d_Ru_init_55 : decode b_Ru_init 55 = .ok (.putfield 25, 3) := by decide +kernel
theorem d_Ru_init_58 : decode b_Ru_init 58 = .ok (.aload_n 0, 1) := by decide +kernel
theorem d_Ru_init_59 : decode b_Ru_init 59 = .ok (.iconst (-1), 1) := by decide +kernel
theorem d_Ru_init_60 : decode b_Ru_init 60 = .ok (.putfield 29, 3) := by decide +kernel
theorem d_Ru_init_63 : decode b_Ru_init 63 = .ok (.aload_n 0, 1) := by decide +kernel
theorem d_Ru_init_64 : decode b_Ru_init 64 = .ok (.iconst (-1), 1) := by decide +kernel
theorem d_Ru_init_65 : decode b_Ru_init 65 = .ok (.putfield 32, 3) := by decide +kernel
theorem d_Ru_init_68 : decode b_Ru_init 68 = .ok (.aload_n 0, 1) := by decide +kernel
theorem d_Ru_init_69 : decode b_Ru_init 69 = .ok (.aload_n 1, 1) := by decide +kernel
theorem d_Ru_init_70 : decode b_Ru_init 70 = .ok (.putfield 35, 3) := by decide +kernel
theorem d_Ru_init_73 : decode b_Ru_init 73 = .ok (.return_, 1) := by decide +kernel
theorem d_Ru_begin_0 : decode b_Ru_begin 0 = .ok (.aload_n 0, 1) := by decide +kernel
theorem d_Ru_begin_1 : decode b_Ru_begin 1 = .ok (.iconst 0, 1) := by decide +kernel
theorem d_Ru_begin_2 : decode b_Ru_begin 2 = .ok (.putfield 39, 3) := by decide +kernel
theorem d_Ru_begin_5 : decode b_Ru_begin 5 = .ok (.aload_n 0, 1) := by decide +kernel
theorem d_Ru_begin_6 : decode b_Ru_begin 6 = .ok (.iconst 0, 1) := by decide +kernel
theorem d_Ru_begin_7 : decode b_Ru_begin 7 = .ok (.putfield 42, 3) := by decide +kernel
theorem d_Ru_begin_10 : decode b_Ru_begin 10 = .ok (.aload_n 0, 1) := by decide +kernel
theorem d_Ru_begin_11 : decode b_Ru_begin 11 = .ok (.iconst (-1), 1) := by decide +kernel
theorem d_Ru_begin_12 : decode b_Ru_begin 12 = .ok (.putfield 25, 3) := by decide +kernel
theorem d_Ru_begin_15 : decode b_Ru_begin 15 = .ok (.aload_n 0, 1) := by decide +kernel
theorem d_Ru_begin_16 : decode b_Ru_begin 16 = .ok (.iconst (-1), 1) := by decide +kernel
theorem d_Ru_begin_17 : decode b_Ru_begin 17 = .ok (.putfield 29, 3) := by decide +kernel
theorem d_Ru_begin_20 : decode b_Ru_begin 20 = .ok (.aload_n 0, 1) := by decide +kernel
theorem d_Ru_begin_21 : decode b_Ru_begin 21 = .ok (.iconst (-1), 1) := by decide +kernel
theorem d_Ru_begin_22 : decode b_Ru_begin 22 = .ok (.putfield 32, 3) := by decide +kernel
theorem d_Ru_begin_25 : decode b_Ru_begin 25 = .ok (.aload_n 0, 1) := by decide +kernel
theorem d_Ru_begin_26 : decode b_Ru_begin 26 = .ok (.getfield 21, 3) := by decide +kernel
theorem d_Ru_begin_29 : decode b_Ru_begin 29 = .ok (.invokevirtual 46, 3) := by decide +kernel
theorem d_Ru_begin_32 : decode b_Ru_begin 32 = .ok (.iconst 0, 1) := by decide +kernel
theorem d_Ru_begin_33 : decode b_Ru_begin 33 = .ok (.istore_n 1, 1) := by decide +kernel
theorem d_Ru_begin_34 : decode b_Ru_begin 34 = .ok (.iload_n 1, 1) := by decide +kernel
theorem d_Ru_begin_35 : decode b_Ru_begin 35 = .ok (.aload_n 0, 1) := by decide +kernel
theorem d_Ru_begin_36 : decode b_Ru_begin 36 = .ok (.getfield 35, 3) := by decide +kernel
theorem d_Ru_begin_39 : decode b_Ru_begin 39 = .ok (.getfield 49, 3) := by decide +kernel
theorem d_Ru_begin_42 : decode b_Ru_begin 42 = .ok (.if_icmp .ge 37, 3) := by decide +kernel
theorem d_Ru_begin_45 : decode b_Ru_begin 45 = .ok (.aload_n 0, 1) := by decide +kernel
theorem d_Ru_begin_46 : decode b_Ru_begin 46 = .ok (.getfield 12, 3) := by decide +kernel
theorem d_Ru_begin_49 : decode b_Ru_begin 49 = .ok (.iload_n 1, 1) := by decide +kernel
theorem d_Ru_begin_50 : decode b_Ru_begin 50 = .ok (.aaload, 1) := by decide +kernel
theorem d_Ru_begin_51 : decode b_Ru_begin 51 = .ok (.astore_n 2, 1) := by decide +kernel
theorem d_Ru_begin_52 : decode b_Ru_begin 52 = .ok (.aload_n 2, 1) := by decide +kernel
theorem d_Ru_begin_53 : decode b_Ru_begin 53 = .ok (.aload_n 0, 1) := by decide +kernel
theorem d_Ru_begin_54 : decode b_Ru_begin 54 = .ok (.getfield 35, 3) := by decide +kernel
theorem d_Ru_begin_57 : decode b_Ru_begin 57 = .ok (.getfield 54, 3) := by decide +kernel
theorem d_Ru_begin_60 : decode b_Ru_begin 60 = .ok (.putfield 57, 3) := by decide +kernel
theorem d_Ru_begin_63 : decode b_Ru_begin 63 = .ok (.aload_n 2, 1) := by decide +kernel
theorem d_Ru_begin_64 : decode b_Ru_begin 64 = .ok (.iconst 0, 1) := by decide +kernel
end
section
theorem d_Ru_begin_65 : decode b_Ru_begin 65 = .ok (.putfield 60, 3) := by decide +kernel
theorem d_Ru_begin_68 : decode b_Ru_begin 68 = .ok (.aload_n 2, 1) := by decide +kernel
theorem d_Ru_begin_69 : decode b_Ru_begin 69 = .ok (.iconst 0, 1) := by decide +kernel
theorem d_Ru_begin_70 : decode b_Ru_begin 70 = .ok (.putfield 63, 3) := by decide +kernel
theorem d_Ru_begin_73 : decode b_Ru_begin 73 = .ok (.iinc 1 1, 3) := by decide +kernel
theorem d_Ru_begin_76 : decode b_Ru_begin 76 = .ok (.goto (-42), 3) := by decide +kernel
theorem d_Ru_begin_79 : decode b_Ru_begin 79 = .ok (.aload_n 0, 1) := by decide +kernel
theorem d_Ru_begin_80 : decode b_Ru_begin 80 = .ok (.getfield 12, 3) := by decide +kernel
theorem d_Ru_begin_83 : decode b_Ru_begin 83 = .ok (.iconst 0, 1) := by decide +kernel
theorem d_Ru_begin_84 : decode b_Ru_begin 84 = .ok (.aaload, 1) := by decide +kernel
theorem d_Ru_begin_85 : decode b_Ru_begin 85 = .ok (.aload_n 0, 1) := by decide +kernel
theorem d_Ru_begin_86 : decode b_Ru_begin 86 = .ok (.getfield 35, 3) := by decide +kernel
theorem d_Ru_begin_89 : decode b_Ru_begin 89 = .ok (.getfield 66, 3) := by decide +kernel
theorem d_Ru_begin_92 : decode b_Ru_begin 92 = .ok (.sipush 4096, 3) := by decide +kernel
theorem d_Ru_begin_95 : decode b_Ru_begin 95 = .ok (.imul, 1) := by decide +kernel
theorem d_Ru_begin_96 : decode b_Ru_begin 96 = .ok (.putfield 69, 3) := by decide +kernel
theorem d_Ru_begin_99 : decode b_Ru_begin 99 = .ok (.aload_n 0, 1) := by decide +kernel
theorem d_Ru_begin_100 : decode b_Ru_begin 100 = .ok (.getfield 12, 3) := by decide +kernel
theorem d_Ru_begin_103 : decode b_Ru_begin 103 = .ok (.iconst 0, 1) := by decide +kernel
theorem d_Ru_begin_104 : decode b_Ru_begin 104 = .ok (.aaload, 1) := by decide +kernel
theorem d_Ru_begin_105 : decode b_Ru_begin 105 = .ok (.aload_n 0, 1) := by decide +kernel
theorem d_Ru_begin_106 : decode b_Ru_begin 106 = .ok (.getfield 35, 3) := by decide +kernel
theorem d_Ru_begin_109 : decode b_Ru_begin 109 = .ok (.getfield 72, 3) := by decide +kernel
theorem d_Ru_begin_112 : decode b_Ru_begin 112 = .ok (.sipush 4096, 3) := by decide +kernel
theorem d_Ru_begin_115 : decode b_Ru_begin 115 = .ok (.imul, 1) := by decide +kernel
theorem d_Ru_begin_116 : decode b_Ru_begin 116 = .ok (.putfield 75, 3) := by decide +kernel
theorem d_Ru_begin_119 : decode b_Ru_begin 119 = .ok (.aload_n 0, 1) := by decide +kernel
theorem d_Ru_begin_120 : decode b_Ru_begin 120 = .ok (.invokevirtual 78, 3) := by decide +kernel
theorem d_Ru_begin_123 : decode b_Ru_begin 123 = .ok (.aload_n 0, 1) := by decide +kernel
theorem d_Ru_begin_124 : decode b_Ru_begin 124 = .ok (.invokevirtual 81, 3) := by decide +kernel
theorem d_Ru_begin_127 : decode b_Ru_begin 127 = .ok (.return_, 1) := by decide +kernel
theorem d_Ru_follow_0 : decode b_Ru_follow 0 = .ok (.aload_n 0, 1) := by decide +kernel
theorem d_Ru_follow_1 : decode b_Ru_follow 1 = .ok (.invokevirtual 84, 3) := by decide +kernel
theorem d_Ru_follow_4 : decode b_Ru_follow 4 = .ok (.iconst 0, 1) := by decide +kernel
theorem d_Ru_follow_5 : decode b_Ru_follow 5 = .ok (.istore_n 2, 1) := by decide +kernel
theorem d_Ru_follow_6 : decode b_Ru_follow 6 = .ok (.iload_n 2, 1) := by decide +kernel
theorem d_Ru_follow_7 : decode b_Ru_follow 7 = .ok (.aload_n 1, 1) := by decide +kernel
theorem d_Ru_follow_8 : decode b_Ru_follow 8 = .ok (.getfield 87, 3) := by decide +kernel
theorem d_Ru_follow_11 : decode b_Ru_follow 11 = .ok (.if_icmp .ge 31, 3) := by decide +kernel
theorem d_Ru_follow_14 : decode b_Ru_follow 14 = .ok (.aload_n 0, 1) := by decide +kernel
theorem d_Ru_follow_15 : decode b_Ru_follow 15 = .ok (.aload_n 1, 1) := by decide +kernel
theorem d_Ru_follow_16 : decode b_Ru_follow 16 = .ok (.getfield 92, 3) := by decide +kernel
theorem d_Ru_follow_19 : decode b_Ru_follow 19 = .ok (.iload_n 2, 1) := by decide +kernel
theorem d_Ru_follow_20 : decode b_Ru_follow 20 = .ok (.iaload, 1) := by decide +kernel
theorem d_Ru_follow_21 : decode b_Ru_follow 21 = .ok (.aload_n 1, 1) := by decide +kernel
theorem d_Ru_follow_22 : decode b_Ru_follow 22 = .ok (.getfield 96, 3) := by decide +kernel
theorem d_Ru_follow_25 : decode b_Ru_follow 25 = .ok (.iload_n 2, 1) := by decide +kernel
theorem d_Ru_follow_26 : decode b_Ru_follow 26 = .ok (.iaload, 1) := by decide +kernel
theorem d_Ru_follow_27 : decode b_Ru_follow 27 = .ok (.aload_n 1, 1) := by decide +kernel
theorem d_Ru_follow_28 : decode b_Ru_follow 28 = .ok (.getfield 99, 3) := by decide +kernel
theorem d_Ru_follow_31 : decode b_Ru_follow 31 = .ok (.iload_n 2, 1) := by decide +kernel
theorem d_Ru_follow_32 : decode b_Ru_follow 32 = .ok (.baload, 1) := by decide +kernel
theorem d_Ru_follow_33 : decode b_Ru_follow 33 = .ok (.invokevirtual 103, 3) := by decide +kernel
theorem d_Ru_follow_36 : decode b_Ru_follow 36 = .ok (.iinc 2 1, 3) := by decide +kernel
theorem d_Ru_follow_39 : decode b_Ru_follow 39 = .ok (.goto (-33), 3) := by decide +kernel
theorem d_Ru_follow_42 : decode b_Ru_follow 42 = .ok (.return_, 1) := by decide +kernel
theorem d_Ru_walk_0 : decode b_Ru_walk 0 = .ok (.iload_n 3, 1) := by decide +kernel
theorem d_Ru_walk_1 : decode b_Ru_walk 1 = .ok (.ifCond .eq 7, 3) := by decide +kernel
theorem d_Ru_walk_4 : decode b_Ru_walk 4 = .ok (.iconst 1, 1) := by decide +kernel
theorem d_Ru_walk_5 : decode b_Ru_walk 5 = .ok (.goto 4, 3) := by decide +kernel
theorem d_Ru_walk_8 : decode b_Ru_walk 8 = .ok (.iconst (-1), 1) := by decide +kernel
theorem d_Ru_walk_9 : decode b_Ru_walk 9 = .ok (.istore 4, 2) := by decide +kernel
theorem d_Ru_walk_11 : decode b_Ru_walk 11 = .ok (.iconst 0, 1) := by decide +kernel
theorem d_Ru_walk_12 : decode b_Ru_walk 12 = .ok (.istore 5, 2) := by decide +kernel
theorem d_Ru_walk_14 : decode b_Ru_walk 14 = .ok (.iload 5, 2) := by decide +kernel
theorem d_Ru_walk_16 : decode b_Ru_walk 16 = .ok (.iload_n 2, 1) := by decide +kernel
theorem d_Ru_walk_17 : decode b_Ru_walk 17 = .ok (.if_icmp .ge 52, 3) := by decide +kernel
theorem d_Ru_walk_20 : decode b_Ru_walk 20 = .ok (.aload_n 0, 1) := by decide +kernel
theorem d_Ru_walk_21 : decode b_Ru_walk 21 = .ok (.getfield 42, 3) := by decide +kernel
theorem d_Ru_walk_24 : decode b_Ru_walk 24 = .ok (.ifCond .ne 45, 3) := by decide +kernel
theorem d_Ru_walk_27 : decode b_Ru_walk 27 = .ok (.aload_n 0, 1) := by decide +kernel
theorem d_Ru_walk_28 : decode b_Ru_walk 28 = .ok (.getfield 39, 3) := by decide +kernel
theorem d_Ru_walk_31 : decode b_Ru_walk 31 = .ok (.sipush 4000, 3) := by decide +kernel
theorem d_Ru_walk_34 : decode b_Ru_walk 34 = .ok (.if_icmp .ge 35, 3) := by decide +kernel
theorem d_Ru_walk_37 : decode b_Ru_walk 37 = .ok (.aload_n 0, 1) := by decide +kernel
theorem d_Ru_walk_38 : decode b_Ru_walk 38 = .ok (.iload 4, 2) := by decide +kernel
theorem d_Ru_walk_40 : decode b_Ru_walk 40 = .ok (.iload_n 1, 1) := by decide +kernel
theorem d_Ru_walk_41 : decode b_Ru_walk 41 = .ok (.imul, 1) := by decide +kernel
theorem d_Ru_walk_42 : decode b_Ru_walk 42 = .ok (.iload 4, 2) := by decide +kernel
theorem d_Ru_walk_44 : decode b_Ru_walk 44 = .ok (.aload_n 0, 1) := by decide +kernel
theorem d_Ru_walk_45 : decode b_Ru_walk 45 = .ok (.getfield 35, 3) := by decide +kernel
theorem d_Ru_walk_48 : decode b_Ru_walk 48 = .ok (.getfield 107, 3) := by decide +kernel
theorem d_Ru_walk_51 : decode b_Ru_walk 51 = .ok (.imul, 1) := by decide +kernel
theorem d_Ru_walk_52 : decode b_Ru_walk 52 = .ok (.invokevirtual 110, 3) := by decide +kernel
theorem d_Ru_walk_55 : decode b_Ru_walk 55 = .ok (.aload_n 0, 1) := by decide +kernel
theorem d_Ru_walk_56 : decode b_Ru_walk 56 = .ok (.invokevirtual 114, 3) := by decide +kernel
theorem d_Ru_walk_59 : decode b_Ru_walk 59 = .ok (.aload_n 0, 1) := by decide +kernel
theorem d_Ru_walk_60 : decode b_Ru_walk 60 = .ok (.invokevirtual 81, 3) := by decide +kernel
theorem d_Ru_walk_63 : decode b_Ru_walk 63 = .ok (.iinc 5 1, 3) := by decide +kernel
theorem d_Ru_walk_66 : decode b_Ru_walk 66 = .ok (.goto (-52), 3) := by decide +kernel
theorem d_Ru_walk_69 : decode b_Ru_walk 69 = .ok (.return_, 1) := by decide +kernel
theorem d_Ru_isFaultless_0 : decode b_Ru_isFaultless 0 = .ok (.aload_n 0, 1) := by decide +kernel
theorem d_Ru_isFaultless_1 : decode b_Ru_isFaultless 1 = .ok (.getfield 42, 3) := by decide +kernel
theorem d_Ru_isFaultless_4 : decode b_Ru_isFaultless 4 = .ok (.ifCond .ne 15, 3) := by decide +kernel
theorem d_Ru_isFaultless_7 : decode b_Ru_isFaultless 7 = .ok (.aload_n 0, 1) := by decide +kernel
theorem d_Ru_isFaultless_8 : decode b_Ru_isFaultless 8 = .ok (.getfield 25, 3) := by decide +kernel
theorem d_Ru_isFaultless_11 : decode b_Ru_isFaultless 11 = .ok (.iconst (-1), 1) := by decide +kernel
theorem d_Ru_isFaultless_12 : decode b_Ru_isFaultless 12 = .ok (.if_icmp .ne 7, 3) := by decide +kernel
theorem d_Ru_isFaultless_15 : decode b_Ru_isFaultless 15 = .ok (.iconst 1, 1) := by decide +kernel
theorem d_Ru_isFaultless_16 : decode b_Ru_isFaultless 16 = .ok (.goto 4, 3) := by decide +kernel
theorem d_Ru_isFaultless_19 : decode b_Ru_isFaultless 19 = .ok (.iconst 0, 1) := by decide +kernel
theorem d_Ru_isFaultless_20 : decode b_Ru_isFaultless 20 = .ok (.ireturn, 1) := by decide +kernel
theorem d_Ru_askewOf_0 : decode b_Ru_askewOf 0 = .ok (.iload_n 1, 1) := by decide +kernel
theorem d_Ru_askewOf_1 : decode b_Ru_askewOf 1 = .ok (.iconst 1, 1) := by decide +kernel
theorem d_Ru_askewOf_2 : decode b_Ru_askewOf 2 = .ok (.if_icmp .ge 7, 3) := by decide +kernel
theorem d_Ru_askewOf_5 : decode b_Ru_askewOf 5 = .ok (.iconst 0, 1) := by decide +kernel
theorem d_Ru_askewOf_6 : decode b_Ru_askewOf 6 = .ok (.goto 26, 3) := by decide +kernel
theorem d_Ru_askewOf_9 : decode b_Ru_askewOf 9 = .ok (.aload_n 0, 1) := by decide +kernel
theorem d_Ru_askewOf_10 : decode b_Ru_askewOf 10 = .ok (.getfield 12, 3) := by decide +kernel
theorem d_Ru_askewOf_13 : decode b_Ru_askewOf 13 = .ok (.iload_n 1, 1) := by decide +kernel
theorem d_Ru_askewOf_14 : decode b_Ru_askewOf 14 = .ok (.iconst 1, 1) := by decide +kernel
theorem d_Ru_askewOf_15 : decode b_Ru_askewOf 15 = .ok (.isub, 1) := by decide +kernel
theorem d_Ru_askewOf_16 : decode b_Ru_askewOf 16 = .ok (.aaload, 1) := by decide +kernel
theorem d_Ru_askewOf_17 : decode b_Ru_askewOf 17 = .ok (.getfield 57, 3) := by decide +kernel
theorem d_Ru_askewOf_20 : decode b_Ru_askewOf 20 = .ok (.aload_n 0, 1) := by decide +kernel
theorem d_Ru_askewOf_21 : decode b_Ru_askewOf 21 = .ok (.getfield 12, 3) := by decide +kernel
theorem d_Ru_askewOf_24 : decode b_Ru_askewOf 24 = .ok (.iload_n 1, 1) := by decide +kernel
theorem d_Ru_askewOf_25 : decode b_Ru_askewOf 25 = .ok (.aaload, 1) := by decide +kernel
theorem d_Ru_askewOf_26 : decode b_Ru_askewOf 26 = .ok (.getfield 57, 3) := by decide +kernel
theorem d_Ru_askewOf_29 : decode b_Ru_askewOf 29 = .ok (.invokestatic 117, 3) := by decide +kernel
theorem d_Ru_askewOf_32 : decode b_Ru_askewOf 32 = .ok (.ireturn, 1) := by decide +kernel
theorem d_Ru_move_0 : decode b_Ru_move 0 = .ok (.aload_n 0, 1) := by decide +kernel
theorem d_Ru_move_1 : decode b_Ru_move 1 = .ok (.getfield 12, 3) := by decide +kernel
theorem d_Ru_move_4 : decode b_Ru_move 4 = .ok (.iconst 0, 1) := by decide +kernel
theorem d_Ru_move_5 : decode b_Ru_move 5 = .ok (.aaload, 1) := by decide +kernel
theorem d_Ru_move_6 : decode b_Ru_move 6 = .ok (.astore_n 3, 1) := by decide +kernel
theorem d_Ru_move_7 : decode b_Ru_move 7 = .ok (.aload_n 3, 1) := by decide +kernel
theorem d_Ru_move_8 : decode b_Ru_move 8 = .ok (.dup, 1) := by decide +kernel
theorem d_Ru_move_9 : decode b_Ru_move 9 = .ok (.getfield 69, 3) := by decide +kernel
theorem d_Ru_move_12 : decode b_Ru_move 12 = .ok (.iload_n 2, 1) := by decide +kernel
theorem d_Ru_move_13 : decode b_Ru_move 13 = .ok (.aload_n 3, 1) := by decide +kernel
theorem d_Ru_move_14 : decode b_Ru_move 14 = .ok (.getfield 57, 3) := by decide +kernel
theorem d_Ru_move_17 : decode b_Ru_move 17 = .ok (.invokestatic 123, 3) := by decide +kernel
theorem d_Ru_move_20 : decode b_Ru_move 20 = .ok (.imul, 1) := by decide +kernel
theorem d_Ru_move_21 : decode b_Ru_move 21 = .ok (.iadd, 1) := by decide +kernel
theorem d_Ru_move_22 : decode b_Ru_move 22 = .ok (.putfield 69, 3) := by decide +kernel
theorem d_Ru_move_25 : decode b_Ru_move 25 = .ok (.aload_n 3, 1) := by decide +kernel
theorem d_Ru_move_26 : decode b_Ru_move 26 = .ok (.dup, 1) := by decide +kernel
theorem d_Ru_move_27 : decode b_Ru_move 27 = .ok (.getfield 75, 3) := by decide +kernel
theorem d_Ru_move_30 : decode b_Ru_move 30 = .ok (.iload_n 2, 1) := by decide +kernel
theorem d_Ru_move_31 : decode b_Ru_move 31 = .ok (.aload_n 3, 1) := by decide +kernel
theorem d_Ru_move_32 : decode b_Ru_move 32 = .ok (.getfield 57, 3) := by decide +kernel
theorem d_Ru_move_35 : decode b_Ru_move 35 = .ok (.invokestatic 127, 3) := by decide +kernel
theorem d_Ru_move_38 : decode b_Ru_move 38 = .ok (.imul, 1) := by decide +kernel
theorem d_Ru_move_39 : decode b_Ru_move 39 = .ok (.iadd, 1) := by decide +kernel
theorem d_Ru_move_40 : decode b_Ru_move 40 = .ok (.putfield 75, 3) := by decide +kernel
theorem d_Ru_move_43 : decode b_Ru_move 43 = .ok (.aload_n 3, 1) := by decide +kernel
theorem d_Ru_move_44 : decode b_Ru_move 44 = .ok (.aload_n 3, 1) := by decide +kernel
theorem d_Ru_move_45 : decode b_Ru_move 45 = .ok (.getfield 57, 3) := by decide +kernel
theorem d_Ru_move_48 : decode b_Ru_move 48 = .ok (.iload_n 1, 1) := by decide +kernel
theorem d_Ru_move_49 : decode b_Ru_move 49 = .ok (.iadd, 1) := by decide +kernel
theorem d_Ru_move_50 : decode b_Ru_move 50 = .ok (.invokestatic 130, 3) := by decide +kernel
theorem d_Ru_move_53 : decode b_Ru_move 53 = .ok (.putfield 57, 3) := by decide +kernel
theorem d_Ru_move_56 : decode b_Ru_move 56 = .ok (.iconst 1, 1) := by decide +kernel
theorem d_Ru_move_57 : decode b_Ru_move 57 = .ok (.istore 4, 2) := by decide +kernel
theorem d_Ru_move_59 : decode b_Ru_move 59 = .ok (.iload 4, 2) := by decide +kernel
theorem d_Ru_move_61 : decode b_Ru_move 61 = .ok (.aload_n 0, 1) := by decide +kernel
theorem d_Ru_move_62 : decode b_Ru_move 62 = .ok (.getfield 35, 3) := by decide +kernel
theorem d_Ru_move_65 : decode b_Ru_move 65 = .ok (.getfield 49, 3) := by decide +kernel
theorem d_Ru_move_68 : decode b_Ru_move 68 = .ok (.if_icmp .ge 16, 3) := by decide +kernel
theorem d_Ru_move_71 : decode b_Ru_move 71 = .ok (.aload_n 0, 1) := by decide +kernel
theorem d_Ru_move_72 : decode b_Ru_move 72 = .ok (.iload 4, 2) := by decide +kernel
theorem d_Ru_move_74 : decode b_Ru_move 74 = .ok (.iload_n 2, 1) := by decide +kernel
theorem d_Ru_move_75 : decode b_Ru_move 75 = .ok (.invokevirtual 133, 3) := by decide +kernel
theorem d_Ru_move_78 : decode b_Ru_move 78 = .ok (.iinc 4 1, 3) := by decide +kernel
theorem d_Ru_move_81 : decode b_Ru_move 81 = .ok (.goto (-22), 3) := by decide +kernel
theorem d_Ru_move_84 : decode b_Ru_move 84 = .ok (.aload_n 0, 1) := by decide +kernel
theorem d_Ru_move_85 : decode b_Ru_move 85 = .ok (.invokevirtual 78, 3) := by decide +kernel
theorem d_Ru_move_88 : decode b_Ru_move 88 = .ok (.aload_n 0, 1) := by decide +kernel
theorem d_Ru_move_89 : decode b_Ru_move 89 = .ok (.dup, 1) := by decide +kernel
theorem d_Ru_move_90 : decode b_Ru_move 90 = .ok (.getfield 39, 3) := by decide +kernel
theorem d_Ru_move_93 : decode b_Ru_move 93 = .ok (.iconst 1, 1) := by decide +kernel
theorem d_Ru_move_94 : decode b_Ru_move 94 = .ok (.iadd, 1) := by decide +kernel
theorem d_Ru_move_95 : decode b_Ru_move 95 = .ok (.putfield 39, 3) := by decide +kernel
theorem d_Ru_move_98 : decode b_Ru_move 98 = .ok (.return_, 1) := by decide +kernel
theorem d_Ru_swing_0 : decode b_Ru_swing 0 = .ok (.aload_n 0, 1) := by decide +kernel
theorem d_Ru_swing_1 : decode b_Ru_swing 1 = .ok (.getfield 12, 3) := by decide +kernel
theorem d_Ru_swing_4 : decode b_Ru_swing 4 = .ok (.iload_n 1, 1) := by decide +kernel
theorem d_Ru_swing_5 : decode b_Ru_swing 5 = .ok (.aaload, 1) := by decide +kernel
theorem d_Ru_swing_6 : decode b_Ru_swing 6 = .ok (.astore_n 3, 1) := by decide +kernel
theorem d_Ru_swing_7 : decode b_Ru_swing 7 = .ok (.aload_n 0, 1) := by decide +kernel
theorem d_Ru_swing_8 : decode b_Ru_swing 8 = .ok (.getfield 35, 3) := by decide +kernel
theorem d_Ru_swing_11 : decode b_Ru_swing 11 = .ok (.getfield 136, 3) := by decide +kernel
theorem d_Ru_swing_14 : decode b_Ru_swing 14 = .ok (.iload_n 1, 1) := by decide +kernel
theorem d_Ru_swing_15 : decode b_Ru_swing 15 = .ok (.aaload, 1) := by decide +kernel
theorem d_Ru_swing_16 : decode b_Ru_swing 16 = .ok (.astore 4, 2) := by decide +kernel
theorem d_Ru_swing_18 : decode b_Ru_swing 18 = .ok (.aload_n 3, 1) := by decide +kernel
theorem d_Ru_swing_19 : decode b_Ru_swing 19 = .ok (.getfield 60, 3) := by decide +kernel
theorem d_Ru_swing_22 : decode b_Ru_swing 22 = .ok (.aload_n 0, 1) := by decide +kernel
theorem d_Ru_swing_23 : decode b_Ru_swing 23 = .ok (.iload_n 1, 1) := by decide +kernel
theorem d_Ru_swing_24 : decode b_Ru_swing 24 = .ok (.invokevirtual 140, 3) := by decide +kernel
theorem d_Ru_swing_27 : decode b_Ru_swing 27 = .ok (.iload_n 2, 1) := by decide +kernel
theorem d_Ru_swing_28 : decode b_Ru_swing 28 = .ok (.imul, 1) := by decide +kernel
theorem d_Ru_swing_29 : decode b_Ru_swing 29 = .ok (.iadd, 1) := by decide +kernel
theorem d_Ru_swing_30 : decode b_Ru_swing 30 = .ok (.istore 5, 2) := by decide +kernel
theorem d_Ru_swing_32 : decode b_Ru_swing 32 = .ok (.aload 4, 2) := by decide +kernel
theorem d_Ru_swing_34 : decode b_Ru_swing 34 = .ok (.iload 5, 2) := by decide +kernel
theorem d_Ru_swing_36 : decode b_Ru_swing 36 = .ok (.invokevirtual 143, 3) := by decide +kernel
theorem d_Ru_swing_39 : decode b_Ru_swing 39 = .ok (.istore 6, 2) := by decide +kernel
theorem d_Ru_swing_41 : decode b_Ru_swing 41 = .ok (.aload_n 3, 1) := by decide +kernel
theorem d_Ru_swing_42 : decode b_Ru_swing 42 = .ok (.aload_n 3, 1) := by decide +kernel
theorem d_Ru_swing_43 : decode b_Ru_swing 43 = .ok (.getfield 57, 3) := by decide +kernel
theorem d_Ru_swing_46 : decode b_Ru_swing 46 = .ok (.iload 6, 2) := by decide +kernel
theorem d_Ru_swing_48 : decode b_Ru_swing 48 = .ok (.iadd, 1) := by decide +kernel
theorem d_Ru_swing_49 : decode b_Ru_swing 49 = .ok (.invokestatic 130, 3) := by decide +kernel
theorem d_Ru_swing_52 : decode b_Ru_swing 52 = .ok (.putfield 57, 3) := by decide +kernel
theorem d_Ru_swing_55 : decode b_Ru_swing 55 = .ok (.aload_n 3, 1) := by decide +kernel
theorem d_Ru_swing_56 : decode b_Ru_swing 56 = .ok (.iload 5, 2) := by decide +kernel
theorem d_Ru_swing_58 : decode b_Ru_swing 58 = .ok (.iload 6, 2) := by decide +kernel
theorem d_Ru_swing_60 : decode b_Ru_swing 60 = .ok (.aload 4, 2) := by decide +kernel
theorem d_Ru_swing_62 : decode b_Ru_swing 62 = .ok (.getfield 148, 3) := by decide +kernel
theorem d_Ru_swing_65 : decode b_Ru_swing 65 = .ok (.imul, 1) := by decide +kernel
theorem d_Ru_swing_66 : decode b_Ru_swing 66 = .ok (.isub, 1) := by decide +kernel
theorem d_Ru_swing_67 : decode b_Ru_swing 67 = .ok (.putfield 60, 3) := by decide +kernel
theorem d_Ru_swing_70 : decode b_Ru_swing 70 = .ok (.return_, 1) := by decide +kernel
theorem d_Ru_placeTrailers_0 : decode b_Ru_placeTrailers 0 = .ok (.iconst 1, 1) := by decide +kernel
theorem d_Ru_placeTrailers_1 : decode b_Ru_placeTrailers 1 = .ok (.istore_n 1, 1) := by decide +kernel
theorem d_Ru_placeTrailers_2 : decode b_Ru_placeTrailers 2 = .ok (.iload_n 1, 1) := by decide +kernel
theorem d_Ru_placeTrailers_3 : decode b_Ru_placeTrailers 3 = .ok (.aload_n 0, 1) := by decide +kernel
theorem d_Ru_placeTrailers_4 : decode b_Ru_placeTrailers 4 = .ok (.getfield 35, 3) := by decide +kernel
theorem d_Ru_placeTrailers_7 : decode b_Ru_placeTrailers 7 = .ok (.getfield 49, 3) := by decide +kernel
theorem d_Ru_placeTrailers_10 : decode b_Ru_placeTrailers 10 = .ok (.if_icmp .ge 115, 3) := by decide +kernel
theorem d_Ru_placeTrailers_13 : decode b_Ru_placeTrailers 13 = .ok (.aload_n 0, 1) := by decide +kernel
theorem d_Ru_placeTrailers_14 : decode b_Ru_placeTrailers 14 = .ok (.getfield 12, 3) := by decide +kernel
theorem d_Ru_placeTrailers_17 : decode b_Ru_placeTrailers 17 = .ok (.iload_n 1, 1) := by decide +kernel
theorem d_Ru_placeTrailers_18 : decode b_Ru_placeTrailers 18 = .ok (.iconst 1, 1) := by decide +kernel
theorem d_Ru_placeTrailers_19 : decode b_Ru_placeTrailers 19 = .ok (.isub, 1) := by decide +kernel
theorem d_Ru_placeTrailers_20 : decode b_Ru_placeTrailers 20 = .ok (.aaload, 1) := by decide +kernel
theorem d_Ru_placeTrailers_21 : decode b_Ru_placeTrailers 21 = .ok (.astore_n 2, 1) := by decide +kernel
theorem d_Ru_placeTrailers_22 : decode b_Ru_placeTrailers 22 = .ok (.aload_n 0, 1) := by decide +kernel
theorem d_Ru_placeTrailers_23 : decode b_Ru_placeTrailers 23 = .ok (.getfield 12, 3) := by decide +kernel
theorem d_Ru_placeTrailers_26 : decode b_Ru_placeTrailers 26 = .ok (.iload_n 1, 1) := by decide +kernel
theorem d_Ru_placeTrailers_27 : decode b_Ru_placeTrailers 27 = .ok (.aaload, 1) := by decide +kernel
theorem d_Ru_placeTrailers_28 : decode b_Ru_placeTrailers 28 = .ok (.astore_n 3, 1) := by decide +kernel
theorem d_Ru_placeTrailers_29 : decode b_Ru_placeTrailers 29 = .ok (.aload_n 0, 1) := by decide +kernel
theorem d_Ru_placeTrailers_30 : decode b_Ru_placeTrailers 30 = .ok (.getfield 35, 3) := by decide +kernel
theorem d_Ru_placeTrailers_33 : decode b_Ru_placeTrailers 33 = .ok (.getfield 136, 3) := by decide +kernel
theorem d_Ru_placeTrailers_36 : decode b_Ru_placeTrailers 36 = .ok (.iload_n 1, 1) := by decide +kernel
theorem d_Ru_placeTrailers_37 : decode b_Ru_placeTrailers 37 = .ok (.iconst 1, 1) := by decide +kernel
theorem d_Ru_placeTrailers_38 : decode b_Ru_placeTrailers 38 = .ok (.isub, 1) := by decide +kernel
theorem d_Ru_placeTrailers_39 : decode b_Ru_placeTrailers 39 = .ok (.aaload, 1) := by decide +kernel
theorem d_Ru_placeTrailers_40 : decode b_Ru_placeTrailers 40 = .ok (.getfield 151, 3) := by decide +kernel
theorem d_Ru_placeTrailers_43 : decode b_Ru_placeTrailers 43 = .ok (.istore 4, 2) := by decide +kernel
theorem d_Ru_placeTrailers_45 : decode b_Ru_placeTrailers 45 = .ok (.aload_n 0, 1) := by decide +kernel
theorem d_Ru_placeTrailers_46 : decode b_Ru_placeTrailers 46 = .ok (.getfield 35, 3) := by decide +kernel
theorem d_Ru_placeTrailers_49 : decode b_Ru_placeTrailers 49 = .ok (.getfield 136, 3) := by decide +kernel
theorem d_Ru_placeTrailers_52 : decode b_Ru_placeTrailers 52 = .ok (.iload_n 1, 1) := by decide +kernel
theorem d_Ru_placeTrailers_53 : decode b_Ru_placeTrailers 53 = .ok (.aaload, 1) := by decide +kernel
theorem d_Ru_placeTrailers_54 : decode b_Ru_placeTrailers 54 = .ok (.getfield 148, 3) := by decide +kernel
theorem d_Ru_placeTrailers_57 : decode b_Ru_placeTrailers 57 = .ok (.istore 5, 2) := by decide +kernel
theorem d_Ru_placeTrailers_59 : decode b_Ru_placeTrailers 59 = .ok (.aload_n 3, 1) := by decide +kernel
theorem d_Ru_placeTrailers_60 : decode b_Ru_placeTrailers 60 = .ok (.aload_n 2, 1) := by decide +kernel
theorem d_Ru_placeTrailers_61 : decode b_Ru_placeTrailers 61 = .ok (.getfield 69, 3) := by decide +kernel
theorem d_Ru_placeTrailers_64 : decode b_Ru_placeTrailers 64 = .ok (.iload 4, 2) := by decide +kernel
theorem d_Ru_placeTrailers_66 : decode b_Ru_placeTrailers 66 = .ok (.aload_n 2, 1) := by decide +kernel
theorem d_Ru_placeTrailers_67 : decode b_Ru_placeTrailers 67 = .ok (.getfield 57, 3) := by decide +kernel
theorem d_Ru_placeTrailers_70 : decode b_Ru_placeTrailers 70 = .ok (.invokestatic 123, 3) := by decide +kernel
theorem d_Ru_placeTrailers_73 : decode b_Ru_placeTrailers 73 = .ok (.imul, 1) := by decide +kernel
theorem d_Ru_placeTrailers_74 : decode b_Ru_placeTrailers 74 = .ok (.isub, 1) := by decide +kernel
theorem d_Ru_placeTrailers_75 : decode b_Ru_placeTrailers 75 = .ok (.iload 5, 2) := by decide +kernel
theorem d_Ru_placeTrailers_77 : decode b_Ru_placeTrailers 77 = .ok (.aload_n 3, 1) := by decide +kernel
theorem d_Ru_placeTrailers_78 : decode b_Ru_placeTrailers 78 = .ok (.getfield 57, 3) := by decide +kernel
theorem d_Ru_placeTrailers_81 : decode b_Ru_placeTrailers 81 = .ok (.invokestatic 123, 3) := by decide +kernel
theorem d_Ru_placeTrailers_84 : decode b_Ru_placeTrailers 84 = .ok (.imul, 1) := by decide +kernel
theorem d_Ru_placeTrailers_85 : decode b_Ru_placeTrailers 85 = .ok (.isub, 1) := by decide +kernel
theorem d_Ru_placeTrailers_86 : decode b_Ru_placeTrailers 86 = .ok (.putfield 69, 3) := by decide +kernel
theorem d_Ru_placeTrailers_89 : decode b_Ru_placeTrailers 89 = .ok (.aload_n 3, 1) := by decide +kernel
theorem d_Ru_placeTrailers_90 : decode b_Ru_placeTrailers 90 = .ok (.aload_n 2, 1) := by decide +kernel
theorem d_Ru_placeTrailers_91 : decode b_Ru_placeTrailers 91 = .ok (.getfield 75, 3) := by decide +kernel
theorem d_Ru_placeTrailers_94 : decode b_Ru_placeTrailers 94 = .ok (.iload 4, 2) := by decide +kernel
theorem d_Ru_placeTrailers_96 : decode b_Ru_placeTrailers 96 = .ok (.aload_n 2, 1) := by decide +kernel
theorem d_Ru_placeTrailers_97 : decode b_Ru_placeTrailers 97 = .ok (.getfield 57, 3) := by decide +kernel
theorem d_Ru_placeTrailers_100 : decode b_Ru_placeTrailers 100 = .ok (.invokestatic 127, 3) := by decide +kernel
theorem d_Ru_placeTrailers_103 : decode b_Ru_placeTrailers 103 = .ok (.imul, 1) := by decide +kernel
theorem d_Ru_placeTrailers_104 : decode b_Ru_placeTrailers 104 = .ok (.isub, 1) := by decide +kernel
theorem d_Ru_placeTrailers_105 : decode b_Ru_placeTrailers 105 = .ok (.iload 5, 2) := by decide +kernel
theorem d_Ru_placeTrailers_107 : decode b_Ru_placeTrailers 107 = .ok (.aload_n 3, 1) := by decide +kernel
theorem d_Ru_placeTrailers_108 : decode b_Ru_placeTrailers 108 = .ok (.getfield 57, 3) := by decide +kernel
theorem d_Ru_placeTrailers_111 : decode b_Ru_placeTrailers 111 = .ok (.invokestatic 127, 3) := by decide +kernel
theorem d_Ru_placeTrailers_114 : decode b_Ru_placeTrailers 114 = .ok (.imul, 1) := by decide +kernel
theorem d_Ru_placeTrailers_115 : decode b_Ru_placeTrailers 115 = .ok (.isub, 1) := by decide +kernel
theorem d_Ru_placeTrailers_116 : decode b_Ru_placeTrailers 116 = .ok (.putfield 75, 3) := by decide +kernel
theorem d_Ru_placeTrailers_119 : decode b_Ru_placeTrailers 119 = .ok (.iinc 1 1, 3) := by decide +kernel
theorem d_Ru_placeTrailers_122 : decode b_Ru_placeTrailers 122 = .ok (.goto (-120), 3) := by decide +kernel
theorem d_Ru_placeTrailers_125 : decode b_Ru_placeTrailers 125 = .ok (.return_, 1) := by decide +kernel
theorem d_Ru_measureAskew_0 : decode b_Ru_measureAskew 0 = .ok (.iconst 1, 1) := by decide +kernel
theorem d_Ru_measureAskew_1 : decode b_Ru_measureAskew 1 = .ok (.istore_n 1, 1) := by decide +kernel
theorem d_Ru_measureAskew_2 : decode b_Ru_measureAskew 2 = .ok (.iload_n 1, 1) := by decide +kernel
theorem d_Ru_measureAskew_3 : decode b_Ru_measureAskew 3 = .ok (.aload_n 0, 1) := by decide +kernel
theorem d_Ru_measureAskew_4 : decode b_Ru_measureAskew 4 = .ok (.getfield 35, 3) := by decide +kernel
theorem d_Ru_measureAskew_7 : decode b_Ru_measureAskew 7 = .ok (.getfield 49, 3) := by decide +kernel
theorem d_Ru_measureAskew_10 : decode b_Ru_measureAskew 10 = .ok (.if_icmp .ge 51, 3) := by decide +kernel
theorem d_Ru_measureAskew_13 : decode b_Ru_measureAskew 13 = .ok (.aload_n 0, 1) := by decide +kernel
theorem d_Ru_measureAskew_14 : decode b_Ru_measureAskew 14 = .ok (.iload_n 1, 1) := by decide +kernel
theorem d_Ru_measureAskew_15 : decode b_Ru_measureAskew 15 = .ok (.invokevirtual 140, 3) := by decide +kernel
theorem d_Ru_measureAskew_18 : decode b_Ru_measureAskew 18 = .ok (.invokestatic 154, 3) := by decide +kernel
theorem d_Ru_measureAskew_21 : decode b_Ru_measureAskew 21 = .ok (.istore_n 2, 1) := by decide +kernel
theorem d_Ru_measureAskew_22 : decode b_Ru_measureAskew 22 = .ok (.aload_n 0, 1) := by decide +kernel
theorem d_Ru_measureAskew_23 : decode b_Ru_measureAskew 23 = .ok (.getfield 12, 3) := by decide +kernel
theorem d_Ru_measureAskew_26 : decode b_Ru_measureAskew 26 = .ok (.iload_n 1, 1) := by decide +kernel
theorem d_Ru_measureAskew_27 : decode b_Ru_measureAskew 27 = .ok (.aaload, 1) := by decide +kernel
theorem d_Ru_measureAskew_28 : decode b_Ru_measureAskew 28 = .ok (.aload_n 0, 1) := by decide +kernel
theorem d_Ru_measureAskew_29 : decode b_Ru_measureAskew 29 = .ok (.getfield 12, 3) := by decide +kernel
theorem d_Ru_measureAskew_32 : decode b_Ru_measureAskew 32 = .ok (.iload_n 1, 1) := by decide +kernel
theorem d_Ru_measureAskew_33 : decode b_Ru_measureAskew 33 = .ok (.aaload, 1) := by decide +kernel
theorem d_Ru_measureAskew_34 : decode b_Ru_measureAskew 34 = .ok (.getfield 63, 3) := by decide +kernel
theorem d_Ru_measureAskew_37 : decode b_Ru_measureAskew 37 = .ok (.iload_n 2, 1) := by decide +kernel
theorem d_Ru_measureAskew_38 : decode b_Ru_measureAskew 38 = .ok (.invokestatic 159, 3) := by decide +kernel
theorem d_Ru_measureAskew_41 : decode b_Ru_measureAskew 41 = .ok (.putfield 63, 3) := by decide +kernel
theorem d_Ru_measureAskew_44 : decode b_Ru_measureAskew 44 = .ok (.iload_n 2, 1) := by decide +kernel
theorem d_Ru_measureAskew_45 : decode b_Ru_measureAskew 45 = .ok (.bipush 24, 2) := by decide +kernel
theorem d_Ru_measureAskew_47 : decode b_Ru_measureAskew 47 = .ok (.if_icmp .le 8, 3) := by decide +kernel
theorem d_Ru_measureAskew_50 : decode b_Ru_measureAskew 50 = .ok (.aload_n 0, 1) := by decide +kernel
theorem d_Ru_measureAskew_51 : decode b_Ru_measureAskew 51 = .ok (.iconst 1, 1) := by decide +kernel
theorem d_Ru_measureAskew_52 : decode b_Ru_measureAskew 52 = .ok (.putfield 42, 3) := by decide +kernel
theorem d_Ru_measureAskew_55 : decode b_Ru_measureAskew 55 = .ok (.iinc 1 1, 3) := by decide +kernel
theorem d_Ru_measureAskew_58 : decode b_Ru_measureAskew 58 = .ok (.goto (-56), 3) := by decide +kernel
theorem d_Ru_measureAskew_61 : decode b_Ru_measureAskew 61 = .ok (.return_, 1) := by decide +kernel
theorem d_Ru_lookRound_0 : decode b_Ru_lookRound 0 = .ok (.iconst 0, 1) := by decide +kernel
theorem d_Ru_lookRound_1 : decode b_Ru_lookRound 1 = .ok (.istore_n 1, 1) := by decide +kernel
theorem d_Ru_lookRound_2 : decode b_Ru_lookRound 2 = .ok (.iload_n 1, 1) := by decide +kernel
theorem d_Ru_lookRound_3 : decode b_Ru_lookRound 3 = .ok (.aload_n 0, 1) := by decide +kernel
theorem d_Ru_lookRound_4 : decode b_Ru_lookRound 4 = .ok (.getfield 35, 3) := by decide +kernel
theorem d_Ru_lookRound_7 : decode b_Ru_lookRound 7 = .ok (.getfield 49, 3) := by decide +kernel
theorem d_Ru_lookRound_10 : decode b_Ru_lookRound 10 = .ok (.if_icmp .ge 44, 3) := by decide +kernel
theorem d_Ru_lookRound_13 : decode b_Ru_lookRound 13 = .ok (.aload_n 0, 1) := by decide +kernel
theorem d_Ru_lookRound_14 : decode b_Ru_lookRound 14 = .ok (.getfield 21, 3) := by decide +kernel
theorem d_Ru_lookRound_17 : decode b_Ru_lookRound 17 = .ok (.aload_n 0, 1) := by decide +kernel
theorem d_Ru_lookRound_18 : decode b_Ru_lookRound 18 = .ok (.getfield 35, 3) := by decide +kernel
theorem d_Ru_lookRound_21 : decode b_Ru_lookRound 21 = .ok (.getfield 136, 3) := by decide +kernel
theorem d_Ru_lookRound_24 : decode b_Ru_lookRound 24 = .ok (.iload_n 1, 1) := by decide +kernel
theorem d_Ru_lookRound_25 : decode b_Ru_lookRound 25 = .ok (.aaload, 1) := by decide +kernel
theorem d_Ru_lookRound_26 : decode b_Ru_lookRound 26 = .ok (.aload_n 0, 1) := by decide +kernel
theorem d_Ru_lookRound_27 : decode b_Ru_lookRound 27 = .ok (.getfield 12, 3) := by decide +kernel
theorem d_Ru_lookRound_30 : decode b_Ru_lookRound 30 = .ok (.iload_n 1, 1) := by decide +kernel
theorem d_Ru_lookRound_31 : decode b_Ru_lookRound 31 = .ok (.aaload, 1) := by decide +kernel
theorem d_Ru_lookRound_32 : decode b_Ru_lookRound 32 = .ok (.invokevirtual 162, 3) := by decide +kernel
theorem d_Ru_lookRound_35 : decode b_Ru_lookRound 35 = .ok (.aload_n 0, 1) := by decide +kernel
theorem d_Ru_lookRound_36 : decode b_Ru_lookRound 36 = .ok (.getfield 25, 3) := by decide +kernel
theorem d_Ru_lookRound_39 : decode b_Ru_lookRound 39 = .ok (.iconst (-1), 1) := by decide +kernel
theorem d_Ru_lookRound_40 : decode b_Ru_lookRound 40 = .ok (.if_icmp .ne 8, 3) := by decide +kernel
theorem d_Ru_lookRound_43 : decode b_Ru_lookRound 43 = .ok (.aload_n 0, 1) := by decide +kernel
theorem d_Ru_lookRound_44 : decode b_Ru_lookRound 44 = .ok (.iload_n 1, 1) := by decide +kernel
theorem d_Ru_lookRound_45 : decode b_Ru_lookRound 45 = .ok (.invokevirtual 166, 3) := by decide +kernel
theorem d_Ru_lookRound_48 : decode b_Ru_lookRound 48 = .ok (.iinc 1 1, 3) := by decide +kernel
theorem d_Ru_lookRound_51 : decode b_Ru_lookRound 51 = .ok (.goto (-49), 3) := by decide +kernel
theorem d_Ru_lookRound_54 : decode b_Ru_lookRound 54 = .ok (.return_, 1) := by decide +kernel
theorem d_Ru_lookForPoles_0 : decode b_Ru_lookForPoles 0 = .ok (.aload_n 0, 1) := by decide +kernel
theorem d_Ru_lookForPoles_1 : decode b_Ru_lookForPoles 1 = .ok (.getfield 35, 3) := by decide +kernel
theorem d_Ru_lookForPoles_4 : decode b_Ru_lookForPoles 4 = .ok (.getfield 136, 3) := by decide +kernel
theorem d_Ru_lookForPoles_7 : decode b_Ru_lookForPoles 7 = .ok (.iload_n 1, 1) := by decide +kernel
theorem d_Ru_lookForPoles_8 : decode b_Ru_lookForPoles 8 = .ok (.aaload, 1) := by decide +kernel
theorem d_Ru_lookForPoles_9 : decode b_Ru_lookForPoles 9 = .ok (.astore_n 2, 1) := by decide +kernel
theorem d_Ru_lookForPoles_10 : decode b_Ru_lookForPoles 10 = .ok (.aload_n 0, 1) := by decide +kernel
theorem d_Ru_lookForPoles_11 : decode b_Ru_lookForPoles 11 = .ok (.getfield 12, 3) := by decide +kernel
theorem d_Ru_lookForPoles_14 : decode b_Ru_lookForPoles 14 = .ok (.iload_n 1, 1) := by decide +kernel
theorem d_Ru_lookForPoles_15 : decode b_Ru_lookForPoles 15 = .ok (.aaload, 1) := by decide +kernel
theorem d_Ru_lookForPoles_16 : decode b_Ru_lookForPoles 16 = .ok (.astore_n 3, 1) := by decide +kernel
theorem d_Ru_lookForPoles_17 : decode b_Ru_lookForPoles 17 = .ok (.aload_n 3, 1) := by decide +kernel
theorem d_Ru_lookForPoles_18 : decode b_Ru_lookForPoles 18 = .ok (.getfield 57, 3) := by decide +kernel
theorem d_Ru_lookForPoles_21 : decode b_Ru_lookForPoles 21 = .ok (.invokestatic 123, 3) := by decide +kernel
theorem d_Ru_lookForPoles_24 : decode b_Ru_lookForPoles 24 = .ok (.i2l, 1) := by decide +kernel
theorem d_Ru_lookForPoles_25 : decode b_Ru_lookForPoles 25 = .ok (.lstore 4, 2) := by decide +kernel
theorem d_Ru_lookForPoles_27 : decode b_Ru_lookForPoles 27 = .ok (.aload_n 3, 1) := by decide +kernel
theorem d_Ru_lookForPoles_28 : decode b_Ru_lookForPoles 28 = .ok (.getfield 57, 3) := by decide +kernel
theorem d_Ru_lookForPoles_31 : decode b_Ru_lookForPoles 31 = .ok (.invokestatic 127, 3) := by decide +kernel
theorem d_Ru_lookForPoles_34 : decode b_Ru_lookForPoles 34 = .ok (.i2l, 1) := by decide +kernel
theorem d_Ru_lookForPoles_35 : decode b_Ru_lookForPoles 35 = .ok (.lstore 6, 2) := by decide +kernel
theorem d_Ru_lookForPoles_37 : decode b_Ru_lookForPoles 37 = .ok (.iconst 0, 1) := by decide +kernel
theorem d_Ru_lookForPoles_38 : decode b_Ru_lookForPoles 38 = .ok (.istore 8, 2) := by decide +kernel
theorem d_Ru_lookForPoles_40 : decode b_Ru_lookForPoles 40 = .ok (.iload 8, 2) := by decide +kernel
theorem d_Ru_lookForPoles_42 : decode b_Ru_lookForPoles 42 = .ok (.aload_n 0, 1) := by decide +kernel
theorem d_Ru_lookForPoles_43 : decode b_Ru_lookForPoles 43 = .ok (.getfield 35, 3) := by decide +kernel
theorem d_Ru_lookForPoles_46 : decode b_Ru_lookForPoles 46 = .ok (.getfield 170, 3) := by decide +kernel
theorem d_Ru_lookForPoles_49 : decode b_Ru_lookForPoles 49 = .ok (.if_icmp .ge 94, 3) := by decide +kernel
theorem d_Ru_lookForPoles_52 : decode b_Ru_lookForPoles 52 = .ok (.aload_n 0, 1) := by decide +kernel
theorem d_Ru_lookForPoles_53 : decode b_Ru_lookForPoles 53 = .ok (.getfield 35, 3) := by decide +kernel
theorem d_Ru_lookForPoles_56 : decode b_Ru_lookForPoles 56 = .ok (.getfield 173, 3) := by decide +kernel
theorem d_Ru_lookForPoles_59 : decode b_Ru_lookForPoles 59 = .ok (.iload 8, 2) := by decide +kernel
theorem d_Ru_lookForPoles_61 : decode b_Ru_lookForPoles 61 = .ok (.iaload, 1) := by decide +kernel
theorem d_Ru_lookForPoles_62 : decode b_Ru_lookForPoles 62 = .ok (.aload_n 3, 1) := by decide +kernel
theorem d_Ru_lookForPoles_63 : decode b_Ru_lookForPoles 63 = .ok (.getfield 69, 3) := by decide +kernel
theorem d_Ru_lookForPoles_66 : decode b_Ru_lookForPoles 66 = .ok (.isub, 1) := by decide +kernel
theorem d_Ru_lookForPoles_67 : decode b_Ru_lookForPoles 67 = .ok (.i2l, 1) := by decide +kernel
theorem d_Ru_lookForPoles_68 : decode b_Ru_lookForPoles 68 = .ok (.lstore 9, 2) := by decide +kernel
theorem d_Ru_lookForPoles_70 : decode b_Ru_lookForPoles 70 = .ok (.aload_n 0, 1) := by decide +kernel
theorem d_Ru_lookForPoles_71 : decode b_Ru_lookForPoles 71 = .ok (.getfield 35, 3) := by decide +kernel
theorem d_Ru_lookForPoles_74 : decode b_Ru_lookForPoles 74 = .ok (.getfield 176, 3) := by decide +kernel
theorem d_Ru_lookForPoles_77 : decode b_Ru_lookForPoles 77 = .ok (.iload 8, 2) := by decide +kernel
theorem d_Ru_lookForPoles_79 : decode b_Ru_lookForPoles 79 = .ok (.iaload, 1) := by decide +kernel
theorem d_Ru_lookForPoles_80 : decode b_Ru_lookForPoles 80 = .ok (.aload_n 3, 1) := by decide +kernel
theorem d_Ru_lookForPoles_81 : decode b_Ru_lookForPoles 81 = .ok (.getfield 75, 3) := by decide +kernel
theorem d_Ru_lookForPoles_84 : decode b_Ru_lookForPoles 84 = .ok (.isub, 1) := by decide +kernel
theorem d_Ru_lookForPoles_85 : decode b_Ru_lookForPoles 85 = .ok (.i2l, 1) := by decide +kernel
theorem d_Ru_lookForPoles_86 : decode b_Ru_lookForPoles 86 = .ok (.lstore 11, 2) := by decide +kernel
theorem d_Ru_lookForPoles_88 : decode b_Ru_lookForPoles 88 = .ok (.aload_n 2, 1) := by decide +kernel
theorem d_Ru_lookForPoles_89 : decode b_Ru_lookForPoles 89 = .ok (.lload 9, 2) := by decide +kernel
theorem d_Ru_lookForPoles_91 : decode b_Ru_lookForPoles 91 = .ok (.lload 4, 2) := by decide +kernel
theorem d_Ru_lookForPoles_93 : decode b_Ru_lookForPoles 93 = .ok (.lmul, 1) := by decide +kernel
theorem d_Ru_lookForPoles_94 : decode b_Ru_lookForPoles 94 = .ok (.lload 11, 2) := by decide +kernel
theorem d_Ru_lookForPoles_96 : decode b_Ru_lookForPoles 96 = .ok (.lload 6, 2) := by decide +kernel
theorem d_Ru_lookForPoles_98 : decode b_Ru_lookForPoles 98 = .ok (.lmul, 1) := by decide +kernel
theorem d_Ru_lookForPoles_99 : decode b_Ru_lookForPoles 99 = .ok (.ladd, 1) := by decide +kernel
theorem d_Ru_lookForPoles_100 : decode b_Ru_lookForPoles 100 = .ok (.lload 11, 2) := by decide +kernel
theorem d_Ru_lookForPoles_102 : decode b_Ru_lookForPoles 102 = .ok (.lload 4, 2) := by decide +kernel
theorem d_Ru_lookForPoles_104 : decode b_Ru_lookForPoles 104 = .ok (.lmul, 1) := by decide +kernel
theorem d_Ru_lookForPoles_105 : decode b_Ru_lookForPoles 105 = .ok (.lload 9, 2) := by decide +kernel
theorem d_Ru_lookForPoles_107 : decode b_Ru_lookForPoles 107 = .ok (.lload 6, 2) := by decide +kernel
theorem d_Ru_lookForPoles_109 : decode b_Ru_lookForPoles 109 = .ok (.lmul, 1) := by decide +kernel
theorem d_Ru_lookForPoles_110 : decode b_Ru_lookForPoles 110 = .ok (.lsub, 1) := by decide +kernel
theorem d_Ru_lookForPoles_111 : decode b_Ru_lookForPoles 111 = .ok (.invokevirtual 179, 3) := by decide +kernel
theorem d_Ru_lookForPoles_114 : decode b_Ru_lookForPoles 114 = .ok (.ifCond .eq 23, 3) := by decide +kernel
theorem d_Ru_lookForPoles_117 : decode b_Ru_lookForPoles 117 = .ok (.aload_n 0, 1) := by decide +kernel
theorem d_Ru_lookForPoles_118 : decode b_Ru_lookForPoles 118 = .ok (.aload_n 0, 1) := by decide +kernel
theorem d_Ru_lookForPoles_119 : decode b_Ru_lookForPoles 119 = .ok (.getfield 39, 3) := by decide +kernel
theorem d_Ru_lookForPoles_122 : decode b_Ru_lookForPoles 122 = .ok (.putfield 25, 3) := by decide +kernel
theorem d_Ru_lookForPoles_125 : decode b_Ru_lookForPoles 125 = .ok (.aload_n 0, 1) := by decide +kernel
theorem d_Ru_lookForPoles_126 : decode b_Ru_lookForPoles 126 = .ok (.iload_n 1, 1) := by decide +kernel
theorem d_Ru_lookForPoles_127 : decode b_Ru_lookForPoles 127 = .ok (.putfield 29, 3) := by decide +kernel
theorem d_Ru_lookForPoles_130 : decode b_Ru_lookForPoles 130 = .ok (.aload_n 0, 1) := by decide +kernel
theorem d_Ru_lookForPoles_131 : decode b_Ru_lookForPoles 131 = .ok (.iload 8, 2) := by decide +kernel
theorem d_Ru_lookForPoles_133 : decode b_Ru_lookForPoles 133 = .ok (.putfield 32, 3) := by decide +kernel
theorem d_Ru_lookForPoles_136 : decode b_Ru_lookForPoles 136 = .ok (.return_, 1) := by decide +kernel
theorem d_Ru_lookForPoles_137 : decode b_Ru_lookForPoles 137 = .ok (.iinc 8 1, 3) := by decide +kernel
theorem d_Ru_lookForPoles_140 : decode b_Ru_lookForPoles 140 = .ok (.goto (-100), 3) := by decide +kernel
theorem d_Ru_lookForPoles_143 : decode b_Ru_lookForPoles 143 = .ok (.return_, 1) := by decide +kernel
theorem d_Se_init_0 : decode b_Se_init 0 = .ok (.aload_n 0, 1) := by decide +kernel
theorem d_Se_init_1 : decode b_Se_init 1 = .ok (.invokespecial 3, 3) := by decide +kernel
theorem d_Se_init_4 : decode b_Se_init 4 = .ok (.aload_n 0, 1) := by decide +kernel
theorem d_Se_init_5 : decode b_Se_init 5 = .ok (.iconst 3, 1) := by decide +kernel
theorem d_Se_init_6 : decode b_Se_init 6 = .ok (.anewarray 9, 3) := by decide +kernel
theorem d_Se_init_9 : decode b_Se_init 9 = .ok (.dup, 1) := by decide +kernel
theorem d_Se_init_10 : decode b_Se_init 10 = .ok (.iconst 0, 1) := by decide +kernel
theorem d_Se_init_11 : decode b_Se_init 11 = .ok (.new 9, 3) := by decide +kernel
theorem d_Se_init_14 : decode b_Se_init 14 = .ok (.dup, 1) := by decide +kernel
theorem d_Se_init_15 : decode b_Se_init 15 = .ok (.invokespecial 11, 3) := by decide +kernel
theorem d_Se_init_18 : decode b_Se_init 18 = .ok (.aastore, 1) := by decide +kernel
theorem d_Se_init_19 : decode b_Se_init 19 = .ok (.dup, 1) := by decide +kernel
theorem d_Se_init_20 : decode b_Se_init 20 = .ok (.iconst 1, 1) := by decide +kernel
theorem d_Se_init_21 : decode b_Se_init 21 = .ok (.new 9, 3) := by decide +kernel
theorem d_Se_init_24 : decode b_Se_init 24 = .ok (.dup, 1) := by decide +kernel
theorem d_Se_init_25 : decode b_Se_init 25 = .ok (.invokespecial 11, 3) := by decide +kernel
theorem d_Se_init_28 : decode b_Se_init 28 = .ok (.aastore, 1) := by decide +kernel
theorem d_Se_init_29 : decode b_Se_init 29 = .ok (.dup, 1) := by decide +kernel
theorem d_Se_init_30 : decode b_Se_init 30 = .ok (.iconst 2, 1) := by decide +kernel
theorem d_Se_init_31 : decode b_Se_init 31 = .ok (.new 9, 3) := by decide +kernel
theorem d_Se_init_34 : decode b_Se_init 34 = .ok (.dup, 1) := by decide +kernel
theorem d_Se_init_35 : decode b_Se_init 35 = .ok (.invokespecial 11, 3) := by decide +kernel
theorem d_Se_init_38 : decode b_Se_init 38 = .ok (.aastore, 1) := by decide +kernel
theorem d_Se_init_39 : decode b_Se_init 39 = .ok (.putfield 12, 3) := by decide +kernel
theorem d_Se_init_42 : decode b_Se_init 42 = .ok (.aload_n 0, 1) := by decide +kernel
theorem d_Se_init_43 : decode b_Se_init 43 = .ok (.bipush 20, 2) := by decide +kernel
theorem d_Se_init_45 : decode b_Se_init 45 = .ok (.newarray .int, 2) := by decide +kernel
theorem d_Se_init_47 : decode b_Se_init 47 = .ok (.putfield 18, 3) := by decide +kernel
theorem d_Se_init_50 : decode b_Se_init 50 = .ok (.aload_n 0, 1) := by decide +kernel
theorem d_Se_init_51 : decode b_Se_init 51 = .ok (.bipush 20, 2) := by decide +kernel
theorem d_Se_init_53 : decode b_Se_init 53 = .ok (.newarray .int, 2) := by decide +kernel
theorem d_Se_init_55 : decode b_Se_init 55 = .ok (.putfield 22, 3) := by decide +kernel
theorem d_Se_init_58 : decode b_Se_init 58 = .ok (.aload_n 0, 1) := by decide +kernel
theorem d_Se_init_59 : decode b_Se_init 59 = .ok (.iconst 4, 1) := by decide +kernel
theorem d_Se_init_60 : decode b_Se_init 60 = .ok (.putfield 25, 3) := by decide +kernel
theorem d_Se_init_63 : decode b_Se_init 63 = .ok (.return_, 1) := by decide +kernel
theorem d_Sh_init_0 : decode b_Sh_init 0 = .ok (.aload_n 0, 1) := by decide +kernel
theorem d_Sh_init_1 : decode b_Sh_init 1 = .ok (.invokespecial 3, 3) := by decide +kernel
theorem d_Sh_init_4 : decode b_Sh_init 4 = .ok (.aload_n 0, 1) := by decide +kernel
theorem d_Sh_init_5 : decode b_Sh_init 5 = .ok (.iconst 1, 1) := by decide +kernel
theorem d_Sh_init_6 : decode b_Sh_init 6 = .ok (.putfield 9, 3) := by decide +kernel
theorem d_Sh_init_9 : decode b_Sh_init 9 = .ok (.return_, 1) := by decide +kernel
theorem d_Sh_holds_0 : decode b_Sh_holds 0 = .ok (.lload_n 1, 1) := by decide +kernel
theorem d_Sh_holds_1 : decode b_Sh_holds 1 = .ok (.aload_n 0, 1) := by decide +kernel
theorem d_Sh_holds_2 : decode b_Sh_holds 2 = .ok (.getfield 15, 3) := by decide +kernel
theorem d_Sh_holds_5 : decode b_Sh_holds 5 = .ok (.ineg, 1) := by decide +kernel
theorem d_Sh_holds_6 : decode b_Sh_holds 6 = .ok (.i2l, 1) := by decide +kernel
theorem d_Sh_holds_7 : decode b_Sh_holds 7 = .ok (.ldc2_w 18, 3) := by decide +kernel
theorem d_Sh_holds_10 : decode b_Sh_holds 10 = .ok (.lmul, 1) := by decide +kernel
theorem d_Sh_holds_11 : decode b_Sh_holds 11 = .ok (.lcmp, 1) := by decide +kernel
theorem d_Sh_holds_12 : decode b_Sh_holds 12 = .ok (.ifCond .lt 50, 3) := by decide +kernel
theorem d_Sh_holds_15 : decode b_Sh_holds 15 = .ok (.lload_n 1, 1) := by decide +kernel
theorem d_Sh_holds_16 : decode b_Sh_holds 16 = .ok (.aload_n 0, 1) := by decide +kernel
theorem d_Sh_holds_17 : decode b_Sh_holds 17 = .ok (.getfield 20, 3) := by decide +kernel
theorem d_Sh_holds_20 : decode b_Sh_holds 20 = .ok (.i2l, 1) := by decide +kernel
theorem d_Sh_holds_21 : decode b_Sh_holds 21 = .ok (.ldc2_w 18, 3) := by decide +kernel
theorem d_Sh_holds_24 : decode b_Sh_holds 24 = .ok (.lmul, 1) := by decide +kernel
theorem d_Sh_holds_25 : decode b_Sh_holds 25 = .ok (.lcmp, 1) := by decide +kernel
theorem d_Sh_holds_26 : decode b_Sh_holds 26 = .ok (.ifCond .gt 36, 3) := by decide +kernel
theorem d_Sh_holds_29 : decode b_Sh_holds 29 = .ok (.lload_n 3, 1) := by decide +kernel
theorem d_Sh_holds_30 : decode b_Sh_holds 30 = .ok (.aload_n 0, 1) := by decide +kernel
theorem d_Sh_holds_31 : decode b_Sh_holds 31 = .ok (.getfield 23, 3) := by decide +kernel
theorem d_Sh_holds_34 : decode b_Sh_holds 34 = .ok (.ineg, 1) := by decide +kernel
theorem d_Sh_holds_35 : decode b_Sh_holds 35 = .ok (.i2l, 1) := by decide +kernel
theorem d_Sh_holds_36 : decode b_Sh_holds 36 = .ok (.ldc2_w 18, 3) := by decide +kernel
theorem d_Sh_holds_39 : decode b_Sh_holds 39 = .ok (.lmul, 1) := by decide +kernel
theorem d_Sh_holds_40 : decode b_Sh_holds 40 = .ok (.lcmp, 1) := by decide +kernel
theorem d_Sh_holds_41 : decode b_Sh_holds 41 = .ok (.ifCond .lt 21, 3) := by decide +kernel
theorem d_Sh_holds_44 : decode b_Sh_holds 44 = .ok (.lload_n 3, 1) := by decide +kernel
theorem d_Sh_holds_45 : decode b_Sh_holds 45 = .ok (.aload_n 0, 1) := by decide +kernel
theorem d_Sh_holds_46 : decode b_Sh_holds 46 = .ok (.getfield 23, 3) := by decide +kernel
theorem d_Sh_holds_49 : decode b_Sh_holds 49 = .ok (.i2l, 1) := by decide +kernel
theorem d_Sh_holds_50 : decode b_Sh_holds 50 = .ok (.ldc2_w 18, 3) := by decide +kernel
theorem d_Sh_holds_53 : decode b_Sh_holds 53 = .ok (.lmul, 1) := by decide +kernel
theorem d_Sh_holds_54 : decode b_Sh_holds 54 = .ok (.lcmp, 1) := by decide +kernel
theorem d_Sh_holds_55 : decode b_Sh_holds 55 = .ok (.ifCond .gt 7, 3) := by decide +kernel
theorem d_Sh_holds_58 : decode b_Sh_holds 58 = .ok (.iconst 1, 1) := by decide +kernel
theorem d_Sh_holds_59 : decode b_Sh_holds 59 = .ok (.goto 4, 3) := by decide +kernel
theorem d_Sh_holds_62 : decode b_Sh_holds 62 = .ok (.iconst 0, 1) := by decide +kernel
theorem d_Sh_holds_63 : decode b_Sh_holds 63 = .ok (.ireturn, 1) := by decide +kernel
theorem d_Sh_directionsIn_0 : decode b_Sh_directionsIn 0 = .ok (.aload_n 0, 1) := by decide +kernel
theorem d_Sh_directionsIn_1 : decode b_Sh_directionsIn 1 = .ok (.getfield 9, 3) := by decide +kernel
theorem d_Sh_directionsIn_4 : decode b_Sh_directionsIn 4 = .ok (.iconst 1, 1) := by decide +kernel
theorem d_Sh_directionsIn_5 : decode b_Sh_directionsIn 5 = .ok (.if_icmp .ge 7, 3) := by decide +kernel
theorem d_Sh_directionsIn_8 : decode b_Sh_directionsIn 8 = .ok (.iconst 0, 1) := by decide +kernel
theorem d_Sh_directionsIn_9 : decode b_Sh_directionsIn 9 = .ok (.goto 9, 3) := by decide +kernel
theorem d_Sh_directionsIn_12 : decode b_Sh_directionsIn 12 = .ok (.iload_n 1, 1) := by decide +kernel
theorem d_Sh_directionsIn_13 : decode b_Sh_directionsIn 13 = .ok (.aload_n 0, 1) := by decide +kernel
theorem d_Sh_directionsIn_14 : decode b_Sh_directionsIn 14 = .ok (.getfield 9, 3) := by decide +kernel
theorem d_Sh_directionsIn_17 : decode b_Sh_directionsIn 17 = .ok (.idiv, 1) := by decide +kernel
theorem d_Sh_directionsIn_18 : decode b_Sh_directionsIn 18 = .ok (.ireturn, 1) := by decide +kernel
theorem d_La_body_0 : decode b_La_body 0 = .ok (.aload 6, 2) := by decide +kernel
theorem d_La_body_2 : decode b_La_body 2 = .ok (.iconst 0, 1) := by decide +kernel
theorem d_La_body_3 : decode b_La_body 3 = .ok (.aload_n 0, 1) := by decide +kernel
theorem d_La_body_4 : decode b_La_body 4 = .ok (.iload_n 1, 1) := by decide +kernel
theorem d_La_body_5 : decode b_La_body 5 = .ok (.iload_n 2, 1) := by decide +kernel
theorem d_La_body_6 : decode b_La_body 6 = .ok (.iload_n 3, 1) := by decide +kernel
theorem d_La_body_7 : decode b_La_body 7 = .ok (.iload 4, 2) := by decide +kernel
theorem d_La_body_9 : decode b_La_body 9 = .ok (.iload 5, 2) := by decide +kernel
theorem d_La_body_11 : decode b_La_body 11 = .ok (.invokevirtual 7, 3) := by decide +kernel
theorem d_La_body_14 : decode b_La_body 14 = .ok (.i2l, 1) := by decide +kernel
theorem d_La_body_15 : decode b_La_body 15 = .ok (.lastore, 1) := by decide +kernel
theorem d_La_body_16 : decode b_La_body 16 = .ok (.goto 11, 3) := by decide +kernel
theorem d_La_body_19 : decode b_La_body 19 = .ok (.astore 7, 2) := by decide +kernel
theorem d_La_body_21 : decode b_La_body 21 = .ok (.iconst 1, 1) := by decide +kernel
theorem d_La_body_22 : decode b_La_body 22 = .ok (.ireturn, 1) := by decide +kernel
theorem d_La_body_23 : decode b_La_body 23 = .ok (.astore 7, 2) := by decide +kernel
theorem d_La_body_25 : decode b_La_body 25 = .ok (.iconst 2, 1) := by decide +kernel
theorem d_La_body_26 : decode b_La_body 26 = .ok (.ireturn, 1) := by decide +kernel
theorem d_La_body_27 : decode b_La_body 27 = .ok (.iconst 0, 1) := by decide +kernel
theorem d_La_body_28 : decode b_La_body 28 = .ok (.ireturn, 1) := by decide +kernel
theorem d_La_start_0 : decode b_La_start 0 = .ok (.aload_n 0, 1) := by decide +kernel
theorem d_La_start_1 : decode b_La_start 1 = .ok (.iload_n 1, 1) := by decide +kernel
theorem d_La_start_2 : decode b_La_start 2 = .ok (.iload_n 2, 1) := by decide +kernel
theorem d_La_start_3 : decode b_La_start 3 = .ok (.iload_n 3, 1) := by decide +kernel
theorem d_La_start_4 : decode b_La_start 4 = .ok (.invokevirtual 17, 3) := by decide +kernel
theorem d_La_start_7 : decode b_La_start 7 = .ok (.goto 7, 3) := by decide +kernel
theorem d_La_start_10 : decode b_La_start 10 = .ok (.astore 4, 2) := by decide +kernel
theorem d_La_start_12 : decode b_La_start 12 = .ok (.iconst 1, 1) := by decide +kernel
theorem d_La_start_13 : decode b_La_start 13 = .ok (.ireturn, 1) := by decide +kernel
theorem d_La_start_14 : decode b_La_start 14 = .ok (.iconst 0, 1) := by decide +kernel
theorem d_La_start_15 : decode b_La_start 15 = .ok (.ireturn, 1) := by decide +kernel
theorem d_La_step_0 : decode b_La_step 0 = .ok (.aload_n 2, 1) := by decide +kernel
theorem d_La_step_1 : decode b_La_step 1 = .ok (.iconst 0, 1) := by decide +kernel
theorem d_La_step_2 : decode b_La_step 2 = .ok (.aload_n 0, 1) := by decide +kernel
theorem d_La_step_3 : decode b_La_step 3 = .ok (.iload_n 1, 1) := by decide +kernel
theorem d_La_step_4 : decode b_La_step 4 = .ok (.invokevirtual 21, 3) := by decide +kernel
theorem d_La_step_7 : decode b_La_step 7 = .ok (.i2l, 1) := by decide +kernel
theorem d_La_step_8 : decode b_La_step 8 = .ok (.lastore, 1) := by decide +kernel
theorem d_La_step_9 : decode b_La_step 9 = .ok (.goto 6, 3) := by decide +kernel
theorem d_La_step_12 : decode b_La_step 12 = .ok (.astore_n 3, 1) := by decide +kernel
theorem d_La_step_13 : decode b_La_step 13 = .ok (.iconst 1, 1) := by decide +kernel
theorem d_La_step_14 : decode b_La_step 14 = .ok (.ireturn, 1) := by decide +kernel
theorem d_La_step_15 : decode b_La_step 15 = .ok (.iconst 0, 1) := by decide +kernel
theorem d_La_step_16 : decode b_La_step 16 = .ok (.ireturn, 1) := by decide +kernel
theorem d_La_pole_0 : decode b_La_pole 0 = .ok (.aload_n 3, 1) := by decide +kernel
theorem d_La_pole_1 : decode b_La_pole 1 = .ok (.iconst 0, 1) := by decide +kernel
theorem d_La_pole_2 : decode b_La_pole 2 = .ok (.aload_n 0, 1) := by decide +kernel
theorem d_La_pole_3 : decode b_La_pole 3 = .ok (.iload_n 1, 1) := by decide +kernel
theorem d_La_pole_4 : decode b_La_pole 4 = .ok (.iload_n 2, 1) := by decide +kernel
theorem d_La_pole_5 : decode b_La_pole 5 = .ok (.invokevirtual 25, 3) := by decide +kernel
theorem d_La_pole_8 : decode b_La_pole 8 = .ok (.i2l, 1) := by decide +kernel
theorem d_La_pole_9 : decode b_La_pole 9 = .ok (.lastore, 1) := by decide +kernel
theorem d_La_pole_10 : decode b_La_pole 10 = .ok (.goto 11, 3) := by decide +kernel
theorem d_La_pole_13 : decode b_La_pole 13 = .ok (.astore 4, 2) := by decide +kernel
theorem d_La_pole_15 : decode b_La_pole 15 = .ok (.iconst 1, 1) := by decide +kernel
theorem d_La_pole_16 : decode b_La_pole 16 = .ok (.ireturn, 1) := by decide +kernel
theorem d_La_pole_17 : decode b_La_pole 17 = .ok (.astore 4, 2) := by decide +kernel
theorem d_La_pole_19 : decode b_La_pole 19 = .ok (.iconst 2, 1) := by decide +kernel
theorem d_La_pole_20 : decode b_La_pole 20 = .ok (.ireturn, 1) := by decide +kernel
theorem d_La_pole_21 : decode b_La_pole 21 = .ok (.iconst 0, 1) := by decide +kernel
theorem d_La_pole_22 : decode b_La_pole 22 = .ok (.ireturn, 1) := by decide +kernel
theorem d_La_go_0 : decode b_La_go 0 = .ok (.aload 4, 2) := by decide +kernel
theorem d_La_go_2 : decode b_La_go 2 = .ok (.iconst 0, 1) := by decide +kernel
theorem d_La_go_3 : decode b_La_go 3 = .ok (.aload_n 0, 1) := by decide +kernel
theorem d_La_go_4 : decode b_La_go 4 = .ok (.iload_n 1, 1) := by decide +kernel
theorem d_La_go_5 : decode b_La_go 5 = .ok (.iload_n 2, 1) := by decide +kernel
theorem d_La_go_6 : decode b_La_go 6 = .ok (.iload_n 3, 1) := by decide +kernel
theorem d_La_go_7 : decode b_La_go 7 = .ok (.invokevirtual 29, 3) := by decide +kernel
theorem d_La_go_10 : decode b_La_go 10 = .ok (.i2l, 1) := by decide +kernel
theorem d_La_go_11 : decode b_La_go 11 = .ok (.lastore, 1) := by decide +kernel
theorem d_La_go_12 : decode b_La_go 12 = .ok (.goto 11, 3) := by decide +kernel
theorem d_La_go_15 : decode b_La_go 15 = .ok (.astore 5, 2) := by decide +kernel
theorem d_La_go_17 : decode b_La_go 17 = .ok (.iconst 1, 1) := by decide +kernel
theorem d_La_go_18 : decode b_La_go 18 = .ok (.ireturn, 1) := by decide +kernel
theorem d_La_go_19 : decode b_La_go 19 = .ok (.astore 5, 2) := by decide +kernel
theorem d_La_go_21 : decode b_La_go 21 = .ok (.iconst 2, 1) := by decide +kernel
theorem d_La_go_22 : decode b_La_go 22 = .ok (.ireturn, 1) := by decide +kernel
theorem d_La_go_23 : decode b_La_go 23 = .ok (.iconst 0, 1) := by decide +kernel
theorem d_La_go_24 : decode b_La_go 24 = .ok (.ireturn, 1) := by decide +kernel
theorem d_La_told_0 : decode b_La_told 0 = .ok (.aload_n 3, 1) := by decide +kernel
theorem d_La_told_1 : decode b_La_told 1 = .ok (.iconst 0, 1) := by decide +kernel
theorem d_La_told_2 : decode b_La_told 2 = .ok (.aload_n 0, 1) := by decide +kernel
theorem d_La_told_3 : decode b_La_told 3 = .ok (.iload_n 1, 1) := by decide +kernel
theorem d_La_told_4 : decode b_La_told 4 = .ok (.iload_n 2, 1) := by decide +kernel
theorem d_La_told_5 : decode b_La_told 5 = .ok (.invokevirtual 33, 3) := by decide +kernel
theorem d_La_told_8 : decode b_La_told 8 = .ok (.i2l, 1) := by decide +kernel
theorem d_La_told_9 : decode b_La_told 9 = .ok (.lastore, 1) := by decide +kernel
theorem d_La_told_10 : decode b_La_told 10 = .ok (.goto 7, 3) := by decide +kernel
theorem d_La_told_13 : decode b_La_told 13 = .ok (.astore 4, 2) := by decide +kernel
theorem d_La_told_15 : decode b_La_told 15 = .ok (.iconst 1, 1) := by decide +kernel
theorem d_La_told_16 : decode b_La_told 16 = .ok (.ireturn, 1) := by decide +kernel
theorem d_La_told_17 : decode b_La_told 17 = .ok (.iconst 0, 1) := by decide +kernel
theorem d_La_told_18 : decode b_La_told 18 = .ok (.ireturn, 1) := by decide +kernel
theorem d_La_corner_0 : decode b_La_corner 0 = .ok (.aload 4, 2) := by decide +kernel
theorem d_La_corner_2 : decode b_La_corner 2 = .ok (.iconst 0, 1) := by decide +kernel
theorem d_La_corner_3 : decode b_La_corner 3 = .ok (.aload_n 0, 1) := by decide +kernel
theorem d_La_corner_4 : decode b_La_corner 4 = .ok (.iload_n 1, 1) := by decide +kernel
theorem d_La_corner_5 : decode b_La_corner 5 = .ok (.iload_n 2, 1) := by decide +kernel
theorem d_La_corner_6 : decode b_La_corner 6 = .ok (.iload_n 3, 1) := by decide +kernel
theorem d_La_corner_7 : decode b_La_corner 7 = .ok (.invokevirtual 36, 3) := by decide +kernel
theorem d_La_corner_10 : decode b_La_corner 10 = .ok (.i2l, 1) := by decide +kernel
theorem d_La_corner_11 : decode b_La_corner 11 = .ok (.lastore, 1) := by decide +kernel
theorem d_La_corner_12 : decode b_La_corner 12 = .ok (.goto 7, 3) := by decide +kernel
theorem d_La_corner_15 : decode b_La_corner 15 = .ok (.astore 5, 2) := by decide +kernel
theorem d_La_corner_17 : decode b_La_corner 17 = .ok (.iconst 1, 1) := by decide +kernel
theorem d_La_corner_18 : decode b_La_corner 18 = .ok (.ireturn, 1) := by decide +kernel
theorem d_La_corner_19 : decode b_La_corner 19 = .ok (.iconst 0, 1) := by decide +kernel
theorem d_La_corner_20 : decode b_La_corner 20 = .ok (.ireturn, 1) := by decide +kernel
theorem d_La_cell_LPIIaJ_0 : decode b_La_cell_LPIIaJ 0 = .ok (.aload_n 3, 1) := by decide +kernel
theorem d_La_cell_LPIIaJ_1 : decode b_La_cell_LPIIaJ 1 = .ok (.iconst 0, 1) := by decide +kernel
theorem d_La_cell_LPIIaJ_2 : decode b_La_cell_LPIIaJ 2 = .ok (.aload_n 0, 1) := by decide +kernel
theorem d_La_cell_LPIIaJ_3 : decode b_La_cell_LPIIaJ 3 = .ok (.iload_n 1, 1) := by decide +kernel
theorem d_La_cell_LPIIaJ_4 : decode b_La_cell_LPIIaJ 4 = .ok (.iload_n 2, 1) := by decide +kernel
theorem d_La_cell_LPIIaJ_5 : decode b_La_cell_LPIIaJ 5 = .ok (.invokevirtual 40, 3) := by decide +kernel
theorem d_La_cell_LPIIaJ_8 : decode b_La_cell_LPIIaJ 8 = .ok (.ifCond .eq 7, 3) := by decide +kernel
theorem d_La_cell_LPIIaJ_11 : decode b_La_cell_LPIIaJ 11 = .ok (.lconst 1, 1) := by decide +kernel
theorem d_La_cell_LPIIaJ_12 : decode b_La_cell_LPIIaJ 12 = .ok (.goto 4, 3) := by decide +kernel
theorem d_La_cell_LPIIaJ_15 : decode b_La_cell_LPIIaJ 15 = .ok (.lconst 0, 1) := by decide +kernel
theorem d_La_cell_LPIIaJ_16 : decode b_La_cell_LPIIaJ 16 = .ok (.lastore, 1) := by decide +kernel
theorem d_La_cell_LPIIaJ_17 : decode b_La_cell_LPIIaJ 17 = .ok (.goto 7, 3) := by decide +kernel
theorem d_La_cell_LPIIaJ_20 : decode b_La_cell_LPIIaJ 20 = .ok (.astore 4, 2) := by decide +kernel
theorem d_La_cell_LPIIaJ_22 : decode b_La_cell_LPIIaJ 22 = .ok (.iconst 1, 1) := by decide +kernel
theorem d_La_cell_LPIIaJ_23 : decode b_La_cell_LPIIaJ 23 = .ok (.ireturn, 1) := by decide +kernel
theorem d_La_cell_LPIIaJ_24 : decode b_La_cell_LPIIaJ 24 = .ok (.iconst 0, 1) := by decide +kernel
theorem d_La_cell_LPIIaJ_25 : decode b_La_cell_LPIIaJ 25 = .ok (.ireturn, 1) := by decide +kernel
theorem d_La_clash_0 : decode b_La_clash 0 = .ok (.aload_n 2, 1) := by decide +kernel
theorem d_La_clash_1 : decode b_La_clash 1 = .ok (.iconst 0, 1) := by decide +kernel
theorem d_La_clash_2 : decode b_La_clash 2 = .ok (.aload_n 0, 1) := by decide +kernel
theorem d_La_clash_3 : decode b_La_clash 3 = .ok (.iload_n 1, 1) := by decide +kernel
theorem d_La_clash_4 : decode b_La_clash 4 = .ok (.invokevirtual 44, 3) := by decide +kernel
theorem d_La_clash_7 : decode b_La_clash 7 = .ok (.i2l, 1) := by decide +kernel
theorem d_La_clash_8 : decode b_La_clash 8 = .ok (.lastore, 1) := by decide +kernel
theorem d_La_clash_9 : decode b_La_clash 9 = .ok (.goto 6, 3) := by decide +kernel
theorem d_La_clash_12 : decode b_La_clash 12 = .ok (.astore_n 3, 1) := by decide +kernel
theorem d_La_clash_13 : decode b_La_clash 13 = .ok (.iconst 1, 1) := by decide +kernel
theorem d_La_clash_14 : decode b_La_clash 14 = .ok (.ireturn, 1) := by decide +kernel
theorem d_La_clash_15 : decode b_La_clash 15 = .ok (.iconst 0, 1) := by decide +kernel
theorem d_La_clash_16 : decode b_La_clash 16 = .ok (.ireturn, 1) := by decide +kernel
theorem d_La_part_0 : decode b_La_part 0 = .ok (.aload 5, 2) := by decide +kernel
theorem d_La_part_2 : decode b_La_part 2 = .ok (.iconst 0, 1) := by decide +kernel
theorem d_La_part_3 : decode b_La_part 3 = .ok (.aload_n 0, 1) := by decide +kernel
theorem d_La_part_4 : decode b_La_part 4 = .ok (.iload_n 1, 1) := by decide +kernel
theorem d_La_part_5 : decode b_La_part 5 = .ok (.iload_n 2, 1) := by decide +kernel
theorem d_La_part_6 : decode b_La_part 6 = .ok (.iload_n 3, 1) := by decide +kernel
theorem d_La_part_7 : decode b_La_part 7 = .ok (.iload 4, 2) := by decide +kernel
theorem d_La_part_9 : decode b_La_part 9 = .ok (.invokevirtual 47, 3) := by decide +kernel
theorem d_La_part_12 : decode b_La_part 12 = .ok (.i2l, 1) := by decide +kernel
theorem d_La_part_13 : decode b_La_part 13 = .ok (.lastore, 1) := by decide +kernel
theorem d_La_part_14 : decode b_La_part 14 = .ok (.goto 11, 3) := by decide +kernel
theorem d_La_part_17 : decode b_La_part 17 = .ok (.astore 6, 2) := by decide +kernel
theorem d_La_part_19 : decode b_La_part 19 = .ok (.iconst 1, 1) := by decide +kernel
theorem d_La_part_20 : decode b_La_part 20 = .ok (.ireturn, 1) := by decide +kernel
theorem d_La_part_21 : decode b_La_part 21 = .ok (.astore 6, 2) := by decide +kernel
theorem d_La_part_23 : decode b_La_part 23 = .ok (.iconst 2, 1) := by decide +kernel
theorem d_La_part_24 : decode b_La_part 24 = .ok (.ireturn, 1) := by decide +kernel
theorem d_La_part_25 : decode b_La_part 25 = .ok (.iconst 0, 1) := by decide +kernel
theorem d_La_part_26 : decode b_La_part 26 = .ok (.ireturn, 1) := by decide +kernel
theorem d_La_clear_0 : decode b_La_clear 0 = .ok (.aload_n 2, 1) := by decide +kernel
theorem d_La_clear_1 : decode b_La_clear 1 = .ok (.iconst 0, 1) := by decide +kernel
theorem d_La_clear_2 : decode b_La_clear 2 = .ok (.aload_n 0, 1) := by decide +kernel
theorem d_La_clear_3 : decode b_La_clear 3 = .ok (.iload_n 1, 1) := by decide +kernel
theorem d_La_clear_4 : decode b_La_clear 4 = .ok (.invokevirtual 51, 3) := by decide +kernel
theorem d_La_clear_7 : decode b_La_clear 7 = .ok (.i2l, 1) := by decide +kernel
theorem d_La_clear_8 : decode b_La_clear 8 = .ok (.lastore, 1) := by decide +kernel
theorem d_La_clear_9 : decode b_La_clear 9 = .ok (.goto 6, 3) := by decide +kernel
theorem d_La_clear_12 : decode b_La_clear 12 = .ok (.astore_n 3, 1) := by decide +kernel
theorem d_La_clear_13 : decode b_La_clear 13 = .ok (.iconst 1, 1) := by decide +kernel
theorem d_La_clear_14 : decode b_La_clear 14 = .ok (.ireturn, 1) := by decide +kernel
theorem d_La_clear_15 : decode b_La_clear 15 = .ok (.iconst 0, 1) := by decide +kernel
theorem d_La_clear_16 : decode b_La_clear 16 = .ok (.ireturn, 1) := by decide +kernel
theorem d_La_best_0 : decode b_La_best 0 = .ok (.aload_n 1, 1) := by decide +kernel
theorem d_La_best_1 : decode b_La_best 1 = .ok (.iconst 0, 1) := by decide +kernel
theorem d_La_best_2 : decode b_La_best 2 = .ok (.aload_n 0, 1) := by decide +kernel
theorem d_La_best_3 : decode b_La_best 3 = .ok (.invokevirtual 54, 3) := by decide +kernel
theorem d_La_best_6 : decode b_La_best 6 = .ok (.i2l, 1) := by decide +kernel
theorem d_La_best_7 : decode b_La_best 7 = .ok (.lastore, 1) := by decide +kernel
theorem d_La_best_8 : decode b_La_best 8 = .ok (.goto 6, 3) := by decide +kernel
theorem d_La_best_11 : decode b_La_best 11 = .ok (.astore_n 2, 1) := by decide +kernel
theorem d_La_best_12 : decode b_La_best 12 = .ok (.iconst 1, 1) := by decide +kernel
theorem d_La_best_13 : decode b_La_best 13 = .ok (.ireturn, 1) := by decide +kernel
theorem d_La_best_14 : decode b_La_best 14 = .ok (.iconst 0, 1) := by decide +kernel
theorem d_La_best_15 : decode b_La_best 15 = .ok (.ireturn, 1) := by decide +kernel
theorem d_La_sweeps_0 : decode b_La_sweeps 0 = .ok (.aload_n 2, 1) := by decide +kernel
theorem d_La_sweeps_1 : decode b_La_sweeps 1 = .ok (.iconst 0, 1) := by decide +kernel
theorem d_La_sweeps_2 : decode b_La_sweeps 2 = .ok (.aload_n 0, 1) := by decide +kernel
theorem d_La_sweeps_3 : decode b_La_sweeps 3 = .ok (.iload_n 1, 1) := by decide +kernel
theorem d_La_sweeps_4 : decode b_La_sweeps 4 = .ok (.invokevirtual 58, 3) := by decide +kernel
theorem d_La_sweeps_7 : decode b_La_sweeps 7 = .ok (.i2l, 1) := by decide +kernel
theorem d_La_sweeps_8 : decode b_La_sweeps 8 = .ok (.lastore, 1) := by decide +kernel
theorem d_La_sweeps_9 : decode b_La_sweeps 9 = .ok (.goto 9, 3) := by decide +kernel
theorem d_La_sweeps_12 : decode b_La_sweeps 12 = .ok (.astore_n 3, 1) := by decide +kernel
theorem d_La_sweeps_13 : decode b_La_sweeps 13 = .ok (.iconst 1, 1) := by decide +kernel
theorem d_La_sweeps_14 : decode b_La_sweeps 14 = .ok (.ireturn, 1) := by decide +kernel
theorem d_La_sweeps_15 : decode b_La_sweeps 15 = .ok (.astore_n 3, 1) := by decide +kernel
theorem d_La_sweeps_16 : decode b_La_sweeps 16 = .ok (.iconst 2, 1) := by decide +kernel
theorem d_La_sweeps_17 : decode b_La_sweeps 17 = .ok (.ireturn, 1) := by decide +kernel
theorem d_La_sweeps_18 : decode b_La_sweeps 18 = .ok (.iconst 0, 1) := by decide +kernel
theorem d_La_sweeps_19 : decode b_La_sweeps 19 = .ok (.ireturn, 1) := by decide +kernel
theorem d_Ob_init_0 : decode b_Ob_init 0 = .ok (.return_, 1) := by decide +kernel
theorem d_Ex_init_0 : decode b_Ex_init 0 = .ok (.aload_n 0, 1) := by decide +kernel
theorem d_Ex_init_1 : decode b_Ex_init 1 = .ok (.aload_n 1, 1) := by decide +kernel
theorem d_Ex_init_2 : decode b_Ex_init 2 = .ok (.invokespecial 7, 3) := by decide +kernel
theorem d_Ex_init_5 : decode b_Ex_init 5 = .ok (.return_, 1) := by decide +kernel
theorem d_IA_init_0 : decode b_IA_init 0 = .ok (.aload_n 0, 1) := by decide +kernel
theorem d_IA_init_1 : decode b_IA_init 1 = .ok (.aload_n 1, 1) := by decide +kernel
theorem d_IA_init_2 : decode b_IA_init 2 = .ok (.invokespecial 7, 3) := by decide +kernel
theorem d_IA_init_5 : decode b_IA_init 5 = .ok (.return_, 1) := by decide +kernel
theorem d_IS_init_0 : decode b_IS_init 0 = .ok (.aload_n 0, 1) := by decide +kernel
theorem d_IS_init_1 : decode b_IS_init 1 = .ok (.aload_n 1, 1) := by decide +kernel
theorem d_IS_init_2 : decode b_IS_init 2 = .ok (.invokespecial 7, 3) := by decide +kernel
theorem d_IS_init_5 : decode b_IS_init 5 = .ok (.return_, 1) := by decide +kernel
theorem d_Ma_abs_0 : decode b_Ma_abs 0 = .ok (.iload_n 0, 1) := by decide +kernel
theorem d_Ma_abs_1 : decode b_Ma_abs 1 = .ok (.ifCond .ge 8, 3) := by decide +kernel
theorem d_Ma_abs_4 : decode b_Ma_abs 4 = .ok (.iload_n 0, 1) := by decide +kernel
theorem d_Ma_abs_5 : decode b_Ma_abs 5 = .ok (.ineg, 1) := by decide +kernel
theorem d_Ma_abs_6 : decode b_Ma_abs 6 = .ok (.goto 4, 3) := by decide +kernel
theorem d_Ma_abs_9 : decode b_Ma_abs 9 = .ok (.iload_n 0, 1) := by decide +kernel
theorem d_Ma_abs_10 : decode b_Ma_abs 10 = .ok (.ireturn, 1) := by decide +kernel
theorem d_Ma_floorDiv_0 : decode b_Ma_floorDiv 0 = .ok (.iload_n 0, 1) := by decide +kernel
theorem d_Ma_floorDiv_1 : decode b_Ma_floorDiv 1 = .ok (.iload_n 1, 1) := by decide +kernel
theorem d_Ma_floorDiv_2 : decode b_Ma_floorDiv 2 = .ok (.idiv, 1) := by decide +kernel
theorem d_Ma_floorDiv_3 : decode b_Ma_floorDiv 3 = .ok (.istore_n 2, 1) := by decide +kernel
theorem d_Ma_floorDiv_4 : decode b_Ma_floorDiv 4 = .ok (.iload_n 0, 1) := by decide +kernel
theorem d_Ma_floorDiv_5 : decode b_Ma_floorDiv 5 = .ok (.iload_n 1, 1) := by decide +kernel
theorem d_Ma_floorDiv_6 : decode b_Ma_floorDiv 6 = .ok (.ixor, 1) := by decide +kernel
theorem d_Ma_floorDiv_7 : decode b_Ma_floorDiv 7 = .ok (.ifCond .ge 14, 3) := by decide +kernel
theorem d_Ma_floorDiv_10 : decode b_Ma_floorDiv 10 = .ok (.iload_n 2, 1) := by decide +kernel
theorem d_Ma_floorDiv_11 : decode b_Ma_floorDiv 11 = .ok (.iload_n 1, 1) := by decide +kernel
theorem d_Ma_floorDiv_12 : decode b_Ma_floorDiv 12 = .ok (.imul, 1) := by decide +kernel
theorem d_Ma_floorDiv_13 : decode b_Ma_floorDiv 13 = .ok (.iload_n 0, 1) := by decide +kernel
theorem d_Ma_floorDiv_14 : decode b_Ma_floorDiv 14 = .ok (.if_icmp .eq 7, 3) := by decide +kernel
theorem d_Ma_floorDiv_17 : decode b_Ma_floorDiv 17 = .ok (.iload_n 2, 1) := by decide +kernel
theorem d_Ma_floorDiv_18 : decode b_Ma_floorDiv 18 = .ok (.iconst 1, 1) := by decide +kernel
theorem d_Ma_floorDiv_19 : decode b_Ma_floorDiv 19 = .ok (.isub, 1) := by decide +kernel
theorem d_Ma_floorDiv_20 : decode b_Ma_floorDiv 20 = .ok (.ireturn, 1) := by decide +kernel
theorem d_Ma_floorDiv_21 : decode b_Ma_floorDiv 21 = .ok (.iload_n 2, 1) := by decide +kernel
theorem d_Ma_floorDiv_22 : decode b_Ma_floorDiv 22 = .ok (.ireturn, 1) := by decide +kernel
theorem d_Ma_max_0 : decode b_Ma_max 0 = .ok (.iload_n 0, 1) := by decide +kernel
theorem d_Ma_max_1 : decode b_Ma_max 1 = .ok (.iload_n 1, 1) := by decide +kernel
theorem d_Ma_max_2 : decode b_Ma_max 2 = .ok (.if_icmp .lt 7, 3) := by decide +kernel
theorem d_Ma_max_5 : decode b_Ma_max 5 = .ok (.iload_n 0, 1) := by decide +kernel
theorem d_Ma_max_6 : decode b_Ma_max 6 = .ok (.goto 4, 3) := by decide +kernel
theorem d_Ma_max_9 : decode b_Ma_max 9 = .ok (.iload_n 1, 1) := by decide +kernel
theorem d_Ma_max_10 : decode b_Ma_max 10 = .ok (.ireturn, 1) := by decide +kernel
theorem d_Ma_min_0 : decode b_Ma_min 0 = .ok (.iload_n 0, 1) := by decide +kernel
theorem d_Ma_min_1 : decode b_Ma_min 1 = .ok (.iload_n 1, 1) := by decide +kernel
theorem d_Ma_min_2 : decode b_Ma_min 2 = .ok (.if_icmp .gt 7, 3) := by decide +kernel
theorem d_Ma_min_5 : decode b_Ma_min 5 = .ok (.iload_n 0, 1) := by decide +kernel
theorem d_Ma_min_6 : decode b_Ma_min 6 = .ok (.goto 4, 3) := by decide +kernel
theorem d_Ma_min_9 : decode b_Ma_min 9 = .ok (.iload_n 1, 1) := by decide +kernel
theorem d_Ma_min_10 : decode b_Ma_min 10 = .ok (.ireturn, 1) := by decide +kernel
theorem d_Rt_init_0 : decode b_Rt_init 0 = .ok (.aload_n 0, 1) := by decide +kernel
theorem d_Rt_init_1 : decode b_Rt_init 1 = .ok (.aload_n 1, 1) := by decide +kernel
theorem d_Rt_init_2 : decode b_Rt_init 2 = .ok (.invokespecial 7, 3) := by decide +kernel
theorem d_Rt_init_5 : decode b_Rt_init 5 = .ok (.return_, 1) := by decide +kernel
theorem d_Ar_fill_0 : decode b_Ar_fill 0 = .ok (.iconst 0, 1) := by decide +kernel
theorem d_Ar_fill_1 : decode b_Ar_fill 1 = .ok (.istore_n 3, 1) := by decide +kernel
theorem d_Ar_fill_2 : decode b_Ar_fill 2 = .ok (.aload_n 0, 1) := by decide +kernel
theorem d_Ar_fill_3 : decode b_Ar_fill 3 = .ok (.arraylength, 1) := by decide +kernel
theorem d_Ar_fill_4 : decode b_Ar_fill 4 = .ok (.istore 4, 2) := by decide +kernel
theorem d_Ar_fill_6 : decode b_Ar_fill 6 = .ok (.iload_n 3, 1) := by decide +kernel
theorem d_Ar_fill_7 : decode b_Ar_fill 7 = .ok (.iload 4, 2) := by decide +kernel
theorem d_Ar_fill_9 : decode b_Ar_fill 9 = .ok (.if_icmp .ge 13, 3) := by decide +kernel
theorem d_Ar_fill_12 : decode b_Ar_fill 12 = .ok (.aload_n 0, 1) := by decide +kernel
theorem d_Ar_fill_13 : decode b_Ar_fill 13 = .ok (.iload_n 3, 1) := by decide +kernel
theorem d_Ar_fill_14 : decode b_Ar_fill 14 = .ok (.lload_n 1, 1) := by decide +kernel
theorem d_Ar_fill_15 : decode b_Ar_fill 15 = .ok (.lastore, 1) := by decide +kernel
theorem d_Ar_fill_16 : decode b_Ar_fill 16 = .ok (.iinc 3 1, 3) := by decide +kernel
theorem d_Ar_fill_19 : decode b_Ar_fill 19 = .ok (.goto (-13), 3) := by decide +kernel
theorem d_Ar_fill_22 : decode b_Ar_fill 22 = .ok (.return_, 1) := by decide +kernel
end
section
/-! the layer: contracts of methods that make no cell, over a world that is a list of cells; what every method carries (EV); calls -/
abbrev Glob : Type := va_G × (Nat → ClassId) × Nat
abbrev tysG (g : Glob) : List (ClassId × FieldType) := [(g.2.1 0, .int), (g.2.1 1, .long), (g.2.1 2, .boolean), (g.2.1 3, .object "SweptPaths$Shape"), (g.2.1 4, .object "SweptPaths$Pose"), (g.2.1 5, .object "SweptPaths$Plan")]
def dxL : List Int32 := [4096, 4076, 4017, 3920, 3784, 3612, 3406, 3166, 2896, 2598, 2276, 1931, 1567, 1189, 799, 401, 0, -401, -799, -1189, -1567, -1931, -2276, -2598, -2896, -3166, -3406, -3612, -3784, -3920, -4017, -4076, -4096, -4076, -4017, -3920, -3784, -3612, -3406, -3166, -2896, -2598, -2276, -1931, -1567, -1189, -799, -401, 0, 401, 799, 1189, 1567, 1931, 2276, 2598, 2896, 3166, 3406, 3612, 3784, 3920, 4017, 4076]
def dxT (j : Nat) : Int32 := dxL.getD j 0
/-- a static of Throwable that holds a reference or null, with what the tables say of it -/
def ZS (n d : String) (A : Nat → Prop) (U : State) (H : Heap) : Prop := ∃ (c i a : Nat) (k : Class) (f : Field) (cell : Cell) (v : Value), U.vm.findClass "java/lang/Throwable" = some c ∧ U.fieldFound? "java/lang/Throwable" n d = some (c, k, i, f) ∧ f.isStatic = true ∧ k.statics = some a ∧ H[a]? = some cell ∧ cell.vm.isStatics = true ∧ cell.cls = c ∧ f.slot < cell.slots.size ∧ k.staticTypes[f.slot]? = some f.type ∧ cell.slots[f.slot]? = some v ∧ v.isRef = true ∧ ¬ A a
theorem ZS.moved {n d : String} {A : Nat → Prop} {u U : State} {H : Heap} (hvm : u.vm.Alike U.vm) (h : ZS n d A u H) : ZS n d A U H := by
  obtain ⟨c, i, a, k, f, cell, v, h0, h1, h2, h3, h4, h5, h6, h7, h8, h9⟩ := h
  obtain ⟨k', hi', he⟩ := State.fieldFound?_setVm hvm h1
  exact ⟨c, i, a, k', f, cell, v, (hvm.findClass ..).trans h0, hi', h2, by rw [he]; exact h3, h4, h5, h6, h7, by rw [he]; exact h8, h9⟩
theorem ZS.kept {n d : String} {A : Nat → Prop} {U : State} {H H1 : Heap} (h : ZS n d A U H) (hq : ∀ a : Nat, a < H.size → ¬ A a → H1[a]? = H[a]?) : ZS n d A U H1 := by
  obtain ⟨c, i, a, k, f, cell, v, h0, h1, h2, h3, h4, h5, h6, h7, h8, h9, h10, h11⟩ := h
  exact ⟨c, i, a, k, f, cell, v, h0, h1, h2, h3, by rw [hq a (Array.getElem?_eq_some_iff.mp h4).1 h11]; exact h4, h5, h6, h7, h8, h9, h10, h11⟩
theorem ZS.narrow {n d : String} {A B : Nat → Prop} {U : State} {H : Heap} (h : ZS n d A U H) (hAB : ∀ q, B q → A q) : ZS n d B U H := by
  obtain ⟨c, i, a, k, f, cell, v, h0, h1, h2, h3, h4, h5, h6, h7, h8, h9, h10, h11⟩ := h
  exact ⟨c, i, a, k, f, cell, v, h0, h1, h2, h3, h4, h5, h6, h7, h8, h9, h10, fun z => h11 (hAB a z)⟩
theorem decl_moved {x : MethodName} {u U : State} (hvm : u.vm.Alike U.vm) (h : va_Nw (.declares x) u) : va_Nw (.declares x) U := va_tabs rfl (rfl : (u.setVm U.vm).vm = U.vm) (by rw [Cond.declares_setVm hvm]; exact h)
theorem cast_moved {a b : String} {u U : State} (hvm : u.vm.Alike U.vm) (h : va_Nw (.castable a b) u) : va_Nw (.castable a b) U := va_tabs rfl (rfl : (u.setVm U.vm).vm = U.vm) (by rw [Cond.castable_setVm hvm]; exact h)
/-- what throwing and catching read of the tables -/
def EX (U : State) : Prop := va_Nw (.castable R_IA R_IA) U ∧ va_Nw (.castable R_IS R_IS) U ∧ va_Nc R_IS R_IA U ∧
  va_Nw (.declares ⟨"java/lang/RuntimeException", "<init>", "(Ljava/lang/String;)V"⟩) U ∧ va_Nw (.declares ⟨"java/lang/Exception", "<init>", "(Ljava/lang/String;)V"⟩) U ∧ va_Nw (.declares ⟨"java/lang/Throwable", "<init>", "(Ljava/lang/String;)V"⟩) U ∧
  (∃ a, vk_R "SweptPaths" 45 "there are 3 bodies" a U) ∧ (∃ a, vk_R "SweptPaths" 91 "there are 20 poles" a U) ∧ (∃ a, vk_R "SweptPaths" 168 "the plan has 6 parts" a U) ∧ (∃ a, vk_R "SweptPaths" 183 "a number is out of its bounds" a U) ∧ ∃ a, vk_R "SweptPaths" 186 "there is no body" a U
theorem EX.warm {s U : State} (hW : s.WarmedH U.vm) (h : EX s) : EX U := by
  obtain ⟨h1, h2, h3, d1, d2, d3, ⟨a1, q1⟩, ⟨a2, q2⟩, ⟨a3, q3⟩, ⟨a4, q4⟩, ⟨a5, q5⟩⟩ := h
  exact ⟨cast_moved hW.alike h1, cast_moved hW.alike h2, h3.moved hW.alike, decl_moved hW.alike d1, decl_moved hW.alike d2, decl_moved hW.alike d3, ⟨a1, q1.warm hW⟩, ⟨a2, q2.warm hW⟩, ⟨a3, q3.warm hW⟩, ⟨a4, q4.warm hW⟩, ⟨a5, q5.warm hW⟩⟩
theorem EX.same {u U : State} (hv : U.vm = u.vm) (h : EX u) : EX U := by
  obtain ⟨h1, h2, h3, d1, d2, d3, ⟨a1, q1⟩, ⟨a2, q2⟩, ⟨a3, q3⟩, ⟨a4, q4⟩, ⟨a5, q5⟩⟩ := h
  have hal : u.vm.Alike U.vm := by rw [hv]; exact Vm.Alike.refl _
  exact ⟨cast_moved hal h1, cast_moved hal h2, h3.moved hal, decl_moved hal d1, decl_moved hal d2, decl_moved hal d3, ⟨a1, q1.same hv⟩, ⟨a2, q2.same hv⟩, ⟨a3, q3.same hv⟩, ⟨a4, q4.same hv⟩, ⟨a5, q5.same hv⟩⟩
/-- what stands still: the classes, the table of directions, what a thrown exception reads -/
def EV (g : Glob) (A : Nat → Prop) (U : State) (H : Heap) : Prop :=
  va_K g.1 classes (tysG g) U ∧ va_Z "SweptPaths$Directions" "DX" "[I" (.ref g.2.2) A U H ∧ va_T .int g.2.2 64 (fun j => .int (dxT j)) A U H ∧
  ZS "UNASSIGNED_STACK" "[Ljava/lang/StackTraceElement;" A U H ∧ ZS "SUPPRESSED_SENTINEL" "Ljava/util/List;" A U H ∧ EX U
theorem EV.same {g : Glob} {A : Nat → Prop} {u U : State} {H : Heap} (hv : U.vm = u.vm) (h : EV g A u H) : EV g A U H := by
  have hvm : u.vm.Alike U.vm := by rw [hv]; exact Vm.Alike.refl _
  exact ⟨va_K.moved hvm h.1, va_Z.moved hvm h.2.1, va_T.moved hvm h.2.2.1, ZS.moved hvm h.2.2.2.1, ZS.moved hvm h.2.2.2.2.1, EX.same hv h.2.2.2.2.2⟩
theorem EV.to {g : Glob} {A B : Nat → Prop} {s U : State} {H : Heap} {locs : List Loc} (h : EV g A s s.heap) (hS : va_S A s.heap H locs) (hW : s.WarmedH U.vm) (hB : ∀ q, B q → A q) : EV g B U H := by
  have hvm := hW.alike
  exact ⟨va_K.moved hvm h.1, va_Z.moved hvm ((h.2.1.kept hS.2.1).narrow hB), va_T.moved hvm ((h.2.2.1.kept hS.2.1).narrow hB), ZS.moved hvm ((h.2.2.2.1.kept hS.2.1).narrow hB), ZS.moved hvm ((h.2.2.2.2.1.kept hS.2.1).narrow hB), EX.warm hW h.2.2.2.2.2⟩
def CW (g : Glob) (ws : va_W) (sz : Nat) (U : State) : Prop := U.heap.size = sz ∧ va_P g.1 classes ws U.heap ∧ va_D (fun _ => True) ws ∧ EV g (va_A ws sz) U U.heap
theorem CW_blind {g : Glob} {ws : va_W} {sz : Nat} {av : List Value} : FrameBlind (va_Pc av (CW g ws sz)) := fun a U gg mk q => by
  obtain ⟨q0, q1, qP, qD, qE⟩ := q
  exact ⟨q0, q1, qP, qD, EV.same (u := U) (U := U.calling gg mk a) rfl qE⟩
/-- a method that answers r0 and leaves the world ws' -/
def CI (l : Launch) (g : Glob) (y : MethodName) (cc : ByteArray) (n : Nat) (rt : Option FieldType) (f k : Nat) (av : List Value) (ws : va_W) (r0 : Int32) (ws' : va_W) : Prop :=
  ∀ sz : Nat, Met l y (.code y cc n rt :: W0) { frames := f, cells := 0, slots := 0, locals := k } (va_Pc av (CW g ws sz)) (va_Qi (S := Unit) (fun r _ => r = r0) (fun _ t => va_P g.1 classes ws' t.heap ∧ va_D (va_A ws sz) ws') (va_A ws sz)) 0 0 (va_A ws sz)
/-- a method that leaves the world ws' -/
def CV (l : Launch) (g : Glob) (y : MethodName) (cc : ByteArray) (n : Nat) (f k : Nat) (av : List Value) (ws : va_W) (ws' : va_W) : Prop :=
  ∀ sz : Nat, Met l y (.code y cc n none :: W0) { frames := f, cells := 0, slots := 0, locals := k } (va_Pc av (CW g ws sz)) (va_Qv (S := Unit) (fun _ => True) (fun _ t => va_P g.1 classes ws' t.heap ∧ va_D (va_A ws sz) ws') (va_A ws sz)) 0 0 (va_A ws sz)
def Cx (g : Glob) (own : String) (cc : ByteArray) (n : Nat) (A : Nat → Prop) (p : Program) (s : State) (m : MethodId) (args : Array Value) (c : Code) : Prop :=
  p.tables.exec = Jvm.exec ∧ c.code = cc ∧ c.maxLocals = n ∧ s.vm.findClass own = some m.cls ∧ (∀ w ∈ W0, w.before args s = true) ∧ EV g A s s.heap ∧ ∀ q, s.heap.size ≤ q → A q
theorem CI.of {l : Launch} {g : Glob} {y : MethodName} {cc : ByteArray} {n : Nat} {rt : Option FieldType} {f k : Nat} {av : List Value} {ws : va_W} {r0 : Int32} {ws' : va_W} (ty : FieldType) (hrt : rt = some ty) (hn : narrow ty (.int r0) = .int r0) (hy : plainFor y = true) (hl : (lg_sl av).length ≤ n)
    (body : ∀ (p : Program) (e : Env) (s : State) (m : MethodId) (below : List Frame) (meth : Method) (c : Code) (A : Nat → Prop) (Q : State → Prop) (ls : Array Slot), Cx g y.cls cc n A p s m av.toArray c → va_P g.1 classes ws s.heap → va_D A ws → lv_has ls n (lv_args 0 av) →
      (∀ (v : Int32) (w9 : va_W) (H : Heap) (locs : List Loc) (pc : Nat) (ls : Array Slot), v = r0 → w9 = ws' → va_P g.1 classes w9 H → va_D A w9 → va_S A s.heap H locs → decode cc pc = .ok (.ireturn, 1) → W p l e { frames := f, cells := 0, slots := 0, locals := k } s m av.toArray below meth c H locs 0 0 Q (F0 m pc ls [.int v])) →
      va_S A s.heap s.heap [] → W p l e { frames := f, cells := 0, slots := 0, locals := k } s m av.toArray below meth c s.heap [] 0 0 Q (F0 m 0 ls [])) : CI l g y cc n rt f k av ws r0 ws' := by
  intro sz
  refine va_MetF (cc := cc) (maxL := n) (ret := rt) hy rfl ?_
  intro p e s m args below meth c s₁ B hml hv
  obtain ⟨rfl, hsz, hP, hD0, hE⟩ := hv
  have hts := atoms_spec (ws := .code y cc n rt :: W0) B.pre
  have hown : s.vm.findClass y.cls = some m.cls := findClass_of_methodNamed B.named
  have hlocks := B.notSynchronized
  subst hsz
  have hD := hD0.self (sz := s.heap.size)
  rw [lg_entry_eq]
  refine body p e s m below meth c (va_A ws s.heap.size) _ _ ⟨B.exec, B.bytes, hml, hown, fun w h => hts w (List.mem_cons_of_mem _ h), hE, fun q h => Or.inr h⟩ hP hD (lv_entry av hl) ?_ va_S.rf
  intro v w9 H locs pc ls hv9 hw9 hP' hD' hS hd
  subst hv9 hw9
  exact W.zret B.exec B.bytes (B.returns.trans hrt) hn (fun t ht hW => ⟨⟨_, (), rfl, rfl, by rw [ht]; exact hP', hD'⟩, hS.F ht⟩) hS.2.2 hd
theorem CV.of {l : Launch} {g : Glob} {y : MethodName} {cc : ByteArray} {n : Nat} {f k : Nat} {av : List Value} {ws : va_W} {ws' : va_W} (hy : plainFor y = true) (hl : (lg_sl av).length ≤ n)
    (body : ∀ (p : Program) (e : Env) (s : State) (m : MethodId) (below : List Frame) (meth : Method) (c : Code) (A : Nat → Prop) (Q : State → Prop) (ls : Array Slot), Cx g y.cls cc n A p s m av.toArray c → va_P g.1 classes ws s.heap → va_D A ws → lv_has ls n (lv_args 0 av) →
      (∀ (w9 : va_W) (H : Heap) (locs : List Loc) (pc : Nat) (ls : Array Slot), w9 = ws' → va_P g.1 classes w9 H → va_D A w9 → va_S A s.heap H locs → decode cc pc = .ok (.return_, 1) → W p l e { frames := f, cells := 0, slots := 0, locals := k } s m av.toArray below meth c H locs 0 0 Q (F0 m pc ls [])) →
      va_S A s.heap s.heap [] → W p l e { frames := f, cells := 0, slots := 0, locals := k } s m av.toArray below meth c s.heap [] 0 0 Q (F0 m 0 ls [])) : CV l g y cc n f k av ws ws' := by
  intro sz
  refine va_MetF (cc := cc) (maxL := n) (ret := none) hy rfl ?_
  intro p e s m args below meth c s₁ B hml hv
  obtain ⟨rfl, hsz, hP, hD0, hE⟩ := hv
  have hts := atoms_spec (ws := .code y cc n none :: W0) B.pre
  have hown : s.vm.findClass y.cls = some m.cls := findClass_of_methodNamed B.named
  have hlocks := B.notSynchronized
  subst hsz
  have hD := hD0.self (sz := s.heap.size)
  rw [lg_entry_eq]
  refine body p e s m below meth c (va_A ws s.heap.size) _ _ ⟨B.exec, B.bytes, hml, hown, fun w h => hts w (List.mem_cons_of_mem _ h), hE, fun q h => Or.inr h⟩ hP hD (lv_entry av hl) ?_ va_S.rf
  intro w9 H locs pc ls hw9 hP' hD' hS hd
  subst hw9
  exact W.vret B.exec B.bytes B.returns (fun t ht hW => ⟨⟨(), rfl, trivial, by rw [ht]; exact hP', hD'⟩, hS.F ht⟩) hS.2.2 hd
theorem mapSub {ws wc : va_W} {is : List Nat} (h : is.map (fun i => ws[i]?) = wc.map some) : is.filterMap (fun i => ws[i]?) = wc := by
  have e : is.filterMap (fun i => ws[i]?) = (is.map (fun i => ws[i]?)).filterMap id := by rw [List.filterMap_map]; rfl
  rw [e, h, List.filterMap_map]
  simp
theorem P_free {D : va_G} {cl : List vw_C} {ws : va_W} {H H1 : Heap} (hP : va_P D cl ws H) (hk : ∀ q : Nat, q < H.size → ¬ va_A [] H.size q → H1[q]? = H[q]?) : va_P D cl ws H1 :=
  hP.kept (fun k q hq => hk q.1 ((hP k q hq).lt) (fun h => by
    rcases h with ⟨k2, e, h⟩ | h
    · simp at h
    · exact absurd ((hP k q hq).lt) (Nat.not_lt.mpr h)))
/-- what a call's instruction names, among the words -/
def VA (own : String) (idx : Nat) (y : MethodName) (cb : ByteArray) (mL : Nat) (rt : Option FieldType) (n : Nat) : Prop :=
  Cond.methodLink own idx y ∈ W0 ∧ Cond.instanceMethod y ∈ W0 ∧ Cond.selects y.cls y y ∈ W0 ∧ Cond.initialized y.cls ∈ W0 ∧ Cond.code y cb mL rt ∈ W0 ∧ (y.cls ≠ "java/lang/invoke/MethodHandle" ∧ y.cls ≠ "java/lang/invoke/VarHandle" ∧ (parseMethodDescriptor y.desc).map (fun d => d.parameters.length) = some n)
def SA (own : String) (idx : Nat) (y : MethodName) (cb : ByteArray) (mL : Nat) (rt : Option FieldType) (n : Nat) : Prop :=
  Cond.methodLink own idx y ∈ W0 ∧ Cond.static y ∈ W0 ∧ Cond.initialized y.cls ∈ W0 ∧ Cond.code y cb mL rt ∈ W0 ∧ (y.cls ≠ "java/lang/invoke/MethodHandle" ∧ y.cls ≠ "java/lang/invoke/VarHandle" ∧ (parseMethodDescriptor y.desc).map (fun d => d.parameters.length) = some n)
theorem VA.good {own : String} {idx : Nat} {y : MethodName} {cb : ByteArray} {mL : Nat} {rt : Option FieldType} {n : Nat} (h : VA own idx y cb mL rt n) : GoodIn W0 (wsV own idx y.cls y (.code y cb mL rt :: W0)) :=
  W0_goodL (all_cons h.1 (all_cons h.2.1 (all_cons h.2.2.1 (all_cons h.2.2.2.1 (all_cons h.2.2.2.2.1 (fun _ q => q))))))
theorem SA.good {own : String} {idx : Nat} {y : MethodName} {cb : ByteArray} {mL : Nat} {rt : Option FieldType} {n : Nat} (h : SA own idx y cb mL rt n) : GoodIn W0 (va_wsS own idx y (.code y cb mL rt :: W0)) :=
  W0_goodL (all_cons h.1 (all_cons h.2.1 (all_cons h.2.2.1 (all_cons h.2.2.2.1 (fun _ q => q)))))
section CALLS
variable {l : Launch} {g : Glob} {own : String} {cc : ByteArray} {nL : Nat} {A : Nat → Prop} {p : Program} {e : Env} {s : State} {m : MethodId} {args : Array Value} {below : List Frame} {meth : Method} {c : Code} {R : Room} {H : Heap} {locs : List Loc} {cells slots : Nat} {Q : State → Prop} {pc : Nat} {ls : Array Slot}
  {y : MethodName} {cb : ByteArray} {mL : Nat} {rt : Option FieldType} {f k : Nat} {b : Nat} {r0 : Int32} {wc wc' ws : va_W} {idx n : Nat} {st0 : List Value}
/-- invokevirtual, an int (or a boolean) comes back -/
theorem cvI (C : Cx g own cc nL A p s m args c) (hv : VA own idx y cb mL rt n) (As rest : List Value) (hM : CI l g y cb mL rt f k (.ref b :: As) wc r0 wc') (hP : va_P g.1 classes ws H) (hD : va_D A ws) (hS : va_S A s.heap H locs)
    (isC isR is1 : List Nat) (wr w1 : va_W) (hC : isC.map (fun i => ws[i]?) = wc.map some) (hRr : isR.map (fun i => ws[i]?) = wr.map some) (hn : va_nd isC = true) (hnR : va_nd isR = true) (hdis : ∀ i ∈ isR, i ∉ isC) (h1 : is1.map (fun i => (wr ++ wc')[i]?) = w1.map some) (hn1 : va_nd is1 = true)
    (q0 : Nat) {ci : Nat} {fs : List Value} {T : u_T} {N : Nat} (hq : wc[q0]? = some (b, .inr (ci, fs))) (hcl : classes[ci]? = some (y.cls, T, N)) (hst : st0 = As.reverse ++ .ref b :: rest) (hlen : As.length = n) (hsz : ls.size = nL) (hcat : (rest.map fun v => v.category).sum ≤ 8) (hR : f + 1 ≤ R.frames ∧ 8 + (mL + 11) + k ≤ R.locals)
    (hdg : decode cc pc = .ok (.invokevirtual idx, 3)) (hf : cells + 0 ≤ R.cells ∧ slots + 0 ≤ R.slots)
    (kk : ∀ (H : Heap) (locs : List Loc), va_P g.1 classes w1 H → va_D A w1 → va_S A s.heap H locs → W p l e R s m args below meth c H locs cells slots Q (F0 m (pc + 3) ls (.int r0 :: rest))) : W p l e R s m args below meth c H locs cells slots Q (F0 m pc ls st0) := by
  obtain ⟨hx, hb, hml, hown, hw, hE, hA⟩ := C
  have hFc := va_free (wc := wc) hD hS hA isC hC
  have hPc : va_P g.1 classes wc H := hP.sub isC (mapSub hC)
  have hDc : va_D A wc := hD.sub isC hn hC
  subst hst
  refine va_calli (va_runV (As := As) (rest := rest) ⟨hx, hb, hml, hown, hw⟩ (hM H.size) (cwV n hw hv.good rfl rfl rfl ⟨rfl, hv.2.2.2.2.2⟩ hR) ⟨CW_blind, va_recv hE.1 hPc hcl hq, fun U hU hW => ⟨rfl, by rw [hU], by rw [hU]; exact hPc, hDc.weaken (fun _ _ _ _ => trivial), by rw [hU]; exact hE.to hS hW hFc⟩⟩ rfl hlen hsz rfl (lv_room hcat) hdg hf) hS (fun q _ h => hFc q h) hFc (fun r u t H1 locs1 ht hvm hw1 hB hz1 hk1 hS1 => ?_)
  obtain ⟨hP1, hD1⟩ := hB
  rw [ht] at hP1
  obtain ⟨hP2, hD2⟩ := va_join (wr := wr) (w1 := wc') hP hD isC isR hC hRr hnR hdis hk1 hFc hP1 hD1
  rw [hw1]
  exact kk H1 locs1 (hP2.sub is1 (mapSub h1)) (hD2.sub is1 hn1 h1) hS1
/-- invokevirtual, nothing comes back -/
theorem cvV (C : Cx g own cc nL A p s m args c) (hv : VA own idx y cb mL none n) (As rest : List Value) (hM : CV l g y cb mL f k (.ref b :: As) wc wc') (hP : va_P g.1 classes ws H) (hD : va_D A ws) (hS : va_S A s.heap H locs)
    (isC isR is1 : List Nat) (wr w1 : va_W) (hC : isC.map (fun i => ws[i]?) = wc.map some) (hRr : isR.map (fun i => ws[i]?) = wr.map some) (hn : va_nd isC = true) (hnR : va_nd isR = true) (hdis : ∀ i ∈ isR, i ∉ isC) (h1 : is1.map (fun i => (wr ++ wc')[i]?) = w1.map some) (hn1 : va_nd is1 = true)
    (q0 : Nat) {ci : Nat} {fs : List Value} {T : u_T} {N : Nat} (hq : wc[q0]? = some (b, .inr (ci, fs))) (hcl : classes[ci]? = some (y.cls, T, N)) (hst : st0 = As.reverse ++ .ref b :: rest) (hlen : As.length = n) (hsz : ls.size = nL) (hcat : (rest.map fun v => v.category).sum ≤ 8) (hR : f + 1 ≤ R.frames ∧ 8 + (mL + 11) + k ≤ R.locals)
    (hdg : decode cc pc = .ok (.invokevirtual idx, 3)) (hf : cells + 0 ≤ R.cells ∧ slots + 0 ≤ R.slots)
    (kk : ∀ (H : Heap) (locs : List Loc), va_P g.1 classes w1 H → va_D A w1 → va_S A s.heap H locs → W p l e R s m args below meth c H locs cells slots Q (F0 m (pc + 3) ls rest)) : W p l e R s m args below meth c H locs cells slots Q (F0 m pc ls st0) := by
  obtain ⟨hx, hb, hml, hown, hw, hE, hA⟩ := C
  have hFc := va_free (wc := wc) hD hS hA isC hC
  have hPc : va_P g.1 classes wc H := hP.sub isC (mapSub hC)
  have hDc : va_D A wc := hD.sub isC hn hC
  subst hst
  refine va_callv (va_runV (As := As) (rest := rest) ⟨hx, hb, hml, hown, hw⟩ (hM H.size) (cwV n hw hv.good rfl rfl rfl ⟨rfl, hv.2.2.2.2.2⟩ hR) ⟨CW_blind, va_recv hE.1 hPc hcl hq, fun U hU hW => ⟨rfl, by rw [hU], by rw [hU]; exact hPc, hDc.weaken (fun _ _ _ _ => trivial), by rw [hU]; exact hE.to hS hW hFc⟩⟩ rfl hlen hsz rfl (lv_room hcat) hdg hf) hS (fun q _ h => hFc q h) hFc (fun u t H1 locs1 ht hvm hw1 hB hz1 hk1 hS1 => ?_)
  obtain ⟨hP1, hD1⟩ := hB
  rw [ht] at hP1
  obtain ⟨hP2, hD2⟩ := va_join (wr := wr) (w1 := wc') hP hD isC isR hC hRr hnR hdis hk1 hFc hP1 hD1
  exact kk H1 locs1 (hP2.sub is1 (mapSub h1)) (hD2.sub is1 hn1 h1) hS1
/-- invokestatic of a method that reads and writes nothing -/
theorem csI (C : Cx g own cc nL A p s m args c) (hv : SA own idx y cb mL rt n) (As rest : List Value) (hM : CI l g y cb mL rt f k As [] r0 []) (hP : va_P g.1 classes ws H) (hS : va_S A s.heap H locs)
    (hst : st0 = As.reverse ++ rest) (hlen : As.length = n) (hsz : ls.size = nL) (hcat : (rest.map fun v => v.category).sum ≤ 8) (hR : f + 1 ≤ R.frames ∧ 8 + (mL + 11) + k ≤ R.locals)
    (hdg : decode cc pc = .ok (.invokestatic idx, 3)) (hf : cells + 0 ≤ R.cells ∧ slots + 0 ≤ R.slots)
    (kk : ∀ (H : Heap) (locs : List Loc), va_P g.1 classes ws H → va_S A s.heap H locs → W p l e R s m args below meth c H locs cells slots Q (F0 m (pc + 3) ls (.int r0 :: rest))) : W p l e R s m args below meth c H locs cells slots Q (F0 m pc ls st0) := by
  obtain ⟨hx, hb, hml, hown, hw, hE, hA⟩ := C
  have hFc : ∀ q, va_A [] H.size q → A q := fun q h => by
    rcases h with ⟨k2, e2, h⟩ | h
    · simp at h
    · exact hA q (Nat.le_trans hS.1 h)
  subst hst
  refine va_calli (va_runS (As := As) (rest := rest) ⟨hx, hb, hml, hown, hw⟩ (hM H.size) (va_cwS n hw hv.good rfl rfl rfl hv.2.2.2.2 hR) ⟨CW_blind, fun U hU hW => ⟨rfl, by rw [hU], fun k q h => by simp at h, ⟨fun i j p q h => by simp at h, fun k q h => by simp at h⟩, by rw [hU]; exact hE.to hS hW hFc⟩⟩ rfl hlen hsz rfl (lv_room hcat) hdg hf) hS (fun q _ h => hFc q h) hFc (fun r u t H1 locs1 ht hvm hw1 hB hz1 hk1 hS1 => ?_)
  rw [hw1]
  exact kk H1 locs1 (P_free hP hk1) hS1
/-- invokestatic, with a world, nothing comes back -/
theorem csV (C : Cx g own cc nL A p s m args c) (hv : SA own idx y cb mL none n) (As rest : List Value) (hM : CV l g y cb mL f k As wc wc') (hP : va_P g.1 classes ws H) (hD : va_D A ws) (hS : va_S A s.heap H locs)
    (isC isR is1 : List Nat) (wr w1 : va_W) (hC : isC.map (fun i => ws[i]?) = wc.map some) (hRr : isR.map (fun i => ws[i]?) = wr.map some) (hn : va_nd isC = true) (hnR : va_nd isR = true) (hdis : ∀ i ∈ isR, i ∉ isC) (h1 : is1.map (fun i => (wr ++ wc')[i]?) = w1.map some) (hn1 : va_nd is1 = true)
    (hst : st0 = As.reverse ++ rest) (hlen : As.length = n) (hsz : ls.size = nL) (hcat : (rest.map fun v => v.category).sum ≤ 8) (hR : f + 1 ≤ R.frames ∧ 8 + (mL + 11) + k ≤ R.locals)
    (hdg : decode cc pc = .ok (.invokestatic idx, 3)) (hf : cells + 0 ≤ R.cells ∧ slots + 0 ≤ R.slots)
    (kk : ∀ (H : Heap) (locs : List Loc), va_P g.1 classes w1 H → va_D A w1 → va_S A s.heap H locs → W p l e R s m args below meth c H locs cells slots Q (F0 m (pc + 3) ls rest)) : W p l e R s m args below meth c H locs cells slots Q (F0 m pc ls st0) := by
  obtain ⟨hx, hb, hml, hown, hw, hE, hA⟩ := C
  have hFc := va_free (wc := wc) hD hS hA isC hC
  have hPc : va_P g.1 classes wc H := hP.sub isC (mapSub hC)
  have hDc : va_D A wc := hD.sub isC hn hC
  subst hst
  refine va_callv (va_runS (As := As) (rest := rest) ⟨hx, hb, hml, hown, hw⟩ (hM H.size) (va_cwS n hw hv.good rfl rfl rfl hv.2.2.2.2 hR) ⟨CW_blind, fun U hU hW => ⟨rfl, by rw [hU], by rw [hU]; exact hPc, hDc.weaken (fun _ _ _ _ => trivial), by rw [hU]; exact hE.to hS hW hFc⟩⟩ rfl hlen hsz rfl (lv_room hcat) hdg hf) hS (fun q _ h => hFc q h) hFc (fun u t H1 locs1 ht hvm hw1 hB hz1 hk1 hS1 => ?_)
  obtain ⟨hP1, hD1⟩ := hB
  rw [ht] at hP1
  obtain ⟨hP2, hD2⟩ := va_join (wr := wr) (w1 := wc') hP hD isC isR hC hRr hnR hdis hk1 hFc hP1 hD1
  exact kk H1 locs1 (hP2.sub is1 (mapSub h1)) (hD2.sub is1 hn1 h1) hS1
end CALLS
end
section
theorem v_SP_35 : SA "SweptPaths" 35 y_SP_demandWithin b_SP_demandWithin 3 (none : Option Jvm.ClassFile.FieldType) 3 := ⟨q_244, q_245, q_1, q_246, by decide +kernel⟩
theorem v_SP_71 : VA "SweptPaths" 71 y_Ru_begin b_Ru_begin 3 (none : Option Jvm.ClassFile.FieldType) 0 := ⟨q_330, q_331, q_332, q_4, q_333, by decide +kernel⟩
theorem v_SP_100 : VA "SweptPaths" 100 y_SP_demandSomeBody b_SP_demandSomeBody 1 (none : Option Jvm.ClassFile.FieldType) 0 := ⟨q_429, q_431, s_5, q_1, q_432, by decide +kernel⟩
theorem v_SP_103 : VA "SweptPaths" 103 y_Ru_walk b_Ru_walk 6 (none : Option Jvm.ClassFile.FieldType) 3 := ⟨q_434, q_435, q_436, q_4, q_437, by decide +kernel⟩
theorem v_SP_125 : VA "SweptPaths" 125 y_Ru_askewOf b_Ru_askewOf 2 (some .int) 1 := ⟨q_473, q_450, q_451, q_4, q_452, by decide +kernel⟩
theorem v_SP_132 : SA "SweptPaths" 132 y_Di_dx b_Di_dx 1 (some .int) 1 := ⟨q_481, q_346, q_15, q_347, by decide +kernel⟩
theorem v_SP_135 : SA "SweptPaths" 135 y_Di_dy b_Di_dy 1 (some .int) 1 := ⟨q_482, q_351, q_15, q_352, by decide +kernel⟩
theorem v_SP_147 : VA "SweptPaths" 147 y_Ce_has b_Ce_has 5 (some .boolean) 2 := ⟨q_490, q_491, q_492, q_6, q_493, by decide +kernel⟩
theorem v_SP_164 : VA "SweptPaths" 164 y_Pl_add b_Pl_add 4 (some .boolean) 3 := ⟨q_508, q_509, q_510, q_7, q_511, by decide +kernel⟩
theorem v_SP_173 : VA "SweptPaths" 173 y_Ru_follow b_Ru_follow 3 (none : Option Jvm.ClassFile.FieldType) 1 := ⟨q_527, q_528, q_529, q_4, q_530, by decide +kernel⟩
theorem v_SP_177 : VA "SweptPaths" 177 y_Ru_isFaultless b_Ru_isFaultless 1 (some .boolean) 0 := ⟨q_533, q_534, q_535, q_4, q_536, by decide +kernel⟩
theorem v_Mo_90 : VA "SweptPathsModel" 90 y_Mo_dx b_Mo_dx 3 (some .int) 1 := ⟨q_669, q_671, s_11, q_8, q_672, by decide +kernel⟩
theorem v_Mo_94 : SA "SweptPathsModel" 94 y_Mo_wrapped b_Mo_wrapped 1 (some .int) 1 := ⟨q_723, q_724, q_8, q_725, by decide +kernel⟩
theorem v_Mo_97 : VA "SweptPathsModel" 97 y_Mo_dy b_Mo_dy 2 (some .int) 1 := ⟨q_673, q_675, s_12, q_8, q_676, by decide +kernel⟩
theorem v_Mo_102 : SA "SweptPathsModel" 102 y_Mo_down b_Mo_down 3 (some .int) 2 := ⟨q_684, q_685, q_8, q_686, by decide +kernel⟩
theorem v_Mo_106 : SA "SweptPathsModel" 106 y_Mo_cellOf b_Mo_cellOf 2 (some .int) 1 := ⟨q_681, q_682, q_8, q_683, by decide +kernel⟩
theorem v_Mo_109 : SA "SweptPathsModel" 109 y_Mo_within b_Mo_within 1 (some .int) 1 := ⟨q_687, q_688, q_8, q_689, by decide +kernel⟩
theorem v_Mo_112 : VA "SweptPathsModel" 112 y_Mo_covers b_Mo_covers 16 (some .boolean) 3 := ⟨q_690, q_692, s_14, q_8, q_693, by decide +kernel⟩
theorem v_Mo_138 : VA "SweptPathsModel" 138 y_Mo_hang b_Mo_hang 3 (none : Option Jvm.ClassFile.FieldType) 1 := ⟨q_665, q_667, s_10, q_8, q_668, by decide +kernel⟩
theorem v_Mo_142 : VA "SweptPathsModel" 142 y_Mo_look b_Mo_look 9 (none : Option Jvm.ClassFile.FieldType) 0 := ⟨q_677, q_679, s_13, q_8, q_680, by decide +kernel⟩
theorem v_Mo_145 : VA "SweptPathsModel" 145 y_Mo_askewOf b_Mo_askewOf 2 (some .int) 1 := ⟨q_719, q_721, s_17, q_8, q_722, by decide +kernel⟩
theorem v_Mo_148 : VA "SweptPathsModel" 148 y_Mo_move b_Mo_move 7 (none : Option Jvm.ClassFile.FieldType) 2 := ⟨q_715, q_717, s_16, q_8, q_718, by decide +kernel⟩
theorem v_Mo_152 : SA "SweptPathsModel" 152 y_Mo_in b_Mo_in 3 (some .boolean) 3 := ⟨q_658, q_659, q_8, q_660, by decide +kernel⟩
theorem v_Mo_155 : VA "SweptPathsModel" 155 y_Mo_beginAnew b_Mo_beginAnew 2 (none : Option Jvm.ClassFile.FieldType) 0 := ⟨q_661, q_663, s_9, q_8, q_664, by decide +kernel⟩
theorem v_Mo_158 : VA "SweptPathsModel" 158 y_Mo_goOn b_Mo_goOn 5 (none : Option Jvm.ClassFile.FieldType) 3 := ⟨q_711, q_713, s_15, q_8, q_714, by decide +kernel⟩
theorem v_Mo_162 : VA "SweptPathsModel" 162 y_Mo_keepAside b_Mo_keepAside 2 (none : Option Jvm.ClassFile.FieldType) 0 := ⟨q_762, q_764, s_18, q_8, q_765, by decide +kernel⟩
theorem v_Mo_165 : VA "SweptPathsModel" 165 y_Mo_goPlan b_Mo_goPlan 4 (none : Option Jvm.ClassFile.FieldType) 1 := ⟨q_766, q_768, s_19, q_8, q_769, by decide +kernel⟩
theorem v_Mo_168 : VA "SweptPathsModel" 168 y_Mo_putBack b_Mo_putBack 2 (none : Option Jvm.ClassFile.FieldType) 0 := ⟨q_770, q_772, s_20, q_8, q_773, by decide +kernel⟩
theorem v_Ce_15 : SA "SweptPaths$Cells" 15 y_Ar_fill b_Ar_fill 5 (none : Option Jvm.ClassFile.FieldType) 2 := ⟨q_338, q_339, q_14, q_340, by decide +kernel⟩
theorem v_Ce_30 : SA "SweptPaths$Cells" 30 y_Di_dx b_Di_dx 1 (some .int) 1 := ⟨q_361, q_346, q_15, q_347, by decide +kernel⟩
theorem v_Ce_36 : SA "SweptPaths$Cells" 36 y_Di_dy b_Di_dy 1 (some .int) 1 := ⟨q_362, q_351, q_15, q_352, by decide +kernel⟩
theorem v_Ce_50 : SA "SweptPaths$Cells" 50 y_Ma_abs b_Ma_abs 1 (some .int) 1 := ⟨q_363, q_364, q_16, q_365, by decide +kernel⟩
theorem v_Ce_58 : SA "SweptPaths$Cells" 58 y_Ma_min b_Ma_min 2 (some .int) 2 := ⟨q_366, q_367, q_16, q_368, by decide +kernel⟩
theorem v_Ce_62 : SA "SweptPaths$Cells" 62 y_Ce_firstFrom b_Ce_firstFrom 1 (some .int) 1 := ⟨q_369, q_370, q_6, q_371, by decide +kernel⟩
theorem v_Ce_65 : SA "SweptPaths$Cells" 65 y_Ma_max b_Ma_max 2 (some .int) 2 := ⟨q_376, q_377, q_16, q_378, by decide +kernel⟩
theorem v_Ce_68 : SA "SweptPaths$Cells" 68 y_Ce_lastUpTo b_Ce_lastUpTo 1 (some .int) 1 := ⟨q_379, q_380, q_6, q_381, by decide +kernel⟩
theorem v_Ce_74 : SA "SweptPaths$Cells" 74 y_Ce_middleOf b_Ce_middleOf 1 (some .int) 1 := ⟨q_382, q_383, q_6, q_384, by decide +kernel⟩
theorem v_Ce_77 : VA "SweptPaths$Cells" 77 y_Sh_holds b_Sh_holds 5 (some .boolean) 2 := ⟨q_385, q_386, q_387, q_3, q_388, by decide +kernel⟩
theorem v_Ce_81 : VA "SweptPaths$Cells" 81 y_Ce_mark b_Ce_mark 6 (none : Option Jvm.ClassFile.FieldType) 2 := ⟨q_390, q_392, s_3, q_6, q_393, by decide +kernel⟩
theorem v_Ce_88 : SA "SweptPaths$Cells" 88 y_Ma_floorDiv b_Ma_floorDiv 3 (some .int) 2 := ⟨q_373, q_374, q_16, q_375, by decide +kernel⟩
theorem v_Ru_46 : VA "SweptPaths$Run" 46 y_Ce_wipe b_Ce_wipe 1 (none : Option Jvm.ClassFile.FieldType) 0 := ⟨q_334, q_335, q_336, q_6, q_337, by decide +kernel⟩
theorem v_Ru_78 : VA "SweptPaths$Run" 78 y_Ru_placeTrailers b_Ru_placeTrailers 6 (none : Option Jvm.ClassFile.FieldType) 0 := ⟨q_341, q_343, s_1, q_4, q_344, by decide +kernel⟩
theorem v_Ru_81 : VA "SweptPaths$Run" 81 y_Ru_lookRound b_Ru_lookRound 2 (none : Option Jvm.ClassFile.FieldType) 0 := ⟨q_353, q_355, s_2, q_4, q_356, by decide +kernel⟩
theorem v_Ru_84 : VA "SweptPaths$Run" 84 y_Ru_begin b_Ru_begin 3 (none : Option Jvm.ClassFile.FieldType) 0 := ⟨q_531, q_331, q_332, q_4, q_333, by decide +kernel⟩
theorem v_Ru_103 : VA "SweptPaths$Run" 103 y_Ru_walk b_Ru_walk 6 (none : Option Jvm.ClassFile.FieldType) 3 := ⟨q_532, q_435, q_436, q_4, q_437, by decide +kernel⟩
theorem v_Ru_110 : VA "SweptPaths$Run" 110 y_Ru_move b_Ru_move 5 (none : Option Jvm.ClassFile.FieldType) 2 := ⟨q_438, q_440, s_6, q_4, q_441, by decide +kernel⟩
theorem v_Ru_114 : VA "SweptPaths$Run" 114 y_Ru_measureAskew b_Ru_measureAskew 3 (none : Option Jvm.ClassFile.FieldType) 0 := ⟨q_460, q_462, s_8, q_4, q_463, by decide +kernel⟩
theorem v_Ru_117 : SA "SweptPaths$Run" 117 y_Di_askew b_Di_askew 2 (some .int) 2 := ⟨q_453, q_454, q_15, q_455, by decide +kernel⟩
theorem v_Ru_123 : SA "SweptPaths$Run" 123 y_Di_dx b_Di_dx 1 (some .int) 1 := ⟨q_345, q_346, q_15, q_347, by decide +kernel⟩
theorem v_Ru_127 : SA "SweptPaths$Run" 127 y_Di_dy b_Di_dy 1 (some .int) 1 := ⟨q_350, q_351, q_15, q_352, by decide +kernel⟩
theorem v_Ru_130 : SA "SweptPaths$Run" 130 y_Di_round b_Di_round 1 (some .int) 1 := ⟨q_442, q_443, q_15, q_444, by decide +kernel⟩
theorem v_Ru_133 : VA "SweptPaths$Run" 133 y_Ru_swing b_Ru_swing 7 (none : Option Jvm.ClassFile.FieldType) 2 := ⟨q_445, q_447, s_7, q_4, q_448, by decide +kernel⟩
theorem v_Ru_140 : VA "SweptPaths$Run" 140 y_Ru_askewOf b_Ru_askewOf 2 (some .int) 1 := ⟨q_449, q_450, q_451, q_4, q_452, by decide +kernel⟩
theorem v_Ru_143 : VA "SweptPaths$Run" 143 y_Sh_directionsIn b_Sh_directionsIn 2 (some .int) 1 := ⟨q_456, q_457, q_458, q_3, q_459, by decide +kernel⟩
theorem v_Ru_154 : SA "SweptPaths$Run" 154 y_Ma_abs b_Ma_abs 1 (some .int) 1 := ⟨q_464, q_364, q_16, q_365, by decide +kernel⟩
theorem v_Ru_159 : SA "SweptPaths$Run" 159 y_Ma_max b_Ma_max 2 (some .int) 2 := ⟨q_465, q_377, q_16, q_378, by decide +kernel⟩
theorem v_Ru_162 : VA "SweptPaths$Run" 162 y_Ce_cover b_Ce_cover 25 (none : Option Jvm.ClassFile.FieldType) 2 := ⟨q_357, q_358, q_359, q_6, q_360, by decide +kernel⟩
theorem v_Ru_166 : VA "SweptPaths$Run" 166 y_Ru_lookForPoles b_Ru_lookForPoles 13 (none : Option Jvm.ClassFile.FieldType) 1 := ⟨q_395, q_397, s_4, q_4, q_398, by decide +kernel⟩
theorem v_Ru_179 : VA "SweptPaths$Run" 179 y_Sh_holds b_Sh_holds 5 (some .boolean) 2 := ⟨q_399, q_386, q_387, q_3, q_388, by decide +kernel⟩
theorem v_La_7 : VA "SweptPathsLaw" 7 y_SP_body b_SP_body 8 (some .int) 5 := ⟨q_240, q_241, q_242, q_1, q_243, by decide +kernel⟩
theorem v_La_17 : VA "SweptPathsLaw" 17 y_SP_start b_SP_start 4 (none : Option Jvm.ClassFile.FieldType) 3 := ⟨q_403, q_404, q_405, q_1, q_406, by decide +kernel⟩
theorem v_La_21 : VA "SweptPathsLaw" 21 y_SP_step b_SP_step 3 (some .int) 1 := ⟨q_410, q_411, q_412, q_1, q_413, by decide +kernel⟩
theorem v_La_25 : VA "SweptPathsLaw" 25 y_SP_pole b_SP_pole 4 (some .int) 2 := ⟨q_417, q_418, q_419, q_1, q_420, by decide +kernel⟩
theorem v_La_29 : VA "SweptPathsLaw" 29 y_SP_go b_SP_go 4 (some .int) 3 := ⟨q_425, q_426, q_427, q_1, q_428, by decide +kernel⟩
theorem v_La_33 : VA "SweptPathsLaw" 33 y_SP_told b_SP_told 4 (some .int) 2 := ⟨q_469, q_470, q_471, q_1, q_472, by decide +kernel⟩
theorem v_La_36 : VA "SweptPathsLaw" 36 y_SP_corner b_SP_corner 10 (some .int) 3 := ⟨q_477, q_478, q_479, q_1, q_480, by decide +kernel⟩
theorem v_La_40 : VA "SweptPathsLaw" 40 y_SP_cell b_SP_cell 3 (some .boolean) 2 := ⟨q_486, q_487, q_488, q_1, q_489, by decide +kernel⟩
theorem v_La_44 : VA "SweptPathsLaw" 44 y_SP_clash b_SP_clash 2 (some .int) 1 := ⟨q_497, q_498, q_499, q_1, q_500, by decide +kernel⟩
theorem v_La_47 : VA "SweptPathsLaw" 47 y_SP_part b_SP_part 6 (some .int) 4 := ⟨q_504, q_505, q_506, q_1, q_507, by decide +kernel⟩
theorem v_La_51 : VA "SweptPathsLaw" 51 y_SP_clear b_SP_clear 3 (some .int) 1 := ⟨q_516, q_517, q_518, q_1, q_519, by decide +kernel⟩
theorem v_La_54 : VA "SweptPathsLaw" 54 y_SP_best b_SP_best 4 (some .int) 0 := ⟨q_523, q_524, q_525, q_1, q_526, by decide +kernel⟩
theorem v_La_58 : VA "SweptPathsLaw" 58 y_SP_sweeps b_SP_sweeps 2 (some .int) 1 := ⟨q_540, q_541, q_542, q_1, q_543, by decide +kernel⟩
theorem v_La_70 : VA "SweptPathsLaw" 70 y_Mo_body b_Mo_body 7 (some .int) 5 := ⟨q_654, q_655, q_656, q_8, q_657, by decide +kernel⟩
theorem v_La_71 : VA "SweptPathsLaw" 71 y_Mo_thrown b_Mo_thrown 1 (some .int) 0 := ⟨q_650, q_651, q_652, q_8, q_653, by decide +kernel⟩
theorem v_La_77 : VA "SweptPathsLaw" 77 y_Mo_start b_Mo_start 4 (none : Option Jvm.ClassFile.FieldType) 3 := ⟨q_695, q_696, q_697, q_8, q_698, by decide +kernel⟩
theorem v_La_81 : VA "SweptPathsLaw" 81 y_Mo_step b_Mo_step 3 (some .int) 1 := ⟨q_699, q_700, q_701, q_8, q_702, by decide +kernel⟩
theorem v_La_85 : VA "SweptPathsLaw" 85 y_Mo_pole b_Mo_pole 3 (some .int) 2 := ⟨q_703, q_704, q_705, q_8, q_706, by decide +kernel⟩
theorem v_La_89 : VA "SweptPathsLaw" 89 y_Mo_go b_Mo_go 4 (some .int) 3 := ⟨q_707, q_708, q_709, q_8, q_710, by decide +kernel⟩
theorem v_La_92 : VA "SweptPathsLaw" 92 y_Mo_told b_Mo_told 3 (some .int) 2 := ⟨q_726, q_727, q_728, q_8, q_729, by decide +kernel⟩
theorem v_La_96 : VA "SweptPathsLaw" 96 y_Mo_corner b_Mo_corner 8 (some .int) 3 := ⟨q_730, q_731, q_732, q_8, q_733, by decide +kernel⟩
theorem v_La_97 : VA "SweptPathsLaw" 97 y_SP_swept b_SP_swept 1 (some .int) 0 := ⟨q_227, q_228, q_229, q_1, q_230, by decide +kernel⟩
theorem v_La_100 : VA "SweptPathsLaw" 100 y_Mo_swept b_Mo_swept 1 (some .int) 0 := ⟨q_734, q_735, q_736, q_8, q_737, by decide +kernel⟩
theorem v_La_103 : VA "SweptPathsLaw" 103 y_Mo_cell b_Mo_cell 3 (some .boolean) 2 := ⟨q_738, q_739, q_740, q_8, q_741, by decide +kernel⟩
theorem v_La_106 : VA "SweptPathsLaw" 106 y_Mo_clash b_Mo_clash 2 (some .int) 1 := ⟨q_742, q_743, q_744, q_8, q_745, by decide +kernel⟩
theorem v_La_107 : VA "SweptPathsLaw" 107 y_SP_isStuck b_SP_isStuck 1 (some .boolean) 0 := ⟨q_231, q_232, q_233, q_1, q_234, by decide +kernel⟩
theorem v_La_111 : VA "SweptPathsLaw" 111 y_Mo_isStuck b_Mo_isStuck 1 (some .boolean) 0 := ⟨q_746, q_747, q_748, q_8, q_749, by decide +kernel⟩
theorem v_La_115 : VA "SweptPathsLaw" 115 y_Mo_part b_Mo_part 6 (some .int) 4 := ⟨q_750, q_751, q_752, q_8, q_753, by decide +kernel⟩
theorem v_La_118 : VA "SweptPathsLaw" 118 y_Mo_clear b_Mo_clear 3 (some .int) 1 := ⟨q_754, q_755, q_756, q_8, q_757, by decide +kernel⟩
theorem v_La_122 : VA "SweptPathsLaw" 122 y_Mo_best b_Mo_best 4 (some .int) 0 := ⟨q_758, q_759, q_760, q_8, q_761, by decide +kernel⟩
theorem v_La_125 : VA "SweptPathsLaw" 125 y_Mo_sweeps b_Mo_sweeps 3 (some .int) 1 := ⟨q_774, q_775, q_776, q_8, q_777, by decide +kernel⟩
end
section
/-! the words for the state: shapes and poses by (field, body), the setting's numbers, the run's numbers, the cells -/
abbrev St2 : Type := Nat → Nat → Int32
def u2 (σ : St2) (k b : Nat) (x : Int32) : St2 := fun i j => if i = k then (if j = b then x else σ i j) else σ i j
/-- shapes (length, hitch, front, rear, half); bodies, poles, startX, startY, startHeading, stepLength; poleX; poleY -/
abbrev CFG : Type := St2 × (Nat → Int32) × (Nat → Int32) × (Nat → Int32)
/-- poses (x, y, heading, rest, greatestAskew); made, stuck, clashStep, clashBody, clashPole; count; rows -/
abbrev RS : Type := St2 × (Nat → Int32) × Int32 × (Nat → Int64)
abbrev qShape (a : Nat) (sh : St2) (b : Nat) : Nat × va_E := (a, .inr (6, [.int (sh 0 b), .int (sh 1 b), .int (sh 2 b), .int (sh 3 b), .int (sh 4 b)]))
abbrev qPose (a : Nat) (po : St2) (b : Nat) : Nat × va_E := (a, .inr (3, [.int (po 0 b), .int (po 1 b), .int (po 2 b), .int (po 3 b), .int (po 4 b)]))
abbrev qRefs (a : Nat) (c : ClassId) (n : Nat) (f : List Nat) : Nat × va_E := (a, .inl (c, n, .inr (.inr (.inr (.inr (fun j => f[j]?))))))
abbrev qInts (a : Nat) (c : ClassId) (n : Nat) (f : Nat → Int32) : Nat × va_E := (a, .inl (c, n, .inl f))
abbrev qLongs (a : Nat) (c : ClassId) (n : Nat) (f : Nat → Int64) : Nat × va_E := (a, .inl (c, n, .inr (.inl f)))
def wR (g : Glob) (ad : Nat → Nat) (k : CFG) (x : RS) : va_W := [
  (ad 0, .inr (4, [.ref (ad 6), .ref (ad 10), .int (x.2.1 0), .int (x.2.1 1), .int (x.2.1 2), .int (x.2.1 3), .int (x.2.1 4), .ref (ad 1)])),
  (ad 1, .inr (5, [.ref (ad 2), .ref (ad 12), .ref (ad 13), .int (k.2.1 0), .int (k.2.1 1), .int (k.2.1 2), .int (k.2.1 3), .int (k.2.1 4), .int (k.2.1 5)])),
  qRefs (ad 2) (g.2.1 3) 3 [ad 3, ad 4, ad 5], qShape (ad 3) k.1 0, qShape (ad 4) k.1 1, qShape (ad 5) k.1 2,
  qRefs (ad 6) (g.2.1 4) 3 [ad 7, ad 8, ad 9], qPose (ad 7) x.1 0, qPose (ad 8) x.1 1, qPose (ad 9) x.1 2,
  (ad 10, .inr (1, [.ref (ad 11), .int x.2.2.1])), qLongs (ad 11) (g.2.1 1) 64 x.2.2.2, qInts (ad 12) (g.2.1 0) 20 k.2.2.1, qInts (ad 13) (g.2.1 0) 20 k.2.2.2]
theorem lt3 {P : Nat → Prop} (h0 : P 0) (h1 : P 1) (h2 : P 2) {i : Nat} (h : i < 3) : P i := by
  match i, h with
  | 0, _ => exact h0
  | 1, _ => exact h1
  | 2, _ => exact h2
theorem wR_sh {g : Glob} {ad : Nat → Nat} {k : CFG} {x : RS} {i : Nat} (h : i < 3) : (wR g ad k x)[3 + i]? = some (qShape (ad (3 + i)) k.1 i) := lt3 (P := fun i => (wR g ad k x)[3 + i]? = some (qShape (ad (3 + i)) k.1 i)) rfl rfl rfl h
theorem wR_po {g : Glob} {ad : Nat → Nat} {k : CFG} {x : RS} {i : Nat} (h : i < 3) : (wR g ad k x)[7 + i]? = some (qPose (ad (7 + i)) x.1 i) := lt3 (P := fun i => (wR g ad k x)[7 + i]? = some (qPose (ad (7 + i)) x.1 i)) rfl rfl rfl h
theorem wR_p0 {g : Glob} {ad : Nat → Nat} {k : CFG} {po : St2} {y : (Nat → Int32) × Int32 × (Nat → Int64)} {v : Int32} {i : Nat} (h : i < 3) : (wR g ad k (po, y)).set (7 + i) (ad (7 + i), .inr (3, [.int v, .int (po 1 i), .int (po 2 i), .int (po 3 i), .int (po 4 i)])) = wR g ad k (u2 po 0 i v, y) := lt3 (P := fun i => (wR g ad k (po, y)).set (7 + i) (ad (7 + i), .inr (3, [.int v, .int (po 1 i), .int (po 2 i), .int (po 3 i), .int (po 4 i)])) = wR g ad k (u2 po 0 i v, y)) rfl rfl rfl h
theorem wR_p1 {g : Glob} {ad : Nat → Nat} {k : CFG} {po : St2} {y : (Nat → Int32) × Int32 × (Nat → Int64)} {v : Int32} {i : Nat} (h : i < 3) : (wR g ad k (po, y)).set (7 + i) (ad (7 + i), .inr (3, [.int (po 0 i), .int v, .int (po 2 i), .int (po 3 i), .int (po 4 i)])) = wR g ad k (u2 po 1 i v, y) := lt3 (P := fun i => (wR g ad k (po, y)).set (7 + i) (ad (7 + i), .inr (3, [.int (po 0 i), .int v, .int (po 2 i), .int (po 3 i), .int (po 4 i)])) = wR g ad k (u2 po 1 i v, y)) rfl rfl rfl h
theorem wR_p2 {g : Glob} {ad : Nat → Nat} {k : CFG} {po : St2} {y : (Nat → Int32) × Int32 × (Nat → Int64)} {v : Int32} {i : Nat} (h : i < 3) : (wR g ad k (po, y)).set (7 + i) (ad (7 + i), .inr (3, [.int (po 0 i), .int (po 1 i), .int v, .int (po 3 i), .int (po 4 i)])) = wR g ad k (u2 po 2 i v, y) := lt3 (P := fun i => (wR g ad k (po, y)).set (7 + i) (ad (7 + i), .inr (3, [.int (po 0 i), .int (po 1 i), .int v, .int (po 3 i), .int (po 4 i)])) = wR g ad k (u2 po 2 i v, y)) rfl rfl rfl h
theorem wR_p3 {g : Glob} {ad : Nat → Nat} {k : CFG} {po : St2} {y : (Nat → Int32) × Int32 × (Nat → Int64)} {v : Int32} {i : Nat} (h : i < 3) : (wR g ad k (po, y)).set (7 + i) (ad (7 + i), .inr (3, [.int (po 0 i), .int (po 1 i), .int (po 2 i), .int v, .int (po 4 i)])) = wR g ad k (u2 po 3 i v, y) := lt3 (P := fun i => (wR g ad k (po, y)).set (7 + i) (ad (7 + i), .inr (3, [.int (po 0 i), .int (po 1 i), .int (po 2 i), .int v, .int (po 4 i)])) = wR g ad k (u2 po 3 i v, y)) rfl rfl rfl h
theorem wR_p4 {g : Glob} {ad : Nat → Nat} {k : CFG} {po : St2} {y : (Nat → Int32) × Int32 × (Nat → Int64)} {v : Int32} {i : Nat} (h : i < 3) : (wR g ad k (po, y)).set (7 + i) (ad (7 + i), .inr (3, [.int (po 0 i), .int (po 1 i), .int (po 2 i), .int (po 3 i), .int v])) = wR g ad k (u2 po 4 i v, y) := lt3 (P := fun i => (wR g ad k (po, y)).set (7 + i) (ad (7 + i), .inr (3, [.int (po 0 i), .int (po 1 i), .int (po 2 i), .int (po 3 i), .int v])) = wR g ad k (u2 po 4 i v, y)) rfl rfl rfl h
/-! loops as folds: from i up to n -/
def iterF {α : Type} (f : Nat → α → α) : Nat → Nat → α → α
  | 0, _, x => x
  | j + 1, i, x => iterF f j (i + 1) (f i x)
def itF {α : Type} (f : Nat → α → α) (n i : Nat) (x : α) : α := iterF f (n - i) i x
theorem itF_end {α : Type} {f : Nat → α → α} {n i : Nat} {x : α} (h : n ≤ i) : itF f n i x = x := by
  unfold itF
  rw [Nat.sub_eq_zero_of_le h]
  rfl
theorem itF_step {α : Type} {f : Nat → α → α} {n i : Nat} {x : α} (h : i < n) : itF f n i x = itF f n (i + 1) (f i x) := by
  unfold itF
  rw [show n - i = (n - (i + 1)) + 1 by omega]
  rfl
/-! directions and the like, on the machine's ints -/
def dX (h : Int32) : Int32 := dxT (h &&& 63).toNatClampNeg
def dY (h : Int32) : Int32 := dxT ((h - 16) &&& 63).toNatClampNeg
def askI (a b : Int32) : Int32 := ((a - b + 32) &&& 63) - 32
theorem in63 (x : Int32) : vp_in (x &&& 63) 64 := pk_andIn x 6 (by decide) (by decide)
def maxI (a b : Int32) : Int32 := if a < b then b else a
def minI (a b : Int32) : Int32 := if b < a then b else a
def absI (a : Int32) : Int32 := if 0 ≤ a then a else 0 - a
def fdivI (x y : Int32) : Int32 := if 0 ≤ x ^^^ y then x / y else if x / y * y = x then x / y else x / y - 1
def midI (i : Int32) : Int32 := i * 32768 + 16384
def firI (p : Int32) : Int32 := maxI (-32) (fdivI (p - 16384 + 32768 - 1) 32768)
def lasI (p : Int32) : Int32 := minI 31 (fdivI (p - 16384) 32768)
end
section
theorem u2_s {σ : St2} {k b : Nat} {x : Int32} : u2 σ k b x k b = x := by simp [u2]
theorem u2_k {σ : St2} {k b i j : Nat} {x : Int32} (h : i ≠ k) : u2 σ k b x i j = σ i j := by simp [u2, h]
theorem u2_b {σ : St2} {k b i j : Nat} {x : Int32} (h : j ≠ b) : u2 σ k b x i j = σ i j := by simp [u2, h]
theorem lt5 {P : Nat → Prop} (h0 : P 0) (h1 : P 1) (h2 : P 2) (h3 : P 3) (h4 : P 4) {i : Nat} (h : i < 5) : P i := by
  match i, h with
  | 0, _ => exact h0
  | 1, _ => exact h1
  | 2, _ => exact h2
  | 3, _ => exact h3
  | 4, _ => exact h4
def poL (po : St2) (b : Nat) : List Value := [.int (po 0 b), .int (po 1 b), .int (po 2 b), .int (po 3 b), .int (po 4 b)]
theorem wR_get {g : Glob} {ad : Nat → Nat} {k : CFG} {x : RS} {b : Nat} (h : b < 3) : (wR g ad k x)[7 + b]? = some (ad (7 + b), .inr (3, poL x.1 b)) := lt3 (P := fun b => (wR g ad k x)[7 + b]? = some (ad (7 + b), .inr (3, poL x.1 b))) rfl rfl rfl h
theorem poL_get {po : St2} {b f : Nat} (h : f < 5) : (poL po b)[f]? = some (.int (po f b)) := lt5 (P := fun f => (poL po b)[f]? = some (.int (po f b))) rfl rfl rfl rfl rfl h
theorem wR_set {g : Glob} {ad : Nat → Nat} {k : CFG} {po : St2} {y : (Nat → Int32) × Int32 × (Nat → Int64)} {v : Int32} {f b : Nat} (hf : f < 5) (h : b < 3) : (wR g ad k (po, y)).set (7 + b) (ad (7 + b), .inr (3, (poL po b).set f (.int v))) = wR g ad k (u2 po f b v, y) :=
  lt5 (P := fun f => (wR g ad k (po, y)).set (7 + b) (ad (7 + b), .inr (3, (poL po b).set f (.int v))) = wR g ad k (u2 po f b v, y))
    (lt3 (P := fun b => (wR g ad k (po, y)).set (7 + b) (ad (7 + b), .inr (3, (poL po b).set 0 (.int v))) = wR g ad k (u2 po 0 b v, y)) rfl rfl rfl h)
    (lt3 (P := fun b => (wR g ad k (po, y)).set (7 + b) (ad (7 + b), .inr (3, (poL po b).set 1 (.int v))) = wR g ad k (u2 po 1 b v, y)) rfl rfl rfl h)
    (lt3 (P := fun b => (wR g ad k (po, y)).set (7 + b) (ad (7 + b), .inr (3, (poL po b).set 2 (.int v))) = wR g ad k (u2 po 2 b v, y)) rfl rfl rfl h)
    (lt3 (P := fun b => (wR g ad k (po, y)).set (7 + b) (ad (7 + b), .inr (3, (poL po b).set 3 (.int v))) = wR g ad k (u2 po 3 b v, y)) rfl rfl rfl h)
    (lt3 (P := fun b => (wR g ad k (po, y)).set (7 + b) (ad (7 + b), .inr (3, (poL po b).set 4 (.int v))) = wR g ad k (u2 po 4 b v, y)) rfl rfl rfl h) hf
theorem F_Po_f {f : Nat} (h : f < 5) : (F_Po f).1 = "SweptPaths$Pose" ∧ (F_Po f).2.2.1 = "I" ∧ (F_Po f).2.2.2 = false := lt5 (P := fun f => (F_Po f).1 = "SweptPaths$Pose" ∧ (F_Po f).2.2.1 = "I" ∧ (F_Po f).2.2.2 = false) ⟨rfl, rfl, rfl⟩ ⟨rfl, rfl, rfl⟩ ⟨rfl, rfl, rfl⟩ ⟨rfl, rfl, rfl⟩ ⟨rfl, rfl, rfl⟩ h
section POSE
variable {l : Launch} {g : Glob} {own : String} {cc : ByteArray} {nL : Nat} {A : Nat → Prop} {p : Program} {e : Env} {s : State} {m : MethodId} {args : Array Value} {below : List Frame} {meth : Method} {c : Code} {R : Room} {H : Heap} {locs : List Loc} {cells slots : Nat} {Q : State → Prop} {pc : Nat} {ls : Array Slot} {rest : List Value}
  {ad : Nat → Nat} {k : CFG} {x : RS} {po : St2} {y : (Nat → Int32) × Int32 × (Nat → Int64)} {idx a : Nat}
theorem get_po (C : Cx g own cc nL A p s m args c) (f b : Nat) (hf : f < 5) (h3 : b < 3) (ha : a = ad (7 + b)) (hl : Cond.fieldLink own idx "SweptPaths$Pose" (F_Po f).2.1 (F_Po f).2.2.1 ∈ W0) (hP : va_P g.1 classes (wR g ad k x) H) (v : Int32) (hv : x.1 f b = v) (hdg : decode cc pc = .ok (.getfield idx, 3))
    (kk : W p l e R s m args below meth c H locs cells slots Q (F0 m (pc + 3) ls (.int v :: rest))) : W p l e R s m args below meth c H locs cells slots Q (F0 m pc ls (.ref a :: rest)) := by
  obtain ⟨hx, hb, hml, hown, hw, hE, hA⟩ := C
  subst ha
  exact va_get (D := g.1) (ci := 3) (v := .int v) (C := R_Po) (T := F_Po) (N := 5) hx hb hw i_Po hown hE.1 hP (7 + b) (wR_get h3) rfl f hf (hw _ hl) (fun _ h9 => by rw [(F_Po_f hf).1] at h9; exact h9) (by rw [poL_get hf, hv]) hdg kk
theorem put_po (C : Cx g own cc nL A p s m args c) (f b : Nat) (hf : f < 5) (h3 : b < 3) (ha : a = ad (7 + b)) (hl : Cond.fieldLink own idx "SweptPaths$Pose" (F_Po f).2.1 (F_Po f).2.2.1 ∈ W0) (hP : va_P g.1 classes (wR g ad k (po, y)) H) (hD : va_D A (wR g ad k (po, y))) (hS : va_S A s.heap H locs) {v : Int32} (hdg : decode cc pc = .ok (.putfield idx, 3))
    (kk : ∀ (H : Heap) (locs : List Loc), va_P g.1 classes (wR g ad k (u2 po f b v, y)) H → va_D A (wR g ad k (u2 po f b v, y)) → va_S A s.heap H locs → W p l e R s m args below meth c H locs cells slots Q (F0 m (pc + 3) ls rest)) : W p l e R s m args below meth c H locs cells slots Q (F0 m pc ls (.int v :: .ref a :: rest)) := by
  obtain ⟨hx, hb, hml, hown, hw, hE, hA⟩ := C
  subst ha
  refine va_put (D := g.1) (ci := 3) (v := .int v) (ty := .int) (C := R_Po) (T := F_Po) (N := 5) hx hb hw i_Po t_Po t_Po_ok n_Po hown hE.1 hP hD hS (7 + b) (wR_get h3) rfl f hf (hw _ hl) (fun _ h9 => by rw [(F_Po_f hf).1] at h9; exact h9) (F_Po_f hf).2.2 (by rw [(F_Po_f hf).2.1]; decide +kernel) rfl rfl hf hdg (fun H locs hP hD hS => ?_)
  rw [show (po, y).1 = po from rfl, wR_set hf h3] at hP hD
  exact kk H locs hP hD hS
end POSE
end
section
/-! methods that throw: no trace is kept, no old cell is written, one cell of six slots comes -/
def spcW : List Cond := [.castable R_IA R_IA, .castable R_IS R_IS, .laysStatic "java/lang/Throwable" "UNASSIGNED_STACK" "[Ljava/lang/StackTraceElement;", .laysStatic "java/lang/Throwable" "SUPPRESSED_SENTINEL" "Ljava/util/List;", .isRef (.static "java/lang/Throwable" "UNASSIGNED_STACK" "[Ljava/lang/StackTraceElement;"), .isRef (.static "java/lang/Throwable" "SUPPRESSED_SENTINEL" "Ljava/util/List;"), .declares ⟨"java/lang/RuntimeException", "<init>", "(Ljava/lang/String;)V"⟩, .declares ⟨"java/lang/Exception", "<init>", "(Ljava/lang/String;)V"⟩, .declares ⟨"java/lang/Throwable", "<init>", "(Ljava/lang/String;)V"⟩]
def upN : List String := ["java/lang/RuntimeException", "java/lang/Exception"]
def isCd : Cond → Bool
  | .code .. => true
  | .codeSync .. => true
  | _ => false
set_option maxRecDepth 20000 in
theorem cw_0 : Cond.codeSync Bundle.tFill LibCode.Throwable.Fill.code 1 (some (.object Bundle.tN)) ∈ W0 := W0_tab 281 (by rfl) (by decide +kernel)
set_option maxRecDepth 20000 in
theorem cw_1 : Cond.code Bundle.tInit0 LibCode.Throwable.Init0.code 1 none ∈ W0 := W0_tab 271 (by rfl) (by decide +kernel)
set_option maxRecDepth 20000 in
theorem cw_2 : Cond.code Bundle.oInit ⟨#[0xb1]⟩ 1 none ∈ W0 := W0_tab 24 (by rfl) (by decide +kernel)
set_option maxRecDepth 20000 in
theorem cw_3 : Cond.code (Bundle.initS Bundle.tN) LibCode.Throwable.InitS.code 2 none ∈ W0 := W0_tab 299 (by rfl) (by decide +kernel)
set_option maxRecDepth 20000 in
theorem cw_4 : Cond.code (Bundle.initS R_IA) Bundle.six 2 none ∈ W0 := W0_tab 290 (by rfl) (by decide +kernel)
set_option maxRecDepth 20000 in
theorem cw_5 : Cond.code (Bundle.initS R_IS) Bundle.six 2 none ∈ W0 := W0_tab 326 (by rfl) (by decide +kernel)
set_option maxRecDepth 20000 in
theorem cw_6 : Cond.code (Bundle.initS "java/lang/RuntimeException") Bundle.six 2 none ∈ W0 := W0_tab 293 (by rfl) (by decide +kernel)
set_option maxRecDepth 20000 in
theorem cw_7 : Cond.code (Bundle.initS "java/lang/Exception") Bundle.six 2 none ∈ W0 := W0_tab 296 (by rfl) (by decide +kernel)
theorem own_IA : (Bundle.ownAtoms "SweptPaths" 185 R_IA upN).all (fun a => isCd a || (decide (a ∈ lw_tbl) && goodWord a) || decide (a ∈ spcW)) = true := by decide +kernel
theorem own_IS : (Bundle.ownAtoms "SweptPaths" 47 R_IS upN).all (fun a => isCd a || (decide (a ∈ lw_tbl) && goodWord a) || decide (a ∈ spcW)) = true := by decide +kernel
theorem own_IAc : ∀ a ∈ (Bundle.ownAtoms "SweptPaths" 185 R_IA upN).filter isCd, a ∈ W0 := all_cons cw_0 (all_cons cw_1 (all_cons cw_2 (all_cons cw_3 (all_cons cw_4 (all_cons cw_6 (all_cons cw_7 (all_nil)))))))
theorem own_ISc : ∀ a ∈ (Bundle.ownAtoms "SweptPaths" 47 R_IS upN).filter isCd, a ∈ W0 := all_cons cw_0 (all_cons cw_1 (all_cons cw_2 (all_cons cw_3 (all_cons cw_5 (all_cons cw_6 (all_cons cw_7 (all_nil)))))))
theorem ZS.lays {n d : String} {A : Nat → Prop} {U : State} {args : Array Value} (h : ZS n d A U U.heap) : (Cond.laysStatic "java/lang/Throwable" n d).before args U = true := by
  obtain ⟨c, i, a, k, f, cell, v, h0, h1, h2, h3, h4, h5, h6, h7, h8, h9, h10, h11⟩ := h
  exact Cond.laysStatic_of h0 h1 h2 h3 h4 h5 h6 h7 h8
theorem ZS.isref {n d : String} {A : Nat → Prop} {U : State} {args : Array Value} (h : ZS n d A U U.heap) : (Cond.isRef (.static "java/lang/Throwable" n d)).before args U = true := by
  obtain ⟨c, i, a, k, f, cell, v, h0, h1, h2, h3, h4, h5, h6, h7, h8, h9, h10, h11⟩ := h
  have he : (Term.static "java/lang/Throwable" n d).eval args U none [] U = some v := by
    simp [Term.eval, State.fieldNamed?, h1, h2, h3, h4, h5, h9]
  cases v <;> simp_all [Cond.before, Cond.holds, Cond.value, Value.isRef]
theorem own_all {g : Glob} {A : Nat → Prop} {args : Array Value} {s : State} (hw : ∀ w ∈ W0, w.before args s = true) (hE : EV g A s s.heap) {l : List Cond} (h : l.all (fun a => isCd a || (decide (a ∈ lw_tbl) && goodWord a) || decide (a ∈ spcW)) = true) (hc : ∀ a ∈ l.filter isCd, a ∈ W0) : ∀ a ∈ l, a.before args s = true := by
  intro a ha
  have h1 := List.all_eq_true.mp h a ha
  simp only [Bool.or_eq_true, Bool.and_eq_true, decide_eq_true_eq] at h1
  rcases h1 with (h1 | h1) | h1
  · exact hw a (hc a (List.mem_filter.mpr ⟨ha, h1⟩))
  · exact hw a (List.mem_filter.mpr h1)
  · simp only [spcW, List.mem_cons, List.not_mem_nil, or_false] at h1
    rcases h1 with rfl | rfl | rfl | rfl | rfl | rfl | rfl | rfl | rfl
    · exact va_Nw.use rfl hE.2.2.2.2.2.1
    · exact va_Nw.use rfl hE.2.2.2.2.2.2.1
    · exact ZS.lays hE.2.2.2.1
    · exact ZS.lays hE.2.2.2.2.1
    · exact ZS.isref hE.2.2.2.1
    · exact ZS.isref hE.2.2.2.2.1
    · exact va_Nw.use rfl hE.2.2.2.2.2.2.2.2.1
    · exact va_Nw.use rfl hE.2.2.2.2.2.2.2.2.2.1
    · exact va_Nw.use rfl hE.2.2.2.2.2.2.2.2.2.2.1
/-- the method's end: E has been thrown -/
def XQ (E : String) (below : List Frame) (s : State) : State → Prop := fun t => ∃ (q : Addr) (ce : Cell), t.status = .running ∧ Ended t below (.threw q) ∧ s.heap.size ≤ q ∧ t.heap[q]? = some ce ∧ ce.vm = .none ∧ s.vm.findClass E = some ce.cls ∧ (∀ x : Nat, x < s.heap.size → t.heap[x]? = s.heap[x]?) ∧ s.heap.size ≤ t.heap.size ∧ s.WarmedH t.vm ∧ s.sameButNew ({ t with vm := s.vm } : State) [] 1 6
/-- a method that throws E: nothing that was there has changed -/
def CX (l : Launch) (g : Glob) (y : MethodName) (cc : ByteArray) (n : Nat) (rt : Option FieldType) (f k : Nat) (av : List Value) (ws : va_W) (E : String) : Prop :=
  ∀ sz : Nat, MetFree l y (headSpec (.code y cc n rt :: W0) { frames := f, cells := 1, slots := 6, locals := k }) (va_Pc av (CW g ws sz)) (fun _ _ _ _ _ => True)
    (fun _ st o t => ∃ (q : Addr) (ce : Cell), o = .threw q ∧ st.heap.size ≤ q ∧ t.heap[q]? = some ce ∧ ce.vm = .none ∧ st.vm.findClass E = some ce.cls ∧ (∀ x : Nat, x < st.heap.size → t.heap[x]? = st.heap[x]?) ∧ st.heap.size ≤ t.heap.size ∧ st.WarmedH t.vm ∧ st.sameButNew ({ t with vm := st.vm } : State) [] 1 6)
theorem CX.of {l : Launch} {g : Glob} {y : MethodName} {cc : ByteArray} {n : Nat} {rt : Option FieldType} {f k : Nat} {av : List Value} {ws : va_W} {E : String} (hy : plainFor y = true) (hl : (lg_sl av).length ≤ n)
    (body : ∀ (p : Program) (e : Env) (s : State) (m : MethodId) (below : List Frame) (meth : Method) (c : Code) (A : Nat → Prop) (ls : Array Slot), Cx g y.cls cc n A p s m av.toArray c → c.exceptionTable.isEmpty = true → meth.locks = false → va_P g.1 classes ws s.heap → va_D A ws → lv_has ls n (lv_args 0 av) → va_S A s.heap s.heap [] →
      W p l e { frames := f, cells := 1, slots := 6, locals := k } s m av.toArray below meth c s.heap [] 0 0 (XQ E below s) (F0 m 0 ls [])) : CX l g y cc n rt f k av ws E := by
  intro sz
  refine MetFree.of_bodySF (code := cc) (maxLocals := n) (ret := rt) hy ?_ ?_
  · intro args s m h hn
    obtain ⟨meth, c, h1, h2, h3, h4, h5, h6, -, -⟩ := Cond.code_spec hn (atoms_spec (ws := .code y cc n rt :: W0) h _ List.mem_cons_self)
    exact ⟨meth, c, h1, h2, h3, h4, h5, h6⟩
  · intro p e s m args below meth c s₁ B hml hv _
    have hh0 : s₁.heap = s.heap := by rw [B.state]; rfl
    obtain ⟨rfl, hsz, hP, hD0, hE⟩ := hv
    have hts := atoms_spec (ws := .code y cc n rt :: W0) B.pre
    have hown : s.vm.findClass y.cls = some m.cls := findClass_of_methodNamed B.named
    have htab := B.noHandlers (hts _ List.mem_cons_self)
    subst hsz
    have hD := hD0.self (sz := s.heap.size)
    have hb := body p e s m below meth c (va_A ws s.heap.size) _ ⟨B.exec, B.bytes, hml, hown, fun w h => hts w (List.mem_cons_of_mem _ h), hE, fun q h => Or.inr h⟩ htab B.notSynchronized hP hD (lv_entry av hl) va_S.rf
    rw [← lg_entry_eq] at hb
    obtain ⟨t, a1, q, ce, b1, b2, b3⟩ := hb s₁ hh0 (Stand.of_body B)
    exact ⟨t, .threw q, a1, b1, b2, q, ce, rfl, b3⟩
end
section
theorem same_old {s t : State} {c n : Nat} (h : s.sameButNew t [] c n) : ∀ x : Nat, x < s.heap.size → t.heap[x]? = s.heap[x]? := by
  intro x hx
  have hc0 : s.heap[x]? = some s.heap[x] := Array.getElem?_eq_getElem hx
  obtain ⟨c', h1, h2, h3, h4⟩ := h.2.2.2.2.2 x _ hc0
  have hs : c'.slots = s.heap[x].slots := by
    apply Array.ext_getElem?
    intro i
    exact h4 i List.not_mem_nil
  rw [hs] at h2
  rw [h1, hc0, h2]
section XCALL
variable {l : Launch} {g : Glob} {own : String} {cc : ByteArray} {nL : Nat} {A : Nat → Prop} {p : Program} {e : Env} {s : State} {m : MethodId} {args : Array Value} {below : List Frame} {meth : Method} {c : Code} {R : Room} {H : Heap} {T : State} {locs : List Loc} {cells slots : Nat} {Q : State → Prop} {pc : Nat} {ls : Array Slot}
  {y : MethodName} {cb : ByteArray} {mL : Nat} {rt : Option FieldType} {f k : Nat} {b : Nat} {wc ws : va_W} {idx n : Nat} {st0 : List Value} {E : String} {av : List Value}
/-- 'throw new E("..")', nothing of the old heap having changed -/
theorem thr_new (C : Cx g "SweptPaths" cc nL A p s m args c) (htab : c.exceptionTable.isEmpty = true) (hlocks : meth.locks = false) (hfl : l.flags = pinnedFlags ++ [noTraceFlag]) {ic inw ist : Nat} {tx : String} (hat : ∀ a ∈ Bundle.ownAtoms "SweptPaths" ic E upN, a.before args s = true) (hfit : Bundle.fit E = true)
    (hcl : Cond.classLink "SweptPaths" inw E ∈ W0) (hins : Cond.instantiable E 6 ∈ W0) (hini : Cond.initialized E ∈ W0) (hst : ∃ a, vk_R "SweptPaths" ist tx a s) (hH : ∀ x : Nat, x < s.heap.size → H[x]? = s.heap[x]?) (hHs : s.heap.size ≤ H.size) (hsz : ls.size = nL) (hRf : 5 < R.frames) (hRl : 83 ≤ R.locals) (hRc : 1 ≤ R.cells) (hRs : 6 ≤ R.slots)
    (d0 : decode cc pc = .ok (.new inw, 3)) (d1 : decode cc (pc + 3) = .ok (.dup, 1)) (d2 : decode cc (pc + 3 + 1) = .ok (.ldc ist, 2)) (d3 : decode cc (pc + 3 + 1 + 2) = .ok (.invokespecial ic, 3)) (d4 : decode cc (pc + 3 + 1 + 2 + 3) = .ok (.athrow, 1)) :
    W p l e R s m args below meth c H [] 0 0 (XQ E below s) (F0 m pc ls []) := by
  obtain ⟨hx, hb, hml, hown, hw, hE, hA⟩ := C
  refine W.newc hx hb hown (hw _ hcl) (hw _ hins) (hw _ hini) rfl d0 (by omega) (by omega) (fun cC kC h1 h2 h3 h4 => ?_)
  refine W.eq (g2 := F0 m (pc + 3) ls [.ref H.size]) rfl ?_
  refine lv_dup hx hb d1 rfl ?_
  obtain ⟨sa, hsa⟩ := hst
  refine va_ldcS hx hb hown hsa d2 ?_
  intro T hT X
  have htr : e.platform.stackTraces = false := Launch.traces_off hfl X.admits
  have hout : ∀ x ∈ c.exceptionTable.toList, covers x (pc + 3 + 1 + 2 + 3) = false := by
    intro x hx
    rw [Array.isEmpty_iff.mp htab] at hx
    simp at hx
  obtain ⟨U, u1, u2, u3, u4, u5, ce, u6, u7⟩ := X.ctorThrowS hx htr (own := "SweptPaths") (cls := E) (names := upN) (ic := ic) hown hfit (by decide) hat (fun x hx => absurd hx List.not_mem_nil) h1 h2 (by rw [hT]; simp) (by omega) (msg := .ref sa) rfl (g := F0 m (pc + 3 + 1 + 2) ls [.ref sa, .ref H.size, .ref H.size]) rfl (hsz.trans hml.symm) rfl rfl (rest := []) rfl (by rw [hb]; exact d3) (by rw [hb]; exact d4) hout hRf (by show 2 * _ + _ + _ ≤ _; simp [JFrame.monitorRoom, upN, Value.category]; omega) hlocks
  refine ⟨U, u1, H.size, ce, u2, u3, hHs, u6, u7.vm, u7.cls, fun x hx => ?_, ?_, u4, ?_⟩
  · exact same_old u5 x hx
  · exact u5.2.1
  · exact u5
/-- a call of a method that throws: the caller's frame stands, the exception over it -/
theorem xGo (hM : CX l g y cb mL rt f k av wc E) (X : Stand p l e R s m args below meth c T locs cells slots) (hpre : CW g wc T.heap.size T) {gf : JFrame} {ig : Instr} {len : Nat} {mk : MethodId} (hg : gf.method = m) (hsize : gf.locals.size = c.maxLocals) (hdg : decode c.code gf.pc = .ok (ig, len)) (hW : 2 * gf.monitorRoom + (gf.stack.map fun v => v.category).sum ≤ 8) (hn : T.methodNamed? y = some mk)
    (hws : ∀ w ∈ (Cond.code y cb mL rt :: W0), ∀ (a' : Array Value) (U : State), s.WarmedH U.vm → w.before a' U = true) (hini : ∀ (a' : Array Value) (U : State), s.WarmedH U.vm → (Cond.initialized y.cls).before a' U = true) (hframes : f + 1 ≤ R.frames) (hlocals : 8 + (mL + 11) + k ≤ R.locals) (hcells : cells + 1 ≤ R.cells) (hslots : slots + 6 ≤ R.slots) :
    ∃ (q : Addr) (ce : Cell) (T' : State), Stand p l e R s m args below meth c T' locs (cells + 1) (slots + 6) ∧ T.heap.size ≤ q ∧ T'.heap[q]? = some ce ∧ ce.vm = .none ∧ T.vm.findClass E = some ce.cls ∧ (∀ x : Nat, x < T.heap.size → T'.heap[x]? = T.heap[x]?) ∧ T.heap.size ≤ T'.heap.size ∧ Steps p.tables e below (doInvoke e (T.setTop gf) [] mk av.toArray).1 ((T'.setTop gf).pushFrame (.throwing q)) := by
  have h2 := hws _ List.mem_cons_self av.toArray T X.warmed
  have h1 : (headSpec (Cond.code y cb mL rt :: W0) { frames := f, cells := 1, slots := 6, locals := k }).pre.before av.toArray T = true := atoms_intro fun w hw => hws w hw _ _ X.warmed
  have h3 := hini av.toArray T X.warmed
  obtain ⟨methY, cY, hmY, hcY, -, hlY, -, -, -, -⟩ := Cond.code_spec hn h2
  obtain ⟨kY, hkY, -⟩ := className_of_methodNamed hn
  have hinitY : kY.init = .initialized := Cond.initialized_spec (findClass_of_methodNamed hn) hkY h3
  have h : At T gf.method c below := by rw [hg]; exact X.here
  have happ : (headSpec (Cond.code y cb mL rt :: W0) { frames := f, cells := 1, slots := 6, locals := k }).appliesLoose y e.platform (T.calling gf mk av.toArray) = true :=
    Spec.appliesLoose_calling (g := gf) h hdg hn hkY hinitY (X.room_calling (g := gf) (R' := { frames := f, cells := 1, slots := 6, locals := k }) hsize hmY hcY hframes (by rw [hlY]; show _ + _ + k ≤ _; omega) hcells hslots) h1
  obtain ⟨mid, hmid⟩ := h.above
  have hfr : (T.setTop gf).frames = (.java gf :: mid) ++ below := by rw [State.frames_setTop' gf h.top, hmid]; rfl
  obtain ⟨o, t, hsteps, -, hend, hq⟩ := Steps.callFree (hM T.heap.size) p X.admits X.cas X.clock (acts := []) hfr happ (CW_blind _ _ _ _ ⟨rfl, hpre⟩) trivial
  rw [State.frames_setTop' gf h.top] at hend
  obtain ⟨q, ce, rfl, q1, q2, q3, q4, q5, q6, hW₂, hsame⟩ := hq
  have hW' : T.WarmedH t.vm := hW₂
  have hsame : (T.calling gf mk av.toArray).sameButNew ({ t with vm := (T.calling gf mk av.toArray).vm } : State) [] 1 6 := hsame
  have e3 : t = ({ (T.calling gf mk av.toArray).setFrames t.frames with heap := t.heap, slotsUsed := t.slotsUsed } : State).setVm t.vm := by
    have : t = ({ t with vm := (T.calling gf mk av.toArray).vm } : State).setVm t.vm := rfl
    rw [hsame.1] at this
    exact this
  have hf₂ : t.frames = .throwing q :: .java gf :: T.frames.tail := hend
  obtain ⟨g₀, hg0⟩ := Option.isSome_iff_exists.mp h.top
  obtain ⟨r, hr⟩ := State.topJava?_eq_some.mp hg0
  have hs₂ : t = ((({ T with heap := t.heap, slotsUsed := t.slotsUsed } : State).setVm t.vm).setTop gf).pushFrame (.throwing q) := by
    have hr' : (({ T with heap := t.heap, slotsUsed := t.slotsUsed } : State).setVm t.vm).frames = .java g₀ :: r := hr
    refine e3.trans ?_
    rw [hf₂, State.calling_eq h.top, State.setFrames_setFrames, State.pushFrame, State.frames_setTop _ hr', State.setTop_of_frames _ hr', State.setFrames_setFrames, hr]
    rfl
  have hs3 : T.sameButNew ({ T with heap := t.heap, slotsUsed := t.slotsUsed } : State) [] 1 6 := by
    refine ⟨?_, hsame.2⟩
    obtain ⟨z, hz, -⟩ := State.frames_cons hr
    show ({ T with heap := t.heap, slotsUsed := t.slotsUsed } : State) = { T.setFrames T.frames with heap := t.heap, slotsUsed := t.slotsUsed }
    rw [State.setFrames_self hz]
  subst hg
  have hst := X.same.trans (hs3.setVm s.vm)
  rw [List.append_nil] at hst
  refine ⟨q, ce, ({ T with heap := t.heap, slotsUsed := t.slotsUsed } : State).setVm t.vm, ⟨X.admits, X.cas, X.clock, X.frames, X.room, X.hears, X.method, X.code, (X.here.setHeapUsed t.heap t.slotsUsed).setVm hW'.alike, X.tail, State.WarmedH.trans X.warmed hW', X.limits, X.bytes, hst⟩, q1, q2, q3, q4, q5, q6, ?_⟩
  rw [← hs₂]
  exact hsteps
theorem S_old (hH : ∀ x : Nat, x < s.heap.size → H[x]? = s.heap[x]?) (hHs : s.heap.size ≤ H.size) : va_S A s.heap H [] := ⟨hHs, fun q h _ => hH q h, fun _ h => absurd h List.not_mem_nil⟩
/-- invokestatic of a method that throws, without a world -/
theorem xsGo (C : Cx g own cc nL A p s m args c) (hv : SA own idx y cb mL rt n) (As rest : List Value) (hM : CX l g y cb mL rt f k As [] E) (hH : ∀ x : Nat, x < s.heap.size → H[x]? = s.heap[x]?) (hHs : s.heap.size ≤ H.size) (hst : st0 = As.reverse ++ rest) (hlen : As.length = n) (hsz : ls.size = nL) (hcat : (rest.map fun v => v.category).sum ≤ 8) (hR : f + 1 ≤ R.frames ∧ 8 + (mL + 11) + k ≤ R.locals) (hRc : cells + 1 ≤ R.cells ∧ slots + 6 ≤ R.slots) (hdg : decode cc pc = .ok (.invokestatic idx, 3))
    (hT : T.heap = H) (X : Stand p l e R s m args below meth c T [] cells slots) :
    ∃ (q : Addr) (ce : Cell) (T' : State), Stand p l e R s m args below meth c T' [] (cells + 1) (slots + 6) ∧ s.heap.size ≤ q ∧ T'.heap[q]? = some ce ∧ ce.vm = .none ∧ s.vm.findClass E = some ce.cls ∧ (∀ x : Nat, x < s.heap.size → T'.heap[x]? = s.heap[x]?) ∧ s.heap.size ≤ T'.heap.size ∧ Steps p.tables e below (T.setTop (F0 m pc ls st0)) ((T'.setTop (F0 m pc ls rest)).pushFrame (.throwing q)) := by
  obtain ⟨hx, hb, hml, hown, hw, hE, hA⟩ := C
  have hcode := hw _ hv.2.2.2.1
  obtain ⟨mk, hnamed⟩ := Cond.code_named hcode
  obtain ⟨methM, cM, hmethM, -, -, -, -, -, -, hsigM⟩ := Cond.code_spec hnamed hcode
  have hstatic : methM.isStatic = true := Cond.static_spec hnamed hmethM (hw _ hv.2.1)
  obtain ⟨kP, hkP, -⟩ := className_of_methodNamed hnamed
  have hinitP : kP.init = .initialized := Cond.initialized_spec (findClass_of_methodNamed hnamed) hkP (hw _ hv.2.2.1)
  have hlen2 : As.length = methM.sig.parameters.length := by
    have h2 := hv.2.2.2.2.2.2
    rw [hsigM] at h2
    rw [hlen]
    exact (Option.some.inj h2).symm
  obtain ⟨vm₁, X₁, hstep₁⟩ := X.invokestatic hx hown (hw _ hv.1) hnamed hmethM hstatic hkP hinitP ⟨hv.2.2.2.2.1, hv.2.2.2.2.2.1⟩ (g := F0 m pc ls st0) rfl (argsL := As) (rest := rest) hlen2 hst (by rw [hb]; exact hdg)
  have hS : va_S A s.heap H [] := S_old hH hHs
  have hFc : ∀ q, va_A [] H.size q → A q := fun q h => by
    rcases h with ⟨k2, e2, h⟩ | h
    · simp at h
    · exact hA q (Nat.le_trans hHs h)
  have hpre : CW g [] (T.setVm vm₁).heap.size (T.setVm vm₁) := ⟨rfl, fun k q h => by simp at h, ⟨fun i j p q h => by simp at h, fun k q h => by simp at h⟩, by
    show EV g (va_A [] T.heap.size) (T.setVm vm₁) T.heap
    rw [hT]
    exact hE.to hS X₁.warmed hFc⟩
  obtain ⟨q, ce, T', X', q1, q2, q3, q4, q5, q6, hgo⟩ := xGo hM X₁ hpre (gf := F0 m pc ls rest) (ig := .invokestatic idx) (len := 3) rfl (hsz.trans hml.symm) (by rw [hb]; exact hdg) (by simpa [JFrame.monitorRoom] using hcat) (X₁.named hnamed) (pay_in hw (fun w h => hv.good w (List.mem_append_right _ h))) (fun a' U hU => word_at hU (hv.good _ (by simp [va_wsS])).2 (hw _ hv.2.2.1)) hR.1 hR.2 hRc.1 hRc.2
  have e1 : (T.setVm vm₁).heap = H := hT
  rw [e1] at q1 q5 q6
  have hal : s.vm.Alike (T.setVm vm₁).vm := X₁.warmed.alike
  refine ⟨q, ce, T', X', Nat.le_trans hHs q1, q2, q3, by rw [← hal.findClass]; exact q4, fun x hx => by rw [q5 x (by omega), hH x hx], Nat.le_trans hHs q6, ?_⟩
  exact hstep₁ _ fun acts => by rw [doInvoke_state]; exact hgo
/-- .. and out of the caller, who has no table -/
theorem xsOut (C : Cx g own cc nL A p s m args c) (htab : c.exceptionTable.isEmpty = true) (hlocks : meth.locks = false) (hv : SA own idx y cb mL rt n) (As rest : List Value) (hM : CX l g y cb mL rt f k As [] E) (hH : ∀ x : Nat, x < s.heap.size → H[x]? = s.heap[x]?) (hHs : s.heap.size ≤ H.size) (hst : st0 = As.reverse ++ rest) (hlen : As.length = n) (hsz : ls.size = nL) (hcat : (rest.map fun v => v.category).sum ≤ 8) (hR : f + 1 ≤ R.frames ∧ 8 + (mL + 11) + k ≤ R.locals) (hRc : 1 ≤ R.cells ∧ 6 ≤ R.slots) (hdg : decode cc pc = .ok (.invokestatic idx, 3)) :
    W p l e R s m args below meth c H [] 0 0 (XQ E below s) (F0 m pc ls st0) := by
  intro T hT X
  obtain ⟨q, ce, T', X', q1, q2, q3, q4, q5, q6, hgo⟩ := xsGo (st0 := st0) C hv As rest hM hH hHs hst hlen hsz hcat hR (by simpa using hRc) hdg hT X
  have hout : ∀ x ∈ c.exceptionTable.toList, covers x pc = false := by
    intro x hx
    rw [Array.isEmpty_iff.mp htab] at hx
    simp at hx
  obtain ⟨l1, l2, l3, l4, l5⟩ := X'.leaveThrown q (g := F0 m pc ls rest) rfl rfl rfl hout hlocks
  exact ⟨T'.setFrames (.throwing q :: below), hgo.trans l1, q, ce, l2, l3, q1, q2, q3, q4, q5, q6, l4, l5⟩
/-- invokevirtual of a method that throws -/
theorem xvGo (C : Cx g own cc nL A p s m args c) (hv : VA own idx y cb mL rt n) (As rest : List Value) (hM : CX l g y cb mL rt f k (.ref b :: As) wc E) (hP : va_P g.1 classes ws H) (hD : va_D A ws) (hS : va_S A s.heap H locs) (isC : List Nat) (hC : isC.map (fun i => ws[i]?) = wc.map some) (hn : va_nd isC = true)
    (q0 : Nat) {ci : Nat} {fs : List Value} {T0 : u_T} {N : Nat} (hq : wc[q0]? = some (b, .inr (ci, fs))) (hcl : classes[ci]? = some (y.cls, T0, N)) (hst : st0 = As.reverse ++ .ref b :: rest) (hlen : As.length = n) (hsz : ls.size = nL) (hcat : (rest.map fun v => v.category).sum ≤ 8) (hR : f + 1 ≤ R.frames ∧ 8 + (mL + 11) + k ≤ R.locals) (hRc : cells + 1 ≤ R.cells ∧ slots + 6 ≤ R.slots) (hdg : decode cc pc = .ok (.invokevirtual idx, 3))
    (hT : T.heap = H) (X : Stand p l e R s m args below meth c T locs cells slots) :
    ∃ (q : Addr) (ce : Cell) (T' : State), Stand p l e R s m args below meth c T' locs (cells + 1) (slots + 6) ∧ H.size ≤ q ∧ T'.heap[q]? = some ce ∧ ce.vm = .none ∧ s.vm.findClass E = some ce.cls ∧ (∀ x : Nat, x < H.size → T'.heap[x]? = H[x]?) ∧ H.size ≤ T'.heap.size ∧ Steps p.tables e below (T.setTop (F0 m pc ls st0)) ((T'.setTop (F0 m pc ls rest)).pushFrame (.throwing q)) := by
  obtain ⟨hx, hb, hml, hown, hw, hE, hA⟩ := C
  have hFc := va_free (wc := wc) hD hS hA isC hC
  have hPc : va_P g.1 classes wc H := hP.sub isC (mapSub hC)
  have hDc : va_D A wc := hD.sub isC hn hC
  obtain ⟨cellB, hcell, hobj, hcls⟩ := va_recv hE.1 hPc hcl hq
  obtain ⟨mk, methM, hnamed, hmethM, hstM, habM⟩ := Cond.instanceMethod_spec (hw _ hv.2.1)
  have hcode := hw _ hv.2.2.2.2.1
  obtain ⟨methM', cM, hmethM', -, -, -, -, -, -, hsigM⟩ := Cond.code_spec hnamed hcode
  cases hmethM.symm.trans hmethM'
  obtain ⟨c2, r2, m2, z1, z2, z3, z4, kP, hkP, hkPi⟩ := Cond.selects_spec (hw _ hv.2.2.1)
  cases hcls.symm.trans z1
  cases (State.methodFound?_of_named hnamed ⟨hv.2.2.2.2.2.1, hv.2.2.2.2.2.2.1⟩).symm.trans z2
  cases hnamed.symm.trans z3
  have hselP : selectMethod e.platform s.vm cellB.cls mk = .method mk := by rw [Launch.admits_selectMethod X.admits]; exact z4
  have hlen2 : As.length = methM.sig.parameters.length := by
    have h2 := hv.2.2.2.2.2.2.2
    rw [hsigM] at h2
    rw [hlen]
    exact (Option.some.inj h2).symm
  obtain ⟨vm₁, X₁, hstep₁⟩ := X.invokevirtual hx hown (hw _ hv.1) hnamed hmethM hstM hkP hkPi ⟨hv.2.2.2.2.2.1, hv.2.2.2.2.2.2.1⟩ (a := b) (cell := cellB) (by rw [hT]; exact hcell) (fun z h => by rw [h] at hobj; cases hobj) hselP hmethM habM hkP hkPi (g := F0 m pc ls st0) rfl (argsL := As) (rest := rest) hlen2 hst (by rw [hb]; exact hdg)
  have hpre : CW g wc (T.setVm vm₁).heap.size (T.setVm vm₁) := ⟨rfl, by show va_P _ _ _ T.heap; rw [hT]; exact hPc, hDc.weaken (fun _ _ _ _ => trivial), by
    show EV g (va_A wc T.heap.size) (T.setVm vm₁) T.heap
    rw [hT]
    exact hE.to hS X₁.warmed hFc⟩
  obtain ⟨q, ce, T', X', q1, q2, q3, q4, q5, q6, hgo⟩ := xGo hM X₁ hpre (gf := F0 m pc ls rest) (ig := .invokevirtual idx) (len := 3) rfl (hsz.trans hml.symm) (by rw [hb]; exact hdg) (by simpa [JFrame.monitorRoom] using hcat) (X₁.named hnamed) (pay_in hw (fun w h => hv.good w (List.mem_append_right _ h))) (fun a' U hU => word_at hU (hv.good _ (by simp [wsV])).2 (hw _ hv.2.2.2.1)) hR.1 hR.2 hRc.1 hRc.2
  have e1 : (T.setVm vm₁).heap = H := hT
  rw [e1] at q1 q5 q6
  have hal : s.vm.Alike (T.setVm vm₁).vm := X₁.warmed.alike
  refine ⟨q, ce, T', X', q1, q2, q3, by rw [← hal.findClass]; exact q4, q5, q6, ?_⟩
  exact hstep₁ _ fun acts => by rw [doInvoke_state]; exact hgo
theorem xvOut (C : Cx g own cc nL A p s m args c) (htab : c.exceptionTable.isEmpty = true) (hlocks : meth.locks = false) (hv : VA own idx y cb mL rt n) (As rest : List Value) (hM : CX l g y cb mL rt f k (.ref b :: As) wc E) (hP : va_P g.1 classes ws H) (hD : va_D A ws) (hH : ∀ x : Nat, x < s.heap.size → H[x]? = s.heap[x]?) (hHs : s.heap.size ≤ H.size) (isC : List Nat) (hC : isC.map (fun i => ws[i]?) = wc.map some) (hn : va_nd isC = true)
    (q0 : Nat) {ci : Nat} {fs : List Value} {T0 : u_T} {N : Nat} (hq : wc[q0]? = some (b, .inr (ci, fs))) (hcl : classes[ci]? = some (y.cls, T0, N)) (hst : st0 = As.reverse ++ .ref b :: rest) (hlen : As.length = n) (hsz : ls.size = nL) (hcat : (rest.map fun v => v.category).sum ≤ 8) (hR : f + 1 ≤ R.frames ∧ 8 + (mL + 11) + k ≤ R.locals) (hRc : 1 ≤ R.cells ∧ 6 ≤ R.slots) (hdg : decode cc pc = .ok (.invokevirtual idx, 3)) :
    W p l e R s m args below meth c H [] 0 0 (XQ E below s) (F0 m pc ls st0) := by
  intro T hT X
  obtain ⟨q, ce, T', X', q1, q2, q3, q4, q5, q6, hgo⟩ := xvGo (st0 := st0) C hv As rest hM hP hD (S_old hH hHs) isC hC hn q0 hq hcl hst hlen hsz hcat hR (by simpa using hRc) hdg hT X
  have hout : ∀ x ∈ c.exceptionTable.toList, covers x pc = false := by
    intro x hx
    rw [Array.isEmpty_iff.mp htab] at hx
    simp at hx
  obtain ⟨l1, l2, l3, l4, l5⟩ := X'.leaveThrown q (g := F0 m pc ls rest) rfl rfl rfl hout hlocks
  exact ⟨T'.setFrames (.throwing q :: below), hgo.trans l1, q, ce, l2, l3, Nat.le_trans hHs q1, q2, q3, q4, fun x hx => (q5 x (by omega)).trans (hH x hx), Nat.le_trans hHs q6, l4, l5⟩
end XCALL
end
