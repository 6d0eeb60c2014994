/-! methods that throw: no trace is kept, no old cell is written, one cell of six slots comes -/
def spcW : List Cond := [.castable R_IA R_IA, .castable R_IS R_IS, .laysStatic "java/lang/Throwable" "UNASSIGNED_STACK" "[Ljava/lang/StackTraceElement;", .laysStatic "java/lang/Throwable" "SUPPRESSED_SENTINEL" "Ljava/util/List;", .isRef (.static "java/lang/Throwable" "UNASSIGNED_STACK" "[Ljava/lang/StackTraceElement;"), .isRef (.static "java/lang/Throwable" "SUPPRESSED_SENTINEL" "Ljava/util/List;"), .declares ⟨"java/lang/RuntimeException", "<init>", "(Ljava/lang/String;)V"⟩, .declares ⟨"java/lang/Exception", "<init>", "(Ljava/lang/String;)V"⟩, .declares ⟨"java/lang/Throwable", "<init>", "(Ljava/lang/String;)V"⟩]
def upN : List String := ["java/lang/RuntimeException", "java/lang/Exception"]
def isCd : Cond → Bool
  | .code .. => true
  | .codeSync .. => true
  | _ => false
set_option maxRecDepth 20000 in
theorem cw_0 : Cond.codeSync Bundle.tFill LibCode.Throwable.Fill.code 1 (some (.object Bundle.tN)) ∈ W0 := W0_tab 281 (by rfl) (by decide +kernel)
set_option maxRecDepth 20000 in
theorem cw_1 : Cond.code Bundle.tInit0 LibCode.Throwable.Init0.code 1 none ∈ W0 := W0_tab 271 (by rfl) (by decide +kernel)
set_option maxRecDepth 20000 in
theorem cw_2 : Cond.code Bundle.oInit ⟨#[0xb1]⟩ 1 none ∈ W0 := W0_tab 24 (by rfl) (by decide +kernel)
set_option maxRecDepth 20000 in
theorem cw_3 : Cond.code (Bundle.initS Bundle.tN) LibCode.Throwable.InitS.code 2 none ∈ W0 := W0_tab 299 (by rfl) (by decide +kernel)
set_option maxRecDepth 20000 in
theorem cw_4 : Cond.code (Bundle.initS R_IA) Bundle.six 2 none ∈ W0 := W0_tab 290 (by rfl) (by decide +kernel)
set_option maxRecDepth 20000 in
theorem cw_5 : Cond.code (Bundle.initS R_IS) Bundle.six 2 none ∈ W0 := W0_tab 326 (by rfl) (by decide +kernel)
set_option maxRecDepth 20000 in
theorem cw_6 : Cond.code (Bundle.initS "java/lang/RuntimeException") Bundle.six 2 none ∈ W0 := W0_tab 293 (by rfl) (by decide +kernel)
set_option maxRecDepth 20000 in
theorem cw_7 : Cond.code (Bundle.initS "java/lang/Exception") Bundle.six 2 none ∈ W0 := W0_tab 296 (by rfl) (by decide +kernel)
theorem own_IA : (Bundle.ownAtoms "SweptPaths" 185 R_IA upN).all (fun a => isCd a || (decide (a ∈ lw_tbl) && goodWord a) || decide (a ∈ spcW)) = true := by decide +kernel
theorem own_IS : (Bundle.ownAtoms "SweptPaths" 47 R_IS upN).all (fun a => isCd a || (decide (a ∈ lw_tbl) && goodWord a) || decide (a ∈ spcW)) = true := by decide +kernel
theorem own_IAc : ∀ a ∈ (Bundle.ownAtoms "SweptPaths" 185 R_IA upN).filter isCd, a ∈ W0 := all_cons cw_0 (all_cons cw_1 (all_cons cw_2 (all_cons cw_3 (all_cons cw_4 (all_cons cw_6 (all_cons cw_7 (all_nil)))))))
theorem own_ISc : ∀ a ∈ (Bundle.ownAtoms "SweptPaths" 47 R_IS upN).filter isCd, a ∈ W0 := all_cons cw_0 (all_cons cw_1 (all_cons cw_2 (all_cons cw_3 (all_cons cw_5 (all_cons cw_6 (all_cons cw_7 (all_nil)))))))
theorem ZS.lays {n d : String} {A : Nat → Prop} {U : State} {args : Array Value} (h : ZS n d A U U.heap) : (Cond.laysStatic "java/lang/Throwable" n d).before args U = true := by
  obtain ⟨c, i, a, k, f, cell, v, h0, h1, h2, h3, h4, h5, h6, h7, h8, h9, h10, h11⟩ := h
  exact Cond.laysStatic_of h0 h1 h2 h3 h4 h5 h6 h7 h8
theorem ZS.isref {n d : String} {A : Nat → Prop} {U : State} {args : Array Value} (h : ZS n d A U U.heap) : (Cond.isRef (.static "java/lang/Throwable" n d)).before args U = true := by
  obtain ⟨c, i, a, k, f, cell, v, h0, h1, h2, h3, h4, h5, h6, h7, h8, h9, h10, h11⟩ := h
  have he : (Term.static "java/lang/Throwable" n d).eval args U none [] U = some v := by
    simp [Term.eval, State.fieldNamed?, h1, h2, h3, h4, h5, h9]
  cases v <;> simp_all [Cond.before, Cond.holds, Cond.value, Value.isRef]
theorem own_all {g : Glob} {A : Nat → Prop} {args : Array Value} {s : State} (hw : ∀ w ∈ W0, w.before args s = true) (hE : EV g A s s.heap) {l : List Cond} (h : l.all (fun a => isCd a || (decide (a ∈ lw_tbl) && goodWord a) || decide (a ∈ spcW)) = true) (hc : ∀ a ∈ l.filter isCd, a ∈ W0) : ∀ a ∈ l, a.before args s = true := by
  intro a ha
  have h1 := List.all_eq_true.mp h a ha
  simp only [Bool.or_eq_true, Bool.and_eq_true, decide_eq_true_eq] at h1
  rcases h1 with (h1 | h1) | h1
  · exact hw a (hc a (List.mem_filter.mpr ⟨ha, h1⟩))
  · exact hw a (List.mem_filter.mpr h1)
  · simp only [spcW, List.mem_cons, List.not_mem_nil, or_false] at h1
    rcases h1 with rfl | rfl | rfl | rfl | rfl | rfl | rfl | rfl | rfl
    · exact va_Nw.use rfl hE.2.2.2.2.2.1
    · exact va_Nw.use rfl hE.2.2.2.2.2.2.1
    · exact ZS.lays hE.2.2.2.1
    · exact ZS.lays hE.2.2.2.2.1
    · exact ZS.isref hE.2.2.2.1
    · exact ZS.isref hE.2.2.2.2.1
    · exact va_Nw.use rfl hE.2.2.2.2.2.2.2.2.1
    · exact va_Nw.use rfl hE.2.2.2.2.2.2.2.2.2.1
    · exact va_Nw.use rfl hE.2.2.2.2.2.2.2.2.2.2.1
/-- the method's end: E has been thrown -/
def XQ (E : String) (below : List Frame) (s : State) : State → Prop := fun t => ∃ (q : Addr) (ce : Cell), t.status = .running ∧ Ended t below (.threw q) ∧ s.heap.size ≤ q ∧ t.heap[q]? = some ce ∧ ce.vm = .none ∧ s.vm.findClass E = some ce.cls ∧ (∀ x : Nat, x < s.heap.size → t.heap[x]? = s.heap[x]?) ∧ s.heap.size ≤ t.heap.size ∧ s.WarmedH t.vm ∧ s.sameButNew ({ t with vm := s.vm } : State) [] 1 6
/-- a method that throws E: nothing that was there has changed -/
def CX (l : Launch) (g : Glob) (y : MethodName) (cc : ByteArray) (n : Nat) (rt : Option FieldType) (f k : Nat) (av : List Value) (ws : va_W) (E : String) : Prop :=
  ∀ sz : Nat, MetFree l y (headSpec (.code y cc n rt :: W0) { frames := f, cells := 1, slots := 6, locals := k }) (va_Pc av (CW g ws sz)) (fun _ _ _ _ _ => True)
    (fun _ st o t => ∃ (q : Addr) (ce : Cell), o = .threw q ∧ st.heap.size ≤ q ∧ t.heap[q]? = some ce ∧ ce.vm = .none ∧ st.vm.findClass E = some ce.cls ∧ (∀ x : Nat, x < st.heap.size → t.heap[x]? = st.heap[x]?) ∧ st.heap.size ≤ t.heap.size ∧ st.WarmedH t.vm ∧ st.sameButNew ({ t with vm := st.vm } : State) [] 1 6)
theorem CX.of {l : Launch} {g : Glob} {y : MethodName} {cc : ByteArray} {n : Nat} {rt : Option FieldType} {f k : Nat} {av : List Value} {ws : va_W} {E : String} (hy : plainFor y = true) (hl : (lg_sl av).length ≤ n)
    (body : ∀ (p : Program) (e : Env) (s : State) (m : MethodId) (below : List Frame) (meth : Method) (c : Code) (A : Nat → Prop) (ls : Array Slot), Cx g y.cls cc n A p s m av.toArray c → c.exceptionTable.isEmpty = true → meth.locks = false → va_P g.1 classes ws s.heap → va_D A ws → lv_has ls n (lv_args 0 av) → va_S A s.heap s.heap [] →
      W p l e { frames := f, cells := 1, slots := 6, locals := k } s m av.toArray below meth c s.heap [] 0 0 (XQ E below s) (F0 m 0 ls [])) : CX l g y cc n rt f k av ws E := by
  intro sz
  refine MetFree.of_bodySF (code := cc) (maxLocals := n) (ret := rt) hy ?_ ?_
  · intro args s m h hn
    obtain ⟨meth, c, h1, h2, h3, h4, h5, h6, -, -⟩ := Cond.code_spec hn (atoms_spec (ws := .code y cc n rt :: W0) h _ List.mem_cons_self)
    exact ⟨meth, c, h1, h2, h3, h4, h5, h6⟩
  · intro p e s m args below meth c s₁ B hml hv _
    have hh0 : s₁.heap = s.heap := by rw [B.state]; rfl
    obtain ⟨rfl, hsz, hP, hD0, hE⟩ := hv
    have hts := atoms_spec (ws := .code y cc n rt :: W0) B.pre
    have hown : s.vm.findClass y.cls = some m.cls := findClass_of_methodNamed B.named
    have htab := B.noHandlers (hts _ List.mem_cons_self)
    subst hsz
    have hD := hD0.self (sz := s.heap.size)
    have hb := body p e s m below meth c (va_A ws s.heap.size) _ ⟨B.exec, B.bytes, hml, hown, fun w h => hts w (List.mem_cons_of_mem _ h), hE, fun q h => Or.inr h⟩ htab B.notSynchronized hP hD (lv_entry av hl) va_S.rf
    rw [← lg_entry_eq] at hb
    obtain ⟨t, a1, q, ce, b1, b2, b3⟩ := hb s₁ hh0 (Stand.of_body B)
    exact ⟨t, .threw q, a1, b1, b2, q, ce, rfl, b3⟩
