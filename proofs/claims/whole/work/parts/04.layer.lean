/-! the layer: contracts of methods that make no cell, over a world that is a list of cells; what every method carries (EV); calls -/
abbrev Glob : Type := va_G × (Nat → ClassId) × Nat
abbrev tysG (g : Glob) : List (ClassId × FieldType) := [(g.2.1 0, .int), (g.2.1 1, .long), (g.2.1 2, .boolean), (g.2.1 3, .object "SweptPaths$Shape"), (g.2.1 4, .object "SweptPaths$Pose"), (g.2.1 5, .object "SweptPaths$Plan")]
def dxL : List Int32 := [4096, 4076, 4017, 3920, 3784, 3612, 3406, 3166, 2896, 2598, 2276, 1931, 1567, 1189, 799, 401, 0, -401, -799, -1189, -1567, -1931, -2276, -2598, -2896, -3166, -3406, -3612, -3784, -3920, -4017, -4076, -4096, -4076, -4017, -3920, -3784, -3612, -3406, -3166, -2896, -2598, -2276, -1931, -1567, -1189, -799, -401, 0, 401, 799, 1189, 1567, 1931, 2276, 2598, 2896, 3166, 3406, 3612, 3784, 3920, 4017, 4076]
def dxT (j : Nat) : Int32 := dxL.getD j 0
/-- a static of Throwable that holds a reference or null, with what the tables say of it -/
def ZS (n d : String) (A : Nat → Prop) (U : State) (H : Heap) : Prop := ∃ (c i a : Nat) (k : Class) (f : Field) (cell : Cell) (v : Value), U.vm.findClass "java/lang/Throwable" = some c ∧ U.fieldFound? "java/lang/Throwable" n d = some (c, k, i, f) ∧ f.isStatic = true ∧ k.statics = some a ∧ H[a]? = some cell ∧ cell.vm.isStatics = true ∧ cell.cls = c ∧ f.slot < cell.slots.size ∧ k.staticTypes[f.slot]? = some f.type ∧ cell.slots[f.slot]? = some v ∧ v.isRef = true ∧ ¬ A a
theorem ZS.moved {n d : String} {A : Nat → Prop} {u U : State} {H : Heap} (hvm : u.vm.Alike U.vm) (h : ZS n d A u H) : ZS n d A U H := by
  obtain ⟨c, i, a, k, f, cell, v, h0, h1, h2, h3, h4, h5, h6, h7, h8, h9⟩ := h
  obtain ⟨k', hi', he⟩ := State.fieldFound?_setVm hvm h1
  exact ⟨c, i, a, k', f, cell, v, (hvm.findClass ..).trans h0, hi', h2, by rw [he]; exact h3, h4, h5, h6, h7, by rw [he]; exact h8, h9⟩
theorem ZS.kept {n d : String} {A : Nat → Prop} {U : State} {H H1 : Heap} (h : ZS n d A U H) (hq : ∀ a : Nat, a < H.size → ¬ A a → H1[a]? = H[a]?) : ZS n d A U H1 := by
  obtain ⟨c, i, a, k, f, cell, v, h0, h1, h2, h3, h4, h5, h6, h7, h8, h9, h10, h11⟩ := h
  exact ⟨c, i, a, k, f, cell, v, h0, h1, h2, h3, by rw [hq a (Array.getElem?_eq_some_iff.mp h4).1 h11]; exact h4, h5, h6, h7, h8, h9, h10, h11⟩
theorem ZS.narrow {n d : String} {A B : Nat → Prop} {U : State} {H : Heap} (h : ZS n d A U H) (hAB : ∀ q, B q → A q) : ZS n d B U H := by
  obtain ⟨c, i, a, k, f, cell, v, h0, h1, h2, h3, h4, h5, h6, h7, h8, h9, h10, h11⟩ := h
  exact ⟨c, i, a, k, f, cell, v, h0, h1, h2, h3, h4, h5, h6, h7, h8, h9, h10, fun z => h11 (hAB a z)⟩
theorem decl_moved {x : MethodName} {u U : State} (hvm : u.vm.Alike U.vm) (h : va_Nw (.declares x) u) : va_Nw (.declares x) U := va_tabs rfl (rfl : (u.setVm U.vm).vm = U.vm) (by rw [Cond.declares_setVm hvm]; exact h)
theorem cast_moved {a b : String} {u U : State} (hvm : u.vm.Alike U.vm) (h : va_Nw (.castable a b) u) : va_Nw (.castable a b) U := va_tabs rfl (rfl : (u.setVm U.vm).vm = U.vm) (by rw [Cond.castable_setVm hvm]; exact h)
/-- what throwing and catching read of the tables -/
def EX (U : State) : Prop := va_Nw (.castable R_IA R_IA) U ∧ va_Nw (.castable R_IS R_IS) U ∧ va_Nc R_IS R_IA U ∧
  va_Nw (.declares ⟨"java/lang/RuntimeException", "<init>", "(Ljava/lang/String;)V"⟩) U ∧ va_Nw (.declares ⟨"java/lang/Exception", "<init>", "(Ljava/lang/String;)V"⟩) U ∧ va_Nw (.declares ⟨"java/lang/Throwable", "<init>", "(Ljava/lang/String;)V"⟩) U ∧
  (∃ a, vk_R "SweptPaths" 45 "there are 3 bodies" a U) ∧ (∃ a, vk_R "SweptPaths" 91 "there are 20 poles" a U) ∧ (∃ a, vk_R "SweptPaths" 168 "the plan has 6 parts" a U) ∧ (∃ a, vk_R "SweptPaths" 183 "a number is out of its bounds" a U) ∧ ∃ a, vk_R "SweptPaths" 186 "there is no body" a U
theorem EX.warm {s U : State} (hW : s.WarmedH U.vm) (h : EX s) : EX U := by
  obtain ⟨h1, h2, h3, d1, d2, d3, ⟨a1, q1⟩, ⟨a2, q2⟩, ⟨a3, q3⟩, ⟨a4, q4⟩, ⟨a5, q5⟩⟩ := h
  exact ⟨cast_moved hW.alike h1, cast_moved hW.alike h2, h3.moved hW.alike, decl_moved hW.alike d1, decl_moved hW.alike d2, decl_moved hW.alike d3, ⟨a1, q1.warm hW⟩, ⟨a2, q2.warm hW⟩, ⟨a3, q3.warm hW⟩, ⟨a4, q4.warm hW⟩, ⟨a5, q5.warm hW⟩⟩
theorem EX.same {u U : State} (hv : U.vm = u.vm) (h : EX u) : EX U := by
  obtain ⟨h1, h2, h3, d1, d2, d3, ⟨a1, q1⟩, ⟨a2, q2⟩, ⟨a3, q3⟩, ⟨a4, q4⟩, ⟨a5, q5⟩⟩ := h
  have hal : u.vm.Alike U.vm := by rw [hv]; exact Vm.Alike.refl _
  exact ⟨cast_moved hal h1, cast_moved hal h2, h3.moved hal, decl_moved hal d1, decl_moved hal d2, decl_moved hal d3, ⟨a1, q1.same hv⟩, ⟨a2, q2.same hv⟩, ⟨a3, q3.same hv⟩, ⟨a4, q4.same hv⟩, ⟨a5, q5.same hv⟩⟩
/-- what stands still: the classes, the table of directions, what a thrown exception reads -/
def EV (g : Glob) (A : Nat → Prop) (U : State) (H : Heap) : Prop :=
  va_K g.1 classes (tysG g) U ∧ va_Z "SweptPaths$Directions" "DX" "[I" (.ref g.2.2) A U H ∧ va_T .int g.2.2 64 (fun j => .int (dxT j)) A U H ∧
  ZS "UNASSIGNED_STACK" "[Ljava/lang/StackTraceElement;" A U H ∧ ZS "SUPPRESSED_SENTINEL" "Ljava/util/List;" A U H ∧ EX U
theorem EV.same {g : Glob} {A : Nat → Prop} {u U : State} {H : Heap} (hv : U.vm = u.vm) (h : EV g A u H) : EV g A U H := by
  have hvm : u.vm.Alike U.vm := by rw [hv]; exact Vm.Alike.refl _
  exact ⟨va_K.moved hvm h.1, va_Z.moved hvm h.2.1, va_T.moved hvm h.2.2.1, ZS.moved hvm h.2.2.2.1, ZS.moved hvm h.2.2.2.2.1, EX.same hv h.2.2.2.2.2⟩
theorem EV.to {g : Glob} {A B : Nat → Prop} {s U : State} {H : Heap} {locs : List Loc} (h : EV g A s s.heap) (hS : va_S A s.heap H locs) (hW : s.WarmedH U.vm) (hB : ∀ q, B q → A q) : EV g B U H := by
  have hvm := hW.alike
  exact ⟨va_K.moved hvm h.1, va_Z.moved hvm ((h.2.1.kept hS.2.1).narrow hB), va_T.moved hvm ((h.2.2.1.kept hS.2.1).narrow hB), ZS.moved hvm ((h.2.2.2.1.kept hS.2.1).narrow hB), ZS.moved hvm ((h.2.2.2.2.1.kept hS.2.1).narrow hB), EX.warm hW h.2.2.2.2.2⟩
def CW (g : Glob) (ws : va_W) (sz : Nat) (U : State) : Prop := U.heap.size = sz ∧ va_P g.1 classes ws U.heap ∧ va_D (fun _ => True) ws ∧ EV g (va_A ws sz) U U.heap
theorem CW_blind {g : Glob} {ws : va_W} {sz : Nat} {av : List Value} : FrameBlind (va_Pc av (CW g ws sz)) := fun a U gg mk q => by
  obtain ⟨q0, q1, qP, qD, qE⟩ := q
  exact ⟨q0, q1, qP, qD, EV.same (u := U) (U := U.calling gg mk a) rfl qE⟩
/-- a method that answers r0 and leaves the world ws' -/
def CI (l : Launch) (g : Glob) (y : MethodName) (cc : ByteArray) (n : Nat) (rt : Option FieldType) (f k : Nat) (av : List Value) (ws : va_W) (r0 : Int32) (ws' : va_W) : Prop :=
  ∀ sz : Nat, Met l y (.code y cc n rt :: W0) { frames := f, cells := 0, slots := 0, locals := k } (va_Pc av (CW g ws sz)) (va_Qi (S := Unit) (fun r _ => r = r0) (fun _ t => va_P g.1 classes ws' t.heap ∧ va_D (va_A ws sz) ws') (va_A ws sz)) 0 0 (va_A ws sz)
/-- a method that leaves the world ws' -/
def CV (l : Launch) (g : Glob) (y : MethodName) (cc : ByteArray) (n : Nat) (f k : Nat) (av : List Value) (ws : va_W) (ws' : va_W) : Prop :=
  ∀ sz : Nat, Met l y (.code y cc n none :: W0) { frames := f, cells := 0, slots := 0, locals := k } (va_Pc av (CW g ws sz)) (va_Qv (S := Unit) (fun _ => True) (fun _ t => va_P g.1 classes ws' t.heap ∧ va_D (va_A ws sz) ws') (va_A ws sz)) 0 0 (va_A ws sz)
def Cx (g : Glob) (own : String) (cc : ByteArray) (n : Nat) (A : Nat → Prop) (p : Program) (s : State) (m : MethodId) (args : Array Value) (c : Code) : Prop :=
  p.tables.exec = Jvm.exec ∧ c.code = cc ∧ c.maxLocals = n ∧ s.vm.findClass own = some m.cls ∧ (∀ w ∈ W0, w.before args s = true) ∧ EV g A s s.heap ∧ ∀ q, s.heap.size ≤ q → A q
theorem CI.of {l : Launch} {g : Glob} {y : MethodName} {cc : ByteArray} {n : Nat} {rt : Option FieldType} {f k : Nat} {av : List Value} {ws : va_W} {r0 : Int32} {ws' : va_W} (ty : FieldType) (hrt : rt = some ty) (hn : narrow ty (.int r0) = .int r0) (hy : plainFor y = true) (hl : (lg_sl av).length ≤ n)
    (body : ∀ (p : Program) (e : Env) (s : State) (m : MethodId) (below : List Frame) (meth : Method) (c : Code) (A : Nat → Prop) (Q : State → Prop) (ls : Array Slot), Cx g y.cls cc n A p s m av.toArray c → va_P g.1 classes ws s.heap → va_D A ws → lv_has ls n (lv_args 0 av) →
      (∀ (v : Int32) (w9 : va_W) (H : Heap) (locs : List Loc) (pc : Nat) (ls : Array Slot), v = r0 → w9 = ws' → va_P g.1 classes w9 H → va_D A w9 → va_S A s.heap H locs → decode cc pc = .ok (.ireturn, 1) → W p l e { frames := f, cells := 0, slots := 0, locals := k } s m av.toArray below meth c H locs 0 0 Q (F0 m pc ls [.int v])) →
      va_S A s.heap s.heap [] → W p l e { frames := f, cells := 0, slots := 0, locals := k } s m av.toArray below meth c s.heap [] 0 0 Q (F0 m 0 ls [])) : CI l g y cc n rt f k av ws r0 ws' := by
  intro sz
  refine va_MetF (cc := cc) (maxL := n) (ret := rt) hy rfl ?_
  intro p e s m args below meth c s₁ B hml hv
  obtain ⟨rfl, hsz, hP, hD0, hE⟩ := hv
  have hts := atoms_spec (ws := .code y cc n rt :: W0) B.pre
  have hown : s.vm.findClass y.cls = some m.cls := findClass_of_methodNamed B.named
  have hlocks := B.notSynchronized
  subst hsz
  have hD := hD0.self (sz := s.heap.size)
  rw [lg_entry_eq]
  refine body p e s m below meth c (va_A ws s.heap.size) _ _ ⟨B.exec, B.bytes, hml, hown, fun w h => hts w (List.mem_cons_of_mem _ h), hE, fun q h => Or.inr h⟩ hP hD (lv_entry av hl) ?_ va_S.rf
  intro v w9 H locs pc ls hv9 hw9 hP' hD' hS hd
  subst hv9 hw9
  exact W.zret B.exec B.bytes (B.returns.trans hrt) hn (fun t ht hW => ⟨⟨_, (), rfl, rfl, by rw [ht]; exact hP', hD'⟩, hS.F ht⟩) hS.2.2 hd
theorem CV.of {l : Launch} {g : Glob} {y : MethodName} {cc : ByteArray} {n : Nat} {f k : Nat} {av : List Value} {ws : va_W} {ws' : va_W} (hy : plainFor y = true) (hl : (lg_sl av).length ≤ n)
    (body : ∀ (p : Program) (e : Env) (s : State) (m : MethodId) (below : List Frame) (meth : Method) (c : Code) (A : Nat → Prop) (Q : State → Prop) (ls : Array Slot), Cx g y.cls cc n A p s m av.toArray c → va_P g.1 classes ws s.heap → va_D A ws → lv_has ls n (lv_args 0 av) →
      (∀ (w9 : va_W) (H : Heap) (locs : List Loc) (pc : Nat) (ls : Array Slot), w9 = ws' → va_P g.1 classes w9 H → va_D A w9 → va_S A s.heap H locs → decode cc pc = .ok (.return_, 1) → W p l e { frames := f, cells := 0, slots := 0, locals := k } s m av.toArray below meth c H locs 0 0 Q (F0 m pc ls [])) →
      va_S A s.heap s.heap [] → W p l e { frames := f, cells := 0, slots := 0, locals := k } s m av.toArray below meth c s.heap [] 0 0 Q (F0 m 0 ls [])) : CV l g y cc n f k av ws ws' := by
  intro sz
  refine va_MetF (cc := cc) (maxL := n) (ret := none) hy rfl ?_
  intro p e s m args below meth c s₁ B hml hv
  obtain ⟨rfl, hsz, hP, hD0, hE⟩ := hv
  have hts := atoms_spec (ws := .code y cc n none :: W0) B.pre
  have hown : s.vm.findClass y.cls = some m.cls := findClass_of_methodNamed B.named
  have hlocks := B.notSynchronized
  subst hsz
  have hD := hD0.self (sz := s.heap.size)
  rw [lg_entry_eq]
  refine body p e s m below meth c (va_A ws s.heap.size) _ _ ⟨B.exec, B.bytes, hml, hown, fun w h => hts w (List.mem_cons_of_mem _ h), hE, fun q h => Or.inr h⟩ hP hD (lv_entry av hl) ?_ va_S.rf
  intro w9 H locs pc ls hw9 hP' hD' hS hd
  subst hw9
  exact W.vret B.exec B.bytes B.returns (fun t ht hW => ⟨⟨(), rfl, trivial, by rw [ht]; exact hP', hD'⟩, hS.F ht⟩) hS.2.2 hd
theorem mapSub {ws wc : va_W} {is : List Nat} (h : is.map (fun i => ws[i]?) = wc.map some) : is.filterMap (fun i => ws[i]?) = wc := by
  have e : is.filterMap (fun i => ws[i]?) = (is.map (fun i => ws[i]?)).filterMap id := by rw [List.filterMap_map]; rfl
  rw [e, h, List.filterMap_map]
  simp
theorem P_free {D : va_G} {cl : List vw_C} {ws : va_W} {H H1 : Heap} (hP : va_P D cl ws H) (hk : ∀ q : Nat, q < H.size → ¬ va_A [] H.size q → H1[q]? = H[q]?) : va_P D cl ws H1 :=
  hP.kept (fun k q hq => hk q.1 ((hP k q hq).lt) (fun h => by
    rcases h with ⟨k2, e, h⟩ | h
    · simp at h
    · exact absurd ((hP k q hq).lt) (Nat.not_lt.mpr h)))
/-- what a call's instruction names, among the words -/
def VA (own : String) (idx : Nat) (y : MethodName) (cb : ByteArray) (mL : Nat) (rt : Option FieldType) (n : Nat) : Prop :=
  Cond.methodLink own idx y ∈ W0 ∧ Cond.instanceMethod y ∈ W0 ∧ Cond.selects y.cls y y ∈ W0 ∧ Cond.initialized y.cls ∈ W0 ∧ Cond.code y cb mL rt ∈ W0 ∧ (y.cls ≠ "java/lang/invoke/MethodHandle" ∧ y.cls ≠ "java/lang/invoke/VarHandle" ∧ (parseMethodDescriptor y.desc).map (fun d => d.parameters.length) = some n)
def SA (own : String) (idx : Nat) (y : MethodName) (cb : ByteArray) (mL : Nat) (rt : Option FieldType) (n : Nat) : Prop :=
  Cond.methodLink own idx y ∈ W0 ∧ Cond.static y ∈ W0 ∧ Cond.initialized y.cls ∈ W0 ∧ Cond.code y cb mL rt ∈ W0 ∧ (y.cls ≠ "java/lang/invoke/MethodHandle" ∧ y.cls ≠ "java/lang/invoke/VarHandle" ∧ (parseMethodDescriptor y.desc).map (fun d => d.parameters.length) = some n)
theorem VA.good {own : String} {idx : Nat} {y : MethodName} {cb : ByteArray} {mL : Nat} {rt : Option FieldType} {n : Nat} (h : VA own idx y cb mL rt n) : GoodIn W0 (wsV own idx y.cls y (.code y cb mL rt :: W0)) :=
  W0_goodL (all_cons h.1 (all_cons h.2.1 (all_cons h.2.2.1 (all_cons h.2.2.2.1 (all_cons h.2.2.2.2.1 (fun _ q => q))))))
theorem SA.good {own : String} {idx : Nat} {y : MethodName} {cb : ByteArray} {mL : Nat} {rt : Option FieldType} {n : Nat} (h : SA own idx y cb mL rt n) : GoodIn W0 (va_wsS own idx y (.code y cb mL rt :: W0)) :=
  W0_goodL (all_cons h.1 (all_cons h.2.1 (all_cons h.2.2.1 (all_cons h.2.2.2.1 (fun _ q => q)))))
section CALLS
variable {l : Launch} {g : Glob} {own : String} {cc : ByteArray} {nL : Nat} {A : Nat → Prop} {p : Program} {e : Env} {s : State} {m : MethodId} {args : Array Value} {below : List Frame} {meth : Method} {c : Code} {R : Room} {H : Heap} {locs : List Loc} {cells slots : Nat} {Q : State → Prop} {pc : Nat} {ls : Array Slot}
  {y : MethodName} {cb : ByteArray} {mL : Nat} {rt : Option FieldType} {f k : Nat} {b : Nat} {r0 : Int32} {wc wc' ws : va_W} {idx n : Nat} {st0 : List Value}
/-- invokevirtual, an int (or a boolean) comes back -/
theorem cvI (C : Cx g own cc nL A p s m args c) (hv : VA own idx y cb mL rt n) (As rest : List Value) (hM : CI l g y cb mL rt f k (.ref b :: As) wc r0 wc') (hP : va_P g.1 classes ws H) (hD : va_D A ws) (hS : va_S A s.heap H locs)
    (isC isR is1 : List Nat) (wr w1 : va_W) (hC : isC.map (fun i => ws[i]?) = wc.map some) (hRr : isR.map (fun i => ws[i]?) = wr.map some) (hn : va_nd isC = true) (hnR : va_nd isR = true) (hdis : ∀ i ∈ isR, i ∉ isC) (h1 : is1.map (fun i => (wr ++ wc')[i]?) = w1.map some) (hn1 : va_nd is1 = true)
    (q0 : Nat) {ci : Nat} {fs : List Value} {T : u_T} {N : Nat} (hq : wc[q0]? = some (b, .inr (ci, fs))) (hcl : classes[ci]? = some (y.cls, T, N)) (hst : st0 = As.reverse ++ .ref b :: rest) (hlen : As.length = n) (hsz : ls.size = nL) (hcat : (rest.map fun v => v.category).sum ≤ 8) (hR : f + 1 ≤ R.frames ∧ 8 + (mL + 11) + k ≤ R.locals)
    (hdg : decode cc pc = .ok (.invokevirtual idx, 3)) (hf : cells + 0 ≤ R.cells ∧ slots + 0 ≤ R.slots)
    (kk : ∀ (H : Heap) (locs : List Loc), va_P g.1 classes w1 H → va_D A w1 → va_S A s.heap H locs → W p l e R s m args below meth c H locs cells slots Q (F0 m (pc + 3) ls (.int r0 :: rest))) : W p l e R s m args below meth c H locs cells slots Q (F0 m pc ls st0) := by
  obtain ⟨hx, hb, hml, hown, hw, hE, hA⟩ := C
  have hFc := va_free (wc := wc) hD hS hA isC hC
  have hPc : va_P g.1 classes wc H := hP.sub isC (mapSub hC)
  have hDc : va_D A wc := hD.sub isC hn hC
  subst hst
  refine va_calli (va_runV (As := As) (rest := rest) ⟨hx, hb, hml, hown, hw⟩ (hM H.size) (cwV n hw hv.good rfl rfl rfl ⟨rfl, hv.2.2.2.2.2⟩ hR) ⟨CW_blind, va_recv hE.1 hPc hcl hq, fun U hU hW => ⟨rfl, by rw [hU], by rw [hU]; exact hPc, hDc.weaken (fun _ _ _ _ => trivial), by rw [hU]; exact hE.to hS hW hFc⟩⟩ rfl hlen hsz rfl (lv_room hcat) hdg hf) hS (fun q _ h => hFc q h) hFc (fun r u t H1 locs1 ht hvm hw1 hB hz1 hk1 hS1 => ?_)
  obtain ⟨hP1, hD1⟩ := hB
  rw [ht] at hP1
  obtain ⟨hP2, hD2⟩ := va_join (wr := wr) (w1 := wc') hP hD isC isR hC hRr hnR hdis hk1 hFc hP1 hD1
  rw [hw1]
  exact kk H1 locs1 (hP2.sub is1 (mapSub h1)) (hD2.sub is1 hn1 h1) hS1
/-- invokevirtual, nothing comes back -/
theorem cvV (C : Cx g own cc nL A p s m args c) (hv : VA own idx y cb mL none n) (As rest : List Value) (hM : CV l g y cb mL f k (.ref b :: As) wc wc') (hP : va_P g.1 classes ws H) (hD : va_D A ws) (hS : va_S A s.heap H locs)
    (isC isR is1 : List Nat) (wr w1 : va_W) (hC : isC.map (fun i => ws[i]?) = wc.map some) (hRr : isR.map (fun i => ws[i]?) = wr.map some) (hn : va_nd isC = true) (hnR : va_nd isR = true) (hdis : ∀ i ∈ isR, i ∉ isC) (h1 : is1.map (fun i => (wr ++ wc')[i]?) = w1.map some) (hn1 : va_nd is1 = true)
    (q0 : Nat) {ci : Nat} {fs : List Value} {T : u_T} {N : Nat} (hq : wc[q0]? = some (b, .inr (ci, fs))) (hcl : classes[ci]? = some (y.cls, T, N)) (hst : st0 = As.reverse ++ .ref b :: rest) (hlen : As.length = n) (hsz : ls.size = nL) (hcat : (rest.map fun v => v.category).sum ≤ 8) (hR : f + 1 ≤ R.frames ∧ 8 + (mL + 11) + k ≤ R.locals)
    (hdg : decode cc pc = .ok (.invokevirtual idx, 3)) (hf : cells + 0 ≤ R.cells ∧ slots + 0 ≤ R.slots)
    (kk : ∀ (H : Heap) (locs : List Loc), va_P g.1 classes w1 H → va_D A w1 → va_S A s.heap H locs → W p l e R s m args below meth c H locs cells slots Q (F0 m (pc + 3) ls rest)) : W p l e R s m args below meth c H locs cells slots Q (F0 m pc ls st0) := by
  obtain ⟨hx, hb, hml, hown, hw, hE, hA⟩ := C
  have hFc := va_free (wc := wc) hD hS hA isC hC
  have hPc : va_P g.1 classes wc H := hP.sub isC (mapSub hC)
  have hDc : va_D A wc := hD.sub isC hn hC
  subst hst
  refine va_callv (va_runV (As := As) (rest := rest) ⟨hx, hb, hml, hown, hw⟩ (hM H.size) (cwV n hw hv.good rfl rfl rfl ⟨rfl, hv.2.2.2.2.2⟩ hR) ⟨CW_blind, va_recv hE.1 hPc hcl hq, fun U hU hW => ⟨rfl, by rw [hU], by rw [hU]; exact hPc, hDc.weaken (fun _ _ _ _ => trivial), by rw [hU]; exact hE.to hS hW hFc⟩⟩ rfl hlen hsz rfl (lv_room hcat) hdg hf) hS (fun q _ h => hFc q h) hFc (fun u t H1 locs1 ht hvm hw1 hB hz1 hk1 hS1 => ?_)
  obtain ⟨hP1, hD1⟩ := hB
  rw [ht] at hP1
  obtain ⟨hP2, hD2⟩ := va_join (wr := wr) (w1 := wc') hP hD isC isR hC hRr hnR hdis hk1 hFc hP1 hD1
  exact kk H1 locs1 (hP2.sub is1 (mapSub h1)) (hD2.sub is1 hn1 h1) hS1
/-- invokestatic of a method that reads and writes nothing -/
theorem csI (C : Cx g own cc nL A p s m args c) (hv : SA own idx y cb mL rt n) (As rest : List Value) (hM : CI l g y cb mL rt f k As [] r0 []) (hP : va_P g.1 classes ws H) (hS : va_S A s.heap H locs)
    (hst : st0 = As.reverse ++ rest) (hlen : As.length = n) (hsz : ls.size = nL) (hcat : (rest.map fun v => v.category).sum ≤ 8) (hR : f + 1 ≤ R.frames ∧ 8 + (mL + 11) + k ≤ R.locals)
    (hdg : decode cc pc = .ok (.invokestatic idx, 3)) (hf : cells + 0 ≤ R.cells ∧ slots + 0 ≤ R.slots)
    (kk : ∀ (H : Heap) (locs : List Loc), va_P g.1 classes ws H → va_S A s.heap H locs → W p l e R s m args below meth c H locs cells slots Q (F0 m (pc + 3) ls (.int r0 :: rest))) : W p l e R s m args below meth c H locs cells slots Q (F0 m pc ls st0) := by
  obtain ⟨hx, hb, hml, hown, hw, hE, hA⟩ := C
  have hFc : ∀ q, va_A [] H.size q → A q := fun q h => by
    rcases h with ⟨k2, e2, h⟩ | h
    · simp at h
    · exact hA q (Nat.le_trans hS.1 h)
  subst hst
  refine va_calli (va_runS (As := As) (rest := rest) ⟨hx, hb, hml, hown, hw⟩ (hM H.size) (va_cwS n hw hv.good rfl rfl rfl hv.2.2.2.2 hR) ⟨CW_blind, fun U hU hW => ⟨rfl, by rw [hU], fun k q h => by simp at h, ⟨fun i j p q h => by simp at h, fun k q h => by simp at h⟩, by rw [hU]; exact hE.to hS hW hFc⟩⟩ rfl hlen hsz rfl (lv_room hcat) hdg hf) hS (fun q _ h => hFc q h) hFc (fun r u t H1 locs1 ht hvm hw1 hB hz1 hk1 hS1 => ?_)
  rw [hw1]
  exact kk H1 locs1 (P_free hP hk1) hS1
/-- invokestatic, with a world, nothing comes back -/
theorem csV (C : Cx g own cc nL A p s m args c) (hv : SA own idx y cb mL none n) (As rest : List Value) (hM : CV l g y cb mL f k As wc wc') (hP : va_P g.1 classes ws H) (hD : va_D A ws) (hS : va_S A s.heap H locs)
    (isC isR is1 : List Nat) (wr w1 : va_W) (hC : isC.map (fun i => ws[i]?) = wc.map some) (hRr : isR.map (fun i => ws[i]?) = wr.map some) (hn : va_nd isC = true) (hnR : va_nd isR = true) (hdis : ∀ i ∈ isR, i ∉ isC) (h1 : is1.map (fun i => (wr ++ wc')[i]?) = w1.map some) (hn1 : va_nd is1 = true)
    (hst : st0 = As.reverse ++ rest) (hlen : As.length = n) (hsz : ls.size = nL) (hcat : (rest.map fun v => v.category).sum ≤ 8) (hR : f + 1 ≤ R.frames ∧ 8 + (mL + 11) + k ≤ R.locals)
    (hdg : decode cc pc = .ok (.invokestatic idx, 3)) (hf : cells + 0 ≤ R.cells ∧ slots + 0 ≤ R.slots)
    (kk : ∀ (H : Heap) (locs : List Loc), va_P g.1 classes w1 H → va_D A w1 → va_S A s.heap H locs → W p l e R s m args below meth c H locs cells slots Q (F0 m (pc + 3) ls rest)) : W p l e R s m args below meth c H locs cells slots Q (F0 m pc ls st0) := by
  obtain ⟨hx, hb, hml, hown, hw, hE, hA⟩ := C
  have hFc := va_free (wc := wc) hD hS hA isC hC
  have hPc : va_P g.1 classes wc H := hP.sub isC (mapSub hC)
  have hDc : va_D A wc := hD.sub isC hn hC
  subst hst
  refine va_callv (va_runS (As := As) (rest := rest) ⟨hx, hb, hml, hown, hw⟩ (hM H.size) (va_cwS n hw hv.good rfl rfl rfl hv.2.2.2.2 hR) ⟨CW_blind, fun U hU hW => ⟨rfl, by rw [hU], by rw [hU]; exact hPc, hDc.weaken (fun _ _ _ _ => trivial), by rw [hU]; exact hE.to hS hW hFc⟩⟩ rfl hlen hsz rfl (lv_room hcat) hdg hf) hS (fun q _ h => hFc q h) hFc (fun u t H1 locs1 ht hvm hw1 hB hz1 hk1 hS1 => ?_)
  obtain ⟨hP1, hD1⟩ := hB
  rw [ht] at hP1
  obtain ⟨hP2, hD2⟩ := va_join (wr := wr) (w1 := wc') hP hD isC isR hC hRr hnR hdis hk1 hFc hP1 hD1
  exact kk H1 locs1 (hP2.sub is1 (mapSub h1)) (hD2.sub is1 hn1 h1) hS1
end CALLS
