/-! methods that catch: the way through their tables, each catch type's entry resolved or not -/
/-- the rows of a table, from the first: each names a class; E is passed on by all but the last, whose handler h takes it -/
def Taken (args : Array Value) (s : State) (own E : String) (pc h : Nat) : List ExceptionTableEntry → Prop
  | [] => False
  | x :: t => covers x pc = true ∧ x.catchType ≠ 0 ∧ ∃ nm : String, (Cond.classLink own x.catchType nm).before args s = true ∧ ((h = x.handlerPc ∧ va_Nw (.castable E nm) s) ∨ (va_Nc E nm s ∧ Taken args s own E pc h t))
theorem row_taken {Q : Handler → Pre} {E : CtlPost} {e : Env} {d : Bool} {acts : List Action} {S : State} {f : JFrame} {a : Addr} {x : ExceptionTableEntry} {t : List ExceptionTableEntry} {c : ClassId} {cell : Cell} (hx : covers x f.pc = true) (h0 : x.catchType ≠ 0)
    (hl : S.vm.ClassLinks e.platform f.method.cls x.catchType c) (hcell : S.heap[a]? = some cell) (hobj : ∀ k, cell.vm ≠ .statics k) (hk : ∃ k, S.vm.classes[cell.cls]? = some k) (hc : ∃ k, S.vm.classes[c]? = some k) (b : Bool) (hb : S.vm.assignable cell.cls c = b) :
    wp (findHandler.go f a (x :: t)) Q E e d acts S ↔ (if b = true then Q (.found x.handlerPc) d acts (S.setVm (S.vm.noted f.method.cls x.catchType (.cls c))) else wp (findHandler.go f a t) Q E e d acts (S.setVm (S.vm.noted f.method.cls x.catchType (.cls c)))) := by
  simp only [covers] at hx
  obtain ⟨g1, g2⟩ := (resolveClass_links e.toSetting hl).op (op := VmOp.resolveClass f.method.cls x.catchType) rfl
  have hal : S.vm.Alike (S.vm.noted f.method.cls x.catchType (.cls c)) := (Vm.Alike.refl S.vm).noted _ _ _
  obtain ⟨k1, q1⟩ := hk
  obtain ⟨k2, q2⟩ := hc
  obtain ⟨k3, q3, -⟩ := hal.2.2 _ _ q1
  obtain ⟨k4, q4, -⟩ := hal.2.2 _ _ q2
  have hb2 : (S.vm.noted f.method.cls x.catchType (.cls c)).assignable cell.cls c = b := by rw [hal.assignable]; exact hb
  cases b <;> simp [findHandler.go, hx, h0, g1, g2, hcell, hobj, q3, q4, hb2, VmOp.dirties, VmOp.acts]
theorem way_taken {args : Array Value} {s : State} {own E : String} {h : Nat} {e : Env} (hpl : e.platform.magicAccessors = ({} : Platform).magicAccessors) {f : JFrame} (hown : s.vm.findClass own = some f.method.cls) {a : Addr} {cell : Cell} (hobj : ∀ k, cell.vm ≠ .statics k) (hE : s.vm.findClass E = some cell.cls) :
    ∀ (t : List ExceptionTableEntry) (S : State), s.WarmedH S.vm → S.heap[a]? = some cell → Taken args s own E f.pc h t →
      ∃ vm' : Vm, s.WarmedH vm' ∧ ∀ (Q : Handler → Pre) (X : CtlPost) (d : Bool) (acts : List Action), wp (findHandler.go f a t) Q X e d acts S ↔ Q (.found h) d acts (S.setVm vm') := by
  intro t
  induction t with
  | nil => intro S _ _ hT; exact hT.elim
  | cons x t ih =>
    intro S hW hcell hT
    obtain ⟨hx, h0, nm, hlink, hT⟩ := hT
    obtain ⟨k0, hk0⟩ := Vm.classAt_of_findClass hE
    obtain ⟨k1, hk1, -⟩ := hW.alike.2.2 _ _ hk0
    obtain ⟨ct, hct, hcl⟩ := Cond.classLink_spec hown hlink e.platform hpl
    obtain ⟨dk, _, _, kt, hd, _, _, _, _, hkt, _, hopen⟩ := hcl.here
    obtain ⟨k2, hk2, -⟩ := hW.alike.2.2 _ _ hkt
    have hW2 : s.WarmedH (S.vm.noted f.method.cls x.catchType (.cls ct)) := hW.noted hd hopen (State.rightAt_cls hcl)
    rcases hT with ⟨rfl, hc⟩ | ⟨hnc, hT⟩
    · obtain ⟨c1, c2, e1, e2, hasg⟩ := Cond.castable_spec hc
      cases hE.symm.trans e1
      cases hct.symm.trans e2
      exact ⟨_, hW2, fun Q X d acts => by rw [row_taken hx h0 (hW.classLinks hcl) hcell hobj ⟨k1, hk1⟩ ⟨k2, hk2⟩ true (by rw [hW.alike.assignable]; exact hasg), if_pos rfl]⟩
    · obtain ⟨c1, c2, e1, e2, hasg⟩ := hnc
      cases hE.symm.trans e1
      cases hct.symm.trans e2
      obtain ⟨vm', hW', hq⟩ := ih (S.setVm (S.vm.noted f.method.cls x.catchType (.cls ct))) hW2 hcell hT
      exact ⟨vm', hW', fun Q X d acts => by
        rw [row_taken hx h0 (hW.classLinks hcl) hcell hobj ⟨k1, hk1⟩ ⟨k2, hk2⟩ false (by rw [hW.alike.assignable]; exact hasg), if_neg (by decide), hq Q X d acts]
        rfl⟩
theorem step_taken {e : Env} {S : State} {a : Addr} {f : JFrame} {r : List Frame} {h : Nat} {vm' : Vm} (hf : ∀ (Q : Handler → Pre) (X : CtlPost) (d : Bool) (acts : List Action), wp (findHandler f a) Q X e d acts S ↔ Q (.found h) d acts (S.setVm vm')) :
    (stepThrowing e S a (.java f :: r)).Is ((S.setVm vm').setFrames (.java { f with pc := h, stack := [.ref a] } :: r)) [] := by
  simp only [stepThrowing, searchFrame, vmDo]
  generalize hr : Sem.go _ e false [] S = res
  obtain ⟨as, rfl, ha⟩ := Sem.eq_ok_of hr (a := Handler.found h) (s' := S.setVm vm') (acts' := []) (by simp [hf _ _ _ _])
  exact ⟨rfl, ha⟩
section CATCH
variable {l : Launch} {g : Glob} {own : String} {cc : ByteArray} {nL : Nat} {A : Nat → Prop} {p : Program} {e : Env} {s : State} {m : MethodId} {args : Array Value} {below : List Frame} {meth : Method} {c : Code} {R : Room} {H : Heap} {T : State} {locs : List Loc} {cells slots : Nat} {Q : State → Prop} {pc : Nat} {ls : Array Slot}
  {y : MethodName} {cb : ByteArray} {mL : Nat} {rt : Option FieldType} {f k : Nat} {b : Nat} {wc ws : va_W} {idx n : Nat} {st0 : List Value} {E : String}
/-- the exception over the frame is taken by the frame's own table -/
theorem go_taken (X : Stand p l e R s m args below meth c T locs cells slots) {q : Addr} {gf : JFrame} (hg : gf.method = m) (hown : s.vm.findClass own = some m.cls) {h : Nat} {ce : Cell} (hcell : T.heap[q]? = some ce) (hnone : ce.vm = .none) (hE : s.vm.findClass E = some ce.cls) (hT : Taken args s own E gf.pc h c.exceptionTable.toList) :
    ∃ vm' : Vm, Stand p l e R s m args below meth c (T.setVm vm') locs cells slots ∧ ∀ target, Steps p.tables e below ((T.setVm vm').setTop { gf with pc := h, stack := [.ref q] }) target → Steps p.tables e below ((T.setTop gf).pushFrame (.throwing q)) target := by
  have hpl : e.platform.magicAccessors = ({} : Platform).magicAccessors := by rw [X.admits.platform]
  subst hg
  have hv : ((T.setTop gf).pushFrame (.throwing q)).vm = T.vm := Stand.throwing_vm T gf q
  have hh : ((T.setTop gf).pushFrame (.throwing q)).heap = T.heap := Stand.throwing_heap T gf q
  obtain ⟨vm', hW', hq⟩ := way_taken (f := gf) (a := q) (h := h) hpl hown (VmData.ne_statics_of (x := ce.vm) (by rw [hnone]; rfl)) hE c.exceptionTable.toList ((T.setTop gf).pushFrame (.throwing q)) (by rw [hv]; exact X.warmed) (by rw [hh]; exact hcell) hT
  refine ⟨vm', X.noted hW', fun target hrest => ?_⟩
  have hfind : ∀ (Q : Handler → Pre) (Z : CtlPost) (d : Bool) (acts : List Action), wp (findHandler gf q) Q Z e d acts ((T.setTop gf).pushFrame (.throwing q)) ↔ Q (.found h) d acts (((T.setTop gf).pushFrame (.throwing q)).setVm vm') := fun Q Z d acts => by
    rw [W.findHandler_eq (meth := meth) (code := c) (by rw [hv]; exact X.method') X.code]
    exact hq Q Z d acts
  obtain ⟨hgo, hw⟩ := X.here.throwing q
  refine Steps.head hgo hw ?_
  rw [stepThread_throwing (frames_entered X.here.top _), (step_taken hfind).1]
  obtain ⟨g₀, hg0⟩ := Option.isSome_iff_exists.mp X.here.top
  obtain ⟨r, hr⟩ := State.topJava?_eq_some.mp hg0
  have hr2 : (T.setVm vm').frames = .java g₀ :: r := hr
  rw [State.setTop_of_frames _ hr2] at hrest
  have e1 : ((T.setTop gf).pushFrame (.throwing q)).setVm vm' = ((T.setVm vm').setTop gf).pushFrame (.throwing q) := by
    rw [State.pushFrame, State.pushFrame, State.setTop_of_frames _ hr, State.setTop_of_frames _ hr2]
    rfl
  rw [hr, List.tail_cons, e1, State.pushFrame, State.setFrames_setFrames, State.setTop_of_frames _ hr2, State.setFrames_setFrames]
  exact hrest
/-- invokevirtual of a method that throws, in a method that takes it -/
theorem xvTake (C : Cx g own cc nL A p s m args c) (hv : VA own idx y cb mL rt n) (As rest : List Value) (hM : CX l g y cb mL rt f k (.ref b :: As) wc E) (hP : va_P g.1 classes ws H) (hD : va_D A ws) (hS : va_S A s.heap H locs) (isC : List Nat) (hC : isC.map (fun i => ws[i]?) = wc.map some) (hn : va_nd isC = true)
    (q0 : Nat) {ci : Nat} {fs : List Value} {T0 : u_T} {N : Nat} (hq : wc[q0]? = some (b, .inr (ci, fs))) (hcl : classes[ci]? = some (y.cls, T0, N)) (hst : st0 = As.reverse ++ .ref b :: rest) (hlen : As.length = n) (hsz : ls.size = nL) (hcat : (rest.map fun v => v.category).sum ≤ 8) (hR : f + 1 ≤ R.frames ∧ 8 + (mL + 11) + k ≤ R.locals) (hRc : cells + 1 ≤ R.cells ∧ slots + 6 ≤ R.slots) (hdg : decode cc pc = .ok (.invokevirtual idx, 3))
    (h : Nat) (hT : Taken args s own E pc h c.exceptionTable.toList)
    (kk : ∀ (H : Heap) (q : Addr), va_P g.1 classes ws H → va_S A s.heap H locs → W p l e R s m args below meth c H locs (cells + 1) (slots + 6) Q (F0 m h ls [.ref q])) : W p l e R s m args below meth c H locs cells slots Q (F0 m pc ls st0) := by
  intro T hTh X
  obtain ⟨q, ce, T', X', q1, q2, q3, q4, q5, q6, hgo⟩ := xvGo (st0 := st0) C hv As rest hM hP hD hS isC hC hn q0 hq hcl hst hlen hsz hcat hR hRc hdg hTh X
  obtain ⟨vm', X2, hgo2⟩ := go_taken X' (gf := F0 m pc ls rest) rfl C.2.2.2.1 q2 q3 q4 hT
  have hk : ∀ x : Nat, x < H.size → ¬ va_A [] H.size x → T'.heap[x]? = H[x]? := fun x hx _ => q5 x hx
  obtain ⟨t2, a2, b2⟩ := kk T'.heap q (P_free hP hk) ⟨Nat.le_trans hS.1 q6, fun x hx hA => by rw [q5 x (Nat.lt_of_lt_of_le hx hS.1)]; exact hS.2.1 x hx hA, hS.2.2⟩ (T'.setVm vm') rfl X2
  exact ⟨t2, hgo.trans (hgo2 _ a2), b2⟩
theorem W_more {cells' slots' : Nat} {gf : JFrame} (h1 : cells ≤ cells') (h2 : slots ≤ slots') (kk : W p l e R s m args below meth c H locs cells' slots' Q gf) : W p l e R s m args below meth c H locs cells slots Q gf := fun T hT X =>
  kk T hT ⟨X.admits, X.cas, X.clock, X.frames, X.room, X.hears, X.method, X.code, X.here, X.tail, X.warmed, X.limits, X.bytes, X.same.mono h1 h2⟩
end CATCH
/-- a static method with a table: it answers r0, the world is ws' -/
def CJ (l : Launch) (g : Glob) (y : MethodName) (cc : ByteArray) (n : Nat) (hs : List (Nat × Nat × Nat × Nat)) (f k : Nat) (av : List Value) (ws : va_W) (r0 : Int32) (ws' : va_W) : Prop :=
  ∀ sz : Nat, Met l y (.codeWith y cc n (some .int) hs :: W0) { frames := f, cells := 1, slots := 6, locals := k } (va_Pc av (CW g ws sz)) (va_Qi (S := Unit) (fun r _ => r = r0) (fun _ t => va_P g.1 classes ws' t.heap ∧ va_D (va_A ws sz) ws') (va_A ws sz)) 1 6 (va_A ws sz)
theorem CJ.of {l : Launch} {g : Glob} {y : MethodName} {cc : ByteArray} {n : Nat} {hs : List (Nat × Nat × Nat × Nat)} {f k : Nat} {av : List Value} {ws : va_W} {r0 : Int32} {ws' : va_W} (hy : plainFor y = true) (hl : (lg_sl av).length ≤ n)
    (body : ∀ (p : Program) (e : Env) (s : State) (m : MethodId) (below : List Frame) (meth : Method) (c : Code) (A : Nat → Prop) (Q : State → Prop) (ls : Array Slot), Cx g y.cls cc n A p s m av.toArray c → c.exceptionTable.toList = tableOf hs → va_P g.1 classes ws s.heap → va_D A ws → lv_has ls n (lv_args 0 av) →
      (∀ (v : Int32) (w9 : va_W) (H : Heap) (locs : List Loc) (pc : Nat) (ls : Array Slot) (cells slots : Nat), cells ≤ 1 → slots ≤ 6 → v = r0 → w9 = ws' → va_P g.1 classes w9 H → va_D A w9 → va_S A s.heap H locs → decode cc pc = .ok (.ireturn, 1) → W p l e { frames := f, cells := 1, slots := 6, locals := k } s m av.toArray below meth c H locs cells slots Q (F0 m pc ls [.int v])) →
      va_S A s.heap s.heap [] → W p l e { frames := f, cells := 1, slots := 6, locals := k } s m av.toArray below meth c s.heap [] 0 0 Q (F0 m 0 ls [])) : CJ l g y cc n hs f k av ws r0 ws' := by
  intro sz
  refine MetFree.of_bodySF (code := cc) (maxLocals := n) (ret := some .int) hy ?_ ?_
  · intro args s m h hn
    obtain ⟨m', meth, c, h0, h1, h2, h3, h4, h5, h6, h7, -⟩ := Cond.codeWith_spec (atoms_spec (ws := .codeWith y cc n (some .int) hs :: W0) h _ List.mem_cons_self)
    cases hn.symm.trans h0
    exact ⟨meth, c, h1, h2, h3, h4, h6, h7⟩
  · intro p e s m args below meth c s₁ B hml hv _
    have hh0 : s₁.heap = s.heap := by rw [B.state]; rfl
    obtain ⟨rfl, hsz, hP, hD0, hE⟩ := hv
    have hts := atoms_spec (ws := .codeWith y cc n (some .int) hs :: W0) B.pre
    have hown : s.vm.findClass y.cls = some m.cls := findClass_of_methodNamed B.named
    obtain ⟨m', meth2, c2, h0, h1, h2, h3, h4, h5, h6, h7, -⟩ := Cond.codeWith_spec (hts _ List.mem_cons_self)
    cases B.named.symm.trans h0
    cases B.method.symm.trans h1
    cases (Stand.of_body B).code.symm.trans h2
    have htab : c.exceptionTable.toList = tableOf hs := by rw [← h5, table_eq]
    have hlocks := B.notSynchronized
    subst hsz
    have hD := hD0.self (sz := s.heap.size)
    have hb := body p e s m below meth c (va_A ws s.heap.size) (MQ below (va_Qi (S := Unit) (fun r _ => r = r0) (fun _ t => va_P g.1 classes ws' t.heap ∧ va_D (va_A ws s.heap.size) ws') (va_A ws s.heap.size)) av.toArray s 1 6 (va_A ws s.heap.size)) _ ⟨B.exec, B.bytes, hml, hown, fun w h => hts w (List.mem_cons_of_mem _ h), hE, fun q h => Or.inr h⟩ htab hP hD (lv_entry av hl) (fun v w9 H locs pc ls cells slots hc hs9 hv9 hw9 hP' hD' hS hd => by
      subst hv9 hw9
      exact W_more hc hs9 (W.iret B.exec B.bytes B.returns (fun t ht hW => ⟨⟨_, (), rfl, rfl, by rw [ht]; exact hP', hD'⟩, hS.F ht⟩) hS.2.2 hd)) va_S.rf
    rw [← lg_entry_eq] at hb
    obtain ⟨t, a1, o, b1, b2, b3⟩ := hb s₁ hh0 (Stand.of_body B)
    exact ⟨t, o, a1, b1, b2, ⟨b3.1, b3.2⟩⟩
/-- what the call of such a method names -/
def KA (own : String) (idx : Nat) (y : MethodName) (cb : ByteArray) (mL : Nat) (hs : List (Nat × Nat × Nat × Nat)) (n : Nat) : Prop :=
  Cond.methodLink own idx y ∈ W0 ∧ Cond.static y ∈ W0 ∧ Cond.initialized y.cls ∈ W0 ∧ Cond.codeWith y cb mL (some .int) hs ∈ W0 ∧ (y.cls ≠ "java/lang/invoke/MethodHandle" ∧ y.cls ≠ "java/lang/invoke/VarHandle" ∧ (parseMethodDescriptor y.desc).map (fun d => d.parameters.length) = some n)
section KCALL
variable {l : Launch} {g : Glob} {own : String} {cc : ByteArray} {nL : Nat} {A : Nat → Prop} {p : Program} {e : Env} {s : State} {m : MethodId} {args : Array Value} {below : List Frame} {meth : Method} {c : Code} {R : Room} {H : Heap} {T : State} {locs : List Loc} {cells slots : Nat} {Q : State → Prop} {pc : Nat} {ls : Array Slot}
  {y : MethodName} {cb : ByteArray} {mL : Nat} {hs : List (Nat × Nat × Nat × Nat)} {f k : Nat} {wc wc' ws : va_W} {idx n : Nat} {st0 : List Value} {r0 : Int32}
theorem ckJ (C : Cx g own cc nL A p s m args c) (hv : KA own idx y cb mL hs n) (As rest : List Value) (hM : CJ l g y cb mL hs f k As wc r0 wc') (hP : va_P g.1 classes ws H) (hD : va_D A ws) (hS : va_S A s.heap H locs)
    (isC isR is1 : List Nat) (wr w1 : va_W) (hC : isC.map (fun i => ws[i]?) = wc.map some) (hRr : isR.map (fun i => ws[i]?) = wr.map some) (hn : va_nd isC = true) (hnR : va_nd isR = true) (hdis : ∀ i ∈ isR, i ∉ isC) (h1 : is1.map (fun i => (wr ++ wc')[i]?) = w1.map some) (hn1 : va_nd is1 = true)
    (hst : st0 = As.reverse ++ rest) (hlen : As.length = n) (hsz : ls.size = nL) (hcat : (rest.map fun v => v.category).sum ≤ 8) (hR : f + 1 ≤ R.frames ∧ 8 + (mL + 11) + k ≤ R.locals)
    (hdg : decode cc pc = .ok (.invokestatic idx, 3)) (hf : cells + 1 ≤ R.cells ∧ slots + 6 ≤ R.slots)
    (kk : ∀ (H : Heap) (locs : List Loc), va_P g.1 classes w1 H → va_D A w1 → va_S A s.heap H locs → W p l e R s m args below meth c H locs (cells + 1) (slots + 6) Q (F0 m (pc + 3) ls (.int r0 :: rest))) : W p l e R s m args below meth c H locs cells slots Q (F0 m pc ls st0) := by
  obtain ⟨hx, hb, hml, hown, hw, hE, hA⟩ := C
  have hFc := va_free (wc := wc) hD hS hA isC hC
  have hPc : va_P g.1 classes wc H := hP.sub isC (mapSub hC)
  have hDc : va_D A wc := hD.sub isC hn hC
  subst hst
  have hgood : GoodIn W0 (Cond.codeWith y cb mL (some .int) hs :: W0) := W0_goodL (all_cons hv.2.2.2.1 (fun _ q => q))
  have hini2 : ∀ (a' : Array Value) (U : State), s.WarmedH U.vm → (Cond.initialized y.cls).before a' U = true := fun a' U hU => word_at hU (W0_good _ hv.2.2.1).2 (hw _ hv.2.2.1)
  have hK : Back l R p e below s args y 3 8 (PreOf R 1 6 (va_Pc As (CW g wc H.size))) (PostOf (va_Qi (S := Unit) (fun r _ => r = r0) (fun _ t => va_P g.1 classes wc' t.heap ∧ va_D (va_A wc H.size) wc') (va_A wc H.size)) 1 6 (va_A wc H.size)) := by
    refine Back.of_freeWith (S := headSpec (Cond.codeWith y cb mL (some .int) hs :: W0) { frames := f, cells := 1, slots := 6, locals := k }) (handlers := hs) (P := va_Pc As (CW g wc H.size)) (K := fun _ _ _ _ _ => True) (Q := fun a st o t => va_Qi (S := Unit) (fun r _ => r = r0) (fun _ t => va_P g.1 classes wc' t.heap ∧ va_D (va_A wc H.size) wc') (va_A wc H.size) a st o t ∧ ∃ L, FrameEnd st o t L 1 6 ∧ ∀ q ∈ L, va_A wc H.size q.base) (bytes := cb) (maxL := mL) (ret := some .int)
      (E := fun a st o t L k n => k = 1 ∧ n = 6 ∧ ∀ q ∈ L, va_A wc H.size q.base) (hM H.size) hR.1 hR.2 ?_ ?_ (fun _ _ _ _ _ _ _ _ _ => trivial) ?_ ?_
    · intro m meth c A a X hp
      exact ⟨atoms_intro fun w hw2 => pay_in hw hgood w hw2 _ _ X.warmed, pay_in hw hgood _ List.mem_cons_self _ _ X.warmed, hini2 _ _ X.warmed, hp.1, hp.2.1⟩
    · intro m meth c A a gg mk X hp
      exact CW_blind _ _ _ _ hp.2.2
    · intro a st o t ⟨hq, L, hF, hL⟩
      exact ⟨L, 1, 6, hF, rfl, rfl, hL⟩
    · intro m meth c A a gg mk v t L k n X hp hq hF ⟨e1, e2, hL⟩
      subst e1; subst e2
      exact ⟨gg, mk, t, L, rfl, rfl, hq.1, rfl, hL, rfl, rfl⟩
  have hrun : va_Run p l e R s m args below meth c H locs cells slots 1 6 (F0 m pc ls (As.reverse ++ rest)) rest (va_Qi (S := Unit) (fun r _ => r = r0) (fun _ t => va_P g.1 classes wc' t.heap ∧ va_D (va_A wc H.size) wc') (va_A wc H.size) As.toArray) (va_A wc H.size) := by
    intro T hT X
    obtain ⟨mk, methM, cM, hnamed, hmethM, -, -, -, -, -, -, hsigM⟩ := Cond.codeWith_spec (hw _ hv.2.2.2.1)
    have hstatic : methM.isStatic = true := Cond.static_spec hnamed hmethM (hw _ hv.2.1)
    obtain ⟨kP, hkP, -⟩ := className_of_methodNamed hnamed
    have hinitP : kP.init = .initialized := Cond.initialized_spec (findClass_of_methodNamed hnamed) hkP (hw _ hv.2.2.1)
    have hlen2 : As.length = methM.sig.parameters.length := by
      have h2 := hv.2.2.2.2.2.2
      rw [hsigM] at h2
      rw [hlen]
      exact (Option.some.inj h2).symm
    obtain ⟨vm₁, X₁, hstep₁⟩ := X.invokestatic hx hown (hw _ hv.1) hnamed hmethM hstatic hkP hinitP ⟨hv.2.2.2.2.1, hv.2.2.2.2.2.1⟩ (g := F0 m pc ls (As.reverse ++ rest)) rfl (argsL := As) (rest := rest) hlen2 rfl (by rw [hb]; exact hdg)
    obtain ⟨v, ⟨U', l2, c2, s2⟩, X', ⟨g', mk', t, L, e1, e2, hq, h1, hL, h2, h3⟩, hsteps⟩ := hK m meth c ⟨T.setVm vm₁, locs, cells, slots⟩ (F0 m pc ls rest) (.invokestatic idx) mk As.toArray X₁ rfl (hsz.trans hml.symm) (by rw [hb]; exact hdg) (by simpa [JFrame.monitorRoom] using hcat) (X₁.named hnamed) ⟨hf.1, hf.2, rfl, by show T.heap.size = H.size; rw [hT], by show va_P _ _ _ T.heap; rw [hT]; exact hPc, hDc.weaken (fun _ _ _ _ => trivial), by
      show EV g (va_A wc H.size) (T.setVm vm₁) T.heap
      rw [hT]
      exact hE.to hS X₁.warmed hFc⟩
    dsimp only [Pt.U, Pt.locs, Pt.cells, Pt.slots] at X' e1 e2 h1 h2 h3 hsteps
    subst h1; subst h2; subst h3
    exact ⟨v, (T.setVm vm₁).calling g' mk' As.toArray, t, U', L, hT, X', hL, e1, e2, hq, fun target h => hstep₁ _ fun acts => by rw [doInvoke_state]; exact hsteps.trans h⟩
  refine va_calli hrun hS (fun q _ h => hFc q h) hFc (fun r u t H1 locs1 ht hvm hw1 hB hz1 hk1 hS1 => ?_)
  obtain ⟨hP1, hD1⟩ := hB
  rw [ht] at hP1
  obtain ⟨hP2, hD2⟩ := va_join (wr := wr) (w1 := wc') hP hD isC isR hC hRr hnR hdis hk1 hFc hP1 hD1
  rw [hw1]
  exact kk H1 locs1 (hP2.sub is1 (mapSub h1)) (hD2.sub is1 hn1 h1) hS1
end KCALL
