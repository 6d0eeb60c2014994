theorem same_old {s t : State} {c n : Nat} (h : s.sameButNew t [] c n) : ∀ x : Nat, x < s.heap.size → t.heap[x]? = s.heap[x]? := by
  intro x hx
  have hc0 : s.heap[x]? = some s.heap[x] := Array.getElem?_eq_getElem hx
  obtain ⟨c', h1, h2, h3, h4⟩ := h.2.2.2.2.2 x _ hc0
  have hs : c'.slots = s.heap[x].slots := by
    apply Array.ext_getElem?
    intro i
    exact h4 i List.not_mem_nil
  rw [hs] at h2
  rw [h1, hc0, h2]
section XCALL
variable {l : Launch} {g : Glob} {own : String} {cc : ByteArray} {nL : Nat} {A : Nat → Prop} {p : Program} {e : Env} {s : State} {m : MethodId} {args : Array Value} {below : List Frame} {meth : Method} {c : Code} {R : Room} {H : Heap} {T : State} {locs : List Loc} {cells slots : Nat} {Q : State → Prop} {pc : Nat} {ls : Array Slot}
  {y : MethodName} {cb : ByteArray} {mL : Nat} {rt : Option FieldType} {f k : Nat} {b : Nat} {wc ws : va_W} {idx n : Nat} {st0 : List Value} {E : String} {av : List Value}
/-- 'throw new E("..")', nothing of the old heap having changed -/
theorem thr_new (C : Cx g "SweptPaths" cc nL A p s m args c) (htab : c.exceptionTable.isEmpty = true) (hlocks : meth.locks = false) (hfl : l.flags = pinnedFlags ++ [noTraceFlag]) {ic inw ist : Nat} {tx : String} (hat : ∀ a ∈ Bundle.ownAtoms "SweptPaths" ic E upN, a.before args s = true) (hfit : Bundle.fit E = true)
    (hcl : Cond.classLink "SweptPaths" inw E ∈ W0) (hins : Cond.instantiable E 6 ∈ W0) (hini : Cond.initialized E ∈ W0) (hst : ∃ a, vk_R "SweptPaths" ist tx a s) (hH : ∀ x : Nat, x < s.heap.size → H[x]? = s.heap[x]?) (hHs : s.heap.size ≤ H.size) (hsz : ls.size = nL) (hRf : 5 < R.frames) (hRl : 83 ≤ R.locals) (hRc : 1 ≤ R.cells) (hRs : 6 ≤ R.slots)
    (d0 : decode cc pc = .ok (.new inw, 3)) (d1 : decode cc (pc + 3) = .ok (.dup, 1)) (d2 : decode cc (pc + 3 + 1) = .ok (.ldc ist, 2)) (d3 : decode cc (pc + 3 + 1 + 2) = .ok (.invokespecial ic, 3)) (d4 : decode cc (pc + 3 + 1 + 2 + 3) = .ok (.athrow, 1)) :
    W p l e R s m args below meth c H [] 0 0 (XQ E below s) (F0 m pc ls []) := by
  obtain ⟨hx, hb, hml, hown, hw, hE, hA⟩ := C
  refine W.newc hx hb hown (hw _ hcl) (hw _ hins) (hw _ hini) rfl d0 (by omega) (by omega) (fun cC kC h1 h2 h3 h4 => ?_)
  refine W.eq (g2 := F0 m (pc + 3) ls [.ref H.size]) rfl ?_
  refine lv_dup hx hb d1 rfl ?_
  obtain ⟨sa, hsa⟩ := hst
  refine va_ldcS hx hb hown hsa d2 ?_
  intro T hT X
  have htr : e.platform.stackTraces = false := Launch.traces_off hfl X.admits
  have hout : ∀ x ∈ c.exceptionTable.toList, covers x (pc + 3 + 1 + 2 + 3) = false := by
    intro x hx
    rw [Array.isEmpty_iff.mp htab] at hx
    simp at hx
  obtain ⟨U, u1, u2, u3, u4, u5, ce, u6, u7⟩ := X.ctorThrowS hx htr (own := "SweptPaths") (cls := E) (names := upN) (ic := ic) hown hfit (by decide) hat (fun x hx => absurd hx List.not_mem_nil) h1 h2 (by rw [hT]; simp) (by omega) (msg := .ref sa) rfl (g := F0 m (pc + 3 + 1 + 2) ls [.ref sa, .ref H.size, .ref H.size]) rfl (hsz.trans hml.symm) rfl rfl (rest := []) rfl (by rw [hb]; exact d3) (by rw [hb]; exact d4) hout hRf (by show 2 * _ + _ + _ ≤ _; simp [JFrame.monitorRoom, upN, Value.category]; omega) hlocks
  refine ⟨U, u1, H.size, ce, u2, u3, hHs, u6, u7.vm, u7.cls, fun x hx => ?_, ?_, u4, ?_⟩
  · exact same_old u5 x hx
  · exact u5.2.1
  · exact u5
/-- a call of a method that throws: the caller's frame stands, the exception over it -/
theorem xGo (hM : CX l g y cb mL rt f k av wc E) (X : Stand p l e R s m args below meth c T locs cells slots) (hpre : CW g wc T.heap.size T) {gf : JFrame} {ig : Instr} {len : Nat} {mk : MethodId} (hg : gf.method = m) (hsize : gf.locals.size = c.maxLocals) (hdg : decode c.code gf.pc = .ok (ig, len)) (hW : 2 * gf.monitorRoom + (gf.stack.map fun v => v.category).sum ≤ 8) (hn : T.methodNamed? y = some mk)
    (hws : ∀ w ∈ (Cond.code y cb mL rt :: W0), ∀ (a' : Array Value) (U : State), s.WarmedH U.vm → w.before a' U = true) (hini : ∀ (a' : Array Value) (U : State), s.WarmedH U.vm → (Cond.initialized y.cls).before a' U = true) (hframes : f + 1 ≤ R.frames) (hlocals : 8 + (mL + 11) + k ≤ R.locals) (hcells : cells + 1 ≤ R.cells) (hslots : slots + 6 ≤ R.slots) :
    ∃ (q : Addr) (ce : Cell) (T' : State), Stand p l e R s m args below meth c T' locs (cells + 1) (slots + 6) ∧ T.heap.size ≤ q ∧ T'.heap[q]? = some ce ∧ ce.vm = .none ∧ T.vm.findClass E = some ce.cls ∧ (∀ x : Nat, x < T.heap.size → T'.heap[x]? = T.heap[x]?) ∧ T.heap.size ≤ T'.heap.size ∧ Steps p.tables e below (doInvoke e (T.setTop gf) [] mk av.toArray).1 ((T'.setTop gf).pushFrame (.throwing q)) := by
  have h2 := hws _ List.mem_cons_self av.toArray T X.warmed
  have h1 : (headSpec (Cond.code y cb mL rt :: W0) { frames := f, cells := 1, slots := 6, locals := k }).pre.before av.toArray T = true := atoms_intro fun w hw => hws w hw _ _ X.warmed
  have h3 := hini av.toArray T X.warmed
  obtain ⟨methY, cY, hmY, hcY, -, hlY, -, -, -, -⟩ := Cond.code_spec hn h2
  obtain ⟨kY, hkY, -⟩ := className_of_methodNamed hn
  have hinitY : kY.init = .initialized := Cond.initialized_spec (findClass_of_methodNamed hn) hkY h3
  have h : At T gf.method c below := by rw [hg]; exact X.here
  have happ : (headSpec (Cond.code y cb mL rt :: W0) { frames := f, cells := 1, slots := 6, locals := k }).appliesLoose y e.platform (T.calling gf mk av.toArray) = true :=
    Spec.appliesLoose_calling (g := gf) h hdg hn hkY hinitY (X.room_calling (g := gf) (R' := { frames := f, cells := 1, slots := 6, locals := k }) hsize hmY hcY hframes (by rw [hlY]; show _ + _ + k ≤ _; omega) hcells hslots) h1
  obtain ⟨mid, hmid⟩ := h.above
  have hfr : (T.setTop gf).frames = (.java gf :: mid) ++ below := by rw [State.frames_setTop' gf h.top, hmid]; rfl
  obtain ⟨o, t, hsteps, -, hend, hq⟩ := Steps.callFree (hM T.heap.size) p X.admits X.cas X.clock (acts := []) hfr happ (CW_blind _ _ _ _ ⟨rfl, hpre⟩) trivial
  rw [State.frames_setTop' gf h.top] at hend
  obtain ⟨q, ce, rfl, q1, q2, q3, q4, q5, q6, hW₂, hsame⟩ := hq
  have hW' : T.WarmedH t.vm := hW₂
  have hsame : (T.calling gf mk av.toArray).sameButNew ({ t with vm := (T.calling gf mk av.toArray).vm } : State) [] 1 6 := hsame
  have e3 : t = ({ (T.calling gf mk av.toArray).setFrames t.frames with heap := t.heap, slotsUsed := t.slotsUsed } : State).setVm t.vm := by
    have : t = ({ t with vm := (T.calling gf mk av.toArray).vm } : State).setVm t.vm := rfl
    rw [hsame.1] at this
    exact this
  have hf₂ : t.frames = .throwing q :: .java gf :: T.frames.tail := hend
  obtain ⟨g₀, hg0⟩ := Option.isSome_iff_exists.mp h.top
  obtain ⟨r, hr⟩ := State.topJava?_eq_some.mp hg0
  have hs₂ : t = ((({ T with heap := t.heap, slotsUsed := t.slotsUsed } : State).setVm t.vm).setTop gf).pushFrame (.throwing q) := by
    have hr' : (({ T with heap := t.heap, slotsUsed := t.slotsUsed } : State).setVm t.vm).frames = .java g₀ :: r := hr
    refine e3.trans ?_
    rw [hf₂, State.calling_eq h.top, State.setFrames_setFrames, State.pushFrame, State.frames_setTop _ hr', State.setTop_of_frames _ hr', State.setFrames_setFrames, hr]
    rfl
  have hs3 : T.sameButNew ({ T with heap := t.heap, slotsUsed := t.slotsUsed } : State) [] 1 6 := by
    refine ⟨?_, hsame.2⟩
    obtain ⟨z, hz, -⟩ := State.frames_cons hr
    show ({ T with heap := t.heap, slotsUsed := t.slotsUsed } : State) = { T.setFrames T.frames with heap := t.heap, slotsUsed := t.slotsUsed }
    rw [State.setFrames_self hz]
  subst hg
  have hst := X.same.trans (hs3.setVm s.vm)
  rw [List.append_nil] at hst
  refine ⟨q, ce, ({ T with heap := t.heap, slotsUsed := t.slotsUsed } : State).setVm t.vm, ⟨X.admits, X.cas, X.clock, X.frames, X.room, X.hears, X.method, X.code, (X.here.setHeapUsed t.heap t.slotsUsed).setVm hW'.alike, X.tail, State.WarmedH.trans X.warmed hW', X.limits, X.bytes, hst⟩, q1, q2, q3, q4, q5, q6, ?_⟩
  rw [← hs₂]
  exact hsteps
theorem S_old (hH : ∀ x : Nat, x < s.heap.size → H[x]? = s.heap[x]?) (hHs : s.heap.size ≤ H.size) : va_S A s.heap H [] := ⟨hHs, fun q h _ => hH q h, fun _ h => absurd h List.not_mem_nil⟩
/-- invokestatic of a method that throws, without a world -/
theorem xsGo (C : Cx g own cc nL A p s m args c) (hv : SA own idx y cb mL rt n) (As rest : List Value) (hM : CX l g y cb mL rt f k As [] E) (hH : ∀ x : Nat, x < s.heap.size → H[x]? = s.heap[x]?) (hHs : s.heap.size ≤ H.size) (hst : st0 = As.reverse ++ rest) (hlen : As.length = n) (hsz : ls.size = nL) (hcat : (rest.map fun v => v.category).sum ≤ 8) (hR : f + 1 ≤ R.frames ∧ 8 + (mL + 11) + k ≤ R.locals) (hRc : cells + 1 ≤ R.cells ∧ slots + 6 ≤ R.slots) (hdg : decode cc pc = .ok (.invokestatic idx, 3))
    (hT : T.heap = H) (X : Stand p l e R s m args below meth c T [] cells slots) :
    ∃ (q : Addr) (ce : Cell) (T' : State), Stand p l e R s m args below meth c T' [] (cells + 1) (slots + 6) ∧ s.heap.size ≤ q ∧ T'.heap[q]? = some ce ∧ ce.vm = .none ∧ s.vm.findClass E = some ce.cls ∧ (∀ x : Nat, x < s.heap.size → T'.heap[x]? = s.heap[x]?) ∧ s.heap.size ≤ T'.heap.size ∧ Steps p.tables e below (T.setTop (F0 m pc ls st0)) ((T'.setTop (F0 m pc ls rest)).pushFrame (.throwing q)) := by
  obtain ⟨hx, hb, hml, hown, hw, hE, hA⟩ := C
  have hcode := hw _ hv.2.2.2.1
  obtain ⟨mk, hnamed⟩ := Cond.code_named hcode
  obtain ⟨methM, cM, hmethM, -, -, -, -, -, -, hsigM⟩ := Cond.code_spec hnamed hcode
  have hstatic : methM.isStatic = true := Cond.static_spec hnamed hmethM (hw _ hv.2.1)
  obtain ⟨kP, hkP, -⟩ := className_of_methodNamed hnamed
  have hinitP : kP.init = .initialized := Cond.initialized_spec (findClass_of_methodNamed hnamed) hkP (hw _ hv.2.2.1)
  have hlen2 : As.length = methM.sig.parameters.length := by
    have h2 := hv.2.2.2.2.2.2
    rw [hsigM] at h2
    rw [hlen]
    exact (Option.some.inj h2).symm
  obtain ⟨vm₁, X₁, hstep₁⟩ := X.invokestatic hx hown (hw _ hv.1) hnamed hmethM hstatic hkP hinitP ⟨hv.2.2.2.2.1, hv.2.2.2.2.2.1⟩ (g := F0 m pc ls st0) rfl (argsL := As) (rest := rest) hlen2 hst (by rw [hb]; exact hdg)
  have hS : va_S A s.heap H [] := S_old hH hHs
  have hFc : ∀ q, va_A [] H.size q → A q := fun q h => by
    rcases h with ⟨k2, e2, h⟩ | h
    · simp at h
    · exact hA q (Nat.le_trans hHs h)
  have hpre : CW g [] (T.setVm vm₁).heap.size (T.setVm vm₁) := ⟨rfl, fun k q h => by simp at h, ⟨fun i j p q h => by simp at h, fun k q h => by simp at h⟩, by
    show EV g (va_A [] T.heap.size) (T.setVm vm₁) T.heap
    rw [hT]
    exact hE.to hS X₁.warmed hFc⟩
  obtain ⟨q, ce, T', X', q1, q2, q3, q4, q5, q6, hgo⟩ := xGo hM X₁ hpre (gf := F0 m pc ls rest) (ig := .invokestatic idx) (len := 3) rfl (hsz.trans hml.symm) (by rw [hb]; exact hdg) (by simpa [JFrame.monitorRoom] using hcat) (X₁.named hnamed) (pay_in hw (fun w h => hv.good w (List.mem_append_right _ h))) (fun a' U hU => word_at hU (hv.good _ (by simp [va_wsS])).2 (hw _ hv.2.2.1)) hR.1 hR.2 hRc.1 hRc.2
  have e1 : (T.setVm vm₁).heap = H := hT
  rw [e1] at q1 q5 q6
  have hal : s.vm.Alike (T.setVm vm₁).vm := X₁.warmed.alike
  refine ⟨q, ce, T', X', Nat.le_trans hHs q1, q2, q3, by rw [← hal.findClass]; exact q4, fun x hx => by rw [q5 x (by omega), hH x hx], Nat.le_trans hHs q6, ?_⟩
  exact hstep₁ _ fun acts => by rw [doInvoke_state]; exact hgo
/-- .. and out of the caller, who has no table -/
theorem xsOut (C : Cx g own cc nL A p s m args c) (htab : c.exceptionTable.isEmpty = true) (hlocks : meth.locks = false) (hv : SA own idx y cb mL rt n) (As rest : List Value) (hM : CX l g y cb mL rt f k As [] E) (hH : ∀ x : Nat, x < s.heap.size → H[x]? = s.heap[x]?) (hHs : s.heap.size ≤ H.size) (hst : st0 = As.reverse ++ rest) (hlen : As.length = n) (hsz : ls.size = nL) (hcat : (rest.map fun v => v.category).sum ≤ 8) (hR : f + 1 ≤ R.frames ∧ 8 + (mL + 11) + k ≤ R.locals) (hRc : 1 ≤ R.cells ∧ 6 ≤ R.slots) (hdg : decode cc pc = .ok (.invokestatic idx, 3)) :
    W p l e R s m args below meth c H [] 0 0 (XQ E below s) (F0 m pc ls st0) := by
  intro T hT X
  obtain ⟨q, ce, T', X', q1, q2, q3, q4, q5, q6, hgo⟩ := xsGo (st0 := st0) C hv As rest hM hH hHs hst hlen hsz hcat hR (by simpa using hRc) hdg hT X
  have hout : ∀ x ∈ c.exceptionTable.toList, covers x pc = false := by
    intro x hx
    rw [Array.isEmpty_iff.mp htab] at hx
    simp at hx
  obtain ⟨l1, l2, l3, l4, l5⟩ := X'.leaveThrown q (g := F0 m pc ls rest) rfl rfl rfl hout hlocks
  exact ⟨T'.setFrames (.throwing q :: below), hgo.trans l1, q, ce, l2, l3, q1, q2, q3, q4, q5, q6, l4, l5⟩
/-- invokevirtual of a method that throws -/
theorem xvGo (C : Cx g own cc nL A p s m args c) (hv : VA own idx y cb mL rt n) (As rest : List Value) (hM : CX l g y cb mL rt f k (.ref b :: As) wc E) (hP : va_P g.1 classes ws H) (hD : va_D A ws) (hS : va_S A s.heap H locs) (isC : List Nat) (hC : isC.map (fun i => ws[i]?) = wc.map some) (hn : va_nd isC = true)
    (q0 : Nat) {ci : Nat} {fs : List Value} {T0 : u_T} {N : Nat} (hq : wc[q0]? = some (b, .inr (ci, fs))) (hcl : classes[ci]? = some (y.cls, T0, N)) (hst : st0 = As.reverse ++ .ref b :: rest) (hlen : As.length = n) (hsz : ls.size = nL) (hcat : (rest.map fun v => v.category).sum ≤ 8) (hR : f + 1 ≤ R.frames ∧ 8 + (mL + 11) + k ≤ R.locals) (hRc : cells + 1 ≤ R.cells ∧ slots + 6 ≤ R.slots) (hdg : decode cc pc = .ok (.invokevirtual idx, 3))
    (hT : T.heap = H) (X : Stand p l e R s m args below meth c T locs cells slots) :
    ∃ (q : Addr) (ce : Cell) (T' : State), Stand p l e R s m args below meth c T' locs (cells + 1) (slots + 6) ∧ H.size ≤ q ∧ T'.heap[q]? = some ce ∧ ce.vm = .none ∧ s.vm.findClass E = some ce.cls ∧ (∀ x : Nat, x < H.size → T'.heap[x]? = H[x]?) ∧ H.size ≤ T'.heap.size ∧ Steps p.tables e below (T.setTop (F0 m pc ls st0)) ((T'.setTop (F0 m pc ls rest)).pushFrame (.throwing q)) := by
  obtain ⟨hx, hb, hml, hown, hw, hE, hA⟩ := C
  have hFc := va_free (wc := wc) hD hS hA isC hC
  have hPc : va_P g.1 classes wc H := hP.sub isC (mapSub hC)
  have hDc : va_D A wc := hD.sub isC hn hC
  obtain ⟨cellB, hcell, hobj, hcls⟩ := va_recv hE.1 hPc hcl hq
  obtain ⟨mk, methM, hnamed, hmethM, hstM, habM⟩ := Cond.instanceMethod_spec (hw _ hv.2.1)
  have hcode := hw _ hv.2.2.2.2.1
  obtain ⟨methM', cM, hmethM', -, -, -, -, -, -, hsigM⟩ := Cond.code_spec hnamed hcode
  cases hmethM.symm.trans hmethM'
  obtain ⟨c2, r2, m2, z1, z2, z3, z4, kP, hkP, hkPi⟩ := Cond.selects_spec (hw _ hv.2.2.1)
  cases hcls.symm.trans z1
  cases (State.methodFound?_of_named hnamed ⟨hv.2.2.2.2.2.1, hv.2.2.2.2.2.2.1⟩).symm.trans z2
  cases hnamed.symm.trans z3
  have hselP : selectMethod e.platform s.vm cellB.cls mk = .method mk := by rw [Launch.admits_selectMethod X.admits]; exact z4
  have hlen2 : As.length = methM.sig.parameters.length := by
    have h2 := hv.2.2.2.2.2.2.2
    rw [hsigM] at h2
    rw [hlen]
    exact (Option.some.inj h2).symm
  obtain ⟨vm₁, X₁, hstep₁⟩ := X.invokevirtual hx hown (hw _ hv.1) hnamed hmethM hstM hkP hkPi ⟨hv.2.2.2.2.2.1, hv.2.2.2.2.2.2.1⟩ (a := b) (cell := cellB) (by rw [hT]; exact hcell) (fun z h => by rw [h] at hobj; cases hobj) hselP hmethM habM hkP hkPi (g := F0 m pc ls st0) rfl (argsL := As) (rest := rest) hlen2 hst (by rw [hb]; exact hdg)
  have hpre : CW g wc (T.setVm vm₁).heap.size (T.setVm vm₁) := ⟨rfl, by show va_P _ _ _ T.heap; rw [hT]; exact hPc, hDc.weaken (fun _ _ _ _ => trivial), by
    show EV g (va_A wc T.heap.size) (T.setVm vm₁) T.heap
    rw [hT]
    exact hE.to hS X₁.warmed hFc⟩
  obtain ⟨q, ce, T', X', q1, q2, q3, q4, q5, q6, hgo⟩ := xGo hM X₁ hpre (gf := F0 m pc ls rest) (ig := .invokevirtual idx) (len := 3) rfl (hsz.trans hml.symm) (by rw [hb]; exact hdg) (by simpa [JFrame.monitorRoom] using hcat) (X₁.named hnamed) (pay_in hw (fun w h => hv.good w (List.mem_append_right _ h))) (fun a' U hU => word_at hU (hv.good _ (by simp [wsV])).2 (hw _ hv.2.2.2.1)) hR.1 hR.2 hRc.1 hRc.2
  have e1 : (T.setVm vm₁).heap = H := hT
  rw [e1] at q1 q5 q6
  have hal : s.vm.Alike (T.setVm vm₁).vm := X₁.warmed.alike
  refine ⟨q, ce, T', X', q1, q2, q3, by rw [← hal.findClass]; exact q4, q5, q6, ?_⟩
  exact hstep₁ _ fun acts => by rw [doInvoke_state]; exact hgo
theorem xvOut (C : Cx g own cc nL A p s m args c) (htab : c.exceptionTable.isEmpty = true) (hlocks : meth.locks = false) (hv : VA own idx y cb mL rt n) (As rest : List Value) (hM : CX l g y cb mL rt f k (.ref b :: As) wc E) (hP : va_P g.1 classes ws H) (hD : va_D A ws) (hH : ∀ x : Nat, x < s.heap.size → H[x]? = s.heap[x]?) (hHs : s.heap.size ≤ H.size) (isC : List Nat) (hC : isC.map (fun i => ws[i]?) = wc.map some) (hn : va_nd isC = true)
    (q0 : Nat) {ci : Nat} {fs : List Value} {T0 : u_T} {N : Nat} (hq : wc[q0]? = some (b, .inr (ci, fs))) (hcl : classes[ci]? = some (y.cls, T0, N)) (hst : st0 = As.reverse ++ .ref b :: rest) (hlen : As.length = n) (hsz : ls.size = nL) (hcat : (rest.map fun v => v.category).sum ≤ 8) (hR : f + 1 ≤ R.frames ∧ 8 + (mL + 11) + k ≤ R.locals) (hRc : 1 ≤ R.cells ∧ 6 ≤ R.slots) (hdg : decode cc pc = .ok (.invokevirtual idx, 3)) :
    W p l e R s m args below meth c H [] 0 0 (XQ E below s) (F0 m pc ls st0) := by
  intro T hT X
  obtain ⟨q, ce, T', X', q1, q2, q3, q4, q5, q6, hgo⟩ := xvGo (st0 := st0) C hv As rest hM hP hD (S_old hH hHs) isC hC hn q0 hq hcl hst hlen hsz hcat hR (by simpa using hRc) hdg hT X
  have hout : ∀ x ∈ c.exceptionTable.toList, covers x pc = false := by
    intro x hx
    rw [Array.isEmpty_iff.mp htab] at hx
    simp at hx
  obtain ⟨l1, l2, l3, l4, l5⟩ := X'.leaveThrown q (g := F0 m pc ls rest) rfl rfl rfl hout hlocks
  exact ⟨T'.setFrames (.throwing q :: below), hgo.trans l1, q, ce, l2, l3, Nat.le_trans hHs q1, q2, q3, q4, fun x hx => (q5 x (by omega)).trans (hH x hx), Nat.le_trans hHs q6, l4, l5⟩
/-- invokestatic of a void method that reads and writes nothing -/
theorem csU (C : Cx g own cc nL A p s m args c) (hv : SA own idx y cb mL none n) (As rest : List Value) (hM : CV l g y cb mL f k As [] []) (hP : va_P g.1 classes ws H) (hS : va_S A s.heap H locs)
    (hst : st0 = As.reverse ++ rest) (hlen : As.length = n) (hsz : ls.size = nL) (hcat : (rest.map fun v => v.category).sum ≤ 8) (hR : f + 1 ≤ R.frames ∧ 8 + (mL + 11) + k ≤ R.locals)
    (hdg : decode cc pc = .ok (.invokestatic idx, 3)) (hf : cells + 0 ≤ R.cells ∧ slots + 0 ≤ R.slots)
    (kk : ∀ (H : Heap) (locs : List Loc), va_P g.1 classes ws H → va_S A s.heap H locs → W p l e R s m args below meth c H locs cells slots Q (F0 m (pc + 3) ls rest)) : W p l e R s m args below meth c H locs cells slots Q (F0 m pc ls st0) := by
  obtain ⟨hx, hb, hml, hown, hw, hE, hA⟩ := C
  have hFc : ∀ q, va_A [] H.size q → A q := fun q h => by
    rcases h with ⟨k2, e2, h⟩ | h
    · simp at h
    · exact hA q (Nat.le_trans hS.1 h)
  subst hst
  refine va_callv (va_runS (As := As) (rest := rest) ⟨hx, hb, hml, hown, hw⟩ (hM H.size) (va_cwS n hw hv.good rfl rfl rfl hv.2.2.2.2 hR) ⟨CW_blind, fun U hU hW => ⟨rfl, by rw [hU], fun k q h => by simp at h, ⟨fun i j p q h => by simp at h, fun k q h => by simp at h⟩, by rw [hU]; exact hE.to hS hW hFc⟩⟩ rfl hlen hsz rfl (lv_room hcat) hdg hf) hS (fun q _ h => hFc q h) hFc (fun u t H1 locs1 ht hvm hw1 hB hz1 hk1 hS1 => ?_)
  exact kk H1 locs1 (P_free hP hk1) hS1
/-- .. on a road that will throw: no old cell has been written -/
theorem csU0 (C : Cx g own cc nL A p s m args c) (hv : SA own idx y cb mL none n) (As rest : List Value) (hM : CV l g y cb mL f k As [] []) (hP : va_P g.1 classes ws H) (hH : ∀ x : Nat, x < s.heap.size → H[x]? = s.heap[x]?) (hHs : s.heap.size ≤ H.size)
    (hst : st0 = As.reverse ++ rest) (hlen : As.length = n) (hsz : ls.size = nL) (hcat : (rest.map fun v => v.category).sum ≤ 8) (hR : f + 1 ≤ R.frames ∧ 8 + (mL + 11) + k ≤ R.locals)
    (hdg : decode cc pc = .ok (.invokestatic idx, 3)) (hf : cells + 0 ≤ R.cells ∧ slots + 0 ≤ R.slots)
    (kk : ∀ (H : Heap), va_P g.1 classes ws H → (∀ x : Nat, x < s.heap.size → H[x]? = s.heap[x]?) → s.heap.size ≤ H.size → W p l e R s m args below meth c H [] cells slots Q (F0 m (pc + 3) ls rest)) : W p l e R s m args below meth c H [] cells slots Q (F0 m pc ls st0) := by
  obtain ⟨hx, hb, hml, hown, hw, hE, hA⟩ := C
  have hS : va_S A s.heap H [] := S_old hH hHs
  have hFc : ∀ q, va_A [] H.size q → A q := fun q h => by
    rcases h with ⟨k2, e2, h⟩ | h
    · simp at h
    · exact hA q (Nat.le_trans hS.1 h)
  subst hst
  have hrun := va_runS (p := p) (l := l) (e := e) (R := R) (s := s) (m := m) (args := args) (below := below) (meth := meth) (c := c) (H := H) (locs := []) (cells := cells) (slots := slots) (g := F0 m pc ls (As.reverse ++ rest)) (As := As) (rest := rest) ⟨hx, hb, hml, hown, hw⟩ (hM H.size) (va_cwS n hw hv.good rfl rfl rfl hv.2.2.2.2 hR) ⟨CW_blind, fun U hU hW => ⟨rfl, by rw [hU], fun k q h => by simp at h, ⟨fun i j p q h => by simp at h, fun k q h => by simp at h⟩, by rw [hU]; exact hE.to hS hW hFc⟩⟩ rfl hlen hsz rfl (lv_room hcat) hdg hf
  intro T hT X
  obtain ⟨v, st1, t, T', L, e0, X', hL, e1, e2, hQ, hgo⟩ := hrun T hT X
  obtain ⟨⟨u, hv1, -, -⟩, hF⟩ := hQ
  cases hv1
  have hnA : ∀ x : Nat, x < H.size → ¬ va_A [] H.size x := fun x hx h => by
    rcases h with ⟨k2, e2, h⟩ | h
    · simp at h
    · omega
  have hk1 : ∀ x : Nat, x < H.size → T'.heap[x]? = H[x]? := fun x hx => by
    rw [e1, ← e0]
    exact hF.2 x (by rw [e0]; exact hx) (hnA x hx)
  have hsz1 : H.size ≤ T'.heap.size := by rw [e1, ← e0]; exact hF.1
  have X2 : Stand p l e R s m args below meth c T' [] cells slots := Stand.forget (locs := []) X' (fun z hz => by
    rcases hL z hz with ⟨k2, e2, h⟩ | h
    · simp at h
    · exact Nat.le_trans hHs h)
  obtain ⟨t2, a2, b2⟩ := kk T'.heap (P_free hP (fun q hq _ => hk1 q hq)) (fun x hx => (hk1 x (by omega)).trans (hH x hx)) (Nat.le_trans hHs hsz1) T' rfl X2
  exact ⟨t2, hgo _ a2, b2⟩
end XCALL
