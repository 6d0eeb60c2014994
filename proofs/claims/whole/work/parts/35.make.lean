/-! constructors: what they read of the tables beside the words; their contracts; new cells -/
def EI (U : State) : Prop := va_AO R_Sh U ∧ va_AO R_Po U ∧ va_AO R_Pl U ∧ va_Nw (.methodLinkNest R_SP 9 y_Se_init R_SP) U ∧ va_Nw (.methodLinkNest R_Se 11 y_Sh_init R_SP) U ∧ va_Nw (.methodLinkNest R_Ru 11 y_Po_init R_SP) U ∧ va_Nw (.methodLinkNest R_Ru 20 y_Ce_init R_SP) U ∧ va_Nw (.methodLinkNest R_SP 34 y_Pl_init R_SP) U
theorem EI.warm {s U : State} (hW : s.WarmedH U.vm) (h : EI s) : EI U := by
  obtain ⟨h1, h2, h3, h4, h5, h6, h7, h8⟩ := h
  exact ⟨h1.moved hW.alike, h2.moved hW.alike, h3.moved hW.alike, h4.warmM hW, h5.warmM hW, h6.warmM hW, h7.warmM hW, h8.warmM hW⟩
theorem EI.same {u U : State} (hv : U.vm = u.vm) (h : EI u) : EI U := by
  obtain ⟨h1, h2, h3, h4, h5, h6, h7, h8⟩ := h
  have hal : u.vm.Alike U.vm := by rw [hv]; exact Vm.Alike.refl _
  exact ⟨h1.moved hal, h2.moved hal, h3.moved hal, h4.same rfl hv.symm, h5.same rfl hv.symm, h6.same rfl hv.symm, h7.same rfl hv.symm, h8.same rfl hv.symm⟩
def CWI (g : Glob) (ws : va_W) (sz : Nat) (U : State) : Prop := CW g ws sz U ∧ EI U
theorem CWI_blind {g : Glob} {ws : va_W} {sz : Nat} {av : List Value} : FrameBlind (va_Pc av (CWI g ws sz)) := fun a U gg mk q => by
  obtain ⟨q0, q1, q2⟩ := q
  obtain ⟨z0, z1⟩ := CW_blind a U gg mk ⟨q0, q1⟩
  exact ⟨z0, z1, EI.same (u := U) (U := U.calling gg mk a) rfl q2⟩
/-- a constructor: what B says holds of the heap behind it -/
def CK (l : Launch) (g : Glob) (y : MethodName) (cc : ByteArray) (n : Nat) (f k mc ms : Nat) (av : List Value) (ws : va_W) (B : (Nat → Prop) → Heap → Prop) : Prop :=
  ∀ sz : Nat, Met l y (.code y cc n none :: W0) { frames := f, cells := mc, slots := ms, locals := k } (va_Pc av (CWI g ws sz)) (va_Qv (S := Unit) (fun _ => True) (fun _ t => B (va_A ws sz) t.heap) (va_A ws sz)) mc ms (va_A ws sz)
theorem CK.of {l : Launch} {g : Glob} {y : MethodName} {cc : ByteArray} {n : Nat} {f k mc ms : Nat} {av : List Value} {ws : va_W} {B : (Nat → Prop) → Heap → Prop} (hy : plainFor y = true) (hyn : y.name = "<init>") (hl : (lg_sl av).length ≤ n)
    (body : ∀ (p : Program) (e : Env) (s : State) (m : MethodId) (below : List Frame) (meth : Method) (c : Code) (A : Nat → Prop) (Q : State → Prop) (ls : Array Slot), Cx g y.cls cc n A p s m av.toArray c → meth.name = "<init>" → EI s → va_P g.1 classes ws s.heap → va_D A ws → lv_has ls n (lv_args 0 av) →
      (∀ (H : Heap) (locs : List Loc) (pc : Nat) (ls : Array Slot) (cells slots : Nat), cells ≤ mc → slots ≤ ms → B A H → va_S A s.heap H locs → decode cc pc = .ok (.return_, 1) → W p l e { frames := f, cells := mc, slots := ms, locals := k } s m av.toArray below meth c H locs cells slots Q (F0 m pc ls [])) →
      va_S A s.heap s.heap [] → W p l e { frames := f, cells := mc, slots := ms, locals := k } s m av.toArray below meth c s.heap [] 0 0 Q (F0 m 0 ls [])) : CK l g y cc n f k mc ms av ws B := by
  intro sz
  refine va_MetF (cc := cc) (maxL := n) (ret := none) hy rfl ?_
  intro p e s m args below meth c s₁ B0 hml hv
  obtain ⟨rfl, ⟨hsz, hP, hD0, hE⟩, hI⟩ := hv
  have hts := atoms_spec (ws := .code y cc n none :: W0) B0.pre
  have hown : s.vm.findClass y.cls = some m.cls := findClass_of_methodNamed B0.named
  have hlocks := B0.notSynchronized
  have hin : meth.name = "<init>" := (name_of_methodNamed B0.named B0.method).1.trans hyn
  subst hsz
  have hD := hD0.self (sz := s.heap.size)
  rw [lg_entry_eq]
  refine body p e s m below meth c (va_A ws s.heap.size) _ _ ⟨B0.exec, B0.bytes, hml, hown, fun w h => hts w (List.mem_cons_of_mem _ h), hE, fun q h => Or.inr h⟩ hin hI hP hD (lv_entry av hl) ?_ va_S.rf
  intro H locs pc ls cells slots hc hs9 hB hS hd
  exact W_more hc hs9 (W.vret B0.exec B0.bytes B0.returns (fun t ht hW => ⟨⟨(), rfl, trivial, by dsimp only; rw [ht]; exact hB⟩, hS.F ht⟩) hS.2.2 hd)
section MAKE
variable {l : Launch} {g : Glob} {own : String} {cc : ByteArray} {nL : Nat} {A : Nat → Prop} {p : Program} {e : Env} {s : State} {m : MethodId} {args : Array Value} {below : List Frame} {meth : Method} {c : Code} {R : Room} {H : Heap} {locs : List Loc} {cells slots : Nat} {Q : State → Prop} {pc : Nat} {ls : Array Slot} {rest : List Value} {ws : va_W}
theorem ra_prim {U : State} {c1 c2 : ClassId} {ty : FieldType} (h1 : va_RA U c1 ty) (h2 : va_RA U c2 ty) : c1 = c2 := by
  cases ty with
  | object C =>
    obtain ⟨_, _, -, -, -, a⟩ := h1
    obtain ⟨_, _, -, -, -, b⟩ := h2
    exact Option.some.inj (a.symm.trans b)
  | _ => exact Option.some.inj (Eq.trans (Eq.symm h1) h2)
/-- an array of ints, longs or booleans is made: its class is the one that is known -/
theorem newA (C : Cx g own cc nL A p s m args c) {atype : ArrayType} (harr : Cond.arrayClass (newarray.typeOf atype) ∈ W0) (t0 : Nat) (ht : (tysG g)[t0]? = some (g.2.1 t0, newarray.typeOf atype)) (hP : va_P g.1 classes ws H) (hD : va_D A ws) (hS : va_S A s.heap H locs)
    {n : Int32} {N' : Nat} {a0 : vp_A} (ha : ∀ cA : ClassId, vp_cell cA a0 = arrV cA N' (fun _ => defaultValue (newarray.typeOf atype))) (hn : ¬ n < 0) (hN : n.toNatClampNeg = N') (hbytes : N' * componentBytes (newarray.typeOf atype) ≤ 536870912) (hcells : cells + 1 ≤ R.cells) (hslots : slots + N' ≤ R.slots) (hdg : decode cc pc = .ok (.newarray atype, 2))
    (kk : ∀ (q : Nat) (H1 : Heap), va_P g.1 classes (ws ++ [(q, .inl (g.2.1 t0, a0))]) H1 → va_D A (ws ++ [(q, .inl (g.2.1 t0, a0))]) → va_S A s.heap H1 locs → W p l e R s m args below meth c H1 locs (cells + 1) (slots + N') Q (F0 m (pc + 2) ls (.ref q :: rest))) : W p l e R s m args below meth c H locs cells slots Q (F0 m pc ls (.int n :: rest)) := by
  obtain ⟨hx, hb, hml, hown, hw, hE, hA⟩ := C
  refine va_newa hx hb (hw _ harr) rfl hE.1 hP hD hS hA ha hn hN hbytes hcells hslots hdg (fun q cA H1 hK1 hP1 hD1 hS1 => ?_)
  have e1 : cA = g.2.1 t0 := by
    have h1 := (hK1.2 (tysG g).length (cA, newarray.typeOf atype) (by simp)).2
    have h2 := (hE.1.2 t0 _ ht).2
    exact ra_prim h1 h2
  subst e1
  exact kk q H1 hP1 hD1 hS1
/-- an array of references is made -/
theorem newQ (C : Cx g own cc nL A p s m args c) {E : String} {idx : Nat} (hcl : Cond.classLink own idx E ∈ W0) (hover : va_AO E s) (t0 : Nat) (ht : (tysG g)[t0]? = some (g.2.1 t0, .object E)) (hP : va_P g.1 classes ws H) (hD : va_D A ws) (hS : va_S A s.heap H locs)
    {n : Int32} {N' : Nat} (hn : ¬ n < 0) (hN : n.toNatClampNeg = N') (hbytes : N' * 4 ≤ 536870912) (hcells : cells + 1 ≤ R.cells) (hslots : slots + N' ≤ R.slots) (hdg : decode cc pc = .ok (.anewarray idx, 3))
    (kk : ∀ (q : Nat) (H1 : Heap), va_P g.1 classes (ws ++ [(q, .inl (g.2.1 t0, N', .inr (.inr (.inr (.inr (fun _ => none))))))]) H1 → va_D A (ws ++ [(q, .inl (g.2.1 t0, N', .inr (.inr (.inr (.inr (fun _ => none))))))]) → va_S A s.heap H1 locs → W p l e R s m args below meth c H1 locs (cells + 1) (slots + N') Q (F0 m (pc + 3) ls (.ref q :: rest))) : W p l e R s m args below meth c H locs cells slots Q (F0 m pc ls (.int n :: rest)) := by
  obtain ⟨hx, hb, hml, hown, hw, hE, hA⟩ := C
  refine va_newq hx hb hown (hw _ hcl) hover hE.1 hP hD hS hA hn hN hbytes hcells hslots hdg (fun q cA H1 hK1 hP1 hD1 hS1 => ?_)
  have e1 : cA = g.2.1 t0 := by
    have h1 := (hK1.2 (tysG g).length (cA, .object E) (by simp)).2
    have h2 := (hE.1.2 t0 _ ht).2
    exact ra_prim h1 h2
  subst e1
  exact kk q H1 hP1 hD1 hS1
variable {y : MethodName} {cb : ByteArray} {mL : Nat} {f k mc ms : Nat} {b : Nat} {wc : va_W} {idx n : Nat} {st0 : List Value} {B : (Nat → Prop) → Heap → Prop}
/-- what a constructor's call names -/
def NA (y : MethodName) (cb : ByteArray) (mL n : Nat) : Prop := Cond.instanceMethod y ∈ W0 ∧ Cond.initialized y.cls ∈ W0 ∧ Cond.code y cb mL none ∈ W0 ∧ y.name = "<init>" ∧ (y.cls ≠ "java/lang/invoke/MethodHandle" ∧ y.cls ≠ "java/lang/invoke/VarHandle" ∧ (parseMethodDescriptor y.desc).map (fun d => d.parameters.length) = some n)
theorem NA.good (h : NA y cb mL n) : GoodIn W0 (Cond.code y cb mL none :: W0) := W0_goodL (all_cons h.2.2.1 (fun _ q => q))
theorem ciJoin (C : Cx g own cc nL A p s m args c) (hP : va_P g.1 classes ws H) (hD : va_D A ws) (hS : va_S A s.heap H locs) (isC isR : List Nat) (wr : va_W) (hC : isC.map (fun i => ws[i]?) = wc.map some) (hRr : isR.map (fun i => ws[i]?) = wr.map some) (hn : va_nd isC = true) (hnR : va_nd isR = true) (hdis : ∀ i ∈ isR, i ∉ isC)
    (hrun : va_Run p l e R s m args below meth c H locs cells slots mc ms (F0 m pc ls st0) rest (va_Qv (S := Unit) (fun _ => True) (fun _ t => B (va_A wc H.size) t.heap) (va_A wc H.size) args) (va_A wc H.size))
    (kk : ∀ (H1 : Heap) (locs1 : List Loc), B (va_A wc H.size) H1 → (∀ wn : va_W, va_P g.1 classes wn H1 → va_D (va_A wc H.size) wn → va_P g.1 classes (wr ++ wn) H1 ∧ va_D A (wr ++ wn)) → va_S A s.heap H1 locs1 → W p l e R s m args below meth c H1 locs1 (cells + mc) (slots + ms) Q (F0 m (pc + 3) ls rest)) : W p l e R s m args below meth c H locs cells slots Q (F0 m pc ls st0) := by
  have hFc := va_free (wc := wc) hD hS C.2.2.2.2.2.2 isC hC
  refine va_callv hrun hS (fun q _ h => hFc q h) hFc (fun u t H1 locs1 ht hvm hw1 hB hz1 hk1 hS1 => ?_)
  rw [ht] at hB
  exact kk H1 locs1 hB (fun wn h1 h2 => va_join (wr := wr) (w1 := wn) hP hD isC isR hC hRr hnR hdis hk1 hFc h1 h2) hS1
theorem ciN (C : Cx g own cc nL A p s m args c) (hI : EI s) {host : String} (hl : va_Nw (.methodLinkNest own idx y host) s) (hv : NA y cb mL n) (As rest : List Value) (hM : CK l g y cb mL f k mc ms (.ref b :: As) wc B) (hP : va_P g.1 classes ws H) (hD : va_D A ws) (hS : va_S A s.heap H locs)
    (isC isR : List Nat) (wr : va_W) (hC : isC.map (fun i => ws[i]?) = wc.map some) (hRr : isR.map (fun i => ws[i]?) = wr.map some) (hn : va_nd isC = true) (hnR : va_nd isR = true) (hdis : ∀ i ∈ isR, i ∉ isC)
    (hst : st0 = As.reverse ++ .ref b :: rest) (hlen : As.length = n) (hsz : ls.size = nL) (hcat : (rest.map fun v => v.category).sum ≤ 8) (hR : f + 1 ≤ R.frames ∧ 8 + (mL + 11) + k ≤ R.locals)
    (hdg : decode cc pc = .ok (.invokespecial idx, 3)) (hf : cells + mc ≤ R.cells ∧ slots + ms ≤ R.slots)
    (kk : ∀ (H1 : Heap) (locs1 : List Loc), B (va_A wc H.size) H1 → (∀ wn : va_W, va_P g.1 classes wn H1 → va_D (va_A wc H.size) wn → va_P g.1 classes (wr ++ wn) H1 ∧ va_D A (wr ++ wn)) → va_S A s.heap H1 locs1 → W p l e R s m args below meth c H1 locs1 (cells + mc) (slots + ms) Q (F0 m (pc + 3) ls rest)) : W p l e R s m args below meth c H locs cells slots Q (F0 m pc ls st0) := by
  have C0 := C
  obtain ⟨hx, hb, hml, hown, hw, hE, hA⟩ := C
  have hFc := va_free (wc := wc) hD hS hA isC hC
  have hPc : va_P g.1 classes wc H := hP.sub isC (mapSub hC)
  have hDc : va_D A wc := hD.sub isC hn hC
  subst hst
  exact ciJoin C0 hP hD hS isC isR wr hC hRr hn hnR hdis (va_runIN (As := As) (rest := rest) ⟨hx, hb, hml, hown, hw⟩ (hM H.size) ⟨va_cnB n hw hv.good rfl rfl rfl hl (hw _ hv.2.1) hv.2.2.2.2 hR, hv.2.2.2.1, hw _ hv.1⟩ ⟨CWI_blind, fun U hU hW => ⟨rfl, ⟨by rw [hU], by rw [hU]; exact hPc, hDc.weaken (fun _ _ _ _ => trivial), by rw [hU]; exact hE.to hS hW hFc⟩, hI.warm hW⟩⟩ rfl hlen hsz rfl (lv_room hcat) hdg hf) kk
theorem ciC (C : Cx g own cc nL A p s m args c) (hI : EI s) (hl : Cond.methodLink own idx y ∈ W0) (hv : NA y cb mL n) (As rest : List Value) (hM : CK l g y cb mL f k mc ms (.ref b :: As) wc B) (hP : va_P g.1 classes ws H) (hD : va_D A ws) (hS : va_S A s.heap H locs)
    (isC isR : List Nat) (wr : va_W) (hC : isC.map (fun i => ws[i]?) = wc.map some) (hRr : isR.map (fun i => ws[i]?) = wr.map some) (hn : va_nd isC = true) (hnR : va_nd isR = true) (hdis : ∀ i ∈ isR, i ∉ isC)
    (hst : st0 = As.reverse ++ .ref b :: rest) (hlen : As.length = n) (hsz : ls.size = nL) (hcat : (rest.map fun v => v.category).sum ≤ 8) (hR : f + 1 ≤ R.frames ∧ 8 + (mL + 11) + k ≤ R.locals)
    (hdg : decode cc pc = .ok (.invokespecial idx, 3)) (hf : cells + mc ≤ R.cells ∧ slots + ms ≤ R.slots)
    (kk : ∀ (H1 : Heap) (locs1 : List Loc), B (va_A wc H.size) H1 → (∀ wn : va_W, va_P g.1 classes wn H1 → va_D (va_A wc H.size) wn → va_P g.1 classes (wr ++ wn) H1 ∧ va_D A (wr ++ wn)) → va_S A s.heap H1 locs1 → W p l e R s m args below meth c H1 locs1 (cells + mc) (slots + ms) Q (F0 m (pc + 3) ls rest)) : W p l e R s m args below meth c H locs cells slots Q (F0 m pc ls st0) := by
  have C0 := C
  obtain ⟨hx, hb, hml, hown, hw, hE, hA⟩ := C
  have hFc := va_free (wc := wc) hD hS hA isC hC
  have hPc : va_P g.1 classes wc H := hP.sub isC (mapSub hC)
  have hDc : va_D A wc := hD.sub isC hn hC
  subst hst
  exact ciJoin C0 hP hD hS isC isR wr hC hRr hn hnR hdis (va_runI (As := As) (rest := rest) ⟨hx, hb, hml, hown, hw⟩ (hM H.size) (cwI n hw hv.good rfl rfl rfl (hw _ hv.2.1) (hw _ hl) (hw _ hv.1) hv.2.2.2.1 hv.2.2.2.2 hR) ⟨CWI_blind, fun U hU hW => ⟨rfl, ⟨by rw [hU], by rw [hU]; exact hPc, hDc.weaken (fun _ _ _ _ => trivial), by rw [hU]; exact hE.to hS hW hFc⟩, hI.warm hW⟩⟩ rfl hlen hsz rfl (lv_room hcat) hdg hf) kk
end MAKE
theorem up3 {a b d : Nat} : va_up (va_up (va_up (fun _ => (none : Option Nat)) 0 (some a)) 1 (some b)) 2 (some d) = fun j => [a, b, d][j]? := by
  funext j
  match j with
  | 0 => rfl
  | 1 => rfl
  | 2 => rfl
  | n + 3 => rfl
theorem up4 {a b d e : Nat} : va_up (va_up (va_up (va_up (fun _ => (none : Option Nat)) 0 (some a)) 1 (some b)) 2 (some d)) 3 (some e) = fun j => [a, b, d, e][j]? := by
  funext j
  match j with
  | 0 => rfl
  | 1 => rfl
  | 2 => rfl
  | 3 => rfl
  | n + 4 => rfl
