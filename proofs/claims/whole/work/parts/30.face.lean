/-! the class's own world: the setting, the live run, the trial run, the four plans -/
abbrev PLS : Type := Nat → PLN
def mp (L : List Nat) (ad : Nat → Nat) (i : Nat) : Nat := ad (L.getD i 0)
def lvL : List Nat := [8, 1, 2, 3, 4, 5, 9, 10, 11, 12, 13, 14, 6, 7]
def trL (p : Nat) : List Nat := [15, 1, 2, 3, 4, 5, 16, 17, 18, 19, 20, 21, 6, 7, 23 + 4 * p, 24 + 4 * p, 25 + 4 * p, 26 + 4 * p]
def upQ (q : PLS) (p : Nat) (v : PLN) : PLS := fun j => if j = p then v else q j
def wPl (g : Glob) (a0 a1 a2 a3 : Nat) (q : PLN) : va_W := [qPlan a0 a1 a2 a3 q, qInts a1 (g.2.1 0) 6 q.1, qInts a2 (g.2.1 0) 6 q.2.1, (a3, .inl (g.2.1 2, 6, .inl q.2.2.1))]
def wS (g : Glob) (ad : Nat → Nat) (k : CFG) (x y : RS) (q : PLS) : va_W := [
  (ad 0, .inr (0, [.ref (ad 1), .ref (ad 8), .ref (ad 15), .ref (ad 22)])),
  (ad 1, .inr (5, [.ref (ad 2), .ref (ad 6), .ref (ad 7), .int (k.2.1 0), .int (k.2.1 1), .int (k.2.1 2), .int (k.2.1 3), .int (k.2.1 4), .int (k.2.1 5)])),
  qRefs (ad 2) (g.2.1 3) 3 [ad 3, ad 4, ad 5], qShape (ad 3) k.1 0, qShape (ad 4) k.1 1, qShape (ad 5) k.1 2,
  qInts (ad 6) (g.2.1 0) 20 k.2.2.1, qInts (ad 7) (g.2.1 0) 20 k.2.2.2,
  (ad 8, .inr (4, [.ref (ad 9), .ref (ad 13), .int (x.2.1 0), .int (x.2.1 1), .int (x.2.1 2), .int (x.2.1 3), .int (x.2.1 4), .ref (ad 1)])), qRefs (ad 9) (g.2.1 4) 3 [ad 10, ad 11, ad 12], qPose (ad 10) x.1 0, qPose (ad 11) x.1 1, qPose (ad 12) x.1 2, (ad 13, .inr (1, [.ref (ad 14), .int x.2.2.1])), qLongs (ad 14) (g.2.1 1) 64 x.2.2.2,
  (ad 15, .inr (4, [.ref (ad 16), .ref (ad 20), .int (y.2.1 0), .int (y.2.1 1), .int (y.2.1 2), .int (y.2.1 3), .int (y.2.1 4), .ref (ad 1)])), qRefs (ad 16) (g.2.1 4) 3 [ad 17, ad 18, ad 19], qPose (ad 17) y.1 0, qPose (ad 18) y.1 1, qPose (ad 19) y.1 2, (ad 20, .inr (1, [.ref (ad 21), .int y.2.2.1])), qLongs (ad 21) (g.2.1 1) 64 y.2.2.2,
  qRefs (ad 22) (g.2.1 5) 4 [ad 23, ad 27, ad 31, ad 35],
  qPlan (ad 23) (ad 24) (ad 25) (ad 26) (q 0), qInts (ad 24) (g.2.1 0) 6 (q 0).1, qInts (ad 25) (g.2.1 0) 6 (q 0).2.1, (ad 26, .inl (g.2.1 2, 6, .inl (q 0).2.2.1)), qPlan (ad 27) (ad 28) (ad 29) (ad 30) (q 1), qInts (ad 28) (g.2.1 0) 6 (q 1).1, qInts (ad 29) (g.2.1 0) 6 (q 1).2.1, (ad 30, .inl (g.2.1 2, 6, .inl (q 1).2.2.1)), qPlan (ad 31) (ad 32) (ad 33) (ad 34) (q 2), qInts (ad 32) (g.2.1 0) 6 (q 2).1, qInts (ad 33) (g.2.1 0) 6 (q 2).2.1, (ad 34, .inl (g.2.1 2, 6, .inl (q 2).2.2.1)), qPlan (ad 35) (ad 36) (ad 37) (ad 38) (q 3), qInts (ad 36) (g.2.1 0) 6 (q 3).1, qInts (ad 37) (g.2.1 0) 6 (q 3).2.1, (ad 38, .inl (g.2.1 2, 6, .inl (q 3).2.2.1))]
def addP (v : PLN) (n : Nat) (t sp fw : Int32) : PLN := (upd v.1 n t, upd v.2.1 n sp, upd v.2.2.1 n fw, nI n + 1)
def clrP (v : PLN) : PLN := (v.1, v.2.1, v.2.2.1, 0)
def shF (s : St2) (b : Nat) (p0 p1 p2 p3 p4 : Int32) : St2 := u2 (u2 (u2 (u2 (u2 s 0 b p0) 1 b p1) 2 b p2) 3 b p3) 4 b p4
def bodyK (k : CFG) (n : Nat) (p0 p1 p2 p3 p4 : Int32) : CFG := (shF k.1 n p0 p1 p2 p3 p4, upd k.2.1 0 (nI n + 1), k.2.2.1, k.2.2.2)
def startK (k : CFG) (p0 p1 p2 : Int32) : CFG := (k.1, upd (upd (upd k.2.1 2 p0) 3 p1) 4 p2, k.2.2.1, k.2.2.2)
def stepK (k : CFG) (p0 : Int32) : CFG := (k.1, upd k.2.1 5 p0, k.2.2.1, k.2.2.2)
def poleK (k : CFG) (np : Nat) (p0 p1 : Int32) : CFG := (k.1, upd k.2.1 1 (nI np + 1), upd k.2.2.1 np (p0 * 4096), upd k.2.2.2 np (p1 * 4096))
def toldF (x : RS) (b : Nat) (w : Int32) : Int32 := if w = 0 then x.1 0 b else if w = 1 then x.1 1 b else if w = 2 then x.1 2 b else if w = 3 then askF x.1 b else x.1 4 b
def clashF (x : RS) (w : Int32) : Int32 := if w = 0 then x.2.1 2 else if w = 1 then x.2.1 3 else x.2.1 4
def alF (k : CFG) (b : Nat) (w : Int32) : Int32 := if 1 < w then -(k.1 3 b) else k.1 2 b
def acF (k : CFG) (b : Nat) (w : Int32) : Int32 := if w = 0 then k.1 4 b else if w = 3 then k.1 4 b else -(k.1 4 b)
def cornerF (k : CFG) (x : RS) (b : Nat) (w ax : Int32) : Int32 := if ax = 0 then x.1 0 b + alF k b w * dX (x.1 2 b) - acF k b w * dY (x.1 2 b) else x.1 1 b + alF k b w * dY (x.1 2 b) + acF k b w * dX (x.1 2 b)
abbrev BF : Type := Int32 × Int32 × RS
def bstF (k : CFG) (n np : Nat) (q : PLS) (mm : Nat → Nat) (p : Nat) (z : BF) : BF :=
  if faultI (followF k n np (q p) (mm p) z.2.2) = 0 then (z.1, z.2.1, followF k n np (q p) (mm p) z.2.2) else (if z.1 = -1 then (nI p, (followF k n np (q p) (mm p) z.2.2).2.2.1, followF k n np (q p) (mm p) z.2.2) else (if z.2.1 ≤ (followF k n np (q p) (mm p) z.2.2).2.2.1 then (z.1, z.2.1, followF k n np (q p) (mm p) z.2.2) else (nI p, (followF k n np (q p) (mm p) z.2.2).2.2.1, followF k n np (q p) (mm p) z.2.2)))
def bestF (k : CFG) (n np : Nat) (q : PLS) (mm : Nat → Nat) (y : RS) : BF := itF (bstF k n np q mm) 4 0 (-1, 0, y)
theorem inI_lt {a b d : Int32} (h : inI a b d = 1) : ¬ a < b := by
  intro q
  rw [inI, if_pos q] at h
  exact absurd h (by decide)
theorem inI_le {a b d : Int32} (h : inI a b d = 1) : a ≤ d := by
  rw [inI, if_neg (inI_lt h)] at h
  split at h
  · exact absurd h (by decide)
  · next q => exact i32_le.mpr (by rw [i32_lt] at q; omega)
theorem inI_bad {a b d : Int32} (h : ¬ inI a b d = 1) (h1 : ¬ a < b) : ¬ a ≤ d := by
  intro q
  apply h
  rw [inI, if_neg h1, if_neg]
  rw [i32_lt]
  rw [i32_le] at q
  omega
theorem lt4 {P : Nat → Prop} (h0 : P 0) (h1 : P 1) (h2 : P 2) (h3 : P 3) {i : Nat} (h : i < 4) : P i := by
  match i, h with
  | 0, _ => exact h0
  | 1, _ => exact h1
  | 2, _ => exact h2
  | 3, _ => exact h3
/-- a method that answers r0 and writes nothing -/
def CR (l : Launch) (g : Glob) (y : MethodName) (cc : ByteArray) (n : Nat) (rt : Option FieldType) (f k : Nat) (av : List Value) (ws : va_W) (r0 : Int32) : Prop :=
  ∀ sz : Nat, Met l y (.code y cc n rt :: W0) { frames := f, cells := 0, slots := 0, locals := k } (va_Pc av (CW g ws sz)) (va_Qi (S := Unit) (fun r _ => r = r0) (fun _ _ => True) (va_A [] sz)) 0 0 (va_A [] sz)
theorem CR.of {l : Launch} {g : Glob} {y : MethodName} {cc : ByteArray} {n : Nat} {rt : Option FieldType} {f k : Nat} {av : List Value} {ws : va_W} {r0 : Int32} (ty : FieldType) (hrt : rt = some ty) (hn : narrow ty (.int r0) = .int r0) (hy : plainFor y = true) (hl : (lg_sl av).length ≤ n)
    (body : ∀ (p : Program) (e : Env) (s : State) (m : MethodId) (below : List Frame) (meth : Method) (c : Code) (A : Nat → Prop) (Q : State → Prop) (ls : Array Slot), Cx g y.cls cc n A p s m av.toArray c → va_P g.1 classes ws s.heap → lv_has ls n (lv_args 0 av) →
      (∀ (v : Int32) (H : Heap) (locs : List Loc) (pc : Nat) (ls : Array Slot), v = r0 → va_S A s.heap H locs → decode cc pc = .ok (.ireturn, 1) → W p l e { frames := f, cells := 0, slots := 0, locals := k } s m av.toArray below meth c H locs 0 0 Q (F0 m pc ls [.int v])) →
      va_S A s.heap s.heap [] → W p l e { frames := f, cells := 0, slots := 0, locals := k } s m av.toArray below meth c s.heap [] 0 0 Q (F0 m 0 ls [])) : CR l g y cc n rt f k av ws r0 := by
  intro sz
  refine va_MetF (cc := cc) (maxL := n) (ret := rt) hy rfl ?_
  intro p e s m args below meth c s₁ B hml hv
  obtain ⟨rfl, hsz, hP, hD0, hE⟩ := hv
  have hts := atoms_spec (ws := .code y cc n rt :: W0) B.pre
  have hown : s.vm.findClass y.cls = some m.cls := findClass_of_methodNamed B.named
  have hlocks := B.notSynchronized
  subst hsz
  rw [lg_entry_eq]
  have hnar : ∀ q, va_A [] s.heap.size q → va_A ws s.heap.size q := fun q h => by
    rcases h with ⟨k2, e2, h⟩ | h
    · simp at h
    · exact Or.inr h
  have hE2 : EV g (va_A [] s.heap.size) s s.heap := ⟨hE.1, hE.2.1.narrow hnar, hE.2.2.1.narrow hnar, hE.2.2.2.1.narrow hnar, hE.2.2.2.2.1.narrow hnar, hE.2.2.2.2.2⟩
  refine body p e s m below meth c (va_A [] s.heap.size) _ _ ⟨B.exec, B.bytes, hml, hown, fun w h => hts w (List.mem_cons_of_mem _ h), hE2, fun q h => Or.inr h⟩ hP (lv_entry av hl) ?_ va_S.rf
  intro v H locs pc ls hv9 hS hd
  subst hv9
  exact W.zret B.exec B.bytes (B.returns.trans hrt) hn (fun t ht hW => ⟨⟨_, (), rfl, rfl, trivial⟩, hS.F ht⟩) hS.2.2 hd
section RCALL
variable {l : Launch} {g : Glob} {own : String} {cc : ByteArray} {nL : Nat} {A : Nat → Prop} {p : Program} {e : Env} {s : State} {m : MethodId} {args : Array Value} {below : List Frame} {meth : Method} {c : Code} {R : Room} {H : Heap} {T : State} {locs : List Loc} {cells slots : Nat} {Q : State → Prop} {pc : Nat} {ls : Array Slot}
  {y : MethodName} {cb : ByteArray} {mL : Nat} {rt : Option FieldType} {f k : Nat} {b : Nat} {wc ws : va_W} {idx n : Nat} {st0 : List Value} {r0 : Int32}
/-- invokevirtual of such a method, on a road that will throw -/
theorem cvR0 (C : Cx g own cc nL A p s m args c) (hv : VA own idx y cb mL rt n) (As rest : List Value) (hM : CR l g y cb mL rt f k (.ref b :: As) wc r0) (hP : va_P g.1 classes ws H) (hD : va_D A ws) (hH : ∀ x : Nat, x < s.heap.size → H[x]? = s.heap[x]?) (hHs : s.heap.size ≤ H.size) (isC : List Nat) (hC : isC.map (fun i => ws[i]?) = wc.map some) (hn : va_nd isC = true)
    (q0 : Nat) {ci : Nat} {fs : List Value} {T0 : u_T} {N : Nat} (hq : wc[q0]? = some (b, .inr (ci, fs))) (hcl : classes[ci]? = some (y.cls, T0, N)) (hst : st0 = As.reverse ++ .ref b :: rest) (hlen : As.length = n) (hsz : ls.size = nL) (hcat : (rest.map fun v => v.category).sum ≤ 8) (hR : f + 1 ≤ R.frames ∧ 8 + (mL + 11) + k ≤ R.locals)
    (hdg : decode cc pc = .ok (.invokevirtual idx, 3)) (hf : cells + 0 ≤ R.cells ∧ slots + 0 ≤ R.slots)
    (kk : ∀ (H : Heap), va_P g.1 classes ws H → (∀ x : Nat, x < s.heap.size → H[x]? = s.heap[x]?) → s.heap.size ≤ H.size → W p l e R s m args below meth c H [] cells slots Q (F0 m (pc + 3) ls (.int r0 :: rest))) : W p l e R s m args below meth c H [] cells slots Q (F0 m pc ls st0) := by
  obtain ⟨hx, hb, hml, hown, hw, hE, hA⟩ := C
  have hS : va_S A s.heap H [] := S_old hH hHs
  have hFc := va_free (wc := wc) hD hS hA isC hC
  have hPc : va_P g.1 classes wc H := hP.sub isC (mapSub hC)
  have hDc : va_D A wc := hD.sub isC hn hC
  subst hst
  have hrun := va_runV (p := p) (l := l) (e := e) (R := R) (s := s) (m := m) (args := args) (below := below) (meth := meth) (c := c) (H := H) (locs := []) (cells := cells) (slots := slots) (g := F0 m pc ls (As.reverse ++ .ref b :: rest)) (As := As) (rest := rest) ⟨hx, hb, hml, hown, hw⟩ (hM H.size) (cwV n hw hv.good rfl rfl rfl ⟨rfl, hv.2.2.2.2.2⟩ hR) ⟨CW_blind, va_recv hE.1 hPc hcl hq, fun U hU hW => ⟨rfl, by rw [hU], by rw [hU]; exact hPc, hDc.weaken (fun _ _ _ _ => trivial), by rw [hU]; exact hE.to hS hW hFc⟩⟩ rfl hlen hsz rfl (lv_room hcat) hdg hf
  intro T hT X
  obtain ⟨v, st1, t, T', L, e0, X', hL, e1, e2, hQ, hgo⟩ := hrun T hT X
  obtain ⟨⟨r, u, hv1, hr, -⟩, hF⟩ := hQ
  cases hv1
  subst hr
  have hnA : ∀ x : Nat, x < H.size → ¬ va_A [] H.size x := fun x hx h => by
    rcases h with ⟨k2, e2, h⟩ | h
    · simp at h
    · omega
  have hk1 : ∀ x : Nat, x < H.size → T'.heap[x]? = H[x]? := fun x hx => by
    rw [e1, ← e0]
    exact hF.2 x (by rw [e0]; exact hx) (hnA x hx)
  have hsz1 : H.size ≤ T'.heap.size := by rw [e1, ← e0]; exact hF.1
  have X2 : Stand p l e R s m args below meth c T' [] cells slots := Stand.forget (locs := []) X' (fun z hz => by
    rcases hL z hz with ⟨k2, e2, h⟩ | h
    · simp at h
    · exact Nat.le_trans hHs h)
  obtain ⟨t2, a2, b2⟩ := kk T'.heap (P_free hP (fun q hq _ => hk1 q hq)) (fun x hx => (hk1 x (by omega)).trans (hH x hx)) (Nat.le_trans hHs hsz1) T' rfl X2
  exact ⟨t2, hgo _ a2, b2⟩
end RCALL
theorem startK_lo {k : CFG} {p0 p1 p2 : Int32} {i : Nat} (h : i < 2) : (startK k p0 p1 p2).2.1 i = k.2.1 i := by
  unfold startK
  dsimp only
  rw [pk_un (by omega), pk_un (by omega), pk_un (by omega)]
theorem stepK_lo {k : CFG} {p0 : Int32} {i : Nat} (h : i < 5) : (stepK k p0).2.1 i = k.2.1 i := by
  unfold stepK
  dsimp only
  rw [pk_un (by omega)]
theorem bodyK_lo {k : CFG} {n : Nat} {p0 p1 p2 p3 p4 : Int32} {i : Nat} (h : ¬ i = 0) : (bodyK k n p0 p1 p2 p3 p4).2.1 i = k.2.1 i := by
  unfold bodyK
  dsimp only
  rw [pk_un h]
theorem bodyK_0 {k : CFG} {n : Nat} {p0 p1 p2 p3 p4 : Int32} : (bodyK k n p0 p1 p2 p3 p4).2.1 0 = nI (n + 1) := by
  unfold bodyK
  dsimp only
  rw [pk_us, nI_1]

set_option maxHeartbeats 4000000 in
set_option maxRecDepth 100000 in
theorem c_SP_demandWithin (l : Launch) (g : Glob) (a1 b1 d1 : Int32) (v : inI a1 b1 d1 = 1) : CV l g y_SP_demandWithin b_SP_demandWithin 3 7 140 [.int a1, .int b1, .int d1] ([]) ([]) := by
  refine CV.of (by decide +kernel) (Nat.le_of_ble_eq_true rfl) ?_
  intro p e s m below meth c A Q ls C hP hD hl hret hS
  obtain ⟨hx, hb, hml, hown, hw, hE, hA⟩ := id C
  have hl : lv_has ls 3 [(0, .int a1), (1, .int b1), (2, .int d1)] := hl
  refine lv_iload_n hx hb d_SP_demandWithin_0 rfl (lv_at hl 0 rfl) ?_
  refine lv_iload_n hx hb d_SP_demandWithin_1 rfl (lv_at hl 1 rfl) ?_
  refine lv_icmp_lt (tgt := 10) hx hb d_SP_demandWithin_2 (by decide) (fun c2_1 => ?_) (fun c2_1 => ?_)
  · exact absurd c2_1 (inI_lt v)
  refine lv_iload_n hx hb d_SP_demandWithin_5 rfl (lv_at hl 0 rfl) ?_
  refine lv_iload_n hx hb d_SP_demandWithin_6 rfl (lv_at hl 2 rfl) ?_
  refine lv_icmp_le (tgt := 20) hx hb d_SP_demandWithin_7 (by decide) (fun c7_2 => ?_) (fun c7_2 => ?_)
  rotate_left
  · exact absurd (inI_le v) c7_2
  exact hret _ _ _ _ _ rfl hP hD hS d_SP_demandWithin_20
set_option maxHeartbeats 4000000 in
set_option maxRecDepth 100000 in
theorem c_SP_demandWithin_x (l : Launch) (g : Glob) (hfl : l.flags = pinnedFlags ++ [noTraceFlag]) (a1 b1 d1 : Int32) (v : ¬ inI a1 b1 d1 = 1) : CX l g y_SP_demandWithin b_SP_demandWithin 3 (Option.none : Option Jvm.ClassFile.FieldType) 7 140 [.int a1, .int b1, .int d1] ([]) R_IA := by
  refine CX.of (by decide +kernel) (Nat.le_of_ble_eq_true rfl) ?_
  intro p e s m below meth c A ls C htab hlocks hP hD hl hS
  obtain ⟨hx, hb, hml, hown, hw, hE, hA⟩ := id C
  have hH : ∀ x : Nat, x < s.heap.size → s.heap[x]? = s.heap[x]? := fun _ _ => rfl
  have hHs : s.heap.size ≤ s.heap.size := Nat.le_refl _
  have hl : lv_has ls 3 [(0, .int a1), (1, .int b1), (2, .int d1)] := hl
  refine lv_iload_n hx hb d_SP_demandWithin_0 rfl (lv_at hl 0 rfl) ?_
  refine lv_iload_n hx hb d_SP_demandWithin_1 rfl (lv_at hl 1 rfl) ?_
  refine lv_icmp_lt (tgt := 10) hx hb d_SP_demandWithin_2 (by decide) (fun c2_1 => ?_) (fun c2_1 => ?_)
  · exact thr_new C htab hlocks hfl (own_all hw hE own_IA own_IAc) (by decide +kernel) q_247 q_248 q_12 hE.2.2.2.2.2.2.2.2.2.2.2.2.2.2.1 hH hHs hl.1 (Nat.le_of_ble_eq_true rfl) (Nat.le_of_ble_eq_true rfl) (Nat.le_refl _) (Nat.le_refl _) d_SP_demandWithin_10 d_SP_demandWithin_13 d_SP_demandWithin_14 d_SP_demandWithin_16 d_SP_demandWithin_19
  · refine lv_iload_n hx hb d_SP_demandWithin_5 rfl (lv_at hl 0 rfl) ?_
    refine lv_iload_n hx hb d_SP_demandWithin_6 rfl (lv_at hl 2 rfl) ?_
    refine lv_icmp_le (tgt := 20) hx hb d_SP_demandWithin_7 (by decide) (fun c7_2 => ?_) (fun c7_2 => ?_)
    · exact absurd c7_2 (inI_bad v c2_1)
    · exact thr_new C htab hlocks hfl (own_all hw hE own_IA own_IAc) (by decide +kernel) q_247 q_248 q_12 hE.2.2.2.2.2.2.2.2.2.2.2.2.2.2.1 hH hHs hl.1 (Nat.le_of_ble_eq_true rfl) (Nat.le_of_ble_eq_true rfl) (Nat.le_refl _) (Nat.le_refl _) d_SP_demandWithin_10 d_SP_demandWithin_13 d_SP_demandWithin_14 d_SP_demandWithin_16 d_SP_demandWithin_19
set_option maxHeartbeats 4000000 in
set_option maxRecDepth 100000 in
theorem c_SP_demandSomeBody (l : Launch) (g : Glob) (ad : Nat → Nat) (k : CFG) (x y : RS) (q : PLS) (h0 : ¬ k.2.1 0 = 0) : CV l g y_SP_demandSomeBody b_SP_demandSomeBody 1 7 140 [.ref (ad 0)] (wS g ad k x y q) (wS g ad k x y q) := by
  refine CV.of (by decide +kernel) (Nat.le_of_ble_eq_true rfl) ?_
  intro p e s m below meth c A Q ls C hP hD hl hret hS
  obtain ⟨hx, hb, hml, hown, hw, hE, hA⟩ := id C
  have hl : lv_has ls 1 [(0, .ref (ad 0))] := hl
  refine lv_aload_n hx hb d_SP_demandSomeBody_0 rfl (lv_at hl 0 rfl) ?_
  refine va_get (D := g.1) (ci := 0) (v := .ref (ad 1)) (C := R_SP) (T := F_SP) (N := 4) hx hb hw i_SP hown hE.1 hP 0 rfl rfl 0 (by decide) (hw _ q_214) (fun _ h9 => h9) rfl d_SP_demandSomeBody_1 ?_
  refine va_get (D := g.1) (ci := 5) (v := .int (k.2.1 0)) (C := R_Se) (T := F_Se) (N := 9) hx hb hw i_Se hown hE.1 hP 1 rfl rfl 3 (by decide) (hw _ q_73) (fun _ h9 => h9) rfl d_SP_demandSomeBody_4 ?_
  refine lv_if_ne (tgt := 20) hx hb d_SP_demandSomeBody_7 (by decide) (fun c7_1 => ?_) (fun c7_1 => ?_)
  rotate_left
  · exact absurd c7_1 h0
  exact hret _ _ _ _ _ rfl hP hD hS d_SP_demandSomeBody_20
set_option maxHeartbeats 4000000 in
set_option maxRecDepth 100000 in
theorem c_SP_demandSomeBody_x (l : Launch) (g : Glob) (hfl : l.flags = pinnedFlags ++ [noTraceFlag]) (ad : Nat → Nat) (k : CFG) (x y : RS) (q : PLS) (h0 : k.2.1 0 = 0) : CX l g y_SP_demandSomeBody b_SP_demandSomeBody 1 (Option.none : Option Jvm.ClassFile.FieldType) 7 140 [.ref (ad 0)] (wS g ad k x y q) R_IS := by
  refine CX.of (by decide +kernel) (Nat.le_of_ble_eq_true rfl) ?_
  intro p e s m below meth c A ls C htab hlocks hP hD hl hS
  obtain ⟨hx, hb, hml, hown, hw, hE, hA⟩ := id C
  have hH : ∀ x : Nat, x < s.heap.size → s.heap[x]? = s.heap[x]? := fun _ _ => rfl
  have hHs : s.heap.size ≤ s.heap.size := Nat.le_refl _
  have hl : lv_has ls 1 [(0, .ref (ad 0))] := hl
  refine lv_aload_n hx hb d_SP_demandSomeBody_0 rfl (lv_at hl 0 rfl) ?_
  refine va_get (D := g.1) (ci := 0) (v := .ref (ad 1)) (C := R_SP) (T := F_SP) (N := 4) hx hb hw i_SP hown hE.1 hP 0 rfl rfl 0 (by decide) (hw _ q_214) (fun _ h9 => h9) rfl d_SP_demandSomeBody_1 ?_
  refine va_get (D := g.1) (ci := 5) (v := .int (k.2.1 0)) (C := R_Se) (T := F_Se) (N := 9) hx hb hw i_Se hown hE.1 hP 1 rfl rfl 3 (by decide) (hw _ q_73) (fun _ h9 => h9) rfl d_SP_demandSomeBody_4 ?_
  refine lv_if_ne (tgt := 20) hx hb d_SP_demandSomeBody_7 (by decide) (fun c7_1 => ?_) (fun c7_1 => ?_)
  · exact absurd c7_1 (fun z => z h0)
  exact thr_new C htab hlocks hfl (own_all hw hE own_IS own_ISc) (by decide +kernel) q_314 q_315 q_13 hE.2.2.2.2.2.2.2.2.2.2.2.2.2.2.2 hH hHs hl.1 (Nat.le_of_ble_eq_true rfl) (Nat.le_of_ble_eq_true rfl) (Nat.le_refl _) (Nat.le_refl _) d_SP_demandSomeBody_10 d_SP_demandSomeBody_13 d_SP_demandSomeBody_14 d_SP_demandSomeBody_16 d_SP_demandSomeBody_19
