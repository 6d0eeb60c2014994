/-! the law from its entry -/
theorem ZS.of {n d : String} {A : Nat → Prop} {s : State} {args : Array Value} (hl : (Cond.laysStatic "java/lang/Throwable" n d).before args s = true) (hr : (Cond.isRef (.static "java/lang/Throwable" n d)).before args s = true) (hA : ∀ a : Nat, a < s.heap.size → ¬ A a) : ZS n d A s s.heap := by
  obtain ⟨c, k, i, f, a, cell, hc, hi, hst, ha, hcell, hs, hcls, hlt, hty⟩ := Cond.laysStatic_spec hl
  cases hv : (Term.static "java/lang/Throwable" n d).eval args s none [] s with
  | none => simp [Cond.before, Cond.holds, Cond.value, hv] at hr
  | some w =>
    obtain ⟨-, a', cell', ha', hcell', -, hslot⟩ := Term.static_spec hi hv
    cases ha.symm.trans ha'
    cases hcell.symm.trans hcell'
    refine ⟨c, i, a, k, f, cell, w, hc, hi, hst, ha, hcell, hs, hcls, hlt, hty, hslot, ?_, hA a (Array.getElem?_eq_some_iff.mp hcell).1⟩
    simp only [Cond.before, Cond.holds, Cond.value, hv] at hr
    cases w with
    | null => rfl
    | ref t => rfl
    | _ => simp at hr
theorem str_of {own tx : String} {k : Nat} {cur : ClassId} {s : State} {args : Array Value} (hcur : s.vm.findClass own = some cur) (h : (Cond.stringRef own k tx).before args s = true) : ∃ a, vk_R own k tx a s := by
  obtain ⟨_, _, _, a, -, -, -, -, -, hev⟩ := Cond.stringRef_spec hcur h
  exact ⟨a, vk_R.of h hev⟩
theorem arr_of {ty : FieldType} {s : State} {args : Array Value} (h : (Cond.arrayClass ty).before args s = true) : ∃ cA, s.vm.findClass ("[" ++ ty.toString) = some cA ∧ ArrOfT s cA ty := by
  obtain ⟨cA, kA, comp, hfind, hk, hkind⟩ := Cond.arrayClass_spec h
  exact ⟨cA, hfind, fun n z => ⟨fun k h => (by cases h), kA, hk, comp, hkind⟩⟩
theorem arrO_of {C : String} {s : State} {args : Array Value} (h : (Cond.arrayOver (.object C)).before args s = true) : ∃ cA, ArrOfT s cA (.object C) ∧ va_RA s cA (.object C) := by
  obtain ⟨comp, cA, kA, h1, -, h3, h4, h5⟩ := Cond.arrayOver_spec h
  exact ⟨cA, fun n z => ⟨fun k h => (by cases h), kA, h3, comp, h4⟩, kA, comp, h3, h4, h1, h5⟩
set_option maxRecDepth 100000 in
theorem dx_in : ∀ j, j < 64 → Cond.eq (.elem (.static "SweptPaths$Directions" "DX" "[I") (.int (Int32.ofNat j))) (.int (dxT j)) ∈ flatC (Jvm.Cond.and given_1 narrow_1) := by decide +kernel

set_option maxHeartbeats 4000000 in
set_option maxRecDepth 100000 in
theorem entry {p : Program} {s : State} {m : MethodId} {meth : Method} {c : Code} {b L : Nat} {xs : Nat → Int32} (C0 : lw_At p s m meth c b L xs) : ∃ g : Glob, Cx g R_law b_La_law 7 (fun q : Nat => s.heap.size ≤ q) p s m #[Value.ref b] c ∧ EI s := by
  obtain ⟨hx, hb, hr, hml, hown, hts, hX, hbl, hlocks, hgv⟩ := C0
  have hw : ∀ w ∈ W0, w.before #[Value.ref b] s = true := fun w h => hts w (W0_in w h)
  have hs := flat_of_before _ hgv
  have hA : ∀ a : Nat, a < s.heap.size → ¬ (fun q : Nat => s.heap.size ≤ q) a := fun a h q => Nat.not_le.mpr h q
  obtain ⟨c0, i0, k0⟩ := u_known (C := R_SP) (T := F_SP) (N := 4) (n := 4) hw i_SP (hw _ q_18)
  obtain ⟨c1, i1, k1⟩ := u_known (C := R_Ce) (T := F_Ce) (N := 2) (n := 2) hw i_Ce (hw _ q_142)
  obtain ⟨c2, i2, k2⟩ := u_known (C := R_Pl) (T := F_Pl) (N := 4) (n := 4) hw i_Pl (hw _ q_190)
  obtain ⟨c3, i3, k3⟩ := u_known (C := R_Po) (T := F_Po) (N := 5) (n := 5) hw i_Po (hw _ q_113)
  obtain ⟨c4, i4, k4⟩ := u_known (C := R_Ru) (T := F_Ru) (N := 8) (n := 8) hw i_Ru (hw _ q_106)
  obtain ⟨c5, i5, k5⟩ := u_known (C := R_Se) (T := F_Se) (N := 9) (n := 9) hw i_Se (hw _ q_26)
  obtain ⟨c6, i6, k6⟩ := u_known (C := R_Sh) (T := F_Sh) (N := 5) (n := 5) hw i_Sh (hw _ q_33)
  obtain ⟨c7, i7, k7⟩ := u_known (C := R_Mo) (T := F_Mo) (N := 33) (n := 33) hw i_Mo (hw _ q_545)
  obtain ⟨a0, f0, r0⟩ := arr_of (hw _ q_104)
  obtain ⟨a1, f1, r1⟩ := arr_of (hw _ q_155)
  obtain ⟨a2, f2, r2⟩ := arr_of (hw _ q_213)
  have o3 : (Cond.arrayOver (.object R_Sh)).before #[Value.ref b] s = true := hts _ (by decide +kernel)
  obtain ⟨a3, r3, f3⟩ := arrO_of o3
  have o4 : (Cond.arrayOver (.object R_Po)).before #[Value.ref b] s = true := hts _ (by decide +kernel)
  obtain ⟨a4, r4, f4⟩ := arrO_of o4
  have o5 : (Cond.arrayOver (.object R_Pl)).before #[Value.ref b] s = true := hts _ (by decide +kernel)
  obtain ⟨a5, r5, f5⟩ := arrO_of o5
  have dl : (Cond.laysStatic "SweptPaths$Directions" "DX" "[I").before #[Value.ref b] s = true := hts _ (by decide +kernel)
  have di : (Cond.initialized "SweptPaths$Directions").before #[Value.ref b] s = true := hts _ (by decide +kernel)
  have da : (Cond.arrayOf (.static "SweptPaths$Directions" "DX" "[I") .int).before #[Value.ref b] s = true := hs _ (by decide +kernel)
  have dn : (Cond.eq (.length (.static "SweptPaths$Directions" "DX" "[I")) (.int 64)).before #[Value.ref b] s = true := hs _ (by decide +kernel)
  have dm : ∀ j, j < 64 → (Cond.eq (.elem (.static "SweptPaths$Directions" "DX" "[I") (.int (Int32.ofNat j))) (.int (dxT j))).before #[Value.ref b] s = true := fun j hj => hs _ (dx_in j hj)
  obtain ⟨dx, hv, hT⟩ := va_Tof (tm := (.static "SweptPaths$Directions" "DX" "[I")) (ty := .int) (N := 64) (f := fun j => .int (dxT j)) (A := (fun q : Nat => s.heap.size ≤ q)) (by decide) da (va_eqt dn) (fun j hj => va_eqt (dm j hj)) hA
  have z1 : ZS "UNASSIGNED_STACK" "[Ljava/lang/StackTraceElement;" (fun q : Nat => s.heap.size ≤ q) s s.heap := ZS.of (args := #[Value.ref b]) (hts _ (by decide +kernel)) (hs _ (by decide +kernel)) hA
  have z2 : ZS "SUPPRESSED_SENTINEL" "Ljava/util/List;" (fun q : Nat => s.heap.size ≤ q) s s.heap := ZS.of (args := #[Value.ref b]) (hts _ (by decide +kernel)) (hs _ (by decide +kernel)) hA
  have hcur : s.vm.findClass "SweptPaths" = some c0 := k0.2.1
  have s0 := str_of (k := 45) (tx := "there are 3 bodies") (args := #[Value.ref b]) hcur (hts _ (by decide +kernel))
  have s1 := str_of (k := 91) (tx := "there are 20 poles") (args := #[Value.ref b]) hcur (hts _ (by decide +kernel))
  have s2 := str_of (k := 168) (tx := "the plan has 6 parts") (args := #[Value.ref b]) hcur (hts _ (by decide +kernel))
  have s3 := str_of (k := 183) (tx := "a number is out of its bounds") (args := #[Value.ref b]) hcur (hts _ (by decide +kernel))
  have s4 := str_of (k := 186) (tx := "there is no body") (args := #[Value.ref b]) hcur (hts _ (by decide +kernel))
  have hEX : EX s := ⟨va_Nw.of (A := #[Value.ref b]) rfl (hts (.castable R_IA R_IA) (by decide +kernel)), va_Nw.of (A := #[Value.ref b]) rfl (hts (.castable R_IS R_IS) (by decide +kernel)), va_Nc.of (args := #[Value.ref b]) (hs _ (by decide +kernel)), va_Nw.of (A := #[Value.ref b]) rfl (hts (.declares ⟨"java/lang/RuntimeException", "<init>", "(Ljava/lang/String;)V"⟩) (by decide +kernel)), va_Nw.of (A := #[Value.ref b]) rfl (hts (.declares ⟨"java/lang/Exception", "<init>", "(Ljava/lang/String;)V"⟩) (by decide +kernel)), va_Nw.of (A := #[Value.ref b]) rfl (hts (.declares ⟨"java/lang/Throwable", "<init>", "(Ljava/lang/String;)V"⟩) (by decide +kernel)), s0, s1, s2, s3, s4⟩
  have hEI : EI s := ⟨va_AO.of o3, va_AO.of o4, va_AO.of o5, va_Nw.of (A := #[Value.ref b]) rfl (hts (.methodLinkNest R_SP 9 y_Se_init R_SP) (by decide +kernel)), va_Nw.of (A := #[Value.ref b]) rfl (hts (.methodLinkNest R_Se 11 y_Sh_init R_SP) (by decide +kernel)), va_Nw.of (A := #[Value.ref b]) rfl (hts (.methodLinkNest R_Ru 11 y_Po_init R_SP) (by decide +kernel)), va_Nw.of (A := #[Value.ref b]) rfl (hts (.methodLinkNest R_Ru 20 y_Ce_init R_SP) (by decide +kernel)), va_Nw.of (A := #[Value.ref b]) rfl (hts (.methodLinkNest R_SP 34 y_Pl_init R_SP) (by decide +kernel))⟩
  refine ⟨((fun k => [c0, c1, c2, c3, c4, c5, c6, c7].getD k c0, fun k => [i0, i1, i2, i3, i4, i5, i6, i7].getD k i0), fun k => [a0, a1, a2, a3, a4, a5].getD k a0, dx), ⟨hx, hb, hml, hown, hw, ⟨⟨fun k q hq => ?_, fun k q hq => ?_⟩, va_Zof dl di hv hA, hT, z1, z2, hEX⟩, fun q h => h⟩, hEI⟩
  · match k, hq with
    | 0, hq => cases hq; exact k0
    | 1, hq => cases hq; exact k1
    | 2, hq => cases hq; exact k2
    | 3, hq => cases hq; exact k3
    | 4, hq => cases hq; exact k4
    | 5, hq => cases hq; exact k5
    | 6, hq => cases hq; exact k6
    | 7, hq => cases hq; exact k7
    | k + 8, hq => simp [classes] at hq
  · match k, hq with
    | 0, hq => cases hq; exact ⟨r0, f0⟩
    | 1, hq => cases hq; exact ⟨r1, f1⟩
    | 2, hq => cases hq; exact ⟨r2, f2⟩
    | 3, hq => cases hq; exact ⟨r3, f3⟩
    | 4, hq => cases hq; exact ⟨r4, f4⟩
    | 5, hq => cases hq; exact ⟨r5, f5⟩
    | k + 6, hq => simp [tysG] at hq
set_option maxHeartbeats 4000000 in
set_option maxRecDepth 100000 in
theorem whole_start {p : Program} {e : Env} {s : State} {m : MethodId} {below : List Frame} {meth : Method} {c : Code} (l : Launch) (hfl : l.flags = pinnedFlags ++ [noTraceFlag]) {b L : Nat} {xs : Nat → Int32} (hL : L ≤ 3072) (C0 : lw_At p s m meth c b L xs) : W p l e room_1 s m #[Value.ref b] below meth c s.heap [] 0 0 (lw_Z below #[Value.ref b] s) (entryFrame m ([Value.ref b] : List Value).toArray 7) := by
  obtain ⟨g, C, hI⟩ := entry C0
  obtain ⟨hx, hb, hr, hml, hown, hts, hX, hbl, hlocks, hgv⟩ := id C0
  obtain ⟨-, -, -, -, hw, hE, hA⟩ := id C
  have hbA : ¬ (fun q : Nat => s.heap.size ≤ q) b := Nat.not_le.mpr hbl
  have hS : va_S (fun q : Nat => s.heap.size ≤ q) s.heap s.heap [] := va_S.rf
  have hP : va_P g.1 classes [] s.heap := fun k q h => by simp at h
  have hD : va_D (fun q : Nat => s.heap.size ≤ q) [] := ⟨fun i j p q h => by simp at h, fun k q h => by simp at h⟩
  have hl := lv_entry ([.ref b]) (n := 7) (Nat.le_of_ble_eq_true rfl)
  rw [lg_entry_eq]
  generalize (lg_sl ([.ref b]) ++ List.replicate (7 - (lg_sl ([.ref b])).length) Slot.unset).toArray = ls at hl ⊢
  have hl : lv_has ls 7 [(0, .ref b)] := hl
  refine va_new (D := g.1) (ci := 0) (fs := [.null, .null, .null, .null]) (C := R_SP) (T := F_SP) (N := 4) hx hb hw i_SP t_SP t_SP_ok hown (hw _ q_17) (hw _ q_18) (hw _ q_1) hE.1 hP hD hS hA rfl (by decide) (Nat.le_of_ble_eq_true rfl) (Nat.le_of_ble_eq_true rfl) d_La_law_0 (fun n1 H hP hD hS => ?_)
  have hP : va_P g.1 classes [(n1, .inr (0, [.null, .null, .null, .null]))] H := hP
  have hD : va_D (fun q : Nat => s.heap.size ≤ q) [(n1, .inr (0, [.null, .null, .null, .null]))] := hD
  refine lv_dup hx hb d_La_law_3 rfl ?_
  refine ciC C hI q_19 na_SP_init [] [.ref n1] (c_SP_init l g n1) hP hD hS [0] [] [] rfl rfl (by decide) (by decide) (by decide) rfl rfl hl.1 (Nat.le_of_ble_eq_true rfl) ⟨(Nat.le_of_ble_eq_true rfl), (Nat.le_of_ble_eq_true rfl)⟩ d_La_law_4 ⟨(Nat.le_of_ble_eq_true rfl), (Nat.le_of_ble_eq_true rfl)⟩ (fun H locs hB hj hS => ?_)
  obtain ⟨ad, rfl, hP1, hD1⟩ := hB
  obtain ⟨hP, hD⟩ := hj _ hP1 hD1
  have hP : va_P g.1 classes (wS g ad K0 R0 R0 Q0) H := hP
  have hD : va_D (fun q : Nat => s.heap.size ≤ q) (wS g ad K0 R0 R0 Q0) := hD
  refine lv_astore_n (lv' := [(1, .ref (ad 0)), (0, .ref b)]) hx hb d_La_law_7 rfl hl (by decide) rfl (fun ls hl => ?_)
  refine va_new (D := g.1) (ci := 7) (fs := [.int 0, .null, .int 0, .null, .null, .null, .null, .null, .int 0, .int 0, .int 0, .int 0, .int 0, .null, .null, .null, .null, .null, .null, .null, .null, .null, .null, .null, .int 0, .int 0, .int 0, .int 0, .int 0, .int 0, .null, .null, .null]) (C := R_Mo) (T := F_Mo) (N := 33) hx hb hw i_Mo t_Mo t_Mo_ok hown (hw _ q_544) (hw _ q_545) (hw _ q_8) hE.1 hP hD hS hA rfl (by decide) (Nat.le_of_ble_eq_true rfl) (Nat.le_of_ble_eq_true rfl) d_La_law_8 (fun n2 H hP hD hS => ?_)
  have hP : va_P g.1 classes (wS g ad K0 R0 R0 Q0 ++ [(n2, .inr (7, [.int 0, .null, .int 0, .null, .null, .null, .null, .null, .int 0, .int 0, .int 0, .int 0, .int 0, .null, .null, .null, .null, .null, .null, .null, .null, .null, .null, .null, .int 0, .int 0, .int 0, .int 0, .int 0, .int 0, .null, .null, .null]))]) H := hP
  have hD : va_D (fun q : Nat => s.heap.size ≤ q) (wS g ad K0 R0 R0 Q0 ++ [(n2, .inr (7, [.int 0, .null, .int 0, .null, .null, .null, .null, .null, .int 0, .int 0, .int 0, .int 0, .int 0, .null, .null, .null, .null, .null, .null, .null, .null, .null, .null, .null, .int 0, .int 0, .int 0, .int 0, .int 0, .int 0, .null, .null, .null]))]) := hD
  refine lv_dup hx hb d_La_law_11 rfl ?_
  refine ciC C hI q_546 na_Mo_init [] [.ref n2] (c_Mo_init l g n2) hP hD hS [39] [0, 1, 2, 3, 4, 5, 6, 7, 8, 9, 10, 11, 12, 13, 14, 15, 16, 17, 18, 19, 20, 21, 22, 23, 24, 25, 26, 27, 28, 29, 30, 31, 32, 33, 34, 35, 36, 37, 38] (wS g ad K0 R0 R0 Q0) rfl rfl (by decide) (by decide) (by decide) rfl rfl hl.1 (Nat.le_of_ble_eq_true rfl) ⟨(Nat.le_of_ble_eq_true rfl), (Nat.le_of_ble_eq_true rfl)⟩ d_La_law_12 ⟨(Nat.le_of_ble_eq_true rfl), (Nat.le_of_ble_eq_true rfl)⟩ (fun H locs hB hj hS => ?_)
  obtain ⟨ad2, rfl, hP1, hD1⟩ := hB
  obtain ⟨hP, hD⟩ := hj _ hP1 hD1
  refine lv_astore_n (lv' := [(2, .ref (ad2 0)), (1, .ref (ad 0)), (0, .ref b)]) hx hb d_La_law_15 rfl hl (by decide) rfl (fun ls hl => ?_)
  refine lv_iconst (v := 1) hx hb d_La_law_16 (by decide) ?_
  refine newA C (atype := .long) q_155 1 rfl hP hD hS (N' := 1) (a0 := (1, .inr (.inl (fun _ => 0)))) (fun _ => rfl) (by decide) (by decide) (by decide) (Nat.le_of_ble_eq_true rfl) (Nat.le_of_ble_eq_true rfl) d_La_law_17 (fun ao H hP hD hS => ?_)
  refine lv_astore_n (lv' := [(3, .ref ao), (2, .ref (ad2 0)), (1, .ref (ad 0)), (0, .ref b)]) hx hb d_La_law_19 rfl hl (by decide) rfl (fun ls hl => ?_)
  refine lv_iconst (v := 0) hx hb d_La_law_20 (by decide) ?_
  refine lv_istore (lv' := [(4, .int 0), (3, .ref ao), (2, .ref (ad2 0)), (1, .ref (ad 0)), (0, .ref b)]) hx hb d_La_law_21 hl (by decide) rfl (fun ls hl => ?_)
  have hP : va_P g.1 classes (wA g ad ad2 ao K0 R0 R0 Q0 M0 (fun _ => 0)) H := by
    unfold wA
    rw [← List.append_assoc]
    exact hP
  have hD : va_D (fun q : Nat => s.heap.size ≤ q) (wA g ad ad2 ao K0 R0 R0 Q0 M0 (fun _ => 0)) := by
    unfold wA
    rw [← List.append_assoc]
    exact hD
  refine W_more (cells' := 61 + 0) (slots' := 8756 + 6 * 0) (Nat.le_of_ble_eq_true rfl) (Nat.le_of_ble_eq_true rfl) ?_
  exact law_loop hfl C hX hbl hbA hL hlocks hr (fun z hz => hz) (L + 1) 0 K0 R0 R0 Q0 M0 (fun _ => 0) 0 0 (fun _ => 0) H locs ls (Nat.zero_le L) (by omega) rel0 hP hD hS (lv_sub hl [0, 4, 3, 2, 1] rfl)
