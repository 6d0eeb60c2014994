/-! looking round, the reference's way -/
def u1 (a : St2) (k : Nat) (f : Nat → Int32) : St2 := fun i => if i = k then f else a i
theorem u1_s {a : St2} {k : Nat} {f : Nat → Int32} : u1 a k f k = f := by simp [u1]
theorem u1_k {a : St2} {k n : Nat} {f : Nat → Int32} (h : n ≠ k) : u1 a k f n = a n := by simp [u1, h]
theorem u2_u1 {a : St2} {k j : Nat} {f : Nat → Int32} {v : Int32} : u2 (u1 a k f) k j v = u1 a k (upd f j v) := by
  funext i q
  by_cases h : i = k
  · subst h
    simp [u2, u1, upd]
  · simp [u2, u1, h]
theorem u1_id {a : St2} {k : Nat} : u1 a k (a k) = a := by
  funext i
  by_cases h : i = k
  · subst h
    simp [u1]
  · simp [u1, h]
theorem upd_upd {f : Nat → Int32} {k : Nat} {v w : Int32} : upd (upd f k v) k w = upd f k w := by
  funext i
  by_cases h : i = k <;> simp [upd, h]
theorem upd_id {f : Nat → Int32} {k : Nat} : upd f k (f k) = f := by
  funext i
  by_cases h : i = k
  · subst h
    simp [upd]
  · simp [upd, h]
abbrev atI (i j : Int32) : Int32 := ((64 * (i + 32)) + j) + 32
abbrev CM : Type := Int32 × (Nat → Int32)
def mkM (a : St2) (b : Nat) (i j : Int32) (q : CM) : CM := if q.2 (atI i j).toNatClampNeg = 0 then (if covM a b (4096 * ((8 * i) + 4)) (4096 * ((8 * j) + 4)) = 0 then q else (q.1 + 1, upd q.2 (atI i j).toNatClampNeg 1)) else q
def stepMj (a : St2) (b : Nat) (i : Int32) (q : Int32 × CM) : Int32 × CM := (q.1 + 1, mkM a b i q.1 q.2)
def rowM (a : St2) (b : Nat) (i : Int32) (n : Nat) (j : Int32) (q : CM) : CM := (itr (stepMj a b i) n (j, q)).2
def stepMi (a : St2) (b : Nat) (nj : Nat) (fj : Int32) (q : Int32 × CM) : Int32 × CM := (q.1 + 1, rowM a b q.1 nj fj q.2)
def gridM (a : St2) (b : Nat) (nj : Nat) (fj : Int32) (n : Nat) (i : Int32) (q : CM) : CM := (itr (stepMi a b nj fj) n (i, q)).2
def frI (p : Int32) : Int32 := withI (cellI p - 10)
def toI (p : Int32) : Int32 := withI (cellI p + 10)
def gridF (a : St2) (b : Nat) (q : CM) : CM := gridM a b (cntI (frI (a 14 b)) (toI (a 14 b))) (frI (a 14 b)) (cntI (frI (a 13 b)) (toI (a 13 b))) (frI (a 13 b)) q
def hitM (a : St2) (b p : Nat) : Int32 := covM a b (4096 * a 7 p) (4096 * a 8 p)
def polS (o : Option Nat) (b : Nat) (s : Nat → Int32) : Nat → Int32 := match o with
  | none => s
  | some p => upd (upd (upd s 26 (s 24)) 27 (nI b)) 28 (nI p)
def lookB (np b : Nat) (x : MS) : MS := (if x.1 26 = -1 then polS (firstHit (hitM x.2 b) np 0) b (upd x.1 29 (gridF x.2 b (x.1 29, x.2 18)).1) else upd x.1 29 (gridF x.2 b (x.1 29, x.2 18)).1, u1 x.2 18 (gridF x.2 b (x.1 29, x.2 18)).2)
def InvL (n np : Nat) (x : MS) : Prop := (∀ i, i < 17 → x.2 1 i = cosT i) ∧ x.1 2 = nI n ∧ x.1 12 = nI np ∧ ¬ x.1 24 = -1
theorem polS_k {o : Option Nat} {b : Nat} {s : Nat → Int32} {f : Nat} (h1 : f ≠ 26) (h2 : f ≠ 27) (h3 : f ≠ 28) : polS o b s f = s f := by
  unfold polS
  split
  · rfl
  · rw [pk_un h3, pk_un h2, pk_un h1]
theorem lookB_s {np b : Nat} {x : MS} {f : Nat} (h1 : f ≠ 26) (h2 : f ≠ 27) (h3 : f ≠ 28) (h4 : f ≠ 29) : (lookB np b x).1 f = x.1 f := by
  unfold lookB
  dsimp only
  split
  · rw [polS_k h1 h2 h3, pk_un h4]
  · rw [pk_un h4]
theorem lookB_a {np b : Nat} {x : MS} {k : Nat} (h : k ≠ 18) : (lookB np b x).2 k = x.2 k := by
  unfold lookB
  dsimp only
  rw [u1_k h]
theorem lookB_inv {n np b : Nat} {x : MS} (h : InvL n np x) : InvL n np (lookB np b x) := by
  obtain ⟨h1, h2, h3, h4⟩ := h
  refine ⟨fun i hi => ?_, ?_, ?_, ?_⟩
  · rw [lookB_a (by decide)]; exact h1 i hi
  · rw [lookB_s (by decide) (by decide) (by decide) (by decide)]; exact h2
  · rw [lookB_s (by decide) (by decide) (by decide) (by decide)]; exact h3
  · rw [lookB_s (by decide) (by decide) (by decide) (by decide)]; exact h4
theorem rowM_s {a : St2} {b : Nat} {i j : Int32} {n : Nat} {q q' q8 : CM} (h : rowM a b i (n + 1) j q = q8) (e : mkM a b i j q = q') : rowM a b i n (j + 1) q' = q8 := by
  unfold rowM at h ⊢
  rw [itr_s, show stepMj a b i (j, q) = (j + 1, q') by unfold stepMj; rw [e]] at h
  exact h
theorem rowM_z {a : St2} {b : Nat} {i j : Int32} {q q8 : CM} (h : rowM a b i 0 j q = q8) : q = q8 := by
  unfold rowM at h
  rw [itr_z] at h
  exact h
theorem gridM_s {a : St2} {b nj : Nat} {fj i : Int32} {n : Nat} {q q' q9 : CM} (h : gridM a b nj fj (n + 1) i q = q9) (e : rowM a b i nj fj q = q') : gridM a b nj fj n (i + 1) q' = q9 := by
  unfold gridM at h ⊢
  rw [itr_s, show stepMi a b nj fj (i, q) = (i + 1, q') by unfold stepMi; rw [e]] at h
  exact h
theorem gridM_z {a : St2} {b nj : Nat} {fj i : Int32} {q q9 : CM} (h : gridM a b nj fj 0 i q = q9) : q = q9 := by
  unfold gridM at h
  rw [itr_z] at h
  exact h
theorem withI_b (v : Int32) : -32 ≤ (withI v).toInt ∧ (withI v).toInt ≤ 31 := by
  unfold withI
  split
  · next h =>
    split
    · next h2 => exact ⟨i32_le.mp h, i32_le.mp h2⟩
    · decide
  · decide
theorem tI_add {a b : Int32} (h1 : -2147483648 ≤ a.toInt + b.toInt) (h2 : a.toInt + b.toInt < 2147483648) : (a + b).toInt = a.toInt + b.toInt := by
  rw [Int32.toInt_add]
  exact Int.bmod_eq_of_le (by omega) (by omega)
theorem tI_sub {a b : Int32} (h1 : -2147483648 ≤ a.toInt - b.toInt) (h2 : a.toInt - b.toInt < 2147483648) : (a - b).toInt = a.toInt - b.toInt := by
  rw [Int32.toInt_sub]
  exact Int.bmod_eq_of_le (by omega) (by omega)
theorem tI_mul {a b : Int32} (h1 : -2147483648 ≤ a.toInt * b.toInt) (h2 : a.toInt * b.toInt < 2147483648) : (a * b).toInt = a.toInt * b.toInt := by
  rw [Int32.toInt_mul]
  exact Int.bmod_eq_of_le (by omega) (by omega)
theorem at_toInt {i j : Int32} (h1 : -32 ≤ i.toInt) (h2 : i.toInt ≤ 31) (h3 : -32 ≤ j.toInt) (h4 : j.toInt ≤ 31) : (atI i j).toInt = 64 * (i.toInt + 32) + j.toInt + 32 := by
  have a1 : (i + 32).toInt = i.toInt + 32 := tI_add (b := 32) (by show _ ≤ i.toInt + 32; omega) (by show i.toInt + 32 < _; omega)
  have a2 : (64 * (i + 32)).toInt = 64 * (i.toInt + 32) := by
    have := tI_mul (a := 64) (b := i + 32) (by rw [a1]; show _ ≤ 64 * (i.toInt + 32); omega) (by rw [a1]; show 64 * (i.toInt + 32) < _; omega)
    rw [this, a1]; rfl
  have a3 : (64 * (i + 32) + j).toInt = 64 * (i.toInt + 32) + j.toInt := by rw [tI_add (by rw [a2]; omega) (by rw [a2]; omega), a2]
  show (64 * (i + 32) + j + 32).toInt = _
  rw [tI_add (b := 32) (by rw [a3]; show _ ≤ 64 * (i.toInt + 32) + j.toInt + 32; omega) (by rw [a3]; show 64 * (i.toInt + 32) + j.toInt + 32 < _; omega), a3]
  rfl
theorem at_in {i j : Int32} (h1 : -32 ≤ i.toInt) (h2 : i.toInt ≤ 31) (h3 : -32 ≤ j.toInt) (h4 : j.toInt ≤ 31) : vp_in (atI i j) 4096 := by
  rw [vp_in_iff, at_toInt h1 h2 h3 h4]
  omega
theorem cnt_le {i li : Int32} {n : Nat} (h : cntI i li = n + 1) (h2 : li.toInt ≤ 31) : i.toInt ≤ 31 := by unfold cntI at h; omega

set_option maxHeartbeats 4000000 in
set_option maxRecDepth 100000 in
theorem c_Mo_look (l : Launch) (g : Glob) (ad : Nat → Nat) (x : MS) (n np : Nat) (hI : InvL n np x) (h3 : n ≤ 3) (h20 : np ≤ 20) : CV l g y_Mo_look b_Mo_look 9 3 78 [.ref (ad 0)] (wM g ad x) (wM g ad (itF (lookB np) n 0 x)) := by
  refine CV.of (by decide +kernel) (Nat.le_of_ble_eq_true rfl) ?_
  intro p e s m below meth c A Q ls C hP hD hl hret hS
  obtain ⟨hx, hb, hml, hown, hw, hE, hA⟩ := id C
  have hl : lv_has ls 9 [(0, .ref (ad 0))] := hl
  generalize h9 : itF (lookB np) n 0 x = x9 at hret
  refine lv_iconst (v := 0) hx hb d_Mo_look_0 (by decide) ?_
  refine lv_istore_n (lv' := [(1, .int 0), (0, .ref (ad 0))]) hx hb d_Mo_look_1 rfl hl (by decide) rfl (fun ls hl => ?_)
  have lp : ∀ (t : Nat) (b : Nat) (x : MS) (H : Heap) (locs : List Loc) (ls : Array Slot), b ≤ n → n < b + t → InvL n np x → itF (lookB np) n b x = x9 → va_P g.1 classes (wM g ad x) H → va_D A (wM g ad x) → va_S A s.heap H locs → lv_has ls 9 [(1, .int (nI b)), (0, .ref (ad 0))] → W p l e { frames := 3, cells := 0, slots := 0, locals := 78 } s m ([.ref (ad 0)] : List Value).toArray below meth c H locs 0 0 Q (F0 m 2 ls []) := by
    intro t
    induction t with
    | zero =>
      intro b x H locs ls hbn ht hI h9 hP hD hS hl
      exact absurd trivial (by omega)
    | succ t ih =>
      intro b x H locs ls hbn ht hI h9 hP hD hS hl
      obtain ⟨hc, hn, hp, hm⟩ := id hI
      refine lv_iload_n hx hb d_Mo_look_2 rfl (lv_at hl 0 rfl) ?_
      refine lv_aload_n hx hb d_Mo_look_3 rfl (lv_at hl 1 rfl) ?_
      refine get_mi (x := x) C 2 q_552 rfl (by decide) rfl (x.1 2) rfl hP d_Mo_look_4 ?_
      refine lv_icmp_ge (tgt := 263) hx hb d_Mo_look_7 (by decide) (fun c7_1 => ?_) (fun c7_1 => ?_)
      · have h9 := (itF_end (ge_of_le' 3 hn h3 (by decide) (by omega) c7_1)).symm.trans h9
        subst h9
        exact hret _ _ _ _ _ rfl hP hD hS d_Mo_look_263
      · have h9b := h9
        have ihb := ih
        have hlt := lt_of_nle' 3 hn h3 (by decide) (by omega) c7_1
        have hb3 : b < 3 := by omega
        refine lv_aload_n hx hb d_Mo_look_10 rfl (lv_at hl 1 rfl) ?_
        refine get_ms (x := x) C 19 q_569 rfl (by decide) (.ref (ad 13)) rfl hP d_Mo_look_11 ?_
        refine lv_iload_n hx hb d_Mo_look_14 rfl (lv_at hl 0 rfl) ?_
        refine get_ma (x := x) C 13 3 rfl (vp_in_nI hb3 (by omega)) (x.2 13 b) ((congrArg (x.2 13) (nI_clamp (by omega))).trans rfl) hP d_Mo_look_15 ?_
        refine csI C v_Mo_106 [.int (x.2 13 b)] [] (c_Mo_cellOf l g (x.2 13 b)) hP hS rfl rfl hl.1 (Nat.le_of_ble_eq_true rfl) ⟨Nat.le_of_ble_eq_true rfl, Nat.le_of_ble_eq_true rfl⟩ d_Mo_look_16 ⟨Nat.zero_le _, Nat.zero_le _⟩ (fun H locs hP hS => ?_)
        refine lv_bipush (v := 10) hx hb d_Mo_look_19 (by decide) ?_
        refine lv_isub hx hb d_Mo_look_21 ?_
        refine csI C v_Mo_109 [.int ((cellI (x.2 13 b)) - 10)] [] (c_Mo_within l g ((cellI (x.2 13 b)) - 10)) hP hS rfl rfl hl.1 (Nat.le_of_ble_eq_true rfl) ⟨Nat.le_of_ble_eq_true rfl, Nat.le_of_ble_eq_true rfl⟩ d_Mo_look_22 ⟨Nat.zero_le _, Nat.zero_le _⟩ (fun H locs hP hS => ?_)
        refine lv_topi (fun z2_2 ez2_2 => ?_)
        refine lv_istore_n (lv' := [(2, .int z2_2), (1, .int (nI b)), (0, .ref (ad 0))]) hx hb d_Mo_look_25 rfl hl (by decide) rfl (fun ls hl => ?_)
        refine lv_aload_n hx hb d_Mo_look_26 rfl (lv_at hl 2 rfl) ?_
        refine get_ms (x := x) C 19 q_569 rfl (by decide) (.ref (ad 13)) rfl hP d_Mo_look_27 ?_
        refine lv_iload_n hx hb d_Mo_look_30 rfl (lv_at hl 1 rfl) ?_
        refine get_ma (x := x) C 13 3 rfl (vp_in_nI hb3 (by omega)) (x.2 13 b) ((congrArg (x.2 13) (nI_clamp (by omega))).trans rfl) hP d_Mo_look_31 ?_
        refine csI C v_Mo_106 [.int (x.2 13 b)] [] (c_Mo_cellOf l g (x.2 13 b)) hP hS rfl rfl hl.1 (Nat.le_of_ble_eq_true rfl) ⟨Nat.le_of_ble_eq_true rfl, Nat.le_of_ble_eq_true rfl⟩ d_Mo_look_32 ⟨Nat.zero_le _, Nat.zero_le _⟩ (fun H locs hP hS => ?_)
        refine lv_bipush (v := 10) hx hb d_Mo_look_35 (by decide) ?_
        refine lv_iadd hx hb d_Mo_look_37 ?_
        refine csI C v_Mo_109 [.int ((cellI (x.2 13 b)) + 10)] [] (c_Mo_within l g ((cellI (x.2 13 b)) + 10)) hP hS rfl rfl hl.1 (Nat.le_of_ble_eq_true rfl) ⟨Nat.le_of_ble_eq_true rfl, Nat.le_of_ble_eq_true rfl⟩ d_Mo_look_38 ⟨Nat.zero_le _, Nat.zero_le _⟩ (fun H locs hP hS => ?_)
        refine lv_topi (fun z3_3 ez3_3 => ?_)
        refine lv_istore_n (lv' := [(3, .int z3_3), (2, .int z2_2), (1, .int (nI b)), (0, .ref (ad 0))]) hx hb d_Mo_look_41 rfl hl (by decide) rfl (fun ls hl => ?_)
        refine lv_aload_n hx hb d_Mo_look_42 rfl (lv_at hl 3 rfl) ?_
        refine get_ms (x := x) C 20 q_570 rfl (by decide) (.ref (ad 14)) rfl hP d_Mo_look_43 ?_
        refine lv_iload_n hx hb d_Mo_look_46 rfl (lv_at hl 2 rfl) ?_
        refine get_ma (x := x) C 14 3 rfl (vp_in_nI hb3 (by omega)) (x.2 14 b) ((congrArg (x.2 14) (nI_clamp (by omega))).trans rfl) hP d_Mo_look_47 ?_
        refine csI C v_Mo_106 [.int (x.2 14 b)] [] (c_Mo_cellOf l g (x.2 14 b)) hP hS rfl rfl hl.1 (Nat.le_of_ble_eq_true rfl) ⟨Nat.le_of_ble_eq_true rfl, Nat.le_of_ble_eq_true rfl⟩ d_Mo_look_48 ⟨Nat.zero_le _, Nat.zero_le _⟩ (fun H locs hP hS => ?_)
        refine lv_bipush (v := 10) hx hb d_Mo_look_51 (by decide) ?_
        refine lv_isub hx hb d_Mo_look_53 ?_
        refine csI C v_Mo_109 [.int ((cellI (x.2 14 b)) - 10)] [] (c_Mo_within l g ((cellI (x.2 14 b)) - 10)) hP hS rfl rfl hl.1 (Nat.le_of_ble_eq_true rfl) ⟨Nat.le_of_ble_eq_true rfl, Nat.le_of_ble_eq_true rfl⟩ d_Mo_look_54 ⟨Nat.zero_le _, Nat.zero_le _⟩ (fun H locs hP hS => ?_)
        refine lv_topi (fun z4_4 ez4_4 => ?_)
        refine lv_istore (lv' := [(4, .int z4_4), (3, .int z3_3), (2, .int z2_2), (1, .int (nI b)), (0, .ref (ad 0))]) hx hb d_Mo_look_57 hl (by decide) rfl (fun ls hl => ?_)
        refine lv_aload_n hx hb d_Mo_look_59 rfl (lv_at hl 4 rfl) ?_
        refine get_ms (x := x) C 20 q_570 rfl (by decide) (.ref (ad 14)) rfl hP d_Mo_look_60 ?_
        refine lv_iload_n hx hb d_Mo_look_63 rfl (lv_at hl 3 rfl) ?_
        refine get_ma (x := x) C 14 3 rfl (vp_in_nI hb3 (by omega)) (x.2 14 b) ((congrArg (x.2 14) (nI_clamp (by omega))).trans rfl) hP d_Mo_look_64 ?_
        refine csI C v_Mo_106 [.int (x.2 14 b)] [] (c_Mo_cellOf l g (x.2 14 b)) hP hS rfl rfl hl.1 (Nat.le_of_ble_eq_true rfl) ⟨Nat.le_of_ble_eq_true rfl, Nat.le_of_ble_eq_true rfl⟩ d_Mo_look_65 ⟨Nat.zero_le _, Nat.zero_le _⟩ (fun H locs hP hS => ?_)
        refine lv_bipush (v := 10) hx hb d_Mo_look_68 (by decide) ?_
        refine lv_iadd hx hb d_Mo_look_70 ?_
        refine csI C v_Mo_109 [.int ((cellI (x.2 14 b)) + 10)] [] (c_Mo_within l g ((cellI (x.2 14 b)) + 10)) hP hS rfl rfl hl.1 (Nat.le_of_ble_eq_true rfl) ⟨Nat.le_of_ble_eq_true rfl, Nat.le_of_ble_eq_true rfl⟩ d_Mo_look_71 ⟨Nat.zero_le _, Nat.zero_le _⟩ (fun H locs hP hS => ?_)
        refine lv_topi (fun z5_5 ez5_5 => ?_)
        refine lv_istore (lv' := [(5, .int z5_5), (4, .int z4_4), (3, .int z3_3), (2, .int z2_2), (1, .int (nI b)), (0, .ref (ad 0))]) hx hb d_Mo_look_74 hl (by decide) rfl (fun ls hl => ?_)
        refine lv_iload_n hx hb d_Mo_look_76 rfl (lv_at hl 3 rfl) ?_
        refine lv_istore (lv' := [(6, .int z2_2), (5, .int z5_5), (4, .int z4_4), (3, .int z3_3), (2, .int z2_2), (1, .int (nI b)), (0, .ref (ad 0))]) hx hb d_Mo_look_77 hl (by decide) rfl (fun ls hl => ?_)
        have bfi := withI_b (cellI (x.2 13 b) - 10)
        rw [← ez2_2] at bfi
        have bti := withI_b (cellI (x.2 13 b) + 10)
        rw [← ez3_3] at bti
        have bfj := withI_b (cellI (x.2 14 b) - 10)
        rw [← ez4_4] at bfj
        have btj := withI_b (cellI (x.2 14 b) + 10)
        rw [← ez5_5] at btj
        generalize hq9 : gridF x.2 b (x.1 29, x.2 18) = q9
        have h9 : gridM x.2 b (cntI z4_4 z5_5) z4_4 (cntI z2_2 z3_3) z2_2 (x.1 29, x.2 18) = q9 := by rw [ez2_2, ez3_3, ez4_4, ez5_5]; exact hq9
        obtain ⟨s0, a0⟩ := x
        dsimp only at h9 hq9 hc hn hp hm
        have K : ∀ (H : Heap) (locs : List Loc) (ls : Array Slot), va_P g.1 classes (wM g ad (upd s0 29 q9.1, u1 a0 18 q9.2)) H → va_D A (wM g ad (upd s0 29 q9.1, u1 a0 18 q9.2)) → va_S A s.heap H locs → lv_has ls 9 [(1, .int (nI b)), (0, .ref (ad 0))] → W p l e { frames := 3, cells := 0, slots := 0, locals := 78 } s m ([.ref (ad 0)] : List Value).toArray below meth c H locs 0 0 Q (F0 m 182 ls []) := by
          intro H locs ls hP hD hS hl
          refine lv_iconst (v := 0) hx hb d_Mo_look_182 (by decide) ?_
          refine lv_istore (lv' := [(6, .int 0), (1, .int (nI b)), (0, .ref (ad 0))]) hx hb d_Mo_look_183 hl (by decide) rfl (fun ls hl => ?_)
          by_cases hcl : s0 26 = -1
          · generalize hf9 : firstHit (hitM a0 b) np 0 = o9
            have lk : ∀ (t2 : Nat) (k : Nat) (H : Heap) (locs : List Loc) (ls : Array Slot), k ≤ np → np < k + t2 → firstHit (hitM a0 b) (np - k) k = o9 → va_P g.1 classes (wM g ad (upd s0 29 q9.1, u1 a0 18 q9.2)) H → va_D A (wM g ad (upd s0 29 q9.1, u1 a0 18 q9.2)) → va_S A s.heap H locs → lv_has ls 9 [(6, .int (nI k)), (1, .int (nI b)), (0, .ref (ad 0))] → W p l e { frames := 3, cells := 0, slots := 0, locals := 78 } s m ([.ref (ad 0)] : List Value).toArray below meth c H locs 0 0 Q (F0 m 185 ls []) := by
              intro t2
              induction t2 with
              | zero =>
                intro k H locs ls hk ht2 hf hP hD hS hl
                exact absurd trivial (by omega)
              | succ t2 ih =>
                intro k H locs ls hk ht2 hf hP hD hS hl
                refine lv_iload hx hb d_Mo_look_185 (lv_at hl 0 rfl) ?_
                refine lv_aload_n hx hb d_Mo_look_187 rfl (lv_at hl 2 rfl) ?_
                refine get_mi (x := ((upd s0 29 q9.1), (u1 a0 18 q9.2))) C 12 q_562 rfl (by decide) rfl (s0 12) (pk_un (f := s0) (k := 29) (x := q9.1) (j := 12) (by decide)) hP d_Mo_look_188 ?_
                refine lv_icmp_ge (tgt := 257) hx hb d_Mo_look_191 (by decide) (fun c191_6 => ?_) (fun c191_6 => ?_)
                · have hf := fh_end (ge_of_le' 20 hp h20 (by decide) (by omega) c191_6) hf
                  subst hf
                  refine lv_iinc (v := (nI (b + 1))) (lv' := [(1, .int (nI (b + 1))), (6, .int (nI k)), (0, .ref (ad 0))]) hx hb d_Mo_look_257 hl (k := 1) rfl (nI_1 b) (by decide) rfl (fun ls hl => ?_)
                  refine lv_goto (tgt := 2) hx hb d_Mo_look_260 (by decide) ?_
                  have e1 : lookB np b (s0, a0) = ((upd s0 29 q9.1), (u1 a0 18 q9.2)) := by unfold lookB; dsimp only; rw [if_pos hcl, hq9, hf9]; rfl
                  exact ihb (b + 1) ((upd s0 29 q9.1), (u1 a0 18 q9.2)) _ _ _ (by omega) (by omega) (e1 ▸ lookB_inv hI) (it_back hlt h9b e1) hP hD hS (lv_sub hl [0, 2] rfl)
                · have hlk := lt_of_nle' 20 hp h20 (by decide) (by omega) c191_6
                  refine lv_aload_n hx hb d_Mo_look_194 rfl (lv_at hl 2 rfl) ?_
                  refine get_mi (x := ((upd s0 29 q9.1), (u1 a0 18 q9.2))) C 26 q_576 rfl (by decide) rfl (s0 26) (pk_un (f := s0) (k := 29) (x := q9.1) (j := 26) (by decide)) hP d_Mo_look_195 ?_
                  refine lv_iconst (v := (-1)) hx hb d_Mo_look_198 (by decide) ?_
                  refine lv_icmp_ne (tgt := 257) hx hb d_Mo_look_199 (by decide) (fun c199_7 => ?_) (fun c199_7 => ?_)
                  · exact absurd c199_7 (fun q => q hcl)
                  refine lv_aload_n hx hb d_Mo_look_202 rfl (lv_at hl 2 rfl) ?_
                  refine lv_iload_n hx hb d_Mo_look_203 rfl (lv_at hl 1 rfl) ?_
                  refine lv_sipush (v := 4096) hx hb d_Mo_look_204 (by decide) ?_
                  refine lv_aload_n hx hb d_Mo_look_207 rfl (lv_at hl 2 rfl) ?_
                  refine get_ms (x := ((upd s0 29 q9.1), (u1 a0 18 q9.2))) C 13 q_563 rfl (by decide) (.ref (ad 7)) rfl hP d_Mo_look_208 ?_
                  refine lv_iload hx hb d_Mo_look_211 (lv_at hl 0 rfl) ?_
                  refine get_ma (x := ((upd s0 29 q9.1), (u1 a0 18 q9.2))) C 7 20 rfl (vp_in_nI (show k < 20 by omega) (by omega)) (a0 7 k) ((congrArg ((u1 a0 18 q9.2) 7) (nI_clamp (by omega))).trans (congrFun (u1_k (a := a0) (k := 18) (f := q9.2) (n := 7) (by decide)) k)) hP d_Mo_look_213 ?_
                  refine lv_imul hx hb d_Mo_look_214 ?_
                  refine lv_sipush (v := 4096) hx hb d_Mo_look_215 (by decide) ?_
                  refine lv_aload_n hx hb d_Mo_look_218 rfl (lv_at hl 2 rfl) ?_
                  refine get_ms (x := ((upd s0 29 q9.1), (u1 a0 18 q9.2))) C 14 q_564 rfl (by decide) (.ref (ad 8)) rfl hP d_Mo_look_219 ?_
                  refine lv_iload hx hb d_Mo_look_222 (lv_at hl 0 rfl) ?_
                  refine get_ma (x := ((upd s0 29 q9.1), (u1 a0 18 q9.2))) C 8 20 rfl (vp_in_nI (show k < 20 by omega) (by omega)) (a0 8 k) ((congrArg ((u1 a0 18 q9.2) 8) (nI_clamp (by omega))).trans (congrFun (u1_k (a := a0) (k := 18) (f := q9.2) (n := 8) (by decide)) k)) hP d_Mo_look_224 ?_
                  refine lv_imul hx hb d_Mo_look_225 ?_
                  refine cvI C v_Mo_112 [.int (nI b), .int (4096 * (a0 7 k)), .int (4096 * (a0 8 k))] [] (c_Mo_covers l g ad ((upd s0 29 q9.1), (u1 a0 18 q9.2)) (fun i hi => (congrFun (u1_k (a := a0) (k := 18) (f := q9.2) (n := 1) (by decide)) i).trans (hc i hi)) b hb3 (4096 * (a0 7 k)) (4096 * (a0 8 k))) hP hD hS [0, 1, 2, 3, 4, 5, 6, 7, 8, 9, 10, 11, 12, 13, 14, 15, 16, 17, 18, 19, 20] [] [0, 1, 2, 3, 4, 5, 6, 7, 8, 9, 10, 11, 12, 13, 14, 15, 16, 17, 18, 19, 20] [] (wM g ad ((upd s0 29 q9.1), (u1 a0 18 q9.2))) rfl rfl (by decide) (by decide) (by decide) rfl (by decide) 0 rfl rfl rfl rfl hl.1 (Nat.le_of_ble_eq_true rfl) ⟨Nat.le_of_ble_eq_true rfl, Nat.le_of_ble_eq_true rfl⟩ d_Mo_look_226 ⟨Nat.zero_le _, Nat.zero_le _⟩ (fun H locs hP hD hS => ?_)
                  refine lv_if_eq (tgt := 251) hx hb d_Mo_look_229 (by decide) (fun c229_8 => ?_) (fun c229_8 => ?_)
                  · refine lv_iinc (v := (nI (k + 1))) (lv' := [(6, .int (nI (k + 1))), (1, .int (nI b)), (0, .ref (ad 0))]) hx hb d_Mo_look_251 hl (k := 0) rfl (nI_1 k) (by decide) rfl (fun ls hl => ?_)
                    refine lv_goto (tgt := 185) hx hb d_Mo_look_254 (by decide) ?_
                    exact ih (k + 1) _ _ _ (by omega) (by omega) (fh_back hlk hf c229_8) hP hD hS (lv_sub hl [0, 1, 2] rfl)
                  · refine lv_aload_n hx hb d_Mo_look_232 rfl (lv_at hl 2 rfl) ?_
                    refine lv_aload_n hx hb d_Mo_look_233 rfl (lv_at hl 2 rfl) ?_
                    refine get_mi (x := ((upd s0 29 q9.1), (u1 a0 18 q9.2))) C 24 q_574 rfl (by decide) rfl (s0 24) (pk_un (f := s0) (k := 29) (x := q9.1) (j := 24) (by decide)) hP d_Mo_look_234 ?_
                    refine put_ms C 26 (ty := .int) q_576 rfl (by decide) rfl (by decide +kernel) rfl rfl wM_s26 hP hD hS d_Mo_look_237 (fun H locs hP hD hS => ?_)
                    refine lv_aload_n hx hb d_Mo_look_240 rfl (lv_at hl 2 rfl) ?_
                    refine lv_iload_n hx hb d_Mo_look_241 rfl (lv_at hl 1 rfl) ?_
                    refine put_ms C 27 (ty := .int) q_577 rfl (by decide) rfl (by decide +kernel) rfl rfl wM_s27 hP hD hS d_Mo_look_242 (fun H locs hP hD hS => ?_)
                    refine lv_aload_n hx hb d_Mo_look_245 rfl (lv_at hl 2 rfl) ?_
                    refine lv_iload hx hb d_Mo_look_246 (lv_at hl 0 rfl) ?_
                    refine put_ms C 28 (ty := .int) q_578 rfl (by decide) rfl (by decide +kernel) rfl rfl wM_s28 hP hD hS d_Mo_look_248 (fun H locs hP hD hS => ?_)
                    refine lv_iinc (v := (nI (k + 1))) (lv' := [(6, .int (nI (k + 1))), (1, .int (nI b)), (0, .ref (ad 0))]) hx hb d_Mo_look_251 hl (k := 0) rfl (nI_1 k) (by decide) rfl (fun ls hl => ?_)
                    refine lv_goto (tgt := 185) hx hb d_Mo_look_254 (by decide) ?_
                    have hf := fh_hit hlk hf c229_8
                    subst hf
                    refine lv_iload hx hb d_Mo_look_185 (lv_at hl 0 rfl) ?_
                    refine lv_aload_n hx hb d_Mo_look_187 rfl (lv_at hl 2 rfl) ?_
                    refine get_mi (x := ((upd (upd (upd (upd s0 29 q9.1) 26 (s0 24)) 27 (nI b)) 28 (nI k)), (u1 a0 18 q9.2))) C 12 q_562 rfl (by decide) rfl (s0 12) ((pk_un (f := (upd (upd (upd s0 29 q9.1) 26 (s0 24)) 27 (nI b))) (k := 28) (x := (nI k)) (j := 12) (by decide)).trans ((pk_un (f := (upd (upd s0 29 q9.1) 26 (s0 24))) (k := 27) (x := (nI b)) (j := 12) (by decide)).trans ((pk_un (f := (upd s0 29 q9.1)) (k := 26) (x := (s0 24)) (j := 12) (by decide)).trans (pk_un (f := s0) (k := 29) (x := q9.1) (j := 12) (by decide))))) hP d_Mo_look_188 ?_
                    refine lv_icmp_ge (tgt := 257) hx hb d_Mo_look_191 (by decide) (fun c191_9 => ?_) (fun c191_9 => ?_)
                    · refine lv_iinc (v := (nI (b + 1))) (lv' := [(1, .int (nI (b + 1))), (6, .int (nI (k + 1))), (0, .ref (ad 0))]) hx hb d_Mo_look_257 hl (k := 1) rfl (nI_1 b) (by decide) rfl (fun ls hl => ?_)
                      refine lv_goto (tgt := 2) hx hb d_Mo_look_260 (by decide) ?_
                      have e1 : lookB np b (s0, a0) = ((upd (upd (upd (upd s0 29 q9.1) 26 (s0 24)) 27 (nI b)) 28 (nI k)), (u1 a0 18 q9.2)) := by unfold lookB; dsimp only; rw [if_pos hcl, hq9, hf9]; rfl
                      exact ihb (b + 1) ((upd (upd (upd (upd s0 29 q9.1) 26 (s0 24)) 27 (nI b)) 28 (nI k)), (u1 a0 18 q9.2)) _ _ _ (by omega) (by omega) (e1 ▸ lookB_inv hI) (it_back hlt h9b e1) hP hD hS (lv_sub hl [0, 2] rfl)
                    · refine lv_aload_n hx hb d_Mo_look_194 rfl (lv_at hl 2 rfl) ?_
                      refine get_mi (x := ((upd (upd (upd (upd s0 29 q9.1) 26 (s0 24)) 27 (nI b)) 28 (nI k)), (u1 a0 18 q9.2))) C 26 q_576 rfl (by decide) rfl (s0 24) ((pk_un (f := (upd (upd (upd s0 29 q9.1) 26 (s0 24)) 27 (nI b))) (k := 28) (x := (nI k)) (j := 26) (by decide)).trans ((pk_un (f := (upd (upd s0 29 q9.1) 26 (s0 24))) (k := 27) (x := (nI b)) (j := 26) (by decide)).trans (pk_us (f := (upd s0 29 q9.1)) (k := 26) (x := (s0 24))))) hP d_Mo_look_195 ?_
                      refine lv_iconst (v := (-1)) hx hb d_Mo_look_198 (by decide) ?_
                      refine lv_icmp_ne (tgt := 257) hx hb d_Mo_look_199 (by decide) (fun c199_10 => ?_) (fun c199_10 => ?_)
                      rotate_left
                      · exact absurd c199_10 hm
                      refine lv_iinc (v := (nI (b + 1))) (lv' := [(1, .int (nI (b + 1))), (6, .int (nI (k + 1))), (0, .ref (ad 0))]) hx hb d_Mo_look_257 hl (k := 1) rfl (nI_1 b) (by decide) rfl (fun ls hl => ?_)
                      refine lv_goto (tgt := 2) hx hb d_Mo_look_260 (by decide) ?_
                      have e1 : lookB np b (s0, a0) = ((upd (upd (upd (upd s0 29 q9.1) 26 (s0 24)) 27 (nI b)) 28 (nI k)), (u1 a0 18 q9.2)) := by unfold lookB; dsimp only; rw [if_pos hcl, hq9, hf9]; rfl
                      exact ihb (b + 1) ((upd (upd (upd (upd s0 29 q9.1) 26 (s0 24)) 27 (nI b)) 28 (nI k)), (u1 a0 18 q9.2)) _ _ _ (by omega) (by omega) (e1 ▸ lookB_inv hI) (it_back hlt h9b e1) hP hD hS (lv_sub hl [0, 2] rfl)
            exact lk (np + 1) 0 _ _ _ (by omega) (by omega) hf9 hP hD hS (lv_sub hl [0, 1, 2] rfl)
          · refine lv_iload hx hb d_Mo_look_185 (lv_at hl 0 rfl) ?_
            refine lv_aload_n hx hb d_Mo_look_187 rfl (lv_at hl 2 rfl) ?_
            refine get_mi (x := ((upd s0 29 q9.1), (u1 a0 18 q9.2))) C 12 q_562 rfl (by decide) rfl (s0 12) (pk_un (f := s0) (k := 29) (x := q9.1) (j := 12) (by decide)) hP d_Mo_look_188 ?_
            refine lv_icmp_ge (tgt := 257) hx hb d_Mo_look_191 (by decide) (fun c191_11 => ?_) (fun c191_11 => ?_)
            · refine lv_iinc (v := (nI (b + 1))) (lv' := [(1, .int (nI (b + 1))), (6, .int 0), (0, .ref (ad 0))]) hx hb d_Mo_look_257 hl (k := 1) rfl (nI_1 b) (by decide) rfl (fun ls hl => ?_)
              refine lv_goto (tgt := 2) hx hb d_Mo_look_260 (by decide) ?_
              have e1 : lookB np b (s0, a0) = ((upd s0 29 q9.1), (u1 a0 18 q9.2)) := by unfold lookB; dsimp only; rw [if_neg hcl, hq9]
              exact ihb (b + 1) ((upd s0 29 q9.1), (u1 a0 18 q9.2)) _ _ _ (by omega) (by omega) (e1 ▸ lookB_inv hI) (it_back hlt h9b e1) hP hD hS (lv_sub hl [0, 2] rfl)
            · refine lv_aload_n hx hb d_Mo_look_194 rfl (lv_at hl 2 rfl) ?_
              refine get_mi (x := ((upd s0 29 q9.1), (u1 a0 18 q9.2))) C 26 q_576 rfl (by decide) rfl (s0 26) (pk_un (f := s0) (k := 29) (x := q9.1) (j := 26) (by decide)) hP d_Mo_look_195 ?_
              refine lv_iconst (v := (-1)) hx hb d_Mo_look_198 (by decide) ?_
              refine lv_icmp_ne (tgt := 257) hx hb d_Mo_look_199 (by decide) (fun c199_12 => ?_) (fun c199_12 => ?_)
              rotate_left
              · exact absurd c199_12 hcl
              refine lv_iinc (v := (nI (b + 1))) (lv' := [(1, .int (nI (b + 1))), (6, .int 0), (0, .ref (ad 0))]) hx hb d_Mo_look_257 hl (k := 1) rfl (nI_1 b) (by decide) rfl (fun ls hl => ?_)
              refine lv_goto (tgt := 2) hx hb d_Mo_look_260 (by decide) ?_
              have e1 : lookB np b (s0, a0) = ((upd s0 29 q9.1), (u1 a0 18 q9.2)) := by unfold lookB; dsimp only; rw [if_neg hcl, hq9]
              exact ihb (b + 1) ((upd s0 29 q9.1), (u1 a0 18 q9.2)) _ _ _ (by omega) (by omega) (e1 ▸ lookB_inv hI) (it_back hlt h9b e1) hP hD hS (lv_sub hl [0, 2] rfl)
        have li : ∀ (n1 : Nat) (i : Int32) (q : CM) (H : Heap) (locs : List Loc) (ls : Array Slot), cntI i z3_3 = n1 → -32 ≤ i.toInt → gridM a0 b (cntI z4_4 z5_5) z4_4 n1 i q = q9 → va_P g.1 classes (wM g ad (upd s0 29 q.1, u1 a0 18 q.2)) H → va_D A (wM g ad (upd s0 29 q.1, u1 a0 18 q.2)) → va_S A s.heap H locs → lv_has ls 9 [(6, .int i), (5, .int z5_5), (4, .int z4_4), (3, .int z3_3), (2, .int z2_2), (1, .int (nI b)), (0, .ref (ad 0))] → W p l e { frames := 3, cells := 0, slots := 0, locals := 78 } s m ([.ref (ad 0)] : List Value).toArray below meth c H locs 0 0 Q (F0 m 79 ls []) := by
          intro n1
          induction n1 with
          | zero =>
            intro i q H locs ls hk hlo hg hP hD hS hl
            have hg := gridM_z hg
            subst hg
            refine lv_iload hx hb d_Mo_look_79 (lv_at hl 0 rfl) ?_
            refine lv_iload_n hx hb d_Mo_look_81 rfl (lv_at hl 3 rfl) ?_
            refine lv_icmp_gt (tgt := 182) hx hb d_Mo_look_82 (by decide) (fun c82_13 => ?_) (fun c82_13 => ?_)
            rotate_left
            · exact absurd (cnt_z hk) c82_13
            exact K _ _ _ hP hD hS (lv_sub hl [5, 6] rfl)
          | succ n1 ih1 =>
            intro i q H locs ls hk hlo hg hP hD hS hl
            refine lv_iload hx hb d_Mo_look_79 (lv_at hl 0 rfl) ?_
            refine lv_iload_n hx hb d_Mo_look_81 rfl (lv_at hl 3 rfl) ?_
            refine lv_icmp_gt (tgt := 182) hx hb d_Mo_look_82 (by decide) (fun c82_14 => ?_) (fun c82_14 => ?_)
            · exact absurd c82_14 (cnt_s hk)
            refine lv_iload hx hb d_Mo_look_85 (lv_at hl 2 rfl) ?_
            refine lv_istore (lv' := [(7, .int z4_4), (6, .int i), (5, .int z5_5), (4, .int z4_4), (3, .int z3_3), (2, .int z2_2), (1, .int (nI b)), (0, .ref (ad 0))]) hx hb d_Mo_look_87 hl (by decide) rfl (fun ls hl => ?_)
            generalize hq8 : rowM a0 b i (cntI z4_4 z5_5) z4_4 q = q8
            have hg := gridM_s hg hq8
            have K2 : ∀ (H : Heap) (locs : List Loc) (ls : Array Slot), va_P g.1 classes (wM g ad (upd s0 29 q8.1, u1 a0 18 q8.2)) H → va_D A (wM g ad (upd s0 29 q8.1, u1 a0 18 q8.2)) → va_S A s.heap H locs → lv_has ls 9 [(6, .int i), (5, .int z5_5), (4, .int z4_4), (3, .int z3_3), (2, .int z2_2), (1, .int (nI b)), (0, .ref (ad 0))] → W p l e { frames := 3, cells := 0, slots := 0, locals := 78 } s m ([.ref (ad 0)] : List Value).toArray below meth c H locs 0 0 Q (F0 m 176 ls []) := by
              intro H locs ls hP hD hS hl
              refine lv_iinc (v := (i + 1)) (lv' := [(6, .int (i + 1)), (5, .int z5_5), (4, .int z4_4), (3, .int z3_3), (2, .int z2_2), (1, .int (nI b)), (0, .ref (ad 0))]) hx hb d_Mo_look_176 hl (k := 0) rfl rfl (by decide) rfl (fun ls hl => ?_)
              refine lv_goto (tgt := 79) hx hb d_Mo_look_179 (by decide) ?_
              exact ih1 _ q8 _ _ _ (cnt_n hk hlo bti.2).1 (cnt_n hk hlo bti.2).2 hg hP hD hS (lv_sub hl [0, 1, 2, 3, 4, 5, 6] rfl)
            have lj : ∀ (n2 : Nat) (j : Int32) (q : CM) (H : Heap) (locs : List Loc) (ls : Array Slot), cntI j z5_5 = n2 → -32 ≤ j.toInt → rowM a0 b i n2 j q = q8 → va_P g.1 classes (wM g ad (upd s0 29 q.1, u1 a0 18 q.2)) H → va_D A (wM g ad (upd s0 29 q.1, u1 a0 18 q.2)) → va_S A s.heap H locs → lv_has ls 9 [(7, .int j), (6, .int i), (5, .int z5_5), (4, .int z4_4), (3, .int z3_3), (2, .int z2_2), (1, .int (nI b)), (0, .ref (ad 0))] → W p l e { frames := 3, cells := 0, slots := 0, locals := 78 } s m ([.ref (ad 0)] : List Value).toArray below meth c H locs 0 0 Q (F0 m 89 ls []) := by
              intro n2
              induction n2 with
              | zero =>
                intro j q H locs ls hk2 hlo2 hr hP hD hS hl
                have hr := rowM_z hr
                subst hr
                refine lv_iload hx hb d_Mo_look_89 (lv_at hl 0 rfl) ?_
                refine lv_iload hx hb d_Mo_look_91 (lv_at hl 2 rfl) ?_
                refine lv_icmp_gt (tgt := 176) hx hb d_Mo_look_93 (by decide) (fun c93_15 => ?_) (fun c93_15 => ?_)
                rotate_left
                · exact absurd (cnt_z hk2) c93_15
                exact K2 _ _ _ hP hD hS (lv_sub hl [1, 2, 3, 4, 5, 6, 7] rfl)
              | succ n2 ih2 =>
                intro j q H locs ls hk2 hlo2 hr hP hD hS hl
                have hat : vp_in (atI i j) 4096 := at_in hlo (cnt_le hk bti.2) hlo2 (cnt_le hk2 btj.2)
                refine lv_iload hx hb d_Mo_look_89 (lv_at hl 0 rfl) ?_
                refine lv_iload hx hb d_Mo_look_91 (lv_at hl 2 rfl) ?_
                refine lv_icmp_gt (tgt := 176) hx hb d_Mo_look_93 (by decide) (fun c93_16 => ?_) (fun c93_16 => ?_)
                · exact absurd c93_16 (cnt_s hk2)
                refine lv_bipush (v := 64) hx hb d_Mo_look_96 (by decide) ?_
                refine lv_iload hx hb d_Mo_look_98 (lv_at hl 1 rfl) ?_
                refine lv_bipush (v := 32) hx hb d_Mo_look_100 (by decide) ?_
                refine lv_iadd hx hb d_Mo_look_102 ?_
                refine lv_imul hx hb d_Mo_look_103 ?_
                refine lv_iload hx hb d_Mo_look_104 (lv_at hl 0 rfl) ?_
                refine lv_iadd hx hb d_Mo_look_106 ?_
                refine lv_bipush (v := 32) hx hb d_Mo_look_107 (by decide) ?_
                refine lv_iadd hx hb d_Mo_look_109 ?_
                refine lv_istore (lv' := [(8, .int (((64 * (i + 32)) + j) + 32)), (7, .int j), (6, .int i), (5, .int z5_5), (4, .int z4_4), (3, .int z3_3), (2, .int z2_2), (1, .int (nI b)), (0, .ref (ad 0))]) hx hb d_Mo_look_110 hl (by decide) rfl (fun ls hl => ?_)
                refine lv_aload_n hx hb d_Mo_look_112 rfl (lv_at hl 8 rfl) ?_
                refine get_ms (x := ((upd s0 29 q.1), (u1 a0 18 q.2))) C 30 q_580 rfl (by decide) (.ref (ad 18)) rfl hP d_Mo_look_113 ?_
                refine lv_iload hx hb d_Mo_look_116 (lv_at hl 0 rfl) ?_
                refine get_mz (x := ((upd s0 29 q.1), (u1 a0 18 q.2))) C 18 4096 rfl hat (q.2 ((((64 * (i + 32)) + j) + 32).toNatClampNeg)) (congrFun (u1_s (a := a0) (k := 18) (f := q.2)) ((((64 * (i + 32)) + j) + 32).toNatClampNeg)) hP d_Mo_look_118 ?_
                refine lv_if_ne (tgt := 170) hx hb d_Mo_look_119 (by decide) (fun c119_17 => ?_) (fun c119_17 => ?_)
                · refine lv_iinc (v := (j + 1)) (lv' := [(7, .int (j + 1)), (8, .int (((64 * (i + 32)) + j) + 32)), (6, .int i), (5, .int z5_5), (4, .int z4_4), (3, .int z3_3), (2, .int z2_2), (1, .int (nI b)), (0, .ref (ad 0))]) hx hb d_Mo_look_170 hl (k := 1) rfl rfl (by decide) rfl (fun ls hl => ?_)
                  refine lv_goto (tgt := 89) hx hb d_Mo_look_173 (by decide) ?_
                  exact ih2 _ q _ _ _ (cnt_n hk2 hlo2 btj.2).1 (cnt_n hk2 hlo2 btj.2).2 (rowM_s hr (if_neg c119_17)) hP hD hS (lv_sub hl [0, 2, 3, 4, 5, 6, 7, 8] rfl)
                · refine lv_aload_n hx hb d_Mo_look_122 rfl (lv_at hl 8 rfl) ?_
                  refine lv_iload_n hx hb d_Mo_look_123 rfl (lv_at hl 7 rfl) ?_
                  refine lv_sipush (v := 4096) hx hb d_Mo_look_124 (by decide) ?_
                  refine lv_bipush (v := 8) hx hb d_Mo_look_127 (by decide) ?_
                  refine lv_iload hx hb d_Mo_look_129 (lv_at hl 2 rfl) ?_
                  refine lv_imul hx hb d_Mo_look_131 ?_
                  refine lv_iconst (v := 4) hx hb d_Mo_look_132 (by decide) ?_
                  refine lv_iadd hx hb d_Mo_look_133 ?_
                  refine lv_imul hx hb d_Mo_look_134 ?_
                  refine lv_sipush (v := 4096) hx hb d_Mo_look_135 (by decide) ?_
                  refine lv_bipush (v := 8) hx hb d_Mo_look_138 (by decide) ?_
                  refine lv_iload hx hb d_Mo_look_140 (lv_at hl 1 rfl) ?_
                  refine lv_imul hx hb d_Mo_look_142 ?_
                  refine lv_iconst (v := 4) hx hb d_Mo_look_143 (by decide) ?_
                  refine lv_iadd hx hb d_Mo_look_144 ?_
                  refine lv_imul hx hb d_Mo_look_145 ?_
                  refine cvI C v_Mo_112 [.int (nI b), .int (4096 * ((8 * i) + 4)), .int (4096 * ((8 * j) + 4))] [] (c_Mo_covers l g ad ((upd s0 29 q.1), (u1 a0 18 q.2)) (fun i hi => (congrFun (u1_k (a := a0) (k := 18) (f := q.2) (n := 1) (by decide)) i).trans (hc i hi)) b hb3 (4096 * ((8 * i) + 4)) (4096 * ((8 * j) + 4))) hP hD hS [0, 1, 2, 3, 4, 5, 6, 7, 8, 9, 10, 11, 12, 13, 14, 15, 16, 17, 18, 19, 20] [] [0, 1, 2, 3, 4, 5, 6, 7, 8, 9, 10, 11, 12, 13, 14, 15, 16, 17, 18, 19, 20] [] (wM g ad ((upd s0 29 q.1), (u1 a0 18 q.2))) rfl rfl (by decide) (by decide) (by decide) rfl (by decide) 0 rfl rfl rfl rfl hl.1 (Nat.le_of_ble_eq_true rfl) ⟨Nat.le_of_ble_eq_true rfl, Nat.le_of_ble_eq_true rfl⟩ d_Mo_look_146 ⟨Nat.zero_le _, Nat.zero_le _⟩ (fun H locs hP hD hS => ?_)
                  refine lv_if_eq (tgt := 170) hx hb d_Mo_look_149 (by decide) (fun c149_18 => ?_) (fun c149_18 => ?_)
                  · refine lv_iinc (v := (j + 1)) (lv' := [(7, .int (j + 1)), (8, .int (((64 * (i + 32)) + j) + 32)), (6, .int i), (5, .int z5_5), (4, .int z4_4), (3, .int z3_3), (2, .int z2_2), (1, .int (nI b)), (0, .ref (ad 0))]) hx hb d_Mo_look_170 hl (k := 1) rfl rfl (by decide) rfl (fun ls hl => ?_)
                    refine lv_goto (tgt := 89) hx hb d_Mo_look_173 (by decide) ?_
                    exact ih2 _ q _ _ _ (cnt_n hk2 hlo2 btj.2).1 (cnt_n hk2 hlo2 btj.2).2 (rowM_s hr ((if_pos c119_17).trans (if_pos c149_18))) hP hD hS (lv_sub hl [0, 2, 3, 4, 5, 6, 7, 8] rfl)
                  · refine lv_aload_n hx hb d_Mo_look_152 rfl (lv_at hl 8 rfl) ?_
                    refine get_ms (x := ((upd s0 29 q.1), (u1 a0 18 q.2))) C 30 q_580 rfl (by decide) (.ref (ad 18)) rfl hP d_Mo_look_153 ?_
                    refine lv_iload hx hb d_Mo_look_156 (lv_at hl 0 rfl) ?_
                    refine lv_iconst (v := 1) hx hb d_Mo_look_158 (by decide) ?_
                    refine put_mz C 18 4096 rfl hat ((((64 * (i + 32)) + j) + 32).toNatClampNeg) rfl rfl wM_a18 hP hD hS d_Mo_look_159 (fun H locs hP hD hS => ?_)
                    refine lv_aload_n hx hb d_Mo_look_160 rfl (lv_at hl 8 rfl) ?_
                    refine lv_dup hx hb d_Mo_look_161 rfl ?_
                    refine get_mi (x := ((upd s0 29 q.1), (u2 (u1 a0 18 q.2) 18 ((((64 * (i + 32)) + j) + 32).toNatClampNeg) 1))) C 29 q_579 rfl (by decide) rfl q.1 (pk_us (f := s0) (k := 29) (x := q.1)) hP d_Mo_look_162 ?_
                    refine lv_iconst (v := 1) hx hb d_Mo_look_165 (by decide) ?_
                    refine lv_iadd hx hb d_Mo_look_166 ?_
                    refine put_ms C 29 (ty := .int) q_579 rfl (by decide) rfl (by decide +kernel) rfl rfl wM_s29 hP hD hS d_Mo_look_167 (fun H locs hP hD hS => ?_)
                    refine lv_iinc (v := (j + 1)) (lv' := [(7, .int (j + 1)), (8, .int (((64 * (i + 32)) + j) + 32)), (6, .int i), (5, .int z5_5), (4, .int z4_4), (3, .int z3_3), (2, .int z2_2), (1, .int (nI b)), (0, .ref (ad 0))]) hx hb d_Mo_look_170 hl (k := 1) rfl rfl (by decide) rfl (fun ls hl => ?_)
                    refine lv_goto (tgt := 89) hx hb d_Mo_look_173 (by decide) ?_
                    rw [u2_u1, upd_upd] at hP hD
                    exact ih2 _ (q.1 + 1, upd q.2 (atI i j).toNatClampNeg 1) _ _ _ (cnt_n hk2 hlo2 btj.2).1 (cnt_n hk2 hlo2 btj.2).2 (rowM_s hr ((if_pos c119_17).trans (if_neg c149_18))) hP hD hS (lv_sub hl [0, 2, 3, 4, 5, 6, 7, 8] rfl)
            exact lj _ _ q _ _ _ rfl bfj.1 hq8 hP hD hS (lv_sub hl [0, 1, 2, 3, 4, 5, 6, 7] rfl)
        have hP : va_P g.1 classes (wM g ad (upd s0 29 (s0 29), u1 a0 18 (a0 18))) H := by rw [upd_id, u1_id]; exact hP
        have hD : va_D A (wM g ad (upd s0 29 (s0 29), u1 a0 18 (a0 18))) := by rw [upd_id, u1_id]; exact hD
        exact li _ _ (s0 29, a0 18) _ _ _ rfl bfi.1 h9 hP hD hS (lv_sub hl [0, 1, 2, 3, 4, 5, 6] rfl)
  exact lp (n + 1) 0 x _ _ _ (by omega) (by omega) hI h9 hP hD hS (lv_sub hl [0, 1] rfl)
