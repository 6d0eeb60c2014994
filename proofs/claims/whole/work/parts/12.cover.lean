/-! the cells that a body covers -/
def cntI (lo hi : Int32) : Nat := (hi.toInt + 1 - lo.toInt).toNat
def itr {α : Type} (f : α → α) : Nat → α → α
  | 0, x => x
  | n + 1, x => itr f n (f x)
theorem itr_s {α : Type} (f : α → α) (n : Nat) (x : α) : itr f (n + 1) x = itr f n (f x) := rfl
theorem itr_z {α : Type} (f : α → α) (x : α) : itr f 0 x = x := rfl
def stepI (sh : St2) (b : Nat) (dx dy j : Int32) (q : Int32 × Int64 × Int64 × CC) : Int32 × Int64 × Int64 × CC := (q.1 + 1, q.2.1 + 32768 * dx.toInt64, q.2.2.1 - 32768 * dy.toInt64, if insI sh b q.2.1 q.2.2.1 = 0 then q.2.2.2 else markF q.1 j q.2.2.2)
def covI (sh : St2) (b : Nat) (dx dy j : Int32) (n : Nat) (i : Int32) (al ac : Int64) (x : CC) : CC := (itr (stepI sh b dx dy j) n (i, al, ac, x)).2.2.2
def stepJ (sh po : St2) (b : Nat) (dx dy fi : Int32) (ni : Nat) (u : Int64) (q : Int32 × CC) : Int32 × CC := (q.1 + 1, covI sh b dx dy q.1 ni fi (u * dx.toInt64 + (midI q.1 - po 1 b).toInt64 * dy.toInt64) ((midI q.1 - po 1 b).toInt64 * dx.toInt64 - u * dy.toInt64) q.2)
def covJ (sh po : St2) (b : Nat) (dx dy fi : Int32) (ni : Nat) (u : Int64) (n : Nat) (j : Int32) (x : CC) : CC := (itr (stepJ sh po b dx dy fi ni u) n (j, x)).2
def fiI (sh po : St2) (b : Nat) : Int32 := firI (po 0 b + minI (sh 2 b * dX (po 2 b)) (-(sh 3 b) * dX (po 2 b)) - (sh 4 b * absI (dY (po 2 b)) + 4096))
def liI (sh po : St2) (b : Nat) : Int32 := lasI (po 0 b + maxI (sh 2 b * dX (po 2 b)) (-(sh 3 b) * dX (po 2 b)) + (sh 4 b * absI (dY (po 2 b)) + 4096))
def fjI (sh po : St2) (b : Nat) : Int32 := firI (po 1 b + minI (sh 2 b * dY (po 2 b)) (-(sh 3 b) * dY (po 2 b)) - (sh 4 b * absI (dX (po 2 b)) + 4096))
def ljI (sh po : St2) (b : Nat) : Int32 := lasI (po 1 b + maxI (sh 2 b * dY (po 2 b)) (-(sh 3 b) * dY (po 2 b)) + (sh 4 b * absI (dX (po 2 b)) + 4096))
def coverF (sh po : St2) (b : Nat) (x : CC) : CC := covJ sh po b (dX (po 2 b)) (dY (po 2 b)) (fiI sh po b) (cntI (fiI sh po b) (liI sh po b)) (midI (fiI sh po b) - po 0 b).toInt64 (cntI (fjI sh po b) (ljI sh po b)) (fjI sh po b) x
theorem i32_lt {a b : Int32} : a < b ↔ a.toInt < b.toInt := Int32.lt_iff_toInt_lt
theorem i32_le {a b : Int32} : a ≤ b ↔ a.toInt ≤ b.toInt := Int32.le_iff_toInt_le
theorem firI_ge (p : Int32) : -32 ≤ (firI p).toInt := by
  unfold firI maxI
  split
  · next h => exact Int.le_of_lt (i32_lt.mp h)
  · decide
theorem lasI_le (p : Int32) : (lasI p).toInt ≤ 31 := by
  unfold lasI minI
  split
  · next h => exact Int.le_of_lt (i32_lt.mp h)
  · decide
theorem succ_toInt {i : Int32} (h1 : -32 ≤ i.toInt) (h2 : i.toInt ≤ 31) : (i + 1).toInt = i.toInt + 1 := by
  rw [Int32.toInt_add]
  show (i.toInt + 1).bmod (2 ^ 32) = _
  exact Int.bmod_eq_of_le (by omega) (by omega)
theorem cnt_z {i li : Int32} (h : cntI i li = 0) : li < i := i32_lt.mpr (by unfold cntI at h; omega)
theorem cnt_s {i li : Int32} {n : Nat} (h : cntI i li = n + 1) : ¬ li < i := fun q => by
  have := i32_lt.mp q
  unfold cntI at h
  omega
theorem cnt_n {i li : Int32} {n : Nat} (h : cntI i li = n + 1) (h1 : -32 ≤ i.toInt) (h2 : li.toInt ≤ 31) : cntI (i + 1) li = n ∧ -32 ≤ (i + 1).toInt := by
  have h3 : i.toInt ≤ 31 := by unfold cntI at h; omega
  have e := succ_toInt h1 h3
  unfold cntI at h ⊢
  omega
theorem covI_s {sh : St2} {b : Nat} {dx dy j : Int32} {n : Nat} {i : Int32} {al ac : Int64} {x x8 x' : CC} (h : covI sh b dx dy j (n + 1) i al ac x = x8) (e : (if insI sh b al ac = 0 then x else markF i j x) = x') : covI sh b dx dy j n (i + 1) (al + 32768 * dx.toInt64) (ac - 32768 * dy.toInt64) x' = x8 := by
  unfold covI at h ⊢
  rw [itr_s] at h
  have e2 : stepI sh b dx dy j (i, al, ac, x) = (i + 1, al + 32768 * dx.toInt64, ac - 32768 * dy.toInt64, x') := by
    unfold stepI
    rw [e]
  rw [e2] at h
  exact h
theorem covJ_s {sh po : St2} {b : Nat} {dx dy fi : Int32} {ni : Nat} {u : Int64} {n : Nat} {j : Int32} {x x9 x8 : CC} {v al ac : Int64} (hv : v = (midI j - po 1 b).toInt64) (hal : al = u * dx.toInt64 + v * dy.toInt64) (hac : ac = v * dx.toInt64 - u * dy.toInt64) (h : covJ sh po b dx dy fi ni u (n + 1) j x = x9) (e : covI sh b dx dy j ni fi al ac x = x8) : covJ sh po b dx dy fi ni u n (j + 1) x8 = x9 := by
  unfold covJ at h ⊢
  rw [itr_s] at h
  have e2 : stepJ sh po b dx dy fi ni u (j, x) = (j + 1, x8) := by
    unfold stepJ
    rw [← e, hal, hac, hv]
  rw [e2] at h
  exact h
theorem covI_z {sh : St2} {b : Nat} {dx dy j i : Int32} {al ac : Int64} {x x8 : CC} (h : covI sh b dx dy j 0 i al ac x = x8) : x = x8 := by
  unfold covI at h
  rw [itr_z] at h
  exact h
theorem covJ_z {sh po : St2} {b : Nat} {dx dy fi : Int32} {ni : Nat} {u : Int64} {j : Int32} {x x9 : CC} (h : covJ sh po b dx dy fi ni u 0 j x = x9) : x = x9 := by
  unfold covJ at h
  rw [itr_z] at h
  exact h
def wCo (g : Glob) (a0 a1 a2 a3 : Nat) (sh po : St2) (b : Nat) (x : CC) : va_W := [(a0, .inr (1, [.ref a1, .int x.1])), qLongs a1 (g.2.1 1) 64 x.2, qShape a2 sh b, qPose a3 po b]

set_option maxHeartbeats 4000000 in
set_option maxRecDepth 100000 in
theorem c_Ce_wipe (l : Launch) (g : Glob) (a0 a1 : Nat) (x : CC) : CV l g y_Ce_wipe b_Ce_wipe 1 1 24 [.ref a0] (wC g a0 a1 x) (wC g a0 a1 (0, fun _ => 0)) := by
  refine CV.of (by decide +kernel) (Nat.le_of_ble_eq_true rfl) ?_
  intro p e s m below meth c A Q ls C hP hD hl hret hS
  obtain ⟨hx, hb, hml, hown, hw, hE, hA⟩ := id C
  have hl : lv_has ls 1 [(0, .ref a0)] := hl
  refine lv_aload_n hx hb d_Ce_wipe_0 rfl (lv_at hl 0 rfl) ?_
  refine va_get (D := g.1) (ci := 1) (v := .ref a1) (C := R_Ce) (T := F_Ce) (N := 2) hx hb hw i_Ce hown hE.1 hP 0 rfl rfl 0 (by decide) (hw _ q_147) (fun _ h9 => h9) rfl d_Ce_wipe_1 ?_
  refine lv_lconst (v := 0) hx hb d_Ce_wipe_4 (by decide) ?_
  refine csV C v_Ce_15 [.ref a1, .long 0] [] (c_Ar_fill l g a1 0 x.2) hP hD hS [1] [0] [0, 1] [(a0, .inr (1, [.ref a1, .int x.1]))] ([(a0, .inr (1, [.ref a1, .int x.1])), (a1, .inl (g.2.1 1, 64, .inr (.inl (fun _ => 0))))]) rfl rfl (by decide) (by decide) (by decide) rfl (by decide) rfl rfl hl.1 (Nat.le_of_ble_eq_true rfl) ⟨Nat.le_of_ble_eq_true rfl, Nat.le_of_ble_eq_true rfl⟩ d_Ce_wipe_5 ⟨Nat.zero_le _, Nat.zero_le _⟩ (fun H locs hP hD hS => ?_)
  refine lv_aload_n hx hb d_Ce_wipe_8 rfl (lv_at hl 0 rfl) ?_
  refine lv_iconst (v := 0) hx hb d_Ce_wipe_9 (by decide) ?_
  refine va_put (D := g.1) (ci := 1) (v := .int 0) (ty := .int) (C := R_Ce) (T := F_Ce) (N := 2) hx hb hw i_Ce t_Ce t_Ce_ok n_Ce hown hE.1 hP hD hS 0 rfl rfl 1 (by decide) (hw _ q_148) (fun _ h9 => h9) rfl (by decide +kernel) rfl rfl (Nat.le_of_ble_eq_true rfl) d_Ce_wipe_10 (fun H locs hP hD hS => ?_)
  have hP : va_P g.1 classes ([(a0, .inr (1, [.ref a1, .int 0])), (a1, .inl (g.2.1 1, 64, .inr (.inl (fun _ => 0))))]) H := hP
  have hD : va_D A ([(a0, .inr (1, [.ref a1, .int 0])), (a1, .inl (g.2.1 1, 64, .inr (.inl (fun _ => 0))))]) := hD
  exact hret _ _ _ _ _ rfl hP hD hS d_Ce_wipe_13
set_option maxHeartbeats 4000000 in
set_option maxRecDepth 100000 in
theorem c_Ce_cover (l : Launch) (g : Glob) (a0 a1 a2 a3 : Nat) (sh po : St2) (b : Nat) (x : CC) : CV l g y_Ce_cover b_Ce_cover 25 2 42 [.ref a0, .ref a2, .ref a3] (wCo g a0 a1 a2 a3 sh po b x) (wCo g a0 a1 a2 a3 sh po b (coverF sh po b x)) := by
  refine CV.of (by decide +kernel) (Nat.le_of_ble_eq_true rfl) ?_
  intro p e s m below meth c A Q ls C hP hD hl hret hS
  obtain ⟨hx, hb, hml, hown, hw, hE, hA⟩ := id C
  have hl : lv_has ls 25 [(0, .ref a0), (1, .ref a2), (2, .ref a3)] := hl
  generalize h9 : coverF sh po b x = x9 at hret
  refine lv_aload_n hx hb d_Ce_cover_0 rfl (lv_at hl 2 rfl) ?_
  refine va_get (D := g.1) (ci := 3) (v := .int (po 2 b)) (C := R_Po) (T := F_Po) (N := 5) hx hb hw i_Po hown hE.1 hP 3 rfl rfl 2 (by decide) (hw _ q_125) (fun _ h9 => h9) rfl d_Ce_cover_1 ?_
  refine csI C v_Ce_30 [.int (po 2 b)] [] (c_Di_dx l g (po 2 b)) hP hS rfl rfl hl.1 (Nat.le_of_ble_eq_true rfl) ⟨Nat.le_of_ble_eq_true rfl, Nat.le_of_ble_eq_true rfl⟩ d_Ce_cover_4 ⟨Nat.zero_le _, Nat.zero_le _⟩ (fun H locs hP hS => ?_)
  refine lv_topi (fun z3_1 ez3_1 => ?_)
  refine lv_istore_n (lv' := [(3, .int z3_1), (0, .ref a0), (1, .ref a2), (2, .ref a3)]) hx hb d_Ce_cover_7 rfl hl (by decide) rfl (fun ls hl => ?_)
  refine lv_aload_n hx hb d_Ce_cover_8 rfl (lv_at hl 3 rfl) ?_
  refine va_get (D := g.1) (ci := 3) (v := .int (po 2 b)) (C := R_Po) (T := F_Po) (N := 5) hx hb hw i_Po hown hE.1 hP 3 rfl rfl 2 (by decide) (hw _ q_125) (fun _ h9 => h9) rfl d_Ce_cover_9 ?_
  refine csI C v_Ce_36 [.int (po 2 b)] [] (c_Di_dy l g (po 2 b)) hP hS rfl rfl hl.1 (Nat.le_of_ble_eq_true rfl) ⟨Nat.le_of_ble_eq_true rfl, Nat.le_of_ble_eq_true rfl⟩ d_Ce_cover_12 ⟨Nat.zero_le _, Nat.zero_le _⟩ (fun H locs hP hS => ?_)
  refine lv_topi (fun z4_2 ez4_2 => ?_)
  refine lv_istore (lv' := [(4, .int z4_2), (3, .int z3_1), (0, .ref a0), (1, .ref a2), (2, .ref a3)]) hx hb d_Ce_cover_15 hl (by decide) rfl (fun ls hl => ?_)
  refine lv_aload_n hx hb d_Ce_cover_17 rfl (lv_at hl 3 rfl) ?_
  refine va_get (D := g.1) (ci := 6) (v := .int (sh 2 b)) (C := R_Sh) (T := F_Sh) (N := 5) hx hb hw i_Sh hown hE.1 hP 2 rfl rfl 2 (by decide) (hw _ q_45) (fun _ h9 => h9) rfl d_Ce_cover_18 ?_
  refine lv_iload_n hx hb d_Ce_cover_21 rfl (lv_at hl 1 rfl) ?_
  refine lv_imul hx hb d_Ce_cover_22 ?_
  refine lv_topi (fun z5_3 ez5_3 => ?_)
  refine lv_istore (lv' := [(5, .int z5_3), (4, .int z4_2), (3, .int z3_1), (0, .ref a0), (1, .ref a2), (2, .ref a3)]) hx hb d_Ce_cover_23 hl (by decide) rfl (fun ls hl => ?_)
  refine lv_aload_n hx hb d_Ce_cover_25 rfl (lv_at hl 4 rfl) ?_
  refine va_get (D := g.1) (ci := 6) (v := .int (sh 3 b)) (C := R_Sh) (T := F_Sh) (N := 5) hx hb hw i_Sh hown hE.1 hP 2 rfl rfl 3 (by decide) (hw _ q_48) (fun _ h9 => h9) rfl d_Ce_cover_26 ?_
  refine lv_ineg hx hb d_Ce_cover_29 ?_
  refine lv_iload_n hx hb d_Ce_cover_30 rfl (lv_at hl 2 rfl) ?_
  refine lv_imul hx hb d_Ce_cover_31 ?_
  refine lv_topi (fun z6_4 ez6_4 => ?_)
  refine lv_istore (lv' := [(6, .int z6_4), (5, .int z5_3), (4, .int z4_2), (3, .int z3_1), (0, .ref a0), (1, .ref a2), (2, .ref a3)]) hx hb d_Ce_cover_32 hl (by decide) rfl (fun ls hl => ?_)
  refine lv_aload_n hx hb d_Ce_cover_34 rfl (lv_at hl 5 rfl) ?_
  refine va_get (D := g.1) (ci := 6) (v := .int (sh 2 b)) (C := R_Sh) (T := F_Sh) (N := 5) hx hb hw i_Sh hown hE.1 hP 2 rfl rfl 2 (by decide) (hw _ q_45) (fun _ h9 => h9) rfl d_Ce_cover_35 ?_
  refine lv_iload hx hb d_Ce_cover_38 (lv_at hl 2 rfl) ?_
  refine lv_imul hx hb d_Ce_cover_40 ?_
  refine lv_topi (fun z7_5 ez7_5 => ?_)
  refine lv_istore (lv' := [(7, .int z7_5), (6, .int z6_4), (5, .int z5_3), (4, .int z4_2), (3, .int z3_1), (0, .ref a0), (1, .ref a2), (2, .ref a3)]) hx hb d_Ce_cover_41 hl (by decide) rfl (fun ls hl => ?_)
  refine lv_aload_n hx hb d_Ce_cover_43 rfl (lv_at hl 6 rfl) ?_
  refine va_get (D := g.1) (ci := 6) (v := .int (sh 3 b)) (C := R_Sh) (T := F_Sh) (N := 5) hx hb hw i_Sh hown hE.1 hP 2 rfl rfl 3 (by decide) (hw _ q_48) (fun _ h9 => h9) rfl d_Ce_cover_44 ?_
  refine lv_ineg hx hb d_Ce_cover_47 ?_
  refine lv_iload hx hb d_Ce_cover_48 (lv_at hl 3 rfl) ?_
  refine lv_imul hx hb d_Ce_cover_50 ?_
  refine lv_topi (fun z8_6 ez8_6 => ?_)
  refine lv_istore (lv' := [(8, .int z8_6), (7, .int z7_5), (6, .int z6_4), (5, .int z5_3), (4, .int z4_2), (3, .int z3_1), (0, .ref a0), (1, .ref a2), (2, .ref a3)]) hx hb d_Ce_cover_51 hl (by decide) rfl (fun ls hl => ?_)
  refine lv_aload_n hx hb d_Ce_cover_53 rfl (lv_at hl 7 rfl) ?_
  refine va_get (D := g.1) (ci := 6) (v := .int (sh 4 b)) (C := R_Sh) (T := F_Sh) (N := 5) hx hb hw i_Sh hown hE.1 hP 2 rfl rfl 4 (by decide) (hw _ q_51) (fun _ h9 => h9) rfl d_Ce_cover_54 ?_
  refine lv_iload hx hb d_Ce_cover_57 (lv_at hl 4 rfl) ?_
  refine va_mabs hx hb (hml.trans hl.1.symm) hown (hw _ q_363) (hw _ q_364) (hw _ q_16) (hw _ q_365) (Nat.le_of_ble_eq_true rfl) (Nat.le_of_ble_eq_true rfl) (Nat.zero_le _) (Nat.zero_le _) d_Ce_cover_59 ?_
  refine lv_imul hx hb d_Ce_cover_62 ?_
  refine lv_sipush (v := 4096) hx hb d_Ce_cover_63 (by decide) ?_
  refine lv_iadd hx hb d_Ce_cover_66 ?_
  refine lv_topi (fun z9_7 ez9_7 => ?_)
  refine lv_istore (lv' := [(9, .int z9_7), (8, .int z8_6), (7, .int z7_5), (6, .int z6_4), (5, .int z5_3), (4, .int z4_2), (3, .int z3_1), (0, .ref a0), (1, .ref a2), (2, .ref a3)]) hx hb d_Ce_cover_67 hl (by decide) rfl (fun ls hl => ?_)
  refine lv_aload_n hx hb d_Ce_cover_69 rfl (lv_at hl 8 rfl) ?_
  refine va_get (D := g.1) (ci := 6) (v := .int (sh 4 b)) (C := R_Sh) (T := F_Sh) (N := 5) hx hb hw i_Sh hown hE.1 hP 2 rfl rfl 4 (by decide) (hw _ q_51) (fun _ h9 => h9) rfl d_Ce_cover_70 ?_
  refine lv_iload_n hx hb d_Ce_cover_73 rfl (lv_at hl 6 rfl) ?_
  refine va_mabs hx hb (hml.trans hl.1.symm) hown (hw _ q_363) (hw _ q_364) (hw _ q_16) (hw _ q_365) (Nat.le_of_ble_eq_true rfl) (Nat.le_of_ble_eq_true rfl) (Nat.zero_le _) (Nat.zero_le _) d_Ce_cover_74 ?_
  refine lv_imul hx hb d_Ce_cover_77 ?_
  refine lv_sipush (v := 4096) hx hb d_Ce_cover_78 (by decide) ?_
  refine lv_iadd hx hb d_Ce_cover_81 ?_
  refine lv_topi (fun z10_8 ez10_8 => ?_)
  refine lv_istore (lv' := [(10, .int z10_8), (9, .int z9_7), (8, .int z8_6), (7, .int z7_5), (6, .int z6_4), (5, .int z5_3), (4, .int z4_2), (3, .int z3_1), (0, .ref a0), (1, .ref a2), (2, .ref a3)]) hx hb d_Ce_cover_82 hl (by decide) rfl (fun ls hl => ?_)
  refine lv_aload_n hx hb d_Ce_cover_84 rfl (lv_at hl 10 rfl) ?_
  refine va_get (D := g.1) (ci := 3) (v := .int (po 0 b)) (C := R_Po) (T := F_Po) (N := 5) hx hb hw i_Po hown hE.1 hP 3 rfl rfl 0 (by decide) (hw _ q_119) (fun _ h9 => h9) rfl d_Ce_cover_85 ?_
  refine lv_iload hx hb d_Ce_cover_88 (lv_at hl 5 rfl) ?_
  refine lv_iload hx hb d_Ce_cover_90 (lv_at hl 4 rfl) ?_
  refine va_mmin hx hb (hml.trans hl.1.symm) hown (hw _ q_366) (hw _ q_367) (hw _ q_16) (hw _ q_368) (Nat.le_of_ble_eq_true rfl) (Nat.le_of_ble_eq_true rfl) (Nat.zero_le _) (Nat.zero_le _) d_Ce_cover_92 ?_
  refine lv_iadd hx hb d_Ce_cover_95 ?_
  refine lv_iload hx hb d_Ce_cover_96 (lv_at hl 1 rfl) ?_
  refine lv_isub hx hb d_Ce_cover_98 ?_
  refine csI C v_Ce_62 [.int (((po 0 b) + (minI z5_3 z6_4)) - z9_7)] [] (c_Ce_firstFrom l g (((po 0 b) + (minI z5_3 z6_4)) - z9_7)) hP hS rfl rfl hl.1 (Nat.le_of_ble_eq_true rfl) ⟨Nat.le_of_ble_eq_true rfl, Nat.le_of_ble_eq_true rfl⟩ d_Ce_cover_99 ⟨Nat.zero_le _, Nat.zero_le _⟩ (fun H locs hP hS => ?_)
  refine lv_topi (fun z11_9 ez11_9 => ?_)
  refine lv_istore (lv' := [(11, .int z11_9), (10, .int z10_8), (9, .int z9_7), (8, .int z8_6), (7, .int z7_5), (6, .int z6_4), (5, .int z5_3), (4, .int z4_2), (3, .int z3_1), (0, .ref a0), (1, .ref a2), (2, .ref a3)]) hx hb d_Ce_cover_102 hl (by decide) rfl (fun ls hl => ?_)
  refine lv_aload_n hx hb d_Ce_cover_104 rfl (lv_at hl 11 rfl) ?_
  refine va_get (D := g.1) (ci := 3) (v := .int (po 0 b)) (C := R_Po) (T := F_Po) (N := 5) hx hb hw i_Po hown hE.1 hP 3 rfl rfl 0 (by decide) (hw _ q_119) (fun _ h9 => h9) rfl d_Ce_cover_105 ?_
  refine lv_iload hx hb d_Ce_cover_108 (lv_at hl 6 rfl) ?_
  refine lv_iload hx hb d_Ce_cover_110 (lv_at hl 5 rfl) ?_
  refine va_mmax hx hb (hml.trans hl.1.symm) hown (hw _ q_376) (hw _ q_377) (hw _ q_16) (hw _ q_378) (Nat.le_of_ble_eq_true rfl) (Nat.le_of_ble_eq_true rfl) (Nat.zero_le _) (Nat.zero_le _) d_Ce_cover_112 ?_
  refine lv_iadd hx hb d_Ce_cover_115 ?_
  refine lv_iload hx hb d_Ce_cover_116 (lv_at hl 2 rfl) ?_
  refine lv_iadd hx hb d_Ce_cover_118 ?_
  refine csI C v_Ce_68 [.int (((po 0 b) + (maxI z5_3 z6_4)) + z9_7)] [] (c_Ce_lastUpTo l g (((po 0 b) + (maxI z5_3 z6_4)) + z9_7)) hP hS rfl rfl hl.1 (Nat.le_of_ble_eq_true rfl) ⟨Nat.le_of_ble_eq_true rfl, Nat.le_of_ble_eq_true rfl⟩ d_Ce_cover_119 ⟨Nat.zero_le _, Nat.zero_le _⟩ (fun H locs hP hS => ?_)
  refine lv_topi (fun z12_10 ez12_10 => ?_)
  refine lv_istore (lv' := [(12, .int z12_10), (11, .int z11_9), (10, .int z10_8), (9, .int z9_7), (8, .int z8_6), (7, .int z7_5), (6, .int z6_4), (5, .int z5_3), (4, .int z4_2), (3, .int z3_1), (0, .ref a0), (1, .ref a2), (2, .ref a3)]) hx hb d_Ce_cover_122 hl (by decide) rfl (fun ls hl => ?_)
  refine lv_aload_n hx hb d_Ce_cover_124 rfl (lv_at hl 12 rfl) ?_
  refine va_get (D := g.1) (ci := 3) (v := .int (po 1 b)) (C := R_Po) (T := F_Po) (N := 5) hx hb hw i_Po hown hE.1 hP 3 rfl rfl 1 (by decide) (hw _ q_122) (fun _ h9 => h9) rfl d_Ce_cover_125 ?_
  refine lv_iload hx hb d_Ce_cover_128 (lv_at hl 5 rfl) ?_
  refine lv_iload hx hb d_Ce_cover_130 (lv_at hl 4 rfl) ?_
  refine va_mmin hx hb (hml.trans hl.1.symm) hown (hw _ q_366) (hw _ q_367) (hw _ q_16) (hw _ q_368) (Nat.le_of_ble_eq_true rfl) (Nat.le_of_ble_eq_true rfl) (Nat.zero_le _) (Nat.zero_le _) d_Ce_cover_132 ?_
  refine lv_iadd hx hb d_Ce_cover_135 ?_
  refine lv_iload hx hb d_Ce_cover_136 (lv_at hl 2 rfl) ?_
  refine lv_isub hx hb d_Ce_cover_138 ?_
  refine csI C v_Ce_62 [.int (((po 1 b) + (minI z7_5 z8_6)) - z10_8)] [] (c_Ce_firstFrom l g (((po 1 b) + (minI z7_5 z8_6)) - z10_8)) hP hS rfl rfl hl.1 (Nat.le_of_ble_eq_true rfl) ⟨Nat.le_of_ble_eq_true rfl, Nat.le_of_ble_eq_true rfl⟩ d_Ce_cover_139 ⟨Nat.zero_le _, Nat.zero_le _⟩ (fun H locs hP hS => ?_)
  refine lv_topi (fun z13_11 ez13_11 => ?_)
  refine lv_istore (lv' := [(13, .int z13_11), (12, .int z12_10), (11, .int z11_9), (10, .int z10_8), (9, .int z9_7), (8, .int z8_6), (7, .int z7_5), (6, .int z6_4), (5, .int z5_3), (4, .int z4_2), (3, .int z3_1), (0, .ref a0), (1, .ref a2), (2, .ref a3)]) hx hb d_Ce_cover_142 hl (by decide) rfl (fun ls hl => ?_)
  refine lv_aload_n hx hb d_Ce_cover_144 rfl (lv_at hl 13 rfl) ?_
  refine va_get (D := g.1) (ci := 3) (v := .int (po 1 b)) (C := R_Po) (T := F_Po) (N := 5) hx hb hw i_Po hown hE.1 hP 3 rfl rfl 1 (by decide) (hw _ q_122) (fun _ h9 => h9) rfl d_Ce_cover_145 ?_
  refine lv_iload hx hb d_Ce_cover_148 (lv_at hl 6 rfl) ?_
  refine lv_iload hx hb d_Ce_cover_150 (lv_at hl 5 rfl) ?_
  refine va_mmax hx hb (hml.trans hl.1.symm) hown (hw _ q_376) (hw _ q_377) (hw _ q_16) (hw _ q_378) (Nat.le_of_ble_eq_true rfl) (Nat.le_of_ble_eq_true rfl) (Nat.zero_le _) (Nat.zero_le _) d_Ce_cover_152 ?_
  refine lv_iadd hx hb d_Ce_cover_155 ?_
  refine lv_iload hx hb d_Ce_cover_156 (lv_at hl 3 rfl) ?_
  refine lv_iadd hx hb d_Ce_cover_158 ?_
  refine csI C v_Ce_68 [.int (((po 1 b) + (maxI z7_5 z8_6)) + z10_8)] [] (c_Ce_lastUpTo l g (((po 1 b) + (maxI z7_5 z8_6)) + z10_8)) hP hS rfl rfl hl.1 (Nat.le_of_ble_eq_true rfl) ⟨Nat.le_of_ble_eq_true rfl, Nat.le_of_ble_eq_true rfl⟩ d_Ce_cover_159 ⟨Nat.zero_le _, Nat.zero_le _⟩ (fun H locs hP hS => ?_)
  refine lv_topi (fun z14_12 ez14_12 => ?_)
  refine lv_istore (lv' := [(14, .int z14_12), (13, .int z13_11), (12, .int z12_10), (11, .int z11_9), (10, .int z10_8), (9, .int z9_7), (8, .int z8_6), (7, .int z7_5), (6, .int z6_4), (5, .int z5_3), (4, .int z4_2), (3, .int z3_1), (0, .ref a0), (1, .ref a2), (2, .ref a3)]) hx hb d_Ce_cover_162 hl (by decide) rfl (fun ls hl => ?_)
  refine lv_iload hx hb d_Ce_cover_164 (lv_at hl 3 rfl) ?_
  refine csI C v_Ce_74 [.int z11_9] [] (c_Ce_middleOf l g z11_9) hP hS rfl rfl hl.1 (Nat.le_of_ble_eq_true rfl) ⟨Nat.le_of_ble_eq_true rfl, Nat.le_of_ble_eq_true rfl⟩ d_Ce_cover_166 ⟨Nat.zero_le _, Nat.zero_le _⟩ (fun H locs hP hS => ?_)
  refine lv_aload_n hx hb d_Ce_cover_169 rfl (lv_at hl 14 rfl) ?_
  refine va_get (D := g.1) (ci := 3) (v := .int (po 0 b)) (C := R_Po) (T := F_Po) (N := 5) hx hb hw i_Po hown hE.1 hP 3 rfl rfl 0 (by decide) (hw _ q_119) (fun _ h9 => h9) rfl d_Ce_cover_170 ?_
  refine lv_isub hx hb d_Ce_cover_173 ?_
  refine lv_i2l hx hb d_Ce_cover_174 rfl ?_
  refine lv_topl (fun z15_13 ez15_13 => ?_)
  refine lv_lstore (lv' := [(15, .long z15_13), (14, .int z14_12), (13, .int z13_11), (12, .int z12_10), (11, .int z11_9), (10, .int z10_8), (9, .int z9_7), (8, .int z8_6), (7, .int z7_5), (6, .int z6_4), (5, .int z5_3), (4, .int z4_2), (3, .int z3_1), (0, .ref a0), (1, .ref a2), (2, .ref a3)]) hx hb d_Ce_cover_175 hl (by decide) rfl (fun ls hl => ?_)
  refine lv_iload hx hb d_Ce_cover_177 (lv_at hl 2 rfl) ?_
  refine lv_istore (lv' := [(17, .int z13_11), (15, .long z15_13), (14, .int z14_12), (13, .int z13_11), (12, .int z12_10), (11, .int z11_9), (10, .int z10_8), (9, .int z9_7), (8, .int z8_6), (7, .int z7_5), (6, .int z6_4), (5, .int z5_3), (4, .int z4_2), (3, .int z3_1), (0, .ref a0), (1, .ref a2), (2, .ref a3)]) hx hb d_Ce_cover_179 hl (by decide) rfl (fun ls hl => ?_)
  have h9 : covJ sh po b z3_1 z4_2 z11_9 (cntI z11_9 z12_10) z15_13 (cntI z13_11 z14_12) z13_11 x = x9 := by
    subst ez15_13 ez14_12 ez13_11 ez12_10 ez11_9 ez10_8 ez9_7 ez8_6 ez7_5 ez6_4 ez5_3 ez4_2 ez3_1
    exact h9
  have hfi : -32 ≤ z11_9.toInt := by rw [ez11_9]; exact firI_ge _
  have hfj : -32 ≤ z13_11.toInt := by rw [ez13_11]; exact firI_ge _
  have hli : z12_10.toInt ≤ 31 := by rw [ez12_10]; exact lasI_le _
  have hlj : z14_12.toInt ≤ 31 := by rw [ez14_12]; exact lasI_le _
  clear ez15_13 ez14_12 ez13_11 ez12_10 ez11_9 ez10_8 ez9_7 ez8_6 ez7_5 ez6_4 ez5_3 ez4_2 ez3_1
  have lo : ∀ (n : Nat) (j : Int32) (x : CC) (H : Heap) (locs : List Loc) (ls : Array Slot), cntI j z14_12 = n → -32 ≤ j.toInt → covJ sh po b z3_1 z4_2 z11_9 (cntI z11_9 z12_10) z15_13 n j x = x9 → va_P g.1 classes (wCo g a0 a1 a2 a3 sh po b x) H → va_D A (wCo g a0 a1 a2 a3 sh po b x) → va_S A s.heap H locs → lv_has ls 25 [(17, .int j), (15, .long z15_13), (14, .int z14_12), (12, .int z12_10), (11, .int z11_9), (3, .int z3_1), (4, .int z4_2), (0, .ref a0), (1, .ref a2), (2, .ref a3)] → W p l e { frames := 2, cells := 0, slots := 0, locals := 42 } s m ([.ref a0, .ref a2, .ref a3] : List Value).toArray below meth c H locs 0 0 Q (F0 m 181 ls []) := by
    intro n
    induction n with
    | zero =>
      intro j x H locs ls hn hlo h9 hP hD hS hl
      have h9 := covJ_z h9
      subst h9
      refine lv_iload hx hb d_Ce_cover_181 (lv_at hl 0 rfl) ?_
      refine lv_iload hx hb d_Ce_cover_183 (lv_at hl 2 rfl) ?_
      refine lv_icmp_gt (tgt := 294) hx hb d_Ce_cover_185 (by decide) (fun c185_14 => ?_) (fun c185_14 => ?_)
      rotate_left
      · exact absurd (cnt_z hn) c185_14
      exact hret _ _ _ _ _ rfl hP hD hS d_Ce_cover_294
    | succ n ih =>
      intro j x H locs ls hn hlo h9 hP hD hS hl
      refine lv_iload hx hb d_Ce_cover_181 (lv_at hl 0 rfl) ?_
      refine lv_iload hx hb d_Ce_cover_183 (lv_at hl 2 rfl) ?_
      refine lv_icmp_gt (tgt := 294) hx hb d_Ce_cover_185 (by decide) (fun c185_15 => ?_) (fun c185_15 => ?_)
      · exact absurd c185_15 (cnt_s hn)
      refine lv_iload hx hb d_Ce_cover_188 (lv_at hl 0 rfl) ?_
      refine csI C v_Ce_74 [.int j] [] (c_Ce_middleOf l g j) hP hS rfl rfl hl.1 (Nat.le_of_ble_eq_true rfl) ⟨Nat.le_of_ble_eq_true rfl, Nat.le_of_ble_eq_true rfl⟩ d_Ce_cover_190 ⟨Nat.zero_le _, Nat.zero_le _⟩ (fun H locs hP hS => ?_)
      refine lv_aload_n hx hb d_Ce_cover_193 rfl (lv_at hl 9 rfl) ?_
      refine va_get (D := g.1) (ci := 3) (v := .int (po 1 b)) (C := R_Po) (T := F_Po) (N := 5) hx hb hw i_Po hown hE.1 hP 3 rfl rfl 1 (by decide) (hw _ q_122) (fun _ h9 => h9) rfl d_Ce_cover_194 ?_
      refine lv_isub hx hb d_Ce_cover_197 ?_
      refine lv_i2l hx hb d_Ce_cover_198 rfl ?_
      refine lv_topl (fun z18_16 ez18_16 => ?_)
      refine lv_lstore (lv' := [(18, .long z18_16), (17, .int j), (15, .long z15_13), (14, .int z14_12), (12, .int z12_10), (11, .int z11_9), (3, .int z3_1), (4, .int z4_2), (0, .ref a0), (1, .ref a2), (2, .ref a3)]) hx hb d_Ce_cover_199 hl (by decide) rfl (fun ls hl => ?_)
      refine lv_lload hx hb d_Ce_cover_201 (lv_at hl 2 rfl) ?_
      refine lv_iload_n hx hb d_Ce_cover_203 rfl (lv_at hl 6 rfl) ?_
      refine lv_i2l hx hb d_Ce_cover_204 rfl ?_
      refine lv_lmul hx hb d_Ce_cover_205 ?_
      refine lv_lload hx hb d_Ce_cover_206 (lv_at hl 0 rfl) ?_
      refine lv_iload hx hb d_Ce_cover_208 (lv_at hl 7 rfl) ?_
      refine lv_i2l hx hb d_Ce_cover_210 rfl ?_
      refine lv_lmul hx hb d_Ce_cover_211 ?_
      refine lv_ladd hx hb d_Ce_cover_212 ?_
      refine lv_topl (fun z20_17 ez20_17 => ?_)
      refine lv_lstore (lv' := [(20, .long z20_17), (18, .long z18_16), (17, .int j), (15, .long z15_13), (14, .int z14_12), (12, .int z12_10), (11, .int z11_9), (3, .int z3_1), (4, .int z4_2), (0, .ref a0), (1, .ref a2), (2, .ref a3)]) hx hb d_Ce_cover_213 hl (by decide) rfl (fun ls hl => ?_)
      refine lv_lload hx hb d_Ce_cover_215 (lv_at hl 1 rfl) ?_
      refine lv_iload_n hx hb d_Ce_cover_217 rfl (lv_at hl 7 rfl) ?_
      refine lv_i2l hx hb d_Ce_cover_218 rfl ?_
      refine lv_lmul hx hb d_Ce_cover_219 ?_
      refine lv_lload hx hb d_Ce_cover_220 (lv_at hl 3 rfl) ?_
      refine lv_iload hx hb d_Ce_cover_222 (lv_at hl 8 rfl) ?_
      refine lv_i2l hx hb d_Ce_cover_224 rfl ?_
      refine lv_lmul hx hb d_Ce_cover_225 ?_
      refine lv_lsub hx hb d_Ce_cover_226 ?_
      refine lv_topl (fun z22_18 ez22_18 => ?_)
      refine lv_lstore (lv' := [(22, .long z22_18), (20, .long z20_17), (18, .long z18_16), (17, .int j), (15, .long z15_13), (14, .int z14_12), (12, .int z12_10), (11, .int z11_9), (3, .int z3_1), (4, .int z4_2), (0, .ref a0), (1, .ref a2), (2, .ref a3)]) hx hb d_Ce_cover_227 hl (by decide) rfl (fun ls hl => ?_)
      refine lv_iload hx hb d_Ce_cover_229 (lv_at hl 7 rfl) ?_
      refine lv_istore (lv' := [(24, .int z11_9), (22, .long z22_18), (20, .long z20_17), (18, .long z18_16), (17, .int j), (15, .long z15_13), (14, .int z14_12), (12, .int z12_10), (11, .int z11_9), (3, .int z3_1), (4, .int z4_2), (0, .ref a0), (1, .ref a2), (2, .ref a3)]) hx hb d_Ce_cover_231 hl (by decide) rfl (fun ls hl => ?_)
      generalize hx8 : covI sh b z3_1 z4_2 j (cntI z11_9 z12_10) z11_9 z20_17 z22_18 x = x8
      have h9 := covJ_s ez18_16 ez20_17 ez22_18 h9 hx8
      have K : ∀ (H : Heap) (locs : List Loc) (ls : Array Slot), va_P g.1 classes (wCo g a0 a1 a2 a3 sh po b x8) H → va_D A (wCo g a0 a1 a2 a3 sh po b x8) → va_S A s.heap H locs → lv_has ls 25 [(17, .int j), (15, .long z15_13), (14, .int z14_12), (12, .int z12_10), (11, .int z11_9), (3, .int z3_1), (4, .int z4_2), (0, .ref a0), (1, .ref a2), (2, .ref a3)] → W p l e { frames := 2, cells := 0, slots := 0, locals := 42 } s m ([.ref a0, .ref a2, .ref a3] : List Value).toArray below meth c H locs 0 0 Q (F0 m 288 ls []) := by
        intro H locs ls hP hD hS hl
        refine lv_iinc (v := (j + 1)) (lv' := [(17, .int (j + 1)), (15, .long z15_13), (14, .int z14_12), (12, .int z12_10), (11, .int z11_9), (3, .int z3_1), (4, .int z4_2), (0, .ref a0), (1, .ref a2), (2, .ref a3)]) hx hb d_Ce_cover_288 hl (k := 0) rfl rfl (by decide) rfl (fun ls hl => ?_)
        refine lv_goto (tgt := 181) hx hb d_Ce_cover_291 (by decide) ?_
        exact ih _ _ _ _ _ (cnt_n hn hlo hlj).1 (cnt_n hn hlo hlj).2 h9 hP hD hS (lv_sub hl [0, 1, 2, 3, 4, 5, 6, 7, 8, 9] rfl)
      have lin : ∀ (k : Nat) (i : Int32) (al ac : Int64) (x : CC) (H : Heap) (locs : List Loc) (ls : Array Slot), cntI i z12_10 = k → -32 ≤ i.toInt → covI sh b z3_1 z4_2 j k i al ac x = x8 → va_P g.1 classes (wCo g a0 a1 a2 a3 sh po b x) H → va_D A (wCo g a0 a1 a2 a3 sh po b x) → va_S A s.heap H locs → lv_has ls 25 [(24, .int i), (22, .long ac), (20, .long al), (17, .int j), (15, .long z15_13), (14, .int z14_12), (12, .int z12_10), (11, .int z11_9), (3, .int z3_1), (4, .int z4_2), (0, .ref a0), (1, .ref a2), (2, .ref a3)] → W p l e { frames := 2, cells := 0, slots := 0, locals := 42 } s m ([.ref a0, .ref a2, .ref a3] : List Value).toArray below meth c H locs 0 0 Q (F0 m 233 ls []) := by
        intro k
        induction k with
        | zero =>
          intro i al ac x H locs ls hk hlo h8 hP hD hS hl
          have h8 := covI_z h8
          subst h8
          refine lv_iload hx hb d_Ce_cover_233 (lv_at hl 0 rfl) ?_
          refine lv_iload hx hb d_Ce_cover_235 (lv_at hl 6 rfl) ?_
          refine lv_icmp_gt (tgt := 288) hx hb d_Ce_cover_237 (by decide) (fun c237_19 => ?_) (fun c237_19 => ?_)
          rotate_left
          · exact absurd (cnt_z hk) c237_19
          exact K _ _ _ hP hD hS (lv_sub hl [3, 4, 5, 6, 7, 8, 9, 10, 11, 12] rfl)
        | succ k ih2 =>
          intro i al ac x H locs ls hk hlo h8 hP hD hS hl
          refine lv_iload hx hb d_Ce_cover_233 (lv_at hl 0 rfl) ?_
          refine lv_iload hx hb d_Ce_cover_235 (lv_at hl 6 rfl) ?_
          refine lv_icmp_gt (tgt := 288) hx hb d_Ce_cover_237 (by decide) (fun c237_20 => ?_) (fun c237_20 => ?_)
          · exact absurd c237_20 (cnt_s hk)
          refine lv_aload_n hx hb d_Ce_cover_240 rfl (lv_at hl 11 rfl) ?_
          refine lv_lload hx hb d_Ce_cover_241 (lv_at hl 2 rfl) ?_
          refine lv_lload hx hb d_Ce_cover_243 (lv_at hl 1 rfl) ?_
          refine cvI C v_Ce_77 [.long al, .long ac] [] (c_Sh_holds l g a2 sh b al ac) hP hD hS [2] [0, 1, 3] [0, 1, 3, 2] [(a0, .inr (1, [.ref a1, .int x.1])), (a1, .inl (g.2.1 1, 64, .inr (.inl x.2))), (a3, .inr (3, [.int (po 0 b), .int (po 1 b), .int (po 2 b), .int (po 3 b), .int (po 4 b)]))] (wCo g a0 a1 a2 a3 sh po b x) rfl rfl (by decide) (by decide) (by decide) rfl (by decide) 0 rfl rfl rfl rfl hl.1 (Nat.le_of_ble_eq_true rfl) ⟨Nat.le_of_ble_eq_true rfl, Nat.le_of_ble_eq_true rfl⟩ d_Ce_cover_245 ⟨Nat.zero_le _, Nat.zero_le _⟩ (fun H locs hP hD hS => ?_)
          refine lv_if_eq (tgt := 259) hx hb d_Ce_cover_248 (by decide) (fun c248_21 => ?_) (fun c248_21 => ?_)
          · refine lv_lload hx hb d_Ce_cover_259 (lv_at hl 2 rfl) ?_
            refine lv_ldc2 (v := 32768) hx hb hown (hw _ q_394) d_Ce_cover_261 ?_
            refine lv_iload_n hx hb d_Ce_cover_264 rfl (lv_at hl 8 rfl) ?_
            refine lv_i2l hx hb d_Ce_cover_265 rfl ?_
            refine lv_lmul hx hb d_Ce_cover_266 ?_
            refine lv_ladd hx hb d_Ce_cover_267 ?_
            refine lv_lstore (lv' := [(20, .long (al + (32768 * z3_1.toInt64))), (24, .int i), (22, .long ac), (17, .int j), (15, .long z15_13), (14, .int z14_12), (12, .int z12_10), (11, .int z11_9), (3, .int z3_1), (4, .int z4_2), (0, .ref a0), (1, .ref a2), (2, .ref a3)]) hx hb d_Ce_cover_268 hl (by decide) rfl (fun ls hl => ?_)
            refine lv_lload hx hb d_Ce_cover_270 (lv_at hl 2 rfl) ?_
            refine lv_ldc2 (v := 32768) hx hb hown (hw _ q_394) d_Ce_cover_272 ?_
            refine lv_iload hx hb d_Ce_cover_275 (lv_at hl 9 rfl) ?_
            refine lv_i2l hx hb d_Ce_cover_277 rfl ?_
            refine lv_lmul hx hb d_Ce_cover_278 ?_
            refine lv_lsub hx hb d_Ce_cover_279 ?_
            refine lv_lstore (lv' := [(22, .long (ac - (32768 * z4_2.toInt64))), (20, .long (al + (32768 * z3_1.toInt64))), (24, .int i), (17, .int j), (15, .long z15_13), (14, .int z14_12), (12, .int z12_10), (11, .int z11_9), (3, .int z3_1), (4, .int z4_2), (0, .ref a0), (1, .ref a2), (2, .ref a3)]) hx hb d_Ce_cover_280 hl (by decide) rfl (fun ls hl => ?_)
            refine lv_iinc (v := (i + 1)) (lv' := [(24, .int (i + 1)), (22, .long (ac - (32768 * z4_2.toInt64))), (20, .long (al + (32768 * z3_1.toInt64))), (17, .int j), (15, .long z15_13), (14, .int z14_12), (12, .int z12_10), (11, .int z11_9), (3, .int z3_1), (4, .int z4_2), (0, .ref a0), (1, .ref a2), (2, .ref a3)]) hx hb d_Ce_cover_282 hl (k := 2) rfl rfl (by decide) rfl (fun ls hl => ?_)
            refine lv_goto (tgt := 233) hx hb d_Ce_cover_285 (by decide) ?_
            exact ih2 _ _ _ _ _ _ _ (cnt_n hk hlo hli).1 (cnt_n hk hlo hli).2 (covI_s h8 (if_pos c248_21)) hP hD hS (lv_sub hl [0, 1, 2, 3, 4, 5, 6, 7, 8, 9, 10, 11, 12] rfl)
          · refine lv_aload_n hx hb d_Ce_cover_251 rfl (lv_at hl 10 rfl) ?_
            refine lv_iload hx hb d_Ce_cover_252 (lv_at hl 0 rfl) ?_
            refine lv_iload hx hb d_Ce_cover_254 (lv_at hl 3 rfl) ?_
            refine cvV C v_Ce_81 [.int i, .int j] [] (c_Ce_mark l g a0 a1 x i j) hP hD hS [0, 1] [2, 3] [2, 3, 0, 1] [(a2, .inr (6, [.int (sh 0 b), .int (sh 1 b), .int (sh 2 b), .int (sh 3 b), .int (sh 4 b)])), (a3, .inr (3, [.int (po 0 b), .int (po 1 b), .int (po 2 b), .int (po 3 b), .int (po 4 b)]))] (wCo g a0 a1 a2 a3 sh po b (markF i j x)) rfl rfl (by decide) (by decide) (by decide) rfl (by decide) 0 rfl rfl rfl rfl hl.1 (Nat.le_of_ble_eq_true rfl) ⟨Nat.le_of_ble_eq_true rfl, Nat.le_of_ble_eq_true rfl⟩ d_Ce_cover_256 ⟨Nat.zero_le _, Nat.zero_le _⟩ (fun H locs hP hD hS => ?_)
            refine lv_lload hx hb d_Ce_cover_259 (lv_at hl 2 rfl) ?_
            refine lv_ldc2 (v := 32768) hx hb hown (hw _ q_394) d_Ce_cover_261 ?_
            refine lv_iload_n hx hb d_Ce_cover_264 rfl (lv_at hl 8 rfl) ?_
            refine lv_i2l hx hb d_Ce_cover_265 rfl ?_
            refine lv_lmul hx hb d_Ce_cover_266 ?_
            refine lv_ladd hx hb d_Ce_cover_267 ?_
            refine lv_lstore (lv' := [(20, .long (al + (32768 * z3_1.toInt64))), (24, .int i), (22, .long ac), (17, .int j), (15, .long z15_13), (14, .int z14_12), (12, .int z12_10), (11, .int z11_9), (3, .int z3_1), (4, .int z4_2), (0, .ref a0), (1, .ref a2), (2, .ref a3)]) hx hb d_Ce_cover_268 hl (by decide) rfl (fun ls hl => ?_)
            refine lv_lload hx hb d_Ce_cover_270 (lv_at hl 2 rfl) ?_
            refine lv_ldc2 (v := 32768) hx hb hown (hw _ q_394) d_Ce_cover_272 ?_
            refine lv_iload hx hb d_Ce_cover_275 (lv_at hl 9 rfl) ?_
            refine lv_i2l hx hb d_Ce_cover_277 rfl ?_
            refine lv_lmul hx hb d_Ce_cover_278 ?_
            refine lv_lsub hx hb d_Ce_cover_279 ?_
            refine lv_lstore (lv' := [(22, .long (ac - (32768 * z4_2.toInt64))), (20, .long (al + (32768 * z3_1.toInt64))), (24, .int i), (17, .int j), (15, .long z15_13), (14, .int z14_12), (12, .int z12_10), (11, .int z11_9), (3, .int z3_1), (4, .int z4_2), (0, .ref a0), (1, .ref a2), (2, .ref a3)]) hx hb d_Ce_cover_280 hl (by decide) rfl (fun ls hl => ?_)
            refine lv_iinc (v := (i + 1)) (lv' := [(24, .int (i + 1)), (22, .long (ac - (32768 * z4_2.toInt64))), (20, .long (al + (32768 * z3_1.toInt64))), (17, .int j), (15, .long z15_13), (14, .int z14_12), (12, .int z12_10), (11, .int z11_9), (3, .int z3_1), (4, .int z4_2), (0, .ref a0), (1, .ref a2), (2, .ref a3)]) hx hb d_Ce_cover_282 hl (k := 2) rfl rfl (by decide) rfl (fun ls hl => ?_)
            refine lv_goto (tgt := 233) hx hb d_Ce_cover_285 (by decide) ?_
            exact ih2 _ _ _ _ _ _ _ (cnt_n hk hlo hli).1 (cnt_n hk hlo hli).2 (covI_s h8 (if_neg c248_21)) hP hD hS (lv_sub hl [0, 1, 2, 3, 4, 5, 6, 7, 8, 9, 10, 11, 12] rfl)
      exact lin _ _ _ _ x _ _ _ rfl hfi hx8 hP hD hS (lv_sub hl [0, 1, 2, 4, 5, 6, 7, 8, 9, 10, 11, 12, 13] rfl)
  exact lo _ _ x _ _ _ rfl hfj h9 hP hD hS (lv_sub hl [0, 1, 2, 4, 5, 13, 12, 14, 15, 16] rfl)
