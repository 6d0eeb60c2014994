/-! what going leaves as it was; plans -/
def Kp (y x : MS) : Prop := (∀ k, (k < 13 ∨ 18 < k) → x.2 k = y.2 k) ∧ ∀ f, f < 24 → x.1 f = y.1 f
theorem Kp.rf (y : MS) : Kp y y := ⟨fun _ _ => rfl, fun _ _ => rfl⟩
theorem Kp.tr {x y z : MS} (h1 : Kp x y) (h2 : Kp y z) : Kp x z := ⟨fun k hk => (h2.1 k hk).trans (h1.1 k hk), fun f hf => (h2.2 f hf).trans (h1.2 f hf)⟩
theorem lookB_Kp {np b : Nat} (x : MS) : Kp x (lookB np b x) := ⟨fun k hk => lookB_a (by omega), fun f hf => lookB_s (by omega) (by omega) (by omega) (by omega)⟩
theorem msB_Kp {b : Nat} (x : MS) : Kp x (msB b x) := ⟨fun k hk => msB_a (by omega), fun f hf => msB_s (by omega)⟩
theorem mdM_Kp (x : MS) : Kp x (mdM x) := ⟨fun k hk => rfl, fun f hf => mdM_s (by omega)⟩
theorem mvB_Kp {way : Int32} {b : Nat} (x : MS) : Kp x (mvB way b x) := ⟨fun k hk => mvB_k (by omega) (by omega) (by omega) (by omega), fun f hf => rfl⟩
theorem bgB_Kp {n b : Nat} (x : MS) : Kp x (bgB n b x) := ⟨fun k hk => bgB_k (by omega) (by omega) (by omega) (by omega) (by omega), fun f hf => rfl⟩
theorem itF_Kp {f : Nat → MS → MS} {n i : Nat} {x : MS} (hf : ∀ i y, Kp y (f i y)) : Kp x (itF f n i x) := itF_all (P := fun y => Kp x y) (fun i y hy => hy.tr (hf i y)) (Kp.rf x)
theorem moveM_Kp {n np : Nat} {turn way : Int32} (x : MS) : Kp x (moveM n np turn way x) := by
  unfold moveM
  have k0 : Kp x (x.1, mvA0 x.1 turn way x.2) := ⟨fun k hk => mvA0_k (by omega) (by omega) (by omega), fun _ _ => rfl⟩
  exact (((k0.tr (itF_Kp (fun i y => mvB_Kp y))).tr (mdM_Kp _)).tr (itF_Kp (fun i y => msB_Kp y))).tr (itF_Kp (fun i y => lookB_Kp y))
theorem bgS_k {s : Nat → Int32} {f : Nat} (h : f < 24) : bgS s f = s f := by
  unfold bgS
  rw [pk_un (by omega), pk_un (by omega), pk_un (by omega), pk_un (by omega), pk_un (by omega), pk_un (by omega)]
theorem bgA0_k {s : Nat → Int32} {a : St2} {k : Nat} (h1 : k ≠ 13) (h2 : k ≠ 14) (h3 : k ≠ 18) : bgA0 s a k = a k := by
  unfold bgA0
  rw [u2_row h2, u2_row h1, u1_k h3]
theorem begM_Kp {n np : Nat} (x : MS) : Kp x (begM n np x) := by
  unfold begM
  have k0 : Kp x (bgS x.1, bgA0 x.1 x.2) := ⟨fun k hk => bgA0_k (by omega) (by omega) (by omega), fun f hf => bgS_k hf⟩
  exact (k0.tr (itF_Kp (fun i y => bgB_Kp y))).tr (itF_Kp (fun i y => lookB_Kp y))
theorem begM_24 {n np : Nat} {x : MS} : (begM n np x).1 24 = 0 := by
  unfold begM
  rw [lookB_it_s (by decide) (by decide) (by decide) (by decide)]
  have h2 : (itF (bgB n) 3 0 (bgS x.1, bgA0 x.1 x.2)).1 = bgS x.1 := itF_all (P := fun y : MS => y.1 = bgS x.1) (fun i y hy => hy) rfl
  rw [h2]
  rfl
theorem whileF_all {α : Type} {P : α → Prop} {stop : α → Bool} {f : α → α} (hf : ∀ x, stop x = false → P x → P (f x)) : ∀ (N : Nat) (x : α), P x → P (whileF stop f N x) := by
  intro N
  induction N with
  | zero => intro x hx; exact hx
  | succ N ih =>
    intro x hx
    unfold whileF
    split
    · exact hx
    · next h => exact ih _ (hf x (by simpa using h) hx)
theorem stopM_lt {x : MS} (h : stopM x = false) : (x.1 24).toInt < 4000 := by
  unfold stopM at h
  apply lt4000
  intro c
  simp [c] at h
theorem goM_Kp {n np : Nat} {turn : Int32} {N : Nat} {fw : Int32} (x : MS) : Kp x (goM n np turn N fw x) := by
  unfold goM
  exact whileF_all (P := fun y => Kp x y) (fun y _ hy => hy.tr (moveM_Kp y)) N x (Kp.rf x)
theorem goM_inv {n np : Nat} {turn : Int32} {N : Nat} {fw : Int32} {x : MS} (h : InvG n np x) : InvG n np (goM n np turn N fw x) := by
  unfold goM
  exact whileF_all (P := fun y => InvG n np y) (fun y hs hy => moveM_inv hy (stopM_lt hs)) N x h
/-- what holds of the reference's setting -/
def InvC (n np : Nat) (x : MS) : Prop := (∀ i, i < 17 → x.2 1 i = cosT i) ∧ x.1 2 = nI n ∧ x.1 12 = nI np ∧ ∀ b, b < n → ¬ x.2 2 b = 0
theorem InvC.kp {n np : Nat} {x y : MS} (h : InvC n np x) (k : Kp x y) : InvC n np y := by
  obtain ⟨h1, h2, h3, h4⟩ := h
  exact ⟨fun i hi => by rw [k.1 1 (by decide)]; exact h1 i hi, by rw [k.2 2 (by decide)]; exact h2, by rw [k.2 12 (by decide)]; exact h3, fun b hb => by rw [k.1 2 (by decide)]; exact h4 b hb⟩
theorem begM_inv {n np : Nat} {x : MS} (h : InvC n np x) : InvG n np (begM n np x) := by
  obtain ⟨h1, h2, h3, h4⟩ := h.kp (begM_Kp x)
  exact ⟨h1, h2, h3, by rw [begM_24]; decide, h4⟩
def gpF (n np : Nat) (a : St2) (pl i : Nat) (y : MS) : MS := goM n np (a 10 (6 * pl + i)) (a 11 (6 * pl + i)).toNatClampNeg (a 12 (6 * pl + i)) y
def goPlanM (n np : Nat) (a : St2) (pl mm : Nat) (y : MS) : MS := itF (gpF n np a pl) mm 0 (begM n np y)
theorem goPlanM_Kp {n np : Nat} {a : St2} {pl mm : Nat} (y : MS) : Kp y (goPlanM n np a pl mm y) := by
  unfold goPlanM
  exact (begM_Kp y).tr (itF_Kp (fun i z => by unfold gpF; exact goM_Kp z))
/-- the plans, as the reference holds them -/
def InvP (a : St2) (mm : Nat → Nat) : Prop := ∀ pl, pl < 4 → a 9 pl = nI (mm pl) ∧ mm pl ≤ 6 ∧ ∀ i, i < mm pl → (¬ a 11 (6 * pl + i) < 0) ∧ (a 11 (6 * pl + i)).toNatClampNeg ≤ 1000000
abbrev BS : Type := Int32 × Int32 × MS
def bestB (n np : Nat) (a : St2) (mm : Nat → Nat) (p : Nat) (q : BS) : BS :=
  if (goPlanM n np a p (mm p) q.2.2).1 25 = 0 then (if (goPlanM n np a p (mm p) q.2.2).1 26 = -1 then (if q.1 = -1 then (nI p, (goPlanM n np a p (mm p) q.2.2).1 29, goPlanM n np a p (mm p) q.2.2) else (if q.2.1 ≤ (goPlanM n np a p (mm p) q.2.2).1 29 then (q.1, q.2.1, goPlanM n np a p (mm p) q.2.2) else (nI p, (goPlanM n np a p (mm p) q.2.2).1 29, goPlanM n np a p (mm p) q.2.2))) else (q.1, q.2.1, goPlanM n np a p (mm p) q.2.2)) else (q.1, q.2.1, goPlanM n np a p (mm p) q.2.2)
def bestM (n np : Nat) (mm : Nat → Nat) (x : MS) : BS := itF (bestB n np x.2 mm) 4 0 (-1, 0, keepM (upd x.1 0 0, x.2))
theorem keepM_k {x : MS} {k : Nat} (h : k < 19) : (keepM x).2 k = x.2 k := by
  unfold keepM
  dsimp only
  rw [u1_k (by omega), kp1_k (by omega), kpI_k (by omega)]
theorem keepM_20 {x : MS} (hz : ∀ j, j < 4096 → x.2 18 j = 0 ∨ x.2 18 j = 1) : ∀ j, j < 4096 → (keepM x).2 20 j = 0 ∨ (keepM x).2 20 j = 1 := by
  intro j hj
  unfold keepM
  dsimp only
  rw [u1_s, cpyZ, if_pos hj, kp1_k (by decide), kpI_k (by decide)]
  exact hz j hj
theorem upd0_C {n np : Nat} {x : MS} {v : Int32} (h : InvC n np x) : InvC n np (upd x.1 0 v, x.2) := by
  obtain ⟨h1, h2, h3, h4⟩ := h
  exact ⟨h1, (pk_un (f := x.1) (k := 0) (x := v) (j := 2) (by decide)).trans h2, (pk_un (f := x.1) (k := 0) (x := v) (j := 12) (by decide)).trans h3, h4⟩
theorem keepM_C {n np : Nat} {x : MS} (h : InvC n np x) : InvC n np (keepM x) := by
  obtain ⟨h1, h2, h3, h4⟩ := h
  exact ⟨fun i hi => by rw [keepM_k (by decide)]; exact h1 i hi, h2, h3, fun b hb => by rw [keepM_k (by decide)]; exact h4 b hb⟩

set_option maxHeartbeats 4000000 in
set_option maxRecDepth 100000 in
theorem c_Mo_goPlan (l : Launch) (g : Glob) (ad : Nat → Nat) (y0 : MS) (n np : Nat) (hC : InvC n np y0) (h3 : n ≤ 3) (h20 : np ≤ 20) (pl mm : Nat) (hpl : pl < 4) (hmm : y0.2 9 pl = nI mm) (h6 : mm ≤ 6) (hst : ∀ i, i < mm → (¬ y0.2 11 (6 * pl + i) < 0) ∧ (y0.2 11 (6 * pl + i)).toNatClampNeg ≤ 1000000) : CV l g y_Mo_goPlan b_Mo_goPlan 4 6 156 [.ref (ad 0), .int (nI pl)] (wM g ad y0) (wM g ad (goPlanM n np y0.2 pl mm y0)) := by
  refine CV.of (by decide +kernel) (Nat.le_of_ble_eq_true rfl) ?_
  intro p e s m below meth c A Q ls C hP hD hl hret hS
  obtain ⟨hx, hb, hml, hown, hw, hE, hA⟩ := id C
  have hl : lv_has ls 4 [(0, .ref (ad 0)), (1, .int (nI pl))] := hl
  unfold goPlanM at hret
  generalize h9 : itF (gpF n np y0.2 pl) mm 0 (begM n np y0) = x9 at hret
  refine lv_aload_n hx hb d_Mo_goPlan_0 rfl (lv_at hl 0 rfl) ?_
  refine cvV C v_Mo_155 [] [] (c_Mo_beginAnew l g ad y0 n np hC.1 hC.2.1 hC.2.2.1 h3 h20) hP hD hS [0, 1, 2, 3, 4, 5, 6, 7, 8, 9, 10, 11, 12, 13, 14, 15, 16, 17, 18, 19, 20] [] [0, 1, 2, 3, 4, 5, 6, 7, 8, 9, 10, 11, 12, 13, 14, 15, 16, 17, 18, 19, 20] [] (wM g ad (begM n np y0)) rfl rfl (by decide) (by decide) (by decide) rfl (by decide) 0 rfl rfl rfl rfl hl.1 (Nat.le_of_ble_eq_true rfl) ⟨Nat.le_of_ble_eq_true rfl, Nat.le_of_ble_eq_true rfl⟩ d_Mo_goPlan_1 ⟨Nat.zero_le _, Nat.zero_le _⟩ (fun H locs hP hD hS => ?_)
  refine lv_iconst (v := 0) hx hb d_Mo_goPlan_4 (by decide) ?_
  refine lv_istore_n (lv' := [(2, .int 0), (0, .ref (ad 0)), (1, .int (nI pl))]) hx hb d_Mo_goPlan_5 rfl hl (by decide) rfl (fun ls hl => ?_)
  have lp : ∀ (j : Nat) (i : Nat) (x : MS) (H : Heap) (locs : List Loc) (ls : Array Slot), i ≤ mm → mm < i + j → InvG n np x → Kp y0 x → itF (gpF n np y0.2 pl) mm i x = x9 → va_P g.1 classes (wM g ad x) H → va_D A (wM g ad x) → va_S A s.heap H locs → lv_has ls 4 [(2, .int (nI i)), (0, .ref (ad 0)), (1, .int (nI pl))] → W p l e { frames := 6, cells := 0, slots := 0, locals := 156 } s m ([.ref (ad 0), .int (nI pl)] : List Value).toArray below meth c H locs 0 0 Q (F0 m 6 ls []) := by
    intro j
    induction j with
    | zero =>
      intro i x H locs ls hi hj hI hk h9 hP hD hS hl
      exact absurd trivial (by omega)
    | succ j ih =>
      intro i x H locs ls hi hj hI hk h9 hP hD hS hl
      have hmm9 : x.2 9 pl = nI mm := by rw [hk.1 9 (by decide)]; exact hmm
      have hst9 : ∀ i, i < mm → (¬ x.2 11 (6 * pl + i) < 0) ∧ (x.2 11 (6 * pl + i)).toNatClampNeg ≤ 1000000 := by rw [hk.1 11 (by decide)]; exact hst
      refine lv_iload_n hx hb d_Mo_goPlan_6 rfl (lv_at hl 0 rfl) ?_
      refine lv_aload_n hx hb d_Mo_goPlan_7 rfl (lv_at hl 1 rfl) ?_
      refine get_ms (x := x) C 15 q_565 rfl (by decide) (.ref (ad 9)) rfl hP d_Mo_goPlan_8 ?_
      refine lv_iload_n hx hb d_Mo_goPlan_11 rfl (lv_at hl 2 rfl) ?_
      refine get_ma (x := x) C 9 4 rfl (vp_in_nI hpl (by omega)) (x.2 9 pl) ((congrArg (x.2 9) (nI_clamp (by omega))).trans rfl) hP d_Mo_goPlan_12 ?_
      refine lv_icmp_ge (tgt := 51) hx hb d_Mo_goPlan_13 (by decide) (fun c13_1 => ?_) (fun c13_1 => ?_)
      · have h9 := (itF_end (ge_of_le' 6 hmm9 h6 (by decide) (by omega) c13_1)).symm.trans h9
        subst h9
        exact hret _ _ _ _ _ rfl hP hD hS d_Mo_goPlan_51
      · have hlt := lt_of_nle' 6 hmm9 h6 (by decide) (by omega) c13_1
        refine lv_bipush (v := 6) hx hb d_Mo_goPlan_16 (by decide) ?_
        refine lv_iload_n hx hb d_Mo_goPlan_18 rfl (lv_at hl 2 rfl) ?_
        refine lv_imul hx hb d_Mo_goPlan_19 ?_
        refine lv_iload_n hx hb d_Mo_goPlan_20 rfl (lv_at hl 0 rfl) ?_
        refine lv_iadd hx hb d_Mo_goPlan_21 ?_
        refine lv_istore_n (lv' := [(3, .int ((6 * (nI pl)) + (nI i))), (2, .int (nI i)), (0, .ref (ad 0)), (1, .int (nI pl))]) hx hb d_Mo_goPlan_22 rfl hl (by decide) rfl (fun ls hl => ?_)
        refine lv_aload_n hx hb d_Mo_goPlan_23 rfl (lv_at hl 2 rfl) ?_
        refine lv_aload_n hx hb d_Mo_goPlan_24 rfl (lv_at hl 2 rfl) ?_
        refine get_ms (x := x) C 16 q_566 rfl (by decide) (.ref (ad 10)) rfl hP d_Mo_goPlan_25 ?_
        refine lv_iload_n hx hb d_Mo_goPlan_28 rfl (lv_at hl 0 rfl) ?_
        refine get_ma (x := x) C 10 24 rfl (inN mul6 (show 6 * pl + i < 24 by omega) (by omega)) (x.2 10 (6 * pl + i)) ((congrArg (x.2 10) (clN mul6 (by omega))).trans rfl) hP d_Mo_goPlan_29 ?_
        refine lv_aload_n hx hb d_Mo_goPlan_30 rfl (lv_at hl 2 rfl) ?_
        refine get_ms (x := x) C 17 q_567 rfl (by decide) (.ref (ad 11)) rfl hP d_Mo_goPlan_31 ?_
        refine lv_iload_n hx hb d_Mo_goPlan_34 rfl (lv_at hl 0 rfl) ?_
        refine get_ma (x := x) C 11 24 rfl (inN mul6 (show 6 * pl + i < 24 by omega) (by omega)) (x.2 11 (6 * pl + i)) ((congrArg (x.2 11) (clN mul6 (by omega))).trans rfl) hP d_Mo_goPlan_35 ?_
        refine lv_aload_n hx hb d_Mo_goPlan_36 rfl (lv_at hl 2 rfl) ?_
        refine get_ms (x := x) C 18 q_568 rfl (by decide) (.ref (ad 12)) rfl hP d_Mo_goPlan_37 ?_
        refine lv_iload_n hx hb d_Mo_goPlan_40 rfl (lv_at hl 0 rfl) ?_
        refine get_mz (x := x) C 12 24 rfl (inN mul6 (show 6 * pl + i < 24 by omega) (by omega)) (x.2 12 (6 * pl + i)) ((congrArg (x.2 12) (clN mul6 (by omega))).trans rfl) hP d_Mo_goPlan_41 ?_
        refine cvV C v_Mo_158 [.int (x.2 10 (6 * pl + i)), .int (x.2 11 (6 * pl + i)), .int (x.2 12 (6 * pl + i))] [] (c_Mo_goOn l g ad x n np hI h3 h20 (x.2 10 (6 * pl + i)) (x.2 11 (6 * pl + i)) (x.2 12 (6 * pl + i)) _ (clampI (hst9 i hlt).1) (hst9 i hlt).2) hP hD hS [0, 1, 2, 3, 4, 5, 6, 7, 8, 9, 10, 11, 12, 13, 14, 15, 16, 17, 18, 19, 20] [] [0, 1, 2, 3, 4, 5, 6, 7, 8, 9, 10, 11, 12, 13, 14, 15, 16, 17, 18, 19, 20] [] (wM g ad (goM n np (x.2 10 (6 * pl + i)) (x.2 11 (6 * pl + i)).toNatClampNeg (x.2 12 (6 * pl + i)) x)) rfl rfl (by decide) (by decide) (by decide) rfl (by decide) 0 rfl rfl rfl rfl hl.1 (Nat.le_of_ble_eq_true rfl) ⟨Nat.le_of_ble_eq_true rfl, Nat.le_of_ble_eq_true rfl⟩ d_Mo_goPlan_42 ⟨Nat.zero_le _, Nat.zero_le _⟩ (fun H locs hP hD hS => ?_)
        refine lv_iinc (v := (nI (i + 1))) (lv' := [(2, .int (nI (i + 1))), (3, .int ((6 * (nI pl)) + (nI i))), (0, .ref (ad 0)), (1, .int (nI pl))]) hx hb d_Mo_goPlan_45 hl (k := 1) rfl (nI_1 i) (by decide) rfl (fun ls hl => ?_)
        refine lv_goto (tgt := 6) hx hb d_Mo_goPlan_48 (by decide) ?_
        exact ih (i + 1) (goM n np (x.2 10 (6 * pl + i)) (x.2 11 (6 * pl + i)).toNatClampNeg (x.2 12 (6 * pl + i)) x) _ _ _ (by omega) (by omega) (goM_inv hI) (hk.tr (goM_Kp x)) (it_back hlt h9 (by unfold gpF; rw [hk.1 10 (by decide), hk.1 11 (by decide), hk.1 12 (by decide)])) hP hD hS (lv_sub hl [0, 2, 3] rfl)
  exact lp (mm + 1) 0 _ _ _ _ (by omega) (by omega) (begM_inv hC) (begM_Kp y0) h9 hP hD hS (lv_sub hl [0, 1, 2] rfl)
set_option maxHeartbeats 4000000 in
set_option maxRecDepth 100000 in
theorem c_Mo_best_1 (l : Launch) (g : Glob) (ad : Nat → Nat) (x : MS) (hle : x.1 2 ≤ 0) : CI l g y_Mo_best b_Mo_best 4 (some .int) 7 179 [.ref (ad 0)] (wM g ad x) (0) (wM g ad (upd x.1 0 1, x.2)) := by
  refine CI.of .int rfl rfl (by decide +kernel) (Nat.le_of_ble_eq_true rfl) ?_
  intro p e s m below meth c A Q ls C hP hD hl hret hS
  obtain ⟨hx, hb, hml, hown, hw, hE, hA⟩ := id C
  have hl : lv_has ls 4 [(0, .ref (ad 0))] := hl
  refine lv_aload_n hx hb d_Mo_best_0 rfl (lv_at hl 0 rfl) ?_
  refine lv_aload_n hx hb d_Mo_best_1 rfl (lv_at hl 0 rfl) ?_
  refine get_mi (x := x) C 2 q_552 rfl (by decide) rfl (x.1 2) rfl hP d_Mo_best_2 ?_
  refine lv_if_le (tgt := 12) hx hb d_Mo_best_5 (by decide) (fun c5_1 => ?_) (fun c5_1 => ?_)
  rotate_left
  · exact absurd hle c5_1
  refine lv_iconst (v := 1) hx hb d_Mo_best_12 (by decide) ?_
  refine put_ms C 0 (ty := .int) q_550 rfl (by decide) rfl (by decide +kernel) rfl rfl wM_s0 hP hD hS d_Mo_best_13 (fun H locs hP hD hS => ?_)
  refine lv_aload_n hx hb d_Mo_best_16 rfl (lv_at hl 0 rfl) ?_
  refine get_mi (x := ((upd x.1 0 1), x.2)) C 0 q_550 rfl (by decide) rfl 1 (pk_us (f := x.1) (k := 0) (x := 1)) hP d_Mo_best_17 ?_
  refine lv_if_le (tgt := 25) hx hb d_Mo_best_20 (by decide) (fun c20_2 => ?_) (fun c20_2 => ?_)
  · exact absurd c20_2 (by decide)
  refine lv_iconst (v := 0) hx hb d_Mo_best_23 (by decide) ?_
  exact hret _ _ _ _ _ _ rfl rfl hP hD hS d_Mo_best_24
set_option maxHeartbeats 4000000 in
set_option maxRecDepth 100000 in
theorem c_Mo_best_0 (l : Launch) (g : Glob) (ad : Nat → Nat) (x : MS) (n np : Nat) (hC0 : InvC n np x) (h3 : n ≤ 3) (h20 : np ≤ 20) (mm : Nat → Nat) (hmm : InvP x.2 mm) (hz : ∀ j, j < 4096 → x.2 18 j = 0 ∨ x.2 18 j = 1) (hle : ¬ x.1 2 ≤ 0) : CI l g y_Mo_best b_Mo_best 4 (some .int) 7 179 [.ref (ad 0)] (wM g ad x) ((bestM n np mm x).1) (wM g ad (putM (bestM n np mm x).2.2)) := by
  refine CI.of .int rfl rfl (by decide +kernel) (Nat.le_of_ble_eq_true rfl) ?_
  intro p e s m below meth c A Q ls C hP hD hl hret hS
  obtain ⟨hx, hb, hml, hown, hw, hE, hA⟩ := id C
  have hl : lv_has ls 4 [(0, .ref (ad 0))] := hl
  unfold bestM at hret
  refine lv_aload_n hx hb d_Mo_best_0 rfl (lv_at hl 0 rfl) ?_
  refine lv_aload_n hx hb d_Mo_best_1 rfl (lv_at hl 0 rfl) ?_
  refine get_mi (x := x) C 2 q_552 rfl (by decide) rfl (x.1 2) rfl hP d_Mo_best_2 ?_
  refine lv_if_le (tgt := 12) hx hb d_Mo_best_5 (by decide) (fun c5_1 => ?_) (fun c5_1 => ?_)
  · exact absurd c5_1 hle
  refine lv_iconst (v := 0) hx hb d_Mo_best_8 (by decide) ?_
  refine lv_goto (tgt := 13) hx hb d_Mo_best_9 (by decide) ?_
  refine put_ms C 0 (ty := .int) q_550 rfl (by decide) rfl (by decide +kernel) rfl rfl wM_s0 hP hD hS d_Mo_best_13 (fun H locs hP hD hS => ?_)
  refine lv_aload_n hx hb d_Mo_best_16 rfl (lv_at hl 0 rfl) ?_
  refine get_mi (x := ((upd x.1 0 0), x.2)) C 0 q_550 rfl (by decide) rfl 0 (pk_us (f := x.1) (k := 0) (x := 0)) hP d_Mo_best_17 ?_
  refine lv_if_le (tgt := 25) hx hb d_Mo_best_20 (by decide) (fun c20_2 => ?_) (fun c20_2 => ?_)
  rotate_left
  · exact absurd (by decide) c20_2
  refine lv_aload_n hx hb d_Mo_best_25 rfl (lv_at hl 0 rfl) ?_
  refine cvV C v_Mo_162 [] [] (c_Mo_keepAside l g ad ((upd x.1 0 0), x.2) hz) hP hD hS [0, 1, 2, 3, 4, 5, 6, 7, 8, 9, 10, 11, 12, 13, 14, 15, 16, 17, 18, 19, 20] [] [0, 1, 2, 3, 4, 5, 6, 7, 8, 9, 10, 11, 12, 13, 14, 15, 16, 17, 18, 19, 20] [] (wM g ad (keepM ((upd x.1 0 0), x.2))) rfl rfl (by decide) (by decide) (by decide) rfl (by decide) 0 rfl rfl rfl rfl hl.1 (Nat.le_of_ble_eq_true rfl) ⟨Nat.le_of_ble_eq_true rfl, Nat.le_of_ble_eq_true rfl⟩ d_Mo_best_26 ⟨Nat.zero_le _, Nat.zero_le _⟩ (fun H locs hP hD hS => ?_)
  refine lv_iconst (v := (-1)) hx hb d_Mo_best_29 (by decide) ?_
  refine lv_istore_n (lv' := [(1, .int (-1)), (0, .ref (ad 0))]) hx hb d_Mo_best_30 rfl hl (by decide) rfl (fun ls hl => ?_)
  refine lv_iconst (v := 0) hx hb d_Mo_best_31 (by decide) ?_
  refine lv_istore_n (lv' := [(2, .int 0), (1, .int (-1)), (0, .ref (ad 0))]) hx hb d_Mo_best_32 rfl hl (by decide) rfl (fun ls hl => ?_)
  refine lv_iconst (v := 0) hx hb d_Mo_best_33 (by decide) ?_
  refine lv_istore_n (lv' := [(3, .int 0), (2, .int 0), (1, .int (-1)), (0, .ref (ad 0))]) hx hb d_Mo_best_34 rfl hl (by decide) rfl (fun ls hl => ?_)
  generalize h9 : itF (bestB n np x.2 mm) 4 0 (-1, 0, keepM (upd x.1 0 0, x.2)) = q9 at hret
  have lp : ∀ (j : Nat) (p9 : Nat) (q : BS) (H : Heap) (locs : List Loc) (ls : Array Slot), p9 ≤ 4 → 4 < p9 + j → Kp (keepM (upd x.1 0 0, x.2)) q.2.2 → itF (bestB n np x.2 mm) 4 p9 q = q9 → va_P g.1 classes (wM g ad q.2.2) H → va_D A (wM g ad q.2.2) → va_S A s.heap H locs → lv_has ls 4 [(3, .int (nI p9)), (2, .int q.2.1), (1, .int q.1), (0, .ref (ad 0))] → W p l e { frames := 7, cells := 0, slots := 0, locals := 179 } s m ([.ref (ad 0)] : List Value).toArray below meth c H locs 0 0 Q (F0 m 35 ls []) := by
    intro j
    induction j with
    | zero =>
      intro p9 q H locs ls hi hj hk h9 hP hD hS hl
      exact absurd trivial (by omega)
    | succ j ih =>
      intro p9 q H locs ls hi hj hk h9 hP hD hS hl
      have hC := (keepM_C (upd0_C (v := 0) hC0)).kp hk
      refine lv_iload_n hx hb d_Mo_best_35 rfl (lv_at hl 0 rfl) ?_
      refine lv_iconst (v := 4) hx hb d_Mo_best_36 (by decide) ?_
      refine lv_icmp_ge (tgt := 86) hx hb d_Mo_best_37 (by decide) (fun c37_3 => ?_) (fun c37_3 => ?_)
      · have h9 := (itF_end (ge_of_le' (a := 4) (n := 4) 4 rfl (Nat.le_refl _) (by decide) (by omega) c37_3)).symm.trans h9
        subst h9
        have hz9 : ∀ j, j < 4096 → q.2.2.2 20 j = 0 ∨ q.2.2.2 20 j = 1 := by rw [hk.1 20 (by decide)]; exact keepM_20 hz
        refine lv_aload_n hx hb d_Mo_best_86 rfl (lv_at hl 3 rfl) ?_
        refine cvV C v_Mo_168 [] [] (c_Mo_putBack l g ad q.2.2 hz9) hP hD hS [0, 1, 2, 3, 4, 5, 6, 7, 8, 9, 10, 11, 12, 13, 14, 15, 16, 17, 18, 19, 20] [] [0, 1, 2, 3, 4, 5, 6, 7, 8, 9, 10, 11, 12, 13, 14, 15, 16, 17, 18, 19, 20] [] (wM g ad (putM q.2.2)) rfl rfl (by decide) (by decide) (by decide) rfl (by decide) 0 rfl rfl rfl rfl hl.1 (Nat.le_of_ble_eq_true rfl) ⟨Nat.le_of_ble_eq_true rfl, Nat.le_of_ble_eq_true rfl⟩ d_Mo_best_87 ⟨Nat.zero_le _, Nat.zero_le _⟩ (fun H locs hP hD hS => ?_)
        refine lv_iload_n hx hb d_Mo_best_90 rfl (lv_at hl 2 rfl) ?_
        exact hret _ _ _ _ _ _ rfl rfl hP hD hS d_Mo_best_91
      · have hp4 := lt_of_nle' (a := 4) (n := 4) 4 rfl (Nat.le_refl _) (by decide) (by omega) c37_3
        have hgp : ∀ a : St2, (∀ k, k < 13 → a k = x.2 k) → goPlanM n np a p9 (mm p9) q.2.2 = goPlanM n np x.2 p9 (mm p9) q.2.2 := fun a ha => by
          unfold goPlanM
          have e : gpF n np a p9 = gpF n np x.2 p9 := by funext i y; unfold gpF; rw [ha 10 (by decide), ha 11 (by decide), ha 12 (by decide)]
          rw [e]
        have hg9 := hgp q.2.2.2 (fun k hk2 => by rw [hk.1 k (by omega), keepM_k (by omega)])
        refine lv_aload_n hx hb d_Mo_best_40 rfl (lv_at hl 3 rfl) ?_
        refine lv_iload_n hx hb d_Mo_best_41 rfl (lv_at hl 0 rfl) ?_
        refine cvV C v_Mo_165 [.int (nI p9)] [] (c_Mo_goPlan l g ad q.2.2 n np hC h3 h20 p9 (mm p9) hp4 (by rw [hk.1 9 (by decide), keepM_k (by decide)]; exact (hmm p9 hp4).1) (hmm p9 hp4).2.1 (by rw [hk.1 11 (by decide), keepM_k (by decide)]; exact (hmm p9 hp4).2.2)) hP hD hS [0, 1, 2, 3, 4, 5, 6, 7, 8, 9, 10, 11, 12, 13, 14, 15, 16, 17, 18, 19, 20] [] [0, 1, 2, 3, 4, 5, 6, 7, 8, 9, 10, 11, 12, 13, 14, 15, 16, 17, 18, 19, 20] [] (wM g ad (goPlanM n np q.2.2.2 p9 (mm p9) q.2.2)) rfl rfl (by decide) (by decide) (by decide) rfl (by decide) 0 rfl rfl rfl rfl hl.1 (Nat.le_of_ble_eq_true rfl) ⟨Nat.le_of_ble_eq_true rfl, Nat.le_of_ble_eq_true rfl⟩ d_Mo_best_42 ⟨Nat.zero_le _, Nat.zero_le _⟩ (fun H locs hP hD hS => ?_)
        rw [hg9] at hP hD
        have hk8 := hk.tr (goPlanM_Kp (n := n) (np := np) (a := x.2) (pl := p9) (mm := mm p9) q.2.2)
        generalize hx8 : goPlanM n np x.2 p9 (mm p9) q.2.2 = x8 at hP hD hk8
        refine lv_aload_n hx hb d_Mo_best_45 rfl (lv_at hl 3 rfl) ?_
        refine get_mi (x := x8) C 25 q_575 rfl (by decide) rfl (x8.1 25) rfl hP d_Mo_best_46 ?_
        refine lv_if_ne (tgt := 80) hx hb d_Mo_best_49 (by decide) (fun c49_4 => ?_) (fun c49_4 => ?_)
        · refine lv_iinc (v := (nI (p9 + 1))) (lv' := [(3, .int (nI (p9 + 1))), (2, .int q.2.1), (1, .int q.1), (0, .ref (ad 0))]) hx hb d_Mo_best_80 hl (k := 0) rfl (nI_1 p9) (by decide) rfl (fun ls hl => ?_)
          refine lv_goto (tgt := 35) hx hb d_Mo_best_83 (by decide) ?_
          have e1 : bestB n np x.2 mm p9 q = (q.1, q.2.1, x8) := by unfold bestB; rw [hx8]; exact (if_neg c49_4)
          exact ih (p9 + 1) (q.1, q.2.1, x8) _ _ _ (by omega) (by omega) hk8 (it_back hp4 h9 e1) hP hD hS (lv_sub hl [0, 1, 2, 3] rfl)
        · refine lv_aload_n hx hb d_Mo_best_52 rfl (lv_at hl 3 rfl) ?_
          refine get_mi (x := x8) C 26 q_576 rfl (by decide) rfl (x8.1 26) rfl hP d_Mo_best_53 ?_
          refine lv_iconst (v := (-1)) hx hb d_Mo_best_56 (by decide) ?_
          refine lv_icmp_ne (tgt := 80) hx hb d_Mo_best_57 (by decide) (fun c57_5 => ?_) (fun c57_5 => ?_)
          · refine lv_iinc (v := (nI (p9 + 1))) (lv' := [(3, .int (nI (p9 + 1))), (2, .int q.2.1), (1, .int q.1), (0, .ref (ad 0))]) hx hb d_Mo_best_80 hl (k := 0) rfl (nI_1 p9) (by decide) rfl (fun ls hl => ?_)
            refine lv_goto (tgt := 35) hx hb d_Mo_best_83 (by decide) ?_
            have e1 : bestB n np x.2 mm p9 q = (q.1, q.2.1, x8) := by unfold bestB; rw [hx8]; exact ((if_pos c49_4).trans (if_neg c57_5))
            exact ih (p9 + 1) (q.1, q.2.1, x8) _ _ _ (by omega) (by omega) hk8 (it_back hp4 h9 e1) hP hD hS (lv_sub hl [0, 1, 2, 3] rfl)
          · refine lv_iload_n hx hb d_Mo_best_60 rfl (lv_at hl 2 rfl) ?_
            refine lv_iconst (v := (-1)) hx hb d_Mo_best_61 (by decide) ?_
            refine lv_icmp_eq (tgt := 73) hx hb d_Mo_best_62 (by decide) (fun c62_6 => ?_) (fun c62_6 => ?_)
            · refine lv_iload_n hx hb d_Mo_best_73 rfl (lv_at hl 0 rfl) ?_
              refine lv_istore_n (lv' := [(1, .int (nI p9)), (3, .int (nI p9)), (2, .int q.2.1), (0, .ref (ad 0))]) hx hb d_Mo_best_74 rfl hl (by decide) rfl (fun ls hl => ?_)
              refine lv_aload_n hx hb d_Mo_best_75 rfl (lv_at hl 3 rfl) ?_
              refine get_mi (x := x8) C 29 q_579 rfl (by decide) rfl (x8.1 29) rfl hP d_Mo_best_76 ?_
              refine lv_istore_n (lv' := [(2, .int (x8.1 29)), (1, .int (nI p9)), (3, .int (nI p9)), (0, .ref (ad 0))]) hx hb d_Mo_best_79 rfl hl (by decide) rfl (fun ls hl => ?_)
              refine lv_iinc (v := (nI (p9 + 1))) (lv' := [(3, .int (nI (p9 + 1))), (2, .int (x8.1 29)), (1, .int (nI p9)), (0, .ref (ad 0))]) hx hb d_Mo_best_80 hl (k := 2) rfl (nI_1 p9) (by decide) rfl (fun ls hl => ?_)
              refine lv_goto (tgt := 35) hx hb d_Mo_best_83 (by decide) ?_
              have e1 : bestB n np x.2 mm p9 q = ((nI p9), (x8.1 29), x8) := by unfold bestB; rw [hx8]; exact ((if_pos c49_4).trans ((if_pos c57_5).trans (if_pos c62_6)))
              exact ih (p9 + 1) ((nI p9), (x8.1 29), x8) _ _ _ (by omega) (by omega) hk8 (it_back hp4 h9 e1) hP hD hS (lv_sub hl [0, 1, 2, 3] rfl)
            · refine lv_aload_n hx hb d_Mo_best_65 rfl (lv_at hl 3 rfl) ?_
              refine get_mi (x := x8) C 29 q_579 rfl (by decide) rfl (x8.1 29) rfl hP d_Mo_best_66 ?_
              refine lv_iload_n hx hb d_Mo_best_69 rfl (lv_at hl 1 rfl) ?_
              refine lv_icmp_ge (tgt := 80) hx hb d_Mo_best_70 (by decide) (fun c70_7 => ?_) (fun c70_7 => ?_)
              · refine lv_iinc (v := (nI (p9 + 1))) (lv' := [(3, .int (nI (p9 + 1))), (2, .int q.2.1), (1, .int q.1), (0, .ref (ad 0))]) hx hb d_Mo_best_80 hl (k := 0) rfl (nI_1 p9) (by decide) rfl (fun ls hl => ?_)
                refine lv_goto (tgt := 35) hx hb d_Mo_best_83 (by decide) ?_
                have e1 : bestB n np x.2 mm p9 q = (q.1, q.2.1, x8) := by unfold bestB; rw [hx8]; exact ((if_pos c49_4).trans ((if_pos c57_5).trans ((if_neg c62_6).trans (if_pos c70_7))))
                exact ih (p9 + 1) (q.1, q.2.1, x8) _ _ _ (by omega) (by omega) hk8 (it_back hp4 h9 e1) hP hD hS (lv_sub hl [0, 1, 2, 3] rfl)
              · refine lv_iload_n hx hb d_Mo_best_73 rfl (lv_at hl 0 rfl) ?_
                refine lv_istore_n (lv' := [(1, .int (nI p9)), (3, .int (nI p9)), (2, .int q.2.1), (0, .ref (ad 0))]) hx hb d_Mo_best_74 rfl hl (by decide) rfl (fun ls hl => ?_)
                refine lv_aload_n hx hb d_Mo_best_75 rfl (lv_at hl 3 rfl) ?_
                refine get_mi (x := x8) C 29 q_579 rfl (by decide) rfl (x8.1 29) rfl hP d_Mo_best_76 ?_
                refine lv_istore_n (lv' := [(2, .int (x8.1 29)), (1, .int (nI p9)), (3, .int (nI p9)), (0, .ref (ad 0))]) hx hb d_Mo_best_79 rfl hl (by decide) rfl (fun ls hl => ?_)
                refine lv_iinc (v := (nI (p9 + 1))) (lv' := [(3, .int (nI (p9 + 1))), (2, .int (x8.1 29)), (1, .int (nI p9)), (0, .ref (ad 0))]) hx hb d_Mo_best_80 hl (k := 2) rfl (nI_1 p9) (by decide) rfl (fun ls hl => ?_)
                refine lv_goto (tgt := 35) hx hb d_Mo_best_83 (by decide) ?_
                have e1 : bestB n np x.2 mm p9 q = ((nI p9), (x8.1 29), x8) := by unfold bestB; rw [hx8]; exact ((if_pos c49_4).trans ((if_pos c57_5).trans ((if_neg c62_6).trans (if_neg c70_7))))
                exact ih (p9 + 1) ((nI p9), (x8.1 29), x8) _ _ _ (by omega) (by omega) hk8 (it_back hp4 h9 e1) hP hD hS (lv_sub hl [0, 1, 2, 3] rfl)
  exact lp 5 0 (-1, 0, keepM (upd x.1 0 0, x.2)) _ _ _ (by omega) (by omega) (Kp.rf _) h9 hP hD hS (lv_sub hl [0, 1, 2, 3] rfl)
set_option maxHeartbeats 4000000 in
set_option maxRecDepth 100000 in
theorem c_Mo_sweeps_1 (l : Launch) (g : Glob) (ad : Nat → Nat) (x : MS) (p0 : Int32) (hbad : ¬ inI p0 0 3 = 1) : CI l g y_Mo_sweeps b_Mo_sweeps 3 (some .int) 7 179 [.ref (ad 0), .int p0] (wM g ad x) (0) (wM g ad (upd x.1 0 1, x.2)) := by
  refine CI.of .int rfl rfl (by decide +kernel) (Nat.le_of_ble_eq_true rfl) ?_
  intro p e s m below meth c A Q ls C hP hD hl hret hS
  obtain ⟨hx, hb, hml, hown, hw, hE, hA⟩ := id C
  have hl : lv_has ls 3 [(0, .ref (ad 0)), (1, .int p0)] := hl
  refine lv_aload_n hx hb d_Mo_sweeps_0 rfl (lv_at hl 0 rfl) ?_
  refine lv_iload_n hx hb d_Mo_sweeps_1 rfl (lv_at hl 1 rfl) ?_
  refine lv_iconst (v := 0) hx hb d_Mo_sweeps_2 (by decide) ?_
  refine lv_iconst (v := 3) hx hb d_Mo_sweeps_3 (by decide) ?_
  refine csI C v_Mo_152 [.int p0, .int 0, .int 3] [.ref (ad 0)] (c_Mo_in l g p0 0 3) hP hS rfl rfl hl.1 (Nat.le_of_ble_eq_true rfl) ⟨Nat.le_of_ble_eq_true rfl, Nat.le_of_ble_eq_true rfl⟩ d_Mo_sweeps_4 ⟨Nat.zero_le _, Nat.zero_le _⟩ (fun H locs hP hS => ?_)
  refine lv_if_ne (tgt := 14) hx hb d_Mo_sweeps_7 (by decide) (fun c7_1 => ?_) (fun c7_1 => ?_)
  · exact absurd c7_1 (fun q => hbad (in1 q))
  refine lv_iconst (v := 1) hx hb d_Mo_sweeps_10 (by decide) ?_
  refine lv_goto (tgt := 26) hx hb d_Mo_sweeps_11 (by decide) ?_
  refine put_ms C 0 (ty := .int) q_550 rfl (by decide) rfl (by decide +kernel) rfl rfl wM_s0 hP hD hS d_Mo_sweeps_26 (fun H locs hP hD hS => ?_)
  refine lv_aload_n hx hb d_Mo_sweeps_29 rfl (lv_at hl 0 rfl) ?_
  refine get_mi (x := ((upd x.1 0 1), x.2)) C 0 q_550 rfl (by decide) rfl 1 (pk_us (f := x.1) (k := 0) (x := 1)) hP d_Mo_sweeps_30 ?_
  refine lv_if_le (tgt := 38) hx hb d_Mo_sweeps_33 (by decide) (fun c33_2 => ?_) (fun c33_2 => ?_)
  · exact absurd c33_2 (by decide)
  refine lv_iconst (v := 0) hx hb d_Mo_sweeps_36 (by decide) ?_
  exact hret _ _ _ _ _ _ rfl rfl hP hD hS d_Mo_sweeps_37
set_option maxHeartbeats 4000000 in
set_option maxRecDepth 100000 in
theorem c_Mo_sweeps_2 (l : Launch) (g : Glob) (ad : Nat → Nat) (x : MS) (p0 : Int32) (v0 : inI p0 0 3 = 1) (h0 : x.1 2 = 0) : CI l g y_Mo_sweeps b_Mo_sweeps 3 (some .int) 7 179 [.ref (ad 0), .int p0] (wM g ad x) (0) (wM g ad (upd x.1 0 2, x.2)) := by
  refine CI.of .int rfl rfl (by decide +kernel) (Nat.le_of_ble_eq_true rfl) ?_
  intro p e s m below meth c A Q ls C hP hD hl hret hS
  obtain ⟨hx, hb, hml, hown, hw, hE, hA⟩ := id C
  have hl : lv_has ls 3 [(0, .ref (ad 0)), (1, .int p0)] := hl
  refine lv_aload_n hx hb d_Mo_sweeps_0 rfl (lv_at hl 0 rfl) ?_
  refine lv_iload_n hx hb d_Mo_sweeps_1 rfl (lv_at hl 1 rfl) ?_
  refine lv_iconst (v := 0) hx hb d_Mo_sweeps_2 (by decide) ?_
  refine lv_iconst (v := 3) hx hb d_Mo_sweeps_3 (by decide) ?_
  refine csI C v_Mo_152 [.int p0, .int 0, .int 3] [.ref (ad 0)] (c_Mo_in l g p0 0 3) hP hS rfl rfl hl.1 (Nat.le_of_ble_eq_true rfl) ⟨Nat.le_of_ble_eq_true rfl, Nat.le_of_ble_eq_true rfl⟩ d_Mo_sweeps_4 ⟨Nat.zero_le _, Nat.zero_le _⟩ (fun H locs hP hS => ?_)
  refine lv_if_ne (tgt := 14) hx hb d_Mo_sweeps_7 (by decide) (fun c7_1 => ?_) (fun c7_1 => ?_)
  rotate_left
  · exact absurd c7_1 (nz1 v0)
  refine lv_aload_n hx hb d_Mo_sweeps_14 rfl (lv_at hl 0 rfl) ?_
  refine get_mi (x := x) C 2 q_552 rfl (by decide) rfl (x.1 2) rfl hP d_Mo_sweeps_15 ?_
  refine lv_if_ne (tgt := 25) hx hb d_Mo_sweeps_18 (by decide) (fun c18_2 => ?_) (fun c18_2 => ?_)
  · exact absurd c18_2 (fun q => q h0)
  refine lv_iconst (v := 2) hx hb d_Mo_sweeps_21 (by decide) ?_
  refine lv_goto (tgt := 26) hx hb d_Mo_sweeps_22 (by decide) ?_
  refine put_ms C 0 (ty := .int) q_550 rfl (by decide) rfl (by decide +kernel) rfl rfl wM_s0 hP hD hS d_Mo_sweeps_26 (fun H locs hP hD hS => ?_)
  refine lv_aload_n hx hb d_Mo_sweeps_29 rfl (lv_at hl 0 rfl) ?_
  refine get_mi (x := ((upd x.1 0 2), x.2)) C 0 q_550 rfl (by decide) rfl 2 (pk_us (f := x.1) (k := 0) (x := 2)) hP d_Mo_sweeps_30 ?_
  refine lv_if_le (tgt := 38) hx hb d_Mo_sweeps_33 (by decide) (fun c33_3 => ?_) (fun c33_3 => ?_)
  · exact absurd c33_3 (by decide)
  refine lv_iconst (v := 0) hx hb d_Mo_sweeps_36 (by decide) ?_
  exact hret _ _ _ _ _ _ rfl rfl hP hD hS d_Mo_sweeps_37
set_option maxHeartbeats 4000000 in
set_option maxRecDepth 100000 in
theorem c_Mo_sweeps_0 (l : Launch) (g : Glob) (ad : Nat → Nat) (x : MS) (n np : Nat) (hC0 : InvC n np x) (h3 : n ≤ 3) (h20 : np ≤ 20) (mm : Nat → Nat) (hmm : InvP x.2 mm) (hz : ∀ j, j < 4096 → x.2 18 j = 0 ∨ x.2 18 j = 1) (pl : Nat) (hpl : pl < 4) (v0 : inI (nI pl) 0 3 = 1) (h0 : ¬ x.1 2 = 0) : CI l g y_Mo_sweeps b_Mo_sweeps 3 (some .int) 7 179 [.ref (ad 0), .int (nI pl)] (wM g ad x) ((goPlanM n np (keepM (upd x.1 0 0, x.2)).2 pl (mm pl) (keepM (upd x.1 0 0, x.2))).1 29) (wM g ad (putM (goPlanM n np (keepM (upd x.1 0 0, x.2)).2 pl (mm pl) (keepM (upd x.1 0 0, x.2))))) := by
  refine CI.of .int rfl rfl (by decide +kernel) (Nat.le_of_ble_eq_true rfl) ?_
  intro p e s m below meth c A Q ls C hP hD hl hret hS
  obtain ⟨hx, hb, hml, hown, hw, hE, hA⟩ := id C
  have hl : lv_has ls 3 [(0, .ref (ad 0)), (1, .int (nI pl))] := hl
  refine lv_aload_n hx hb d_Mo_sweeps_0 rfl (lv_at hl 0 rfl) ?_
  refine lv_iload_n hx hb d_Mo_sweeps_1 rfl (lv_at hl 1 rfl) ?_
  refine lv_iconst (v := 0) hx hb d_Mo_sweeps_2 (by decide) ?_
  refine lv_iconst (v := 3) hx hb d_Mo_sweeps_3 (by decide) ?_
  refine csI C v_Mo_152 [.int (nI pl), .int 0, .int 3] [.ref (ad 0)] (c_Mo_in l g (nI pl) 0 3) hP hS rfl rfl hl.1 (Nat.le_of_ble_eq_true rfl) ⟨Nat.le_of_ble_eq_true rfl, Nat.le_of_ble_eq_true rfl⟩ d_Mo_sweeps_4 ⟨Nat.zero_le _, Nat.zero_le _⟩ (fun H locs hP hS => ?_)
  refine lv_if_ne (tgt := 14) hx hb d_Mo_sweeps_7 (by decide) (fun c7_1 => ?_) (fun c7_1 => ?_)
  rotate_left
  · exact absurd c7_1 (nz1 v0)
  refine lv_aload_n hx hb d_Mo_sweeps_14 rfl (lv_at hl 0 rfl) ?_
  refine get_mi (x := x) C 2 q_552 rfl (by decide) rfl (x.1 2) rfl hP d_Mo_sweeps_15 ?_
  refine lv_if_ne (tgt := 25) hx hb d_Mo_sweeps_18 (by decide) (fun c18_2 => ?_) (fun c18_2 => ?_)
  rotate_left
  · exact absurd c18_2 (fun q => h0 q)
  refine lv_iconst (v := 0) hx hb d_Mo_sweeps_25 (by decide) ?_
  refine put_ms C 0 (ty := .int) q_550 rfl (by decide) rfl (by decide +kernel) rfl rfl wM_s0 hP hD hS d_Mo_sweeps_26 (fun H locs hP hD hS => ?_)
  refine lv_aload_n hx hb d_Mo_sweeps_29 rfl (lv_at hl 0 rfl) ?_
  refine get_mi (x := ((upd x.1 0 0), x.2)) C 0 q_550 rfl (by decide) rfl 0 (pk_us (f := x.1) (k := 0) (x := 0)) hP d_Mo_sweeps_30 ?_
  refine lv_if_le (tgt := 38) hx hb d_Mo_sweeps_33 (by decide) (fun c33_3 => ?_) (fun c33_3 => ?_)
  rotate_left
  · exact absurd (by decide) c33_3
  refine lv_aload_n hx hb d_Mo_sweeps_38 rfl (lv_at hl 0 rfl) ?_
  refine cvV C v_Mo_162 [] [] (c_Mo_keepAside l g ad ((upd x.1 0 0), x.2) hz) hP hD hS [0, 1, 2, 3, 4, 5, 6, 7, 8, 9, 10, 11, 12, 13, 14, 15, 16, 17, 18, 19, 20] [] [0, 1, 2, 3, 4, 5, 6, 7, 8, 9, 10, 11, 12, 13, 14, 15, 16, 17, 18, 19, 20] [] (wM g ad (keepM ((upd x.1 0 0), x.2))) rfl rfl (by decide) (by decide) (by decide) rfl (by decide) 0 rfl rfl rfl rfl hl.1 (Nat.le_of_ble_eq_true rfl) ⟨Nat.le_of_ble_eq_true rfl, Nat.le_of_ble_eq_true rfl⟩ d_Mo_sweeps_39 ⟨Nat.zero_le _, Nat.zero_le _⟩ (fun H locs hP hD hS => ?_)
  refine lv_aload_n hx hb d_Mo_sweeps_42 rfl (lv_at hl 0 rfl) ?_
  refine lv_iload_n hx hb d_Mo_sweeps_43 rfl (lv_at hl 1 rfl) ?_
  refine cvV C v_Mo_165 [.int (nI pl)] [] (c_Mo_goPlan l g ad (keepM (upd x.1 0 0, x.2)) n np (keepM_C (upd0_C (v := 0) hC0)) h3 h20 pl (mm pl) hpl (by rw [keepM_k (by decide)]; exact (hmm pl hpl).1) (hmm pl hpl).2.1 (by rw [keepM_k (by decide)]; exact (hmm pl hpl).2.2)) hP hD hS [0, 1, 2, 3, 4, 5, 6, 7, 8, 9, 10, 11, 12, 13, 14, 15, 16, 17, 18, 19, 20] [] [0, 1, 2, 3, 4, 5, 6, 7, 8, 9, 10, 11, 12, 13, 14, 15, 16, 17, 18, 19, 20] [] (wM g ad (goPlanM n np (keepM (upd x.1 0 0, x.2)).2 pl (mm pl) (keepM (upd x.1 0 0, x.2)))) rfl rfl (by decide) (by decide) (by decide) rfl (by decide) 0 rfl rfl rfl rfl hl.1 (Nat.le_of_ble_eq_true rfl) ⟨Nat.le_of_ble_eq_true rfl, Nat.le_of_ble_eq_true rfl⟩ d_Mo_sweeps_44 ⟨Nat.zero_le _, Nat.zero_le _⟩ (fun H locs hP hD hS => ?_)
  refine lv_aload_n hx hb d_Mo_sweeps_47 rfl (lv_at hl 0 rfl) ?_
  refine get_mi (x := (goPlanM n np (keepM (upd x.1 0 0, x.2)).2 pl (mm pl) (keepM (upd x.1 0 0, x.2)))) C 29 q_579 rfl (by decide) rfl ((goPlanM n np (keepM (upd x.1 0 0, x.2)).2 pl (mm pl) (keepM (upd x.1 0 0, x.2))).1 29) rfl hP d_Mo_sweeps_48 ?_
  refine lv_istore_n (lv' := [(2, .int ((goPlanM n np (keepM (upd x.1 0 0, x.2)).2 pl (mm pl) (keepM (upd x.1 0 0, x.2))).1 29)), (0, .ref (ad 0)), (1, .int (nI pl))]) hx hb d_Mo_sweeps_51 rfl hl (by decide) rfl (fun ls hl => ?_)
  have hz9 : ∀ j, j < 4096 → (goPlanM n np (keepM (upd x.1 0 0, x.2)).2 pl (mm pl) (keepM (upd x.1 0 0, x.2))).2 20 j = 0 ∨ (goPlanM n np (keepM (upd x.1 0 0, x.2)).2 pl (mm pl) (keepM (upd x.1 0 0, x.2))).2 20 j = 1 := by rw [(goPlanM_Kp _).1 20 (by decide)]; exact keepM_20 hz
  refine lv_aload_n hx hb d_Mo_sweeps_52 rfl (lv_at hl 1 rfl) ?_
  refine cvV C v_Mo_168 [] [] (c_Mo_putBack l g ad (goPlanM n np (keepM (upd x.1 0 0, x.2)).2 pl (mm pl) (keepM (upd x.1 0 0, x.2))) hz9) hP hD hS [0, 1, 2, 3, 4, 5, 6, 7, 8, 9, 10, 11, 12, 13, 14, 15, 16, 17, 18, 19, 20] [] [0, 1, 2, 3, 4, 5, 6, 7, 8, 9, 10, 11, 12, 13, 14, 15, 16, 17, 18, 19, 20] [] (wM g ad (putM (goPlanM n np (keepM (upd x.1 0 0, x.2)).2 pl (mm pl) (keepM (upd x.1 0 0, x.2))))) rfl rfl (by decide) (by decide) (by decide) rfl (by decide) 0 rfl rfl rfl rfl hl.1 (Nat.le_of_ble_eq_true rfl) ⟨Nat.le_of_ble_eq_true rfl, Nat.le_of_ble_eq_true rfl⟩ d_Mo_sweeps_53 ⟨Nat.zero_le _, Nat.zero_le _⟩ (fun H locs hP hD hS => ?_)
  refine lv_iload_n hx hb d_Mo_sweeps_56 rfl (lv_at hl 0 rfl) ?_
  exact hret _ _ _ _ _ _ rfl rfl hP hD hS d_Mo_sweeps_57
