set_option maxHeartbeats 4000000 in
set_option maxRecDepth 100000 in
theorem c_Ru_follow (l : Launch) (g : Glob) (ad : Nat → Nat) (k : CFG) (x : RS) (n : Nat) (hn : k.2.1 0 = nI n) (h3 : n ≤ 3) (np : Nat) (hp : k.2.1 1 = nI np) (h20 : np ≤ 20) (q : PLN) (mm : Nat) (hm : q.2.2.2 = nI mm) (h6 : mm ≤ 6) (hst : ∀ i, i < mm → (¬ q.2.1 i < 0) ∧ (q.2.1 i).toNatClampNeg ≤ 1000000) : CV l g y_Ru_follow b_Ru_follow 3 5 132 [.ref (ad 0), .ref (ad 14)] (wF g ad k x q) (wF g ad k (followF k n np q mm x) q) := by
  refine CV.of (by decide +kernel) (Nat.le_of_ble_eq_true rfl) ?_
  intro p e s m below meth c A Q ls C hP hD hl hret hS
  obtain ⟨hx, hb, hml, hown, hw, hE, hA⟩ := id C
  have hl : lv_has ls 3 [(0, .ref (ad 0)), (1, .ref (ad 14))] := hl
  unfold followF at hret
  generalize h9 : itF (partF k n np q) mm 0 (begF k n np x) = x9 at hret
  refine lv_aload_n hx hb d_Ru_follow_0 rfl (lv_at hl 0 rfl) ?_
  refine cvV C v_Ru_84 [] [] (c_Ru_begin l g ad k x n hn h3 np hp h20) hP hD hS [0, 1, 2, 3, 4, 5, 6, 7, 8, 9, 10, 11, 12, 13] [14, 15, 16, 17] [4, 5, 6, 7, 8, 9, 10, 11, 12, 13, 14, 15, 16, 17, 0, 1, 2, 3] [((ad 14), .inr (2, [.ref (ad 15), .ref (ad 16), .ref (ad 17), .int q.2.2.2])), ((ad 15), .inl (g.2.1 0, 6, .inl q.1)), ((ad 16), .inl (g.2.1 0, 6, .inl q.2.1)), ((ad 17), .inl (g.2.1 2, 6, .inl q.2.2.1))] (wF g ad k (begF k n np x) q) rfl rfl (by decide) (by decide) (by decide) rfl (by decide) 0 rfl rfl rfl rfl hl.1 (Nat.le_of_ble_eq_true rfl) ⟨Nat.le_of_ble_eq_true rfl, Nat.le_of_ble_eq_true rfl⟩ d_Ru_follow_1 ⟨Nat.zero_le _, Nat.zero_le _⟩ (fun H locs hP hD hS => ?_)
  refine lv_iconst (v := 0) hx hb d_Ru_follow_4 (by decide) ?_
  refine lv_istore_n (lv' := [(2, .int 0), (0, .ref (ad 0)), (1, .ref (ad 14))]) hx hb d_Ru_follow_5 rfl hl (by decide) rfl (fun ls hl => ?_)
  have lp : ∀ (j : Nat) (i : Nat) (x : RS) (H : Heap) (locs : List Loc) (ls : Array Slot), i ≤ mm → mm < i + j → itF (partF k n np q) mm i x = x9 → va_P g.1 classes (wF g ad k x q) H → va_D A (wF g ad k x q) → va_S A s.heap H locs → lv_has ls 3 [(2, .int (nI i)), (0, .ref (ad 0)), (1, .ref (ad 14))] → W p l e { frames := 5, cells := 0, slots := 0, locals := 132 } s m ([.ref (ad 0), .ref (ad 14)] : List Value).toArray below meth c H locs 0 0 Q (F0 m 6 ls []) := by
    intro j
    induction j with
    | zero =>
      intro i x H locs ls hi hj h9 hP hD hS hl
      exact absurd trivial (by omega)
    | succ j ih =>
      intro i x H locs ls hi hj h9 hP hD hS hl
      refine lv_iload_n hx hb d_Ru_follow_6 rfl (lv_at hl 0 rfl) ?_
      refine lv_aload_n hx hb d_Ru_follow_7 rfl (lv_at hl 2 rfl) ?_
      refine va_get (D := g.1) (ci := 2) (v := .int q.2.2.2) (C := R_Pl) (T := F_Pl) (N := 4) hx hb hw i_Pl hown hE.1 hP 14 rfl rfl 3 (by decide) (hw _ q_202) (fun _ h9 => h9) rfl d_Ru_follow_8 ?_
      refine lv_icmp_ge (tgt := 42) hx hb d_Ru_follow_11 (by decide) (fun c11_1 => ?_) (fun c11_1 => ?_)
      · have h9 := (itF_end (ge_of_le' 6 hm h6 (by decide) (by omega) c11_1)).symm.trans h9
        subst h9
        exact hret _ _ _ _ _ rfl hP hD hS d_Ru_follow_42
      · have hlt := lt_of_nle' 6 hm h6 (by decide) (by omega) c11_1
        refine lv_aload_n hx hb d_Ru_follow_14 rfl (lv_at hl 1 rfl) ?_
        refine lv_aload_n hx hb d_Ru_follow_15 rfl (lv_at hl 2 rfl) ?_
        refine va_get (D := g.1) (ci := 2) (v := .ref (ad 15)) (C := R_Pl) (T := F_Pl) (N := 4) hx hb hw i_Pl hown hE.1 hP 14 rfl rfl 0 (by decide) (hw _ q_196) (fun _ h9 => h9) rfl d_Ru_follow_16 ?_
        refine lv_iload_n hx hb d_Ru_follow_19 rfl (lv_at hl 0 rfl) ?_
        refine va_iald hx hb hE.1 hP 15 0 rfl rfl (vp_in_nI (show i < 6 by omega) (by omega)) d_Ru_follow_20 ?_
        rw [nI_clamp (by omega)]
        refine lv_aload_n hx hb d_Ru_follow_21 rfl (lv_at hl 2 rfl) ?_
        refine va_get (D := g.1) (ci := 2) (v := .ref (ad 16)) (C := R_Pl) (T := F_Pl) (N := 4) hx hb hw i_Pl hown hE.1 hP 14 rfl rfl 1 (by decide) (hw _ q_198) (fun _ h9 => h9) rfl d_Ru_follow_22 ?_
        refine lv_iload_n hx hb d_Ru_follow_25 rfl (lv_at hl 0 rfl) ?_
        refine va_iald hx hb hE.1 hP 16 0 rfl rfl (vp_in_nI (show i < 6 by omega) (by omega)) d_Ru_follow_26 ?_
        rw [nI_clamp (by omega)]
        refine lv_aload_n hx hb d_Ru_follow_27 rfl (lv_at hl 2 rfl) ?_
        refine va_get (D := g.1) (ci := 2) (v := .ref (ad 17)) (C := R_Pl) (T := F_Pl) (N := 4) hx hb hw i_Pl hown hE.1 hP 14 rfl rfl 2 (by decide) (hw _ q_200) (fun _ h9 => h9) rfl d_Ru_follow_28 ?_
        refine lv_iload_n hx hb d_Ru_follow_31 rfl (lv_at hl 0 rfl) ?_
        refine va_zald hx hb hE.1 hP 17 2 rfl rfl (vp_in_nI (show i < 6 by omega) (by omega)) d_Ru_follow_32 ?_
        rw [nI_clamp (by omega)]
        refine cvV C v_Ru_103 [.int (q.1 i), .int (q.2.1 i), .int (q.2.2.1 i)] [] (c_Ru_walk l g ad k x n hn h3 np hp h20 (q.1 i) (q.2.1 i) (q.2.2.1 i) _ (clampI (hst i hlt).1) (hst i hlt).2) hP hD hS [0, 1, 2, 3, 4, 5, 6, 7, 8, 9, 10, 11, 12, 13] [14, 15, 16, 17] [4, 5, 6, 7, 8, 9, 10, 11, 12, 13, 14, 15, 16, 17, 0, 1, 2, 3] [((ad 14), .inr (2, [.ref (ad 15), .ref (ad 16), .ref (ad 17), .int q.2.2.2])), ((ad 15), .inl (g.2.1 0, 6, .inl q.1)), ((ad 16), .inl (g.2.1 0, 6, .inl q.2.1)), ((ad 17), .inl (g.2.1 2, 6, .inl q.2.2.1))] (wF g ad k (walkF k n np (q.1 i) (q.2.1 i).toNatClampNeg (q.2.2.1 i) x) q) rfl rfl (by decide) (by decide) (by decide) rfl (by decide) 0 rfl rfl rfl rfl hl.1 (Nat.le_of_ble_eq_true rfl) ⟨Nat.le_of_ble_eq_true rfl, Nat.le_of_ble_eq_true rfl⟩ d_Ru_follow_33 ⟨Nat.zero_le _, Nat.zero_le _⟩ (fun H locs hP hD hS => ?_)
        refine lv_iinc (v := (nI (i + 1))) (lv' := [(2, .int (nI (i + 1))), (0, .ref (ad 0)), (1, .ref (ad 14))]) hx hb d_Ru_follow_36 hl (k := 0) rfl (nI_1 i) (by decide) rfl (fun ls hl => ?_)
        refine lv_goto (tgt := 6) hx hb d_Ru_follow_39 (by decide) ?_
        exact ih (i + 1) (walkF k n np (q.1 i) (q.2.1 i).toNatClampNeg (q.2.2.1 i) x) _ _ _ (by omega) (by omega) (it_back hlt h9 rfl) hP hD hS (lv_sub hl [0, 1, 2] rfl)
  exact lp (mm + 1) 0 (begF k n np x) _ _ _ (by omega) (by omega) h9 hP hD hS (lv_sub hl [0, 1, 2] rfl)
