/-- a plan: turns, steps, forwards; how many parts -/
abbrev PLN : Type := (Nat → Int32) × (Nat → Int32) × (Nat → Int32) × Int32
abbrev qPlan (a0 a1 a2 a3 : Nat) (q : PLN) : Nat × va_E := (a0, .inr (2, [.ref a1, .ref a2, .ref a3, .int q.2.2.2]))
def wF (g : Glob) (ad : Nat → Nat) (k : CFG) (x : RS) (q : PLN) : va_W := wR g ad k x ++ [qPlan (ad 14) (ad 15) (ad 16) (ad 17) q, qInts (ad 15) (g.2.1 0) 6 q.1, qInts (ad 16) (g.2.1 0) 6 q.2.1, (ad 17, .inl (g.2.1 2, 6, .inl q.2.2.1))]
def partF (k : CFG) (n np : Nat) (q : PLN) (i : Nat) (x : RS) : RS := walkF k n np (q.1 i) (q.2.1 i).toNatClampNeg (q.2.2.1 i) x
def followF (k : CFG) (n np : Nat) (q : PLN) (m : Nat) (x : RS) : RS := itF (partF k n np q) m 0 (begF k n np x)
def faultI (x : RS) : Int32 := if x.2.1 1 = 0 then (if x.2.1 2 = -1 then 1 else 0) else 0
theorem faultI_01 (x : RS) : faultI x = 0 ∨ faultI x = 1 := by
  unfold faultI
  split
  · split <;> simp
  · simp
theorem clampI {a : Int32} (h : ¬ a < 0) : a = nI a.toNatClampNeg := by
  obtain ⟨j, hj, e⟩ := nI_of h
  rw [e, nI_clamp hj]

set_option maxHeartbeats 4000000 in
set_option maxRecDepth 100000 in
theorem c_Ru_isFaultless (l : Launch) (g : Glob) (ad : Nat → Nat) (k : CFG) (x : RS) : CI l g y_Ru_isFaultless b_Ru_isFaultless 1 (some .boolean) 0 0 [.ref (ad 0)] (wR g ad k x) (faultI x) (wR g ad k x) := by
  refine CI.of .boolean rfl (nar01 (faultI_01 _)) (by decide +kernel) (Nat.le_of_ble_eq_true rfl) ?_
  intro p e s m below meth c A Q ls C hP hD hl hret hS
  obtain ⟨hx, hb, hml, hown, hw, hE, hA⟩ := id C
  have hl : lv_has ls 1 [(0, .ref (ad 0))] := hl
  refine lv_aload_n hx hb d_Ru_isFaultless_0 rfl (lv_at hl 0 rfl) ?_
  refine va_get (D := g.1) (ci := 4) (v := .int (x.2.1 1)) (C := R_Ru) (T := F_Ru) (N := 8) hx hb hw i_Ru hown hE.1 hP 0 rfl rfl 3 (by decide) (hw _ q_162) (fun _ h9 => h9) rfl d_Ru_isFaultless_1 ?_
  refine lv_if_ne (tgt := 19) hx hb d_Ru_isFaultless_4 (by decide) (fun c4_1 => ?_) (fun c4_1 => ?_)
  · refine lv_iconst (v := 0) hx hb d_Ru_isFaultless_19 (by decide) ?_
    exact hret _ _ _ _ _ _ ((if_neg c4_1).symm) rfl hP hD hS d_Ru_isFaultless_20
  · refine lv_aload_n hx hb d_Ru_isFaultless_7 rfl (lv_at hl 0 rfl) ?_
    refine va_get (D := g.1) (ci := 4) (v := .int (x.2.1 2)) (C := R_Ru) (T := F_Ru) (N := 8) hx hb hw i_Ru hown hE.1 hP 0 rfl rfl 4 (by decide) (hw _ q_164) (fun _ h9 => h9) rfl d_Ru_isFaultless_8 ?_
    refine lv_iconst (v := (-1)) hx hb d_Ru_isFaultless_11 (by decide) ?_
    refine lv_icmp_ne (tgt := 19) hx hb d_Ru_isFaultless_12 (by decide) (fun c12_2 => ?_) (fun c12_2 => ?_)
    · refine lv_iconst (v := 0) hx hb d_Ru_isFaultless_19 (by decide) ?_
      exact hret _ _ _ _ _ _ (((if_pos c4_1).trans (if_neg c12_2)).symm) rfl hP hD hS d_Ru_isFaultless_20
    · refine lv_iconst (v := 1) hx hb d_Ru_isFaultless_15 (by decide) ?_
      refine lv_goto (tgt := 20) hx hb d_Ru_isFaultless_16 (by decide) ?_
      exact hret _ _ _ _ _ _ (((if_pos c4_1).trans (if_pos c12_2)).symm) rfl hP hD hS d_Ru_isFaultless_20
set_option maxHeartbeats 4000000 in
set_option maxRecDepth 100000 in
theorem c_Ru_move (l : Launch) (g : Glob) (ad : Nat → Nat) (k : CFG) (x : RS) (n : Nat) (hn : k.2.1 0 = nI n) (h3 : n ≤ 3) (turn way : Int32) : CV l g y_Ru_move b_Ru_move 5 3 68 [.ref (ad 0), .int turn, .int way] (wR g ad k x) (wR g ad k (moveF k n turn way x)) := by
  refine CV.of (by decide +kernel) (Nat.le_of_ble_eq_true rfl) ?_
  intro p e s m below meth c A Q ls C hP hD hl hret hS
  obtain ⟨hx, hb, hml, hown, hw, hE, hA⟩ := id C
  have hl : lv_has ls 5 [(0, .ref (ad 0)), (1, .int turn), (2, .int way)] := hl
  unfold moveF at hret
  generalize h9 : itF (swF k way) n 1 (mv0 turn way x) = x9 at hret
  refine lv_aload_n hx hb d_Ru_move_0 rfl (lv_at hl 0 rfl) ?_
  refine va_get (D := g.1) (ci := 4) (v := .ref (ad 6)) (C := R_Ru) (T := F_Ru) (N := 8) hx hb hw i_Ru hown hE.1 hP 0 rfl rfl 0 (by decide) (hw _ q_156) (fun _ h9 => h9) rfl d_Ru_move_1 ?_
  refine lv_iconst (v := 0) hx hb d_Ru_move_4 (by decide) ?_
  refine va_aldq hx hb hE.1 hP 6 4 rfl rfl (by unfold vp_in; decide) d_Ru_move_5 ?_
  rw [show (0 : Int32).toNatClampNeg = 0 from by decide]
  refine lv_astore_n (lv' := [(3, .ref (ad (7 + 0))), (0, .ref (ad 0)), (1, .int turn), (2, .int way)]) hx hb d_Ru_move_6 rfl hl (by decide) rfl (fun ls hl => ?_)
  refine lv_aload_n hx hb d_Ru_move_7 rfl (lv_at hl 0 rfl) ?_
  refine lv_dup hx hb d_Ru_move_8 rfl ?_
  refine get_po C 0 0 (by decide) (by decide) rfl q_118 hP (x.1 0 0) rfl d_Ru_move_9 ?_
  refine lv_iload_n hx hb d_Ru_move_12 rfl (lv_at hl 3 rfl) ?_
  refine lv_aload_n hx hb d_Ru_move_13 rfl (lv_at hl 0 rfl) ?_
  refine get_po C 2 0 (by decide) (by decide) rfl q_124 hP (x.1 2 0) rfl d_Ru_move_14 ?_
  refine csI C v_Ru_123 [.int (x.1 2 0)] [.int way, .int (x.1 0 0), .ref (ad (7 + 0))] (c_Di_dx l g (x.1 2 0)) hP hS rfl rfl hl.1 (Nat.le_of_ble_eq_true rfl) ⟨Nat.le_of_ble_eq_true rfl, Nat.le_of_ble_eq_true rfl⟩ d_Ru_move_17 ⟨Nat.zero_le _, Nat.zero_le _⟩ (fun H locs hP hS => ?_)
  refine lv_imul hx hb d_Ru_move_20 ?_
  refine lv_iadd hx hb d_Ru_move_21 ?_
  refine put_po C 0 0 (by decide) (by decide) rfl q_118 hP hD hS d_Ru_move_22 (fun H locs hP hD hS => ?_)
  have hP : va_P g.1 classes (wR g ad k ((u2 x.1 0 0 ((x.1 0 0) + (way * (dX (x.1 2 0))))), x.2.1, x.2.2.1, x.2.2.2)) H := hP
  have hD : va_D A (wR g ad k ((u2 x.1 0 0 ((x.1 0 0) + (way * (dX (x.1 2 0))))), x.2.1, x.2.2.1, x.2.2.2)) := hD
  refine lv_aload_n hx hb d_Ru_move_25 rfl (lv_at hl 0 rfl) ?_
  refine lv_dup hx hb d_Ru_move_26 rfl ?_
  refine get_po C 1 0 (by decide) (by decide) rfl q_121 hP (x.1 1 0) (u2_k (σ := x.1) (k := 0) (b := 0) (x := ((x.1 0 0) + (way * (dX (x.1 2 0))))) (i := 1) (j := 0) (by decide)) d_Ru_move_27 ?_
  refine lv_iload_n hx hb d_Ru_move_30 rfl (lv_at hl 3 rfl) ?_
  refine lv_aload_n hx hb d_Ru_move_31 rfl (lv_at hl 0 rfl) ?_
  refine get_po C 2 0 (by decide) (by decide) rfl q_124 hP (x.1 2 0) (u2_k (σ := x.1) (k := 0) (b := 0) (x := ((x.1 0 0) + (way * (dX (x.1 2 0))))) (i := 2) (j := 0) (by decide)) d_Ru_move_32 ?_
  refine csI C v_Ru_127 [.int (x.1 2 0)] [.int way, .int (x.1 1 0), .ref (ad (7 + 0))] (c_Di_dy l g (x.1 2 0)) hP hS rfl rfl hl.1 (Nat.le_of_ble_eq_true rfl) ⟨Nat.le_of_ble_eq_true rfl, Nat.le_of_ble_eq_true rfl⟩ d_Ru_move_35 ⟨Nat.zero_le _, Nat.zero_le _⟩ (fun H locs hP hS => ?_)
  refine lv_imul hx hb d_Ru_move_38 ?_
  refine lv_iadd hx hb d_Ru_move_39 ?_
  refine put_po C 1 0 (by decide) (by decide) rfl q_121 hP hD hS d_Ru_move_40 (fun H locs hP hD hS => ?_)
  have hP : va_P g.1 classes (wR g ad k ((u2 (u2 x.1 0 0 ((x.1 0 0) + (way * (dX (x.1 2 0))))) 1 0 ((x.1 1 0) + (way * (dY (x.1 2 0))))), x.2.1, x.2.2.1, x.2.2.2)) H := hP
  have hD : va_D A (wR g ad k ((u2 (u2 x.1 0 0 ((x.1 0 0) + (way * (dX (x.1 2 0))))) 1 0 ((x.1 1 0) + (way * (dY (x.1 2 0))))), x.2.1, x.2.2.1, x.2.2.2)) := hD
  refine lv_aload_n hx hb d_Ru_move_43 rfl (lv_at hl 0 rfl) ?_
  refine lv_aload_n hx hb d_Ru_move_44 rfl (lv_at hl 0 rfl) ?_
  refine get_po C 2 0 (by decide) (by decide) rfl q_124 hP (x.1 2 0) ((u2_k (σ := (u2 x.1 0 0 ((x.1 0 0) + (way * (dX (x.1 2 0)))))) (k := 1) (b := 0) (x := ((x.1 1 0) + (way * (dY (x.1 2 0))))) (i := 2) (j := 0) (by decide)).trans (u2_k (σ := x.1) (k := 0) (b := 0) (x := ((x.1 0 0) + (way * (dX (x.1 2 0))))) (i := 2) (j := 0) (by decide))) d_Ru_move_45 ?_
  refine lv_iload_n hx hb d_Ru_move_48 rfl (lv_at hl 2 rfl) ?_
  refine lv_iadd hx hb d_Ru_move_49 ?_
  refine csI C v_Ru_130 [.int ((x.1 2 0) + turn)] [.ref (ad (7 + 0))] (c_Di_round l g ((x.1 2 0) + turn)) hP hS rfl rfl hl.1 (Nat.le_of_ble_eq_true rfl) ⟨Nat.le_of_ble_eq_true rfl, Nat.le_of_ble_eq_true rfl⟩ d_Ru_move_50 ⟨Nat.zero_le _, Nat.zero_le _⟩ (fun H locs hP hS => ?_)
  refine put_po C 2 0 (by decide) (by decide) rfl q_124 hP hD hS d_Ru_move_53 (fun H locs hP hD hS => ?_)
  have hP : va_P g.1 classes (wR g ad k ((u2 (u2 (u2 x.1 0 0 ((x.1 0 0) + (way * (dX (x.1 2 0))))) 1 0 ((x.1 1 0) + (way * (dY (x.1 2 0))))) 2 0 (((x.1 2 0) + turn) &&& 63)), x.2.1, x.2.2.1, x.2.2.2)) H := hP
  have hD : va_D A (wR g ad k ((u2 (u2 (u2 x.1 0 0 ((x.1 0 0) + (way * (dX (x.1 2 0))))) 1 0 ((x.1 1 0) + (way * (dY (x.1 2 0))))) 2 0 (((x.1 2 0) + turn) &&& 63)), x.2.1, x.2.2.1, x.2.2.2)) := hD
  refine lv_iconst (v := 1) hx hb d_Ru_move_56 (by decide) ?_
  refine lv_istore (lv' := [(4, .int 1), (3, .ref (ad (7 + 0))), (0, .ref (ad 0)), (1, .int turn), (2, .int way)]) hx hb d_Ru_move_57 hl (by decide) rfl (fun ls hl => ?_)
  have lp : ∀ (j : Nat) (i : Nat) (x : RS) (H : Heap) (locs : List Loc) (ls : Array Slot), 1 ≤ i → i ≤ n + 1 → n + 1 < i + j → itF (swF k way) n i x = x9 → va_P g.1 classes (wR g ad k x) H → va_D A (wR g ad k x) → va_S A s.heap H locs → lv_has ls 5 [(4, .int (nI i)), (0, .ref (ad 0)), (1, .int turn), (2, .int way)] → W p l e { frames := 3, cells := 0, slots := 0, locals := 68 } s m ([.ref (ad 0), .int turn, .int way] : List Value).toArray below meth c H locs 0 0 Q (F0 m 59 ls []) := by
    intro j
    induction j with
    | zero =>
      intro i x H locs ls hlo hi hj h9 hP hD hS hl
      exact absurd trivial (by omega)
    | succ j ih =>
      intro i x H locs ls hlo hi hj h9 hP hD hS hl
      refine lv_iload hx hb d_Ru_move_59 (lv_at hl 0 rfl) ?_
      refine lv_aload_n hx hb d_Ru_move_61 rfl (lv_at hl 1 rfl) ?_
      refine va_get (D := g.1) (ci := 4) (v := .ref (ad 1)) (C := R_Ru) (T := F_Ru) (N := 8) hx hb hw i_Ru hown hE.1 hP 0 rfl rfl 7 (by decide) (hw _ q_170) (fun _ h9 => h9) rfl d_Ru_move_62 ?_
      refine va_get (D := g.1) (ci := 5) (v := .int (k.2.1 0)) (C := R_Se) (T := F_Se) (N := 9) hx hb hw i_Se hown hE.1 hP 1 rfl rfl 3 (by decide) (hw _ q_72) (fun _ h9 => h9) rfl d_Ru_move_65 ?_
      refine lv_icmp_ge (tgt := 84) hx hb d_Ru_move_68 (by decide) (fun c68_1 => ?_) (fun c68_1 => ?_)
      · have hge := ge_of_le hn h3 hi c68_1
        have h9 := (itF_end hge).symm.trans h9
        subst h9
        refine lv_aload_n hx hb d_Ru_move_84 rfl (lv_at hl 1 rfl) ?_
        refine cvV C v_Ru_78 [] [] (c_Ru_placeTrailers l g ad k x n hn h3) hP hD hS [0, 1, 2, 3, 4, 5, 6, 7, 8, 9, 10, 11, 12, 13] [] [0, 1, 2, 3, 4, 5, 6, 7, 8, 9, 10, 11, 12, 13] [] (wR g ad k (itF (plF k) n 1 x)) rfl rfl (by decide) (by decide) (by decide) rfl (by decide) 0 rfl rfl rfl rfl hl.1 (Nat.le_of_ble_eq_true rfl) ⟨Nat.le_of_ble_eq_true rfl, Nat.le_of_ble_eq_true rfl⟩ d_Ru_move_85 ⟨Nat.zero_le _, Nat.zero_le _⟩ (fun H locs hP hD hS => ?_)
        refine lv_aload_n hx hb d_Ru_move_88 rfl (lv_at hl 1 rfl) ?_
        refine lv_dup hx hb d_Ru_move_89 rfl ?_
        refine va_get (D := g.1) (ci := 4) (v := .int ((itF (plF k) n 1 x).2.1 0)) (C := R_Ru) (T := F_Ru) (N := 8) hx hb hw i_Ru hown hE.1 hP 0 rfl rfl 2 (by decide) (hw _ q_160) (fun _ h9 => h9) rfl d_Ru_move_90 ?_
        refine lv_iconst (v := 1) hx hb d_Ru_move_93 (by decide) ?_
        refine lv_iadd hx hb d_Ru_move_94 ?_
        refine va_put (D := g.1) (ci := 4) (v := .int (((itF (plF k) n 1 x).2.1 0) + 1)) (ty := .int) (C := R_Ru) (T := F_Ru) (N := 8) hx hb hw i_Ru t_Ru t_Ru_ok n_Ru hown hE.1 hP hD hS 0 rfl rfl 2 (by decide) (hw _ q_160) (fun _ h9 => h9) rfl (by decide +kernel) rfl rfl (Nat.le_of_ble_eq_true rfl) d_Ru_move_95 (fun H locs hP hD hS => ?_)
        have hP : va_P g.1 classes (wR g ad k ((itF (plF k) n 1 x).1, (upd (itF (plF k) n 1 x).2.1 0 (((itF (plF k) n 1 x).2.1 0) + 1)), (itF (plF k) n 1 x).2.2.1, (itF (plF k) n 1 x).2.2.2)) H := hP
        have hD : va_D A (wR g ad k ((itF (plF k) n 1 x).1, (upd (itF (plF k) n 1 x).2.1 0 (((itF (plF k) n 1 x).2.1 0) + 1)), (itF (plF k) n 1 x).2.2.1, (itF (plF k) n 1 x).2.2.2)) := hD
        exact hret _ _ _ _ _ rfl hP hD hS d_Ru_move_98
      · have hlt := lt_of_nle hn h3 hi c68_1
        rcases (show i = 1 ∨ i = 2 by omega) with rfl | rfl
        · have hl : lv_has ls 5 [(4, .int 1), (0, .ref (ad 0)), (1, .int turn), (2, .int way)] := hl
          refine lv_aload_n hx hb d_Ru_move_71 rfl (lv_at hl 1 rfl) ?_
          refine lv_iload hx hb d_Ru_move_72 (lv_at hl 0 rfl) ?_
          refine lv_iload_n hx hb d_Ru_move_74 rfl (lv_at hl 3 rfl) ?_
          refine cvV C v_Ru_133 [.int 1, .int way] [] (c_Ru_swing_1 l g ad k x way) hP hD hS [0, 1, 2, 3, 4, 5, 6, 7, 8, 9, 10, 11, 12, 13] [] [0, 1, 2, 3, 4, 5, 6, 7, 8, 9, 10, 11, 12, 13] [] (wR g ad k (swF k way 1 x)) rfl rfl (by decide) (by decide) (by decide) rfl (by decide) 0 rfl rfl rfl rfl hl.1 (Nat.le_of_ble_eq_true rfl) ⟨Nat.le_of_ble_eq_true rfl, Nat.le_of_ble_eq_true rfl⟩ d_Ru_move_75 ⟨Nat.zero_le _, Nat.zero_le _⟩ (fun H locs hP hD hS => ?_)
          refine lv_iinc (v := 2) (lv' := [(4, .int 2), (0, .ref (ad 0)), (1, .int turn), (2, .int way)]) hx hb d_Ru_move_78 hl (k := 0) rfl (by decide) (by decide) rfl (fun ls hl => ?_)
          refine lv_goto (tgt := 59) hx hb d_Ru_move_81 (by decide) ?_
          exact ih 2 (swF k way 1 x) _ _ _ (by omega) (by omega) (by omega) (it_back hlt h9 (rfl)) hP hD hS (lv_sub hl [0, 1, 2, 3] rfl)
        · have hl : lv_has ls 5 [(4, .int 2), (0, .ref (ad 0)), (1, .int turn), (2, .int way)] := hl
          refine lv_aload_n hx hb d_Ru_move_71 rfl (lv_at hl 1 rfl) ?_
          refine lv_iload hx hb d_Ru_move_72 (lv_at hl 0 rfl) ?_
          refine lv_iload_n hx hb d_Ru_move_74 rfl (lv_at hl 3 rfl) ?_
          refine cvV C v_Ru_133 [.int 2, .int way] [] (c_Ru_swing_2 l g ad k x way) hP hD hS [0, 1, 2, 3, 4, 5, 6, 7, 8, 9, 10, 11, 12, 13] [] [0, 1, 2, 3, 4, 5, 6, 7, 8, 9, 10, 11, 12, 13] [] (wR g ad k (swF k way 2 x)) rfl rfl (by decide) (by decide) (by decide) rfl (by decide) 0 rfl rfl rfl rfl hl.1 (Nat.le_of_ble_eq_true rfl) ⟨Nat.le_of_ble_eq_true rfl, Nat.le_of_ble_eq_true rfl⟩ d_Ru_move_75 ⟨Nat.zero_le _, Nat.zero_le _⟩ (fun H locs hP hD hS => ?_)
          refine lv_iinc (v := 3) (lv' := [(4, .int 3), (0, .ref (ad 0)), (1, .int turn), (2, .int way)]) hx hb d_Ru_move_78 hl (k := 0) rfl (by decide) (by decide) rfl (fun ls hl => ?_)
          refine lv_goto (tgt := 59) hx hb d_Ru_move_81 (by decide) ?_
          exact ih 3 (swF k way 2 x) _ _ _ (by omega) (by omega) (by omega) (it_back hlt h9 (rfl)) hP hD hS (lv_sub hl [0, 1, 2, 3] rfl)
  exact lp (n + 2) 1 ((u2 (u2 (u2 x.1 0 0 ((x.1 0 0) + (way * (dX (x.1 2 0))))) 1 0 ((x.1 1 0) + (way * (dY (x.1 2 0))))) 2 0 (((x.1 2 0) + turn) &&& 63)), x.2.1, x.2.2.1, x.2.2.2) _ _ _ (by omega) (by omega) (by omega) h9 hP hD hS (lv_sub hl [0, 2, 3, 4] rfl)
set_option maxHeartbeats 4000000 in
set_option maxRecDepth 100000 in
theorem c_Ru_begin (l : Launch) (g : Glob) (ad : Nat → Nat) (k : CFG) (x : RS) (n : Nat) (hn : k.2.1 0 = nI n) (h3 : n ≤ 3) (np : Nat) (hp : k.2.1 1 = nI np) (h20 : np ≤ 20) : CV l g y_Ru_begin b_Ru_begin 3 4 107 [.ref (ad 0)] (wR g ad k x) (wR g ad k (begF k n np x)) := by
  refine CV.of (by decide +kernel) (Nat.le_of_ble_eq_true rfl) ?_
  intro p e s m below meth c A Q ls C hP hD hl hret hS
  obtain ⟨hx, hb, hml, hown, hw, hE, hA⟩ := id C
  have hl : lv_has ls 3 [(0, .ref (ad 0))] := hl
  unfold begF at hret
  generalize h9 : itF (bgF k) n 0 (bg0 x) = x9 at hret
  refine lv_aload_n hx hb d_Ru_begin_0 rfl (lv_at hl 0 rfl) ?_
  refine lv_iconst (v := 0) hx hb d_Ru_begin_1 (by decide) ?_
  refine va_put (D := g.1) (ci := 4) (v := .int 0) (ty := .int) (C := R_Ru) (T := F_Ru) (N := 8) hx hb hw i_Ru t_Ru t_Ru_ok n_Ru hown hE.1 hP hD hS 0 rfl rfl 2 (by decide) (hw _ q_160) (fun _ h9 => h9) rfl (by decide +kernel) rfl rfl (Nat.le_of_ble_eq_true rfl) d_Ru_begin_2 (fun H locs hP hD hS => ?_)
  have hP : va_P g.1 classes (wR g ad k (x.1, (upd x.2.1 0 0), x.2.2.1, x.2.2.2)) H := hP
  have hD : va_D A (wR g ad k (x.1, (upd x.2.1 0 0), x.2.2.1, x.2.2.2)) := hD
  refine lv_aload_n hx hb d_Ru_begin_5 rfl (lv_at hl 0 rfl) ?_
  refine lv_iconst (v := 0) hx hb d_Ru_begin_6 (by decide) ?_
  refine va_put (D := g.1) (ci := 4) (v := .int 0) (ty := .boolean) (C := R_Ru) (T := F_Ru) (N := 8) hx hb hw i_Ru t_Ru t_Ru_ok n_Ru hown hE.1 hP hD hS 0 rfl rfl 3 (by decide) (hw _ q_162) (fun _ h9 => h9) rfl (by decide +kernel) rfl rfl (Nat.le_of_ble_eq_true rfl) d_Ru_begin_7 (fun H locs hP hD hS => ?_)
  have hP : va_P g.1 classes (wR g ad k (x.1, (upd (upd x.2.1 0 0) 1 0), x.2.2.1, x.2.2.2)) H := hP
  have hD : va_D A (wR g ad k (x.1, (upd (upd x.2.1 0 0) 1 0), x.2.2.1, x.2.2.2)) := hD
  refine lv_aload_n hx hb d_Ru_begin_10 rfl (lv_at hl 0 rfl) ?_
  refine lv_iconst (v := (-1)) hx hb d_Ru_begin_11 (by decide) ?_
  refine va_put (D := g.1) (ci := 4) (v := .int (-1)) (ty := .int) (C := R_Ru) (T := F_Ru) (N := 8) hx hb hw i_Ru t_Ru t_Ru_ok n_Ru hown hE.1 hP hD hS 0 rfl rfl 4 (by decide) (hw _ q_164) (fun _ h9 => h9) rfl (by decide +kernel) rfl rfl (Nat.le_of_ble_eq_true rfl) d_Ru_begin_12 (fun H locs hP hD hS => ?_)
  have hP : va_P g.1 classes (wR g ad k (x.1, (upd (upd (upd x.2.1 0 0) 1 0) 2 (-1)), x.2.2.1, x.2.2.2)) H := hP
  have hD : va_D A (wR g ad k (x.1, (upd (upd (upd x.2.1 0 0) 1 0) 2 (-1)), x.2.2.1, x.2.2.2)) := hD
  refine lv_aload_n hx hb d_Ru_begin_15 rfl (lv_at hl 0 rfl) ?_
  refine lv_iconst (v := (-1)) hx hb d_Ru_begin_16 (by decide) ?_
  refine va_put (D := g.1) (ci := 4) (v := .int (-1)) (ty := .int) (C := R_Ru) (T := F_Ru) (N := 8) hx hb hw i_Ru t_Ru t_Ru_ok n_Ru hown hE.1 hP hD hS 0 rfl rfl 5 (by decide) (hw _ q_166) (fun _ h9 => h9) rfl (by decide +kernel) rfl rfl (Nat.le_of_ble_eq_true rfl) d_Ru_begin_17 (fun H locs hP hD hS => ?_)
  have hP : va_P g.1 classes (wR g ad k (x.1, (upd (upd (upd (upd x.2.1 0 0) 1 0) 2 (-1)) 3 (-1)), x.2.2.1, x.2.2.2)) H := hP
  have hD : va_D A (wR g ad k (x.1, (upd (upd (upd (upd x.2.1 0 0) 1 0) 2 (-1)) 3 (-1)), x.2.2.1, x.2.2.2)) := hD
  refine lv_aload_n hx hb d_Ru_begin_20 rfl (lv_at hl 0 rfl) ?_
  refine lv_iconst (v := (-1)) hx hb d_Ru_begin_21 (by decide) ?_
  refine va_put (D := g.1) (ci := 4) (v := .int (-1)) (ty := .int) (C := R_Ru) (T := F_Ru) (N := 8) hx hb hw i_Ru t_Ru t_Ru_ok n_Ru hown hE.1 hP hD hS 0 rfl rfl 6 (by decide) (hw _ q_168) (fun _ h9 => h9) rfl (by decide +kernel) rfl rfl (Nat.le_of_ble_eq_true rfl) d_Ru_begin_22 (fun H locs hP hD hS => ?_)
  have hP : va_P g.1 classes (wR g ad k (x.1, (upd (upd (upd (upd (upd x.2.1 0 0) 1 0) 2 (-1)) 3 (-1)) 4 (-1)), x.2.2.1, x.2.2.2)) H := hP
  have hD : va_D A (wR g ad k (x.1, (upd (upd (upd (upd (upd x.2.1 0 0) 1 0) 2 (-1)) 3 (-1)) 4 (-1)), x.2.2.1, x.2.2.2)) := hD
  refine lv_aload_n hx hb d_Ru_begin_25 rfl (lv_at hl 0 rfl) ?_
  refine va_get (D := g.1) (ci := 4) (v := .ref (ad 10)) (C := R_Ru) (T := F_Ru) (N := 8) hx hb hw i_Ru hown hE.1 hP 0 rfl rfl 1 (by decide) (hw _ q_158) (fun _ h9 => h9) rfl d_Ru_begin_26 ?_
  refine cvV C v_Ru_46 [] [] (c_Ce_wipe l g (ad 10) (ad 11) x.2.2) hP hD hS [10, 11] [0, 1, 2, 3, 4, 5, 6, 7, 8, 9, 12, 13] [0, 1, 2, 3, 4, 5, 6, 7, 8, 9, 12, 13, 10, 11] [((ad 0), .inr (4, [.ref (ad 6), .ref (ad 10), .int 0, .int 0, .int (-1), .int (-1), .int (-1), .ref (ad 1)])), ((ad 1), .inr (5, [.ref (ad 2), .ref (ad 12), .ref (ad 13), .int (k.2.1 0), .int (k.2.1 1), .int (k.2.1 2), .int (k.2.1 3), .int (k.2.1 4), .int (k.2.1 5)])), ((ad 2), .inl (g.2.1 3, 3, .inr (.inr (.inr (.inr (fun j => [ad 3, ad 4, ad 5][j]?)))))), ((ad 3), .inr (6, [.int (k.1 0 0), .int (k.1 1 0), .int (k.1 2 0), .int (k.1 3 0), .int (k.1 4 0)])), ((ad 4), .inr (6, [.int (k.1 0 1), .int (k.1 1 1), .int (k.1 2 1), .int (k.1 3 1), .int (k.1 4 1)])), ((ad 5), .inr (6, [.int (k.1 0 2), .int (k.1 1 2), .int (k.1 2 2), .int (k.1 3 2), .int (k.1 4 2)])), ((ad 6), .inl (g.2.1 4, 3, .inr (.inr (.inr (.inr (fun j => [ad 7, ad 8, ad 9][j]?)))))), ((ad 7), .inr (3, [.int (x.1 0 0), .int (x.1 1 0), .int (x.1 2 0), .int (x.1 3 0), .int (x.1 4 0)])), ((ad 8), .inr (3, [.int (x.1 0 1), .int (x.1 1 1), .int (x.1 2 1), .int (x.1 3 1), .int (x.1 4 1)])), ((ad 9), .inr (3, [.int (x.1 0 2), .int (x.1 1 2), .int (x.1 2 2), .int (x.1 3 2), .int (x.1 4 2)])), ((ad 12), .inl (g.2.1 0, 20, .inl k.2.2.1)), ((ad 13), .inl (g.2.1 0, 20, .inl k.2.2.2))] (wR g ad k (x.1, (upd (upd (upd (upd (upd x.2.1 0 0) 1 0) 2 (-1)) 3 (-1)) 4 (-1)), 0, (fun _ => 0))) rfl rfl (by decide) (by decide) (by decide) rfl (by decide) 0 rfl rfl rfl rfl hl.1 (Nat.le_of_ble_eq_true rfl) ⟨Nat.le_of_ble_eq_true rfl, Nat.le_of_ble_eq_true rfl⟩ d_Ru_begin_29 ⟨Nat.zero_le _, Nat.zero_le _⟩ (fun H locs hP hD hS => ?_)
  refine lv_iconst (v := 0) hx hb d_Ru_begin_32 (by decide) ?_
  refine lv_istore_n (lv' := [(1, .int 0), (0, .ref (ad 0))]) hx hb d_Ru_begin_33 rfl hl (by decide) rfl (fun ls hl => ?_)
  have lp : ∀ (j : Nat) (i : Nat) (x : RS) (H : Heap) (locs : List Loc) (ls : Array Slot), 0 ≤ i → i ≤ n + 1 → n + 1 < i + j → itF (bgF k) n i x = x9 → va_P g.1 classes (wR g ad k x) H → va_D A (wR g ad k x) → va_S A s.heap H locs → lv_has ls 3 [(1, .int (nI i)), (0, .ref (ad 0))] → W p l e { frames := 4, cells := 0, slots := 0, locals := 107 } s m ([.ref (ad 0)] : List Value).toArray below meth c H locs 0 0 Q (F0 m 34 ls []) := by
    intro j
    induction j with
    | zero =>
      intro i x H locs ls hlo hi hj h9 hP hD hS hl
      exact absurd trivial (by omega)
    | succ j ih =>
      intro i x H locs ls hlo hi hj h9 hP hD hS hl
      refine lv_iload_n hx hb d_Ru_begin_34 rfl (lv_at hl 0 rfl) ?_
      refine lv_aload_n hx hb d_Ru_begin_35 rfl (lv_at hl 1 rfl) ?_
      refine va_get (D := g.1) (ci := 4) (v := .ref (ad 1)) (C := R_Ru) (T := F_Ru) (N := 8) hx hb hw i_Ru hown hE.1 hP 0 rfl rfl 7 (by decide) (hw _ q_170) (fun _ h9 => h9) rfl d_Ru_begin_36 ?_
      refine va_get (D := g.1) (ci := 5) (v := .int (k.2.1 0)) (C := R_Se) (T := F_Se) (N := 9) hx hb hw i_Se hown hE.1 hP 1 rfl rfl 3 (by decide) (hw _ q_72) (fun _ h9 => h9) rfl d_Ru_begin_39 ?_
      refine lv_icmp_ge (tgt := 79) hx hb d_Ru_begin_42 (by decide) (fun c42_1 => ?_) (fun c42_1 => ?_)
      · have hge := ge_of_le hn h3 hi c42_1
        have h9 := (itF_end hge).symm.trans h9
        subst h9
        refine lv_aload_n hx hb d_Ru_begin_79 rfl (lv_at hl 1 rfl) ?_
        refine va_get (D := g.1) (ci := 4) (v := .ref (ad 6)) (C := R_Ru) (T := F_Ru) (N := 8) hx hb hw i_Ru hown hE.1 hP 0 rfl rfl 0 (by decide) (hw _ q_156) (fun _ h9 => h9) rfl d_Ru_begin_80 ?_
        refine lv_iconst (v := 0) hx hb d_Ru_begin_83 (by decide) ?_
        refine va_aldq hx hb hE.1 hP 6 4 rfl rfl (by unfold vp_in; decide) d_Ru_begin_84 ?_
        rw [show (0 : Int32).toNatClampNeg = 0 from by decide]
        refine lv_aload_n hx hb d_Ru_begin_85 rfl (lv_at hl 1 rfl) ?_
        refine va_get (D := g.1) (ci := 4) (v := .ref (ad 1)) (C := R_Ru) (T := F_Ru) (N := 8) hx hb hw i_Ru hown hE.1 hP 0 rfl rfl 7 (by decide) (hw _ q_170) (fun _ h9 => h9) rfl d_Ru_begin_86 ?_
        refine va_get (D := g.1) (ci := 5) (v := .int (k.2.1 2)) (C := R_Se) (T := F_Se) (N := 9) hx hb hw i_Se hown hE.1 hP 1 rfl rfl 5 (by decide) (hw _ q_76) (fun _ h9 => h9) rfl d_Ru_begin_89 ?_
        refine lv_sipush (v := 4096) hx hb d_Ru_begin_92 (by decide) ?_
        refine lv_imul hx hb d_Ru_begin_95 ?_
        refine put_po C 0 0 (by decide) (by decide) rfl q_118 hP hD hS d_Ru_begin_96 (fun H locs hP hD hS => ?_)
        have hP : va_P g.1 classes (wR g ad k ((u2 x.1 0 0 ((k.2.1 2) * 4096)), x.2.1, x.2.2.1, x.2.2.2)) H := hP
        have hD : va_D A (wR g ad k ((u2 x.1 0 0 ((k.2.1 2) * 4096)), x.2.1, x.2.2.1, x.2.2.2)) := hD
        refine lv_aload_n hx hb d_Ru_begin_99 rfl (lv_at hl 1 rfl) ?_
        refine va_get (D := g.1) (ci := 4) (v := .ref (ad 6)) (C := R_Ru) (T := F_Ru) (N := 8) hx hb hw i_Ru hown hE.1 hP 0 rfl rfl 0 (by decide) (hw _ q_156) (fun _ h9 => h9) rfl d_Ru_begin_100 ?_
        refine lv_iconst (v := 0) hx hb d_Ru_begin_103 (by decide) ?_
        refine va_aldq hx hb hE.1 hP 6 4 rfl rfl (by unfold vp_in; decide) d_Ru_begin_104 ?_
        rw [show (0 : Int32).toNatClampNeg = 0 from by decide]
        refine lv_aload_n hx hb d_Ru_begin_105 rfl (lv_at hl 1 rfl) ?_
        refine va_get (D := g.1) (ci := 4) (v := .ref (ad 1)) (C := R_Ru) (T := F_Ru) (N := 8) hx hb hw i_Ru hown hE.1 hP 0 rfl rfl 7 (by decide) (hw _ q_170) (fun _ h9 => h9) rfl d_Ru_begin_106 ?_
        refine va_get (D := g.1) (ci := 5) (v := .int (k.2.1 3)) (C := R_Se) (T := F_Se) (N := 9) hx hb hw i_Se hown hE.1 hP 1 rfl rfl 6 (by decide) (hw _ q_78) (fun _ h9 => h9) rfl d_Ru_begin_109 ?_
        refine lv_sipush (v := 4096) hx hb d_Ru_begin_112 (by decide) ?_
        refine lv_imul hx hb d_Ru_begin_115 ?_
        refine put_po C 1 0 (by decide) (by decide) rfl q_121 hP hD hS d_Ru_begin_116 (fun H locs hP hD hS => ?_)
        have hP : va_P g.1 classes (wR g ad k ((u2 (u2 x.1 0 0 ((k.2.1 2) * 4096)) 1 0 ((k.2.1 3) * 4096)), x.2.1, x.2.2.1, x.2.2.2)) H := hP
        have hD : va_D A (wR g ad k ((u2 (u2 x.1 0 0 ((k.2.1 2) * 4096)) 1 0 ((k.2.1 3) * 4096)), x.2.1, x.2.2.1, x.2.2.2)) := hD
        refine lv_aload_n hx hb d_Ru_begin_119 rfl (lv_at hl 1 rfl) ?_
        refine cvV C v_Ru_78 [] [] (c_Ru_placeTrailers l g ad k ((u2 (u2 x.1 0 0 ((k.2.1 2) * 4096)) 1 0 ((k.2.1 3) * 4096)), x.2.1, x.2.2.1, x.2.2.2) n hn h3) hP hD hS [0, 1, 2, 3, 4, 5, 6, 7, 8, 9, 10, 11, 12, 13] [] [0, 1, 2, 3, 4, 5, 6, 7, 8, 9, 10, 11, 12, 13] [] (wR g ad k (itF (plF k) n 1 ((u2 (u2 x.1 0 0 ((k.2.1 2) * 4096)) 1 0 ((k.2.1 3) * 4096)), x.2.1, x.2.2.1, x.2.2.2))) rfl rfl (by decide) (by decide) (by decide) rfl (by decide) 0 rfl rfl rfl rfl hl.1 (Nat.le_of_ble_eq_true rfl) ⟨Nat.le_of_ble_eq_true rfl, Nat.le_of_ble_eq_true rfl⟩ d_Ru_begin_120 ⟨Nat.zero_le _, Nat.zero_le _⟩ (fun H locs hP hD hS => ?_)
        refine lv_aload_n hx hb d_Ru_begin_123 rfl (lv_at hl 1 rfl) ?_
        refine cvV C v_Ru_81 [] [] (c_Ru_lookRound l g ad k (itF (plF k) n 1 ((u2 (u2 x.1 0 0 ((k.2.1 2) * 4096)) 1 0 ((k.2.1 3) * 4096)), x.2.1, x.2.2.1, x.2.2.2)) n hn h3 np hp h20) hP hD hS [0, 1, 2, 3, 4, 5, 6, 7, 8, 9, 10, 11, 12, 13] [] [0, 1, 2, 3, 4, 5, 6, 7, 8, 9, 10, 11, 12, 13] [] (wR g ad k (itF (lkF k np) n 0 (itF (plF k) n 1 ((u2 (u2 x.1 0 0 ((k.2.1 2) * 4096)) 1 0 ((k.2.1 3) * 4096)), x.2.1, x.2.2.1, x.2.2.2)))) rfl rfl (by decide) (by decide) (by decide) rfl (by decide) 0 rfl rfl rfl rfl hl.1 (Nat.le_of_ble_eq_true rfl) ⟨Nat.le_of_ble_eq_true rfl, Nat.le_of_ble_eq_true rfl⟩ d_Ru_begin_124 ⟨Nat.zero_le _, Nat.zero_le _⟩ (fun H locs hP hD hS => ?_)
        exact hret _ _ _ _ _ rfl hP hD hS d_Ru_begin_127
      · have hlt := lt_of_nle hn h3 hi c42_1
        rcases (show i = 0 ∨ i = 1 ∨ i = 2 by omega) with rfl | rfl | rfl
        · have hl : lv_has ls 3 [(1, .int 0), (0, .ref (ad 0))] := hl
          refine lv_aload_n hx hb d_Ru_begin_45 rfl (lv_at hl 1 rfl) ?_
          refine va_get (D := g.1) (ci := 4) (v := .ref (ad 6)) (C := R_Ru) (T := F_Ru) (N := 8) hx hb hw i_Ru hown hE.1 hP 0 rfl rfl 0 (by decide) (hw _ q_156) (fun _ h9 => h9) rfl d_Ru_begin_46 ?_
          refine lv_iload_n hx hb d_Ru_begin_49 rfl (lv_at hl 0 rfl) ?_
          refine va_aldq hx hb hE.1 hP 6 4 rfl rfl (by unfold vp_in; decide) d_Ru_begin_50 ?_
          rw [show (0 : Int32).toNatClampNeg = 0 from by decide]
          refine lv_astore_n (lv' := [(2, .ref (ad (7 + 0))), (1, .int 0), (0, .ref (ad 0))]) hx hb d_Ru_begin_51 rfl hl (by decide) rfl (fun ls hl => ?_)
          refine lv_aload_n hx hb d_Ru_begin_52 rfl (lv_at hl 0 rfl) ?_
          refine lv_aload_n hx hb d_Ru_begin_53 rfl (lv_at hl 2 rfl) ?_
          refine va_get (D := g.1) (ci := 4) (v := .ref (ad 1)) (C := R_Ru) (T := F_Ru) (N := 8) hx hb hw i_Ru hown hE.1 hP 0 rfl rfl 7 (by decide) (hw _ q_170) (fun _ h9 => h9) rfl d_Ru_begin_54 ?_
          refine va_get (D := g.1) (ci := 5) (v := .int (k.2.1 4)) (C := R_Se) (T := F_Se) (N := 9) hx hb hw i_Se hown hE.1 hP 1 rfl rfl 7 (by decide) (hw _ q_80) (fun _ h9 => h9) rfl d_Ru_begin_57 ?_
          refine put_po C 2 0 (by decide) (by decide) rfl q_124 hP hD hS d_Ru_begin_60 (fun H locs hP hD hS => ?_)
          have hP : va_P g.1 classes (wR g ad k ((u2 x.1 2 0 (k.2.1 4)), x.2.1, x.2.2.1, x.2.2.2)) H := hP
          have hD : va_D A (wR g ad k ((u2 x.1 2 0 (k.2.1 4)), x.2.1, x.2.2.1, x.2.2.2)) := hD
          refine lv_aload_n hx hb d_Ru_begin_63 rfl (lv_at hl 0 rfl) ?_
          refine lv_iconst (v := 0) hx hb d_Ru_begin_64 (by decide) ?_
          refine put_po C 3 0 (by decide) (by decide) rfl q_127 hP hD hS d_Ru_begin_65 (fun H locs hP hD hS => ?_)
          have hP : va_P g.1 classes (wR g ad k ((u2 (u2 x.1 2 0 (k.2.1 4)) 3 0 0), x.2.1, x.2.2.1, x.2.2.2)) H := hP
          have hD : va_D A (wR g ad k ((u2 (u2 x.1 2 0 (k.2.1 4)) 3 0 0), x.2.1, x.2.2.1, x.2.2.2)) := hD
          refine lv_aload_n hx hb d_Ru_begin_68 rfl (lv_at hl 0 rfl) ?_
          refine lv_iconst (v := 0) hx hb d_Ru_begin_69 (by decide) ?_
          refine put_po C 4 0 (by decide) (by decide) rfl q_128 hP hD hS d_Ru_begin_70 (fun H locs hP hD hS => ?_)
          have hP : va_P g.1 classes (wR g ad k ((u2 (u2 (u2 x.1 2 0 (k.2.1 4)) 3 0 0) 4 0 0), x.2.1, x.2.2.1, x.2.2.2)) H := hP
          have hD : va_D A (wR g ad k ((u2 (u2 (u2 x.1 2 0 (k.2.1 4)) 3 0 0) 4 0 0), x.2.1, x.2.2.1, x.2.2.2)) := hD
          refine lv_iinc (v := 1) (lv' := [(1, .int 1), (2, .ref (ad (7 + 0))), (0, .ref (ad 0))]) hx hb d_Ru_begin_73 hl (k := 1) rfl (by decide) (by decide) rfl (fun ls hl => ?_)
          refine lv_goto (tgt := 34) hx hb d_Ru_begin_76 (by decide) ?_
          exact ih 1 ((u2 (u2 (u2 x.1 2 0 (k.2.1 4)) 3 0 0) 4 0 0), x.2.1, x.2.2.1, x.2.2.2) _ _ _ (by omega) (by omega) (by omega) (it_back hlt h9 (rfl)) hP hD hS (lv_sub hl [0, 2] rfl)
        · have hl : lv_has ls 3 [(1, .int 1), (0, .ref (ad 0))] := hl
          refine lv_aload_n hx hb d_Ru_begin_45 rfl (lv_at hl 1 rfl) ?_
          refine va_get (D := g.1) (ci := 4) (v := .ref (ad 6)) (C := R_Ru) (T := F_Ru) (N := 8) hx hb hw i_Ru hown hE.1 hP 0 rfl rfl 0 (by decide) (hw _ q_156) (fun _ h9 => h9) rfl d_Ru_begin_46 ?_
          refine lv_iload_n hx hb d_Ru_begin_49 rfl (lv_at hl 0 rfl) ?_
          refine va_aldq hx hb hE.1 hP 6 4 rfl rfl (by unfold vp_in; decide) d_Ru_begin_50 ?_
          rw [show (1 : Int32).toNatClampNeg = 1 from by decide]
          refine lv_astore_n (lv' := [(2, .ref (ad (7 + 1))), (1, .int 1), (0, .ref (ad 0))]) hx hb d_Ru_begin_51 rfl hl (by decide) rfl (fun ls hl => ?_)
          refine lv_aload_n hx hb d_Ru_begin_52 rfl (lv_at hl 0 rfl) ?_
          refine lv_aload_n hx hb d_Ru_begin_53 rfl (lv_at hl 2 rfl) ?_
          refine va_get (D := g.1) (ci := 4) (v := .ref (ad 1)) (C := R_Ru) (T := F_Ru) (N := 8) hx hb hw i_Ru hown hE.1 hP 0 rfl rfl 7 (by decide) (hw _ q_170) (fun _ h9 => h9) rfl d_Ru_begin_54 ?_
          refine va_get (D := g.1) (ci := 5) (v := .int (k.2.1 4)) (C := R_Se) (T := F_Se) (N := 9) hx hb hw i_Se hown hE.1 hP 1 rfl rfl 7 (by decide) (hw _ q_80) (fun _ h9 => h9) rfl d_Ru_begin_57 ?_
          refine put_po C 2 1 (by decide) (by decide) rfl q_124 hP hD hS d_Ru_begin_60 (fun H locs hP hD hS => ?_)
          have hP : va_P g.1 classes (wR g ad k ((u2 x.1 2 1 (k.2.1 4)), x.2.1, x.2.2.1, x.2.2.2)) H := hP
          have hD : va_D A (wR g ad k ((u2 x.1 2 1 (k.2.1 4)), x.2.1, x.2.2.1, x.2.2.2)) := hD
          refine lv_aload_n hx hb d_Ru_begin_63 rfl (lv_at hl 0 rfl) ?_
          refine lv_iconst (v := 0) hx hb d_Ru_begin_64 (by decide) ?_
          refine put_po C 3 1 (by decide) (by decide) rfl q_127 hP hD hS d_Ru_begin_65 (fun H locs hP hD hS => ?_)
          have hP : va_P g.1 classes (wR g ad k ((u2 (u2 x.1 2 1 (k.2.1 4)) 3 1 0), x.2.1, x.2.2.1, x.2.2.2)) H := hP
          have hD : va_D A (wR g ad k ((u2 (u2 x.1 2 1 (k.2.1 4)) 3 1 0), x.2.1, x.2.2.1, x.2.2.2)) := hD
          refine lv_aload_n hx hb d_Ru_begin_68 rfl (lv_at hl 0 rfl) ?_
          refine lv_iconst (v := 0) hx hb d_Ru_begin_69 (by decide) ?_
          refine put_po C 4 1 (by decide) (by decide) rfl q_128 hP hD hS d_Ru_begin_70 (fun H locs hP hD hS => ?_)
          have hP : va_P g.1 classes (wR g ad k ((u2 (u2 (u2 x.1 2 1 (k.2.1 4)) 3 1 0) 4 1 0), x.2.1, x.2.2.1, x.2.2.2)) H := hP
          have hD : va_D A (wR g ad k ((u2 (u2 (u2 x.1 2 1 (k.2.1 4)) 3 1 0) 4 1 0), x.2.1, x.2.2.1, x.2.2.2)) := hD
          refine lv_iinc (v := 2) (lv' := [(1, .int 2), (2, .ref (ad (7 + 1))), (0, .ref (ad 0))]) hx hb d_Ru_begin_73 hl (k := 1) rfl (by decide) (by decide) rfl (fun ls hl => ?_)
          refine lv_goto (tgt := 34) hx hb d_Ru_begin_76 (by decide) ?_
          exact ih 2 ((u2 (u2 (u2 x.1 2 1 (k.2.1 4)) 3 1 0) 4 1 0), x.2.1, x.2.2.1, x.2.2.2) _ _ _ (by omega) (by omega) (by omega) (it_back hlt h9 (rfl)) hP hD hS (lv_sub hl [0, 2] rfl)
        · have hl : lv_has ls 3 [(1, .int 2), (0, .ref (ad 0))] := hl
          refine lv_aload_n hx hb d_Ru_begin_45 rfl (lv_at hl 1 rfl) ?_
          refine va_get (D := g.1) (ci := 4) (v := .ref (ad 6)) (C := R_Ru) (T := F_Ru) (N := 8) hx hb hw i_Ru hown hE.1 hP 0 rfl rfl 0 (by decide) (hw _ q_156) (fun _ h9 => h9) rfl d_Ru_begin_46 ?_
          refine lv_iload_n hx hb d_Ru_begin_49 rfl (lv_at hl 0 rfl) ?_
          refine va_aldq hx hb hE.1 hP 6 4 rfl rfl (by unfold vp_in; decide) d_Ru_begin_50 ?_
          rw [show (2 : Int32).toNatClampNeg = 2 from by decide]
          refine lv_astore_n (lv' := [(2, .ref (ad (7 + 2))), (1, .int 2), (0, .ref (ad 0))]) hx hb d_Ru_begin_51 rfl hl (by decide) rfl (fun ls hl => ?_)
          refine lv_aload_n hx hb d_Ru_begin_52 rfl (lv_at hl 0 rfl) ?_
          refine lv_aload_n hx hb d_Ru_begin_53 rfl (lv_at hl 2 rfl) ?_
          refine va_get (D := g.1) (ci := 4) (v := .ref (ad 1)) (C := R_Ru) (T := F_Ru) (N := 8) hx hb hw i_Ru hown hE.1 hP 0 rfl rfl 7 (by decide) (hw _ q_170) (fun _ h9 => h9) rfl d_Ru_begin_54 ?_
          refine va_get (D := g.1) (ci := 5) (v := .int (k.2.1 4)) (C := R_Se) (T := F_Se) (N := 9) hx hb hw i_Se hown hE.1 hP 1 rfl rfl 7 (by decide) (hw _ q_80) (fun _ h9 => h9) rfl d_Ru_begin_57 ?_
          refine put_po C 2 2 (by decide) (by decide) rfl q_124 hP hD hS d_Ru_begin_60 (fun H locs hP hD hS => ?_)
          have hP : va_P g.1 classes (wR g ad k ((u2 x.1 2 2 (k.2.1 4)), x.2.1, x.2.2.1, x.2.2.2)) H := hP
          have hD : va_D A (wR g ad k ((u2 x.1 2 2 (k.2.1 4)), x.2.1, x.2.2.1, x.2.2.2)) := hD
          refine lv_aload_n hx hb d_Ru_begin_63 rfl (lv_at hl 0 rfl) ?_
          refine lv_iconst (v := 0) hx hb d_Ru_begin_64 (by decide) ?_
          refine put_po C 3 2 (by decide) (by decide) rfl q_127 hP hD hS d_Ru_begin_65 (fun H locs hP hD hS => ?_)
          have hP : va_P g.1 classes (wR g ad k ((u2 (u2 x.1 2 2 (k.2.1 4)) 3 2 0), x.2.1, x.2.2.1, x.2.2.2)) H := hP
          have hD : va_D A (wR g ad k ((u2 (u2 x.1 2 2 (k.2.1 4)) 3 2 0), x.2.1, x.2.2.1, x.2.2.2)) := hD
          refine lv_aload_n hx hb d_Ru_begin_68 rfl (lv_at hl 0 rfl) ?_
          refine lv_iconst (v := 0) hx hb d_Ru_begin_69 (by decide) ?_
          refine put_po C 4 2 (by decide) (by decide) rfl q_128 hP hD hS d_Ru_begin_70 (fun H locs hP hD hS => ?_)
          have hP : va_P g.1 classes (wR g ad k ((u2 (u2 (u2 x.1 2 2 (k.2.1 4)) 3 2 0) 4 2 0), x.2.1, x.2.2.1, x.2.2.2)) H := hP
          have hD : va_D A (wR g ad k ((u2 (u2 (u2 x.1 2 2 (k.2.1 4)) 3 2 0) 4 2 0), x.2.1, x.2.2.1, x.2.2.2)) := hD
          refine lv_iinc (v := 3) (lv' := [(1, .int 3), (2, .ref (ad (7 + 2))), (0, .ref (ad 0))]) hx hb d_Ru_begin_73 hl (k := 1) rfl (by decide) (by decide) rfl (fun ls hl => ?_)
          refine lv_goto (tgt := 34) hx hb d_Ru_begin_76 (by decide) ?_
          exact ih 3 ((u2 (u2 (u2 x.1 2 2 (k.2.1 4)) 3 2 0) 4 2 0), x.2.1, x.2.2.1, x.2.2.2) _ _ _ (by omega) (by omega) (by omega) (it_back hlt h9 (rfl)) hP hD hS (lv_sub hl [0, 2] rfl)
  exact lp (n + 2) 0 (x.1, (upd (upd (upd (upd (upd x.2.1 0 0) 1 0) 2 (-1)) 3 (-1)) 4 (-1)), 0, (fun _ => 0)) _ _ _ (by omega) (by omega) (by omega) h9 hP hD hS (lv_sub hl [0, 1] rfl)
set_option maxHeartbeats 4000000 in
set_option maxRecDepth 100000 in
theorem c_Ru_walk (l : Launch) (g : Glob) (ad : Nat → Nat) (k : CFG) (x : RS) (n : Nat) (hn : k.2.1 0 = nI n) (h3 : n ≤ 3) (np : Nat) (hp : k.2.1 1 = nI np) (h20 : np ≤ 20) (turn sp fw : Int32) (N : Nat) (hN : sp = nI N) (hN6 : N ≤ 1000000) : CV l g y_Ru_walk b_Ru_walk 6 4 107 [.ref (ad 0), .int turn, .int sp, .int fw] (wR g ad k x) (wR g ad k (walkF k n np turn N fw x)) := by
  refine CV.of (by decide +kernel) (Nat.le_of_ble_eq_true rfl) ?_
  intro p e s m below meth c A Q ls C hP hD hl hret hS
  obtain ⟨hx, hb, hml, hown, hw, hE, hA⟩ := id C
  have hl : lv_has ls 6 [(0, .ref (ad 0)), (1, .int turn), (2, .int sp), (3, .int fw)] := hl
  unfold walkF at hret
  generalize h9 : whileF stopR (stpF k n np (sgnI fw * turn) (sgnI fw * k.2.1 5)) N x = x9 at hret
  have lp : ∀ (j : Nat) (q : Nat) (x : RS) (H : Heap) (locs : List Loc) (ls : Array Slot), q ≤ N → N < q + j → whileF stopR (stpF k n np (sgnI fw * turn) (sgnI fw * k.2.1 5)) (N - q) x = x9 → va_P g.1 classes (wR g ad k x) H → va_D A (wR g ad k x) → va_S A s.heap H locs → lv_has ls 6 [(5, .int (nI q)), (4, .int (sgnI fw)), (0, .ref (ad 0)), (1, .int turn), (2, .int sp)] → W p l e { frames := 4, cells := 0, slots := 0, locals := 107 } s m ([.ref (ad 0), .int turn, .int sp, .int fw] : List Value).toArray below meth c H locs 0 0 Q (F0 m 14 ls []) := by
    intro j
    induction j with
    | zero =>
      intro q x H locs ls hq hj h9 hP hD hS hl
      exact absurd trivial (by omega)
    | succ j ih =>
      intro q x H locs ls hq hj h9 hP hD hS hl
      refine lv_iload hx hb d_Ru_walk_14 (lv_at hl 0 rfl) ?_
      refine lv_iload_n hx hb d_Ru_walk_16 rfl (lv_at hl 4 rfl) ?_
      refine lv_icmp_ge (tgt := 69) hx hb d_Ru_walk_17 (by decide) (fun c17_1 => ?_) (fun c17_1 => ?_)
      · have h9 := wh_end (ge_of_le' 1000000 hN hN6 (by decide) (by omega) c17_1) h9
        subst h9
        exact hret _ _ _ _ _ rfl hP hD hS d_Ru_walk_69
      · have hlt := lt_of_nle' 1000000 hN hN6 (by decide) (by omega) c17_1
        refine lv_aload_n hx hb d_Ru_walk_20 rfl (lv_at hl 2 rfl) ?_
        refine va_get (D := g.1) (ci := 4) (v := .int (x.2.1 1)) (C := R_Ru) (T := F_Ru) (N := 8) hx hb hw i_Ru hown hE.1 hP 0 rfl rfl 3 (by decide) (hw _ q_162) (fun _ h9 => h9) rfl d_Ru_walk_21 ?_
        refine lv_if_ne (tgt := 69) hx hb d_Ru_walk_24 (by decide) (fun c24_2 => ?_) (fun c24_2 => ?_)
        · have h9 := wh_stop (stop_t1 c24_2) h9
          subst h9
          exact hret _ _ _ _ _ rfl hP hD hS d_Ru_walk_69
        · refine lv_aload_n hx hb d_Ru_walk_27 rfl (lv_at hl 2 rfl) ?_
          refine va_get (D := g.1) (ci := 4) (v := .int (x.2.1 0)) (C := R_Ru) (T := F_Ru) (N := 8) hx hb hw i_Ru hown hE.1 hP 0 rfl rfl 2 (by decide) (hw _ q_160) (fun _ h9 => h9) rfl d_Ru_walk_28 ?_
          refine lv_sipush (v := 4000) hx hb d_Ru_walk_31 (by decide) ?_
          refine lv_icmp_ge (tgt := 69) hx hb d_Ru_walk_34 (by decide) (fun c34_3 => ?_) (fun c34_3 => ?_)
          · have h9 := wh_stop (stop_t2 c34_3) h9
            subst h9
            exact hret _ _ _ _ _ rfl hP hD hS d_Ru_walk_69
          · refine lv_aload_n hx hb d_Ru_walk_37 rfl (lv_at hl 2 rfl) ?_
            refine lv_iload hx hb d_Ru_walk_38 (lv_at hl 1 rfl) ?_
            refine lv_iload_n hx hb d_Ru_walk_40 rfl (lv_at hl 3 rfl) ?_
            refine lv_imul hx hb d_Ru_walk_41 ?_
            refine lv_iload hx hb d_Ru_walk_42 (lv_at hl 1 rfl) ?_
            refine lv_aload_n hx hb d_Ru_walk_44 rfl (lv_at hl 2 rfl) ?_
            refine va_get (D := g.1) (ci := 4) (v := .ref (ad 1)) (C := R_Ru) (T := F_Ru) (N := 8) hx hb hw i_Ru hown hE.1 hP 0 rfl rfl 7 (by decide) (hw _ q_170) (fun _ h9 => h9) rfl d_Ru_walk_45 ?_
            refine va_get (D := g.1) (ci := 5) (v := .int (k.2.1 5)) (C := R_Se) (T := F_Se) (N := 9) hx hb hw i_Se hown hE.1 hP 1 rfl rfl 8 (by decide) (hw _ q_84) (fun _ h9 => h9) rfl d_Ru_walk_48 ?_
            refine lv_imul hx hb d_Ru_walk_51 ?_
            refine cvV C v_Ru_110 [.int ((sgnI fw) * turn), .int ((sgnI fw) * (k.2.1 5))] [] (c_Ru_move l g ad k x n hn h3 ((sgnI fw) * turn) ((sgnI fw) * (k.2.1 5))) hP hD hS [0, 1, 2, 3, 4, 5, 6, 7, 8, 9, 10, 11, 12, 13] [] [0, 1, 2, 3, 4, 5, 6, 7, 8, 9, 10, 11, 12, 13] [] (wR g ad k (moveF k n ((sgnI fw) * turn) ((sgnI fw) * (k.2.1 5)) x)) rfl rfl (by decide) (by decide) (by decide) rfl (by decide) 0 rfl rfl rfl rfl hl.1 (Nat.le_of_ble_eq_true rfl) ⟨Nat.le_of_ble_eq_true rfl, Nat.le_of_ble_eq_true rfl⟩ d_Ru_walk_52 ⟨Nat.zero_le _, Nat.zero_le _⟩ (fun H locs hP hD hS => ?_)
            refine lv_aload_n hx hb d_Ru_walk_55 rfl (lv_at hl 2 rfl) ?_
            refine cvV C v_Ru_114 [] [] (c_Ru_measureAskew l g ad k (moveF k n ((sgnI fw) * turn) ((sgnI fw) * (k.2.1 5)) x) n hn h3) hP hD hS [0, 1, 2, 3, 4, 5, 6, 7, 8, 9, 10, 11, 12, 13] [] [0, 1, 2, 3, 4, 5, 6, 7, 8, 9, 10, 11, 12, 13] [] (wR g ad k (itF msF n 1 (moveF k n ((sgnI fw) * turn) ((sgnI fw) * (k.2.1 5)) x))) rfl rfl (by decide) (by decide) (by decide) rfl (by decide) 0 rfl rfl rfl rfl hl.1 (Nat.le_of_ble_eq_true rfl) ⟨Nat.le_of_ble_eq_true rfl, Nat.le_of_ble_eq_true rfl⟩ d_Ru_walk_56 ⟨Nat.zero_le _, Nat.zero_le _⟩ (fun H locs hP hD hS => ?_)
            refine lv_aload_n hx hb d_Ru_walk_59 rfl (lv_at hl 2 rfl) ?_
            refine cvV C v_Ru_81 [] [] (c_Ru_lookRound l g ad k (itF msF n 1 (moveF k n ((sgnI fw) * turn) ((sgnI fw) * (k.2.1 5)) x)) n hn h3 np hp h20) hP hD hS [0, 1, 2, 3, 4, 5, 6, 7, 8, 9, 10, 11, 12, 13] [] [0, 1, 2, 3, 4, 5, 6, 7, 8, 9, 10, 11, 12, 13] [] (wR g ad k (itF (lkF k np) n 0 (itF msF n 1 (moveF k n ((sgnI fw) * turn) ((sgnI fw) * (k.2.1 5)) x)))) rfl rfl (by decide) (by decide) (by decide) rfl (by decide) 0 rfl rfl rfl rfl hl.1 (Nat.le_of_ble_eq_true rfl) ⟨Nat.le_of_ble_eq_true rfl, Nat.le_of_ble_eq_true rfl⟩ d_Ru_walk_60 ⟨Nat.zero_le _, Nat.zero_le _⟩ (fun H locs hP hD hS => ?_)
            refine lv_iinc (v := (nI (q + 1))) (lv' := [(5, .int (nI (q + 1))), (4, .int (sgnI fw)), (0, .ref (ad 0)), (1, .int turn), (2, .int sp)]) hx hb d_Ru_walk_63 hl (k := 0) rfl (nI_1 q) (by decide) rfl (fun ls hl => ?_)
            refine lv_goto (tgt := 14) hx hb d_Ru_walk_66 (by decide) ?_
            exact ih (q + 1) (itF (lkF k np) n 0 (itF msF n 1 (moveF k n ((sgnI fw) * turn) ((sgnI fw) * (k.2.1 5)) x))) _ _ _ (by omega) (by omega) (wh_back hlt (stop_f c24_2 c34_3) h9 rfl) hP hD hS (lv_sub hl [0, 1, 2, 3, 4] rfl)
  refine lv_iload_n hx hb d_Ru_walk_0 rfl (lv_at hl 3 rfl) ?_
  refine lv_if_eq (tgt := 8) hx hb d_Ru_walk_1 (by decide) (fun c1_4 => ?_) (fun c1_4 => ?_)
  · refine lv_iconst (v := (-1)) hx hb d_Ru_walk_8 (by decide) ?_
    refine lv_istore (lv' := [(4, .int (-1)), (0, .ref (ad 0)), (1, .int turn), (2, .int sp), (3, .int fw)]) hx hb d_Ru_walk_9 hl (by decide) rfl (fun ls hl => ?_)
    refine lv_iconst (v := 0) hx hb d_Ru_walk_11 (by decide) ?_
    refine lv_istore (lv' := [(5, .int 0), (4, .int (-1)), (0, .ref (ad 0)), (1, .int turn), (2, .int sp), (3, .int fw)]) hx hb d_Ru_walk_12 hl (by decide) rfl (fun ls hl => ?_)
    have hl : lv_has ls 6 [(5, .int (nI 0)), (4, .int (sgnI fw)), (0, .ref (ad 0)), (1, .int turn), (2, .int sp)] := by
      rw [show sgnI fw = -1 from if_pos c1_4]
      exact lv_sub hl [0, 1, 2, 3, 4] rfl
    exact lp (N + 1) 0 x _ _ _ (by omega) (by omega) h9 hP hD hS hl
  · refine lv_iconst (v := 1) hx hb d_Ru_walk_4 (by decide) ?_
    refine lv_goto (tgt := 9) hx hb d_Ru_walk_5 (by decide) ?_
    refine lv_istore (lv' := [(4, .int 1), (0, .ref (ad 0)), (1, .int turn), (2, .int sp), (3, .int fw)]) hx hb d_Ru_walk_9 hl (by decide) rfl (fun ls hl => ?_)
    refine lv_iconst (v := 0) hx hb d_Ru_walk_11 (by decide) ?_
    refine lv_istore (lv' := [(5, .int 0), (4, .int 1), (0, .ref (ad 0)), (1, .int turn), (2, .int sp), (3, .int fw)]) hx hb d_Ru_walk_12 hl (by decide) rfl (fun ls hl => ?_)
    have hl : lv_has ls 6 [(5, .int (nI 0)), (4, .int (sgnI fw)), (0, .ref (ad 0)), (1, .int turn), (2, .int sp)] := by
      rw [show sgnI fw = 1 from if_neg c1_4]
      exact lv_sub hl [0, 1, 2, 3, 4] rfl
    exact lp (N + 1) 0 x _ _ _ (by omega) (by omega) h9 hP hD hS hl
