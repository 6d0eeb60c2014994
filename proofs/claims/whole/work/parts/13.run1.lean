/-! a run's steps, on the machine's ints -/
def askF (po : St2) (b : Nat) : Int32 := if b = 0 then 0 else askI (po 2 (b - 1)) (po 2 b)
def plF (k : CFG) (b : Nat) (x : RS) : RS := (u2 (u2 x.1 0 b (x.1 0 (b - 1) - k.1 1 (b - 1) * dX (x.1 2 (b - 1)) - k.1 0 b * dX (x.1 2 b))) 1 b (x.1 1 (b - 1) - k.1 1 (b - 1) * dY (x.1 2 (b - 1)) - k.1 0 b * dY (x.1 2 b)), x.2)
def swR (k : CFG) (way : Int32) (b : Nat) (po : St2) : Int32 := po 3 b + askF po b * way
def swF (k : CFG) (way : Int32) (b : Nat) (x : RS) : RS := (u2 (u2 x.1 2 b ((x.1 2 b + dirsIn (k.1 0 b) (swR k way b x.1)) &&& 63)) 3 b (swR k way b x.1 - dirsIn (k.1 0 b) (swR k way b x.1) * k.1 0 b), x.2)
def msF (b : Nat) (x : RS) : RS := (u2 x.1 4 b (maxI (x.1 4 b) (absI (askF x.1 b))), if absI (askF x.1 b) ≤ 24 then x.2.1 else upd x.2.1 1 1, x.2.2)
theorem it_back {α : Type} {f : Nat → α → α} {n i : Nat} {x x' x9 : α} (h : i < n) (h9 : itF f n i x = x9) (e : f i x = x') : itF f n (i + 1) x' = x9 := by
  rw [← e, ← itF_step h]
  exact h9
theorem lt_of_nle {i n : Nat} {a : Int32} (hn : a = nI n) (h3 : n ≤ 3) (hi : i ≤ n + 1) (c : ¬ a ≤ nI i) : i < n := by
  rcases Nat.lt_or_ge i n with q | q
  · exact q
  · exact absurd (by rw [hn]; exact nI_le q (by omega)) c
theorem ge_of_le {i n : Nat} {a : Int32} (hn : a = nI n) (h3 : n ≤ 3) (hi : i ≤ n + 1) (c : a ≤ nI i) : n ≤ i := by
  rw [hn] at c
  exact (nI_leI (by omega) (by omega)).mp c

set_option maxHeartbeats 4000000 in
set_option maxRecDepth 100000 in
theorem c_Ru_askewOf_0 (l : Launch) (g : Glob) (ad : Nat → Nat) (k : CFG) (x : RS) : CI l g y_Ru_askewOf b_Ru_askewOf 2 (some .int) 1 21 [.ref (ad 0), .int 0] (wR g ad k x) (askF x.1 0) (wR g ad k x) := by
  refine CI.of .int rfl rfl (by decide +kernel) (Nat.le_of_ble_eq_true rfl) ?_
  intro p e s m below meth c A Q ls C hP hD hl hret hS
  obtain ⟨hx, hb, hml, hown, hw, hE, hA⟩ := id C
  have hl : lv_has ls 2 [(0, .ref (ad 0)), (1, .int 0)] := hl
  refine lv_iload_n hx hb d_Ru_askewOf_0 rfl (lv_at hl 1 rfl) ?_
  refine lv_iconst (v := 1) hx hb d_Ru_askewOf_1 (by decide) ?_
  refine lv_icmp_ge (tgt := 9) hx hb d_Ru_askewOf_2 (by decide) (fun c2_1 => ?_) (fun c2_1 => ?_)
  · exact absurd c2_1 (show ¬ (1 : Int32) ≤ 0 by decide)
  refine lv_iconst (v := 0) hx hb d_Ru_askewOf_5 (by decide) ?_
  refine lv_goto (tgt := 32) hx hb d_Ru_askewOf_6 (by decide) ?_
  exact hret _ _ _ _ _ _ rfl rfl hP hD hS d_Ru_askewOf_32
set_option maxHeartbeats 4000000 in
set_option maxRecDepth 100000 in
theorem c_Ru_askewOf_1 (l : Launch) (g : Glob) (ad : Nat → Nat) (k : CFG) (x : RS) : CI l g y_Ru_askewOf b_Ru_askewOf 2 (some .int) 1 21 [.ref (ad 0), .int 1] (wR g ad k x) (askF x.1 1) (wR g ad k x) := by
  refine CI.of .int rfl rfl (by decide +kernel) (Nat.le_of_ble_eq_true rfl) ?_
  intro p e s m below meth c A Q ls C hP hD hl hret hS
  obtain ⟨hx, hb, hml, hown, hw, hE, hA⟩ := id C
  have hl : lv_has ls 2 [(0, .ref (ad 0)), (1, .int 1)] := hl
  refine lv_iload_n hx hb d_Ru_askewOf_0 rfl (lv_at hl 1 rfl) ?_
  refine lv_iconst (v := 1) hx hb d_Ru_askewOf_1 (by decide) ?_
  refine lv_icmp_ge (tgt := 9) hx hb d_Ru_askewOf_2 (by decide) (fun c2_1 => ?_) (fun c2_1 => ?_)
  rotate_left
  · exact absurd (show (1 : Int32) ≤ 1 by decide) c2_1
  refine lv_aload_n hx hb d_Ru_askewOf_9 rfl (lv_at hl 0 rfl) ?_
  refine va_get (D := g.1) (ci := 4) (v := .ref (ad 6)) (C := R_Ru) (T := F_Ru) (N := 8) hx hb hw i_Ru hown hE.1 hP 0 rfl rfl 0 (by decide) (hw _ q_156) (fun _ h9 => h9) rfl d_Ru_askewOf_10 ?_
  refine lv_iload_n hx hb d_Ru_askewOf_13 rfl (lv_at hl 1 rfl) ?_
  refine lv_iconst (v := 1) hx hb d_Ru_askewOf_14 (by decide) ?_
  refine lv_isub hx hb d_Ru_askewOf_15 ?_
  refine va_aldq hx hb hE.1 hP 6 4 rfl rfl (by unfold vp_in; decide) d_Ru_askewOf_16 ?_
  rw [show ((1 - 1) : Int32).toNatClampNeg = 0 from by decide]
  refine get_po C 2 0 (by decide) (by decide) rfl q_124 hP (x.1 2 0) rfl d_Ru_askewOf_17 ?_
  refine lv_aload_n hx hb d_Ru_askewOf_20 rfl (lv_at hl 0 rfl) ?_
  refine va_get (D := g.1) (ci := 4) (v := .ref (ad 6)) (C := R_Ru) (T := F_Ru) (N := 8) hx hb hw i_Ru hown hE.1 hP 0 rfl rfl 0 (by decide) (hw _ q_156) (fun _ h9 => h9) rfl d_Ru_askewOf_21 ?_
  refine lv_iload_n hx hb d_Ru_askewOf_24 rfl (lv_at hl 1 rfl) ?_
  refine va_aldq hx hb hE.1 hP 6 4 rfl rfl (by unfold vp_in; decide) d_Ru_askewOf_25 ?_
  rw [show (1 : Int32).toNatClampNeg = 1 from by decide]
  refine get_po C 2 1 (by decide) (by decide) rfl q_124 hP (x.1 2 1) rfl d_Ru_askewOf_26 ?_
  refine csI C v_Ru_117 [.int (x.1 2 0), .int (x.1 2 1)] [] (c_Di_askew l g (x.1 2 0) (x.1 2 1)) hP hS rfl rfl hl.1 (Nat.le_of_ble_eq_true rfl) ⟨Nat.le_of_ble_eq_true rfl, Nat.le_of_ble_eq_true rfl⟩ d_Ru_askewOf_29 ⟨Nat.zero_le _, Nat.zero_le _⟩ (fun H locs hP hS => ?_)
  exact hret _ _ _ _ _ _ rfl rfl hP hD hS d_Ru_askewOf_32
set_option maxHeartbeats 4000000 in
set_option maxRecDepth 100000 in
theorem c_Ru_askewOf_2 (l : Launch) (g : Glob) (ad : Nat → Nat) (k : CFG) (x : RS) : CI l g y_Ru_askewOf b_Ru_askewOf 2 (some .int) 1 21 [.ref (ad 0), .int 2] (wR g ad k x) (askF x.1 2) (wR g ad k x) := by
  refine CI.of .int rfl rfl (by decide +kernel) (Nat.le_of_ble_eq_true rfl) ?_
  intro p e s m below meth c A Q ls C hP hD hl hret hS
  obtain ⟨hx, hb, hml, hown, hw, hE, hA⟩ := id C
  have hl : lv_has ls 2 [(0, .ref (ad 0)), (1, .int 2)] := hl
  refine lv_iload_n hx hb d_Ru_askewOf_0 rfl (lv_at hl 1 rfl) ?_
  refine lv_iconst (v := 1) hx hb d_Ru_askewOf_1 (by decide) ?_
  refine lv_icmp_ge (tgt := 9) hx hb d_Ru_askewOf_2 (by decide) (fun c2_1 => ?_) (fun c2_1 => ?_)
  rotate_left
  · exact absurd (show (1 : Int32) ≤ 2 by decide) c2_1
  refine lv_aload_n hx hb d_Ru_askewOf_9 rfl (lv_at hl 0 rfl) ?_
  refine va_get (D := g.1) (ci := 4) (v := .ref (ad 6)) (C := R_Ru) (T := F_Ru) (N := 8) hx hb hw i_Ru hown hE.1 hP 0 rfl rfl 0 (by decide) (hw _ q_156) (fun _ h9 => h9) rfl d_Ru_askewOf_10 ?_
  refine lv_iload_n hx hb d_Ru_askewOf_13 rfl (lv_at hl 1 rfl) ?_
  refine lv_iconst (v := 1) hx hb d_Ru_askewOf_14 (by decide) ?_
  refine lv_isub hx hb d_Ru_askewOf_15 ?_
  refine va_aldq hx hb hE.1 hP 6 4 rfl rfl (by unfold vp_in; decide) d_Ru_askewOf_16 ?_
  rw [show ((2 - 1) : Int32).toNatClampNeg = 1 from by decide]
  refine get_po C 2 1 (by decide) (by decide) rfl q_124 hP (x.1 2 1) rfl d_Ru_askewOf_17 ?_
  refine lv_aload_n hx hb d_Ru_askewOf_20 rfl (lv_at hl 0 rfl) ?_
  refine va_get (D := g.1) (ci := 4) (v := .ref (ad 6)) (C := R_Ru) (T := F_Ru) (N := 8) hx hb hw i_Ru hown hE.1 hP 0 rfl rfl 0 (by decide) (hw _ q_156) (fun _ h9 => h9) rfl d_Ru_askewOf_21 ?_
  refine lv_iload_n hx hb d_Ru_askewOf_24 rfl (lv_at hl 1 rfl) ?_
  refine va_aldq hx hb hE.1 hP 6 4 rfl rfl (by unfold vp_in; decide) d_Ru_askewOf_25 ?_
  rw [show (2 : Int32).toNatClampNeg = 2 from by decide]
  refine get_po C 2 2 (by decide) (by decide) rfl q_124 hP (x.1 2 2) rfl d_Ru_askewOf_26 ?_
  refine csI C v_Ru_117 [.int (x.1 2 1), .int (x.1 2 2)] [] (c_Di_askew l g (x.1 2 1) (x.1 2 2)) hP hS rfl rfl hl.1 (Nat.le_of_ble_eq_true rfl) ⟨Nat.le_of_ble_eq_true rfl, Nat.le_of_ble_eq_true rfl⟩ d_Ru_askewOf_29 ⟨Nat.zero_le _, Nat.zero_le _⟩ (fun H locs hP hS => ?_)
  exact hret _ _ _ _ _ _ rfl rfl hP hD hS d_Ru_askewOf_32
set_option maxHeartbeats 4000000 in
set_option maxRecDepth 100000 in
theorem c_Ru_swing_1 (l : Launch) (g : Glob) (ad : Nat → Nat) (k : CFG) (x : RS) (way : Int32) : CV l g y_Ru_swing b_Ru_swing 7 2 42 [.ref (ad 0), .int 1, .int way] (wR g ad k x) (wR g ad k (swF k way 1 x)) := by
  refine CV.of (by decide +kernel) (Nat.le_of_ble_eq_true rfl) ?_
  intro p e s m below meth c A Q ls C hP hD hl hret hS
  obtain ⟨hx, hb, hml, hown, hw, hE, hA⟩ := id C
  have hl : lv_has ls 7 [(0, .ref (ad 0)), (1, .int 1), (2, .int way)] := hl
  refine lv_aload_n hx hb d_Ru_swing_0 rfl (lv_at hl 0 rfl) ?_
  refine va_get (D := g.1) (ci := 4) (v := .ref (ad 6)) (C := R_Ru) (T := F_Ru) (N := 8) hx hb hw i_Ru hown hE.1 hP 0 rfl rfl 0 (by decide) (hw _ q_156) (fun _ h9 => h9) rfl d_Ru_swing_1 ?_
  refine lv_iload_n hx hb d_Ru_swing_4 rfl (lv_at hl 1 rfl) ?_
  refine va_aldq hx hb hE.1 hP 6 4 rfl rfl (by unfold vp_in; decide) d_Ru_swing_5 ?_
  rw [show (1 : Int32).toNatClampNeg = 1 from by decide]
  refine lv_astore_n (lv' := [(3, .ref (ad (7 + 1))), (0, .ref (ad 0)), (1, .int 1), (2, .int way)]) hx hb d_Ru_swing_6 rfl hl (by decide) rfl (fun ls hl => ?_)
  refine lv_aload_n hx hb d_Ru_swing_7 rfl (lv_at hl 1 rfl) ?_
  refine va_get (D := g.1) (ci := 4) (v := .ref (ad 1)) (C := R_Ru) (T := F_Ru) (N := 8) hx hb hw i_Ru hown hE.1 hP 0 rfl rfl 7 (by decide) (hw _ q_170) (fun _ h9 => h9) rfl d_Ru_swing_8 ?_
  refine va_get (D := g.1) (ci := 5) (v := .ref (ad 2)) (C := R_Se) (T := F_Se) (N := 9) hx hb hw i_Se hown hE.1 hP 1 rfl rfl 0 (by decide) (hw _ q_65) (fun _ h9 => h9) rfl d_Ru_swing_11 ?_
  refine lv_iload_n hx hb d_Ru_swing_14 rfl (lv_at hl 2 rfl) ?_
  refine va_aldq hx hb hE.1 hP 2 3 rfl rfl (by unfold vp_in; decide) d_Ru_swing_15 ?_
  rw [show (1 : Int32).toNatClampNeg = 1 from by decide]
  refine lv_astore (lv' := [(4, .ref (ad (3 + 1))), (3, .ref (ad (7 + 1))), (0, .ref (ad 0)), (1, .int 1), (2, .int way)]) hx hb d_Ru_swing_16 hl (by decide) rfl (fun ls hl => ?_)
  refine lv_aload_n hx hb d_Ru_swing_18 rfl (lv_at hl 1 rfl) ?_
  refine get_po C 3 1 (by decide) (by decide) rfl q_127 hP (x.1 3 1) rfl d_Ru_swing_19 ?_
  refine lv_aload_n hx hb d_Ru_swing_22 rfl (lv_at hl 2 rfl) ?_
  refine lv_iload_n hx hb d_Ru_swing_23 rfl (lv_at hl 3 rfl) ?_
  refine cvI C v_Ru_140 [.int 1] [.int (x.1 3 1)] (c_Ru_askewOf_1 l g ad k x) hP hD hS [0, 1, 2, 3, 4, 5, 6, 7, 8, 9, 10, 11, 12, 13] [] [0, 1, 2, 3, 4, 5, 6, 7, 8, 9, 10, 11, 12, 13] [] (wR g ad k x) rfl rfl (by decide) (by decide) (by decide) rfl (by decide) 0 rfl rfl rfl rfl hl.1 (Nat.le_of_ble_eq_true rfl) ⟨Nat.le_of_ble_eq_true rfl, Nat.le_of_ble_eq_true rfl⟩ d_Ru_swing_24 ⟨Nat.zero_le _, Nat.zero_le _⟩ (fun H locs hP hD hS => ?_)
  refine lv_iload_n hx hb d_Ru_swing_27 rfl (lv_at hl 4 rfl) ?_
  refine lv_imul hx hb d_Ru_swing_28 ?_
  refine lv_iadd hx hb d_Ru_swing_29 ?_
  refine lv_istore (lv' := [(5, .int ((x.1 3 1) + ((askF x.1 1) * way))), (4, .ref (ad (3 + 1))), (3, .ref (ad (7 + 1))), (0, .ref (ad 0)), (1, .int 1), (2, .int way)]) hx hb d_Ru_swing_30 hl (by decide) rfl (fun ls hl => ?_)
  refine lv_aload hx hb d_Ru_swing_32 (lv_at hl 1 rfl) ?_
  refine lv_iload hx hb d_Ru_swing_34 (lv_at hl 0 rfl) ?_
  refine cvI C v_Ru_143 [.int ((x.1 3 1) + ((askF x.1 1) * way))] [] (c_Sh_directionsIn l g (ad 4) k.1 1 ((x.1 3 1) + ((askF x.1 1) * way))) hP hD hS [4] [0, 1, 2, 3, 5, 6, 7, 8, 9, 10, 11, 12, 13] [0, 1, 2, 3, 13, 4, 5, 6, 7, 8, 9, 10, 11, 12] [((ad 0), .inr (4, [.ref (ad 6), .ref (ad 10), .int (x.2.1 0), .int (x.2.1 1), .int (x.2.1 2), .int (x.2.1 3), .int (x.2.1 4), .ref (ad 1)])), ((ad 1), .inr (5, [.ref (ad 2), .ref (ad 12), .ref (ad 13), .int (k.2.1 0), .int (k.2.1 1), .int (k.2.1 2), .int (k.2.1 3), .int (k.2.1 4), .int (k.2.1 5)])), ((ad 2), .inl (g.2.1 3, 3, .inr (.inr (.inr (.inr (fun j => [ad 3, ad 4, ad 5][j]?)))))), ((ad 3), .inr (6, [.int (k.1 0 0), .int (k.1 1 0), .int (k.1 2 0), .int (k.1 3 0), .int (k.1 4 0)])), ((ad 5), .inr (6, [.int (k.1 0 2), .int (k.1 1 2), .int (k.1 2 2), .int (k.1 3 2), .int (k.1 4 2)])), ((ad 6), .inl (g.2.1 4, 3, .inr (.inr (.inr (.inr (fun j => [ad 7, ad 8, ad 9][j]?)))))), ((ad 7), .inr (3, [.int (x.1 0 0), .int (x.1 1 0), .int (x.1 2 0), .int (x.1 3 0), .int (x.1 4 0)])), ((ad 8), .inr (3, [.int (x.1 0 1), .int (x.1 1 1), .int (x.1 2 1), .int (x.1 3 1), .int (x.1 4 1)])), ((ad 9), .inr (3, [.int (x.1 0 2), .int (x.1 1 2), .int (x.1 2 2), .int (x.1 3 2), .int (x.1 4 2)])), ((ad 10), .inr (1, [.ref (ad 11), .int x.2.2.1])), ((ad 11), .inl (g.2.1 1, 64, .inr (.inl x.2.2.2))), ((ad 12), .inl (g.2.1 0, 20, .inl k.2.2.1)), ((ad 13), .inl (g.2.1 0, 20, .inl k.2.2.2))] (wR g ad k x) rfl rfl (by decide) (by decide) (by decide) rfl (by decide) 0 rfl rfl rfl rfl hl.1 (Nat.le_of_ble_eq_true rfl) ⟨Nat.le_of_ble_eq_true rfl, Nat.le_of_ble_eq_true rfl⟩ d_Ru_swing_36 ⟨Nat.zero_le _, Nat.zero_le _⟩ (fun H locs hP hD hS => ?_)
  refine lv_istore (lv' := [(6, .int (dirsIn (k.1 0 1) ((x.1 3 1) + ((askF x.1 1) * way)))), (5, .int ((x.1 3 1) + ((askF x.1 1) * way))), (4, .ref (ad (3 + 1))), (3, .ref (ad (7 + 1))), (0, .ref (ad 0)), (1, .int 1), (2, .int way)]) hx hb d_Ru_swing_39 hl (by decide) rfl (fun ls hl => ?_)
  refine lv_aload_n hx hb d_Ru_swing_41 rfl (lv_at hl 3 rfl) ?_
  refine lv_aload_n hx hb d_Ru_swing_42 rfl (lv_at hl 3 rfl) ?_
  refine get_po C 2 1 (by decide) (by decide) rfl q_124 hP (x.1 2 1) rfl d_Ru_swing_43 ?_
  refine lv_iload hx hb d_Ru_swing_46 (lv_at hl 0 rfl) ?_
  refine lv_iadd hx hb d_Ru_swing_48 ?_
  refine csI C v_Ru_130 [.int ((x.1 2 1) + (dirsIn (k.1 0 1) ((x.1 3 1) + ((askF x.1 1) * way))))] [.ref (ad (7 + 1))] (c_Di_round l g ((x.1 2 1) + (dirsIn (k.1 0 1) ((x.1 3 1) + ((askF x.1 1) * way))))) hP hS rfl rfl hl.1 (Nat.le_of_ble_eq_true rfl) ⟨Nat.le_of_ble_eq_true rfl, Nat.le_of_ble_eq_true rfl⟩ d_Ru_swing_49 ⟨Nat.zero_le _, Nat.zero_le _⟩ (fun H locs hP hS => ?_)
  refine put_po C 2 1 (by decide) (by decide) rfl q_124 hP hD hS d_Ru_swing_52 (fun H locs hP hD hS => ?_)
  have hP : va_P g.1 classes (wR g ad k ((u2 x.1 2 1 (((x.1 2 1) + (dirsIn (k.1 0 1) ((x.1 3 1) + ((askF x.1 1) * way)))) &&& 63)), x.2.1, x.2.2.1, x.2.2.2)) H := hP
  have hD : va_D A (wR g ad k ((u2 x.1 2 1 (((x.1 2 1) + (dirsIn (k.1 0 1) ((x.1 3 1) + ((askF x.1 1) * way)))) &&& 63)), x.2.1, x.2.2.1, x.2.2.2)) := hD
  refine lv_aload_n hx hb d_Ru_swing_55 rfl (lv_at hl 3 rfl) ?_
  refine lv_iload hx hb d_Ru_swing_56 (lv_at hl 1 rfl) ?_
  refine lv_iload hx hb d_Ru_swing_58 (lv_at hl 0 rfl) ?_
  refine lv_aload hx hb d_Ru_swing_60 (lv_at hl 2 rfl) ?_
  refine va_get (D := g.1) (ci := 6) (v := .int (k.1 0 1)) (C := R_Sh) (T := F_Sh) (N := 5) hx hb hw i_Sh hown hE.1 hP 4 rfl rfl 0 (by decide) (hw _ q_40) (fun _ h9 => h9) rfl d_Ru_swing_62 ?_
  refine lv_imul hx hb d_Ru_swing_65 ?_
  refine lv_isub hx hb d_Ru_swing_66 ?_
  refine put_po C 3 1 (by decide) (by decide) rfl q_127 hP hD hS d_Ru_swing_67 (fun H locs hP hD hS => ?_)
  have hP : va_P g.1 classes (wR g ad k ((u2 (u2 x.1 2 1 (((x.1 2 1) + (dirsIn (k.1 0 1) ((x.1 3 1) + ((askF x.1 1) * way)))) &&& 63)) 3 1 (((x.1 3 1) + ((askF x.1 1) * way)) - ((dirsIn (k.1 0 1) ((x.1 3 1) + ((askF x.1 1) * way))) * (k.1 0 1)))), x.2.1, x.2.2.1, x.2.2.2)) H := hP
  have hD : va_D A (wR g ad k ((u2 (u2 x.1 2 1 (((x.1 2 1) + (dirsIn (k.1 0 1) ((x.1 3 1) + ((askF x.1 1) * way)))) &&& 63)) 3 1 (((x.1 3 1) + ((askF x.1 1) * way)) - ((dirsIn (k.1 0 1) ((x.1 3 1) + ((askF x.1 1) * way))) * (k.1 0 1)))), x.2.1, x.2.2.1, x.2.2.2)) := hD
  exact hret _ _ _ _ _ rfl hP hD hS d_Ru_swing_70
set_option maxHeartbeats 4000000 in
set_option maxRecDepth 100000 in
theorem c_Ru_swing_2 (l : Launch) (g : Glob) (ad : Nat → Nat) (k : CFG) (x : RS) (way : Int32) : CV l g y_Ru_swing b_Ru_swing 7 2 42 [.ref (ad 0), .int 2, .int way] (wR g ad k x) (wR g ad k (swF k way 2 x)) := by
  refine CV.of (by decide +kernel) (Nat.le_of_ble_eq_true rfl) ?_
  intro p e s m below meth c A Q ls C hP hD hl hret hS
  obtain ⟨hx, hb, hml, hown, hw, hE, hA⟩ := id C
  have hl : lv_has ls 7 [(0, .ref (ad 0)), (1, .int 2), (2, .int way)] := hl
  refine lv_aload_n hx hb d_Ru_swing_0 rfl (lv_at hl 0 rfl) ?_
  refine va_get (D := g.1) (ci := 4) (v := .ref (ad 6)) (C := R_Ru) (T := F_Ru) (N := 8) hx hb hw i_Ru hown hE.1 hP 0 rfl rfl 0 (by decide) (hw _ q_156) (fun _ h9 => h9) rfl d_Ru_swing_1 ?_
  refine lv_iload_n hx hb d_Ru_swing_4 rfl (lv_at hl 1 rfl) ?_
  refine va_aldq hx hb hE.1 hP 6 4 rfl rfl (by unfold vp_in; decide) d_Ru_swing_5 ?_
  rw [show (2 : Int32).toNatClampNeg = 2 from by decide]
  refine lv_astore_n (lv' := [(3, .ref (ad (7 + 2))), (0, .ref (ad 0)), (1, .int 2), (2, .int way)]) hx hb d_Ru_swing_6 rfl hl (by decide) rfl (fun ls hl => ?_)
  refine lv_aload_n hx hb d_Ru_swing_7 rfl (lv_at hl 1 rfl) ?_
  refine va_get (D := g.1) (ci := 4) (v := .ref (ad 1)) (C := R_Ru) (T := F_Ru) (N := 8) hx hb hw i_Ru hown hE.1 hP 0 rfl rfl 7 (by decide) (hw _ q_170) (fun _ h9 => h9) rfl d_Ru_swing_8 ?_
  refine va_get (D := g.1) (ci := 5) (v := .ref (ad 2)) (C := R_Se) (T := F_Se) (N := 9) hx hb hw i_Se hown hE.1 hP 1 rfl rfl 0 (by decide) (hw _ q_65) (fun _ h9 => h9) rfl d_Ru_swing_11 ?_
  refine lv_iload_n hx hb d_Ru_swing_14 rfl (lv_at hl 2 rfl) ?_
  refine va_aldq hx hb hE.1 hP 2 3 rfl rfl (by unfold vp_in; decide) d_Ru_swing_15 ?_
  rw [show (2 : Int32).toNatClampNeg = 2 from by decide]
  refine lv_astore (lv' := [(4, .ref (ad (3 + 2))), (3, .ref (ad (7 + 2))), (0, .ref (ad 0)), (1, .int 2), (2, .int way)]) hx hb d_Ru_swing_16 hl (by decide) rfl (fun ls hl => ?_)
  refine lv_aload_n hx hb d_Ru_swing_18 rfl (lv_at hl 1 rfl) ?_
  refine get_po C 3 2 (by decide) (by decide) rfl q_127 hP (x.1 3 2) rfl d_Ru_swing_19 ?_
  refine lv_aload_n hx hb d_Ru_swing_22 rfl (lv_at hl 2 rfl) ?_
  refine lv_iload_n hx hb d_Ru_swing_23 rfl (lv_at hl 3 rfl) ?_
  refine cvI C v_Ru_140 [.int 2] [.int (x.1 3 2)] (c_Ru_askewOf_2 l g ad k x) hP hD hS [0, 1, 2, 3, 4, 5, 6, 7, 8, 9, 10, 11, 12, 13] [] [0, 1, 2, 3, 4, 5, 6, 7, 8, 9, 10, 11, 12, 13] [] (wR g ad k x) rfl rfl (by decide) (by decide) (by decide) rfl (by decide) 0 rfl rfl rfl rfl hl.1 (Nat.le_of_ble_eq_true rfl) ⟨Nat.le_of_ble_eq_true rfl, Nat.le_of_ble_eq_true rfl⟩ d_Ru_swing_24 ⟨Nat.zero_le _, Nat.zero_le _⟩ (fun H locs hP hD hS => ?_)
  refine lv_iload_n hx hb d_Ru_swing_27 rfl (lv_at hl 4 rfl) ?_
  refine lv_imul hx hb d_Ru_swing_28 ?_
  refine lv_iadd hx hb d_Ru_swing_29 ?_
  refine lv_istore (lv' := [(5, .int ((x.1 3 2) + ((askF x.1 2) * way))), (4, .ref (ad (3 + 2))), (3, .ref (ad (7 + 2))), (0, .ref (ad 0)), (1, .int 2), (2, .int way)]) hx hb d_Ru_swing_30 hl (by decide) rfl (fun ls hl => ?_)
  refine lv_aload hx hb d_Ru_swing_32 (lv_at hl 1 rfl) ?_
  refine lv_iload hx hb d_Ru_swing_34 (lv_at hl 0 rfl) ?_
  refine cvI C v_Ru_143 [.int ((x.1 3 2) + ((askF x.1 2) * way))] [] (c_Sh_directionsIn l g (ad 5) k.1 2 ((x.1 3 2) + ((askF x.1 2) * way))) hP hD hS [5] [0, 1, 2, 3, 4, 6, 7, 8, 9, 10, 11, 12, 13] [0, 1, 2, 3, 4, 13, 5, 6, 7, 8, 9, 10, 11, 12] [((ad 0), .inr (4, [.ref (ad 6), .ref (ad 10), .int (x.2.1 0), .int (x.2.1 1), .int (x.2.1 2), .int (x.2.1 3), .int (x.2.1 4), .ref (ad 1)])), ((ad 1), .inr (5, [.ref (ad 2), .ref (ad 12), .ref (ad 13), .int (k.2.1 0), .int (k.2.1 1), .int (k.2.1 2), .int (k.2.1 3), .int (k.2.1 4), .int (k.2.1 5)])), ((ad 2), .inl (g.2.1 3, 3, .inr (.inr (.inr (.inr (fun j => [ad 3, ad 4, ad 5][j]?)))))), ((ad 3), .inr (6, [.int (k.1 0 0), .int (k.1 1 0), .int (k.1 2 0), .int (k.1 3 0), .int (k.1 4 0)])), ((ad 4), .inr (6, [.int (k.1 0 1), .int (k.1 1 1), .int (k.1 2 1), .int (k.1 3 1), .int (k.1 4 1)])), ((ad 6), .inl (g.2.1 4, 3, .inr (.inr (.inr (.inr (fun j => [ad 7, ad 8, ad 9][j]?)))))), ((ad 7), .inr (3, [.int (x.1 0 0), .int (x.1 1 0), .int (x.1 2 0), .int (x.1 3 0), .int (x.1 4 0)])), ((ad 8), .inr (3, [.int (x.1 0 1), .int (x.1 1 1), .int (x.1 2 1), .int (x.1 3 1), .int (x.1 4 1)])), ((ad 9), .inr (3, [.int (x.1 0 2), .int (x.1 1 2), .int (x.1 2 2), .int (x.1 3 2), .int (x.1 4 2)])), ((ad 10), .inr (1, [.ref (ad 11), .int x.2.2.1])), ((ad 11), .inl (g.2.1 1, 64, .inr (.inl x.2.2.2))), ((ad 12), .inl (g.2.1 0, 20, .inl k.2.2.1)), ((ad 13), .inl (g.2.1 0, 20, .inl k.2.2.2))] (wR g ad k x) rfl rfl (by decide) (by decide) (by decide) rfl (by decide) 0 rfl rfl rfl rfl hl.1 (Nat.le_of_ble_eq_true rfl) ⟨Nat.le_of_ble_eq_true rfl, Nat.le_of_ble_eq_true rfl⟩ d_Ru_swing_36 ⟨Nat.zero_le _, Nat.zero_le _⟩ (fun H locs hP hD hS => ?_)
  refine lv_istore (lv' := [(6, .int (dirsIn (k.1 0 2) ((x.1 3 2) + ((askF x.1 2) * way)))), (5, .int ((x.1 3 2) + ((askF x.1 2) * way))), (4, .ref (ad (3 + 2))), (3, .ref (ad (7 + 2))), (0, .ref (ad 0)), (1, .int 2), (2, .int way)]) hx hb d_Ru_swing_39 hl (by decide) rfl (fun ls hl => ?_)
  refine lv_aload_n hx hb d_Ru_swing_41 rfl (lv_at hl 3 rfl) ?_
  refine lv_aload_n hx hb d_Ru_swing_42 rfl (lv_at hl 3 rfl) ?_
  refine get_po C 2 2 (by decide) (by decide) rfl q_124 hP (x.1 2 2) rfl d_Ru_swing_43 ?_
  refine lv_iload hx hb d_Ru_swing_46 (lv_at hl 0 rfl) ?_
  refine lv_iadd hx hb d_Ru_swing_48 ?_
  refine csI C v_Ru_130 [.int ((x.1 2 2) + (dirsIn (k.1 0 2) ((x.1 3 2) + ((askF x.1 2) * way))))] [.ref (ad (7 + 2))] (c_Di_round l g ((x.1 2 2) + (dirsIn (k.1 0 2) ((x.1 3 2) + ((askF x.1 2) * way))))) hP hS rfl rfl hl.1 (Nat.le_of_ble_eq_true rfl) ⟨Nat.le_of_ble_eq_true rfl, Nat.le_of_ble_eq_true rfl⟩ d_Ru_swing_49 ⟨Nat.zero_le _, Nat.zero_le _⟩ (fun H locs hP hS => ?_)
  refine put_po C 2 2 (by decide) (by decide) rfl q_124 hP hD hS d_Ru_swing_52 (fun H locs hP hD hS => ?_)
  have hP : va_P g.1 classes (wR g ad k ((u2 x.1 2 2 (((x.1 2 2) + (dirsIn (k.1 0 2) ((x.1 3 2) + ((askF x.1 2) * way)))) &&& 63)), x.2.1, x.2.2.1, x.2.2.2)) H := hP
  have hD : va_D A (wR g ad k ((u2 x.1 2 2 (((x.1 2 2) + (dirsIn (k.1 0 2) ((x.1 3 2) + ((askF x.1 2) * way)))) &&& 63)), x.2.1, x.2.2.1, x.2.2.2)) := hD
  refine lv_aload_n hx hb d_Ru_swing_55 rfl (lv_at hl 3 rfl) ?_
  refine lv_iload hx hb d_Ru_swing_56 (lv_at hl 1 rfl) ?_
  refine lv_iload hx hb d_Ru_swing_58 (lv_at hl 0 rfl) ?_
  refine lv_aload hx hb d_Ru_swing_60 (lv_at hl 2 rfl) ?_
  refine va_get (D := g.1) (ci := 6) (v := .int (k.1 0 2)) (C := R_Sh) (T := F_Sh) (N := 5) hx hb hw i_Sh hown hE.1 hP 5 rfl rfl 0 (by decide) (hw _ q_40) (fun _ h9 => h9) rfl d_Ru_swing_62 ?_
  refine lv_imul hx hb d_Ru_swing_65 ?_
  refine lv_isub hx hb d_Ru_swing_66 ?_
  refine put_po C 3 2 (by decide) (by decide) rfl q_127 hP hD hS d_Ru_swing_67 (fun H locs hP hD hS => ?_)
  have hP : va_P g.1 classes (wR g ad k ((u2 (u2 x.1 2 2 (((x.1 2 2) + (dirsIn (k.1 0 2) ((x.1 3 2) + ((askF x.1 2) * way)))) &&& 63)) 3 2 (((x.1 3 2) + ((askF x.1 2) * way)) - ((dirsIn (k.1 0 2) ((x.1 3 2) + ((askF x.1 2) * way))) * (k.1 0 2)))), x.2.1, x.2.2.1, x.2.2.2)) H := hP
  have hD : va_D A (wR g ad k ((u2 (u2 x.1 2 2 (((x.1 2 2) + (dirsIn (k.1 0 2) ((x.1 3 2) + ((askF x.1 2) * way)))) &&& 63)) 3 2 (((x.1 3 2) + ((askF x.1 2) * way)) - ((dirsIn (k.1 0 2) ((x.1 3 2) + ((askF x.1 2) * way))) * (k.1 0 2)))), x.2.1, x.2.2.1, x.2.2.2)) := hD
  exact hret _ _ _ _ _ rfl hP hD hS d_Ru_swing_70
set_option maxHeartbeats 4000000 in
set_option maxRecDepth 100000 in
theorem c_Ru_placeTrailers (l : Launch) (g : Glob) (ad : Nat → Nat) (k : CFG) (x : RS) (n : Nat) (hn : k.2.1 0 = nI n) (h3 : n ≤ 3) : CV l g y_Ru_placeTrailers b_Ru_placeTrailers 6 1 20 [.ref (ad 0)] (wR g ad k x) (wR g ad k (itF (plF k) n 1 x)) := by
  refine CV.of (by decide +kernel) (Nat.le_of_ble_eq_true rfl) ?_
  intro p e s m below meth c A Q ls C hP hD hl hret hS
  obtain ⟨hx, hb, hml, hown, hw, hE, hA⟩ := id C
  have hl : lv_has ls 6 [(0, .ref (ad 0))] := hl
  generalize h9 : itF (plF k) n 1 x = x9 at hret
  refine lv_iconst (v := 1) hx hb d_Ru_placeTrailers_0 (by decide) ?_
  refine lv_istore_n (lv' := [(1, .int 1), (0, .ref (ad 0))]) hx hb d_Ru_placeTrailers_1 rfl hl (by decide) rfl (fun ls hl => ?_)
  have lp : ∀ (j : Nat) (i : Nat) (x : RS) (H : Heap) (locs : List Loc) (ls : Array Slot), 1 ≤ i → i ≤ n + 1 → n + 1 < i + j → itF (plF k) n i x = x9 → va_P g.1 classes (wR g ad k x) H → va_D A (wR g ad k x) → va_S A s.heap H locs → lv_has ls 6 [(1, .int (nI i)), (0, .ref (ad 0))] → W p l e { frames := 1, cells := 0, slots := 0, locals := 20 } s m ([.ref (ad 0)] : List Value).toArray below meth c H locs 0 0 Q (F0 m 2 ls []) := by
    intro j
    induction j with
    | zero =>
      intro i x H locs ls hlo hi hj h9 hP hD hS hl
      exact absurd trivial (by omega)
    | succ j ih =>
      intro i x H locs ls hlo hi hj h9 hP hD hS hl
      refine lv_iload_n hx hb d_Ru_placeTrailers_2 rfl (lv_at hl 0 rfl) ?_
      refine lv_aload_n hx hb d_Ru_placeTrailers_3 rfl (lv_at hl 1 rfl) ?_
      refine va_get (D := g.1) (ci := 4) (v := .ref (ad 1)) (C := R_Ru) (T := F_Ru) (N := 8) hx hb hw i_Ru hown hE.1 hP 0 rfl rfl 7 (by decide) (hw _ q_170) (fun _ h9 => h9) rfl d_Ru_placeTrailers_4 ?_
      refine va_get (D := g.1) (ci := 5) (v := .int (k.2.1 0)) (C := R_Se) (T := F_Se) (N := 9) hx hb hw i_Se hown hE.1 hP 1 rfl rfl 3 (by decide) (hw _ q_72) (fun _ h9 => h9) rfl d_Ru_placeTrailers_7 ?_
      refine lv_icmp_ge (tgt := 125) hx hb d_Ru_placeTrailers_10 (by decide) (fun c10_1 => ?_) (fun c10_1 => ?_)
      · have hge := ge_of_le hn h3 hi c10_1
        have h9 := (itF_end hge).symm.trans h9
        subst h9
        exact hret _ _ _ _ _ rfl hP hD hS d_Ru_placeTrailers_125
      · have hlt := lt_of_nle hn h3 hi c10_1
        rcases (show i = 1 ∨ i = 2 by omega) with rfl | rfl
        · have hl : lv_has ls 6 [(1, .int 1), (0, .ref (ad 0))] := hl
          refine lv_aload_n hx hb d_Ru_placeTrailers_13 rfl (lv_at hl 1 rfl) ?_
          refine va_get (D := g.1) (ci := 4) (v := .ref (ad 6)) (C := R_Ru) (T := F_Ru) (N := 8) hx hb hw i_Ru hown hE.1 hP 0 rfl rfl 0 (by decide) (hw _ q_156) (fun _ h9 => h9) rfl d_Ru_placeTrailers_14 ?_
          refine lv_iload_n hx hb d_Ru_placeTrailers_17 rfl (lv_at hl 0 rfl) ?_
          refine lv_iconst (v := 1) hx hb d_Ru_placeTrailers_18 (by decide) ?_
          refine lv_isub hx hb d_Ru_placeTrailers_19 ?_
          refine va_aldq hx hb hE.1 hP 6 4 rfl rfl (by unfold vp_in; decide) d_Ru_placeTrailers_20 ?_
          rw [show ((1 - 1) : Int32).toNatClampNeg = 0 from by decide]
          refine lv_astore_n (lv' := [(2, .ref (ad (7 + 0))), (1, .int 1), (0, .ref (ad 0))]) hx hb d_Ru_placeTrailers_21 rfl hl (by decide) rfl (fun ls hl => ?_)
          refine lv_aload_n hx hb d_Ru_placeTrailers_22 rfl (lv_at hl 2 rfl) ?_
          refine va_get (D := g.1) (ci := 4) (v := .ref (ad 6)) (C := R_Ru) (T := F_Ru) (N := 8) hx hb hw i_Ru hown hE.1 hP 0 rfl rfl 0 (by decide) (hw _ q_156) (fun _ h9 => h9) rfl d_Ru_placeTrailers_23 ?_
          refine lv_iload_n hx hb d_Ru_placeTrailers_26 rfl (lv_at hl 1 rfl) ?_
          refine va_aldq hx hb hE.1 hP 6 4 rfl rfl (by unfold vp_in; decide) d_Ru_placeTrailers_27 ?_
          rw [show (1 : Int32).toNatClampNeg = 1 from by decide]
          refine lv_astore_n (lv' := [(3, .ref (ad (7 + 1))), (2, .ref (ad (7 + 0))), (1, .int 1), (0, .ref (ad 0))]) hx hb d_Ru_placeTrailers_28 rfl hl (by decide) rfl (fun ls hl => ?_)
          refine lv_aload_n hx hb d_Ru_placeTrailers_29 rfl (lv_at hl 3 rfl) ?_
          refine va_get (D := g.1) (ci := 4) (v := .ref (ad 1)) (C := R_Ru) (T := F_Ru) (N := 8) hx hb hw i_Ru hown hE.1 hP 0 rfl rfl 7 (by decide) (hw _ q_170) (fun _ h9 => h9) rfl d_Ru_placeTrailers_30 ?_
          refine va_get (D := g.1) (ci := 5) (v := .ref (ad 2)) (C := R_Se) (T := F_Se) (N := 9) hx hb hw i_Se hown hE.1 hP 1 rfl rfl 0 (by decide) (hw _ q_65) (fun _ h9 => h9) rfl d_Ru_placeTrailers_33 ?_
          refine lv_iload_n hx hb d_Ru_placeTrailers_36 rfl (lv_at hl 2 rfl) ?_
          refine lv_iconst (v := 1) hx hb d_Ru_placeTrailers_37 (by decide) ?_
          refine lv_isub hx hb d_Ru_placeTrailers_38 ?_
          refine va_aldq hx hb hE.1 hP 2 3 rfl rfl (by unfold vp_in; decide) d_Ru_placeTrailers_39 ?_
          rw [show ((1 - 1) : Int32).toNatClampNeg = 0 from by decide]
          refine va_get (D := g.1) (ci := 6) (v := .int (k.1 1 0)) (C := R_Sh) (T := F_Sh) (N := 5) hx hb hw i_Sh hown hE.1 hP 3 rfl rfl 1 (by decide) (hw _ q_42) (fun _ h9 => h9) rfl d_Ru_placeTrailers_40 ?_
          refine lv_istore (lv' := [(4, .int (k.1 1 0)), (3, .ref (ad (7 + 1))), (2, .ref (ad (7 + 0))), (1, .int 1), (0, .ref (ad 0))]) hx hb d_Ru_placeTrailers_43 hl (by decide) rfl (fun ls hl => ?_)
          refine lv_aload_n hx hb d_Ru_placeTrailers_45 rfl (lv_at hl 4 rfl) ?_
          refine va_get (D := g.1) (ci := 4) (v := .ref (ad 1)) (C := R_Ru) (T := F_Ru) (N := 8) hx hb hw i_Ru hown hE.1 hP 0 rfl rfl 7 (by decide) (hw _ q_170) (fun _ h9 => h9) rfl d_Ru_placeTrailers_46 ?_
          refine va_get (D := g.1) (ci := 5) (v := .ref (ad 2)) (C := R_Se) (T := F_Se) (N := 9) hx hb hw i_Se hown hE.1 hP 1 rfl rfl 0 (by decide) (hw _ q_65) (fun _ h9 => h9) rfl d_Ru_placeTrailers_49 ?_
          refine lv_iload_n hx hb d_Ru_placeTrailers_52 rfl (lv_at hl 3 rfl) ?_
          refine va_aldq hx hb hE.1 hP 2 3 rfl rfl (by unfold vp_in; decide) d_Ru_placeTrailers_53 ?_
          rw [show (1 : Int32).toNatClampNeg = 1 from by decide]
          refine va_get (D := g.1) (ci := 6) (v := .int (k.1 0 1)) (C := R_Sh) (T := F_Sh) (N := 5) hx hb hw i_Sh hown hE.1 hP 4 rfl rfl 0 (by decide) (hw _ q_40) (fun _ h9 => h9) rfl d_Ru_placeTrailers_54 ?_
          refine lv_istore (lv' := [(5, .int (k.1 0 1)), (4, .int (k.1 1 0)), (3, .ref (ad (7 + 1))), (2, .ref (ad (7 + 0))), (1, .int 1), (0, .ref (ad 0))]) hx hb d_Ru_placeTrailers_57 hl (by decide) rfl (fun ls hl => ?_)
          refine lv_aload_n hx hb d_Ru_placeTrailers_59 rfl (lv_at hl 2 rfl) ?_
          refine lv_aload_n hx hb d_Ru_placeTrailers_60 rfl (lv_at hl 3 rfl) ?_
          refine get_po C 0 0 (by decide) (by decide) rfl q_118 hP (x.1 0 0) rfl d_Ru_placeTrailers_61 ?_
          refine lv_iload hx hb d_Ru_placeTrailers_64 (lv_at hl 1 rfl) ?_
          refine lv_aload_n hx hb d_Ru_placeTrailers_66 rfl (lv_at hl 3 rfl) ?_
          refine get_po C 2 0 (by decide) (by decide) rfl q_124 hP (x.1 2 0) rfl d_Ru_placeTrailers_67 ?_
          refine csI C v_Ru_123 [.int (x.1 2 0)] [.int (k.1 1 0), .int (x.1 0 0), .ref (ad (7 + 1))] (c_Di_dx l g (x.1 2 0)) hP hS rfl rfl hl.1 (Nat.le_of_ble_eq_true rfl) ⟨Nat.le_of_ble_eq_true rfl, Nat.le_of_ble_eq_true rfl⟩ d_Ru_placeTrailers_70 ⟨Nat.zero_le _, Nat.zero_le _⟩ (fun H locs hP hS => ?_)
          refine lv_imul hx hb d_Ru_placeTrailers_73 ?_
          refine lv_isub hx hb d_Ru_placeTrailers_74 ?_
          refine lv_iload hx hb d_Ru_placeTrailers_75 (lv_at hl 0 rfl) ?_
          refine lv_aload_n hx hb d_Ru_placeTrailers_77 rfl (lv_at hl 2 rfl) ?_
          refine get_po C 2 1 (by decide) (by decide) rfl q_124 hP (x.1 2 1) rfl d_Ru_placeTrailers_78 ?_
          refine csI C v_Ru_123 [.int (x.1 2 1)] [.int (k.1 0 1), .int ((x.1 0 0) - ((k.1 1 0) * (dX (x.1 2 0)))), .ref (ad (7 + 1))] (c_Di_dx l g (x.1 2 1)) hP hS rfl rfl hl.1 (Nat.le_of_ble_eq_true rfl) ⟨Nat.le_of_ble_eq_true rfl, Nat.le_of_ble_eq_true rfl⟩ d_Ru_placeTrailers_81 ⟨Nat.zero_le _, Nat.zero_le _⟩ (fun H locs hP hS => ?_)
          refine lv_imul hx hb d_Ru_placeTrailers_84 ?_
          refine lv_isub hx hb d_Ru_placeTrailers_85 ?_
          refine put_po C 0 1 (by decide) (by decide) rfl q_118 hP hD hS d_Ru_placeTrailers_86 (fun H locs hP hD hS => ?_)
          have hP : va_P g.1 classes (wR g ad k ((u2 x.1 0 1 (((x.1 0 0) - ((k.1 1 0) * (dX (x.1 2 0)))) - ((k.1 0 1) * (dX (x.1 2 1))))), x.2.1, x.2.2.1, x.2.2.2)) H := hP
          have hD : va_D A (wR g ad k ((u2 x.1 0 1 (((x.1 0 0) - ((k.1 1 0) * (dX (x.1 2 0)))) - ((k.1 0 1) * (dX (x.1 2 1))))), x.2.1, x.2.2.1, x.2.2.2)) := hD
          refine lv_aload_n hx hb d_Ru_placeTrailers_89 rfl (lv_at hl 2 rfl) ?_
          refine lv_aload_n hx hb d_Ru_placeTrailers_90 rfl (lv_at hl 3 rfl) ?_
          refine get_po C 1 0 (by decide) (by decide) rfl q_121 hP (x.1 1 0) (u2_k (σ := x.1) (k := 0) (b := 1) (x := (((x.1 0 0) - ((k.1 1 0) * (dX (x.1 2 0)))) - ((k.1 0 1) * (dX (x.1 2 1))))) (i := 1) (j := 0) (by decide)) d_Ru_placeTrailers_91 ?_
          refine lv_iload hx hb d_Ru_placeTrailers_94 (lv_at hl 1 rfl) ?_
          refine lv_aload_n hx hb d_Ru_placeTrailers_96 rfl (lv_at hl 3 rfl) ?_
          refine get_po C 2 0 (by decide) (by decide) rfl q_124 hP (x.1 2 0) (u2_k (σ := x.1) (k := 0) (b := 1) (x := (((x.1 0 0) - ((k.1 1 0) * (dX (x.1 2 0)))) - ((k.1 0 1) * (dX (x.1 2 1))))) (i := 2) (j := 0) (by decide)) d_Ru_placeTrailers_97 ?_
          refine csI C v_Ru_127 [.int (x.1 2 0)] [.int (k.1 1 0), .int (x.1 1 0), .ref (ad (7 + 1))] (c_Di_dy l g (x.1 2 0)) hP hS rfl rfl hl.1 (Nat.le_of_ble_eq_true rfl) ⟨Nat.le_of_ble_eq_true rfl, Nat.le_of_ble_eq_true rfl⟩ d_Ru_placeTrailers_100 ⟨Nat.zero_le _, Nat.zero_le _⟩ (fun H locs hP hS => ?_)
          refine lv_imul hx hb d_Ru_placeTrailers_103 ?_
          refine lv_isub hx hb d_Ru_placeTrailers_104 ?_
          refine lv_iload hx hb d_Ru_placeTrailers_105 (lv_at hl 0 rfl) ?_
          refine lv_aload_n hx hb d_Ru_placeTrailers_107 rfl (lv_at hl 2 rfl) ?_
          refine get_po C 2 1 (by decide) (by decide) rfl q_124 hP (x.1 2 1) (u2_k (σ := x.1) (k := 0) (b := 1) (x := (((x.1 0 0) - ((k.1 1 0) * (dX (x.1 2 0)))) - ((k.1 0 1) * (dX (x.1 2 1))))) (i := 2) (j := 1) (by decide)) d_Ru_placeTrailers_108 ?_
          refine csI C v_Ru_127 [.int (x.1 2 1)] [.int (k.1 0 1), .int ((x.1 1 0) - ((k.1 1 0) * (dY (x.1 2 0)))), .ref (ad (7 + 1))] (c_Di_dy l g (x.1 2 1)) hP hS rfl rfl hl.1 (Nat.le_of_ble_eq_true rfl) ⟨Nat.le_of_ble_eq_true rfl, Nat.le_of_ble_eq_true rfl⟩ d_Ru_placeTrailers_111 ⟨Nat.zero_le _, Nat.zero_le _⟩ (fun H locs hP hS => ?_)
          refine lv_imul hx hb d_Ru_placeTrailers_114 ?_
          refine lv_isub hx hb d_Ru_placeTrailers_115 ?_
          refine put_po C 1 1 (by decide) (by decide) rfl q_121 hP hD hS d_Ru_placeTrailers_116 (fun H locs hP hD hS => ?_)
          have hP : va_P g.1 classes (wR g ad k ((u2 (u2 x.1 0 1 (((x.1 0 0) - ((k.1 1 0) * (dX (x.1 2 0)))) - ((k.1 0 1) * (dX (x.1 2 1))))) 1 1 (((x.1 1 0) - ((k.1 1 0) * (dY (x.1 2 0)))) - ((k.1 0 1) * (dY (x.1 2 1))))), x.2.1, x.2.2.1, x.2.2.2)) H := hP
          have hD : va_D A (wR g ad k ((u2 (u2 x.1 0 1 (((x.1 0 0) - ((k.1 1 0) * (dX (x.1 2 0)))) - ((k.1 0 1) * (dX (x.1 2 1))))) 1 1 (((x.1 1 0) - ((k.1 1 0) * (dY (x.1 2 0)))) - ((k.1 0 1) * (dY (x.1 2 1))))), x.2.1, x.2.2.1, x.2.2.2)) := hD
          refine lv_iinc (v := 2) (lv' := [(1, .int 2), (5, .int (k.1 0 1)), (4, .int (k.1 1 0)), (3, .ref (ad (7 + 1))), (2, .ref (ad (7 + 0))), (0, .ref (ad 0))]) hx hb d_Ru_placeTrailers_119 hl (k := 4) rfl (by decide) (by decide) rfl (fun ls hl => ?_)
          refine lv_goto (tgt := 2) hx hb d_Ru_placeTrailers_122 (by decide) ?_
          exact ih 2 ((u2 (u2 x.1 0 1 (((x.1 0 0) - ((k.1 1 0) * (dX (x.1 2 0)))) - ((k.1 0 1) * (dX (x.1 2 1))))) 1 1 (((x.1 1 0) - ((k.1 1 0) * (dY (x.1 2 0)))) - ((k.1 0 1) * (dY (x.1 2 1))))), x.2.1, x.2.2.1, x.2.2.2) _ _ _ (by omega) (by omega) (by omega) (it_back hlt h9 (rfl)) hP hD hS (lv_sub hl [0, 5] rfl)
        · have hl : lv_has ls 6 [(1, .int 2), (0, .ref (ad 0))] := hl
          refine lv_aload_n hx hb d_Ru_placeTrailers_13 rfl (lv_at hl 1 rfl) ?_
          refine va_get (D := g.1) (ci := 4) (v := .ref (ad 6)) (C := R_Ru) (T := F_Ru) (N := 8) hx hb hw i_Ru hown hE.1 hP 0 rfl rfl 0 (by decide) (hw _ q_156) (fun _ h9 => h9) rfl d_Ru_placeTrailers_14 ?_
          refine lv_iload_n hx hb d_Ru_placeTrailers_17 rfl (lv_at hl 0 rfl) ?_
          refine lv_iconst (v := 1) hx hb d_Ru_placeTrailers_18 (by decide) ?_
          refine lv_isub hx hb d_Ru_placeTrailers_19 ?_
          refine va_aldq hx hb hE.1 hP 6 4 rfl rfl (by unfold vp_in; decide) d_Ru_placeTrailers_20 ?_
          rw [show ((2 - 1) : Int32).toNatClampNeg = 1 from by decide]
          refine lv_astore_n (lv' := [(2, .ref (ad (7 + 1))), (1, .int 2), (0, .ref (ad 0))]) hx hb d_Ru_placeTrailers_21 rfl hl (by decide) rfl (fun ls hl => ?_)
          refine lv_aload_n hx hb d_Ru_placeTrailers_22 rfl (lv_at hl 2 rfl) ?_
          refine va_get (D := g.1) (ci := 4) (v := .ref (ad 6)) (C := R_Ru) (T := F_Ru) (N := 8) hx hb hw i_Ru hown hE.1 hP 0 rfl rfl 0 (by decide) (hw _ q_156) (fun _ h9 => h9) rfl d_Ru_placeTrailers_23 ?_
          refine lv_iload_n hx hb d_Ru_placeTrailers_26 rfl (lv_at hl 1 rfl) ?_
          refine va_aldq hx hb hE.1 hP 6 4 rfl rfl (by unfold vp_in; decide) d_Ru_placeTrailers_27 ?_
          rw [show (2 : Int32).toNatClampNeg = 2 from by decide]
          refine lv_astore_n (lv' := [(3, .ref (ad (7 + 2))), (2, .ref (ad (7 + 1))), (1, .int 2), (0, .ref (ad 0))]) hx hb d_Ru_placeTrailers_28 rfl hl (by decide) rfl (fun ls hl => ?_)
          refine lv_aload_n hx hb d_Ru_placeTrailers_29 rfl (lv_at hl 3 rfl) ?_
          refine va_get (D := g.1) (ci := 4) (v := .ref (ad 1)) (C := R_Ru) (T := F_Ru) (N := 8) hx hb hw i_Ru hown hE.1 hP 0 rfl rfl 7 (by decide) (hw _ q_170) (fun _ h9 => h9) rfl d_Ru_placeTrailers_30 ?_
          refine va_get (D := g.1) (ci := 5) (v := .ref (ad 2)) (C := R_Se) (T := F_Se) (N := 9) hx hb hw i_Se hown hE.1 hP 1 rfl rfl 0 (by decide) (hw _ q_65) (fun _ h9 => h9) rfl d_Ru_placeTrailers_33 ?_
          refine lv_iload_n hx hb d_Ru_placeTrailers_36 rfl (lv_at hl 2 rfl) ?_
          refine lv_iconst (v := 1) hx hb d_Ru_placeTrailers_37 (by decide) ?_
          refine lv_isub hx hb d_Ru_placeTrailers_38 ?_
          refine va_aldq hx hb hE.1 hP 2 3 rfl rfl (by unfold vp_in; decide) d_Ru_placeTrailers_39 ?_
          rw [show ((2 - 1) : Int32).toNatClampNeg = 1 from by decide]
          refine va_get (D := g.1) (ci := 6) (v := .int (k.1 1 1)) (C := R_Sh) (T := F_Sh) (N := 5) hx hb hw i_Sh hown hE.1 hP 4 rfl rfl 1 (by decide) (hw _ q_42) (fun _ h9 => h9) rfl d_Ru_placeTrailers_40 ?_
          refine lv_istore (lv' := [(4, .int (k.1 1 1)), (3, .ref (ad (7 + 2))), (2, .ref (ad (7 + 1))), (1, .int 2), (0, .ref (ad 0))]) hx hb d_Ru_placeTrailers_43 hl (by decide) rfl (fun ls hl => ?_)
          refine lv_aload_n hx hb d_Ru_placeTrailers_45 rfl (lv_at hl 4 rfl) ?_
          refine va_get (D := g.1) (ci := 4) (v := .ref (ad 1)) (C := R_Ru) (T := F_Ru) (N := 8) hx hb hw i_Ru hown hE.1 hP 0 rfl rfl 7 (by decide) (hw _ q_170) (fun _ h9 => h9) rfl d_Ru_placeTrailers_46 ?_
          refine va_get (D := g.1) (ci := 5) (v := .ref (ad 2)) (C := R_Se) (T := F_Se) (N := 9) hx hb hw i_Se hown hE.1 hP 1 rfl rfl 0 (by decide) (hw _ q_65) (fun _ h9 => h9) rfl d_Ru_placeTrailers_49 ?_
          refine lv_iload_n hx hb d_Ru_placeTrailers_52 rfl (lv_at hl 3 rfl) ?_
          refine va_aldq hx hb hE.1 hP 2 3 rfl rfl (by unfold vp_in; decide) d_Ru_placeTrailers_53 ?_
          rw [show (2 : Int32).toNatClampNeg = 2 from by decide]
          refine va_get (D := g.1) (ci := 6) (v := .int (k.1 0 2)) (C := R_Sh) (T := F_Sh) (N := 5) hx hb hw i_Sh hown hE.1 hP 5 rfl rfl 0 (by decide) (hw _ q_40) (fun _ h9 => h9) rfl d_Ru_placeTrailers_54 ?_
          refine lv_istore (lv' := [(5, .int (k.1 0 2)), (4, .int (k.1 1 1)), (3, .ref (ad (7 + 2))), (2, .ref (ad (7 + 1))), (1, .int 2), (0, .ref (ad 0))]) hx hb d_Ru_placeTrailers_57 hl (by decide) rfl (fun ls hl => ?_)
          refine lv_aload_n hx hb d_Ru_placeTrailers_59 rfl (lv_at hl 2 rfl) ?_
          refine lv_aload_n hx hb d_Ru_placeTrailers_60 rfl (lv_at hl 3 rfl) ?_
          refine get_po C 0 1 (by decide) (by decide) rfl q_118 hP (x.1 0 1) rfl d_Ru_placeTrailers_61 ?_
          refine lv_iload hx hb d_Ru_placeTrailers_64 (lv_at hl 1 rfl) ?_
          refine lv_aload_n hx hb d_Ru_placeTrailers_66 rfl (lv_at hl 3 rfl) ?_
          refine get_po C 2 1 (by decide) (by decide) rfl q_124 hP (x.1 2 1) rfl d_Ru_placeTrailers_67 ?_
          refine csI C v_Ru_123 [.int (x.1 2 1)] [.int (k.1 1 1), .int (x.1 0 1), .ref (ad (7 + 2))] (c_Di_dx l g (x.1 2 1)) hP hS rfl rfl hl.1 (Nat.le_of_ble_eq_true rfl) ⟨Nat.le_of_ble_eq_true rfl, Nat.le_of_ble_eq_true rfl⟩ d_Ru_placeTrailers_70 ⟨Nat.zero_le _, Nat.zero_le _⟩ (fun H locs hP hS => ?_)
          refine lv_imul hx hb d_Ru_placeTrailers_73 ?_
          refine lv_isub hx hb d_Ru_placeTrailers_74 ?_
          refine lv_iload hx hb d_Ru_placeTrailers_75 (lv_at hl 0 rfl) ?_
          refine lv_aload_n hx hb d_Ru_placeTrailers_77 rfl (lv_at hl 2 rfl) ?_
          refine get_po C 2 2 (by decide) (by decide) rfl q_124 hP (x.1 2 2) rfl d_Ru_placeTrailers_78 ?_
          refine csI C v_Ru_123 [.int (x.1 2 2)] [.int (k.1 0 2), .int ((x.1 0 1) - ((k.1 1 1) * (dX (x.1 2 1)))), .ref (ad (7 + 2))] (c_Di_dx l g (x.1 2 2)) hP hS rfl rfl hl.1 (Nat.le_of_ble_eq_true rfl) ⟨Nat.le_of_ble_eq_true rfl, Nat.le_of_ble_eq_true rfl⟩ d_Ru_placeTrailers_81 ⟨Nat.zero_le _, Nat.zero_le _⟩ (fun H locs hP hS => ?_)
          refine lv_imul hx hb d_Ru_placeTrailers_84 ?_
          refine lv_isub hx hb d_Ru_placeTrailers_85 ?_
          refine put_po C 0 2 (by decide) (by decide) rfl q_118 hP hD hS d_Ru_placeTrailers_86 (fun H locs hP hD hS => ?_)
          have hP : va_P g.1 classes (wR g ad k ((u2 x.1 0 2 (((x.1 0 1) - ((k.1 1 1) * (dX (x.1 2 1)))) - ((k.1 0 2) * (dX (x.1 2 2))))), x.2.1, x.2.2.1, x.2.2.2)) H := hP
          have hD : va_D A (wR g ad k ((u2 x.1 0 2 (((x.1 0 1) - ((k.1 1 1) * (dX (x.1 2 1)))) - ((k.1 0 2) * (dX (x.1 2 2))))), x.2.1, x.2.2.1, x.2.2.2)) := hD
          refine lv_aload_n hx hb d_Ru_placeTrailers_89 rfl (lv_at hl 2 rfl) ?_
          refine lv_aload_n hx hb d_Ru_placeTrailers_90 rfl (lv_at hl 3 rfl) ?_
          refine get_po C 1 1 (by decide) (by decide) rfl q_121 hP (x.1 1 1) (u2_k (σ := x.1) (k := 0) (b := 2) (x := (((x.1 0 1) - ((k.1 1 1) * (dX (x.1 2 1)))) - ((k.1 0 2) * (dX (x.1 2 2))))) (i := 1) (j := 1) (by decide)) d_Ru_placeTrailers_91 ?_
          refine lv_iload hx hb d_Ru_placeTrailers_94 (lv_at hl 1 rfl) ?_
          refine lv_aload_n hx hb d_Ru_placeTrailers_96 rfl (lv_at hl 3 rfl) ?_
          refine get_po C 2 1 (by decide) (by decide) rfl q_124 hP (x.1 2 1) (u2_k (σ := x.1) (k := 0) (b := 2) (x := (((x.1 0 1) - ((k.1 1 1) * (dX (x.1 2 1)))) - ((k.1 0 2) * (dX (x.1 2 2))))) (i := 2) (j := 1) (by decide)) d_Ru_placeTrailers_97 ?_
          refine csI C v_Ru_127 [.int (x.1 2 1)] [.int (k.1 1 1), .int (x.1 1 1), .ref (ad (7 + 2))] (c_Di_dy l g (x.1 2 1)) hP hS rfl rfl hl.1 (Nat.le_of_ble_eq_true rfl) ⟨Nat.le_of_ble_eq_true rfl, Nat.le_of_ble_eq_true rfl⟩ d_Ru_placeTrailers_100 ⟨Nat.zero_le _, Nat.zero_le _⟩ (fun H locs hP hS => ?_)
          refine lv_imul hx hb d_Ru_placeTrailers_103 ?_
          refine lv_isub hx hb d_Ru_placeTrailers_104 ?_
          refine lv_iload hx hb d_Ru_placeTrailers_105 (lv_at hl 0 rfl) ?_
          refine lv_aload_n hx hb d_Ru_placeTrailers_107 rfl (lv_at hl 2 rfl) ?_
          refine get_po C 2 2 (by decide) (by decide) rfl q_124 hP (x.1 2 2) (u2_k (σ := x.1) (k := 0) (b := 2) (x := (((x.1 0 1) - ((k.1 1 1) * (dX (x.1 2 1)))) - ((k.1 0 2) * (dX (x.1 2 2))))) (i := 2) (j := 2) (by decide)) d_Ru_placeTrailers_108 ?_
          refine csI C v_Ru_127 [.int (x.1 2 2)] [.int (k.1 0 2), .int ((x.1 1 1) - ((k.1 1 1) * (dY (x.1 2 1)))), .ref (ad (7 + 2))] (c_Di_dy l g (x.1 2 2)) hP hS rfl rfl hl.1 (Nat.le_of_ble_eq_true rfl) ⟨Nat.le_of_ble_eq_true rfl, Nat.le_of_ble_eq_true rfl⟩ d_Ru_placeTrailers_111 ⟨Nat.zero_le _, Nat.zero_le _⟩ (fun H locs hP hS => ?_)
          refine lv_imul hx hb d_Ru_placeTrailers_114 ?_
          refine lv_isub hx hb d_Ru_placeTrailers_115 ?_
          refine put_po C 1 2 (by decide) (by decide) rfl q_121 hP hD hS d_Ru_placeTrailers_116 (fun H locs hP hD hS => ?_)
          have hP : va_P g.1 classes (wR g ad k ((u2 (u2 x.1 0 2 (((x.1 0 1) - ((k.1 1 1) * (dX (x.1 2 1)))) - ((k.1 0 2) * (dX (x.1 2 2))))) 1 2 (((x.1 1 1) - ((k.1 1 1) * (dY (x.1 2 1)))) - ((k.1 0 2) * (dY (x.1 2 2))))), x.2.1, x.2.2.1, x.2.2.2)) H := hP
          have hD : va_D A (wR g ad k ((u2 (u2 x.1 0 2 (((x.1 0 1) - ((k.1 1 1) * (dX (x.1 2 1)))) - ((k.1 0 2) * (dX (x.1 2 2))))) 1 2 (((x.1 1 1) - ((k.1 1 1) * (dY (x.1 2 1)))) - ((k.1 0 2) * (dY (x.1 2 2))))), x.2.1, x.2.2.1, x.2.2.2)) := hD
          refine lv_iinc (v := 3) (lv' := [(1, .int 3), (5, .int (k.1 0 2)), (4, .int (k.1 1 1)), (3, .ref (ad (7 + 2))), (2, .ref (ad (7 + 1))), (0, .ref (ad 0))]) hx hb d_Ru_placeTrailers_119 hl (k := 4) rfl (by decide) (by decide) rfl (fun ls hl => ?_)
          refine lv_goto (tgt := 2) hx hb d_Ru_placeTrailers_122 (by decide) ?_
          exact ih 3 ((u2 (u2 x.1 0 2 (((x.1 0 1) - ((k.1 1 1) * (dX (x.1 2 1)))) - ((k.1 0 2) * (dX (x.1 2 2))))) 1 2 (((x.1 1 1) - ((k.1 1 1) * (dY (x.1 2 1)))) - ((k.1 0 2) * (dY (x.1 2 2))))), x.2.1, x.2.2.1, x.2.2.2) _ _ _ (by omega) (by omega) (by omega) (it_back hlt h9 (rfl)) hP hD hS (lv_sub hl [0, 5] rfl)
  exact lp (n + 2) 1 _ _ _ _ (Nat.le_refl _) (by omega) (by omega) h9 hP hD hS (lv_sub hl [0, 1] rfl)
set_option maxHeartbeats 4000000 in
set_option maxRecDepth 100000 in
theorem c_Ru_measureAskew (l : Launch) (g : Glob) (ad : Nat → Nat) (k : CFG) (x : RS) (n : Nat) (hn : k.2.1 0 = nI n) (h3 : n ≤ 3) : CV l g y_Ru_measureAskew b_Ru_measureAskew 3 2 42 [.ref (ad 0)] (wR g ad k x) (wR g ad k (itF msF n 1 x)) := by
  refine CV.of (by decide +kernel) (Nat.le_of_ble_eq_true rfl) ?_
  intro p e s m below meth c A Q ls C hP hD hl hret hS
  obtain ⟨hx, hb, hml, hown, hw, hE, hA⟩ := id C
  have hl : lv_has ls 3 [(0, .ref (ad 0))] := hl
  generalize h9 : itF msF n 1 x = x9 at hret
  refine lv_iconst (v := 1) hx hb d_Ru_measureAskew_0 (by decide) ?_
  refine lv_istore_n (lv' := [(1, .int 1), (0, .ref (ad 0))]) hx hb d_Ru_measureAskew_1 rfl hl (by decide) rfl (fun ls hl => ?_)
  have lp : ∀ (j : Nat) (i : Nat) (x : RS) (H : Heap) (locs : List Loc) (ls : Array Slot), 1 ≤ i → i ≤ n + 1 → n + 1 < i + j → itF (msF) n i x = x9 → va_P g.1 classes (wR g ad k x) H → va_D A (wR g ad k x) → va_S A s.heap H locs → lv_has ls 3 [(1, .int (nI i)), (0, .ref (ad 0))] → W p l e { frames := 2, cells := 0, slots := 0, locals := 42 } s m ([.ref (ad 0)] : List Value).toArray below meth c H locs 0 0 Q (F0 m 2 ls []) := by
    intro j
    induction j with
    | zero =>
      intro i x H locs ls hlo hi hj h9 hP hD hS hl
      exact absurd trivial (by omega)
    | succ j ih =>
      intro i x H locs ls hlo hi hj h9 hP hD hS hl
      refine lv_iload_n hx hb d_Ru_measureAskew_2 rfl (lv_at hl 0 rfl) ?_
      refine lv_aload_n hx hb d_Ru_measureAskew_3 rfl (lv_at hl 1 rfl) ?_
      refine va_get (D := g.1) (ci := 4) (v := .ref (ad 1)) (C := R_Ru) (T := F_Ru) (N := 8) hx hb hw i_Ru hown hE.1 hP 0 rfl rfl 7 (by decide) (hw _ q_170) (fun _ h9 => h9) rfl d_Ru_measureAskew_4 ?_
      refine va_get (D := g.1) (ci := 5) (v := .int (k.2.1 0)) (C := R_Se) (T := F_Se) (N := 9) hx hb hw i_Se hown hE.1 hP 1 rfl rfl 3 (by decide) (hw _ q_72) (fun _ h9 => h9) rfl d_Ru_measureAskew_7 ?_
      refine lv_icmp_ge (tgt := 61) hx hb d_Ru_measureAskew_10 (by decide) (fun c10_1 => ?_) (fun c10_1 => ?_)
      · have hge := ge_of_le hn h3 hi c10_1
        have h9 := (itF_end hge).symm.trans h9
        subst h9
        exact hret _ _ _ _ _ rfl hP hD hS d_Ru_measureAskew_61
      · have hlt := lt_of_nle hn h3 hi c10_1
        rcases (show i = 1 ∨ i = 2 by omega) with rfl | rfl
        · have hl : lv_has ls 3 [(1, .int 1), (0, .ref (ad 0))] := hl
          refine lv_aload_n hx hb d_Ru_measureAskew_13 rfl (lv_at hl 1 rfl) ?_
          refine lv_iload_n hx hb d_Ru_measureAskew_14 rfl (lv_at hl 0 rfl) ?_
          refine cvI C v_Ru_140 [.int 1] [] (c_Ru_askewOf_1 l g ad k x) hP hD hS [0, 1, 2, 3, 4, 5, 6, 7, 8, 9, 10, 11, 12, 13] [] [0, 1, 2, 3, 4, 5, 6, 7, 8, 9, 10, 11, 12, 13] [] (wR g ad k x) rfl rfl (by decide) (by decide) (by decide) rfl (by decide) 0 rfl rfl rfl rfl hl.1 (Nat.le_of_ble_eq_true rfl) ⟨Nat.le_of_ble_eq_true rfl, Nat.le_of_ble_eq_true rfl⟩ d_Ru_measureAskew_15 ⟨Nat.zero_le _, Nat.zero_le _⟩ (fun H locs hP hD hS => ?_)
          refine va_mabs hx hb (hml.trans hl.1.symm) hown (hw _ q_464) (hw _ q_364) (hw _ q_16) (hw _ q_365) (Nat.le_of_ble_eq_true rfl) (Nat.le_of_ble_eq_true rfl) (Nat.zero_le _) (Nat.zero_le _) d_Ru_measureAskew_18 ?_
          refine lv_istore_n (lv' := [(2, .int (absI (askF x.1 1))), (1, .int 1), (0, .ref (ad 0))]) hx hb d_Ru_measureAskew_21 rfl hl (by decide) rfl (fun ls hl => ?_)
          refine lv_aload_n hx hb d_Ru_measureAskew_22 rfl (lv_at hl 2 rfl) ?_
          refine va_get (D := g.1) (ci := 4) (v := .ref (ad 6)) (C := R_Ru) (T := F_Ru) (N := 8) hx hb hw i_Ru hown hE.1 hP 0 rfl rfl 0 (by decide) (hw _ q_156) (fun _ h9 => h9) rfl d_Ru_measureAskew_23 ?_
          refine lv_iload_n hx hb d_Ru_measureAskew_26 rfl (lv_at hl 1 rfl) ?_
          refine va_aldq hx hb hE.1 hP 6 4 rfl rfl (by unfold vp_in; decide) d_Ru_measureAskew_27 ?_
          rw [show (1 : Int32).toNatClampNeg = 1 from by decide]
          refine lv_aload_n hx hb d_Ru_measureAskew_28 rfl (lv_at hl 2 rfl) ?_
          refine va_get (D := g.1) (ci := 4) (v := .ref (ad 6)) (C := R_Ru) (T := F_Ru) (N := 8) hx hb hw i_Ru hown hE.1 hP 0 rfl rfl 0 (by decide) (hw _ q_156) (fun _ h9 => h9) rfl d_Ru_measureAskew_29 ?_
          refine lv_iload_n hx hb d_Ru_measureAskew_32 rfl (lv_at hl 1 rfl) ?_
          refine va_aldq hx hb hE.1 hP 6 4 rfl rfl (by unfold vp_in; decide) d_Ru_measureAskew_33 ?_
          rw [show (1 : Int32).toNatClampNeg = 1 from by decide]
          refine get_po C 4 1 (by decide) (by decide) rfl q_128 hP (x.1 4 1) rfl d_Ru_measureAskew_34 ?_
          refine lv_iload_n hx hb d_Ru_measureAskew_37 rfl (lv_at hl 0 rfl) ?_
          refine va_mmax hx hb (hml.trans hl.1.symm) hown (hw _ q_465) (hw _ q_377) (hw _ q_16) (hw _ q_378) (Nat.le_of_ble_eq_true rfl) (Nat.le_of_ble_eq_true rfl) (Nat.zero_le _) (Nat.zero_le _) d_Ru_measureAskew_38 ?_
          refine put_po C 4 1 (by decide) (by decide) rfl q_128 hP hD hS d_Ru_measureAskew_41 (fun H locs hP hD hS => ?_)
          have hP : va_P g.1 classes (wR g ad k ((u2 x.1 4 1 (maxI (x.1 4 1) (absI (askF x.1 1)))), x.2.1, x.2.2.1, x.2.2.2)) H := hP
          have hD : va_D A (wR g ad k ((u2 x.1 4 1 (maxI (x.1 4 1) (absI (askF x.1 1)))), x.2.1, x.2.2.1, x.2.2.2)) := hD
          refine lv_iload_n hx hb d_Ru_measureAskew_44 rfl (lv_at hl 0 rfl) ?_
          refine lv_bipush (v := 24) hx hb d_Ru_measureAskew_45 (by decide) ?_
          refine lv_icmp_le (tgt := 55) hx hb d_Ru_measureAskew_47 (by decide) (fun c47_2 => ?_) (fun c47_2 => ?_)
          · refine lv_iinc (v := 2) (lv' := [(1, .int 2), (2, .int (absI (askF x.1 1))), (0, .ref (ad 0))]) hx hb d_Ru_measureAskew_55 hl (k := 1) rfl (by decide) (by decide) rfl (fun ls hl => ?_)
            refine lv_goto (tgt := 2) hx hb d_Ru_measureAskew_58 (by decide) ?_
            exact ih 2 ((u2 x.1 4 1 (maxI (x.1 4 1) (absI (askF x.1 1)))), x.2.1, x.2.2.1, x.2.2.2) _ _ _ (by omega) (by omega) (by omega) (it_back hlt h9 (by unfold msF; rw [if_pos c47_2])) hP hD hS (lv_sub hl [0, 2] rfl)
          · refine lv_aload_n hx hb d_Ru_measureAskew_50 rfl (lv_at hl 2 rfl) ?_
            refine lv_iconst (v := 1) hx hb d_Ru_measureAskew_51 (by decide) ?_
            refine va_put (D := g.1) (ci := 4) (v := .int 1) (ty := .boolean) (C := R_Ru) (T := F_Ru) (N := 8) hx hb hw i_Ru t_Ru t_Ru_ok n_Ru hown hE.1 hP hD hS 0 rfl rfl 3 (by decide) (hw _ q_162) (fun _ h9 => h9) rfl (by decide +kernel) rfl rfl (Nat.le_of_ble_eq_true rfl) d_Ru_measureAskew_52 (fun H locs hP hD hS => ?_)
            have hP : va_P g.1 classes (wR g ad k ((u2 x.1 4 1 (maxI (x.1 4 1) (absI (askF x.1 1)))), (upd x.2.1 1 1), x.2.2.1, x.2.2.2)) H := hP
            have hD : va_D A (wR g ad k ((u2 x.1 4 1 (maxI (x.1 4 1) (absI (askF x.1 1)))), (upd x.2.1 1 1), x.2.2.1, x.2.2.2)) := hD
            refine lv_iinc (v := 2) (lv' := [(1, .int 2), (2, .int (absI (askF x.1 1))), (0, .ref (ad 0))]) hx hb d_Ru_measureAskew_55 hl (k := 1) rfl (by decide) (by decide) rfl (fun ls hl => ?_)
            refine lv_goto (tgt := 2) hx hb d_Ru_measureAskew_58 (by decide) ?_
            exact ih 2 ((u2 x.1 4 1 (maxI (x.1 4 1) (absI (askF x.1 1)))), (upd x.2.1 1 1), x.2.2.1, x.2.2.2) _ _ _ (by omega) (by omega) (by omega) (it_back hlt h9 (by unfold msF; rw [if_neg c47_2])) hP hD hS (lv_sub hl [0, 2] rfl)
        · have hl : lv_has ls 3 [(1, .int 2), (0, .ref (ad 0))] := hl
          refine lv_aload_n hx hb d_Ru_measureAskew_13 rfl (lv_at hl 1 rfl) ?_
          refine lv_iload_n hx hb d_Ru_measureAskew_14 rfl (lv_at hl 0 rfl) ?_
          refine cvI C v_Ru_140 [.int 2] [] (c_Ru_askewOf_2 l g ad k x) hP hD hS [0, 1, 2, 3, 4, 5, 6, 7, 8, 9, 10, 11, 12, 13] [] [0, 1, 2, 3, 4, 5, 6, 7, 8, 9, 10, 11, 12, 13] [] (wR g ad k x) rfl rfl (by decide) (by decide) (by decide) rfl (by decide) 0 rfl rfl rfl rfl hl.1 (Nat.le_of_ble_eq_true rfl) ⟨Nat.le_of_ble_eq_true rfl, Nat.le_of_ble_eq_true rfl⟩ d_Ru_measureAskew_15 ⟨Nat.zero_le _, Nat.zero_le _⟩ (fun H locs hP hD hS => ?_)
          refine va_mabs hx hb (hml.trans hl.1.symm) hown (hw _ q_464) (hw _ q_364) (hw _ q_16) (hw _ q_365) (Nat.le_of_ble_eq_true rfl) (Nat.le_of_ble_eq_true rfl) (Nat.zero_le _) (Nat.zero_le _) d_Ru_measureAskew_18 ?_
          refine lv_istore_n (lv' := [(2, .int (absI (askF x.1 2))), (1, .int 2), (0, .ref (ad 0))]) hx hb d_Ru_measureAskew_21 rfl hl (by decide) rfl (fun ls hl => ?_)
          refine lv_aload_n hx hb d_Ru_measureAskew_22 rfl (lv_at hl 2 rfl) ?_
          refine va_get (D := g.1) (ci := 4) (v := .ref (ad 6)) (C := R_Ru) (T := F_Ru) (N := 8) hx hb hw i_Ru hown hE.1 hP 0 rfl rfl 0 (by decide) (hw _ q_156) (fun _ h9 => h9) rfl d_Ru_measureAskew_23 ?_
          refine lv_iload_n hx hb d_Ru_measureAskew_26 rfl (lv_at hl 1 rfl) ?_
          refine va_aldq hx hb hE.1 hP 6 4 rfl rfl (by unfold vp_in; decide) d_Ru_measureAskew_27 ?_
          rw [show (2 : Int32).toNatClampNeg = 2 from by decide]
          refine lv_aload_n hx hb d_Ru_measureAskew_28 rfl (lv_at hl 2 rfl) ?_
          refine va_get (D := g.1) (ci := 4) (v := .ref (ad 6)) (C := R_Ru) (T := F_Ru) (N := 8) hx hb hw i_Ru hown hE.1 hP 0 rfl rfl 0 (by decide) (hw _ q_156) (fun _ h9 => h9) rfl d_Ru_measureAskew_29 ?_
          refine lv_iload_n hx hb d_Ru_measureAskew_32 rfl (lv_at hl 1 rfl) ?_
          refine va_aldq hx hb hE.1 hP 6 4 rfl rfl (by unfold vp_in; decide) d_Ru_measureAskew_33 ?_
          rw [show (2 : Int32).toNatClampNeg = 2 from by decide]
          refine get_po C 4 2 (by decide) (by decide) rfl q_128 hP (x.1 4 2) rfl d_Ru_measureAskew_34 ?_
          refine lv_iload_n hx hb d_Ru_measureAskew_37 rfl (lv_at hl 0 rfl) ?_
          refine va_mmax hx hb (hml.trans hl.1.symm) hown (hw _ q_465) (hw _ q_377) (hw _ q_16) (hw _ q_378) (Nat.le_of_ble_eq_true rfl) (Nat.le_of_ble_eq_true rfl) (Nat.zero_le _) (Nat.zero_le _) d_Ru_measureAskew_38 ?_
          refine put_po C 4 2 (by decide) (by decide) rfl q_128 hP hD hS d_Ru_measureAskew_41 (fun H locs hP hD hS => ?_)
          have hP : va_P g.1 classes (wR g ad k ((u2 x.1 4 2 (maxI (x.1 4 2) (absI (askF x.1 2)))), x.2.1, x.2.2.1, x.2.2.2)) H := hP
          have hD : va_D A (wR g ad k ((u2 x.1 4 2 (maxI (x.1 4 2) (absI (askF x.1 2)))), x.2.1, x.2.2.1, x.2.2.2)) := hD
          refine lv_iload_n hx hb d_Ru_measureAskew_44 rfl (lv_at hl 0 rfl) ?_
          refine lv_bipush (v := 24) hx hb d_Ru_measureAskew_45 (by decide) ?_
          refine lv_icmp_le (tgt := 55) hx hb d_Ru_measureAskew_47 (by decide) (fun c47_3 => ?_) (fun c47_3 => ?_)
          · refine lv_iinc (v := 3) (lv' := [(1, .int 3), (2, .int (absI (askF x.1 2))), (0, .ref (ad 0))]) hx hb d_Ru_measureAskew_55 hl (k := 1) rfl (by decide) (by decide) rfl (fun ls hl => ?_)
            refine lv_goto (tgt := 2) hx hb d_Ru_measureAskew_58 (by decide) ?_
            exact ih 3 ((u2 x.1 4 2 (maxI (x.1 4 2) (absI (askF x.1 2)))), x.2.1, x.2.2.1, x.2.2.2) _ _ _ (by omega) (by omega) (by omega) (it_back hlt h9 (by unfold msF; rw [if_pos c47_3])) hP hD hS (lv_sub hl [0, 2] rfl)
          · refine lv_aload_n hx hb d_Ru_measureAskew_50 rfl (lv_at hl 2 rfl) ?_
            refine lv_iconst (v := 1) hx hb d_Ru_measureAskew_51 (by decide) ?_
            refine va_put (D := g.1) (ci := 4) (v := .int 1) (ty := .boolean) (C := R_Ru) (T := F_Ru) (N := 8) hx hb hw i_Ru t_Ru t_Ru_ok n_Ru hown hE.1 hP hD hS 0 rfl rfl 3 (by decide) (hw _ q_162) (fun _ h9 => h9) rfl (by decide +kernel) rfl rfl (Nat.le_of_ble_eq_true rfl) d_Ru_measureAskew_52 (fun H locs hP hD hS => ?_)
            have hP : va_P g.1 classes (wR g ad k ((u2 x.1 4 2 (maxI (x.1 4 2) (absI (askF x.1 2)))), (upd x.2.1 1 1), x.2.2.1, x.2.2.2)) H := hP
            have hD : va_D A (wR g ad k ((u2 x.1 4 2 (maxI (x.1 4 2) (absI (askF x.1 2)))), (upd x.2.1 1 1), x.2.2.1, x.2.2.2)) := hD
            refine lv_iinc (v := 3) (lv' := [(1, .int 3), (2, .int (absI (askF x.1 2))), (0, .ref (ad 0))]) hx hb d_Ru_measureAskew_55 hl (k := 1) rfl (by decide) (by decide) rfl (fun ls hl => ?_)
            refine lv_goto (tgt := 2) hx hb d_Ru_measureAskew_58 (by decide) ?_
            exact ih 3 ((u2 x.1 4 2 (maxI (x.1 4 2) (absI (askF x.1 2)))), (upd x.2.1 1 1), x.2.2.1, x.2.2.2) _ _ _ (by omega) (by omega) (by omega) (it_back hlt h9 (by unfold msF; rw [if_neg c47_3])) hP hD hS (lv_sub hl [0, 2] rfl)
  exact lp (n + 2) 1 _ _ _ _ (Nat.le_refl _) (by omega) (by omega) h9 hP hD hS (lv_sub hl [0, 1] rfl)
