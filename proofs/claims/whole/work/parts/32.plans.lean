set_option maxHeartbeats 4000000 in
set_option maxRecDepth 100000 in
theorem c_Pl_add (l : Launch) (g : Glob) (a0 a1 a2 a3 : Nat) (v : PLN) (n : Nat) (hn : v.2.2.2 = nI n) (h6 : n < 6) (t sp fw : Int32) (h01 : fw = 0 ∨ fw = 1) : CI l g y_Pl_add b_Pl_add 4 (some .boolean) 0 0 [.ref a0, .int t, .int sp, .int fw] (wPl g a0 a1 a2 a3 v) (1) (wPl g a0 a1 a2 a3 (addP v n t sp fw)) := by
  refine CI.of .boolean rfl rfl (by decide +kernel) (Nat.le_of_ble_eq_true rfl) ?_
  intro p e s m below meth c A Q ls C hP hD hl hret hS
  obtain ⟨hx, hb, hml, hown, hw, hE, hA⟩ := id C
  have hl : lv_has ls 4 [(0, .ref a0), (1, .int t), (2, .int sp), (3, .int fw)] := hl
  refine lv_aload_n hx hb d_Pl_add_0 rfl (lv_at hl 0 rfl) ?_
  refine va_get (D := g.1) (ci := 2) (v := .int v.2.2.2) (C := R_Pl) (T := F_Pl) (N := 4) hx hb hw i_Pl hown hE.1 hP 0 rfl rfl 3 (by decide) (hw _ q_201) (fun _ h9 => h9) rfl d_Pl_add_1 ?_
  rw [hn]
  refine lv_bipush (v := 6) hx hb d_Pl_add_4 (by decide) ?_
  refine lv_icmp_lt (tgt := 11) hx hb d_Pl_add_6 (by decide) (fun c6_1 => ?_) (fun c6_1 => ?_)
  rotate_left
  · exact absurd (nI_lt h6 (by omega)) c6_1
  refine lv_aload_n hx hb d_Pl_add_11 rfl (lv_at hl 0 rfl) ?_
  refine va_get (D := g.1) (ci := 2) (v := .ref a1) (C := R_Pl) (T := F_Pl) (N := 4) hx hb hw i_Pl hown hE.1 hP 0 rfl rfl 0 (by decide) (hw _ q_195) (fun _ h9 => h9) rfl d_Pl_add_12 ?_
  refine lv_aload_n hx hb d_Pl_add_15 rfl (lv_at hl 0 rfl) ?_
  refine va_get (D := g.1) (ci := 2) (v := .int v.2.2.2) (C := R_Pl) (T := F_Pl) (N := 4) hx hb hw i_Pl hown hE.1 hP 0 rfl rfl 3 (by decide) (hw _ q_201) (fun _ h9 => h9) rfl d_Pl_add_16 ?_
  rw [hn]
  refine lv_iload_n hx hb d_Pl_add_19 rfl (lv_at hl 1 rfl) ?_
  refine va_iast hx hb hE.1 hP hD hS 1 0 rfl rfl (vp_in_nI h6 (by omega)) d_Pl_add_20 (fun H locs hP hD hS => ?_)
  have hP : va_P g.1 classes (wPl g a0 a1 a2 a3 ((upd v.1 n t), v.2.1, v.2.2.1, v.2.2.2)) H := by have q := hP; rw [nI_clamp (show n < 2 ^ 31 by omega)] at q; exact q
  have hD : va_D A (wPl g a0 a1 a2 a3 ((upd v.1 n t), v.2.1, v.2.2.1, v.2.2.2)) := by have q := hD; rw [nI_clamp (show n < 2 ^ 31 by omega)] at q; exact q
  refine lv_aload_n hx hb d_Pl_add_21 rfl (lv_at hl 0 rfl) ?_
  refine va_get (D := g.1) (ci := 2) (v := .ref a2) (C := R_Pl) (T := F_Pl) (N := 4) hx hb hw i_Pl hown hE.1 hP 0 rfl rfl 1 (by decide) (hw _ q_197) (fun _ h9 => h9) rfl d_Pl_add_22 ?_
  refine lv_aload_n hx hb d_Pl_add_25 rfl (lv_at hl 0 rfl) ?_
  refine va_get (D := g.1) (ci := 2) (v := .int v.2.2.2) (C := R_Pl) (T := F_Pl) (N := 4) hx hb hw i_Pl hown hE.1 hP 0 rfl rfl 3 (by decide) (hw _ q_201) (fun _ h9 => h9) rfl d_Pl_add_26 ?_
  rw [hn]
  refine lv_iload_n hx hb d_Pl_add_29 rfl (lv_at hl 2 rfl) ?_
  refine va_iast hx hb hE.1 hP hD hS 2 0 rfl rfl (vp_in_nI h6 (by omega)) d_Pl_add_30 (fun H locs hP hD hS => ?_)
  have hP : va_P g.1 classes (wPl g a0 a1 a2 a3 ((upd v.1 n t), (upd v.2.1 n sp), v.2.2.1, v.2.2.2)) H := by have q := hP; rw [nI_clamp (show n < 2 ^ 31 by omega)] at q; exact q
  have hD : va_D A (wPl g a0 a1 a2 a3 ((upd v.1 n t), (upd v.2.1 n sp), v.2.2.1, v.2.2.2)) := by have q := hD; rw [nI_clamp (show n < 2 ^ 31 by omega)] at q; exact q
  refine lv_aload_n hx hb d_Pl_add_31 rfl (lv_at hl 0 rfl) ?_
  refine va_get (D := g.1) (ci := 2) (v := .ref a3) (C := R_Pl) (T := F_Pl) (N := 4) hx hb hw i_Pl hown hE.1 hP 0 rfl rfl 2 (by decide) (hw _ q_199) (fun _ h9 => h9) rfl d_Pl_add_32 ?_
  refine lv_aload_n hx hb d_Pl_add_35 rfl (lv_at hl 0 rfl) ?_
  refine va_get (D := g.1) (ci := 2) (v := .int v.2.2.2) (C := R_Pl) (T := F_Pl) (N := 4) hx hb hw i_Pl hown hE.1 hP 0 rfl rfl 3 (by decide) (hw _ q_201) (fun _ h9 => h9) rfl d_Pl_add_36 ?_
  rw [hn]
  refine lv_iload_n hx hb d_Pl_add_39 rfl (lv_at hl 3 rfl) ?_
  refine va_zast hx hb hE.1 hP hD hS 3 2 rfl rfl (vp_in_nI h6 (by omega)) d_Pl_add_40 (fun H locs hP hD hS => ?_)
  have hP : va_P g.1 classes (wPl g a0 a1 a2 a3 ((upd v.1 n t), (upd v.2.1 n sp), (upd v.2.2.1 n fw), v.2.2.2)) H := by have q := hP; rw [nI_clamp (show n < 2 ^ 31 by omega), vpn01 h01] at q; exact q
  have hD : va_D A (wPl g a0 a1 a2 a3 ((upd v.1 n t), (upd v.2.1 n sp), (upd v.2.2.1 n fw), v.2.2.2)) := by have q := hD; rw [nI_clamp (show n < 2 ^ 31 by omega), vpn01 h01] at q; exact q
  refine lv_aload_n hx hb d_Pl_add_41 rfl (lv_at hl 0 rfl) ?_
  refine lv_dup hx hb d_Pl_add_42 rfl ?_
  refine va_get (D := g.1) (ci := 2) (v := .int v.2.2.2) (C := R_Pl) (T := F_Pl) (N := 4) hx hb hw i_Pl hown hE.1 hP 0 rfl rfl 3 (by decide) (hw _ q_201) (fun _ h9 => h9) rfl d_Pl_add_43 ?_
  rw [hn]
  refine lv_iconst (v := 1) hx hb d_Pl_add_46 (by decide) ?_
  refine lv_iadd hx hb d_Pl_add_47 ?_
  refine va_put (D := g.1) (ci := 2) (v := .int ((nI n) + 1)) (ty := .int) (C := R_Pl) (T := F_Pl) (N := 4) hx hb hw i_Pl t_Pl t_Pl_ok n_Pl hown hE.1 hP hD hS 0 rfl rfl 3 (by decide) (hw _ q_201) (fun _ h9 => h9) rfl (by decide +kernel) rfl rfl (Nat.le_of_ble_eq_true rfl) d_Pl_add_48 (fun H locs hP hD hS => ?_)
  have hP : va_P g.1 classes (wPl g a0 a1 a2 a3 ((upd v.1 n t), (upd v.2.1 n sp), (upd v.2.2.1 n fw), ((nI n) + 1))) H := hP
  have hD : va_D A (wPl g a0 a1 a2 a3 ((upd v.1 n t), (upd v.2.1 n sp), (upd v.2.2.1 n fw), ((nI n) + 1))) := hD
  refine lv_iconst (v := 1) hx hb d_Pl_add_51 (by decide) ?_
  exact hret _ _ _ _ _ _ rfl rfl hP hD hS d_Pl_add_52
set_option maxHeartbeats 4000000 in
set_option maxRecDepth 100000 in
theorem c_Pl_add_r (l : Launch) (g : Glob) (a0 a1 a2 a3 : Nat) (v : PLN) (hfull : v.2.2.2 = 6) (t sp fw : Int32) : CR l g y_Pl_add b_Pl_add 4 (some .boolean) 0 0 [.ref a0, .int t, .int sp, .int fw] (wPl g a0 a1 a2 a3 v) 0 := by
  refine CR.of .boolean rfl rfl (by decide +kernel) (Nat.le_of_ble_eq_true rfl) ?_
  intro p e s m below meth c A Q ls C hP hl hret hS
  obtain ⟨hx, hb, hml, hown, hw, hE, hA⟩ := id C
  have hl : lv_has ls 4 [(0, .ref a0), (1, .int t), (2, .int sp), (3, .int fw)] := hl
  refine lv_aload_n hx hb d_Pl_add_0 rfl (lv_at hl 0 rfl) ?_
  refine va_get (D := g.1) (ci := 2) (v := .int v.2.2.2) (C := R_Pl) (T := F_Pl) (N := 4) hx hb hw i_Pl hown hE.1 hP 0 rfl rfl 3 (by decide) (hw _ q_201) (fun _ h9 => h9) rfl d_Pl_add_1 ?_
  refine lv_bipush (v := 6) hx hb d_Pl_add_4 (by decide) ?_
  refine lv_icmp_lt (tgt := 11) hx hb d_Pl_add_6 (by decide) (fun c6_1 => ?_) (fun c6_1 => ?_)
  · exact absurd c6_1 (by rw [hfull]; decide)
  refine lv_iconst (v := 0) hx hb d_Pl_add_9 (by decide) ?_
  exact hret _ _ _ _ _ rfl hS d_Pl_add_10
set_option maxHeartbeats 4000000 in
set_option maxRecDepth 100000 in
theorem c_SP_part_1 (l : Launch) (g : Glob) (hfl : l.flags = pinnedFlags ++ [noTraceFlag]) (ad : Nat → Nat) (k : CFG) (x y : RS) (q : PLS) (p0 p1 p2 p3 : Int32) (hbad : ¬ (inI p0 0 3 = 1 ∧ inI p1 (-3) 3 = 1 ∧ inI p2 1 60 = 1)) : CX l g y_SP_part b_SP_part 6 (some .int) 8 162 [.ref (ad 0), .int p0, .int p1, .int p2, .int p3] (wS g ad k x y q) R_IA := by
  refine CX.of (by decide +kernel) (Nat.le_of_ble_eq_true rfl) ?_
  intro p e s m below meth c A ls C htab hlocks hP hD hl hS
  obtain ⟨hx, hb, hml, hown, hw, hE, hA⟩ := id C
  have hH : ∀ x : Nat, x < s.heap.size → s.heap[x]? = s.heap[x]? := fun _ _ => rfl
  have hHs : s.heap.size ≤ s.heap.size := Nat.le_refl _
  have hl : lv_has ls 6 [(0, .ref (ad 0)), (1, .int p0), (2, .int p1), (3, .int p2), (4, .int p3)] := hl
  refine lv_iload_n hx hb d_SP_part_0 rfl (lv_at hl 1 rfl) ?_
  refine lv_iconst (v := 0) hx hb d_SP_part_1 (by decide) ?_
  refine lv_iconst (v := 3) hx hb d_SP_part_2 (by decide) ?_
  by_cases v0 : inI p0 0 3 = 1
  rotate_left
  · exact xsOut C htab hlocks v_SP_35 [.int p0, .int 0, .int 3] [] (c_SP_demandWithin_x l g hfl p0 0 3 v0) hH hHs rfl rfl hl.1 (Nat.le_of_ble_eq_true rfl) ⟨Nat.le_of_ble_eq_true rfl, Nat.le_of_ble_eq_true rfl⟩ ⟨Nat.le_refl _, Nat.le_refl _⟩ d_SP_part_3
  refine csU0 C v_SP_35 [.int p0, .int 0, .int 3] [] (c_SP_demandWithin l g p0 0 3 v0) hP hH hHs rfl rfl hl.1 (Nat.le_of_ble_eq_true rfl) ⟨Nat.le_of_ble_eq_true rfl, Nat.le_of_ble_eq_true rfl⟩ d_SP_part_3 ⟨Nat.zero_le _, Nat.zero_le _⟩ (fun H hP hH hHs => ?_)
  refine lv_iload_n hx hb d_SP_part_6 rfl (lv_at hl 2 rfl) ?_
  refine lv_bipush (v := (-3)) hx hb d_SP_part_7 (by decide) ?_
  refine lv_iconst (v := 3) hx hb d_SP_part_9 (by decide) ?_
  by_cases v1 : inI p1 (-3) 3 = 1
  rotate_left
  · exact xsOut C htab hlocks v_SP_35 [.int p1, .int (-3), .int 3] [] (c_SP_demandWithin_x l g hfl p1 (-3) 3 v1) hH hHs rfl rfl hl.1 (Nat.le_of_ble_eq_true rfl) ⟨Nat.le_of_ble_eq_true rfl, Nat.le_of_ble_eq_true rfl⟩ ⟨Nat.le_refl _, Nat.le_refl _⟩ d_SP_part_10
  refine csU0 C v_SP_35 [.int p1, .int (-3), .int 3] [] (c_SP_demandWithin l g p1 (-3) 3 v1) hP hH hHs rfl rfl hl.1 (Nat.le_of_ble_eq_true rfl) ⟨Nat.le_of_ble_eq_true rfl, Nat.le_of_ble_eq_true rfl⟩ d_SP_part_10 ⟨Nat.zero_le _, Nat.zero_le _⟩ (fun H hP hH hHs => ?_)
  refine lv_iload_n hx hb d_SP_part_13 rfl (lv_at hl 3 rfl) ?_
  refine lv_iconst (v := 1) hx hb d_SP_part_14 (by decide) ?_
  refine lv_bipush (v := 60) hx hb d_SP_part_15 (by decide) ?_
  by_cases v2 : inI p2 1 60 = 1
  rotate_left
  · exact xsOut C htab hlocks v_SP_35 [.int p2, .int 1, .int 60] [] (c_SP_demandWithin_x l g hfl p2 1 60 v2) hH hHs rfl rfl hl.1 (Nat.le_of_ble_eq_true rfl) ⟨Nat.le_of_ble_eq_true rfl, Nat.le_of_ble_eq_true rfl⟩ ⟨Nat.le_refl _, Nat.le_refl _⟩ d_SP_part_17
  exact absurd ⟨v0, v1, v2⟩ hbad
set_option maxHeartbeats 4000000 in
set_option maxRecDepth 100000 in
theorem c_SP_part_2_0 (l : Launch) (g : Glob) (hfl : l.flags = pinnedFlags ++ [noTraceFlag]) (ad : Nat → Nat) (k : CFG) (x y : RS) (q : PLS) (p1 p2 p3 : Int32) (v0 : inI (nI 0) 0 3 = 1) (v1 : inI p1 (-3) 3 = 1) (v2 : inI p2 1 60 = 1) (hfull : (q 0).2.2.2 = 6) : CX l g y_SP_part b_SP_part 6 (some .int) 8 162 [.ref (ad 0), .int (nI 0), .int p1, .int p2, .int p3] (wS g ad k x y q) R_IS := by
  refine CX.of (by decide +kernel) (Nat.le_of_ble_eq_true rfl) ?_
  intro p e s m below meth c A ls C htab hlocks hP hD hl hS
  obtain ⟨hx, hb, hml, hown, hw, hE, hA⟩ := id C
  have hH : ∀ x : Nat, x < s.heap.size → s.heap[x]? = s.heap[x]? := fun _ _ => rfl
  have hHs : s.heap.size ≤ s.heap.size := Nat.le_refl _
  have hl : lv_has ls 6 [(0, .ref (ad 0)), (1, .int (nI 0)), (2, .int p1), (3, .int p2), (4, .int p3)] := hl
  refine lv_iload_n hx hb d_SP_part_0 rfl (lv_at hl 1 rfl) ?_
  refine lv_iconst (v := 0) hx hb d_SP_part_1 (by decide) ?_
  refine lv_iconst (v := 3) hx hb d_SP_part_2 (by decide) ?_
  refine csU0 C v_SP_35 [.int (nI 0), .int 0, .int 3] [] (c_SP_demandWithin l g (nI 0) 0 3 v0) hP hH hHs rfl rfl hl.1 (Nat.le_of_ble_eq_true rfl) ⟨Nat.le_of_ble_eq_true rfl, Nat.le_of_ble_eq_true rfl⟩ d_SP_part_3 ⟨Nat.zero_le _, Nat.zero_le _⟩ (fun H hP hH hHs => ?_)
  refine lv_iload_n hx hb d_SP_part_6 rfl (lv_at hl 2 rfl) ?_
  refine lv_bipush (v := (-3)) hx hb d_SP_part_7 (by decide) ?_
  refine lv_iconst (v := 3) hx hb d_SP_part_9 (by decide) ?_
  refine csU0 C v_SP_35 [.int p1, .int (-3), .int 3] [] (c_SP_demandWithin l g p1 (-3) 3 v1) hP hH hHs rfl rfl hl.1 (Nat.le_of_ble_eq_true rfl) ⟨Nat.le_of_ble_eq_true rfl, Nat.le_of_ble_eq_true rfl⟩ d_SP_part_10 ⟨Nat.zero_le _, Nat.zero_le _⟩ (fun H hP hH hHs => ?_)
  refine lv_iload_n hx hb d_SP_part_13 rfl (lv_at hl 3 rfl) ?_
  refine lv_iconst (v := 1) hx hb d_SP_part_14 (by decide) ?_
  refine lv_bipush (v := 60) hx hb d_SP_part_15 (by decide) ?_
  refine csU0 C v_SP_35 [.int p2, .int 1, .int 60] [] (c_SP_demandWithin l g p2 1 60 v2) hP hH hHs rfl rfl hl.1 (Nat.le_of_ble_eq_true rfl) ⟨Nat.le_of_ble_eq_true rfl, Nat.le_of_ble_eq_true rfl⟩ d_SP_part_17 ⟨Nat.zero_le _, Nat.zero_le _⟩ (fun H hP hH hHs => ?_)
  refine lv_aload_n hx hb d_SP_part_20 rfl (lv_at hl 0 rfl) ?_
  refine va_get (D := g.1) (ci := 0) (v := .ref (ad 22)) (C := R_SP) (T := F_SP) (N := 4) hx hb hw i_SP hown hE.1 hP 0 rfl rfl 3 (by decide) (hw _ q_217) (fun _ h9 => h9) rfl d_SP_part_21 ?_
  refine lv_iload_n hx hb d_SP_part_24 rfl (lv_at hl 1 rfl) ?_
  refine va_aldq hx hb hE.1 hP 22 5 rfl rfl (by unfold vp_in; decide) d_SP_part_25 ?_
  rw [show ((nI 0) : Int32).toNatClampNeg = 0 from by decide]
  refine lv_astore (lv' := [(5, .ref (ad 23)), (0, .ref (ad 0)), (1, .int (nI 0)), (2, .int p1), (3, .int p2), (4, .int p3)]) hx hb d_SP_part_26 hl (by decide) rfl (fun ls hl => ?_)
  refine lv_aload hx hb d_SP_part_28 (lv_at hl 0 rfl) ?_
  refine lv_iload_n hx hb d_SP_part_30 rfl (lv_at hl 3 rfl) ?_
  refine lv_iload_n hx hb d_SP_part_31 rfl (lv_at hl 4 rfl) ?_
  refine lv_iload hx hb d_SP_part_32 (lv_at hl 5 rfl) ?_
  refine cvR0 C v_SP_164 [.int p1, .int p2, .int p3] [] (c_Pl_add_r l g (ad 23) (ad 24) (ad 25) (ad 26) (q 0) hfull p1 p2 p3) hP hD hH hHs [23, 24, 25, 26] rfl (by decide) 0 rfl rfl rfl rfl hl.1 (Nat.le_of_ble_eq_true rfl) ⟨Nat.le_of_ble_eq_true rfl, Nat.le_of_ble_eq_true rfl⟩ d_SP_part_34 ⟨Nat.zero_le _, Nat.zero_le _⟩ (fun H hP hH hHs => ?_)
  refine lv_if_ne (tgt := 50) hx hb d_SP_part_37 (by decide) (fun c37_1 => ?_) (fun c37_1 => ?_)
  · exact absurd c37_1 (fun z => z rfl)
  exact thr_new C htab hlocks hfl (own_all hw hE own_IS own_ISc) (by decide +kernel) q_314 q_315 q_13 hE.2.2.2.2.2.2.2.2.2.2.2.2.2.1 hH hHs hl.1 (Nat.le_of_ble_eq_true rfl) (Nat.le_of_ble_eq_true rfl) (Nat.le_refl _) (Nat.le_refl _) d_SP_part_40 d_SP_part_43 d_SP_part_44 d_SP_part_46 d_SP_part_49
set_option maxHeartbeats 4000000 in
set_option maxRecDepth 100000 in
theorem c_SP_part_0_0 (l : Launch) (g : Glob) (ad : Nat → Nat) (k : CFG) (x y : RS) (q : PLS) (p1 p2 p3 : Int32) (v0 : inI (nI 0) 0 3 = 1) (v1 : inI p1 (-3) 3 = 1) (v2 : inI p2 1 60 = 1) (n : Nat) (hn : (q 0).2.2.2 = nI n) (h6 : n < 6) (h01 : p3 = 0 ∨ p3 = 1) : CI l g y_SP_part b_SP_part 6 (some .int) 8 162 [.ref (ad 0), .int (nI 0), .int p1, .int p2, .int p3] (wS g ad k x y q) (nI n + 1) (wS g ad k x y (upQ q 0 (addP (q 0) n p1 p2 p3))) := by
  refine CI.of .int rfl rfl (by decide +kernel) (Nat.le_of_ble_eq_true rfl) ?_
  intro p e s m below meth c A Q ls C hP hD hl hret hS
  obtain ⟨hx, hb, hml, hown, hw, hE, hA⟩ := id C
  have hl : lv_has ls 6 [(0, .ref (ad 0)), (1, .int (nI 0)), (2, .int p1), (3, .int p2), (4, .int p3)] := hl
  refine lv_iload_n hx hb d_SP_part_0 rfl (lv_at hl 1 rfl) ?_
  refine lv_iconst (v := 0) hx hb d_SP_part_1 (by decide) ?_
  refine lv_iconst (v := 3) hx hb d_SP_part_2 (by decide) ?_
  refine csU C v_SP_35 [.int (nI 0), .int 0, .int 3] [] (c_SP_demandWithin l g (nI 0) 0 3 v0) hP hS rfl rfl hl.1 (Nat.le_of_ble_eq_true rfl) ⟨Nat.le_of_ble_eq_true rfl, Nat.le_of_ble_eq_true rfl⟩ d_SP_part_3 ⟨Nat.zero_le _, Nat.zero_le _⟩ (fun H locs hP hS => ?_)
  refine lv_iload_n hx hb d_SP_part_6 rfl (lv_at hl 2 rfl) ?_
  refine lv_bipush (v := (-3)) hx hb d_SP_part_7 (by decide) ?_
  refine lv_iconst (v := 3) hx hb d_SP_part_9 (by decide) ?_
  refine csU C v_SP_35 [.int p1, .int (-3), .int 3] [] (c_SP_demandWithin l g p1 (-3) 3 v1) hP hS rfl rfl hl.1 (Nat.le_of_ble_eq_true rfl) ⟨Nat.le_of_ble_eq_true rfl, Nat.le_of_ble_eq_true rfl⟩ d_SP_part_10 ⟨Nat.zero_le _, Nat.zero_le _⟩ (fun H locs hP hS => ?_)
  refine lv_iload_n hx hb d_SP_part_13 rfl (lv_at hl 3 rfl) ?_
  refine lv_iconst (v := 1) hx hb d_SP_part_14 (by decide) ?_
  refine lv_bipush (v := 60) hx hb d_SP_part_15 (by decide) ?_
  refine csU C v_SP_35 [.int p2, .int 1, .int 60] [] (c_SP_demandWithin l g p2 1 60 v2) hP hS rfl rfl hl.1 (Nat.le_of_ble_eq_true rfl) ⟨Nat.le_of_ble_eq_true rfl, Nat.le_of_ble_eq_true rfl⟩ d_SP_part_17 ⟨Nat.zero_le _, Nat.zero_le _⟩ (fun H locs hP hS => ?_)
  refine lv_aload_n hx hb d_SP_part_20 rfl (lv_at hl 0 rfl) ?_
  refine va_get (D := g.1) (ci := 0) (v := .ref (ad 22)) (C := R_SP) (T := F_SP) (N := 4) hx hb hw i_SP hown hE.1 hP 0 rfl rfl 3 (by decide) (hw _ q_217) (fun _ h9 => h9) rfl d_SP_part_21 ?_
  refine lv_iload_n hx hb d_SP_part_24 rfl (lv_at hl 1 rfl) ?_
  refine va_aldq hx hb hE.1 hP 22 5 rfl rfl (by unfold vp_in; decide) d_SP_part_25 ?_
  rw [show ((nI 0) : Int32).toNatClampNeg = 0 from by decide]
  refine lv_astore (lv' := [(5, .ref (ad 23)), (0, .ref (ad 0)), (1, .int (nI 0)), (2, .int p1), (3, .int p2), (4, .int p3)]) hx hb d_SP_part_26 hl (by decide) rfl (fun ls hl => ?_)
  refine lv_aload hx hb d_SP_part_28 (lv_at hl 0 rfl) ?_
  refine lv_iload_n hx hb d_SP_part_30 rfl (lv_at hl 3 rfl) ?_
  refine lv_iload_n hx hb d_SP_part_31 rfl (lv_at hl 4 rfl) ?_
  refine lv_iload hx hb d_SP_part_32 (lv_at hl 5 rfl) ?_
  refine cvI C v_SP_164 [.int p1, .int p2, .int p3] [] (c_Pl_add l g (ad 23) (ad 24) (ad 25) (ad 26) (q 0) n hn h6 p1 p2 p3 h01) hP hD hS [23, 24, 25, 26] [0, 1, 2, 3, 4, 5, 6, 7, 8, 9, 10, 11, 12, 13, 14, 15, 16, 17, 18, 19, 20, 21, 22, 27, 28, 29, 30, 31, 32, 33, 34, 35, 36, 37, 38] [0, 1, 2, 3, 4, 5, 6, 7, 8, 9, 10, 11, 12, 13, 14, 15, 16, 17, 18, 19, 20, 21, 22, 35, 36, 37, 38, 23, 24, 25, 26, 27, 28, 29, 30, 31, 32, 33, 34] [((ad 0), .inr (0, [.ref (ad 1), .ref (ad 8), .ref (ad 15), .ref (ad 22)])), ((ad 1), .inr (5, [.ref (ad 2), .ref (ad 6), .ref (ad 7), .int (k.2.1 0), .int (k.2.1 1), .int (k.2.1 2), .int (k.2.1 3), .int (k.2.1 4), .int (k.2.1 5)])), ((ad 2), .inl (g.2.1 3, 3, .inr (.inr (.inr (.inr (fun j => [ad 3, ad 4, ad 5][j]?)))))), ((ad 3), .inr (6, [.int (k.1 0 0), .int (k.1 1 0), .int (k.1 2 0), .int (k.1 3 0), .int (k.1 4 0)])), ((ad 4), .inr (6, [.int (k.1 0 1), .int (k.1 1 1), .int (k.1 2 1), .int (k.1 3 1), .int (k.1 4 1)])), ((ad 5), .inr (6, [.int (k.1 0 2), .int (k.1 1 2), .int (k.1 2 2), .int (k.1 3 2), .int (k.1 4 2)])), ((ad 6), .inl (g.2.1 0, 20, .inl k.2.2.1)), ((ad 7), .inl (g.2.1 0, 20, .inl k.2.2.2)), ((ad 8), .inr (4, [.ref (ad 9), .ref (ad 13), .int (x.2.1 0), .int (x.2.1 1), .int (x.2.1 2), .int (x.2.1 3), .int (x.2.1 4), .ref (ad 1)])), ((ad 9), .inl (g.2.1 4, 3, .inr (.inr (.inr (.inr (fun j => [ad 10, ad 11, ad 12][j]?)))))), ((ad 10), .inr (3, [.int (x.1 0 0), .int (x.1 1 0), .int (x.1 2 0), .int (x.1 3 0), .int (x.1 4 0)])), ((ad 11), .inr (3, [.int (x.1 0 1), .int (x.1 1 1), .int (x.1 2 1), .int (x.1 3 1), .int (x.1 4 1)])), ((ad 12), .inr (3, [.int (x.1 0 2), .int (x.1 1 2), .int (x.1 2 2), .int (x.1 3 2), .int (x.1 4 2)])), ((ad 13), .inr (1, [.ref (ad 14), .int x.2.2.1])), ((ad 14), .inl (g.2.1 1, 64, .inr (.inl x.2.2.2))), ((ad 15), .inr (4, [.ref (ad 16), .ref (ad 20), .int (y.2.1 0), .int (y.2.1 1), .int (y.2.1 2), .int (y.2.1 3), .int (y.2.1 4), .ref (ad 1)])), ((ad 16), .inl (g.2.1 4, 3, .inr (.inr (.inr (.inr (fun j => [ad 17, ad 18, ad 19][j]?)))))), ((ad 17), .inr (3, [.int (y.1 0 0), .int (y.1 1 0), .int (y.1 2 0), .int (y.1 3 0), .int (y.1 4 0)])), ((ad 18), .inr (3, [.int (y.1 0 1), .int (y.1 1 1), .int (y.1 2 1), .int (y.1 3 1), .int (y.1 4 1)])), ((ad 19), .inr (3, [.int (y.1 0 2), .int (y.1 1 2), .int (y.1 2 2), .int (y.1 3 2), .int (y.1 4 2)])), ((ad 20), .inr (1, [.ref (ad 21), .int y.2.2.1])), ((ad 21), .inl (g.2.1 1, 64, .inr (.inl y.2.2.2))), ((ad 22), .inl (g.2.1 5, 4, .inr (.inr (.inr (.inr (fun j => [ad 23, ad 27, ad 31, ad 35][j]?)))))), ((ad 27), .inr (2, [.ref (ad 28), .ref (ad 29), .ref (ad 30), .int ((q 1).2.2.2)])), ((ad 28), .inl (g.2.1 0, 6, .inl ((q 1).1))), ((ad 29), .inl (g.2.1 0, 6, .inl ((q 1).2.1))), ((ad 30), .inl (g.2.1 2, 6, .inl ((q 1).2.2.1))), ((ad 31), .inr (2, [.ref (ad 32), .ref (ad 33), .ref (ad 34), .int ((q 2).2.2.2)])), ((ad 32), .inl (g.2.1 0, 6, .inl ((q 2).1))), ((ad 33), .inl (g.2.1 0, 6, .inl ((q 2).2.1))), ((ad 34), .inl (g.2.1 2, 6, .inl ((q 2).2.2.1))), ((ad 35), .inr (2, [.ref (ad 36), .ref (ad 37), .ref (ad 38), .int ((q 3).2.2.2)])), ((ad 36), .inl (g.2.1 0, 6, .inl ((q 3).1))), ((ad 37), .inl (g.2.1 0, 6, .inl ((q 3).2.1))), ((ad 38), .inl (g.2.1 2, 6, .inl ((q 3).2.2.1)))] (wS g ad k x y (upQ q 0 (addP (q 0) n p1 p2 p3))) rfl rfl (by decide) (by decide) (by decide) rfl (by decide) 0 rfl rfl rfl rfl hl.1 (Nat.le_of_ble_eq_true rfl) ⟨Nat.le_of_ble_eq_true rfl, Nat.le_of_ble_eq_true rfl⟩ d_SP_part_34 ⟨Nat.zero_le _, Nat.zero_le _⟩ (fun H locs hP hD hS => ?_)
  refine lv_if_ne (tgt := 50) hx hb d_SP_part_37 (by decide) (fun c37_1 => ?_) (fun c37_1 => ?_)
  rotate_left
  · exact absurd c37_1 (by decide)
  refine lv_aload hx hb d_SP_part_50 (lv_at hl 0 rfl) ?_
  refine va_get (D := g.1) (ci := 2) (v := .int ((addP (q 0) n p1 p2 p3).2.2.2)) (C := R_Pl) (T := F_Pl) (N := 4) hx hb hw i_Pl hown hE.1 hP 23 rfl rfl 3 (by decide) (hw _ q_203) (fun _ h9 => h9) rfl d_SP_part_52 ?_
  exact hret _ _ _ _ _ _ rfl rfl hP hD hS d_SP_part_55
set_option maxHeartbeats 4000000 in
set_option maxRecDepth 100000 in
theorem c_SP_part_2_1 (l : Launch) (g : Glob) (hfl : l.flags = pinnedFlags ++ [noTraceFlag]) (ad : Nat → Nat) (k : CFG) (x y : RS) (q : PLS) (p1 p2 p3 : Int32) (v0 : inI (nI 1) 0 3 = 1) (v1 : inI p1 (-3) 3 = 1) (v2 : inI p2 1 60 = 1) (hfull : (q 1).2.2.2 = 6) : CX l g y_SP_part b_SP_part 6 (some .int) 8 162 [.ref (ad 0), .int (nI 1), .int p1, .int p2, .int p3] (wS g ad k x y q) R_IS := by
  refine CX.of (by decide +kernel) (Nat.le_of_ble_eq_true rfl) ?_
  intro p e s m below meth c A ls C htab hlocks hP hD hl hS
  obtain ⟨hx, hb, hml, hown, hw, hE, hA⟩ := id C
  have hH : ∀ x : Nat, x < s.heap.size → s.heap[x]? = s.heap[x]? := fun _ _ => rfl
  have hHs : s.heap.size ≤ s.heap.size := Nat.le_refl _
  have hl : lv_has ls 6 [(0, .ref (ad 0)), (1, .int (nI 1)), (2, .int p1), (3, .int p2), (4, .int p3)] := hl
  refine lv_iload_n hx hb d_SP_part_0 rfl (lv_at hl 1 rfl) ?_
  refine lv_iconst (v := 0) hx hb d_SP_part_1 (by decide) ?_
  refine lv_iconst (v := 3) hx hb d_SP_part_2 (by decide) ?_
  refine csU0 C v_SP_35 [.int (nI 1), .int 0, .int 3] [] (c_SP_demandWithin l g (nI 1) 0 3 v0) hP hH hHs rfl rfl hl.1 (Nat.le_of_ble_eq_true rfl) ⟨Nat.le_of_ble_eq_true rfl, Nat.le_of_ble_eq_true rfl⟩ d_SP_part_3 ⟨Nat.zero_le _, Nat.zero_le _⟩ (fun H hP hH hHs => ?_)
  refine lv_iload_n hx hb d_SP_part_6 rfl (lv_at hl 2 rfl) ?_
  refine lv_bipush (v := (-3)) hx hb d_SP_part_7 (by decide) ?_
  refine lv_iconst (v := 3) hx hb d_SP_part_9 (by decide) ?_
  refine csU0 C v_SP_35 [.int p1, .int (-3), .int 3] [] (c_SP_demandWithin l g p1 (-3) 3 v1) hP hH hHs rfl rfl hl.1 (Nat.le_of_ble_eq_true rfl) ⟨Nat.le_of_ble_eq_true rfl, Nat.le_of_ble_eq_true rfl⟩ d_SP_part_10 ⟨Nat.zero_le _, Nat.zero_le _⟩ (fun H hP hH hHs => ?_)
  refine lv_iload_n hx hb d_SP_part_13 rfl (lv_at hl 3 rfl) ?_
  refine lv_iconst (v := 1) hx hb d_SP_part_14 (by decide) ?_
  refine lv_bipush (v := 60) hx hb d_SP_part_15 (by decide) ?_
  refine csU0 C v_SP_35 [.int p2, .int 1, .int 60] [] (c_SP_demandWithin l g p2 1 60 v2) hP hH hHs rfl rfl hl.1 (Nat.le_of_ble_eq_true rfl) ⟨Nat.le_of_ble_eq_true rfl, Nat.le_of_ble_eq_true rfl⟩ d_SP_part_17 ⟨Nat.zero_le _, Nat.zero_le _⟩ (fun H hP hH hHs => ?_)
  refine lv_aload_n hx hb d_SP_part_20 rfl (lv_at hl 0 rfl) ?_
  refine va_get (D := g.1) (ci := 0) (v := .ref (ad 22)) (C := R_SP) (T := F_SP) (N := 4) hx hb hw i_SP hown hE.1 hP 0 rfl rfl 3 (by decide) (hw _ q_217) (fun _ h9 => h9) rfl d_SP_part_21 ?_
  refine lv_iload_n hx hb d_SP_part_24 rfl (lv_at hl 1 rfl) ?_
  refine va_aldq hx hb hE.1 hP 22 5 rfl rfl (by unfold vp_in; decide) d_SP_part_25 ?_
  rw [show ((nI 1) : Int32).toNatClampNeg = 1 from by decide]
  refine lv_astore (lv' := [(5, .ref (ad 27)), (0, .ref (ad 0)), (1, .int (nI 1)), (2, .int p1), (3, .int p2), (4, .int p3)]) hx hb d_SP_part_26 hl (by decide) rfl (fun ls hl => ?_)
  refine lv_aload hx hb d_SP_part_28 (lv_at hl 0 rfl) ?_
  refine lv_iload_n hx hb d_SP_part_30 rfl (lv_at hl 3 rfl) ?_
  refine lv_iload_n hx hb d_SP_part_31 rfl (lv_at hl 4 rfl) ?_
  refine lv_iload hx hb d_SP_part_32 (lv_at hl 5 rfl) ?_
  refine cvR0 C v_SP_164 [.int p1, .int p2, .int p3] [] (c_Pl_add_r l g (ad 27) (ad 28) (ad 29) (ad 30) (q 1) hfull p1 p2 p3) hP hD hH hHs [27, 28, 29, 30] rfl (by decide) 0 rfl rfl rfl rfl hl.1 (Nat.le_of_ble_eq_true rfl) ⟨Nat.le_of_ble_eq_true rfl, Nat.le_of_ble_eq_true rfl⟩ d_SP_part_34 ⟨Nat.zero_le _, Nat.zero_le _⟩ (fun H hP hH hHs => ?_)
  refine lv_if_ne (tgt := 50) hx hb d_SP_part_37 (by decide) (fun c37_1 => ?_) (fun c37_1 => ?_)
  · exact absurd c37_1 (fun z => z rfl)
  exact thr_new C htab hlocks hfl (own_all hw hE own_IS own_ISc) (by decide +kernel) q_314 q_315 q_13 hE.2.2.2.2.2.2.2.2.2.2.2.2.2.1 hH hHs hl.1 (Nat.le_of_ble_eq_true rfl) (Nat.le_of_ble_eq_true rfl) (Nat.le_refl _) (Nat.le_refl _) d_SP_part_40 d_SP_part_43 d_SP_part_44 d_SP_part_46 d_SP_part_49
set_option maxHeartbeats 4000000 in
set_option maxRecDepth 100000 in
theorem c_SP_part_0_1 (l : Launch) (g : Glob) (ad : Nat → Nat) (k : CFG) (x y : RS) (q : PLS) (p1 p2 p3 : Int32) (v0 : inI (nI 1) 0 3 = 1) (v1 : inI p1 (-3) 3 = 1) (v2 : inI p2 1 60 = 1) (n : Nat) (hn : (q 1).2.2.2 = nI n) (h6 : n < 6) (h01 : p3 = 0 ∨ p3 = 1) : CI l g y_SP_part b_SP_part 6 (some .int) 8 162 [.ref (ad 0), .int (nI 1), .int p1, .int p2, .int p3] (wS g ad k x y q) (nI n + 1) (wS g ad k x y (upQ q 1 (addP (q 1) n p1 p2 p3))) := by
  refine CI.of .int rfl rfl (by decide +kernel) (Nat.le_of_ble_eq_true rfl) ?_
  intro p e s m below meth c A Q ls C hP hD hl hret hS
  obtain ⟨hx, hb, hml, hown, hw, hE, hA⟩ := id C
  have hl : lv_has ls 6 [(0, .ref (ad 0)), (1, .int (nI 1)), (2, .int p1), (3, .int p2), (4, .int p3)] := hl
  refine lv_iload_n hx hb d_SP_part_0 rfl (lv_at hl 1 rfl) ?_
  refine lv_iconst (v := 0) hx hb d_SP_part_1 (by decide) ?_
  refine lv_iconst (v := 3) hx hb d_SP_part_2 (by decide) ?_
  refine csU C v_SP_35 [.int (nI 1), .int 0, .int 3] [] (c_SP_demandWithin l g (nI 1) 0 3 v0) hP hS rfl rfl hl.1 (Nat.le_of_ble_eq_true rfl) ⟨Nat.le_of_ble_eq_true rfl, Nat.le_of_ble_eq_true rfl⟩ d_SP_part_3 ⟨Nat.zero_le _, Nat.zero_le _⟩ (fun H locs hP hS => ?_)
  refine lv_iload_n hx hb d_SP_part_6 rfl (lv_at hl 2 rfl) ?_
  refine lv_bipush (v := (-3)) hx hb d_SP_part_7 (by decide) ?_
  refine lv_iconst (v := 3) hx hb d_SP_part_9 (by decide) ?_
  refine csU C v_SP_35 [.int p1, .int (-3), .int 3] [] (c_SP_demandWithin l g p1 (-3) 3 v1) hP hS rfl rfl hl.1 (Nat.le_of_ble_eq_true rfl) ⟨Nat.le_of_ble_eq_true rfl, Nat.le_of_ble_eq_true rfl⟩ d_SP_part_10 ⟨Nat.zero_le _, Nat.zero_le _⟩ (fun H locs hP hS => ?_)
  refine lv_iload_n hx hb d_SP_part_13 rfl (lv_at hl 3 rfl) ?_
  refine lv_iconst (v := 1) hx hb d_SP_part_14 (by decide) ?_
  refine lv_bipush (v := 60) hx hb d_SP_part_15 (by decide) ?_
  refine csU C v_SP_35 [.int p2, .int 1, .int 60] [] (c_SP_demandWithin l g p2 1 60 v2) hP hS rfl rfl hl.1 (Nat.le_of_ble_eq_true rfl) ⟨Nat.le_of_ble_eq_true rfl, Nat.le_of_ble_eq_true rfl⟩ d_SP_part_17 ⟨Nat.zero_le _, Nat.zero_le _⟩ (fun H locs hP hS => ?_)
  refine lv_aload_n hx hb d_SP_part_20 rfl (lv_at hl 0 rfl) ?_
  refine va_get (D := g.1) (ci := 0) (v := .ref (ad 22)) (C := R_SP) (T := F_SP) (N := 4) hx hb hw i_SP hown hE.1 hP 0 rfl rfl 3 (by decide) (hw _ q_217) (fun _ h9 => h9) rfl d_SP_part_21 ?_
  refine lv_iload_n hx hb d_SP_part_24 rfl (lv_at hl 1 rfl) ?_
  refine va_aldq hx hb hE.1 hP 22 5 rfl rfl (by unfold vp_in; decide) d_SP_part_25 ?_
  rw [show ((nI 1) : Int32).toNatClampNeg = 1 from by decide]
  refine lv_astore (lv' := [(5, .ref (ad 27)), (0, .ref (ad 0)), (1, .int (nI 1)), (2, .int p1), (3, .int p2), (4, .int p3)]) hx hb d_SP_part_26 hl (by decide) rfl (fun ls hl => ?_)
  refine lv_aload hx hb d_SP_part_28 (lv_at hl 0 rfl) ?_
  refine lv_iload_n hx hb d_SP_part_30 rfl (lv_at hl 3 rfl) ?_
  refine lv_iload_n hx hb d_SP_part_31 rfl (lv_at hl 4 rfl) ?_
  refine lv_iload hx hb d_SP_part_32 (lv_at hl 5 rfl) ?_
  refine cvI C v_SP_164 [.int p1, .int p2, .int p3] [] (c_Pl_add l g (ad 27) (ad 28) (ad 29) (ad 30) (q 1) n hn h6 p1 p2 p3 h01) hP hD hS [27, 28, 29, 30] [0, 1, 2, 3, 4, 5, 6, 7, 8, 9, 10, 11, 12, 13, 14, 15, 16, 17, 18, 19, 20, 21, 22, 23, 24, 25, 26, 31, 32, 33, 34, 35, 36, 37, 38] [0, 1, 2, 3, 4, 5, 6, 7, 8, 9, 10, 11, 12, 13, 14, 15, 16, 17, 18, 19, 20, 21, 22, 23, 24, 25, 26, 35, 36, 37, 38, 27, 28, 29, 30, 31, 32, 33, 34] [((ad 0), .inr (0, [.ref (ad 1), .ref (ad 8), .ref (ad 15), .ref (ad 22)])), ((ad 1), .inr (5, [.ref (ad 2), .ref (ad 6), .ref (ad 7), .int (k.2.1 0), .int (k.2.1 1), .int (k.2.1 2), .int (k.2.1 3), .int (k.2.1 4), .int (k.2.1 5)])), ((ad 2), .inl (g.2.1 3, 3, .inr (.inr (.inr (.inr (fun j => [ad 3, ad 4, ad 5][j]?)))))), ((ad 3), .inr (6, [.int (k.1 0 0), .int (k.1 1 0), .int (k.1 2 0), .int (k.1 3 0), .int (k.1 4 0)])), ((ad 4), .inr (6, [.int (k.1 0 1), .int (k.1 1 1), .int (k.1 2 1), .int (k.1 3 1), .int (k.1 4 1)])), ((ad 5), .inr (6, [.int (k.1 0 2), .int (k.1 1 2), .int (k.1 2 2), .int (k.1 3 2), .int (k.1 4 2)])), ((ad 6), .inl (g.2.1 0, 20, .inl k.2.2.1)), ((ad 7), .inl (g.2.1 0, 20, .inl k.2.2.2)), ((ad 8), .inr (4, [.ref (ad 9), .ref (ad 13), .int (x.2.1 0), .int (x.2.1 1), .int (x.2.1 2), .int (x.2.1 3), .int (x.2.1 4), .ref (ad 1)])), ((ad 9), .inl (g.2.1 4, 3, .inr (.inr (.inr (.inr (fun j => [ad 10, ad 11, ad 12][j]?)))))), ((ad 10), .inr (3, [.int (x.1 0 0), .int (x.1 1 0), .int (x.1 2 0), .int (x.1 3 0), .int (x.1 4 0)])), ((ad 11), .inr (3, [.int (x.1 0 1), .int (x.1 1 1), .int (x.1 2 1), .int (x.1 3 1), .int (x.1 4 1)])), ((ad 12), .inr (3, [.int (x.1 0 2), .int (x.1 1 2), .int (x.1 2 2), .int (x.1 3 2), .int (x.1 4 2)])), ((ad 13), .inr (1, [.ref (ad 14), .int x.2.2.1])), ((ad 14), .inl (g.2.1 1, 64, .inr (.inl x.2.2.2))), ((ad 15), .inr (4, [.ref (ad 16), .ref (ad 20), .int (y.2.1 0), .int (y.2.1 1), .int (y.2.1 2), .int (y.2.1 3), .int (y.2.1 4), .ref (ad 1)])), ((ad 16), .inl (g.2.1 4, 3, .inr (.inr (.inr (.inr (fun j => [ad 17, ad 18, ad 19][j]?)))))), ((ad 17), .inr (3, [.int (y.1 0 0), .int (y.1 1 0), .int (y.1 2 0), .int (y.1 3 0), .int (y.1 4 0)])), ((ad 18), .inr (3, [.int (y.1 0 1), .int (y.1 1 1), .int (y.1 2 1), .int (y.1 3 1), .int (y.1 4 1)])), ((ad 19), .inr (3, [.int (y.1 0 2), .int (y.1 1 2), .int (y.1 2 2), .int (y.1 3 2), .int (y.1 4 2)])), ((ad 20), .inr (1, [.ref (ad 21), .int y.2.2.1])), ((ad 21), .inl (g.2.1 1, 64, .inr (.inl y.2.2.2))), ((ad 22), .inl (g.2.1 5, 4, .inr (.inr (.inr (.inr (fun j => [ad 23, ad 27, ad 31, ad 35][j]?)))))), ((ad 23), .inr (2, [.ref (ad 24), .ref (ad 25), .ref (ad 26), .int ((q 0).2.2.2)])), ((ad 24), .inl (g.2.1 0, 6, .inl ((q 0).1))), ((ad 25), .inl (g.2.1 0, 6, .inl ((q 0).2.1))), ((ad 26), .inl (g.2.1 2, 6, .inl ((q 0).2.2.1))), ((ad 31), .inr (2, [.ref (ad 32), .ref (ad 33), .ref (ad 34), .int ((q 2).2.2.2)])), ((ad 32), .inl (g.2.1 0, 6, .inl ((q 2).1))), ((ad 33), .inl (g.2.1 0, 6, .inl ((q 2).2.1))), ((ad 34), .inl (g.2.1 2, 6, .inl ((q 2).2.2.1))), ((ad 35), .inr (2, [.ref (ad 36), .ref (ad 37), .ref (ad 38), .int ((q 3).2.2.2)])), ((ad 36), .inl (g.2.1 0, 6, .inl ((q 3).1))), ((ad 37), .inl (g.2.1 0, 6, .inl ((q 3).2.1))), ((ad 38), .inl (g.2.1 2, 6, .inl ((q 3).2.2.1)))] (wS g ad k x y (upQ q 1 (addP (q 1) n p1 p2 p3))) rfl rfl (by decide) (by decide) (by decide) rfl (by decide) 0 rfl rfl rfl rfl hl.1 (Nat.le_of_ble_eq_true rfl) ⟨Nat.le_of_ble_eq_true rfl, Nat.le_of_ble_eq_true rfl⟩ d_SP_part_34 ⟨Nat.zero_le _, Nat.zero_le _⟩ (fun H locs hP hD hS => ?_)
  refine lv_if_ne (tgt := 50) hx hb d_SP_part_37 (by decide) (fun c37_1 => ?_) (fun c37_1 => ?_)
  rotate_left
  · exact absurd c37_1 (by decide)
  refine lv_aload hx hb d_SP_part_50 (lv_at hl 0 rfl) ?_
  refine va_get (D := g.1) (ci := 2) (v := .int ((addP (q 1) n p1 p2 p3).2.2.2)) (C := R_Pl) (T := F_Pl) (N := 4) hx hb hw i_Pl hown hE.1 hP 27 rfl rfl 3 (by decide) (hw _ q_203) (fun _ h9 => h9) rfl d_SP_part_52 ?_
  exact hret _ _ _ _ _ _ rfl rfl hP hD hS d_SP_part_55
set_option maxHeartbeats 4000000 in
set_option maxRecDepth 100000 in
theorem c_SP_part_2_2 (l : Launch) (g : Glob) (hfl : l.flags = pinnedFlags ++ [noTraceFlag]) (ad : Nat → Nat) (k : CFG) (x y : RS) (q : PLS) (p1 p2 p3 : Int32) (v0 : inI (nI 2) 0 3 = 1) (v1 : inI p1 (-3) 3 = 1) (v2 : inI p2 1 60 = 1) (hfull : (q 2).2.2.2 = 6) : CX l g y_SP_part b_SP_part 6 (some .int) 8 162 [.ref (ad 0), .int (nI 2), .int p1, .int p2, .int p3] (wS g ad k x y q) R_IS := by
  refine CX.of (by decide +kernel) (Nat.le_of_ble_eq_true rfl) ?_
  intro p e s m below meth c A ls C htab hlocks hP hD hl hS
  obtain ⟨hx, hb, hml, hown, hw, hE, hA⟩ := id C
  have hH : ∀ x : Nat, x < s.heap.size → s.heap[x]? = s.heap[x]? := fun _ _ => rfl
  have hHs : s.heap.size ≤ s.heap.size := Nat.le_refl _
  have hl : lv_has ls 6 [(0, .ref (ad 0)), (1, .int (nI 2)), (2, .int p1), (3, .int p2), (4, .int p3)] := hl
  refine lv_iload_n hx hb d_SP_part_0 rfl (lv_at hl 1 rfl) ?_
  refine lv_iconst (v := 0) hx hb d_SP_part_1 (by decide) ?_
  refine lv_iconst (v := 3) hx hb d_SP_part_2 (by decide) ?_
  refine csU0 C v_SP_35 [.int (nI 2), .int 0, .int 3] [] (c_SP_demandWithin l g (nI 2) 0 3 v0) hP hH hHs rfl rfl hl.1 (Nat.le_of_ble_eq_true rfl) ⟨Nat.le_of_ble_eq_true rfl, Nat.le_of_ble_eq_true rfl⟩ d_SP_part_3 ⟨Nat.zero_le _, Nat.zero_le _⟩ (fun H hP hH hHs => ?_)
  refine lv_iload_n hx hb d_SP_part_6 rfl (lv_at hl 2 rfl) ?_
  refine lv_bipush (v := (-3)) hx hb d_SP_part_7 (by decide) ?_
  refine lv_iconst (v := 3) hx hb d_SP_part_9 (by decide) ?_
  refine csU0 C v_SP_35 [.int p1, .int (-3), .int 3] [] (c_SP_demandWithin l g p1 (-3) 3 v1) hP hH hHs rfl rfl hl.1 (Nat.le_of_ble_eq_true rfl) ⟨Nat.le_of_ble_eq_true rfl, Nat.le_of_ble_eq_true rfl⟩ d_SP_part_10 ⟨Nat.zero_le _, Nat.zero_le _⟩ (fun H hP hH hHs => ?_)
  refine lv_iload_n hx hb d_SP_part_13 rfl (lv_at hl 3 rfl) ?_
  refine lv_iconst (v := 1) hx hb d_SP_part_14 (by decide) ?_
  refine lv_bipush (v := 60) hx hb d_SP_part_15 (by decide) ?_
  refine csU0 C v_SP_35 [.int p2, .int 1, .int 60] [] (c_SP_demandWithin l g p2 1 60 v2) hP hH hHs rfl rfl hl.1 (Nat.le_of_ble_eq_true rfl) ⟨Nat.le_of_ble_eq_true rfl, Nat.le_of_ble_eq_true rfl⟩ d_SP_part_17 ⟨Nat.zero_le _, Nat.zero_le _⟩ (fun H hP hH hHs => ?_)
  refine lv_aload_n hx hb d_SP_part_20 rfl (lv_at hl 0 rfl) ?_
  refine va_get (D := g.1) (ci := 0) (v := .ref (ad 22)) (C := R_SP) (T := F_SP) (N := 4) hx hb hw i_SP hown hE.1 hP 0 rfl rfl 3 (by decide) (hw _ q_217) (fun _ h9 => h9) rfl d_SP_part_21 ?_
  refine lv_iload_n hx hb d_SP_part_24 rfl (lv_at hl 1 rfl) ?_
  refine va_aldq hx hb hE.1 hP 22 5 rfl rfl (by unfold vp_in; decide) d_SP_part_25 ?_
  rw [show ((nI 2) : Int32).toNatClampNeg = 2 from by decide]
  refine lv_astore (lv' := [(5, .ref (ad 31)), (0, .ref (ad 0)), (1, .int (nI 2)), (2, .int p1), (3, .int p2), (4, .int p3)]) hx hb d_SP_part_26 hl (by decide) rfl (fun ls hl => ?_)
  refine lv_aload hx hb d_SP_part_28 (lv_at hl 0 rfl) ?_
  refine lv_iload_n hx hb d_SP_part_30 rfl (lv_at hl 3 rfl) ?_
  refine lv_iload_n hx hb d_SP_part_31 rfl (lv_at hl 4 rfl) ?_
  refine lv_iload hx hb d_SP_part_32 (lv_at hl 5 rfl) ?_
  refine cvR0 C v_SP_164 [.int p1, .int p2, .int p3] [] (c_Pl_add_r l g (ad 31) (ad 32) (ad 33) (ad 34) (q 2) hfull p1 p2 p3) hP hD hH hHs [31, 32, 33, 34] rfl (by decide) 0 rfl rfl rfl rfl hl.1 (Nat.le_of_ble_eq_true rfl) ⟨Nat.le_of_ble_eq_true rfl, Nat.le_of_ble_eq_true rfl⟩ d_SP_part_34 ⟨Nat.zero_le _, Nat.zero_le _⟩ (fun H hP hH hHs => ?_)
  refine lv_if_ne (tgt := 50) hx hb d_SP_part_37 (by decide) (fun c37_1 => ?_) (fun c37_1 => ?_)
  · exact absurd c37_1 (fun z => z rfl)
  exact thr_new C htab hlocks hfl (own_all hw hE own_IS own_ISc) (by decide +kernel) q_314 q_315 q_13 hE.2.2.2.2.2.2.2.2.2.2.2.2.2.1 hH hHs hl.1 (Nat.le_of_ble_eq_true rfl) (Nat.le_of_ble_eq_true rfl) (Nat.le_refl _) (Nat.le_refl _) d_SP_part_40 d_SP_part_43 d_SP_part_44 d_SP_part_46 d_SP_part_49
set_option maxHeartbeats 4000000 in
set_option maxRecDepth 100000 in
theorem c_SP_part_0_2 (l : Launch) (g : Glob) (ad : Nat → Nat) (k : CFG) (x y : RS) (q : PLS) (p1 p2 p3 : Int32) (v0 : inI (nI 2) 0 3 = 1) (v1 : inI p1 (-3) 3 = 1) (v2 : inI p2 1 60 = 1) (n : Nat) (hn : (q 2).2.2.2 = nI n) (h6 : n < 6) (h01 : p3 = 0 ∨ p3 = 1) : CI l g y_SP_part b_SP_part 6 (some .int) 8 162 [.ref (ad 0), .int (nI 2), .int p1, .int p2, .int p3] (wS g ad k x y q) (nI n + 1) (wS g ad k x y (upQ q 2 (addP (q 2) n p1 p2 p3))) := by
  refine CI.of .int rfl rfl (by decide +kernel) (Nat.le_of_ble_eq_true rfl) ?_
  intro p e s m below meth c A Q ls C hP hD hl hret hS
  obtain ⟨hx, hb, hml, hown, hw, hE, hA⟩ := id C
  have hl : lv_has ls 6 [(0, .ref (ad 0)), (1, .int (nI 2)), (2, .int p1), (3, .int p2), (4, .int p3)] := hl
  refine lv_iload_n hx hb d_SP_part_0 rfl (lv_at hl 1 rfl) ?_
  refine lv_iconst (v := 0) hx hb d_SP_part_1 (by decide) ?_
  refine lv_iconst (v := 3) hx hb d_SP_part_2 (by decide) ?_
  refine csU C v_SP_35 [.int (nI 2), .int 0, .int 3] [] (c_SP_demandWithin l g (nI 2) 0 3 v0) hP hS rfl rfl hl.1 (Nat.le_of_ble_eq_true rfl) ⟨Nat.le_of_ble_eq_true rfl, Nat.le_of_ble_eq_true rfl⟩ d_SP_part_3 ⟨Nat.zero_le _, Nat.zero_le _⟩ (fun H locs hP hS => ?_)
  refine lv_iload_n hx hb d_SP_part_6 rfl (lv_at hl 2 rfl) ?_
  refine lv_bipush (v := (-3)) hx hb d_SP_part_7 (by decide) ?_
  refine lv_iconst (v := 3) hx hb d_SP_part_9 (by decide) ?_
  refine csU C v_SP_35 [.int p1, .int (-3), .int 3] [] (c_SP_demandWithin l g p1 (-3) 3 v1) hP hS rfl rfl hl.1 (Nat.le_of_ble_eq_true rfl) ⟨Nat.le_of_ble_eq_true rfl, Nat.le_of_ble_eq_true rfl⟩ d_SP_part_10 ⟨Nat.zero_le _, Nat.zero_le _⟩ (fun H locs hP hS => ?_)
  refine lv_iload_n hx hb d_SP_part_13 rfl (lv_at hl 3 rfl) ?_
  refine lv_iconst (v := 1) hx hb d_SP_part_14 (by decide) ?_
  refine lv_bipush (v := 60) hx hb d_SP_part_15 (by decide) ?_
  refine csU C v_SP_35 [.int p2, .int 1, .int 60] [] (c_SP_demandWithin l g p2 1 60 v2) hP hS rfl rfl hl.1 (Nat.le_of_ble_eq_true rfl) ⟨Nat.le_of_ble_eq_true rfl, Nat.le_of_ble_eq_true rfl⟩ d_SP_part_17 ⟨Nat.zero_le _, Nat.zero_le _⟩ (fun H locs hP hS => ?_)
  refine lv_aload_n hx hb d_SP_part_20 rfl (lv_at hl 0 rfl) ?_
  refine va_get (D := g.1) (ci := 0) (v := .ref (ad 22)) (C := R_SP) (T := F_SP) (N := 4) hx hb hw i_SP hown hE.1 hP 0 rfl rfl 3 (by decide) (hw _ q_217) (fun _ h9 => h9) rfl d_SP_part_21 ?_
  refine lv_iload_n hx hb d_SP_part_24 rfl (lv_at hl 1 rfl) ?_
  refine va_aldq hx hb hE.1 hP 22 5 rfl rfl (by unfold vp_in; decide) d_SP_part_25 ?_
  rw [show ((nI 2) : Int32).toNatClampNeg = 2 from by decide]
  refine lv_astore (lv' := [(5, .ref (ad 31)), (0, .ref (ad 0)), (1, .int (nI 2)), (2, .int p1), (3, .int p2), (4, .int p3)]) hx hb d_SP_part_26 hl (by decide) rfl (fun ls hl => ?_)
  refine lv_aload hx hb d_SP_part_28 (lv_at hl 0 rfl) ?_
  refine lv_iload_n hx hb d_SP_part_30 rfl (lv_at hl 3 rfl) ?_
  refine lv_iload_n hx hb d_SP_part_31 rfl (lv_at hl 4 rfl) ?_
  refine lv_iload hx hb d_SP_part_32 (lv_at hl 5 rfl) ?_
  refine cvI C v_SP_164 [.int p1, .int p2, .int p3] [] (c_Pl_add l g (ad 31) (ad 32) (ad 33) (ad 34) (q 2) n hn h6 p1 p2 p3 h01) hP hD hS [31, 32, 33, 34] [0, 1, 2, 3, 4, 5, 6, 7, 8, 9, 10, 11, 12, 13, 14, 15, 16, 17, 18, 19, 20, 21, 22, 23, 24, 25, 26, 27, 28, 29, 30, 35, 36, 37, 38] [0, 1, 2, 3, 4, 5, 6, 7, 8, 9, 10, 11, 12, 13, 14, 15, 16, 17, 18, 19, 20, 21, 22, 23, 24, 25, 26, 27, 28, 29, 30, 35, 36, 37, 38, 31, 32, 33, 34] [((ad 0), .inr (0, [.ref (ad 1), .ref (ad 8), .ref (ad 15), .ref (ad 22)])), ((ad 1), .inr (5, [.ref (ad 2), .ref (ad 6), .ref (ad 7), .int (k.2.1 0), .int (k.2.1 1), .int (k.2.1 2), .int (k.2.1 3), .int (k.2.1 4), .int (k.2.1 5)])), ((ad 2), .inl (g.2.1 3, 3, .inr (.inr (.inr (.inr (fun j => [ad 3, ad 4, ad 5][j]?)))))), ((ad 3), .inr (6, [.int (k.1 0 0), .int (k.1 1 0), .int (k.1 2 0), .int (k.1 3 0), .int (k.1 4 0)])), ((ad 4), .inr (6, [.int (k.1 0 1), .int (k.1 1 1), .int (k.1 2 1), .int (k.1 3 1), .int (k.1 4 1)])), ((ad 5), .inr (6, [.int (k.1 0 2), .int (k.1 1 2), .int (k.1 2 2), .int (k.1 3 2), .int (k.1 4 2)])), ((ad 6), .inl (g.2.1 0, 20, .inl k.2.2.1)), ((ad 7), .inl (g.2.1 0, 20, .inl k.2.2.2)), ((ad 8), .inr (4, [.ref (ad 9), .ref (ad 13), .int (x.2.1 0), .int (x.2.1 1), .int (x.2.1 2), .int (x.2.1 3), .int (x.2.1 4), .ref (ad 1)])), ((ad 9), .inl (g.2.1 4, 3, .inr (.inr (.inr (.inr (fun j => [ad 10, ad 11, ad 12][j]?)))))), ((ad 10), .inr (3, [.int (x.1 0 0), .int (x.1 1 0), .int (x.1 2 0), .int (x.1 3 0), .int (x.1 4 0)])), ((ad 11), .inr (3, [.int (x.1 0 1), .int (x.1 1 1), .int (x.1 2 1), .int (x.1 3 1), .int (x.1 4 1)])), ((ad 12), .inr (3, [.int (x.1 0 2), .int (x.1 1 2), .int (x.1 2 2), .int (x.1 3 2), .int (x.1 4 2)])), ((ad 13), .inr (1, [.ref (ad 14), .int x.2.2.1])), ((ad 14), .inl (g.2.1 1, 64, .inr (.inl x.2.2.2))), ((ad 15), .inr (4, [.ref (ad 16), .ref (ad 20), .int (y.2.1 0), .int (y.2.1 1), .int (y.2.1 2), .int (y.2.1 3), .int (y.2.1 4), .ref (ad 1)])), ((ad 16), .inl (g.2.1 4, 3, .inr (.inr (.inr (.inr (fun j => [ad 17, ad 18, ad 19][j]?)))))), ((ad 17), .inr (3, [.int (y.1 0 0), .int (y.1 1 0), .int (y.1 2 0), .int (y.1 3 0), .int (y.1 4 0)])), ((ad 18), .inr (3, [.int (y.1 0 1), .int (y.1 1 1), .int (y.1 2 1), .int (y.1 3 1), .int (y.1 4 1)])), ((ad 19), .inr (3, [.int (y.1 0 2), .int (y.1 1 2), .int (y.1 2 2), .int (y.1 3 2), .int (y.1 4 2)])), ((ad 20), .inr (1, [.ref (ad 21), .int y.2.2.1])), ((ad 21), .inl (g.2.1 1, 64, .inr (.inl y.2.2.2))), ((ad 22), .inl (g.2.1 5, 4, .inr (.inr (.inr (.inr (fun j => [ad 23, ad 27, ad 31, ad 35][j]?)))))), ((ad 23), .inr (2, [.ref (ad 24), .ref (ad 25), .ref (ad 26), .int ((q 0).2.2.2)])), ((ad 24), .inl (g.2.1 0, 6, .inl ((q 0).1))), ((ad 25), .inl (g.2.1 0, 6, .inl ((q 0).2.1))), ((ad 26), .inl (g.2.1 2, 6, .inl ((q 0).2.2.1))), ((ad 27), .inr (2, [.ref (ad 28), .ref (ad 29), .ref (ad 30), .int ((q 1).2.2.2)])), ((ad 28), .inl (g.2.1 0, 6, .inl ((q 1).1))), ((ad 29), .inl (g.2.1 0, 6, .inl ((q 1).2.1))), ((ad 30), .inl (g.2.1 2, 6, .inl ((q 1).2.2.1))), ((ad 35), .inr (2, [.ref (ad 36), .ref (ad 37), .ref (ad 38), .int ((q 3).2.2.2)])), ((ad 36), .inl (g.2.1 0, 6, .inl ((q 3).1))), ((ad 37), .inl (g.2.1 0, 6, .inl ((q 3).2.1))), ((ad 38), .inl (g.2.1 2, 6, .inl ((q 3).2.2.1)))] (wS g ad k x y (upQ q 2 (addP (q 2) n p1 p2 p3))) rfl rfl (by decide) (by decide) (by decide) rfl (by decide) 0 rfl rfl rfl rfl hl.1 (Nat.le_of_ble_eq_true rfl) ⟨Nat.le_of_ble_eq_true rfl, Nat.le_of_ble_eq_true rfl⟩ d_SP_part_34 ⟨Nat.zero_le _, Nat.zero_le _⟩ (fun H locs hP hD hS => ?_)
  refine lv_if_ne (tgt := 50) hx hb d_SP_part_37 (by decide) (fun c37_1 => ?_) (fun c37_1 => ?_)
  rotate_left
  · exact absurd c37_1 (by decide)
  refine lv_aload hx hb d_SP_part_50 (lv_at hl 0 rfl) ?_
  refine va_get (D := g.1) (ci := 2) (v := .int ((addP (q 2) n p1 p2 p3).2.2.2)) (C := R_Pl) (T := F_Pl) (N := 4) hx hb hw i_Pl hown hE.1 hP 31 rfl rfl 3 (by decide) (hw _ q_203) (fun _ h9 => h9) rfl d_SP_part_52 ?_
  exact hret _ _ _ _ _ _ rfl rfl hP hD hS d_SP_part_55
set_option maxHeartbeats 4000000 in
set_option maxRecDepth 100000 in
theorem c_SP_part_2_3 (l : Launch) (g : Glob) (hfl : l.flags = pinnedFlags ++ [noTraceFlag]) (ad : Nat → Nat) (k : CFG) (x y : RS) (q : PLS) (p1 p2 p3 : Int32) (v0 : inI (nI 3) 0 3 = 1) (v1 : inI p1 (-3) 3 = 1) (v2 : inI p2 1 60 = 1) (hfull : (q 3).2.2.2 = 6) : CX l g y_SP_part b_SP_part 6 (some .int) 8 162 [.ref (ad 0), .int (nI 3), .int p1, .int p2, .int p3] (wS g ad k x y q) R_IS := by
  refine CX.of (by decide +kernel) (Nat.le_of_ble_eq_true rfl) ?_
  intro p e s m below meth c A ls C htab hlocks hP hD hl hS
  obtain ⟨hx, hb, hml, hown, hw, hE, hA⟩ := id C
  have hH : ∀ x : Nat, x < s.heap.size → s.heap[x]? = s.heap[x]? := fun _ _ => rfl
  have hHs : s.heap.size ≤ s.heap.size := Nat.le_refl _
  have hl : lv_has ls 6 [(0, .ref (ad 0)), (1, .int (nI 3)), (2, .int p1), (3, .int p2), (4, .int p3)] := hl
  refine lv_iload_n hx hb d_SP_part_0 rfl (lv_at hl 1 rfl) ?_
  refine lv_iconst (v := 0) hx hb d_SP_part_1 (by decide) ?_
  refine lv_iconst (v := 3) hx hb d_SP_part_2 (by decide) ?_
  refine csU0 C v_SP_35 [.int (nI 3), .int 0, .int 3] [] (c_SP_demandWithin l g (nI 3) 0 3 v0) hP hH hHs rfl rfl hl.1 (Nat.le_of_ble_eq_true rfl) ⟨Nat.le_of_ble_eq_true rfl, Nat.le_of_ble_eq_true rfl⟩ d_SP_part_3 ⟨Nat.zero_le _, Nat.zero_le _⟩ (fun H hP hH hHs => ?_)
  refine lv_iload_n hx hb d_SP_part_6 rfl (lv_at hl 2 rfl) ?_
  refine lv_bipush (v := (-3)) hx hb d_SP_part_7 (by decide) ?_
  refine lv_iconst (v := 3) hx hb d_SP_part_9 (by decide) ?_
  refine csU0 C v_SP_35 [.int p1, .int (-3), .int 3] [] (c_SP_demandWithin l g p1 (-3) 3 v1) hP hH hHs rfl rfl hl.1 (Nat.le_of_ble_eq_true rfl) ⟨Nat.le_of_ble_eq_true rfl, Nat.le_of_ble_eq_true rfl⟩ d_SP_part_10 ⟨Nat.zero_le _, Nat.zero_le _⟩ (fun H hP hH hHs => ?_)
  refine lv_iload_n hx hb d_SP_part_13 rfl (lv_at hl 3 rfl) ?_
  refine lv_iconst (v := 1) hx hb d_SP_part_14 (by decide) ?_
  refine lv_bipush (v := 60) hx hb d_SP_part_15 (by decide) ?_
  refine csU0 C v_SP_35 [.int p2, .int 1, .int 60] [] (c_SP_demandWithin l g p2 1 60 v2) hP hH hHs rfl rfl hl.1 (Nat.le_of_ble_eq_true rfl) ⟨Nat.le_of_ble_eq_true rfl, Nat.le_of_ble_eq_true rfl⟩ d_SP_part_17 ⟨Nat.zero_le _, Nat.zero_le _⟩ (fun H hP hH hHs => ?_)
  refine lv_aload_n hx hb d_SP_part_20 rfl (lv_at hl 0 rfl) ?_
  refine va_get (D := g.1) (ci := 0) (v := .ref (ad 22)) (C := R_SP) (T := F_SP) (N := 4) hx hb hw i_SP hown hE.1 hP 0 rfl rfl 3 (by decide) (hw _ q_217) (fun _ h9 => h9) rfl d_SP_part_21 ?_
  refine lv_iload_n hx hb d_SP_part_24 rfl (lv_at hl 1 rfl) ?_
  refine va_aldq hx hb hE.1 hP 22 5 rfl rfl (by unfold vp_in; decide) d_SP_part_25 ?_
  rw [show ((nI 3) : Int32).toNatClampNeg = 3 from by decide]
  refine lv_astore (lv' := [(5, .ref (ad 35)), (0, .ref (ad 0)), (1, .int (nI 3)), (2, .int p1), (3, .int p2), (4, .int p3)]) hx hb d_SP_part_26 hl (by decide) rfl (fun ls hl => ?_)
  refine lv_aload hx hb d_SP_part_28 (lv_at hl 0 rfl) ?_
  refine lv_iload_n hx hb d_SP_part_30 rfl (lv_at hl 3 rfl) ?_
  refine lv_iload_n hx hb d_SP_part_31 rfl (lv_at hl 4 rfl) ?_
  refine lv_iload hx hb d_SP_part_32 (lv_at hl 5 rfl) ?_
  refine cvR0 C v_SP_164 [.int p1, .int p2, .int p3] [] (c_Pl_add_r l g (ad 35) (ad 36) (ad 37) (ad 38) (q 3) hfull p1 p2 p3) hP hD hH hHs [35, 36, 37, 38] rfl (by decide) 0 rfl rfl rfl rfl hl.1 (Nat.le_of_ble_eq_true rfl) ⟨Nat.le_of_ble_eq_true rfl, Nat.le_of_ble_eq_true rfl⟩ d_SP_part_34 ⟨Nat.zero_le _, Nat.zero_le _⟩ (fun H hP hH hHs => ?_)
  refine lv_if_ne (tgt := 50) hx hb d_SP_part_37 (by decide) (fun c37_1 => ?_) (fun c37_1 => ?_)
  · exact absurd c37_1 (fun z => z rfl)
  exact thr_new C htab hlocks hfl (own_all hw hE own_IS own_ISc) (by decide +kernel) q_314 q_315 q_13 hE.2.2.2.2.2.2.2.2.2.2.2.2.2.1 hH hHs hl.1 (Nat.le_of_ble_eq_true rfl) (Nat.le_of_ble_eq_true rfl) (Nat.le_refl _) (Nat.le_refl _) d_SP_part_40 d_SP_part_43 d_SP_part_44 d_SP_part_46 d_SP_part_49
set_option maxHeartbeats 4000000 in
set_option maxRecDepth 100000 in
theorem c_SP_part_0_3 (l : Launch) (g : Glob) (ad : Nat → Nat) (k : CFG) (x y : RS) (q : PLS) (p1 p2 p3 : Int32) (v0 : inI (nI 3) 0 3 = 1) (v1 : inI p1 (-3) 3 = 1) (v2 : inI p2 1 60 = 1) (n : Nat) (hn : (q 3).2.2.2 = nI n) (h6 : n < 6) (h01 : p3 = 0 ∨ p3 = 1) : CI l g y_SP_part b_SP_part 6 (some .int) 8 162 [.ref (ad 0), .int (nI 3), .int p1, .int p2, .int p3] (wS g ad k x y q) (nI n + 1) (wS g ad k x y (upQ q 3 (addP (q 3) n p1 p2 p3))) := by
  refine CI.of .int rfl rfl (by decide +kernel) (Nat.le_of_ble_eq_true rfl) ?_
  intro p e s m below meth c A Q ls C hP hD hl hret hS
  obtain ⟨hx, hb, hml, hown, hw, hE, hA⟩ := id C
  have hl : lv_has ls 6 [(0, .ref (ad 0)), (1, .int (nI 3)), (2, .int p1), (3, .int p2), (4, .int p3)] := hl
  refine lv_iload_n hx hb d_SP_part_0 rfl (lv_at hl 1 rfl) ?_
  refine lv_iconst (v := 0) hx hb d_SP_part_1 (by decide) ?_
  refine lv_iconst (v := 3) hx hb d_SP_part_2 (by decide) ?_
  refine csU C v_SP_35 [.int (nI 3), .int 0, .int 3] [] (c_SP_demandWithin l g (nI 3) 0 3 v0) hP hS rfl rfl hl.1 (Nat.le_of_ble_eq_true rfl) ⟨Nat.le_of_ble_eq_true rfl, Nat.le_of_ble_eq_true rfl⟩ d_SP_part_3 ⟨Nat.zero_le _, Nat.zero_le _⟩ (fun H locs hP hS => ?_)
  refine lv_iload_n hx hb d_SP_part_6 rfl (lv_at hl 2 rfl) ?_
  refine lv_bipush (v := (-3)) hx hb d_SP_part_7 (by decide) ?_
  refine lv_iconst (v := 3) hx hb d_SP_part_9 (by decide) ?_
  refine csU C v_SP_35 [.int p1, .int (-3), .int 3] [] (c_SP_demandWithin l g p1 (-3) 3 v1) hP hS rfl rfl hl.1 (Nat.le_of_ble_eq_true rfl) ⟨Nat.le_of_ble_eq_true rfl, Nat.le_of_ble_eq_true rfl⟩ d_SP_part_10 ⟨Nat.zero_le _, Nat.zero_le _⟩ (fun H locs hP hS => ?_)
  refine lv_iload_n hx hb d_SP_part_13 rfl (lv_at hl 3 rfl) ?_
  refine lv_iconst (v := 1) hx hb d_SP_part_14 (by decide) ?_
  refine lv_bipush (v := 60) hx hb d_SP_part_15 (by decide) ?_
  refine csU C v_SP_35 [.int p2, .int 1, .int 60] [] (c_SP_demandWithin l g p2 1 60 v2) hP hS rfl rfl hl.1 (Nat.le_of_ble_eq_true rfl) ⟨Nat.le_of_ble_eq_true rfl, Nat.le_of_ble_eq_true rfl⟩ d_SP_part_17 ⟨Nat.zero_le _, Nat.zero_le _⟩ (fun H locs hP hS => ?_)
  refine lv_aload_n hx hb d_SP_part_20 rfl (lv_at hl 0 rfl) ?_
  refine va_get (D := g.1) (ci := 0) (v := .ref (ad 22)) (C := R_SP) (T := F_SP) (N := 4) hx hb hw i_SP hown hE.1 hP 0 rfl rfl 3 (by decide) (hw _ q_217) (fun _ h9 => h9) rfl d_SP_part_21 ?_
  refine lv_iload_n hx hb d_SP_part_24 rfl (lv_at hl 1 rfl) ?_
  refine va_aldq hx hb hE.1 hP 22 5 rfl rfl (by unfold vp_in; decide) d_SP_part_25 ?_
  rw [show ((nI 3) : Int32).toNatClampNeg = 3 from by decide]
  refine lv_astore (lv' := [(5, .ref (ad 35)), (0, .ref (ad 0)), (1, .int (nI 3)), (2, .int p1), (3, .int p2), (4, .int p3)]) hx hb d_SP_part_26 hl (by decide) rfl (fun ls hl => ?_)
  refine lv_aload hx hb d_SP_part_28 (lv_at hl 0 rfl) ?_
  refine lv_iload_n hx hb d_SP_part_30 rfl (lv_at hl 3 rfl) ?_
  refine lv_iload_n hx hb d_SP_part_31 rfl (lv_at hl 4 rfl) ?_
  refine lv_iload hx hb d_SP_part_32 (lv_at hl 5 rfl) ?_
  refine cvI C v_SP_164 [.int p1, .int p2, .int p3] [] (c_Pl_add l g (ad 35) (ad 36) (ad 37) (ad 38) (q 3) n hn h6 p1 p2 p3 h01) hP hD hS [35, 36, 37, 38] [0, 1, 2, 3, 4, 5, 6, 7, 8, 9, 10, 11, 12, 13, 14, 15, 16, 17, 18, 19, 20, 21, 22, 23, 24, 25, 26, 27, 28, 29, 30, 31, 32, 33, 34] [0, 1, 2, 3, 4, 5, 6, 7, 8, 9, 10, 11, 12, 13, 14, 15, 16, 17, 18, 19, 20, 21, 22, 23, 24, 25, 26, 27, 28, 29, 30, 31, 32, 33, 34, 35, 36, 37, 38] [((ad 0), .inr (0, [.ref (ad 1), .ref (ad 8), .ref (ad 15), .ref (ad 22)])), ((ad 1), .inr (5, [.ref (ad 2), .ref (ad 6), .ref (ad 7), .int (k.2.1 0), .int (k.2.1 1), .int (k.2.1 2), .int (k.2.1 3), .int (k.2.1 4), .int (k.2.1 5)])), ((ad 2), .inl (g.2.1 3, 3, .inr (.inr (.inr (.inr (fun j => [ad 3, ad 4, ad 5][j]?)))))), ((ad 3), .inr (6, [.int (k.1 0 0), .int (k.1 1 0), .int (k.1 2 0), .int (k.1 3 0), .int (k.1 4 0)])), ((ad 4), .inr (6, [.int (k.1 0 1), .int (k.1 1 1), .int (k.1 2 1), .int (k.1 3 1), .int (k.1 4 1)])), ((ad 5), .inr (6, [.int (k.1 0 2), .int (k.1 1 2), .int (k.1 2 2), .int (k.1 3 2), .int (k.1 4 2)])), ((ad 6), .inl (g.2.1 0, 20, .inl k.2.2.1)), ((ad 7), .inl (g.2.1 0, 20, .inl k.2.2.2)), ((ad 8), .inr (4, [.ref (ad 9), .ref (ad 13), .int (x.2.1 0), .int (x.2.1 1), .int (x.2.1 2), .int (x.2.1 3), .int (x.2.1 4), .ref (ad 1)])), ((ad 9), .inl (g.2.1 4, 3, .inr (.inr (.inr (.inr (fun j => [ad 10, ad 11, ad 12][j]?)))))), ((ad 10), .inr (3, [.int (x.1 0 0), .int (x.1 1 0), .int (x.1 2 0), .int (x.1 3 0), .int (x.1 4 0)])), ((ad 11), .inr (3, [.int (x.1 0 1), .int (x.1 1 1), .int (x.1 2 1), .int (x.1 3 1), .int (x.1 4 1)])), ((ad 12), .inr (3, [.int (x.1 0 2), .int (x.1 1 2), .int (x.1 2 2), .int (x.1 3 2), .int (x.1 4 2)])), ((ad 13), .inr (1, [.ref (ad 14), .int x.2.2.1])), ((ad 14), .inl (g.2.1 1, 64, .inr (.inl x.2.2.2))), ((ad 15), .inr (4, [.ref (ad 16), .ref (ad 20), .int (y.2.1 0), .int (y.2.1 1), .int (y.2.1 2), .int (y.2.1 3), .int (y.2.1 4), .ref (ad 1)])), ((ad 16), .inl (g.2.1 4, 3, .inr (.inr (.inr (.inr (fun j => [ad 17, ad 18, ad 19][j]?)))))), ((ad 17), .inr (3, [.int (y.1 0 0), .int (y.1 1 0), .int (y.1 2 0), .int (y.1 3 0), .int (y.1 4 0)])), ((ad 18), .inr (3, [.int (y.1 0 1), .int (y.1 1 1), .int (y.1 2 1), .int (y.1 3 1), .int (y.1 4 1)])), ((ad 19), .inr (3, [.int (y.1 0 2), .int (y.1 1 2), .int (y.1 2 2), .int (y.1 3 2), .int (y.1 4 2)])), ((ad 20), .inr (1, [.ref (ad 21), .int y.2.2.1])), ((ad 21), .inl (g.2.1 1, 64, .inr (.inl y.2.2.2))), ((ad 22), .inl (g.2.1 5, 4, .inr (.inr (.inr (.inr (fun j => [ad 23, ad 27, ad 31, ad 35][j]?)))))), ((ad 23), .inr (2, [.ref (ad 24), .ref (ad 25), .ref (ad 26), .int ((q 0).2.2.2)])), ((ad 24), .inl (g.2.1 0, 6, .inl ((q 0).1))), ((ad 25), .inl (g.2.1 0, 6, .inl ((q 0).2.1))), ((ad 26), .inl (g.2.1 2, 6, .inl ((q 0).2.2.1))), ((ad 27), .inr (2, [.ref (ad 28), .ref (ad 29), .ref (ad 30), .int ((q 1).2.2.2)])), ((ad 28), .inl (g.2.1 0, 6, .inl ((q 1).1))), ((ad 29), .inl (g.2.1 0, 6, .inl ((q 1).2.1))), ((ad 30), .inl (g.2.1 2, 6, .inl ((q 1).2.2.1))), ((ad 31), .inr (2, [.ref (ad 32), .ref (ad 33), .ref (ad 34), .int ((q 2).2.2.2)])), ((ad 32), .inl (g.2.1 0, 6, .inl ((q 2).1))), ((ad 33), .inl (g.2.1 0, 6, .inl ((q 2).2.1))), ((ad 34), .inl (g.2.1 2, 6, .inl ((q 2).2.2.1)))] (wS g ad k x y (upQ q 3 (addP (q 3) n p1 p2 p3))) rfl rfl (by decide) (by decide) (by decide) rfl (by decide) 0 rfl rfl rfl rfl hl.1 (Nat.le_of_ble_eq_true rfl) ⟨Nat.le_of_ble_eq_true rfl, Nat.le_of_ble_eq_true rfl⟩ d_SP_part_34 ⟨Nat.zero_le _, Nat.zero_le _⟩ (fun H locs hP hD hS => ?_)
  refine lv_if_ne (tgt := 50) hx hb d_SP_part_37 (by decide) (fun c37_1 => ?_) (fun c37_1 => ?_)
  rotate_left
  · exact absurd c37_1 (by decide)
  refine lv_aload hx hb d_SP_part_50 (lv_at hl 0 rfl) ?_
  refine va_get (D := g.1) (ci := 2) (v := .int ((addP (q 3) n p1 p2 p3).2.2.2)) (C := R_Pl) (T := F_Pl) (N := 4) hx hb hw i_Pl hown hE.1 hP 35 rfl rfl 3 (by decide) (hw _ q_203) (fun _ h9 => h9) rfl d_SP_part_52 ?_
  exact hret _ _ _ _ _ _ rfl rfl hP hD hS d_SP_part_55
set_option maxHeartbeats 4000000 in
theorem c_SP_part_2 (l : Launch) (g : Glob) (hfl : l.flags = pinnedFlags ++ [noTraceFlag]) (ad : Nat → Nat) (k : CFG) (x y : RS) (q : PLS) (pl : Nat) (hpl : pl < 4) (p1 p2 p3 : Int32) (v0 : inI (nI pl) 0 3 = 1) (v1 : inI p1 (-3) 3 = 1) (v2 : inI p2 1 60 = 1) (hfull : (q pl).2.2.2 = 6) : CX l g y_SP_part b_SP_part 6 (some .int) 8 162 [.ref (ad 0), .int (nI pl), .int p1, .int p2, .int p3] (wS g ad k x y q) R_IS := by
  rcases (show pl = 0 ∨ pl = 1 ∨ pl = 2 ∨ pl = 3 by omega) with rfl | rfl | rfl | rfl
  · exact c_SP_part_2_0 l g hfl ad k x y q p1 p2 p3 v0 v1 v2 hfull
  · exact c_SP_part_2_1 l g hfl ad k x y q p1 p2 p3 v0 v1 v2 hfull
  · exact c_SP_part_2_2 l g hfl ad k x y q p1 p2 p3 v0 v1 v2 hfull
  · exact c_SP_part_2_3 l g hfl ad k x y q p1 p2 p3 v0 v1 v2 hfull
set_option maxHeartbeats 4000000 in
theorem c_SP_part_0 (l : Launch) (g : Glob) (ad : Nat → Nat) (k : CFG) (x y : RS) (q : PLS) (pl : Nat) (hpl : pl < 4) (p1 p2 p3 : Int32) (v0 : inI (nI pl) 0 3 = 1) (v1 : inI p1 (-3) 3 = 1) (v2 : inI p2 1 60 = 1) (n : Nat) (hn : (q pl).2.2.2 = nI n) (h6 : n < 6) (h01 : p3 = 0 ∨ p3 = 1) : CI l g y_SP_part b_SP_part 6 (some .int) 8 162 [.ref (ad 0), .int (nI pl), .int p1, .int p2, .int p3] (wS g ad k x y q) (nI n + 1) (wS g ad k x y (upQ q pl (addP (q pl) n p1 p2 p3))) := by
  rcases (show pl = 0 ∨ pl = 1 ∨ pl = 2 ∨ pl = 3 by omega) with rfl | rfl | rfl | rfl
  · exact c_SP_part_0_0 l g ad k x y q p1 p2 p3 v0 v1 v2 n hn h6 h01
  · exact c_SP_part_0_1 l g ad k x y q p1 p2 p3 v0 v1 v2 n hn h6 h01
  · exact c_SP_part_0_2 l g ad k x y q p1 p2 p3 v0 v1 v2 n hn h6 h01
  · exact c_SP_part_0_3 l g ad k x y q p1 p2 p3 v0 v1 v2 n hn h6 h01
set_option maxHeartbeats 4000000 in
set_option maxRecDepth 100000 in
theorem c_SP_clear_1 (l : Launch) (g : Glob) (hfl : l.flags = pinnedFlags ++ [noTraceFlag]) (ad : Nat → Nat) (k : CFG) (x y : RS) (q : PLS) (p0 : Int32) (hbad : ¬ (inI p0 0 3 = 1)) : CX l g y_SP_clear b_SP_clear 3 (some .int) 8 162 [.ref (ad 0), .int p0] (wS g ad k x y q) R_IA := by
  refine CX.of (by decide +kernel) (Nat.le_of_ble_eq_true rfl) ?_
  intro p e s m below meth c A ls C htab hlocks hP hD hl hS
  obtain ⟨hx, hb, hml, hown, hw, hE, hA⟩ := id C
  have hH : ∀ x : Nat, x < s.heap.size → s.heap[x]? = s.heap[x]? := fun _ _ => rfl
  have hHs : s.heap.size ≤ s.heap.size := Nat.le_refl _
  have hl : lv_has ls 3 [(0, .ref (ad 0)), (1, .int p0)] := hl
  refine lv_iload_n hx hb d_SP_clear_0 rfl (lv_at hl 1 rfl) ?_
  refine lv_iconst (v := 0) hx hb d_SP_clear_1 (by decide) ?_
  refine lv_iconst (v := 3) hx hb d_SP_clear_2 (by decide) ?_
  by_cases v0 : inI p0 0 3 = 1
  rotate_left
  · exact xsOut C htab hlocks v_SP_35 [.int p0, .int 0, .int 3] [] (c_SP_demandWithin_x l g hfl p0 0 3 v0) hH hHs rfl rfl hl.1 (Nat.le_of_ble_eq_true rfl) ⟨Nat.le_of_ble_eq_true rfl, Nat.le_of_ble_eq_true rfl⟩ ⟨Nat.le_refl _, Nat.le_refl _⟩ d_SP_clear_3
  exact absurd v0 hbad
set_option maxHeartbeats 4000000 in
set_option maxRecDepth 100000 in
theorem c_SP_clear_0_0 (l : Launch) (g : Glob) (ad : Nat → Nat) (k : CFG) (x y : RS) (q : PLS) (v0 : inI (nI 0) 0 3 = 1) : CI l g y_SP_clear b_SP_clear 3 (some .int) 8 162 [.ref (ad 0), .int (nI 0)] (wS g ad k x y q) ((q 0).2.2.2) (wS g ad k x y (upQ q 0 (clrP (q 0)))) := by
  refine CI.of .int rfl rfl (by decide +kernel) (Nat.le_of_ble_eq_true rfl) ?_
  intro p e s m below meth c A Q ls C hP hD hl hret hS
  obtain ⟨hx, hb, hml, hown, hw, hE, hA⟩ := id C
  have hl : lv_has ls 3 [(0, .ref (ad 0)), (1, .int (nI 0))] := hl
  refine lv_iload_n hx hb d_SP_clear_0 rfl (lv_at hl 1 rfl) ?_
  refine lv_iconst (v := 0) hx hb d_SP_clear_1 (by decide) ?_
  refine lv_iconst (v := 3) hx hb d_SP_clear_2 (by decide) ?_
  refine csU C v_SP_35 [.int (nI 0), .int 0, .int 3] [] (c_SP_demandWithin l g (nI 0) 0 3 v0) hP hS rfl rfl hl.1 (Nat.le_of_ble_eq_true rfl) ⟨Nat.le_of_ble_eq_true rfl, Nat.le_of_ble_eq_true rfl⟩ d_SP_clear_3 ⟨Nat.zero_le _, Nat.zero_le _⟩ (fun H locs hP hS => ?_)
  refine lv_aload_n hx hb d_SP_clear_6 rfl (lv_at hl 0 rfl) ?_
  refine va_get (D := g.1) (ci := 0) (v := .ref (ad 22)) (C := R_SP) (T := F_SP) (N := 4) hx hb hw i_SP hown hE.1 hP 0 rfl rfl 3 (by decide) (hw _ q_217) (fun _ h9 => h9) rfl d_SP_clear_7 ?_
  refine lv_iload_n hx hb d_SP_clear_10 rfl (lv_at hl 1 rfl) ?_
  refine va_aldq hx hb hE.1 hP 22 5 rfl rfl (by unfold vp_in; decide) d_SP_clear_11 ?_
  rw [show ((nI 0) : Int32).toNatClampNeg = 0 from by decide]
  refine va_get (D := g.1) (ci := 2) (v := .int ((q 0).2.2.2)) (C := R_Pl) (T := F_Pl) (N := 4) hx hb hw i_Pl hown hE.1 hP 23 rfl rfl 3 (by decide) (hw _ q_203) (fun _ h9 => h9) rfl d_SP_clear_12 ?_
  refine lv_istore_n (lv' := [(2, .int ((q 0).2.2.2)), (0, .ref (ad 0)), (1, .int (nI 0))]) hx hb d_SP_clear_15 rfl hl (by decide) rfl (fun ls hl => ?_)
  refine lv_aload_n hx hb d_SP_clear_16 rfl (lv_at hl 1 rfl) ?_
  refine va_get (D := g.1) (ci := 0) (v := .ref (ad 22)) (C := R_SP) (T := F_SP) (N := 4) hx hb hw i_SP hown hE.1 hP 0 rfl rfl 3 (by decide) (hw _ q_217) (fun _ h9 => h9) rfl d_SP_clear_17 ?_
  refine lv_iload_n hx hb d_SP_clear_20 rfl (lv_at hl 2 rfl) ?_
  refine va_aldq hx hb hE.1 hP 22 5 rfl rfl (by unfold vp_in; decide) d_SP_clear_21 ?_
  rw [show ((nI 0) : Int32).toNatClampNeg = 0 from by decide]
  refine lv_iconst (v := 0) hx hb d_SP_clear_22 (by decide) ?_
  refine va_put (D := g.1) (ci := 2) (v := .int 0) (ty := .int) (C := R_Pl) (T := F_Pl) (N := 4) hx hb hw i_Pl t_Pl t_Pl_ok n_Pl hown hE.1 hP hD hS 23 rfl rfl 3 (by decide) (hw _ q_203) (fun _ h9 => h9) rfl (by decide +kernel) rfl rfl (Nat.le_of_ble_eq_true rfl) d_SP_clear_23 (fun H locs hP hD hS => ?_)
  have hP : va_P g.1 classes (wS g ad k x y (upQ q 0 (clrP (q 0)))) H := hP
  have hD : va_D A (wS g ad k x y (upQ q 0 (clrP (q 0)))) := hD
  refine lv_iload_n hx hb d_SP_clear_26 rfl (lv_at hl 0 rfl) ?_
  exact hret _ _ _ _ _ _ rfl rfl hP hD hS d_SP_clear_27
set_option maxHeartbeats 4000000 in
set_option maxRecDepth 100000 in
theorem c_SP_clear_0_1 (l : Launch) (g : Glob) (ad : Nat → Nat) (k : CFG) (x y : RS) (q : PLS) (v0 : inI (nI 1) 0 3 = 1) : CI l g y_SP_clear b_SP_clear 3 (some .int) 8 162 [.ref (ad 0), .int (nI 1)] (wS g ad k x y q) ((q 1).2.2.2) (wS g ad k x y (upQ q 1 (clrP (q 1)))) := by
  refine CI.of .int rfl rfl (by decide +kernel) (Nat.le_of_ble_eq_true rfl) ?_
  intro p e s m below meth c A Q ls C hP hD hl hret hS
  obtain ⟨hx, hb, hml, hown, hw, hE, hA⟩ := id C
  have hl : lv_has ls 3 [(0, .ref (ad 0)), (1, .int (nI 1))] := hl
  refine lv_iload_n hx hb d_SP_clear_0 rfl (lv_at hl 1 rfl) ?_
  refine lv_iconst (v := 0) hx hb d_SP_clear_1 (by decide) ?_
  refine lv_iconst (v := 3) hx hb d_SP_clear_2 (by decide) ?_
  refine csU C v_SP_35 [.int (nI 1), .int 0, .int 3] [] (c_SP_demandWithin l g (nI 1) 0 3 v0) hP hS rfl rfl hl.1 (Nat.le_of_ble_eq_true rfl) ⟨Nat.le_of_ble_eq_true rfl, Nat.le_of_ble_eq_true rfl⟩ d_SP_clear_3 ⟨Nat.zero_le _, Nat.zero_le _⟩ (fun H locs hP hS => ?_)
  refine lv_aload_n hx hb d_SP_clear_6 rfl (lv_at hl 0 rfl) ?_
  refine va_get (D := g.1) (ci := 0) (v := .ref (ad 22)) (C := R_SP) (T := F_SP) (N := 4) hx hb hw i_SP hown hE.1 hP 0 rfl rfl 3 (by decide) (hw _ q_217) (fun _ h9 => h9) rfl d_SP_clear_7 ?_
  refine lv_iload_n hx hb d_SP_clear_10 rfl (lv_at hl 1 rfl) ?_
  refine va_aldq hx hb hE.1 hP 22 5 rfl rfl (by unfold vp_in; decide) d_SP_clear_11 ?_
  rw [show ((nI 1) : Int32).toNatClampNeg = 1 from by decide]
  refine va_get (D := g.1) (ci := 2) (v := .int ((q 1).2.2.2)) (C := R_Pl) (T := F_Pl) (N := 4) hx hb hw i_Pl hown hE.1 hP 27 rfl rfl 3 (by decide) (hw _ q_203) (fun _ h9 => h9) rfl d_SP_clear_12 ?_
  refine lv_istore_n (lv' := [(2, .int ((q 1).2.2.2)), (0, .ref (ad 0)), (1, .int (nI 1))]) hx hb d_SP_clear_15 rfl hl (by decide) rfl (fun ls hl => ?_)
  refine lv_aload_n hx hb d_SP_clear_16 rfl (lv_at hl 1 rfl) ?_
  refine va_get (D := g.1) (ci := 0) (v := .ref (ad 22)) (C := R_SP) (T := F_SP) (N := 4) hx hb hw i_SP hown hE.1 hP 0 rfl rfl 3 (by decide) (hw _ q_217) (fun _ h9 => h9) rfl d_SP_clear_17 ?_
  refine lv_iload_n hx hb d_SP_clear_20 rfl (lv_at hl 2 rfl) ?_
  refine va_aldq hx hb hE.1 hP 22 5 rfl rfl (by unfold vp_in; decide) d_SP_clear_21 ?_
  rw [show ((nI 1) : Int32).toNatClampNeg = 1 from by decide]
  refine lv_iconst (v := 0) hx hb d_SP_clear_22 (by decide) ?_
  refine va_put (D := g.1) (ci := 2) (v := .int 0) (ty := .int) (C := R_Pl) (T := F_Pl) (N := 4) hx hb hw i_Pl t_Pl t_Pl_ok n_Pl hown hE.1 hP hD hS 27 rfl rfl 3 (by decide) (hw _ q_203) (fun _ h9 => h9) rfl (by decide +kernel) rfl rfl (Nat.le_of_ble_eq_true rfl) d_SP_clear_23 (fun H locs hP hD hS => ?_)
  have hP : va_P g.1 classes (wS g ad k x y (upQ q 1 (clrP (q 1)))) H := hP
  have hD : va_D A (wS g ad k x y (upQ q 1 (clrP (q 1)))) := hD
  refine lv_iload_n hx hb d_SP_clear_26 rfl (lv_at hl 0 rfl) ?_
  exact hret _ _ _ _ _ _ rfl rfl hP hD hS d_SP_clear_27
set_option maxHeartbeats 4000000 in
set_option maxRecDepth 100000 in
theorem c_SP_clear_0_2 (l : Launch) (g : Glob) (ad : Nat → Nat) (k : CFG) (x y : RS) (q : PLS) (v0 : inI (nI 2) 0 3 = 1) : CI l g y_SP_clear b_SP_clear 3 (some .int) 8 162 [.ref (ad 0), .int (nI 2)] (wS g ad k x y q) ((q 2).2.2.2) (wS g ad k x y (upQ q 2 (clrP (q 2)))) := by
  refine CI.of .int rfl rfl (by decide +kernel) (Nat.le_of_ble_eq_true rfl) ?_
  intro p e s m below meth c A Q ls C hP hD hl hret hS
  obtain ⟨hx, hb, hml, hown, hw, hE, hA⟩ := id C
  have hl : lv_has ls 3 [(0, .ref (ad 0)), (1, .int (nI 2))] := hl
  refine lv_iload_n hx hb d_SP_clear_0 rfl (lv_at hl 1 rfl) ?_
  refine lv_iconst (v := 0) hx hb d_SP_clear_1 (by decide) ?_
  refine lv_iconst (v := 3) hx hb d_SP_clear_2 (by decide) ?_
  refine csU C v_SP_35 [.int (nI 2), .int 0, .int 3] [] (c_SP_demandWithin l g (nI 2) 0 3 v0) hP hS rfl rfl hl.1 (Nat.le_of_ble_eq_true rfl) ⟨Nat.le_of_ble_eq_true rfl, Nat.le_of_ble_eq_true rfl⟩ d_SP_clear_3 ⟨Nat.zero_le _, Nat.zero_le _⟩ (fun H locs hP hS => ?_)
  refine lv_aload_n hx hb d_SP_clear_6 rfl (lv_at hl 0 rfl) ?_
  refine va_get (D := g.1) (ci := 0) (v := .ref (ad 22)) (C := R_SP) (T := F_SP) (N := 4) hx hb hw i_SP hown hE.1 hP 0 rfl rfl 3 (by decide) (hw _ q_217) (fun _ h9 => h9) rfl d_SP_clear_7 ?_
  refine lv_iload_n hx hb d_SP_clear_10 rfl (lv_at hl 1 rfl) ?_
  refine va_aldq hx hb hE.1 hP 22 5 rfl rfl (by unfold vp_in; decide) d_SP_clear_11 ?_
  rw [show ((nI 2) : Int32).toNatClampNeg = 2 from by decide]
  refine va_get (D := g.1) (ci := 2) (v := .int ((q 2).2.2.2)) (C := R_Pl) (T := F_Pl) (N := 4) hx hb hw i_Pl hown hE.1 hP 31 rfl rfl 3 (by decide) (hw _ q_203) (fun _ h9 => h9) rfl d_SP_clear_12 ?_
  refine lv_istore_n (lv' := [(2, .int ((q 2).2.2.2)), (0, .ref (ad 0)), (1, .int (nI 2))]) hx hb d_SP_clear_15 rfl hl (by decide) rfl (fun ls hl => ?_)
  refine lv_aload_n hx hb d_SP_clear_16 rfl (lv_at hl 1 rfl) ?_
  refine va_get (D := g.1) (ci := 0) (v := .ref (ad 22)) (C := R_SP) (T := F_SP) (N := 4) hx hb hw i_SP hown hE.1 hP 0 rfl rfl 3 (by decide) (hw _ q_217) (fun _ h9 => h9) rfl d_SP_clear_17 ?_
  refine lv_iload_n hx hb d_SP_clear_20 rfl (lv_at hl 2 rfl) ?_
  refine va_aldq hx hb hE.1 hP 22 5 rfl rfl (by unfold vp_in; decide) d_SP_clear_21 ?_
  rw [show ((nI 2) : Int32).toNatClampNeg = 2 from by decide]
  refine lv_iconst (v := 0) hx hb d_SP_clear_22 (by decide) ?_
  refine va_put (D := g.1) (ci := 2) (v := .int 0) (ty := .int) (C := R_Pl) (T := F_Pl) (N := 4) hx hb hw i_Pl t_Pl t_Pl_ok n_Pl hown hE.1 hP hD hS 31 rfl rfl 3 (by decide) (hw _ q_203) (fun _ h9 => h9) rfl (by decide +kernel) rfl rfl (Nat.le_of_ble_eq_true rfl) d_SP_clear_23 (fun H locs hP hD hS => ?_)
  have hP : va_P g.1 classes (wS g ad k x y (upQ q 2 (clrP (q 2)))) H := hP
  have hD : va_D A (wS g ad k x y (upQ q 2 (clrP (q 2)))) := hD
  refine lv_iload_n hx hb d_SP_clear_26 rfl (lv_at hl 0 rfl) ?_
  exact hret _ _ _ _ _ _ rfl rfl hP hD hS d_SP_clear_27
set_option maxHeartbeats 4000000 in
set_option maxRecDepth 100000 in
theorem c_SP_clear_0_3 (l : Launch) (g : Glob) (ad : Nat → Nat) (k : CFG) (x y : RS) (q : PLS) (v0 : inI (nI 3) 0 3 = 1) : CI l g y_SP_clear b_SP_clear 3 (some .int) 8 162 [.ref (ad 0), .int (nI 3)] (wS g ad k x y q) ((q 3).2.2.2) (wS g ad k x y (upQ q 3 (clrP (q 3)))) := by
  refine CI.of .int rfl rfl (by decide +kernel) (Nat.le_of_ble_eq_true rfl) ?_
  intro p e s m below meth c A Q ls C hP hD hl hret hS
  obtain ⟨hx, hb, hml, hown, hw, hE, hA⟩ := id C
  have hl : lv_has ls 3 [(0, .ref (ad 0)), (1, .int (nI 3))] := hl
  refine lv_iload_n hx hb d_SP_clear_0 rfl (lv_at hl 1 rfl) ?_
  refine lv_iconst (v := 0) hx hb d_SP_clear_1 (by decide) ?_
  refine lv_iconst (v := 3) hx hb d_SP_clear_2 (by decide) ?_
  refine csU C v_SP_35 [.int (nI 3), .int 0, .int 3] [] (c_SP_demandWithin l g (nI 3) 0 3 v0) hP hS rfl rfl hl.1 (Nat.le_of_ble_eq_true rfl) ⟨Nat.le_of_ble_eq_true rfl, Nat.le_of_ble_eq_true rfl⟩ d_SP_clear_3 ⟨Nat.zero_le _, Nat.zero_le _⟩ (fun H locs hP hS => ?_)
  refine lv_aload_n hx hb d_SP_clear_6 rfl (lv_at hl 0 rfl) ?_
  refine va_get (D := g.1) (ci := 0) (v := .ref (ad 22)) (C := R_SP) (T := F_SP) (N := 4) hx hb hw i_SP hown hE.1 hP 0 rfl rfl 3 (by decide) (hw _ q_217) (fun _ h9 => h9) rfl d_SP_clear_7 ?_
  refine lv_iload_n hx hb d_SP_clear_10 rfl (lv_at hl 1 rfl) ?_
  refine va_aldq hx hb hE.1 hP 22 5 rfl rfl (by unfold vp_in; decide) d_SP_clear_11 ?_
  rw [show ((nI 3) : Int32).toNatClampNeg = 3 from by decide]
  refine va_get (D := g.1) (ci := 2) (v := .int ((q 3).2.2.2)) (C := R_Pl) (T := F_Pl) (N := 4) hx hb hw i_Pl hown hE.1 hP 35 rfl rfl 3 (by decide) (hw _ q_203) (fun _ h9 => h9) rfl d_SP_clear_12 ?_
  refine lv_istore_n (lv' := [(2, .int ((q 3).2.2.2)), (0, .ref (ad 0)), (1, .int (nI 3))]) hx hb d_SP_clear_15 rfl hl (by decide) rfl (fun ls hl => ?_)
  refine lv_aload_n hx hb d_SP_clear_16 rfl (lv_at hl 1 rfl) ?_
  refine va_get (D := g.1) (ci := 0) (v := .ref (ad 22)) (C := R_SP) (T := F_SP) (N := 4) hx hb hw i_SP hown hE.1 hP 0 rfl rfl 3 (by decide) (hw _ q_217) (fun _ h9 => h9) rfl d_SP_clear_17 ?_
  refine lv_iload_n hx hb d_SP_clear_20 rfl (lv_at hl 2 rfl) ?_
  refine va_aldq hx hb hE.1 hP 22 5 rfl rfl (by unfold vp_in; decide) d_SP_clear_21 ?_
  rw [show ((nI 3) : Int32).toNatClampNeg = 3 from by decide]
  refine lv_iconst (v := 0) hx hb d_SP_clear_22 (by decide) ?_
  refine va_put (D := g.1) (ci := 2) (v := .int 0) (ty := .int) (C := R_Pl) (T := F_Pl) (N := 4) hx hb hw i_Pl t_Pl t_Pl_ok n_Pl hown hE.1 hP hD hS 35 rfl rfl 3 (by decide) (hw _ q_203) (fun _ h9 => h9) rfl (by decide +kernel) rfl rfl (Nat.le_of_ble_eq_true rfl) d_SP_clear_23 (fun H locs hP hD hS => ?_)
  have hP : va_P g.1 classes (wS g ad k x y (upQ q 3 (clrP (q 3)))) H := hP
  have hD : va_D A (wS g ad k x y (upQ q 3 (clrP (q 3)))) := hD
  refine lv_iload_n hx hb d_SP_clear_26 rfl (lv_at hl 0 rfl) ?_
  exact hret _ _ _ _ _ _ rfl rfl hP hD hS d_SP_clear_27
set_option maxHeartbeats 4000000 in
theorem c_SP_clear_0 (l : Launch) (g : Glob) (ad : Nat → Nat) (k : CFG) (x y : RS) (q : PLS) (pl : Nat) (hpl : pl < 4) (v0 : inI (nI pl) 0 3 = 1) : CI l g y_SP_clear b_SP_clear 3 (some .int) 8 162 [.ref (ad 0), .int (nI pl)] (wS g ad k x y q) ((q pl).2.2.2) (wS g ad k x y (upQ q pl (clrP (q pl)))) := by
  rcases (show pl = 0 ∨ pl = 1 ∨ pl = 2 ∨ pl = 3 by omega) with rfl | rfl | rfl | rfl
  · exact c_SP_clear_0_0 l g ad k x y q v0
  · exact c_SP_clear_0_1 l g ad k x y q v0
  · exact c_SP_clear_0_2 l g ad k x y q v0
  · exact c_SP_clear_0_3 l g ad k x y q v0
set_option maxHeartbeats 4000000 in
set_option maxRecDepth 100000 in
theorem c_SP_sweeps_1 (l : Launch) (g : Glob) (hfl : l.flags = pinnedFlags ++ [noTraceFlag]) (ad : Nat → Nat) (k : CFG) (x y : RS) (q : PLS) (p0 : Int32) (hbad : ¬ (inI p0 0 3 = 1)) : CX l g y_SP_sweeps b_SP_sweeps 2 (some .int) 8 162 [.ref (ad 0), .int p0] (wS g ad k x y q) R_IA := by
  refine CX.of (by decide +kernel) (Nat.le_of_ble_eq_true rfl) ?_
  intro p e s m below meth c A ls C htab hlocks hP hD hl hS
  obtain ⟨hx, hb, hml, hown, hw, hE, hA⟩ := id C
  have hH : ∀ x : Nat, x < s.heap.size → s.heap[x]? = s.heap[x]? := fun _ _ => rfl
  have hHs : s.heap.size ≤ s.heap.size := Nat.le_refl _
  have hl : lv_has ls 2 [(0, .ref (ad 0)), (1, .int p0)] := hl
  refine lv_iload_n hx hb d_SP_sweeps_0 rfl (lv_at hl 1 rfl) ?_
  refine lv_iconst (v := 0) hx hb d_SP_sweeps_1 (by decide) ?_
  refine lv_iconst (v := 3) hx hb d_SP_sweeps_2 (by decide) ?_
  by_cases v0 : inI p0 0 3 = 1
  rotate_left
  · exact xsOut C htab hlocks v_SP_35 [.int p0, .int 0, .int 3] [] (c_SP_demandWithin_x l g hfl p0 0 3 v0) hH hHs rfl rfl hl.1 (Nat.le_of_ble_eq_true rfl) ⟨Nat.le_of_ble_eq_true rfl, Nat.le_of_ble_eq_true rfl⟩ ⟨Nat.le_refl _, Nat.le_refl _⟩ d_SP_sweeps_3
  exact absurd v0 hbad
set_option maxHeartbeats 4000000 in
set_option maxRecDepth 100000 in
theorem c_SP_sweeps_2 (l : Launch) (g : Glob) (hfl : l.flags = pinnedFlags ++ [noTraceFlag]) (ad : Nat → Nat) (k : CFG) (x y : RS) (q : PLS) (p0 : Int32) (v0 : inI p0 0 3 = 1) (h0 : k.2.1 0 = 0) : CX l g y_SP_sweeps b_SP_sweeps 2 (some .int) 8 162 [.ref (ad 0), .int p0] (wS g ad k x y q) R_IS := by
  refine CX.of (by decide +kernel) (Nat.le_of_ble_eq_true rfl) ?_
  intro p e s m below meth c A ls C htab hlocks hP hD hl hS
  obtain ⟨hx, hb, hml, hown, hw, hE, hA⟩ := id C
  have hH : ∀ x : Nat, x < s.heap.size → s.heap[x]? = s.heap[x]? := fun _ _ => rfl
  have hHs : s.heap.size ≤ s.heap.size := Nat.le_refl _
  have hl : lv_has ls 2 [(0, .ref (ad 0)), (1, .int p0)] := hl
  refine lv_iload_n hx hb d_SP_sweeps_0 rfl (lv_at hl 1 rfl) ?_
  refine lv_iconst (v := 0) hx hb d_SP_sweeps_1 (by decide) ?_
  refine lv_iconst (v := 3) hx hb d_SP_sweeps_2 (by decide) ?_
  refine csU0 C v_SP_35 [.int p0, .int 0, .int 3] [] (c_SP_demandWithin l g p0 0 3 v0) hP hH hHs rfl rfl hl.1 (Nat.le_of_ble_eq_true rfl) ⟨Nat.le_of_ble_eq_true rfl, Nat.le_of_ble_eq_true rfl⟩ d_SP_sweeps_3 ⟨Nat.zero_le _, Nat.zero_le _⟩ (fun H hP hH hHs => ?_)
  refine lv_aload_n hx hb d_SP_sweeps_6 rfl (lv_at hl 0 rfl) ?_
  exact xvOut C htab hlocks v_SP_100 [] [] (c_SP_demandSomeBody_x l g hfl ad k x y q h0) hP hD hH hHs [0, 1, 2, 3, 4, 5, 6, 7, 8, 9, 10, 11, 12, 13, 14, 15, 16, 17, 18, 19, 20, 21, 22, 23, 24, 25, 26, 27, 28, 29, 30, 31, 32, 33, 34, 35, 36, 37, 38] rfl (by decide) 0 rfl rfl rfl rfl hl.1 (Nat.le_of_ble_eq_true rfl) ⟨Nat.le_of_ble_eq_true rfl, Nat.le_of_ble_eq_true rfl⟩ ⟨Nat.le_refl _, Nat.le_refl _⟩ d_SP_sweeps_7
set_option maxHeartbeats 4000000 in
set_option maxRecDepth 100000 in
theorem c_SP_sweeps_0_0 (l : Launch) (g : Glob) (ad : Nat → Nat) (k : CFG) (x y : RS) (q : PLS) (n : Nat) (hn : k.2.1 0 = nI n) (h3 : n ≤ 3) (np : Nat) (hp : k.2.1 1 = nI np) (h20 : np ≤ 20) (v0 : inI (nI 0) 0 3 = 1) (h0 : ¬ k.2.1 0 = 0) (mm : Nat) (hm : (q 0).2.2.2 = nI mm) (h6 : mm ≤ 6) (hst : ∀ i, i < mm → (¬ (q 0).2.1 i < 0) ∧ ((q 0).2.1 i).toNatClampNeg ≤ 1000000) : CI l g y_SP_sweeps b_SP_sweeps 2 (some .int) 8 162 [.ref (ad 0), .int (nI 0)] (wS g ad k x y q) ((followF k n np (q 0) mm y).2.2.1) (wS g ad k x (followF k n np (q 0) mm y) q) := by
  refine CI.of .int rfl rfl (by decide +kernel) (Nat.le_of_ble_eq_true rfl) ?_
  intro p e s m below meth c A Q ls C hP hD hl hret hS
  obtain ⟨hx, hb, hml, hown, hw, hE, hA⟩ := id C
  have hl : lv_has ls 2 [(0, .ref (ad 0)), (1, .int (nI 0))] := hl
  refine lv_iload_n hx hb d_SP_sweeps_0 rfl (lv_at hl 1 rfl) ?_
  refine lv_iconst (v := 0) hx hb d_SP_sweeps_1 (by decide) ?_
  refine lv_iconst (v := 3) hx hb d_SP_sweeps_2 (by decide) ?_
  refine csU C v_SP_35 [.int (nI 0), .int 0, .int 3] [] (c_SP_demandWithin l g (nI 0) 0 3 v0) hP hS rfl rfl hl.1 (Nat.le_of_ble_eq_true rfl) ⟨Nat.le_of_ble_eq_true rfl, Nat.le_of_ble_eq_true rfl⟩ d_SP_sweeps_3 ⟨Nat.zero_le _, Nat.zero_le _⟩ (fun H locs hP hS => ?_)
  refine lv_aload_n hx hb d_SP_sweeps_6 rfl (lv_at hl 0 rfl) ?_
  refine cvV C v_SP_100 [] [] (c_SP_demandSomeBody l g ad k x y q h0) hP hD hS [0, 1, 2, 3, 4, 5, 6, 7, 8, 9, 10, 11, 12, 13, 14, 15, 16, 17, 18, 19, 20, 21, 22, 23, 24, 25, 26, 27, 28, 29, 30, 31, 32, 33, 34, 35, 36, 37, 38] [] [0, 1, 2, 3, 4, 5, 6, 7, 8, 9, 10, 11, 12, 13, 14, 15, 16, 17, 18, 19, 20, 21, 22, 23, 24, 25, 26, 27, 28, 29, 30, 31, 32, 33, 34, 35, 36, 37, 38] [] (wS g ad k x y q) rfl rfl (by decide) (by decide) (by decide) rfl (by decide) 0 rfl rfl rfl rfl hl.1 (Nat.le_of_ble_eq_true rfl) ⟨Nat.le_of_ble_eq_true rfl, Nat.le_of_ble_eq_true rfl⟩ d_SP_sweeps_7 ⟨Nat.zero_le _, Nat.zero_le _⟩ (fun H locs hP hD hS => ?_)
  refine lv_aload_n hx hb d_SP_sweeps_10 rfl (lv_at hl 0 rfl) ?_
  refine va_get (D := g.1) (ci := 0) (v := .ref (ad 15)) (C := R_SP) (T := F_SP) (N := 4) hx hb hw i_SP hown hE.1 hP 0 rfl rfl 2 (by decide) (hw _ q_216) (fun _ h9 => h9) rfl d_SP_sweeps_11 ?_
  refine lv_aload_n hx hb d_SP_sweeps_14 rfl (lv_at hl 0 rfl) ?_
  refine va_get (D := g.1) (ci := 0) (v := .ref (ad 22)) (C := R_SP) (T := F_SP) (N := 4) hx hb hw i_SP hown hE.1 hP 0 rfl rfl 3 (by decide) (hw _ q_217) (fun _ h9 => h9) rfl d_SP_sweeps_15 ?_
  refine lv_iload_n hx hb d_SP_sweeps_18 rfl (lv_at hl 1 rfl) ?_
  refine va_aldq hx hb hE.1 hP 22 5 rfl rfl (by unfold vp_in; decide) d_SP_sweeps_19 ?_
  rw [show ((nI 0) : Int32).toNatClampNeg = 0 from by decide]
  refine cvV C v_SP_173 [.ref (ad 23)] [] (c_Ru_follow l g (mp (trL 0) ad) k y n hn h3 np hp h20 (q 0) mm hm h6 hst) hP hD hS [15, 1, 2, 3, 4, 5, 16, 17, 18, 19, 20, 21, 6, 7, 23, 24, 25, 26] [0, 8, 9, 10, 11, 12, 13, 14, 22, 27, 28, 29, 30, 31, 32, 33, 34, 35, 36, 37, 38] [0, 22, 23, 24, 25, 26, 33, 34, 1, 2, 3, 4, 5, 6, 7, 21, 27, 28, 29, 30, 31, 32, 8, 35, 36, 37, 38, 9, 10, 11, 12, 13, 14, 15, 16, 17, 18, 19, 20] [((ad 0), .inr (0, [.ref (ad 1), .ref (ad 8), .ref (ad 15), .ref (ad 22)])), ((ad 8), .inr (4, [.ref (ad 9), .ref (ad 13), .int (x.2.1 0), .int (x.2.1 1), .int (x.2.1 2), .int (x.2.1 3), .int (x.2.1 4), .ref (ad 1)])), ((ad 9), .inl (g.2.1 4, 3, .inr (.inr (.inr (.inr (fun j => [ad 10, ad 11, ad 12][j]?)))))), ((ad 10), .inr (3, [.int (x.1 0 0), .int (x.1 1 0), .int (x.1 2 0), .int (x.1 3 0), .int (x.1 4 0)])), ((ad 11), .inr (3, [.int (x.1 0 1), .int (x.1 1 1), .int (x.1 2 1), .int (x.1 3 1), .int (x.1 4 1)])), ((ad 12), .inr (3, [.int (x.1 0 2), .int (x.1 1 2), .int (x.1 2 2), .int (x.1 3 2), .int (x.1 4 2)])), ((ad 13), .inr (1, [.ref (ad 14), .int x.2.2.1])), ((ad 14), .inl (g.2.1 1, 64, .inr (.inl x.2.2.2))), ((ad 22), .inl (g.2.1 5, 4, .inr (.inr (.inr (.inr (fun j => [ad 23, ad 27, ad 31, ad 35][j]?)))))), ((ad 27), .inr (2, [.ref (ad 28), .ref (ad 29), .ref (ad 30), .int ((q 1).2.2.2)])), ((ad 28), .inl (g.2.1 0, 6, .inl ((q 1).1))), ((ad 29), .inl (g.2.1 0, 6, .inl ((q 1).2.1))), ((ad 30), .inl (g.2.1 2, 6, .inl ((q 1).2.2.1))), ((ad 31), .inr (2, [.ref (ad 32), .ref (ad 33), .ref (ad 34), .int ((q 2).2.2.2)])), ((ad 32), .inl (g.2.1 0, 6, .inl ((q 2).1))), ((ad 33), .inl (g.2.1 0, 6, .inl ((q 2).2.1))), ((ad 34), .inl (g.2.1 2, 6, .inl ((q 2).2.2.1))), ((ad 35), .inr (2, [.ref (ad 36), .ref (ad 37), .ref (ad 38), .int ((q 3).2.2.2)])), ((ad 36), .inl (g.2.1 0, 6, .inl ((q 3).1))), ((ad 37), .inl (g.2.1 0, 6, .inl ((q 3).2.1))), ((ad 38), .inl (g.2.1 2, 6, .inl ((q 3).2.2.1)))] (wS g ad k x (followF k n np (q 0) mm y) q) rfl rfl (by decide) (by decide) (by decide) rfl (by decide) 0 rfl rfl rfl rfl hl.1 (Nat.le_of_ble_eq_true rfl) ⟨Nat.le_of_ble_eq_true rfl, Nat.le_of_ble_eq_true rfl⟩ d_SP_sweeps_20 ⟨Nat.zero_le _, Nat.zero_le _⟩ (fun H locs hP hD hS => ?_)
  refine lv_aload_n hx hb d_SP_sweeps_23 rfl (lv_at hl 0 rfl) ?_
  refine va_get (D := g.1) (ci := 0) (v := .ref (ad 15)) (C := R_SP) (T := F_SP) (N := 4) hx hb hw i_SP hown hE.1 hP 0 rfl rfl 2 (by decide) (hw _ q_216) (fun _ h9 => h9) rfl d_SP_sweeps_24 ?_
  refine va_get (D := g.1) (ci := 4) (v := .ref (ad 20)) (C := R_Ru) (T := F_Ru) (N := 8) hx hb hw i_Ru hown hE.1 hP 15 rfl rfl 1 (by decide) (hw _ q_159) (fun _ h9 => h9) rfl d_SP_sweeps_27 ?_
  refine va_get (D := g.1) (ci := 1) (v := .int ((followF k n np (q 0) mm y).2.2.1)) (C := R_Ce) (T := F_Ce) (N := 2) hx hb hw i_Ce hown hE.1 hP 20 rfl rfl 1 (by decide) (hw _ q_149) (fun _ h9 => h9) rfl d_SP_sweeps_30 ?_
  exact hret _ _ _ _ _ _ rfl rfl hP hD hS d_SP_sweeps_33
set_option maxHeartbeats 4000000 in
set_option maxRecDepth 100000 in
theorem c_SP_sweeps_0_1 (l : Launch) (g : Glob) (ad : Nat → Nat) (k : CFG) (x y : RS) (q : PLS) (n : Nat) (hn : k.2.1 0 = nI n) (h3 : n ≤ 3) (np : Nat) (hp : k.2.1 1 = nI np) (h20 : np ≤ 20) (v0 : inI (nI 1) 0 3 = 1) (h0 : ¬ k.2.1 0 = 0) (mm : Nat) (hm : (q 1).2.2.2 = nI mm) (h6 : mm ≤ 6) (hst : ∀ i, i < mm → (¬ (q 1).2.1 i < 0) ∧ ((q 1).2.1 i).toNatClampNeg ≤ 1000000) : CI l g y_SP_sweeps b_SP_sweeps 2 (some .int) 8 162 [.ref (ad 0), .int (nI 1)] (wS g ad k x y q) ((followF k n np (q 1) mm y).2.2.1) (wS g ad k x (followF k n np (q 1) mm y) q) := by
  refine CI.of .int rfl rfl (by decide +kernel) (Nat.le_of_ble_eq_true rfl) ?_
  intro p e s m below meth c A Q ls C hP hD hl hret hS
  obtain ⟨hx, hb, hml, hown, hw, hE, hA⟩ := id C
  have hl : lv_has ls 2 [(0, .ref (ad 0)), (1, .int (nI 1))] := hl
  refine lv_iload_n hx hb d_SP_sweeps_0 rfl (lv_at hl 1 rfl) ?_
  refine lv_iconst (v := 0) hx hb d_SP_sweeps_1 (by decide) ?_
  refine lv_iconst (v := 3) hx hb d_SP_sweeps_2 (by decide) ?_
  refine csU C v_SP_35 [.int (nI 1), .int 0, .int 3] [] (c_SP_demandWithin l g (nI 1) 0 3 v0) hP hS rfl rfl hl.1 (Nat.le_of_ble_eq_true rfl) ⟨Nat.le_of_ble_eq_true rfl, Nat.le_of_ble_eq_true rfl⟩ d_SP_sweeps_3 ⟨Nat.zero_le _, Nat.zero_le _⟩ (fun H locs hP hS => ?_)
  refine lv_aload_n hx hb d_SP_sweeps_6 rfl (lv_at hl 0 rfl) ?_
  refine cvV C v_SP_100 [] [] (c_SP_demandSomeBody l g ad k x y q h0) hP hD hS [0, 1, 2, 3, 4, 5, 6, 7, 8, 9, 10, 11, 12, 13, 14, 15, 16, 17, 18, 19, 20, 21, 22, 23, 24, 25, 26, 27, 28, 29, 30, 31, 32, 33, 34, 35, 36, 37, 38] [] [0, 1, 2, 3, 4, 5, 6, 7, 8, 9, 10, 11, 12, 13, 14, 15, 16, 17, 18, 19, 20, 21, 22, 23, 24, 25, 26, 27, 28, 29, 30, 31, 32, 33, 34, 35, 36, 37, 38] [] (wS g ad k x y q) rfl rfl (by decide) (by decide) (by decide) rfl (by decide) 0 rfl rfl rfl rfl hl.1 (Nat.le_of_ble_eq_true rfl) ⟨Nat.le_of_ble_eq_true rfl, Nat.le_of_ble_eq_true rfl⟩ d_SP_sweeps_7 ⟨Nat.zero_le _, Nat.zero_le _⟩ (fun H locs hP hD hS => ?_)
  refine lv_aload_n hx hb d_SP_sweeps_10 rfl (lv_at hl 0 rfl) ?_
  refine va_get (D := g.1) (ci := 0) (v := .ref (ad 15)) (C := R_SP) (T := F_SP) (N := 4) hx hb hw i_SP hown hE.1 hP 0 rfl rfl 2 (by decide) (hw _ q_216) (fun _ h9 => h9) rfl d_SP_sweeps_11 ?_
  refine lv_aload_n hx hb d_SP_sweeps_14 rfl (lv_at hl 0 rfl) ?_
  refine va_get (D := g.1) (ci := 0) (v := .ref (ad 22)) (C := R_SP) (T := F_SP) (N := 4) hx hb hw i_SP hown hE.1 hP 0 rfl rfl 3 (by decide) (hw _ q_217) (fun _ h9 => h9) rfl d_SP_sweeps_15 ?_
  refine lv_iload_n hx hb d_SP_sweeps_18 rfl (lv_at hl 1 rfl) ?_
  refine va_aldq hx hb hE.1 hP 22 5 rfl rfl (by unfold vp_in; decide) d_SP_sweeps_19 ?_
  rw [show ((nI 1) : Int32).toNatClampNeg = 1 from by decide]
  refine cvV C v_SP_173 [.ref (ad 27)] [] (c_Ru_follow l g (mp (trL 1) ad) k y n hn h3 np hp h20 (q 1) mm hm h6 hst) hP hD hS [15, 1, 2, 3, 4, 5, 16, 17, 18, 19, 20, 21, 6, 7, 27, 28, 29, 30] [0, 8, 9, 10, 11, 12, 13, 14, 22, 23, 24, 25, 26, 31, 32, 33, 34, 35, 36, 37, 38] [0, 22, 23, 24, 25, 26, 33, 34, 1, 2, 3, 4, 5, 6, 7, 21, 27, 28, 29, 30, 31, 32, 8, 9, 10, 11, 12, 35, 36, 37, 38, 13, 14, 15, 16, 17, 18, 19, 20] [((ad 0), .inr (0, [.ref (ad 1), .ref (ad 8), .ref (ad 15), .ref (ad 22)])), ((ad 8), .inr (4, [.ref (ad 9), .ref (ad 13), .int (x.2.1 0), .int (x.2.1 1), .int (x.2.1 2), .int (x.2.1 3), .int (x.2.1 4), .ref (ad 1)])), ((ad 9), .inl (g.2.1 4, 3, .inr (.inr (.inr (.inr (fun j => [ad 10, ad 11, ad 12][j]?)))))), ((ad 10), .inr (3, [.int (x.1 0 0), .int (x.1 1 0), .int (x.1 2 0), .int (x.1 3 0), .int (x.1 4 0)])), ((ad 11), .inr (3, [.int (x.1 0 1), .int (x.1 1 1), .int (x.1 2 1), .int (x.1 3 1), .int (x.1 4 1)])), ((ad 12), .inr (3, [.int (x.1 0 2), .int (x.1 1 2), .int (x.1 2 2), .int (x.1 3 2), .int (x.1 4 2)])), ((ad 13), .inr (1, [.ref (ad 14), .int x.2.2.1])), ((ad 14), .inl (g.2.1 1, 64, .inr (.inl x.2.2.2))), ((ad 22), .inl (g.2.1 5, 4, .inr (.inr (.inr (.inr (fun j => [ad 23, ad 27, ad 31, ad 35][j]?)))))), ((ad 23), .inr (2, [.ref (ad 24), .ref (ad 25), .ref (ad 26), .int ((q 0).2.2.2)])), ((ad 24), .inl (g.2.1 0, 6, .inl ((q 0).1))), ((ad 25), .inl (g.2.1 0, 6, .inl ((q 0).2.1))), ((ad 26), .inl (g.2.1 2, 6, .inl ((q 0).2.2.1))), ((ad 31), .inr (2, [.ref (ad 32), .ref (ad 33), .ref (ad 34), .int ((q 2).2.2.2)])), ((ad 32), .inl (g.2.1 0, 6, .inl ((q 2).1))), ((ad 33), .inl (g.2.1 0, 6, .inl ((q 2).2.1))), ((ad 34), .inl (g.2.1 2, 6, .inl ((q 2).2.2.1))), ((ad 35), .inr (2, [.ref (ad 36), .ref (ad 37), .ref (ad 38), .int ((q 3).2.2.2)])), ((ad 36), .inl (g.2.1 0, 6, .inl ((q 3).1))), ((ad 37), .inl (g.2.1 0, 6, .inl ((q 3).2.1))), ((ad 38), .inl (g.2.1 2, 6, .inl ((q 3).2.2.1)))] (wS g ad k x (followF k n np (q 1) mm y) q) rfl rfl (by decide) (by decide) (by decide) rfl (by decide) 0 rfl rfl rfl rfl hl.1 (Nat.le_of_ble_eq_true rfl) ⟨Nat.le_of_ble_eq_true rfl, Nat.le_of_ble_eq_true rfl⟩ d_SP_sweeps_20 ⟨Nat.zero_le _, Nat.zero_le _⟩ (fun H locs hP hD hS => ?_)
  refine lv_aload_n hx hb d_SP_sweeps_23 rfl (lv_at hl 0 rfl) ?_
  refine va_get (D := g.1) (ci := 0) (v := .ref (ad 15)) (C := R_SP) (T := F_SP) (N := 4) hx hb hw i_SP hown hE.1 hP 0 rfl rfl 2 (by decide) (hw _ q_216) (fun _ h9 => h9) rfl d_SP_sweeps_24 ?_
  refine va_get (D := g.1) (ci := 4) (v := .ref (ad 20)) (C := R_Ru) (T := F_Ru) (N := 8) hx hb hw i_Ru hown hE.1 hP 15 rfl rfl 1 (by decide) (hw _ q_159) (fun _ h9 => h9) rfl d_SP_sweeps_27 ?_
  refine va_get (D := g.1) (ci := 1) (v := .int ((followF k n np (q 1) mm y).2.2.1)) (C := R_Ce) (T := F_Ce) (N := 2) hx hb hw i_Ce hown hE.1 hP 20 rfl rfl 1 (by decide) (hw _ q_149) (fun _ h9 => h9) rfl d_SP_sweeps_30 ?_
  exact hret _ _ _ _ _ _ rfl rfl hP hD hS d_SP_sweeps_33
set_option maxHeartbeats 4000000 in
set_option maxRecDepth 100000 in
theorem c_SP_sweeps_0_2 (l : Launch) (g : Glob) (ad : Nat → Nat) (k : CFG) (x y : RS) (q : PLS) (n : Nat) (hn : k.2.1 0 = nI n) (h3 : n ≤ 3) (np : Nat) (hp : k.2.1 1 = nI np) (h20 : np ≤ 20) (v0 : inI (nI 2) 0 3 = 1) (h0 : ¬ k.2.1 0 = 0) (mm : Nat) (hm : (q 2).2.2.2 = nI mm) (h6 : mm ≤ 6) (hst : ∀ i, i < mm → (¬ (q 2).2.1 i < 0) ∧ ((q 2).2.1 i).toNatClampNeg ≤ 1000000) : CI l g y_SP_sweeps b_SP_sweeps 2 (some .int) 8 162 [.ref (ad 0), .int (nI 2)] (wS g ad k x y q) ((followF k n np (q 2) mm y).2.2.1) (wS g ad k x (followF k n np (q 2) mm y) q) := by
  refine CI.of .int rfl rfl (by decide +kernel) (Nat.le_of_ble_eq_true rfl) ?_
  intro p e s m below meth c A Q ls C hP hD hl hret hS
  obtain ⟨hx, hb, hml, hown, hw, hE, hA⟩ := id C
  have hl : lv_has ls 2 [(0, .ref (ad 0)), (1, .int (nI 2))] := hl
  refine lv_iload_n hx hb d_SP_sweeps_0 rfl (lv_at hl 1 rfl) ?_
  refine lv_iconst (v := 0) hx hb d_SP_sweeps_1 (by decide) ?_
  refine lv_iconst (v := 3) hx hb d_SP_sweeps_2 (by decide) ?_
  refine csU C v_SP_35 [.int (nI 2), .int 0, .int 3] [] (c_SP_demandWithin l g (nI 2) 0 3 v0) hP hS rfl rfl hl.1 (Nat.le_of_ble_eq_true rfl) ⟨Nat.le_of_ble_eq_true rfl, Nat.le_of_ble_eq_true rfl⟩ d_SP_sweeps_3 ⟨Nat.zero_le _, Nat.zero_le _⟩ (fun H locs hP hS => ?_)
  refine lv_aload_n hx hb d_SP_sweeps_6 rfl (lv_at hl 0 rfl) ?_
  refine cvV C v_SP_100 [] [] (c_SP_demandSomeBody l g ad k x y q h0) hP hD hS [0, 1, 2, 3, 4, 5, 6, 7, 8, 9, 10, 11, 12, 13, 14, 15, 16, 17, 18, 19, 20, 21, 22, 23, 24, 25, 26, 27, 28, 29, 30, 31, 32, 33, 34, 35, 36, 37, 38] [] [0, 1, 2, 3, 4, 5, 6, 7, 8, 9, 10, 11, 12, 13, 14, 15, 16, 17, 18, 19, 20, 21, 22, 23, 24, 25, 26, 27, 28, 29, 30, 31, 32, 33, 34, 35, 36, 37, 38] [] (wS g ad k x y q) rfl rfl (by decide) (by decide) (by decide) rfl (by decide) 0 rfl rfl rfl rfl hl.1 (Nat.le_of_ble_eq_true rfl) ⟨Nat.le_of_ble_eq_true rfl, Nat.le_of_ble_eq_true rfl⟩ d_SP_sweeps_7 ⟨Nat.zero_le _, Nat.zero_le _⟩ (fun H locs hP hD hS => ?_)
  refine lv_aload_n hx hb d_SP_sweeps_10 rfl (lv_at hl 0 rfl) ?_
  refine va_get (D := g.1) (ci := 0) (v := .ref (ad 15)) (C := R_SP) (T := F_SP) (N := 4) hx hb hw i_SP hown hE.1 hP 0 rfl rfl 2 (by decide) (hw _ q_216) (fun _ h9 => h9) rfl d_SP_sweeps_11 ?_
  refine lv_aload_n hx hb d_SP_sweeps_14 rfl (lv_at hl 0 rfl) ?_
  refine va_get (D := g.1) (ci := 0) (v := .ref (ad 22)) (C := R_SP) (T := F_SP) (N := 4) hx hb hw i_SP hown hE.1 hP 0 rfl rfl 3 (by decide) (hw _ q_217) (fun _ h9 => h9) rfl d_SP_sweeps_15 ?_
  refine lv_iload_n hx hb d_SP_sweeps_18 rfl (lv_at hl 1 rfl) ?_
  refine va_aldq hx hb hE.1 hP 22 5 rfl rfl (by unfold vp_in; decide) d_SP_sweeps_19 ?_
  rw [show ((nI 2) : Int32).toNatClampNeg = 2 from by decide]
  refine cvV C v_SP_173 [.ref (ad 31)] [] (c_Ru_follow l g (mp (trL 2) ad) k y n hn h3 np hp h20 (q 2) mm hm h6 hst) hP hD hS [15, 1, 2, 3, 4, 5, 16, 17, 18, 19, 20, 21, 6, 7, 31, 32, 33, 34] [0, 8, 9, 10, 11, 12, 13, 14, 22, 23, 24, 25, 26, 27, 28, 29, 30, 35, 36, 37, 38] [0, 22, 23, 24, 25, 26, 33, 34, 1, 2, 3, 4, 5, 6, 7, 21, 27, 28, 29, 30, 31, 32, 8, 9, 10, 11, 12, 13, 14, 15, 16, 35, 36, 37, 38, 17, 18, 19, 20] [((ad 0), .inr (0, [.ref (ad 1), .ref (ad 8), .ref (ad 15), .ref (ad 22)])), ((ad 8), .inr (4, [.ref (ad 9), .ref (ad 13), .int (x.2.1 0), .int (x.2.1 1), .int (x.2.1 2), .int (x.2.1 3), .int (x.2.1 4), .ref (ad 1)])), ((ad 9), .inl (g.2.1 4, 3, .inr (.inr (.inr (.inr (fun j => [ad 10, ad 11, ad 12][j]?)))))), ((ad 10), .inr (3, [.int (x.1 0 0), .int (x.1 1 0), .int (x.1 2 0), .int (x.1 3 0), .int (x.1 4 0)])), ((ad 11), .inr (3, [.int (x.1 0 1), .int (x.1 1 1), .int (x.1 2 1), .int (x.1 3 1), .int (x.1 4 1)])), ((ad 12), .inr (3, [.int (x.1 0 2), .int (x.1 1 2), .int (x.1 2 2), .int (x.1 3 2), .int (x.1 4 2)])), ((ad 13), .inr (1, [.ref (ad 14), .int x.2.2.1])), ((ad 14), .inl (g.2.1 1, 64, .inr (.inl x.2.2.2))), ((ad 22), .inl (g.2.1 5, 4, .inr (.inr (.inr (.inr (fun j => [ad 23, ad 27, ad 31, ad 35][j]?)))))), ((ad 23), .inr (2, [.ref (ad 24), .ref (ad 25), .ref (ad 26), .int ((q 0).2.2.2)])), ((ad 24), .inl (g.2.1 0, 6, .inl ((q 0).1))), ((ad 25), .inl (g.2.1 0, 6, .inl ((q 0).2.1))), ((ad 26), .inl (g.2.1 2, 6, .inl ((q 0).2.2.1))), ((ad 27), .inr (2, [.ref (ad 28), .ref (ad 29), .ref (ad 30), .int ((q 1).2.2.2)])), ((ad 28), .inl (g.2.1 0, 6, .inl ((q 1).1))), ((ad 29), .inl (g.2.1 0, 6, .inl ((q 1).2.1))), ((ad 30), .inl (g.2.1 2, 6, .inl ((q 1).2.2.1))), ((ad 35), .inr (2, [.ref (ad 36), .ref (ad 37), .ref (ad 38), .int ((q 3).2.2.2)])), ((ad 36), .inl (g.2.1 0, 6, .inl ((q 3).1))), ((ad 37), .inl (g.2.1 0, 6, .inl ((q 3).2.1))), ((ad 38), .inl (g.2.1 2, 6, .inl ((q 3).2.2.1)))] (wS g ad k x (followF k n np (q 2) mm y) q) rfl rfl (by decide) (by decide) (by decide) rfl (by decide) 0 rfl rfl rfl rfl hl.1 (Nat.le_of_ble_eq_true rfl) ⟨Nat.le_of_ble_eq_true rfl, Nat.le_of_ble_eq_true rfl⟩ d_SP_sweeps_20 ⟨Nat.zero_le _, Nat.zero_le _⟩ (fun H locs hP hD hS => ?_)
  refine lv_aload_n hx hb d_SP_sweeps_23 rfl (lv_at hl 0 rfl) ?_
  refine va_get (D := g.1) (ci := 0) (v := .ref (ad 15)) (C := R_SP) (T := F_SP) (N := 4) hx hb hw i_SP hown hE.1 hP 0 rfl rfl 2 (by decide) (hw _ q_216) (fun _ h9 => h9) rfl d_SP_sweeps_24 ?_
  refine va_get (D := g.1) (ci := 4) (v := .ref (ad 20)) (C := R_Ru) (T := F_Ru) (N := 8) hx hb hw i_Ru hown hE.1 hP 15 rfl rfl 1 (by decide) (hw _ q_159) (fun _ h9 => h9) rfl d_SP_sweeps_27 ?_
  refine va_get (D := g.1) (ci := 1) (v := .int ((followF k n np (q 2) mm y).2.2.1)) (C := R_Ce) (T := F_Ce) (N := 2) hx hb hw i_Ce hown hE.1 hP 20 rfl rfl 1 (by decide) (hw _ q_149) (fun _ h9 => h9) rfl d_SP_sweeps_30 ?_
  exact hret _ _ _ _ _ _ rfl rfl hP hD hS d_SP_sweeps_33
set_option maxHeartbeats 4000000 in
set_option maxRecDepth 100000 in
theorem c_SP_sweeps_0_3 (l : Launch) (g : Glob) (ad : Nat → Nat) (k : CFG) (x y : RS) (q : PLS) (n : Nat) (hn : k.2.1 0 = nI n) (h3 : n ≤ 3) (np : Nat) (hp : k.2.1 1 = nI np) (h20 : np ≤ 20) (v0 : inI (nI 3) 0 3 = 1) (h0 : ¬ k.2.1 0 = 0) (mm : Nat) (hm : (q 3).2.2.2 = nI mm) (h6 : mm ≤ 6) (hst : ∀ i, i < mm → (¬ (q 3).2.1 i < 0) ∧ ((q 3).2.1 i).toNatClampNeg ≤ 1000000) : CI l g y_SP_sweeps b_SP_sweeps 2 (some .int) 8 162 [.ref (ad 0), .int (nI 3)] (wS g ad k x y q) ((followF k n np (q 3) mm y).2.2.1) (wS g ad k x (followF k n np (q 3) mm y) q) := by
  refine CI.of .int rfl rfl (by decide +kernel) (Nat.le_of_ble_eq_true rfl) ?_
  intro p e s m below meth c A Q ls C hP hD hl hret hS
  obtain ⟨hx, hb, hml, hown, hw, hE, hA⟩ := id C
  have hl : lv_has ls 2 [(0, .ref (ad 0)), (1, .int (nI 3))] := hl
  refine lv_iload_n hx hb d_SP_sweeps_0 rfl (lv_at hl 1 rfl) ?_
  refine lv_iconst (v := 0) hx hb d_SP_sweeps_1 (by decide) ?_
  refine lv_iconst (v := 3) hx hb d_SP_sweeps_2 (by decide) ?_
  refine csU C v_SP_35 [.int (nI 3), .int 0, .int 3] [] (c_SP_demandWithin l g (nI 3) 0 3 v0) hP hS rfl rfl hl.1 (Nat.le_of_ble_eq_true rfl) ⟨Nat.le_of_ble_eq_true rfl, Nat.le_of_ble_eq_true rfl⟩ d_SP_sweeps_3 ⟨Nat.zero_le _, Nat.zero_le _⟩ (fun H locs hP hS => ?_)
  refine lv_aload_n hx hb d_SP_sweeps_6 rfl (lv_at hl 0 rfl) ?_
  refine cvV C v_SP_100 [] [] (c_SP_demandSomeBody l g ad k x y q h0) hP hD hS [0, 1, 2, 3, 4, 5, 6, 7, 8, 9, 10, 11, 12, 13, 14, 15, 16, 17, 18, 19, 20, 21, 22, 23, 24, 25, 26, 27, 28, 29, 30, 31, 32, 33, 34, 35, 36, 37, 38] [] [0, 1, 2, 3, 4, 5, 6, 7, 8, 9, 10, 11, 12, 13, 14, 15, 16, 17, 18, 19, 20, 21, 22, 23, 24, 25, 26, 27, 28, 29, 30, 31, 32, 33, 34, 35, 36, 37, 38] [] (wS g ad k x y q) rfl rfl (by decide) (by decide) (by decide) rfl (by decide) 0 rfl rfl rfl rfl hl.1 (Nat.le_of_ble_eq_true rfl) ⟨Nat.le_of_ble_eq_true rfl, Nat.le_of_ble_eq_true rfl⟩ d_SP_sweeps_7 ⟨Nat.zero_le _, Nat.zero_le _⟩ (fun H locs hP hD hS => ?_)
  refine lv_aload_n hx hb d_SP_sweeps_10 rfl (lv_at hl 0 rfl) ?_
  refine va_get (D := g.1) (ci := 0) (v := .ref (ad 15)) (C := R_SP) (T := F_SP) (N := 4) hx hb hw i_SP hown hE.1 hP 0 rfl rfl 2 (by decide) (hw _ q_216) (fun _ h9 => h9) rfl d_SP_sweeps_11 ?_
  refine lv_aload_n hx hb d_SP_sweeps_14 rfl (lv_at hl 0 rfl) ?_
  refine va_get (D := g.1) (ci := 0) (v := .ref (ad 22)) (C := R_SP) (T := F_SP) (N := 4) hx hb hw i_SP hown hE.1 hP 0 rfl rfl 3 (by decide) (hw _ q_217) (fun _ h9 => h9) rfl d_SP_sweeps_15 ?_
  refine lv_iload_n hx hb d_SP_sweeps_18 rfl (lv_at hl 1 rfl) ?_
  refine va_aldq hx hb hE.1 hP 22 5 rfl rfl (by unfold vp_in; decide) d_SP_sweeps_19 ?_
  rw [show ((nI 3) : Int32).toNatClampNeg = 3 from by decide]
  refine cvV C v_SP_173 [.ref (ad 35)] [] (c_Ru_follow l g (mp (trL 3) ad) k y n hn h3 np hp h20 (q 3) mm hm h6 hst) hP hD hS [15, 1, 2, 3, 4, 5, 16, 17, 18, 19, 20, 21, 6, 7, 35, 36, 37, 38] [0, 8, 9, 10, 11, 12, 13, 14, 22, 23, 24, 25, 26, 27, 28, 29, 30, 31, 32, 33, 34] [0, 22, 23, 24, 25, 26, 33, 34, 1, 2, 3, 4, 5, 6, 7, 21, 27, 28, 29, 30, 31, 32, 8, 9, 10, 11, 12, 13, 14, 15, 16, 17, 18, 19, 20, 35, 36, 37, 38] [((ad 0), .inr (0, [.ref (ad 1), .ref (ad 8), .ref (ad 15), .ref (ad 22)])), ((ad 8), .inr (4, [.ref (ad 9), .ref (ad 13), .int (x.2.1 0), .int (x.2.1 1), .int (x.2.1 2), .int (x.2.1 3), .int (x.2.1 4), .ref (ad 1)])), ((ad 9), .inl (g.2.1 4, 3, .inr (.inr (.inr (.inr (fun j => [ad 10, ad 11, ad 12][j]?)))))), ((ad 10), .inr (3, [.int (x.1 0 0), .int (x.1 1 0), .int (x.1 2 0), .int (x.1 3 0), .int (x.1 4 0)])), ((ad 11), .inr (3, [.int (x.1 0 1), .int (x.1 1 1), .int (x.1 2 1), .int (x.1 3 1), .int (x.1 4 1)])), ((ad 12), .inr (3, [.int (x.1 0 2), .int (x.1 1 2), .int (x.1 2 2), .int (x.1 3 2), .int (x.1 4 2)])), ((ad 13), .inr (1, [.ref (ad 14), .int x.2.2.1])), ((ad 14), .inl (g.2.1 1, 64, .inr (.inl x.2.2.2))), ((ad 22), .inl (g.2.1 5, 4, .inr (.inr (.inr (.inr (fun j => [ad 23, ad 27, ad 31, ad 35][j]?)))))), ((ad 23), .inr (2, [.ref (ad 24), .ref (ad 25), .ref (ad 26), .int ((q 0).2.2.2)])), ((ad 24), .inl (g.2.1 0, 6, .inl ((q 0).1))), ((ad 25), .inl (g.2.1 0, 6, .inl ((q 0).2.1))), ((ad 26), .inl (g.2.1 2, 6, .inl ((q 0).2.2.1))), ((ad 27), .inr (2, [.ref (ad 28), .ref (ad 29), .ref (ad 30), .int ((q 1).2.2.2)])), ((ad 28), .inl (g.2.1 0, 6, .inl ((q 1).1))), ((ad 29), .inl (g.2.1 0, 6, .inl ((q 1).2.1))), ((ad 30), .inl (g.2.1 2, 6, .inl ((q 1).2.2.1))), ((ad 31), .inr (2, [.ref (ad 32), .ref (ad 33), .ref (ad 34), .int ((q 2).2.2.2)])), ((ad 32), .inl (g.2.1 0, 6, .inl ((q 2).1))), ((ad 33), .inl (g.2.1 0, 6, .inl ((q 2).2.1))), ((ad 34), .inl (g.2.1 2, 6, .inl ((q 2).2.2.1)))] (wS g ad k x (followF k n np (q 3) mm y) q) rfl rfl (by decide) (by decide) (by decide) rfl (by decide) 0 rfl rfl rfl rfl hl.1 (Nat.le_of_ble_eq_true rfl) ⟨Nat.le_of_ble_eq_true rfl, Nat.le_of_ble_eq_true rfl⟩ d_SP_sweeps_20 ⟨Nat.zero_le _, Nat.zero_le _⟩ (fun H locs hP hD hS => ?_)
  refine lv_aload_n hx hb d_SP_sweeps_23 rfl (lv_at hl 0 rfl) ?_
  refine va_get (D := g.1) (ci := 0) (v := .ref (ad 15)) (C := R_SP) (T := F_SP) (N := 4) hx hb hw i_SP hown hE.1 hP 0 rfl rfl 2 (by decide) (hw _ q_216) (fun _ h9 => h9) rfl d_SP_sweeps_24 ?_
  refine va_get (D := g.1) (ci := 4) (v := .ref (ad 20)) (C := R_Ru) (T := F_Ru) (N := 8) hx hb hw i_Ru hown hE.1 hP 15 rfl rfl 1 (by decide) (hw _ q_159) (fun _ h9 => h9) rfl d_SP_sweeps_27 ?_
  refine va_get (D := g.1) (ci := 1) (v := .int ((followF k n np (q 3) mm y).2.2.1)) (C := R_Ce) (T := F_Ce) (N := 2) hx hb hw i_Ce hown hE.1 hP 20 rfl rfl 1 (by decide) (hw _ q_149) (fun _ h9 => h9) rfl d_SP_sweeps_30 ?_
  exact hret _ _ _ _ _ _ rfl rfl hP hD hS d_SP_sweeps_33
set_option maxHeartbeats 4000000 in
theorem c_SP_sweeps_0 (l : Launch) (g : Glob) (ad : Nat → Nat) (k : CFG) (x y : RS) (q : PLS) (n : Nat) (hn : k.2.1 0 = nI n) (h3 : n ≤ 3) (np : Nat) (hp : k.2.1 1 = nI np) (h20 : np ≤ 20) (pl : Nat) (hpl : pl < 4) (v0 : inI (nI pl) 0 3 = 1) (h0 : ¬ k.2.1 0 = 0) (mm : Nat) (hm : (q pl).2.2.2 = nI mm) (h6 : mm ≤ 6) (hst : ∀ i, i < mm → (¬ (q pl).2.1 i < 0) ∧ ((q pl).2.1 i).toNatClampNeg ≤ 1000000) : CI l g y_SP_sweeps b_SP_sweeps 2 (some .int) 8 162 [.ref (ad 0), .int (nI pl)] (wS g ad k x y q) ((followF k n np (q pl) mm y).2.2.1) (wS g ad k x (followF k n np (q pl) mm y) q) := by
  rcases (show pl = 0 ∨ pl = 1 ∨ pl = 2 ∨ pl = 3 by omega) with rfl | rfl | rfl | rfl
  · exact c_SP_sweeps_0_0 l g ad k x y q n hn h3 np hp h20 v0 h0 mm hm h6 hst
  · exact c_SP_sweeps_0_1 l g ad k x y q n hn h3 np hp h20 v0 h0 mm hm h6 hst
  · exact c_SP_sweeps_0_2 l g ad k x y q n hn h3 np hp h20 v0 h0 mm hm h6 hst
  · exact c_SP_sweeps_0_3 l g ad k x y q n hn h3 np hp h20 v0 h0 mm hm h6 hst
set_option maxHeartbeats 4000000 in
set_option maxRecDepth 100000 in
theorem c_SP_best_1 (l : Launch) (g : Glob) (hfl : l.flags = pinnedFlags ++ [noTraceFlag]) (ad : Nat → Nat) (k : CFG) (x y : RS) (q : PLS) (h0 : k.2.1 0 = 0) : CX l g y_SP_best b_SP_best 4 (some .int) 8 160 [.ref (ad 0)] (wS g ad k x y q) R_IS := by
  refine CX.of (by decide +kernel) (Nat.le_of_ble_eq_true rfl) ?_
  intro p e s m below meth c A ls C htab hlocks hP hD hl hS
  obtain ⟨hx, hb, hml, hown, hw, hE, hA⟩ := id C
  have hH : ∀ x : Nat, x < s.heap.size → s.heap[x]? = s.heap[x]? := fun _ _ => rfl
  have hHs : s.heap.size ≤ s.heap.size := Nat.le_refl _
  have hl : lv_has ls 4 [(0, .ref (ad 0))] := hl
  refine lv_aload_n hx hb d_SP_best_0 rfl (lv_at hl 0 rfl) ?_
  exact xvOut C htab hlocks v_SP_100 [] [] (c_SP_demandSomeBody_x l g hfl ad k x y q h0) hP hD hH hHs [0, 1, 2, 3, 4, 5, 6, 7, 8, 9, 10, 11, 12, 13, 14, 15, 16, 17, 18, 19, 20, 21, 22, 23, 24, 25, 26, 27, 28, 29, 30, 31, 32, 33, 34, 35, 36, 37, 38] rfl (by decide) 0 rfl rfl rfl rfl hl.1 (Nat.le_of_ble_eq_true rfl) ⟨Nat.le_of_ble_eq_true rfl, Nat.le_of_ble_eq_true rfl⟩ ⟨Nat.le_refl _, Nat.le_refl _⟩ d_SP_best_1
set_option maxHeartbeats 4000000 in
set_option maxRecDepth 100000 in
theorem c_SP_best_0 (l : Launch) (g : Glob) (ad : Nat → Nat) (k : CFG) (x y : RS) (q : PLS) (n : Nat) (hn : k.2.1 0 = nI n) (h3 : n ≤ 3) (np : Nat) (hp : k.2.1 1 = nI np) (h20 : np ≤ 20) (mm : Nat → Nat) (hmm : ∀ p, p < 4 → (q p).2.2.2 = nI (mm p) ∧ mm p ≤ 6 ∧ ∀ i, i < mm p → (¬ (q p).2.1 i < 0) ∧ ((q p).2.1 i).toNatClampNeg ≤ 1000000) (h0 : ¬ k.2.1 0 = 0) : CI l g y_SP_best b_SP_best 4 (some .int) 8 160 [.ref (ad 0)] (wS g ad k x y q) ((bestF k n np q mm y).1) (wS g ad k x (bestF k n np q mm y).2.2 q) := by
  refine CI.of .int rfl rfl (by decide +kernel) (Nat.le_of_ble_eq_true rfl) ?_
  intro p e s m below meth c A Q ls C hP hD hl hret hS
  obtain ⟨hx, hb, hml, hown, hw, hE, hA⟩ := id C
  have hl : lv_has ls 4 [(0, .ref (ad 0))] := hl
  unfold bestF at hret
  refine lv_aload_n hx hb d_SP_best_0 rfl (lv_at hl 0 rfl) ?_
  refine cvV C v_SP_100 [] [] (c_SP_demandSomeBody l g ad k x y q h0) hP hD hS [0, 1, 2, 3, 4, 5, 6, 7, 8, 9, 10, 11, 12, 13, 14, 15, 16, 17, 18, 19, 20, 21, 22, 23, 24, 25, 26, 27, 28, 29, 30, 31, 32, 33, 34, 35, 36, 37, 38] [] [0, 1, 2, 3, 4, 5, 6, 7, 8, 9, 10, 11, 12, 13, 14, 15, 16, 17, 18, 19, 20, 21, 22, 23, 24, 25, 26, 27, 28, 29, 30, 31, 32, 33, 34, 35, 36, 37, 38] [] (wS g ad k x y q) rfl rfl (by decide) (by decide) (by decide) rfl (by decide) 0 rfl rfl rfl rfl hl.1 (Nat.le_of_ble_eq_true rfl) ⟨Nat.le_of_ble_eq_true rfl, Nat.le_of_ble_eq_true rfl⟩ d_SP_best_1 ⟨Nat.zero_le _, Nat.zero_le _⟩ (fun H locs hP hD hS => ?_)
  refine lv_iconst (v := (-1)) hx hb d_SP_best_4 (by decide) ?_
  refine lv_istore_n (lv' := [(1, .int (-1)), (0, .ref (ad 0))]) hx hb d_SP_best_5 rfl hl (by decide) rfl (fun ls hl => ?_)
  refine lv_iconst (v := 0) hx hb d_SP_best_6 (by decide) ?_
  refine lv_istore_n (lv' := [(2, .int 0), (1, .int (-1)), (0, .ref (ad 0))]) hx hb d_SP_best_7 rfl hl (by decide) rfl (fun ls hl => ?_)
  refine lv_iconst (v := 0) hx hb d_SP_best_8 (by decide) ?_
  refine lv_istore_n (lv' := [(3, .int 0), (2, .int 0), (1, .int (-1)), (0, .ref (ad 0))]) hx hb d_SP_best_9 rfl hl (by decide) rfl (fun ls hl => ?_)
  generalize h9 : itF (bstF k n np q mm) 4 0 (-1, 0, y) = z9 at hret
  have lp : ∀ (j : Nat) (i : Nat) (z : BF) (H : Heap) (locs : List Loc) (ls : Array Slot), i ≤ 4 → 4 < i + j → itF (bstF k n np q mm) 4 i z = z9 → va_P g.1 classes (wS g ad k x z.2.2 q) H → va_D A (wS g ad k x z.2.2 q) → va_S A s.heap H locs → lv_has ls 4 [(3, .int (nI i)), (2, .int z.2.1), (1, .int z.1), (0, .ref (ad 0))] → W p l e { frames := 8, cells := 0, slots := 0, locals := 160 } s m ([.ref (ad 0)] : List Value).toArray below meth c H locs 0 0 Q (F0 m 10 ls []) := by
    intro j
    induction j with
    | zero =>
      intro i z H locs ls hi hj h9 hP hD hS hl
      exact absurd trivial (by omega)
    | succ j ih =>
      intro i z H locs ls hi hj h9 hP hD hS hl
      refine lv_iload_n hx hb d_SP_best_10 rfl (lv_at hl 0 rfl) ?_
      refine lv_iconst (v := 4) hx hb d_SP_best_11 (by decide) ?_
      refine lv_icmp_ge (tgt := 76) hx hb d_SP_best_12 (by decide) (fun c12_1 => ?_) (fun c12_1 => ?_)
      · have h9 := (itF_end (ge_of_le' (a := 4) (n := 4) 4 rfl (Nat.le_refl _) (by decide) (by omega) c12_1)).symm.trans h9
        subst h9
        refine lv_iload_n hx hb d_SP_best_76 rfl (lv_at hl 2 rfl) ?_
        exact hret _ _ _ _ _ _ rfl rfl hP hD hS d_SP_best_77
      · have hp4 := lt_of_nle' (a := 4) (n := 4) 4 rfl (Nat.le_refl _) (by decide) (by omega) c12_1
        rcases (show i = 0 ∨ i = 1 ∨ i = 2 ∨ i = 3 by omega) with rfl | rfl | rfl | rfl
        · have hl : lv_has ls 4 [(3, .int (nI 0)), (2, .int z.2.1), (1, .int z.1), (0, .ref (ad 0))] := hl
          refine lv_aload_n hx hb d_SP_best_15 rfl (lv_at hl 3 rfl) ?_
          refine va_get (D := g.1) (ci := 0) (v := .ref (ad 15)) (C := R_SP) (T := F_SP) (N := 4) hx hb hw i_SP hown hE.1 hP 0 rfl rfl 2 (by decide) (hw _ q_216) (fun _ h9 => h9) rfl d_SP_best_16 ?_
          refine lv_aload_n hx hb d_SP_best_19 rfl (lv_at hl 3 rfl) ?_
          refine va_get (D := g.1) (ci := 0) (v := .ref (ad 22)) (C := R_SP) (T := F_SP) (N := 4) hx hb hw i_SP hown hE.1 hP 0 rfl rfl 3 (by decide) (hw _ q_217) (fun _ h9 => h9) rfl d_SP_best_20 ?_
          refine lv_iload_n hx hb d_SP_best_23 rfl (lv_at hl 0 rfl) ?_
          refine va_aldq hx hb hE.1 hP 22 5 rfl rfl (by unfold vp_in; decide) d_SP_best_24 ?_
          rw [show ((nI 0) : Int32).toNatClampNeg = 0 from by decide]
          refine cvV C v_SP_173 [.ref (ad 23)] [] (c_Ru_follow l g (mp (trL 0) ad) k z.2.2 n hn h3 np hp h20 (q 0) (mm 0) (hmm 0 (by decide)).1 (hmm 0 (by decide)).2.1 (hmm 0 (by decide)).2.2) hP hD hS [15, 1, 2, 3, 4, 5, 16, 17, 18, 19, 20, 21, 6, 7, 23, 24, 25, 26] [0, 8, 9, 10, 11, 12, 13, 14, 22, 27, 28, 29, 30, 31, 32, 33, 34, 35, 36, 37, 38] [0, 22, 23, 24, 25, 26, 33, 34, 1, 2, 3, 4, 5, 6, 7, 21, 27, 28, 29, 30, 31, 32, 8, 35, 36, 37, 38, 9, 10, 11, 12, 13, 14, 15, 16, 17, 18, 19, 20] [((ad 0), .inr (0, [.ref (ad 1), .ref (ad 8), .ref (ad 15), .ref (ad 22)])), ((ad 8), .inr (4, [.ref (ad 9), .ref (ad 13), .int (x.2.1 0), .int (x.2.1 1), .int (x.2.1 2), .int (x.2.1 3), .int (x.2.1 4), .ref (ad 1)])), ((ad 9), .inl (g.2.1 4, 3, .inr (.inr (.inr (.inr (fun j => [ad 10, ad 11, ad 12][j]?)))))), ((ad 10), .inr (3, [.int (x.1 0 0), .int (x.1 1 0), .int (x.1 2 0), .int (x.1 3 0), .int (x.1 4 0)])), ((ad 11), .inr (3, [.int (x.1 0 1), .int (x.1 1 1), .int (x.1 2 1), .int (x.1 3 1), .int (x.1 4 1)])), ((ad 12), .inr (3, [.int (x.1 0 2), .int (x.1 1 2), .int (x.1 2 2), .int (x.1 3 2), .int (x.1 4 2)])), ((ad 13), .inr (1, [.ref (ad 14), .int x.2.2.1])), ((ad 14), .inl (g.2.1 1, 64, .inr (.inl x.2.2.2))), ((ad 22), .inl (g.2.1 5, 4, .inr (.inr (.inr (.inr (fun j => [ad 23, ad 27, ad 31, ad 35][j]?)))))), ((ad 27), .inr (2, [.ref (ad 28), .ref (ad 29), .ref (ad 30), .int ((q 1).2.2.2)])), ((ad 28), .inl (g.2.1 0, 6, .inl ((q 1).1))), ((ad 29), .inl (g.2.1 0, 6, .inl ((q 1).2.1))), ((ad 30), .inl (g.2.1 2, 6, .inl ((q 1).2.2.1))), ((ad 31), .inr (2, [.ref (ad 32), .ref (ad 33), .ref (ad 34), .int ((q 2).2.2.2)])), ((ad 32), .inl (g.2.1 0, 6, .inl ((q 2).1))), ((ad 33), .inl (g.2.1 0, 6, .inl ((q 2).2.1))), ((ad 34), .inl (g.2.1 2, 6, .inl ((q 2).2.2.1))), ((ad 35), .inr (2, [.ref (ad 36), .ref (ad 37), .ref (ad 38), .int ((q 3).2.2.2)])), ((ad 36), .inl (g.2.1 0, 6, .inl ((q 3).1))), ((ad 37), .inl (g.2.1 0, 6, .inl ((q 3).2.1))), ((ad 38), .inl (g.2.1 2, 6, .inl ((q 3).2.2.1)))] (wS g ad k x (followF k n np (q 0) (mm 0) z.2.2) q) rfl rfl (by decide) (by decide) (by decide) rfl (by decide) 0 rfl rfl rfl rfl hl.1 (Nat.le_of_ble_eq_true rfl) ⟨Nat.le_of_ble_eq_true rfl, Nat.le_of_ble_eq_true rfl⟩ d_SP_best_25 ⟨Nat.zero_le _, Nat.zero_le _⟩ (fun H locs hP hD hS => ?_)
          generalize hy9 : followF k n np (q 0) (mm 0) z.2.2 = y9 at hP hD
          refine lv_aload_n hx hb d_SP_best_28 rfl (lv_at hl 3 rfl) ?_
          refine va_get (D := g.1) (ci := 0) (v := .ref (ad 15)) (C := R_SP) (T := F_SP) (N := 4) hx hb hw i_SP hown hE.1 hP 0 rfl rfl 2 (by decide) (hw _ q_216) (fun _ h9 => h9) rfl d_SP_best_29 ?_
          refine cvI C v_SP_177 [] [] (c_Ru_isFaultless l g (mp (trL 0) ad) k y9) hP hD hS [15, 1, 2, 3, 4, 5, 16, 17, 18, 19, 20, 21, 6, 7] [0, 8, 9, 10, 11, 12, 13, 14, 22, 23, 24, 25, 26, 27, 28, 29, 30, 31, 32, 33, 34, 35, 36, 37, 38] [0, 26, 27, 28, 29, 30, 37, 38, 1, 2, 3, 4, 5, 6, 7, 25, 31, 32, 33, 34, 35, 36, 8, 9, 10, 11, 12, 13, 14, 15, 16, 17, 18, 19, 20, 21, 22, 23, 24] [((ad 0), .inr (0, [.ref (ad 1), .ref (ad 8), .ref (ad 15), .ref (ad 22)])), ((ad 8), .inr (4, [.ref (ad 9), .ref (ad 13), .int (x.2.1 0), .int (x.2.1 1), .int (x.2.1 2), .int (x.2.1 3), .int (x.2.1 4), .ref (ad 1)])), ((ad 9), .inl (g.2.1 4, 3, .inr (.inr (.inr (.inr (fun j => [ad 10, ad 11, ad 12][j]?)))))), ((ad 10), .inr (3, [.int (x.1 0 0), .int (x.1 1 0), .int (x.1 2 0), .int (x.1 3 0), .int (x.1 4 0)])), ((ad 11), .inr (3, [.int (x.1 0 1), .int (x.1 1 1), .int (x.1 2 1), .int (x.1 3 1), .int (x.1 4 1)])), ((ad 12), .inr (3, [.int (x.1 0 2), .int (x.1 1 2), .int (x.1 2 2), .int (x.1 3 2), .int (x.1 4 2)])), ((ad 13), .inr (1, [.ref (ad 14), .int x.2.2.1])), ((ad 14), .inl (g.2.1 1, 64, .inr (.inl x.2.2.2))), ((ad 22), .inl (g.2.1 5, 4, .inr (.inr (.inr (.inr (fun j => [ad 23, ad 27, ad 31, ad 35][j]?)))))), ((ad 23), .inr (2, [.ref (ad 24), .ref (ad 25), .ref (ad 26), .int ((q 0).2.2.2)])), ((ad 24), .inl (g.2.1 0, 6, .inl ((q 0).1))), ((ad 25), .inl (g.2.1 0, 6, .inl ((q 0).2.1))), ((ad 26), .inl (g.2.1 2, 6, .inl ((q 0).2.2.1))), ((ad 27), .inr (2, [.ref (ad 28), .ref (ad 29), .ref (ad 30), .int ((q 1).2.2.2)])), ((ad 28), .inl (g.2.1 0, 6, .inl ((q 1).1))), ((ad 29), .inl (g.2.1 0, 6, .inl ((q 1).2.1))), ((ad 30), .inl (g.2.1 2, 6, .inl ((q 1).2.2.1))), ((ad 31), .inr (2, [.ref (ad 32), .ref (ad 33), .ref (ad 34), .int ((q 2).2.2.2)])), ((ad 32), .inl (g.2.1 0, 6, .inl ((q 2).1))), ((ad 33), .inl (g.2.1 0, 6, .inl ((q 2).2.1))), ((ad 34), .inl (g.2.1 2, 6, .inl ((q 2).2.2.1))), ((ad 35), .inr (2, [.ref (ad 36), .ref (ad 37), .ref (ad 38), .int ((q 3).2.2.2)])), ((ad 36), .inl (g.2.1 0, 6, .inl ((q 3).1))), ((ad 37), .inl (g.2.1 0, 6, .inl ((q 3).2.1))), ((ad 38), .inl (g.2.1 2, 6, .inl ((q 3).2.2.1)))] (wS g ad k x y9 q) rfl rfl (by decide) (by decide) (by decide) rfl (by decide) 0 rfl rfl rfl rfl hl.1 (Nat.le_of_ble_eq_true rfl) ⟨Nat.le_of_ble_eq_true rfl, Nat.le_of_ble_eq_true rfl⟩ d_SP_best_32 ⟨Nat.zero_le _, Nat.zero_le _⟩ (fun H locs hP hD hS => ?_)
          refine lv_if_eq (tgt := 70) hx hb d_SP_best_35 (by decide) (fun c35_2 => ?_) (fun c35_2 => ?_)
          · refine lv_iinc (v := 1) (lv' := [(3, .int 1), (2, .int z.2.1), (1, .int z.1), (0, .ref (ad 0))]) hx hb d_SP_best_70 hl (k := 0) rfl (by decide) (by decide) rfl (fun ls hl => ?_)
            refine lv_goto (tgt := 10) hx hb d_SP_best_73 (by decide) ?_
            have e1 : bstF k n np q mm 0 z = (z.1, z.2.1, y9) := by unfold bstF; rw [hy9]; exact (if_pos c35_2)
            exact ih 1 (z.1, z.2.1, y9) _ _ _ (by omega) (by omega) (it_back hp4 h9 e1) hP hD hS (lv_sub hl [0, 1, 2, 3] rfl)
          · refine lv_iload_n hx hb d_SP_best_38 rfl (lv_at hl 2 rfl) ?_
            refine lv_iconst (v := (-1)) hx hb d_SP_best_39 (by decide) ?_
            refine lv_icmp_eq (tgt := 57) hx hb d_SP_best_40 (by decide) (fun c40_3 => ?_) (fun c40_3 => ?_)
            · refine lv_iload_n hx hb d_SP_best_57 rfl (lv_at hl 0 rfl) ?_
              refine lv_istore_n (lv' := [(1, .int (nI 0)), (3, .int (nI 0)), (2, .int z.2.1), (0, .ref (ad 0))]) hx hb d_SP_best_58 rfl hl (by decide) rfl (fun ls hl => ?_)
              refine lv_aload_n hx hb d_SP_best_59 rfl (lv_at hl 3 rfl) ?_
              refine va_get (D := g.1) (ci := 0) (v := .ref (ad 15)) (C := R_SP) (T := F_SP) (N := 4) hx hb hw i_SP hown hE.1 hP 0 rfl rfl 2 (by decide) (hw _ q_216) (fun _ h9 => h9) rfl d_SP_best_60 ?_
              refine va_get (D := g.1) (ci := 4) (v := .ref (ad 20)) (C := R_Ru) (T := F_Ru) (N := 8) hx hb hw i_Ru hown hE.1 hP 15 rfl rfl 1 (by decide) (hw _ q_159) (fun _ h9 => h9) rfl d_SP_best_63 ?_
              refine va_get (D := g.1) (ci := 1) (v := .int y9.2.2.1) (C := R_Ce) (T := F_Ce) (N := 2) hx hb hw i_Ce hown hE.1 hP 20 rfl rfl 1 (by decide) (hw _ q_149) (fun _ h9 => h9) rfl d_SP_best_66 ?_
              refine lv_istore_n (lv' := [(2, .int y9.2.2.1), (1, .int (nI 0)), (3, .int (nI 0)), (0, .ref (ad 0))]) hx hb d_SP_best_69 rfl hl (by decide) rfl (fun ls hl => ?_)
              refine lv_iinc (v := 1) (lv' := [(3, .int 1), (2, .int y9.2.2.1), (1, .int (nI 0)), (0, .ref (ad 0))]) hx hb d_SP_best_70 hl (k := 2) rfl (by decide) (by decide) rfl (fun ls hl => ?_)
              refine lv_goto (tgt := 10) hx hb d_SP_best_73 (by decide) ?_
              have e1 : bstF k n np q mm 0 z = ((nI 0), y9.2.2.1, y9) := by unfold bstF; rw [hy9]; exact ((if_neg c35_2).trans (if_pos c40_3))
              exact ih 1 ((nI 0), y9.2.2.1, y9) _ _ _ (by omega) (by omega) (it_back hp4 h9 e1) hP hD hS (lv_sub hl [0, 1, 2, 3] rfl)
            · refine lv_aload_n hx hb d_SP_best_43 rfl (lv_at hl 3 rfl) ?_
              refine va_get (D := g.1) (ci := 0) (v := .ref (ad 15)) (C := R_SP) (T := F_SP) (N := 4) hx hb hw i_SP hown hE.1 hP 0 rfl rfl 2 (by decide) (hw _ q_216) (fun _ h9 => h9) rfl d_SP_best_44 ?_
              refine va_get (D := g.1) (ci := 4) (v := .ref (ad 20)) (C := R_Ru) (T := F_Ru) (N := 8) hx hb hw i_Ru hown hE.1 hP 15 rfl rfl 1 (by decide) (hw _ q_159) (fun _ h9 => h9) rfl d_SP_best_47 ?_
              refine va_get (D := g.1) (ci := 1) (v := .int y9.2.2.1) (C := R_Ce) (T := F_Ce) (N := 2) hx hb hw i_Ce hown hE.1 hP 20 rfl rfl 1 (by decide) (hw _ q_149) (fun _ h9 => h9) rfl d_SP_best_50 ?_
              refine lv_iload_n hx hb d_SP_best_53 rfl (lv_at hl 1 rfl) ?_
              refine lv_icmp_ge (tgt := 70) hx hb d_SP_best_54 (by decide) (fun c54_4 => ?_) (fun c54_4 => ?_)
              · refine lv_iinc (v := 1) (lv' := [(3, .int 1), (2, .int z.2.1), (1, .int z.1), (0, .ref (ad 0))]) hx hb d_SP_best_70 hl (k := 0) rfl (by decide) (by decide) rfl (fun ls hl => ?_)
                refine lv_goto (tgt := 10) hx hb d_SP_best_73 (by decide) ?_
                have e1 : bstF k n np q mm 0 z = (z.1, z.2.1, y9) := by unfold bstF; rw [hy9]; exact ((if_neg c35_2).trans ((if_neg c40_3).trans (if_pos c54_4)))
                exact ih 1 (z.1, z.2.1, y9) _ _ _ (by omega) (by omega) (it_back hp4 h9 e1) hP hD hS (lv_sub hl [0, 1, 2, 3] rfl)
              · refine lv_iload_n hx hb d_SP_best_57 rfl (lv_at hl 0 rfl) ?_
                refine lv_istore_n (lv' := [(1, .int (nI 0)), (3, .int (nI 0)), (2, .int z.2.1), (0, .ref (ad 0))]) hx hb d_SP_best_58 rfl hl (by decide) rfl (fun ls hl => ?_)
                refine lv_aload_n hx hb d_SP_best_59 rfl (lv_at hl 3 rfl) ?_
                refine va_get (D := g.1) (ci := 0) (v := .ref (ad 15)) (C := R_SP) (T := F_SP) (N := 4) hx hb hw i_SP hown hE.1 hP 0 rfl rfl 2 (by decide) (hw _ q_216) (fun _ h9 => h9) rfl d_SP_best_60 ?_
                refine va_get (D := g.1) (ci := 4) (v := .ref (ad 20)) (C := R_Ru) (T := F_Ru) (N := 8) hx hb hw i_Ru hown hE.1 hP 15 rfl rfl 1 (by decide) (hw _ q_159) (fun _ h9 => h9) rfl d_SP_best_63 ?_
                refine va_get (D := g.1) (ci := 1) (v := .int y9.2.2.1) (C := R_Ce) (T := F_Ce) (N := 2) hx hb hw i_Ce hown hE.1 hP 20 rfl rfl 1 (by decide) (hw _ q_149) (fun _ h9 => h9) rfl d_SP_best_66 ?_
                refine lv_istore_n (lv' := [(2, .int y9.2.2.1), (1, .int (nI 0)), (3, .int (nI 0)), (0, .ref (ad 0))]) hx hb d_SP_best_69 rfl hl (by decide) rfl (fun ls hl => ?_)
                refine lv_iinc (v := 1) (lv' := [(3, .int 1), (2, .int y9.2.2.1), (1, .int (nI 0)), (0, .ref (ad 0))]) hx hb d_SP_best_70 hl (k := 2) rfl (by decide) (by decide) rfl (fun ls hl => ?_)
                refine lv_goto (tgt := 10) hx hb d_SP_best_73 (by decide) ?_
                have e1 : bstF k n np q mm 0 z = ((nI 0), y9.2.2.1, y9) := by unfold bstF; rw [hy9]; exact ((if_neg c35_2).trans ((if_neg c40_3).trans (if_neg c54_4)))
                exact ih 1 ((nI 0), y9.2.2.1, y9) _ _ _ (by omega) (by omega) (it_back hp4 h9 e1) hP hD hS (lv_sub hl [0, 1, 2, 3] rfl)
        · have hl : lv_has ls 4 [(3, .int (nI 1)), (2, .int z.2.1), (1, .int z.1), (0, .ref (ad 0))] := hl
          refine lv_aload_n hx hb d_SP_best_15 rfl (lv_at hl 3 rfl) ?_
          refine va_get (D := g.1) (ci := 0) (v := .ref (ad 15)) (C := R_SP) (T := F_SP) (N := 4) hx hb hw i_SP hown hE.1 hP 0 rfl rfl 2 (by decide) (hw _ q_216) (fun _ h9 => h9) rfl d_SP_best_16 ?_
          refine lv_aload_n hx hb d_SP_best_19 rfl (lv_at hl 3 rfl) ?_
          refine va_get (D := g.1) (ci := 0) (v := .ref (ad 22)) (C := R_SP) (T := F_SP) (N := 4) hx hb hw i_SP hown hE.1 hP 0 rfl rfl 3 (by decide) (hw _ q_217) (fun _ h9 => h9) rfl d_SP_best_20 ?_
          refine lv_iload_n hx hb d_SP_best_23 rfl (lv_at hl 0 rfl) ?_
          refine va_aldq hx hb hE.1 hP 22 5 rfl rfl (by unfold vp_in; decide) d_SP_best_24 ?_
          rw [show ((nI 1) : Int32).toNatClampNeg = 1 from by decide]
          refine cvV C v_SP_173 [.ref (ad 27)] [] (c_Ru_follow l g (mp (trL 1) ad) k z.2.2 n hn h3 np hp h20 (q 1) (mm 1) (hmm 1 (by decide)).1 (hmm 1 (by decide)).2.1 (hmm 1 (by decide)).2.2) hP hD hS [15, 1, 2, 3, 4, 5, 16, 17, 18, 19, 20, 21, 6, 7, 27, 28, 29, 30] [0, 8, 9, 10, 11, 12, 13, 14, 22, 23, 24, 25, 26, 31, 32, 33, 34, 35, 36, 37, 38] [0, 22, 23, 24, 25, 26, 33, 34, 1, 2, 3, 4, 5, 6, 7, 21, 27, 28, 29, 30, 31, 32, 8, 9, 10, 11, 12, 35, 36, 37, 38, 13, 14, 15, 16, 17, 18, 19, 20] [((ad 0), .inr (0, [.ref (ad 1), .ref (ad 8), .ref (ad 15), .ref (ad 22)])), ((ad 8), .inr (4, [.ref (ad 9), .ref (ad 13), .int (x.2.1 0), .int (x.2.1 1), .int (x.2.1 2), .int (x.2.1 3), .int (x.2.1 4), .ref (ad 1)])), ((ad 9), .inl (g.2.1 4, 3, .inr (.inr (.inr (.inr (fun j => [ad 10, ad 11, ad 12][j]?)))))), ((ad 10), .inr (3, [.int (x.1 0 0), .int (x.1 1 0), .int (x.1 2 0), .int (x.1 3 0), .int (x.1 4 0)])), ((ad 11), .inr (3, [.int (x.1 0 1), .int (x.1 1 1), .int (x.1 2 1), .int (x.1 3 1), .int (x.1 4 1)])), ((ad 12), .inr (3, [.int (x.1 0 2), .int (x.1 1 2), .int (x.1 2 2), .int (x.1 3 2), .int (x.1 4 2)])), ((ad 13), .inr (1, [.ref (ad 14), .int x.2.2.1])), ((ad 14), .inl (g.2.1 1, 64, .inr (.inl x.2.2.2))), ((ad 22), .inl (g.2.1 5, 4, .inr (.inr (.inr (.inr (fun j => [ad 23, ad 27, ad 31, ad 35][j]?)))))), ((ad 23), .inr (2, [.ref (ad 24), .ref (ad 25), .ref (ad 26), .int ((q 0).2.2.2)])), ((ad 24), .inl (g.2.1 0, 6, .inl ((q 0).1))), ((ad 25), .inl (g.2.1 0, 6, .inl ((q 0).2.1))), ((ad 26), .inl (g.2.1 2, 6, .inl ((q 0).2.2.1))), ((ad 31), .inr (2, [.ref (ad 32), .ref (ad 33), .ref (ad 34), .int ((q 2).2.2.2)])), ((ad 32), .inl (g.2.1 0, 6, .inl ((q 2).1))), ((ad 33), .inl (g.2.1 0, 6, .inl ((q 2).2.1))), ((ad 34), .inl (g.2.1 2, 6, .inl ((q 2).2.2.1))), ((ad 35), .inr (2, [.ref (ad 36), .ref (ad 37), .ref (ad 38), .int ((q 3).2.2.2)])), ((ad 36), .inl (g.2.1 0, 6, .inl ((q 3).1))), ((ad 37), .inl (g.2.1 0, 6, .inl ((q 3).2.1))), ((ad 38), .inl (g.2.1 2, 6, .inl ((q 3).2.2.1)))] (wS g ad k x (followF k n np (q 1) (mm 1) z.2.2) q) rfl rfl (by decide) (by decide) (by decide) rfl (by decide) 0 rfl rfl rfl rfl hl.1 (Nat.le_of_ble_eq_true rfl) ⟨Nat.le_of_ble_eq_true rfl, Nat.le_of_ble_eq_true rfl⟩ d_SP_best_25 ⟨Nat.zero_le _, Nat.zero_le _⟩ (fun H locs hP hD hS => ?_)
          generalize hy9 : followF k n np (q 1) (mm 1) z.2.2 = y9 at hP hD
          refine lv_aload_n hx hb d_SP_best_28 rfl (lv_at hl 3 rfl) ?_
          refine va_get (D := g.1) (ci := 0) (v := .ref (ad 15)) (C := R_SP) (T := F_SP) (N := 4) hx hb hw i_SP hown hE.1 hP 0 rfl rfl 2 (by decide) (hw _ q_216) (fun _ h9 => h9) rfl d_SP_best_29 ?_
          refine cvI C v_SP_177 [] [] (c_Ru_isFaultless l g (mp (trL 0) ad) k y9) hP hD hS [15, 1, 2, 3, 4, 5, 16, 17, 18, 19, 20, 21, 6, 7] [0, 8, 9, 10, 11, 12, 13, 14, 22, 23, 24, 25, 26, 27, 28, 29, 30, 31, 32, 33, 34, 35, 36, 37, 38] [0, 26, 27, 28, 29, 30, 37, 38, 1, 2, 3, 4, 5, 6, 7, 25, 31, 32, 33, 34, 35, 36, 8, 9, 10, 11, 12, 13, 14, 15, 16, 17, 18, 19, 20, 21, 22, 23, 24] [((ad 0), .inr (0, [.ref (ad 1), .ref (ad 8), .ref (ad 15), .ref (ad 22)])), ((ad 8), .inr (4, [.ref (ad 9), .ref (ad 13), .int (x.2.1 0), .int (x.2.1 1), .int (x.2.1 2), .int (x.2.1 3), .int (x.2.1 4), .ref (ad 1)])), ((ad 9), .inl (g.2.1 4, 3, .inr (.inr (.inr (.inr (fun j => [ad 10, ad 11, ad 12][j]?)))))), ((ad 10), .inr (3, [.int (x.1 0 0), .int (x.1 1 0), .int (x.1 2 0), .int (x.1 3 0), .int (x.1 4 0)])), ((ad 11), .inr (3, [.int (x.1 0 1), .int (x.1 1 1), .int (x.1 2 1), .int (x.1 3 1), .int (x.1 4 1)])), ((ad 12), .inr (3, [.int (x.1 0 2), .int (x.1 1 2), .int (x.1 2 2), .int (x.1 3 2), .int (x.1 4 2)])), ((ad 13), .inr (1, [.ref (ad 14), .int x.2.2.1])), ((ad 14), .inl (g.2.1 1, 64, .inr (.inl x.2.2.2))), ((ad 22), .inl (g.2.1 5, 4, .inr (.inr (.inr (.inr (fun j => [ad 23, ad 27, ad 31, ad 35][j]?)))))), ((ad 23), .inr (2, [.ref (ad 24), .ref (ad 25), .ref (ad 26), .int ((q 0).2.2.2)])), ((ad 24), .inl (g.2.1 0, 6, .inl ((q 0).1))), ((ad 25), .inl (g.2.1 0, 6, .inl ((q 0).2.1))), ((ad 26), .inl (g.2.1 2, 6, .inl ((q 0).2.2.1))), ((ad 27), .inr (2, [.ref (ad 28), .ref (ad 29), .ref (ad 30), .int ((q 1).2.2.2)])), ((ad 28), .inl (g.2.1 0, 6, .inl ((q 1).1))), ((ad 29), .inl (g.2.1 0, 6, .inl ((q 1).2.1))), ((ad 30), .inl (g.2.1 2, 6, .inl ((q 1).2.2.1))), ((ad 31), .inr (2, [.ref (ad 32), .ref (ad 33), .ref (ad 34), .int ((q 2).2.2.2)])), ((ad 32), .inl (g.2.1 0, 6, .inl ((q 2).1))), ((ad 33), .inl (g.2.1 0, 6, .inl ((q 2).2.1))), ((ad 34), .inl (g.2.1 2, 6, .inl ((q 2).2.2.1))), ((ad 35), .inr (2, [.ref (ad 36), .ref (ad 37), .ref (ad 38), .int ((q 3).2.2.2)])), ((ad 36), .inl (g.2.1 0, 6, .inl ((q 3).1))), ((ad 37), .inl (g.2.1 0, 6, .inl ((q 3).2.1))), ((ad 38), .inl (g.2.1 2, 6, .inl ((q 3).2.2.1)))] (wS g ad k x y9 q) rfl rfl (by decide) (by decide) (by decide) rfl (by decide) 0 rfl rfl rfl rfl hl.1 (Nat.le_of_ble_eq_true rfl) ⟨Nat.le_of_ble_eq_true rfl, Nat.le_of_ble_eq_true rfl⟩ d_SP_best_32 ⟨Nat.zero_le _, Nat.zero_le _⟩ (fun H locs hP hD hS => ?_)
          refine lv_if_eq (tgt := 70) hx hb d_SP_best_35 (by decide) (fun c35_5 => ?_) (fun c35_5 => ?_)
          · refine lv_iinc (v := 2) (lv' := [(3, .int 2), (2, .int z.2.1), (1, .int z.1), (0, .ref (ad 0))]) hx hb d_SP_best_70 hl (k := 0) rfl (by decide) (by decide) rfl (fun ls hl => ?_)
            refine lv_goto (tgt := 10) hx hb d_SP_best_73 (by decide) ?_
            have e1 : bstF k n np q mm 1 z = (z.1, z.2.1, y9) := by unfold bstF; rw [hy9]; exact (if_pos c35_5)
            exact ih 2 (z.1, z.2.1, y9) _ _ _ (by omega) (by omega) (it_back hp4 h9 e1) hP hD hS (lv_sub hl [0, 1, 2, 3] rfl)
          · refine lv_iload_n hx hb d_SP_best_38 rfl (lv_at hl 2 rfl) ?_
            refine lv_iconst (v := (-1)) hx hb d_SP_best_39 (by decide) ?_
            refine lv_icmp_eq (tgt := 57) hx hb d_SP_best_40 (by decide) (fun c40_6 => ?_) (fun c40_6 => ?_)
            · refine lv_iload_n hx hb d_SP_best_57 rfl (lv_at hl 0 rfl) ?_
              refine lv_istore_n (lv' := [(1, .int (nI 1)), (3, .int (nI 1)), (2, .int z.2.1), (0, .ref (ad 0))]) hx hb d_SP_best_58 rfl hl (by decide) rfl (fun ls hl => ?_)
              refine lv_aload_n hx hb d_SP_best_59 rfl (lv_at hl 3 rfl) ?_
              refine va_get (D := g.1) (ci := 0) (v := .ref (ad 15)) (C := R_SP) (T := F_SP) (N := 4) hx hb hw i_SP hown hE.1 hP 0 rfl rfl 2 (by decide) (hw _ q_216) (fun _ h9 => h9) rfl d_SP_best_60 ?_
              refine va_get (D := g.1) (ci := 4) (v := .ref (ad 20)) (C := R_Ru) (T := F_Ru) (N := 8) hx hb hw i_Ru hown hE.1 hP 15 rfl rfl 1 (by decide) (hw _ q_159) (fun _ h9 => h9) rfl d_SP_best_63 ?_
              refine va_get (D := g.1) (ci := 1) (v := .int y9.2.2.1) (C := R_Ce) (T := F_Ce) (N := 2) hx hb hw i_Ce hown hE.1 hP 20 rfl rfl 1 (by decide) (hw _ q_149) (fun _ h9 => h9) rfl d_SP_best_66 ?_
              refine lv_istore_n (lv' := [(2, .int y9.2.2.1), (1, .int (nI 1)), (3, .int (nI 1)), (0, .ref (ad 0))]) hx hb d_SP_best_69 rfl hl (by decide) rfl (fun ls hl => ?_)
              refine lv_iinc (v := 2) (lv' := [(3, .int 2), (2, .int y9.2.2.1), (1, .int (nI 1)), (0, .ref (ad 0))]) hx hb d_SP_best_70 hl (k := 2) rfl (by decide) (by decide) rfl (fun ls hl => ?_)
              refine lv_goto (tgt := 10) hx hb d_SP_best_73 (by decide) ?_
              have e1 : bstF k n np q mm 1 z = ((nI 1), y9.2.2.1, y9) := by unfold bstF; rw [hy9]; exact ((if_neg c35_5).trans (if_pos c40_6))
              exact ih 2 ((nI 1), y9.2.2.1, y9) _ _ _ (by omega) (by omega) (it_back hp4 h9 e1) hP hD hS (lv_sub hl [0, 1, 2, 3] rfl)
            · refine lv_aload_n hx hb d_SP_best_43 rfl (lv_at hl 3 rfl) ?_
              refine va_get (D := g.1) (ci := 0) (v := .ref (ad 15)) (C := R_SP) (T := F_SP) (N := 4) hx hb hw i_SP hown hE.1 hP 0 rfl rfl 2 (by decide) (hw _ q_216) (fun _ h9 => h9) rfl d_SP_best_44 ?_
              refine va_get (D := g.1) (ci := 4) (v := .ref (ad 20)) (C := R_Ru) (T := F_Ru) (N := 8) hx hb hw i_Ru hown hE.1 hP 15 rfl rfl 1 (by decide) (hw _ q_159) (fun _ h9 => h9) rfl d_SP_best_47 ?_
              refine va_get (D := g.1) (ci := 1) (v := .int y9.2.2.1) (C := R_Ce) (T := F_Ce) (N := 2) hx hb hw i_Ce hown hE.1 hP 20 rfl rfl 1 (by decide) (hw _ q_149) (fun _ h9 => h9) rfl d_SP_best_50 ?_
              refine lv_iload_n hx hb d_SP_best_53 rfl (lv_at hl 1 rfl) ?_
              refine lv_icmp_ge (tgt := 70) hx hb d_SP_best_54 (by decide) (fun c54_7 => ?_) (fun c54_7 => ?_)
              · refine lv_iinc (v := 2) (lv' := [(3, .int 2), (2, .int z.2.1), (1, .int z.1), (0, .ref (ad 0))]) hx hb d_SP_best_70 hl (k := 0) rfl (by decide) (by decide) rfl (fun ls hl => ?_)
                refine lv_goto (tgt := 10) hx hb d_SP_best_73 (by decide) ?_
                have e1 : bstF k n np q mm 1 z = (z.1, z.2.1, y9) := by unfold bstF; rw [hy9]; exact ((if_neg c35_5).trans ((if_neg c40_6).trans (if_pos c54_7)))
                exact ih 2 (z.1, z.2.1, y9) _ _ _ (by omega) (by omega) (it_back hp4 h9 e1) hP hD hS (lv_sub hl [0, 1, 2, 3] rfl)
              · refine lv_iload_n hx hb d_SP_best_57 rfl (lv_at hl 0 rfl) ?_
                refine lv_istore_n (lv' := [(1, .int (nI 1)), (3, .int (nI 1)), (2, .int z.2.1), (0, .ref (ad 0))]) hx hb d_SP_best_58 rfl hl (by decide) rfl (fun ls hl => ?_)
                refine lv_aload_n hx hb d_SP_best_59 rfl (lv_at hl 3 rfl) ?_
                refine va_get (D := g.1) (ci := 0) (v := .ref (ad 15)) (C := R_SP) (T := F_SP) (N := 4) hx hb hw i_SP hown hE.1 hP 0 rfl rfl 2 (by decide) (hw _ q_216) (fun _ h9 => h9) rfl d_SP_best_60 ?_
                refine va_get (D := g.1) (ci := 4) (v := .ref (ad 20)) (C := R_Ru) (T := F_Ru) (N := 8) hx hb hw i_Ru hown hE.1 hP 15 rfl rfl 1 (by decide) (hw _ q_159) (fun _ h9 => h9) rfl d_SP_best_63 ?_
                refine va_get (D := g.1) (ci := 1) (v := .int y9.2.2.1) (C := R_Ce) (T := F_Ce) (N := 2) hx hb hw i_Ce hown hE.1 hP 20 rfl rfl 1 (by decide) (hw _ q_149) (fun _ h9 => h9) rfl d_SP_best_66 ?_
                refine lv_istore_n (lv' := [(2, .int y9.2.2.1), (1, .int (nI 1)), (3, .int (nI 1)), (0, .ref (ad 0))]) hx hb d_SP_best_69 rfl hl (by decide) rfl (fun ls hl => ?_)
                refine lv_iinc (v := 2) (lv' := [(3, .int 2), (2, .int y9.2.2.1), (1, .int (nI 1)), (0, .ref (ad 0))]) hx hb d_SP_best_70 hl (k := 2) rfl (by decide) (by decide) rfl (fun ls hl => ?_)
                refine lv_goto (tgt := 10) hx hb d_SP_best_73 (by decide) ?_
                have e1 : bstF k n np q mm 1 z = ((nI 1), y9.2.2.1, y9) := by unfold bstF; rw [hy9]; exact ((if_neg c35_5).trans ((if_neg c40_6).trans (if_neg c54_7)))
                exact ih 2 ((nI 1), y9.2.2.1, y9) _ _ _ (by omega) (by omega) (it_back hp4 h9 e1) hP hD hS (lv_sub hl [0, 1, 2, 3] rfl)
        · have hl : lv_has ls 4 [(3, .int (nI 2)), (2, .int z.2.1), (1, .int z.1), (0, .ref (ad 0))] := hl
          refine lv_aload_n hx hb d_SP_best_15 rfl (lv_at hl 3 rfl) ?_
          refine va_get (D := g.1) (ci := 0) (v := .ref (ad 15)) (C := R_SP) (T := F_SP) (N := 4) hx hb hw i_SP hown hE.1 hP 0 rfl rfl 2 (by decide) (hw _ q_216) (fun _ h9 => h9) rfl d_SP_best_16 ?_
          refine lv_aload_n hx hb d_SP_best_19 rfl (lv_at hl 3 rfl) ?_
          refine va_get (D := g.1) (ci := 0) (v := .ref (ad 22)) (C := R_SP) (T := F_SP) (N := 4) hx hb hw i_SP hown hE.1 hP 0 rfl rfl 3 (by decide) (hw _ q_217) (fun _ h9 => h9) rfl d_SP_best_20 ?_
          refine lv_iload_n hx hb d_SP_best_23 rfl (lv_at hl 0 rfl) ?_
          refine va_aldq hx hb hE.1 hP 22 5 rfl rfl (by unfold vp_in; decide) d_SP_best_24 ?_
          rw [show ((nI 2) : Int32).toNatClampNeg = 2 from by decide]
          refine cvV C v_SP_173 [.ref (ad 31)] [] (c_Ru_follow l g (mp (trL 2) ad) k z.2.2 n hn h3 np hp h20 (q 2) (mm 2) (hmm 2 (by decide)).1 (hmm 2 (by decide)).2.1 (hmm 2 (by decide)).2.2) hP hD hS [15, 1, 2, 3, 4, 5, 16, 17, 18, 19, 20, 21, 6, 7, 31, 32, 33, 34] [0, 8, 9, 10, 11, 12, 13, 14, 22, 23, 24, 25, 26, 27, 28, 29, 30, 35, 36, 37, 38] [0, 22, 23, 24, 25, 26, 33, 34, 1, 2, 3, 4, 5, 6, 7, 21, 27, 28, 29, 30, 31, 32, 8, 9, 10, 11, 12, 13, 14, 15, 16, 35, 36, 37, 38, 17, 18, 19, 20] [((ad 0), .inr (0, [.ref (ad 1), .ref (ad 8), .ref (ad 15), .ref (ad 22)])), ((ad 8), .inr (4, [.ref (ad 9), .ref (ad 13), .int (x.2.1 0), .int (x.2.1 1), .int (x.2.1 2), .int (x.2.1 3), .int (x.2.1 4), .ref (ad 1)])), ((ad 9), .inl (g.2.1 4, 3, .inr (.inr (.inr (.inr (fun j => [ad 10, ad 11, ad 12][j]?)))))), ((ad 10), .inr (3, [.int (x.1 0 0), .int (x.1 1 0), .int (x.1 2 0), .int (x.1 3 0), .int (x.1 4 0)])), ((ad 11), .inr (3, [.int (x.1 0 1), .int (x.1 1 1), .int (x.1 2 1), .int (x.1 3 1), .int (x.1 4 1)])), ((ad 12), .inr (3, [.int (x.1 0 2), .int (x.1 1 2), .int (x.1 2 2), .int (x.1 3 2), .int (x.1 4 2)])), ((ad 13), .inr (1, [.ref (ad 14), .int x.2.2.1])), ((ad 14), .inl (g.2.1 1, 64, .inr (.inl x.2.2.2))), ((ad 22), .inl (g.2.1 5, 4, .inr (.inr (.inr (.inr (fun j => [ad 23, ad 27, ad 31, ad 35][j]?)))))), ((ad 23), .inr (2, [.ref (ad 24), .ref (ad 25), .ref (ad 26), .int ((q 0).2.2.2)])), ((ad 24), .inl (g.2.1 0, 6, .inl ((q 0).1))), ((ad 25), .inl (g.2.1 0, 6, .inl ((q 0).2.1))), ((ad 26), .inl (g.2.1 2, 6, .inl ((q 0).2.2.1))), ((ad 27), .inr (2, [.ref (ad 28), .ref (ad 29), .ref (ad 30), .int ((q 1).2.2.2)])), ((ad 28), .inl (g.2.1 0, 6, .inl ((q 1).1))), ((ad 29), .inl (g.2.1 0, 6, .inl ((q 1).2.1))), ((ad 30), .inl (g.2.1 2, 6, .inl ((q 1).2.2.1))), ((ad 35), .inr (2, [.ref (ad 36), .ref (ad 37), .ref (ad 38), .int ((q 3).2.2.2)])), ((ad 36), .inl (g.2.1 0, 6, .inl ((q 3).1))), ((ad 37), .inl (g.2.1 0, 6, .inl ((q 3).2.1))), ((ad 38), .inl (g.2.1 2, 6, .inl ((q 3).2.2.1)))] (wS g ad k x (followF k n np (q 2) (mm 2) z.2.2) q) rfl rfl (by decide) (by decide) (by decide) rfl (by decide) 0 rfl rfl rfl rfl hl.1 (Nat.le_of_ble_eq_true rfl) ⟨Nat.le_of_ble_eq_true rfl, Nat.le_of_ble_eq_true rfl⟩ d_SP_best_25 ⟨Nat.zero_le _, Nat.zero_le _⟩ (fun H locs hP hD hS => ?_)
          generalize hy9 : followF k n np (q 2) (mm 2) z.2.2 = y9 at hP hD
          refine lv_aload_n hx hb d_SP_best_28 rfl (lv_at hl 3 rfl) ?_
          refine va_get (D := g.1) (ci := 0) (v := .ref (ad 15)) (C := R_SP) (T := F_SP) (N := 4) hx hb hw i_SP hown hE.1 hP 0 rfl rfl 2 (by decide) (hw _ q_216) (fun _ h9 => h9) rfl d_SP_best_29 ?_
          refine cvI C v_SP_177 [] [] (c_Ru_isFaultless l g (mp (trL 0) ad) k y9) hP hD hS [15, 1, 2, 3, 4, 5, 16, 17, 18, 19, 20, 21, 6, 7] [0, 8, 9, 10, 11, 12, 13, 14, 22, 23, 24, 25, 26, 27, 28, 29, 30, 31, 32, 33, 34, 35, 36, 37, 38] [0, 26, 27, 28, 29, 30, 37, 38, 1, 2, 3, 4, 5, 6, 7, 25, 31, 32, 33, 34, 35, 36, 8, 9, 10, 11, 12, 13, 14, 15, 16, 17, 18, 19, 20, 21, 22, 23, 24] [((ad 0), .inr (0, [.ref (ad 1), .ref (ad 8), .ref (ad 15), .ref (ad 22)])), ((ad 8), .inr (4, [.ref (ad 9), .ref (ad 13), .int (x.2.1 0), .int (x.2.1 1), .int (x.2.1 2), .int (x.2.1 3), .int (x.2.1 4), .ref (ad 1)])), ((ad 9), .inl (g.2.1 4, 3, .inr (.inr (.inr (.inr (fun j => [ad 10, ad 11, ad 12][j]?)))))), ((ad 10), .inr (3, [.int (x.1 0 0), .int (x.1 1 0), .int (x.1 2 0), .int (x.1 3 0), .int (x.1 4 0)])), ((ad 11), .inr (3, [.int (x.1 0 1), .int (x.1 1 1), .int (x.1 2 1), .int (x.1 3 1), .int (x.1 4 1)])), ((ad 12), .inr (3, [.int (x.1 0 2), .int (x.1 1 2), .int (x.1 2 2), .int (x.1 3 2), .int (x.1 4 2)])), ((ad 13), .inr (1, [.ref (ad 14), .int x.2.2.1])), ((ad 14), .inl (g.2.1 1, 64, .inr (.inl x.2.2.2))), ((ad 22), .inl (g.2.1 5, 4, .inr (.inr (.inr (.inr (fun j => [ad 23, ad 27, ad 31, ad 35][j]?)))))), ((ad 23), .inr (2, [.ref (ad 24), .ref (ad 25), .ref (ad 26), .int ((q 0).2.2.2)])), ((ad 24), .inl (g.2.1 0, 6, .inl ((q 0).1))), ((ad 25), .inl (g.2.1 0, 6, .inl ((q 0).2.1))), ((ad 26), .inl (g.2.1 2, 6, .inl ((q 0).2.2.1))), ((ad 27), .inr (2, [.ref (ad 28), .ref (ad 29), .ref (ad 30), .int ((q 1).2.2.2)])), ((ad 28), .inl (g.2.1 0, 6, .inl ((q 1).1))), ((ad 29), .inl (g.2.1 0, 6, .inl ((q 1).2.1))), ((ad 30), .inl (g.2.1 2, 6, .inl ((q 1).2.2.1))), ((ad 31), .inr (2, [.ref (ad 32), .ref (ad 33), .ref (ad 34), .int ((q 2).2.2.2)])), ((ad 32), .inl (g.2.1 0, 6, .inl ((q 2).1))), ((ad 33), .inl (g.2.1 0, 6, .inl ((q 2).2.1))), ((ad 34), .inl (g.2.1 2, 6, .inl ((q 2).2.2.1))), ((ad 35), .inr (2, [.ref (ad 36), .ref (ad 37), .ref (ad 38), .int ((q 3).2.2.2)])), ((ad 36), .inl (g.2.1 0, 6, .inl ((q 3).1))), ((ad 37), .inl (g.2.1 0, 6, .inl ((q 3).2.1))), ((ad 38), .inl (g.2.1 2, 6, .inl ((q 3).2.2.1)))] (wS g ad k x y9 q) rfl rfl (by decide) (by decide) (by decide) rfl (by decide) 0 rfl rfl rfl rfl hl.1 (Nat.le_of_ble_eq_true rfl) ⟨Nat.le_of_ble_eq_true rfl, Nat.le_of_ble_eq_true rfl⟩ d_SP_best_32 ⟨Nat.zero_le _, Nat.zero_le _⟩ (fun H locs hP hD hS => ?_)
          refine lv_if_eq (tgt := 70) hx hb d_SP_best_35 (by decide) (fun c35_8 => ?_) (fun c35_8 => ?_)
          · refine lv_iinc (v := 3) (lv' := [(3, .int 3), (2, .int z.2.1), (1, .int z.1), (0, .ref (ad 0))]) hx hb d_SP_best_70 hl (k := 0) rfl (by decide) (by decide) rfl (fun ls hl => ?_)
            refine lv_goto (tgt := 10) hx hb d_SP_best_73 (by decide) ?_
            have e1 : bstF k n np q mm 2 z = (z.1, z.2.1, y9) := by unfold bstF; rw [hy9]; exact (if_pos c35_8)
            exact ih 3 (z.1, z.2.1, y9) _ _ _ (by omega) (by omega) (it_back hp4 h9 e1) hP hD hS (lv_sub hl [0, 1, 2, 3] rfl)
          · refine lv_iload_n hx hb d_SP_best_38 rfl (lv_at hl 2 rfl) ?_
            refine lv_iconst (v := (-1)) hx hb d_SP_best_39 (by decide) ?_
            refine lv_icmp_eq (tgt := 57) hx hb d_SP_best_40 (by decide) (fun c40_9 => ?_) (fun c40_9 => ?_)
            · refine lv_iload_n hx hb d_SP_best_57 rfl (lv_at hl 0 rfl) ?_
              refine lv_istore_n (lv' := [(1, .int (nI 2)), (3, .int (nI 2)), (2, .int z.2.1), (0, .ref (ad 0))]) hx hb d_SP_best_58 rfl hl (by decide) rfl (fun ls hl => ?_)
              refine lv_aload_n hx hb d_SP_best_59 rfl (lv_at hl 3 rfl) ?_
              refine va_get (D := g.1) (ci := 0) (v := .ref (ad 15)) (C := R_SP) (T := F_SP) (N := 4) hx hb hw i_SP hown hE.1 hP 0 rfl rfl 2 (by decide) (hw _ q_216) (fun _ h9 => h9) rfl d_SP_best_60 ?_
              refine va_get (D := g.1) (ci := 4) (v := .ref (ad 20)) (C := R_Ru) (T := F_Ru) (N := 8) hx hb hw i_Ru hown hE.1 hP 15 rfl rfl 1 (by decide) (hw _ q_159) (fun _ h9 => h9) rfl d_SP_best_63 ?_
              refine va_get (D := g.1) (ci := 1) (v := .int y9.2.2.1) (C := R_Ce) (T := F_Ce) (N := 2) hx hb hw i_Ce hown hE.1 hP 20 rfl rfl 1 (by decide) (hw _ q_149) (fun _ h9 => h9) rfl d_SP_best_66 ?_
              refine lv_istore_n (lv' := [(2, .int y9.2.2.1), (1, .int (nI 2)), (3, .int (nI 2)), (0, .ref (ad 0))]) hx hb d_SP_best_69 rfl hl (by decide) rfl (fun ls hl => ?_)
              refine lv_iinc (v := 3) (lv' := [(3, .int 3), (2, .int y9.2.2.1), (1, .int (nI 2)), (0, .ref (ad 0))]) hx hb d_SP_best_70 hl (k := 2) rfl (by decide) (by decide) rfl (fun ls hl => ?_)
              refine lv_goto (tgt := 10) hx hb d_SP_best_73 (by decide) ?_
              have e1 : bstF k n np q mm 2 z = ((nI 2), y9.2.2.1, y9) := by unfold bstF; rw [hy9]; exact ((if_neg c35_8).trans (if_pos c40_9))
              exact ih 3 ((nI 2), y9.2.2.1, y9) _ _ _ (by omega) (by omega) (it_back hp4 h9 e1) hP hD hS (lv_sub hl [0, 1, 2, 3] rfl)
            · refine lv_aload_n hx hb d_SP_best_43 rfl (lv_at hl 3 rfl) ?_
              refine va_get (D := g.1) (ci := 0) (v := .ref (ad 15)) (C := R_SP) (T := F_SP) (N := 4) hx hb hw i_SP hown hE.1 hP 0 rfl rfl 2 (by decide) (hw _ q_216) (fun _ h9 => h9) rfl d_SP_best_44 ?_
              refine va_get (D := g.1) (ci := 4) (v := .ref (ad 20)) (C := R_Ru) (T := F_Ru) (N := 8) hx hb hw i_Ru hown hE.1 hP 15 rfl rfl 1 (by decide) (hw _ q_159) (fun _ h9 => h9) rfl d_SP_best_47 ?_
              refine va_get (D := g.1) (ci := 1) (v := .int y9.2.2.1) (C := R_Ce) (T := F_Ce) (N := 2) hx hb hw i_Ce hown hE.1 hP 20 rfl rfl 1 (by decide) (hw _ q_149) (fun _ h9 => h9) rfl d_SP_best_50 ?_
              refine lv_iload_n hx hb d_SP_best_53 rfl (lv_at hl 1 rfl) ?_
              refine lv_icmp_ge (tgt := 70) hx hb d_SP_best_54 (by decide) (fun c54_10 => ?_) (fun c54_10 => ?_)
              · refine lv_iinc (v := 3) (lv' := [(3, .int 3), (2, .int z.2.1), (1, .int z.1), (0, .ref (ad 0))]) hx hb d_SP_best_70 hl (k := 0) rfl (by decide) (by decide) rfl (fun ls hl => ?_)
                refine lv_goto (tgt := 10) hx hb d_SP_best_73 (by decide) ?_
                have e1 : bstF k n np q mm 2 z = (z.1, z.2.1, y9) := by unfold bstF; rw [hy9]; exact ((if_neg c35_8).trans ((if_neg c40_9).trans (if_pos c54_10)))
                exact ih 3 (z.1, z.2.1, y9) _ _ _ (by omega) (by omega) (it_back hp4 h9 e1) hP hD hS (lv_sub hl [0, 1, 2, 3] rfl)
              · refine lv_iload_n hx hb d_SP_best_57 rfl (lv_at hl 0 rfl) ?_
                refine lv_istore_n (lv' := [(1, .int (nI 2)), (3, .int (nI 2)), (2, .int z.2.1), (0, .ref (ad 0))]) hx hb d_SP_best_58 rfl hl (by decide) rfl (fun ls hl => ?_)
                refine lv_aload_n hx hb d_SP_best_59 rfl (lv_at hl 3 rfl) ?_
                refine va_get (D := g.1) (ci := 0) (v := .ref (ad 15)) (C := R_SP) (T := F_SP) (N := 4) hx hb hw i_SP hown hE.1 hP 0 rfl rfl 2 (by decide) (hw _ q_216) (fun _ h9 => h9) rfl d_SP_best_60 ?_
                refine va_get (D := g.1) (ci := 4) (v := .ref (ad 20)) (C := R_Ru) (T := F_Ru) (N := 8) hx hb hw i_Ru hown hE.1 hP 15 rfl rfl 1 (by decide) (hw _ q_159) (fun _ h9 => h9) rfl d_SP_best_63 ?_
                refine va_get (D := g.1) (ci := 1) (v := .int y9.2.2.1) (C := R_Ce) (T := F_Ce) (N := 2) hx hb hw i_Ce hown hE.1 hP 20 rfl rfl 1 (by decide) (hw _ q_149) (fun _ h9 => h9) rfl d_SP_best_66 ?_
                refine lv_istore_n (lv' := [(2, .int y9.2.2.1), (1, .int (nI 2)), (3, .int (nI 2)), (0, .ref (ad 0))]) hx hb d_SP_best_69 rfl hl (by decide) rfl (fun ls hl => ?_)
                refine lv_iinc (v := 3) (lv' := [(3, .int 3), (2, .int y9.2.2.1), (1, .int (nI 2)), (0, .ref (ad 0))]) hx hb d_SP_best_70 hl (k := 2) rfl (by decide) (by decide) rfl (fun ls hl => ?_)
                refine lv_goto (tgt := 10) hx hb d_SP_best_73 (by decide) ?_
                have e1 : bstF k n np q mm 2 z = ((nI 2), y9.2.2.1, y9) := by unfold bstF; rw [hy9]; exact ((if_neg c35_8).trans ((if_neg c40_9).trans (if_neg c54_10)))
                exact ih 3 ((nI 2), y9.2.2.1, y9) _ _ _ (by omega) (by omega) (it_back hp4 h9 e1) hP hD hS (lv_sub hl [0, 1, 2, 3] rfl)
        · have hl : lv_has ls 4 [(3, .int (nI 3)), (2, .int z.2.1), (1, .int z.1), (0, .ref (ad 0))] := hl
          refine lv_aload_n hx hb d_SP_best_15 rfl (lv_at hl 3 rfl) ?_
          refine va_get (D := g.1) (ci := 0) (v := .ref (ad 15)) (C := R_SP) (T := F_SP) (N := 4) hx hb hw i_SP hown hE.1 hP 0 rfl rfl 2 (by decide) (hw _ q_216) (fun _ h9 => h9) rfl d_SP_best_16 ?_
          refine lv_aload_n hx hb d_SP_best_19 rfl (lv_at hl 3 rfl) ?_
          refine va_get (D := g.1) (ci := 0) (v := .ref (ad 22)) (C := R_SP) (T := F_SP) (N := 4) hx hb hw i_SP hown hE.1 hP 0 rfl rfl 3 (by decide) (hw _ q_217) (fun _ h9 => h9) rfl d_SP_best_20 ?_
          refine lv_iload_n hx hb d_SP_best_23 rfl (lv_at hl 0 rfl) ?_
          refine va_aldq hx hb hE.1 hP 22 5 rfl rfl (by unfold vp_in; decide) d_SP_best_24 ?_
          rw [show ((nI 3) : Int32).toNatClampNeg = 3 from by decide]
          refine cvV C v_SP_173 [.ref (ad 35)] [] (c_Ru_follow l g (mp (trL 3) ad) k z.2.2 n hn h3 np hp h20 (q 3) (mm 3) (hmm 3 (by decide)).1 (hmm 3 (by decide)).2.1 (hmm 3 (by decide)).2.2) hP hD hS [15, 1, 2, 3, 4, 5, 16, 17, 18, 19, 20, 21, 6, 7, 35, 36, 37, 38] [0, 8, 9, 10, 11, 12, 13, 14, 22, 23, 24, 25, 26, 27, 28, 29, 30, 31, 32, 33, 34] [0, 22, 23, 24, 25, 26, 33, 34, 1, 2, 3, 4, 5, 6, 7, 21, 27, 28, 29, 30, 31, 32, 8, 9, 10, 11, 12, 13, 14, 15, 16, 17, 18, 19, 20, 35, 36, 37, 38] [((ad 0), .inr (0, [.ref (ad 1), .ref (ad 8), .ref (ad 15), .ref (ad 22)])), ((ad 8), .inr (4, [.ref (ad 9), .ref (ad 13), .int (x.2.1 0), .int (x.2.1 1), .int (x.2.1 2), .int (x.2.1 3), .int (x.2.1 4), .ref (ad 1)])), ((ad 9), .inl (g.2.1 4, 3, .inr (.inr (.inr (.inr (fun j => [ad 10, ad 11, ad 12][j]?)))))), ((ad 10), .inr (3, [.int (x.1 0 0), .int (x.1 1 0), .int (x.1 2 0), .int (x.1 3 0), .int (x.1 4 0)])), ((ad 11), .inr (3, [.int (x.1 0 1), .int (x.1 1 1), .int (x.1 2 1), .int (x.1 3 1), .int (x.1 4 1)])), ((ad 12), .inr (3, [.int (x.1 0 2), .int (x.1 1 2), .int (x.1 2 2), .int (x.1 3 2), .int (x.1 4 2)])), ((ad 13), .inr (1, [.ref (ad 14), .int x.2.2.1])), ((ad 14), .inl (g.2.1 1, 64, .inr (.inl x.2.2.2))), ((ad 22), .inl (g.2.1 5, 4, .inr (.inr (.inr (.inr (fun j => [ad 23, ad 27, ad 31, ad 35][j]?)))))), ((ad 23), .inr (2, [.ref (ad 24), .ref (ad 25), .ref (ad 26), .int ((q 0).2.2.2)])), ((ad 24), .inl (g.2.1 0, 6, .inl ((q 0).1))), ((ad 25), .inl (g.2.1 0, 6, .inl ((q 0).2.1))), ((ad 26), .inl (g.2.1 2, 6, .inl ((q 0).2.2.1))), ((ad 27), .inr (2, [.ref (ad 28), .ref (ad 29), .ref (ad 30), .int ((q 1).2.2.2)])), ((ad 28), .inl (g.2.1 0, 6, .inl ((q 1).1))), ((ad 29), .inl (g.2.1 0, 6, .inl ((q 1).2.1))), ((ad 30), .inl (g.2.1 2, 6, .inl ((q 1).2.2.1))), ((ad 31), .inr (2, [.ref (ad 32), .ref (ad 33), .ref (ad 34), .int ((q 2).2.2.2)])), ((ad 32), .inl (g.2.1 0, 6, .inl ((q 2).1))), ((ad 33), .inl (g.2.1 0, 6, .inl ((q 2).2.1))), ((ad 34), .inl (g.2.1 2, 6, .inl ((q 2).2.2.1)))] (wS g ad k x (followF k n np (q 3) (mm 3) z.2.2) q) rfl rfl (by decide) (by decide) (by decide) rfl (by decide) 0 rfl rfl rfl rfl hl.1 (Nat.le_of_ble_eq_true rfl) ⟨Nat.le_of_ble_eq_true rfl, Nat.le_of_ble_eq_true rfl⟩ d_SP_best_25 ⟨Nat.zero_le _, Nat.zero_le _⟩ (fun H locs hP hD hS => ?_)
          generalize hy9 : followF k n np (q 3) (mm 3) z.2.2 = y9 at hP hD
          refine lv_aload_n hx hb d_SP_best_28 rfl (lv_at hl 3 rfl) ?_
          refine va_get (D := g.1) (ci := 0) (v := .ref (ad 15)) (C := R_SP) (T := F_SP) (N := 4) hx hb hw i_SP hown hE.1 hP 0 rfl rfl 2 (by decide) (hw _ q_216) (fun _ h9 => h9) rfl d_SP_best_29 ?_
          refine cvI C v_SP_177 [] [] (c_Ru_isFaultless l g (mp (trL 0) ad) k y9) hP hD hS [15, 1, 2, 3, 4, 5, 16, 17, 18, 19, 20, 21, 6, 7] [0, 8, 9, 10, 11, 12, 13, 14, 22, 23, 24, 25, 26, 27, 28, 29, 30, 31, 32, 33, 34, 35, 36, 37, 38] [0, 26, 27, 28, 29, 30, 37, 38, 1, 2, 3, 4, 5, 6, 7, 25, 31, 32, 33, 34, 35, 36, 8, 9, 10, 11, 12, 13, 14, 15, 16, 17, 18, 19, 20, 21, 22, 23, 24] [((ad 0), .inr (0, [.ref (ad 1), .ref (ad 8), .ref (ad 15), .ref (ad 22)])), ((ad 8), .inr (4, [.ref (ad 9), .ref (ad 13), .int (x.2.1 0), .int (x.2.1 1), .int (x.2.1 2), .int (x.2.1 3), .int (x.2.1 4), .ref (ad 1)])), ((ad 9), .inl (g.2.1 4, 3, .inr (.inr (.inr (.inr (fun j => [ad 10, ad 11, ad 12][j]?)))))), ((ad 10), .inr (3, [.int (x.1 0 0), .int (x.1 1 0), .int (x.1 2 0), .int (x.1 3 0), .int (x.1 4 0)])), ((ad 11), .inr (3, [.int (x.1 0 1), .int (x.1 1 1), .int (x.1 2 1), .int (x.1 3 1), .int (x.1 4 1)])), ((ad 12), .inr (3, [.int (x.1 0 2), .int (x.1 1 2), .int (x.1 2 2), .int (x.1 3 2), .int (x.1 4 2)])), ((ad 13), .inr (1, [.ref (ad 14), .int x.2.2.1])), ((ad 14), .inl (g.2.1 1, 64, .inr (.inl x.2.2.2))), ((ad 22), .inl (g.2.1 5, 4, .inr (.inr (.inr (.inr (fun j => [ad 23, ad 27, ad 31, ad 35][j]?)))))), ((ad 23), .inr (2, [.ref (ad 24), .ref (ad 25), .ref (ad 26), .int ((q 0).2.2.2)])), ((ad 24), .inl (g.2.1 0, 6, .inl ((q 0).1))), ((ad 25), .inl (g.2.1 0, 6, .inl ((q 0).2.1))), ((ad 26), .inl (g.2.1 2, 6, .inl ((q 0).2.2.1))), ((ad 27), .inr (2, [.ref (ad 28), .ref (ad 29), .ref (ad 30), .int ((q 1).2.2.2)])), ((ad 28), .inl (g.2.1 0, 6, .inl ((q 1).1))), ((ad 29), .inl (g.2.1 0, 6, .inl ((q 1).2.1))), ((ad 30), .inl (g.2.1 2, 6, .inl ((q 1).2.2.1))), ((ad 31), .inr (2, [.ref (ad 32), .ref (ad 33), .ref (ad 34), .int ((q 2).2.2.2)])), ((ad 32), .inl (g.2.1 0, 6, .inl ((q 2).1))), ((ad 33), .inl (g.2.1 0, 6, .inl ((q 2).2.1))), ((ad 34), .inl (g.2.1 2, 6, .inl ((q 2).2.2.1))), ((ad 35), .inr (2, [.ref (ad 36), .ref (ad 37), .ref (ad 38), .int ((q 3).2.2.2)])), ((ad 36), .inl (g.2.1 0, 6, .inl ((q 3).1))), ((ad 37), .inl (g.2.1 0, 6, .inl ((q 3).2.1))), ((ad 38), .inl (g.2.1 2, 6, .inl ((q 3).2.2.1)))] (wS g ad k x y9 q) rfl rfl (by decide) (by decide) (by decide) rfl (by decide) 0 rfl rfl rfl rfl hl.1 (Nat.le_of_ble_eq_true rfl) ⟨Nat.le_of_ble_eq_true rfl, Nat.le_of_ble_eq_true rfl⟩ d_SP_best_32 ⟨Nat.zero_le _, Nat.zero_le _⟩ (fun H locs hP hD hS => ?_)
          refine lv_if_eq (tgt := 70) hx hb d_SP_best_35 (by decide) (fun c35_11 => ?_) (fun c35_11 => ?_)
          · refine lv_iinc (v := 4) (lv' := [(3, .int 4), (2, .int z.2.1), (1, .int z.1), (0, .ref (ad 0))]) hx hb d_SP_best_70 hl (k := 0) rfl (by decide) (by decide) rfl (fun ls hl => ?_)
            refine lv_goto (tgt := 10) hx hb d_SP_best_73 (by decide) ?_
            have e1 : bstF k n np q mm 3 z = (z.1, z.2.1, y9) := by unfold bstF; rw [hy9]; exact (if_pos c35_11)
            exact ih 4 (z.1, z.2.1, y9) _ _ _ (by omega) (by omega) (it_back hp4 h9 e1) hP hD hS (lv_sub hl [0, 1, 2, 3] rfl)
          · refine lv_iload_n hx hb d_SP_best_38 rfl (lv_at hl 2 rfl) ?_
            refine lv_iconst (v := (-1)) hx hb d_SP_best_39 (by decide) ?_
            refine lv_icmp_eq (tgt := 57) hx hb d_SP_best_40 (by decide) (fun c40_12 => ?_) (fun c40_12 => ?_)
            · refine lv_iload_n hx hb d_SP_best_57 rfl (lv_at hl 0 rfl) ?_
              refine lv_istore_n (lv' := [(1, .int (nI 3)), (3, .int (nI 3)), (2, .int z.2.1), (0, .ref (ad 0))]) hx hb d_SP_best_58 rfl hl (by decide) rfl (fun ls hl => ?_)
              refine lv_aload_n hx hb d_SP_best_59 rfl (lv_at hl 3 rfl) ?_
              refine va_get (D := g.1) (ci := 0) (v := .ref (ad 15)) (C := R_SP) (T := F_SP) (N := 4) hx hb hw i_SP hown hE.1 hP 0 rfl rfl 2 (by decide) (hw _ q_216) (fun _ h9 => h9) rfl d_SP_best_60 ?_
              refine va_get (D := g.1) (ci := 4) (v := .ref (ad 20)) (C := R_Ru) (T := F_Ru) (N := 8) hx hb hw i_Ru hown hE.1 hP 15 rfl rfl 1 (by decide) (hw _ q_159) (fun _ h9 => h9) rfl d_SP_best_63 ?_
              refine va_get (D := g.1) (ci := 1) (v := .int y9.2.2.1) (C := R_Ce) (T := F_Ce) (N := 2) hx hb hw i_Ce hown hE.1 hP 20 rfl rfl 1 (by decide) (hw _ q_149) (fun _ h9 => h9) rfl d_SP_best_66 ?_
              refine lv_istore_n (lv' := [(2, .int y9.2.2.1), (1, .int (nI 3)), (3, .int (nI 3)), (0, .ref (ad 0))]) hx hb d_SP_best_69 rfl hl (by decide) rfl (fun ls hl => ?_)
              refine lv_iinc (v := 4) (lv' := [(3, .int 4), (2, .int y9.2.2.1), (1, .int (nI 3)), (0, .ref (ad 0))]) hx hb d_SP_best_70 hl (k := 2) rfl (by decide) (by decide) rfl (fun ls hl => ?_)
              refine lv_goto (tgt := 10) hx hb d_SP_best_73 (by decide) ?_
              have e1 : bstF k n np q mm 3 z = ((nI 3), y9.2.2.1, y9) := by unfold bstF; rw [hy9]; exact ((if_neg c35_11).trans (if_pos c40_12))
              exact ih 4 ((nI 3), y9.2.2.1, y9) _ _ _ (by omega) (by omega) (it_back hp4 h9 e1) hP hD hS (lv_sub hl [0, 1, 2, 3] rfl)
            · refine lv_aload_n hx hb d_SP_best_43 rfl (lv_at hl 3 rfl) ?_
              refine va_get (D := g.1) (ci := 0) (v := .ref (ad 15)) (C := R_SP) (T := F_SP) (N := 4) hx hb hw i_SP hown hE.1 hP 0 rfl rfl 2 (by decide) (hw _ q_216) (fun _ h9 => h9) rfl d_SP_best_44 ?_
              refine va_get (D := g.1) (ci := 4) (v := .ref (ad 20)) (C := R_Ru) (T := F_Ru) (N := 8) hx hb hw i_Ru hown hE.1 hP 15 rfl rfl 1 (by decide) (hw _ q_159) (fun _ h9 => h9) rfl d_SP_best_47 ?_
              refine va_get (D := g.1) (ci := 1) (v := .int y9.2.2.1) (C := R_Ce) (T := F_Ce) (N := 2) hx hb hw i_Ce hown hE.1 hP 20 rfl rfl 1 (by decide) (hw _ q_149) (fun _ h9 => h9) rfl d_SP_best_50 ?_
              refine lv_iload_n hx hb d_SP_best_53 rfl (lv_at hl 1 rfl) ?_
              refine lv_icmp_ge (tgt := 70) hx hb d_SP_best_54 (by decide) (fun c54_13 => ?_) (fun c54_13 => ?_)
              · refine lv_iinc (v := 4) (lv' := [(3, .int 4), (2, .int z.2.1), (1, .int z.1), (0, .ref (ad 0))]) hx hb d_SP_best_70 hl (k := 0) rfl (by decide) (by decide) rfl (fun ls hl => ?_)
                refine lv_goto (tgt := 10) hx hb d_SP_best_73 (by decide) ?_
                have e1 : bstF k n np q mm 3 z = (z.1, z.2.1, y9) := by unfold bstF; rw [hy9]; exact ((if_neg c35_11).trans ((if_neg c40_12).trans (if_pos c54_13)))
                exact ih 4 (z.1, z.2.1, y9) _ _ _ (by omega) (by omega) (it_back hp4 h9 e1) hP hD hS (lv_sub hl [0, 1, 2, 3] rfl)
              · refine lv_iload_n hx hb d_SP_best_57 rfl (lv_at hl 0 rfl) ?_
                refine lv_istore_n (lv' := [(1, .int (nI 3)), (3, .int (nI 3)), (2, .int z.2.1), (0, .ref (ad 0))]) hx hb d_SP_best_58 rfl hl (by decide) rfl (fun ls hl => ?_)
                refine lv_aload_n hx hb d_SP_best_59 rfl (lv_at hl 3 rfl) ?_
                refine va_get (D := g.1) (ci := 0) (v := .ref (ad 15)) (C := R_SP) (T := F_SP) (N := 4) hx hb hw i_SP hown hE.1 hP 0 rfl rfl 2 (by decide) (hw _ q_216) (fun _ h9 => h9) rfl d_SP_best_60 ?_
                refine va_get (D := g.1) (ci := 4) (v := .ref (ad 20)) (C := R_Ru) (T := F_Ru) (N := 8) hx hb hw i_Ru hown hE.1 hP 15 rfl rfl 1 (by decide) (hw _ q_159) (fun _ h9 => h9) rfl d_SP_best_63 ?_
                refine va_get (D := g.1) (ci := 1) (v := .int y9.2.2.1) (C := R_Ce) (T := F_Ce) (N := 2) hx hb hw i_Ce hown hE.1 hP 20 rfl rfl 1 (by decide) (hw _ q_149) (fun _ h9 => h9) rfl d_SP_best_66 ?_
                refine lv_istore_n (lv' := [(2, .int y9.2.2.1), (1, .int (nI 3)), (3, .int (nI 3)), (0, .ref (ad 0))]) hx hb d_SP_best_69 rfl hl (by decide) rfl (fun ls hl => ?_)
                refine lv_iinc (v := 4) (lv' := [(3, .int 4), (2, .int y9.2.2.1), (1, .int (nI 3)), (0, .ref (ad 0))]) hx hb d_SP_best_70 hl (k := 2) rfl (by decide) (by decide) rfl (fun ls hl => ?_)
                refine lv_goto (tgt := 10) hx hb d_SP_best_73 (by decide) ?_
                have e1 : bstF k n np q mm 3 z = ((nI 3), y9.2.2.1, y9) := by unfold bstF; rw [hy9]; exact ((if_neg c35_11).trans ((if_neg c40_12).trans (if_neg c54_13)))
                exact ih 4 ((nI 3), y9.2.2.1, y9) _ _ _ (by omega) (by omega) (it_back hp4 h9 e1) hP hD hS (lv_sub hl [0, 1, 2, 3] rfl)
  exact lp 5 0 (-1, 0, y) _ _ _ (by omega) (by omega) h9 hP hD hS (lv_sub hl [0, 1, 2, 3] rfl)
