set_option maxHeartbeats 4000000 in
set_option maxRecDepth 100000 in
theorem c_SP_body_1 (l : Launch) (g : Glob) (hfl : l.flags = pinnedFlags ++ [noTraceFlag]) (ad : Nat → Nat) (k : CFG) (x y : RS) (q : PLS) (p0 p1 p2 p3 p4 : Int32) (hbad : ¬ (inI p0 1 200 = 1 ∧ inI p1 0 200 = 1 ∧ inI p2 0 60 = 1 ∧ inI p3 0 60 = 1 ∧ inI p4 1 20 = 1)) : CX l g y_SP_body b_SP_body 8 (some .int) 8 162 [.ref (ad 0), .int p0, .int p1, .int p2, .int p3, .int p4] (wS g ad k x y q) R_IA := by
  refine CX.of (by decide +kernel) (Nat.le_of_ble_eq_true rfl) ?_
  intro p e s m below meth c A ls C htab hlocks hP hD hl hS
  obtain ⟨hx, hb, hml, hown, hw, hE, hA⟩ := id C
  have hH : ∀ x : Nat, x < s.heap.size → s.heap[x]? = s.heap[x]? := fun _ _ => rfl
  have hHs : s.heap.size ≤ s.heap.size := Nat.le_refl _
  have hl : lv_has ls 8 [(0, .ref (ad 0)), (1, .int p0), (2, .int p1), (3, .int p2), (4, .int p3), (5, .int p4)] := hl
  refine lv_iload_n hx hb d_SP_body_0 rfl (lv_at hl 1 rfl) ?_
  refine lv_iconst (v := 1) hx hb d_SP_body_1 (by decide) ?_
  refine lv_sipush (v := 200) hx hb d_SP_body_2 (by decide) ?_
  by_cases v0 : inI p0 1 200 = 1
  rotate_left
  · exact xsOut C htab hlocks v_SP_35 [.int p0, .int 1, .int 200] [] (c_SP_demandWithin_x l g hfl p0 1 200 v0) hH hHs rfl rfl hl.1 (Nat.le_of_ble_eq_true rfl) ⟨Nat.le_of_ble_eq_true rfl, Nat.le_of_ble_eq_true rfl⟩ ⟨Nat.le_refl _, Nat.le_refl _⟩ d_SP_body_5
  refine csU0 C v_SP_35 [.int p0, .int 1, .int 200] [] (c_SP_demandWithin l g p0 1 200 v0) hP hH hHs rfl rfl hl.1 (Nat.le_of_ble_eq_true rfl) ⟨Nat.le_of_ble_eq_true rfl, Nat.le_of_ble_eq_true rfl⟩ d_SP_body_5 ⟨Nat.zero_le _, Nat.zero_le _⟩ (fun H hP hH hHs => ?_)
  refine lv_iload_n hx hb d_SP_body_8 rfl (lv_at hl 2 rfl) ?_
  refine lv_iconst (v := 0) hx hb d_SP_body_9 (by decide) ?_
  refine lv_sipush (v := 200) hx hb d_SP_body_10 (by decide) ?_
  by_cases v1 : inI p1 0 200 = 1
  rotate_left
  · exact xsOut C htab hlocks v_SP_35 [.int p1, .int 0, .int 200] [] (c_SP_demandWithin_x l g hfl p1 0 200 v1) hH hHs rfl rfl hl.1 (Nat.le_of_ble_eq_true rfl) ⟨Nat.le_of_ble_eq_true rfl, Nat.le_of_ble_eq_true rfl⟩ ⟨Nat.le_refl _, Nat.le_refl _⟩ d_SP_body_13
  refine csU0 C v_SP_35 [.int p1, .int 0, .int 200] [] (c_SP_demandWithin l g p1 0 200 v1) hP hH hHs rfl rfl hl.1 (Nat.le_of_ble_eq_true rfl) ⟨Nat.le_of_ble_eq_true rfl, Nat.le_of_ble_eq_true rfl⟩ d_SP_body_13 ⟨Nat.zero_le _, Nat.zero_le _⟩ (fun H hP hH hHs => ?_)
  refine lv_iload_n hx hb d_SP_body_16 rfl (lv_at hl 3 rfl) ?_
  refine lv_iconst (v := 0) hx hb d_SP_body_17 (by decide) ?_
  refine lv_bipush (v := 60) hx hb d_SP_body_18 (by decide) ?_
  by_cases v2 : inI p2 0 60 = 1
  rotate_left
  · exact xsOut C htab hlocks v_SP_35 [.int p2, .int 0, .int 60] [] (c_SP_demandWithin_x l g hfl p2 0 60 v2) hH hHs rfl rfl hl.1 (Nat.le_of_ble_eq_true rfl) ⟨Nat.le_of_ble_eq_true rfl, Nat.le_of_ble_eq_true rfl⟩ ⟨Nat.le_refl _, Nat.le_refl _⟩ d_SP_body_20
  refine csU0 C v_SP_35 [.int p2, .int 0, .int 60] [] (c_SP_demandWithin l g p2 0 60 v2) hP hH hHs rfl rfl hl.1 (Nat.le_of_ble_eq_true rfl) ⟨Nat.le_of_ble_eq_true rfl, Nat.le_of_ble_eq_true rfl⟩ d_SP_body_20 ⟨Nat.zero_le _, Nat.zero_le _⟩ (fun H hP hH hHs => ?_)
  refine lv_iload hx hb d_SP_body_23 (lv_at hl 4 rfl) ?_
  refine lv_iconst (v := 0) hx hb d_SP_body_25 (by decide) ?_
  refine lv_bipush (v := 60) hx hb d_SP_body_26 (by decide) ?_
  by_cases v3 : inI p3 0 60 = 1
  rotate_left
  · exact xsOut C htab hlocks v_SP_35 [.int p3, .int 0, .int 60] [] (c_SP_demandWithin_x l g hfl p3 0 60 v3) hH hHs rfl rfl hl.1 (Nat.le_of_ble_eq_true rfl) ⟨Nat.le_of_ble_eq_true rfl, Nat.le_of_ble_eq_true rfl⟩ ⟨Nat.le_refl _, Nat.le_refl _⟩ d_SP_body_28
  refine csU0 C v_SP_35 [.int p3, .int 0, .int 60] [] (c_SP_demandWithin l g p3 0 60 v3) hP hH hHs rfl rfl hl.1 (Nat.le_of_ble_eq_true rfl) ⟨Nat.le_of_ble_eq_true rfl, Nat.le_of_ble_eq_true rfl⟩ d_SP_body_28 ⟨Nat.zero_le _, Nat.zero_le _⟩ (fun H hP hH hHs => ?_)
  refine lv_iload hx hb d_SP_body_31 (lv_at hl 5 rfl) ?_
  refine lv_iconst (v := 1) hx hb d_SP_body_33 (by decide) ?_
  refine lv_bipush (v := 20) hx hb d_SP_body_34 (by decide) ?_
  by_cases v4 : inI p4 1 20 = 1
  rotate_left
  · exact xsOut C htab hlocks v_SP_35 [.int p4, .int 1, .int 20] [] (c_SP_demandWithin_x l g hfl p4 1 20 v4) hH hHs rfl rfl hl.1 (Nat.le_of_ble_eq_true rfl) ⟨Nat.le_of_ble_eq_true rfl, Nat.le_of_ble_eq_true rfl⟩ ⟨Nat.le_refl _, Nat.le_refl _⟩ d_SP_body_36
  exact absurd ⟨v0, v1, v2, v3, v4⟩ hbad
set_option maxHeartbeats 4000000 in
set_option maxRecDepth 100000 in
theorem c_SP_body_2 (l : Launch) (g : Glob) (hfl : l.flags = pinnedFlags ++ [noTraceFlag]) (ad : Nat → Nat) (k : CFG) (x y : RS) (q : PLS) (p0 p1 p2 p3 p4 : Int32) (v0 : inI p0 1 200 = 1) (v1 : inI p1 0 200 = 1) (v2 : inI p2 0 60 = 1) (v3 : inI p3 0 60 = 1) (v4 : inI p4 1 20 = 1) (hfull : k.2.1 0 = 3) : CX l g y_SP_body b_SP_body 8 (some .int) 8 162 [.ref (ad 0), .int p0, .int p1, .int p2, .int p3, .int p4] (wS g ad k x y q) R_IS := by
  refine CX.of (by decide +kernel) (Nat.le_of_ble_eq_true rfl) ?_
  intro p e s m below meth c A ls C htab hlocks hP hD hl hS
  obtain ⟨hx, hb, hml, hown, hw, hE, hA⟩ := id C
  have hH : ∀ x : Nat, x < s.heap.size → s.heap[x]? = s.heap[x]? := fun _ _ => rfl
  have hHs : s.heap.size ≤ s.heap.size := Nat.le_refl _
  have hl : lv_has ls 8 [(0, .ref (ad 0)), (1, .int p0), (2, .int p1), (3, .int p2), (4, .int p3), (5, .int p4)] := hl
  refine lv_iload_n hx hb d_SP_body_0 rfl (lv_at hl 1 rfl) ?_
  refine lv_iconst (v := 1) hx hb d_SP_body_1 (by decide) ?_
  refine lv_sipush (v := 200) hx hb d_SP_body_2 (by decide) ?_
  refine csU0 C v_SP_35 [.int p0, .int 1, .int 200] [] (c_SP_demandWithin l g p0 1 200 v0) hP hH hHs rfl rfl hl.1 (Nat.le_of_ble_eq_true rfl) ⟨Nat.le_of_ble_eq_true rfl, Nat.le_of_ble_eq_true rfl⟩ d_SP_body_5 ⟨Nat.zero_le _, Nat.zero_le _⟩ (fun H hP hH hHs => ?_)
  refine lv_iload_n hx hb d_SP_body_8 rfl (lv_at hl 2 rfl) ?_
  refine lv_iconst (v := 0) hx hb d_SP_body_9 (by decide) ?_
  refine lv_sipush (v := 200) hx hb d_SP_body_10 (by decide) ?_
  refine csU0 C v_SP_35 [.int p1, .int 0, .int 200] [] (c_SP_demandWithin l g p1 0 200 v1) hP hH hHs rfl rfl hl.1 (Nat.le_of_ble_eq_true rfl) ⟨Nat.le_of_ble_eq_true rfl, Nat.le_of_ble_eq_true rfl⟩ d_SP_body_13 ⟨Nat.zero_le _, Nat.zero_le _⟩ (fun H hP hH hHs => ?_)
  refine lv_iload_n hx hb d_SP_body_16 rfl (lv_at hl 3 rfl) ?_
  refine lv_iconst (v := 0) hx hb d_SP_body_17 (by decide) ?_
  refine lv_bipush (v := 60) hx hb d_SP_body_18 (by decide) ?_
  refine csU0 C v_SP_35 [.int p2, .int 0, .int 60] [] (c_SP_demandWithin l g p2 0 60 v2) hP hH hHs rfl rfl hl.1 (Nat.le_of_ble_eq_true rfl) ⟨Nat.le_of_ble_eq_true rfl, Nat.le_of_ble_eq_true rfl⟩ d_SP_body_20 ⟨Nat.zero_le _, Nat.zero_le _⟩ (fun H hP hH hHs => ?_)
  refine lv_iload hx hb d_SP_body_23 (lv_at hl 4 rfl) ?_
  refine lv_iconst (v := 0) hx hb d_SP_body_25 (by decide) ?_
  refine lv_bipush (v := 60) hx hb d_SP_body_26 (by decide) ?_
  refine csU0 C v_SP_35 [.int p3, .int 0, .int 60] [] (c_SP_demandWithin l g p3 0 60 v3) hP hH hHs rfl rfl hl.1 (Nat.le_of_ble_eq_true rfl) ⟨Nat.le_of_ble_eq_true rfl, Nat.le_of_ble_eq_true rfl⟩ d_SP_body_28 ⟨Nat.zero_le _, Nat.zero_le _⟩ (fun H hP hH hHs => ?_)
  refine lv_iload hx hb d_SP_body_31 (lv_at hl 5 rfl) ?_
  refine lv_iconst (v := 1) hx hb d_SP_body_33 (by decide) ?_
  refine lv_bipush (v := 20) hx hb d_SP_body_34 (by decide) ?_
  refine csU0 C v_SP_35 [.int p4, .int 1, .int 20] [] (c_SP_demandWithin l g p4 1 20 v4) hP hH hHs rfl rfl hl.1 (Nat.le_of_ble_eq_true rfl) ⟨Nat.le_of_ble_eq_true rfl, Nat.le_of_ble_eq_true rfl⟩ d_SP_body_36 ⟨Nat.zero_le _, Nat.zero_le _⟩ (fun H hP hH hHs => ?_)
  refine lv_aload_n hx hb d_SP_body_39 rfl (lv_at hl 0 rfl) ?_
  refine va_get (D := g.1) (ci := 0) (v := .ref (ad 1)) (C := R_SP) (T := F_SP) (N := 4) hx hb hw i_SP hown hE.1 hP 0 rfl rfl 0 (by decide) (hw _ q_214) (fun _ h9 => h9) rfl d_SP_body_40 ?_
  refine va_get (D := g.1) (ci := 5) (v := .int (k.2.1 0)) (C := R_Se) (T := F_Se) (N := 9) hx hb hw i_Se hown hE.1 hP 1 rfl rfl 3 (by decide) (hw _ q_73) (fun _ h9 => h9) rfl d_SP_body_43 ?_
  refine lv_istore (lv' := [(6, .int (k.2.1 0)), (0, .ref (ad 0)), (1, .int p0), (2, .int p1), (3, .int p2), (4, .int p3), (5, .int p4)]) hx hb d_SP_body_46 hl (by decide) rfl (fun ls hl => ?_)
  refine lv_iload hx hb d_SP_body_48 (lv_at hl 0 rfl) ?_
  refine lv_iconst (v := 3) hx hb d_SP_body_50 (by decide) ?_
  refine lv_icmp_lt (tgt := 64) hx hb d_SP_body_51 (by decide) (fun c51_1 => ?_) (fun c51_1 => ?_)
  · exact absurd c51_1 (by rw [hfull]; decide)
  exact thr_new C htab hlocks hfl (own_all hw hE own_IS own_ISc) (by decide +kernel) q_314 q_315 q_13 hE.2.2.2.2.2.2.2.2.2.2.2.1 hH hHs hl.1 (Nat.le_of_ble_eq_true rfl) (Nat.le_of_ble_eq_true rfl) (Nat.le_refl _) (Nat.le_refl _) d_SP_body_54 d_SP_body_57 d_SP_body_58 d_SP_body_60 d_SP_body_63
set_option maxHeartbeats 4000000 in
set_option maxRecDepth 100000 in
theorem c_SP_body_0_0 (l : Launch) (g : Glob) (ad : Nat → Nat) (k : CFG) (x y : RS) (q : PLS) (hn : k.2.1 0 = nI 0) (np : Nat) (hp : k.2.1 1 = nI np) (h20 : np ≤ 20) (p0 p1 p2 p3 p4 : Int32) (v0 : inI p0 1 200 = 1) (v1 : inI p1 0 200 = 1) (v2 : inI p2 0 60 = 1) (v3 : inI p3 0 60 = 1) (v4 : inI p4 1 20 = 1) : CI l g y_SP_body b_SP_body 8 (some .int) 8 162 [.ref (ad 0), .int p0, .int p1, .int p2, .int p3, .int p4] (wS g ad k x y q) (nI 0) (wS g ad (bodyK k 0 p0 p1 p2 p3 p4) (begF (bodyK k 0 p0 p1 p2 p3 p4) (0 + 1) np x) y q) := by
  refine CI.of .int rfl rfl (by decide +kernel) (Nat.le_of_ble_eq_true rfl) ?_
  intro p e s m below meth c A Q ls C hP hD hl hret hS
  obtain ⟨hx, hb, hml, hown, hw, hE, hA⟩ := id C
  have hl : lv_has ls 8 [(0, .ref (ad 0)), (1, .int p0), (2, .int p1), (3, .int p2), (4, .int p3), (5, .int p4)] := hl
  refine lv_iload_n hx hb d_SP_body_0 rfl (lv_at hl 1 rfl) ?_
  refine lv_iconst (v := 1) hx hb d_SP_body_1 (by decide) ?_
  refine lv_sipush (v := 200) hx hb d_SP_body_2 (by decide) ?_
  refine csU C v_SP_35 [.int p0, .int 1, .int 200] [] (c_SP_demandWithin l g p0 1 200 v0) hP hS rfl rfl hl.1 (Nat.le_of_ble_eq_true rfl) ⟨Nat.le_of_ble_eq_true rfl, Nat.le_of_ble_eq_true rfl⟩ d_SP_body_5 ⟨Nat.zero_le _, Nat.zero_le _⟩ (fun H locs hP hS => ?_)
  refine lv_iload_n hx hb d_SP_body_8 rfl (lv_at hl 2 rfl) ?_
  refine lv_iconst (v := 0) hx hb d_SP_body_9 (by decide) ?_
  refine lv_sipush (v := 200) hx hb d_SP_body_10 (by decide) ?_
  refine csU C v_SP_35 [.int p1, .int 0, .int 200] [] (c_SP_demandWithin l g p1 0 200 v1) hP hS rfl rfl hl.1 (Nat.le_of_ble_eq_true rfl) ⟨Nat.le_of_ble_eq_true rfl, Nat.le_of_ble_eq_true rfl⟩ d_SP_body_13 ⟨Nat.zero_le _, Nat.zero_le _⟩ (fun H locs hP hS => ?_)
  refine lv_iload_n hx hb d_SP_body_16 rfl (lv_at hl 3 rfl) ?_
  refine lv_iconst (v := 0) hx hb d_SP_body_17 (by decide) ?_
  refine lv_bipush (v := 60) hx hb d_SP_body_18 (by decide) ?_
  refine csU C v_SP_35 [.int p2, .int 0, .int 60] [] (c_SP_demandWithin l g p2 0 60 v2) hP hS rfl rfl hl.1 (Nat.le_of_ble_eq_true rfl) ⟨Nat.le_of_ble_eq_true rfl, Nat.le_of_ble_eq_true rfl⟩ d_SP_body_20 ⟨Nat.zero_le _, Nat.zero_le _⟩ (fun H locs hP hS => ?_)
  refine lv_iload hx hb d_SP_body_23 (lv_at hl 4 rfl) ?_
  refine lv_iconst (v := 0) hx hb d_SP_body_25 (by decide) ?_
  refine lv_bipush (v := 60) hx hb d_SP_body_26 (by decide) ?_
  refine csU C v_SP_35 [.int p3, .int 0, .int 60] [] (c_SP_demandWithin l g p3 0 60 v3) hP hS rfl rfl hl.1 (Nat.le_of_ble_eq_true rfl) ⟨Nat.le_of_ble_eq_true rfl, Nat.le_of_ble_eq_true rfl⟩ d_SP_body_28 ⟨Nat.zero_le _, Nat.zero_le _⟩ (fun H locs hP hS => ?_)
  refine lv_iload hx hb d_SP_body_31 (lv_at hl 5 rfl) ?_
  refine lv_iconst (v := 1) hx hb d_SP_body_33 (by decide) ?_
  refine lv_bipush (v := 20) hx hb d_SP_body_34 (by decide) ?_
  refine csU C v_SP_35 [.int p4, .int 1, .int 20] [] (c_SP_demandWithin l g p4 1 20 v4) hP hS rfl rfl hl.1 (Nat.le_of_ble_eq_true rfl) ⟨Nat.le_of_ble_eq_true rfl, Nat.le_of_ble_eq_true rfl⟩ d_SP_body_36 ⟨Nat.zero_le _, Nat.zero_le _⟩ (fun H locs hP hS => ?_)
  refine lv_aload_n hx hb d_SP_body_39 rfl (lv_at hl 0 rfl) ?_
  refine va_get (D := g.1) (ci := 0) (v := .ref (ad 1)) (C := R_SP) (T := F_SP) (N := 4) hx hb hw i_SP hown hE.1 hP 0 rfl rfl 0 (by decide) (hw _ q_214) (fun _ h9 => h9) rfl d_SP_body_40 ?_
  refine va_get (D := g.1) (ci := 5) (v := .int (k.2.1 0)) (C := R_Se) (T := F_Se) (N := 9) hx hb hw i_Se hown hE.1 hP 1 rfl rfl 3 (by decide) (hw _ q_73) (fun _ h9 => h9) rfl d_SP_body_43 ?_
  rw [hn]
  -- (nI 0)
  refine lv_istore (lv' := [(6, .int (nI 0)), (0, .ref (ad 0)), (1, .int p0), (2, .int p1), (3, .int p2), (4, .int p3), (5, .int p4)]) hx hb d_SP_body_46 hl (by decide) rfl (fun ls hl => ?_)
  refine lv_iload hx hb d_SP_body_48 (lv_at hl 0 rfl) ?_
  refine lv_iconst (v := 3) hx hb d_SP_body_50 (by decide) ?_
  refine lv_icmp_lt (tgt := 64) hx hb d_SP_body_51 (by decide) (fun c51_1 => ?_) (fun c51_1 => ?_)
  rotate_left
  · exact absurd (by decide) c51_1
  refine lv_aload_n hx hb d_SP_body_64 rfl (lv_at hl 1 rfl) ?_
  refine va_get (D := g.1) (ci := 0) (v := .ref (ad 1)) (C := R_SP) (T := F_SP) (N := 4) hx hb hw i_SP hown hE.1 hP 0 rfl rfl 0 (by decide) (hw _ q_214) (fun _ h9 => h9) rfl d_SP_body_65 ?_
  refine va_get (D := g.1) (ci := 5) (v := .ref (ad 2)) (C := R_Se) (T := F_Se) (N := 9) hx hb hw i_Se hown hE.1 hP 1 rfl rfl 0 (by decide) (hw _ q_64) (fun _ h9 => h9) rfl d_SP_body_68 ?_
  refine lv_iload hx hb d_SP_body_71 (lv_at hl 0 rfl) ?_
  refine va_aldq hx hb hE.1 hP 2 3 rfl rfl (by unfold vp_in; decide) d_SP_body_73 ?_
  rw [show ((nI 0) : Int32).toNatClampNeg = 0 from by decide]
  refine lv_astore (lv' := [(7, .ref (ad (3 + 0))), (6, .int (nI 0)), (0, .ref (ad 0)), (1, .int p0), (2, .int p1), (3, .int p2), (4, .int p3), (5, .int p4)]) hx hb d_SP_body_74 hl (by decide) rfl (fun ls hl => ?_)
  refine lv_aload hx hb d_SP_body_76 (lv_at hl 0 rfl) ?_
  refine lv_iload_n hx hb d_SP_body_78 rfl (lv_at hl 3 rfl) ?_
  refine va_put (D := g.1) (ci := 6) (v := .int p0) (ty := .int) (C := R_Sh) (T := F_Sh) (N := 5) hx hb hw i_Sh t_Sh t_Sh_ok n_Sh hown hE.1 hP hD hS 3 rfl rfl 0 (by decide) (hw _ q_39) (fun _ h9 => h9) rfl (by decide +kernel) rfl rfl (Nat.le_of_ble_eq_true rfl) d_SP_body_79 (fun H locs hP hD hS => ?_)
  have hP : va_P g.1 classes (wS g ad ((u2 k.1 0 0 p0), k.2.1, k.2.2.1, k.2.2.2) x y q) H := hP
  have hD : va_D A (wS g ad ((u2 k.1 0 0 p0), k.2.1, k.2.2.1, k.2.2.2) x y q) := hD
  refine lv_aload hx hb d_SP_body_82 (lv_at hl 0 rfl) ?_
  refine lv_iload_n hx hb d_SP_body_84 rfl (lv_at hl 4 rfl) ?_
  refine va_put (D := g.1) (ci := 6) (v := .int p1) (ty := .int) (C := R_Sh) (T := F_Sh) (N := 5) hx hb hw i_Sh t_Sh t_Sh_ok n_Sh hown hE.1 hP hD hS 3 rfl rfl 1 (by decide) (hw _ q_41) (fun _ h9 => h9) rfl (by decide +kernel) rfl rfl (Nat.le_of_ble_eq_true rfl) d_SP_body_85 (fun H locs hP hD hS => ?_)
  have hP : va_P g.1 classes (wS g ad ((u2 (u2 k.1 0 0 p0) 1 0 p1), k.2.1, k.2.2.1, k.2.2.2) x y q) H := hP
  have hD : va_D A (wS g ad ((u2 (u2 k.1 0 0 p0) 1 0 p1), k.2.1, k.2.2.1, k.2.2.2) x y q) := hD
  refine lv_aload hx hb d_SP_body_88 (lv_at hl 0 rfl) ?_
  refine lv_iload_n hx hb d_SP_body_90 rfl (lv_at hl 5 rfl) ?_
  refine va_put (D := g.1) (ci := 6) (v := .int p2) (ty := .int) (C := R_Sh) (T := F_Sh) (N := 5) hx hb hw i_Sh t_Sh t_Sh_ok n_Sh hown hE.1 hP hD hS 3 rfl rfl 2 (by decide) (hw _ q_44) (fun _ h9 => h9) rfl (by decide +kernel) rfl rfl (Nat.le_of_ble_eq_true rfl) d_SP_body_91 (fun H locs hP hD hS => ?_)
  have hP : va_P g.1 classes (wS g ad ((u2 (u2 (u2 k.1 0 0 p0) 1 0 p1) 2 0 p2), k.2.1, k.2.2.1, k.2.2.2) x y q) H := hP
  have hD : va_D A (wS g ad ((u2 (u2 (u2 k.1 0 0 p0) 1 0 p1) 2 0 p2), k.2.1, k.2.2.1, k.2.2.2) x y q) := hD
  refine lv_aload hx hb d_SP_body_94 (lv_at hl 0 rfl) ?_
  refine lv_iload hx hb d_SP_body_96 (lv_at hl 6 rfl) ?_
  refine va_put (D := g.1) (ci := 6) (v := .int p3) (ty := .int) (C := R_Sh) (T := F_Sh) (N := 5) hx hb hw i_Sh t_Sh t_Sh_ok n_Sh hown hE.1 hP hD hS 3 rfl rfl 3 (by decide) (hw _ q_47) (fun _ h9 => h9) rfl (by decide +kernel) rfl rfl (Nat.le_of_ble_eq_true rfl) d_SP_body_98 (fun H locs hP hD hS => ?_)
  have hP : va_P g.1 classes (wS g ad ((u2 (u2 (u2 (u2 k.1 0 0 p0) 1 0 p1) 2 0 p2) 3 0 p3), k.2.1, k.2.2.1, k.2.2.2) x y q) H := hP
  have hD : va_D A (wS g ad ((u2 (u2 (u2 (u2 k.1 0 0 p0) 1 0 p1) 2 0 p2) 3 0 p3), k.2.1, k.2.2.1, k.2.2.2) x y q) := hD
  refine lv_aload hx hb d_SP_body_101 (lv_at hl 0 rfl) ?_
  refine lv_iload hx hb d_SP_body_103 (lv_at hl 7 rfl) ?_
  refine va_put (D := g.1) (ci := 6) (v := .int p4) (ty := .int) (C := R_Sh) (T := F_Sh) (N := 5) hx hb hw i_Sh t_Sh t_Sh_ok n_Sh hown hE.1 hP hD hS 3 rfl rfl 4 (by decide) (hw _ q_50) (fun _ h9 => h9) rfl (by decide +kernel) rfl rfl (Nat.le_of_ble_eq_true rfl) d_SP_body_105 (fun H locs hP hD hS => ?_)
  have hP : va_P g.1 classes (wS g ad ((u2 (u2 (u2 (u2 (u2 k.1 0 0 p0) 1 0 p1) 2 0 p2) 3 0 p3) 4 0 p4), k.2.1, k.2.2.1, k.2.2.2) x y q) H := hP
  have hD : va_D A (wS g ad ((u2 (u2 (u2 (u2 (u2 k.1 0 0 p0) 1 0 p1) 2 0 p2) 3 0 p3) 4 0 p4), k.2.1, k.2.2.1, k.2.2.2) x y q) := hD
  refine lv_aload_n hx hb d_SP_body_108 rfl (lv_at hl 2 rfl) ?_
  refine va_get (D := g.1) (ci := 0) (v := .ref (ad 1)) (C := R_SP) (T := F_SP) (N := 4) hx hb hw i_SP hown hE.1 hP 0 rfl rfl 0 (by decide) (hw _ q_214) (fun _ h9 => h9) rfl d_SP_body_109 ?_
  refine lv_iload hx hb d_SP_body_112 (lv_at hl 1 rfl) ?_
  refine lv_iconst (v := 1) hx hb d_SP_body_114 (by decide) ?_
  refine lv_iadd hx hb d_SP_body_115 ?_
  refine va_put (D := g.1) (ci := 5) (v := .int ((nI 0) + 1)) (ty := .int) (C := R_Se) (T := F_Se) (N := 9) hx hb hw i_Se t_Se t_Se_ok n_Se hown hE.1 hP hD hS 1 rfl rfl 3 (by decide) (hw _ q_73) (fun _ h9 => h9) rfl (by decide +kernel) rfl rfl (Nat.le_of_ble_eq_true rfl) d_SP_body_116 (fun H locs hP hD hS => ?_)
  have hP : va_P g.1 classes (wS g ad ((u2 (u2 (u2 (u2 (u2 k.1 0 0 p0) 1 0 p1) 2 0 p2) 3 0 p3) 4 0 p4), (upd k.2.1 0 ((nI 0) + 1)), k.2.2.1, k.2.2.2) x y q) H := hP
  have hD : va_D A (wS g ad ((u2 (u2 (u2 (u2 (u2 k.1 0 0 p0) 1 0 p1) 2 0 p2) 3 0 p3) 4 0 p4), (upd k.2.1 0 ((nI 0) + 1)), k.2.2.1, k.2.2.2) x y q) := hD
  have hP : va_P g.1 classes (wS g ad (bodyK k 0 p0 p1 p2 p3 p4) x y q) H := hP
  have hD : va_D A (wS g ad (bodyK k 0 p0 p1 p2 p3 p4) x y q) := hD
  refine lv_aload_n hx hb d_SP_body_119 rfl (lv_at hl 2 rfl) ?_
  refine va_get (D := g.1) (ci := 0) (v := .ref (ad 8)) (C := R_SP) (T := F_SP) (N := 4) hx hb hw i_SP hown hE.1 hP 0 rfl rfl 1 (by decide) (hw _ q_215) (fun _ h9 => h9) rfl d_SP_body_120 ?_
  refine cvV C v_SP_71 [] [] (c_Ru_begin l g (mp lvL ad) (bodyK k 0 p0 p1 p2 p3 p4) x (0 + 1) bodyK_0 (by decide) np ((bodyK_lo (by decide)).trans hp) h20) hP hD hS [8, 1, 2, 3, 4, 5, 9, 10, 11, 12, 13, 14, 6, 7] [0, 15, 16, 17, 18, 19, 20, 21, 22, 23, 24, 25, 26, 27, 28, 29, 30, 31, 32, 33, 34, 35, 36, 37, 38] [0, 26, 27, 28, 29, 30, 37, 38, 25, 31, 32, 33, 34, 35, 36, 1, 2, 3, 4, 5, 6, 7, 8, 9, 10, 11, 12, 13, 14, 15, 16, 17, 18, 19, 20, 21, 22, 23, 24] [((ad 0), .inr (0, [.ref (ad 1), .ref (ad 8), .ref (ad 15), .ref (ad 22)])), ((ad 15), .inr (4, [.ref (ad 16), .ref (ad 20), .int (y.2.1 0), .int (y.2.1 1), .int (y.2.1 2), .int (y.2.1 3), .int (y.2.1 4), .ref (ad 1)])), ((ad 16), .inl (g.2.1 4, 3, .inr (.inr (.inr (.inr (fun j => [ad 17, ad 18, ad 19][j]?)))))), ((ad 17), .inr (3, [.int (y.1 0 0), .int (y.1 1 0), .int (y.1 2 0), .int (y.1 3 0), .int (y.1 4 0)])), ((ad 18), .inr (3, [.int (y.1 0 1), .int (y.1 1 1), .int (y.1 2 1), .int (y.1 3 1), .int (y.1 4 1)])), ((ad 19), .inr (3, [.int (y.1 0 2), .int (y.1 1 2), .int (y.1 2 2), .int (y.1 3 2), .int (y.1 4 2)])), ((ad 20), .inr (1, [.ref (ad 21), .int y.2.2.1])), ((ad 21), .inl (g.2.1 1, 64, .inr (.inl y.2.2.2))), ((ad 22), .inl (g.2.1 5, 4, .inr (.inr (.inr (.inr (fun j => [ad 23, ad 27, ad 31, ad 35][j]?)))))), ((ad 23), .inr (2, [.ref (ad 24), .ref (ad 25), .ref (ad 26), .int ((q 0).2.2.2)])), ((ad 24), .inl (g.2.1 0, 6, .inl ((q 0).1))), ((ad 25), .inl (g.2.1 0, 6, .inl ((q 0).2.1))), ((ad 26), .inl (g.2.1 2, 6, .inl ((q 0).2.2.1))), ((ad 27), .inr (2, [.ref (ad 28), .ref (ad 29), .ref (ad 30), .int ((q 1).2.2.2)])), ((ad 28), .inl (g.2.1 0, 6, .inl ((q 1).1))), ((ad 29), .inl (g.2.1 0, 6, .inl ((q 1).2.1))), ((ad 30), .inl (g.2.1 2, 6, .inl ((q 1).2.2.1))), ((ad 31), .inr (2, [.ref (ad 32), .ref (ad 33), .ref (ad 34), .int ((q 2).2.2.2)])), ((ad 32), .inl (g.2.1 0, 6, .inl ((q 2).1))), ((ad 33), .inl (g.2.1 0, 6, .inl ((q 2).2.1))), ((ad 34), .inl (g.2.1 2, 6, .inl ((q 2).2.2.1))), ((ad 35), .inr (2, [.ref (ad 36), .ref (ad 37), .ref (ad 38), .int ((q 3).2.2.2)])), ((ad 36), .inl (g.2.1 0, 6, .inl ((q 3).1))), ((ad 37), .inl (g.2.1 0, 6, .inl ((q 3).2.1))), ((ad 38), .inl (g.2.1 2, 6, .inl ((q 3).2.2.1)))] (wS g ad (bodyK k 0 p0 p1 p2 p3 p4) (begF (bodyK k 0 p0 p1 p2 p3 p4) (0 + 1) np x) y q) rfl rfl (by decide) (by decide) (by decide) rfl (by decide) 0 rfl rfl rfl rfl hl.1 (Nat.le_of_ble_eq_true rfl) ⟨Nat.le_of_ble_eq_true rfl, Nat.le_of_ble_eq_true rfl⟩ d_SP_body_123 ⟨Nat.zero_le _, Nat.zero_le _⟩ (fun H locs hP hD hS => ?_)
  refine lv_iload hx hb d_SP_body_126 (lv_at hl 1 rfl) ?_
  exact hret _ _ _ _ _ _ rfl rfl hP hD hS d_SP_body_128
set_option maxHeartbeats 4000000 in
set_option maxRecDepth 100000 in
theorem c_SP_body_0_1 (l : Launch) (g : Glob) (ad : Nat → Nat) (k : CFG) (x y : RS) (q : PLS) (hn : k.2.1 0 = nI 1) (np : Nat) (hp : k.2.1 1 = nI np) (h20 : np ≤ 20) (p0 p1 p2 p3 p4 : Int32) (v0 : inI p0 1 200 = 1) (v1 : inI p1 0 200 = 1) (v2 : inI p2 0 60 = 1) (v3 : inI p3 0 60 = 1) (v4 : inI p4 1 20 = 1) : CI l g y_SP_body b_SP_body 8 (some .int) 8 162 [.ref (ad 0), .int p0, .int p1, .int p2, .int p3, .int p4] (wS g ad k x y q) (nI 1) (wS g ad (bodyK k 1 p0 p1 p2 p3 p4) (begF (bodyK k 1 p0 p1 p2 p3 p4) (1 + 1) np x) y q) := by
  refine CI.of .int rfl rfl (by decide +kernel) (Nat.le_of_ble_eq_true rfl) ?_
  intro p e s m below meth c A Q ls C hP hD hl hret hS
  obtain ⟨hx, hb, hml, hown, hw, hE, hA⟩ := id C
  have hl : lv_has ls 8 [(0, .ref (ad 0)), (1, .int p0), (2, .int p1), (3, .int p2), (4, .int p3), (5, .int p4)] := hl
  refine lv_iload_n hx hb d_SP_body_0 rfl (lv_at hl 1 rfl) ?_
  refine lv_iconst (v := 1) hx hb d_SP_body_1 (by decide) ?_
  refine lv_sipush (v := 200) hx hb d_SP_body_2 (by decide) ?_
  refine csU C v_SP_35 [.int p0, .int 1, .int 200] [] (c_SP_demandWithin l g p0 1 200 v0) hP hS rfl rfl hl.1 (Nat.le_of_ble_eq_true rfl) ⟨Nat.le_of_ble_eq_true rfl, Nat.le_of_ble_eq_true rfl⟩ d_SP_body_5 ⟨Nat.zero_le _, Nat.zero_le _⟩ (fun H locs hP hS => ?_)
  refine lv_iload_n hx hb d_SP_body_8 rfl (lv_at hl 2 rfl) ?_
  refine lv_iconst (v := 0) hx hb d_SP_body_9 (by decide) ?_
  refine lv_sipush (v := 200) hx hb d_SP_body_10 (by decide) ?_
  refine csU C v_SP_35 [.int p1, .int 0, .int 200] [] (c_SP_demandWithin l g p1 0 200 v1) hP hS rfl rfl hl.1 (Nat.le_of_ble_eq_true rfl) ⟨Nat.le_of_ble_eq_true rfl, Nat.le_of_ble_eq_true rfl⟩ d_SP_body_13 ⟨Nat.zero_le _, Nat.zero_le _⟩ (fun H locs hP hS => ?_)
  refine lv_iload_n hx hb d_SP_body_16 rfl (lv_at hl 3 rfl) ?_
  refine lv_iconst (v := 0) hx hb d_SP_body_17 (by decide) ?_
  refine lv_bipush (v := 60) hx hb d_SP_body_18 (by decide) ?_
  refine csU C v_SP_35 [.int p2, .int 0, .int 60] [] (c_SP_demandWithin l g p2 0 60 v2) hP hS rfl rfl hl.1 (Nat.le_of_ble_eq_true rfl) ⟨Nat.le_of_ble_eq_true rfl, Nat.le_of_ble_eq_true rfl⟩ d_SP_body_20 ⟨Nat.zero_le _, Nat.zero_le _⟩ (fun H locs hP hS => ?_)
  refine lv_iload hx hb d_SP_body_23 (lv_at hl 4 rfl) ?_
  refine lv_iconst (v := 0) hx hb d_SP_body_25 (by decide) ?_
  refine lv_bipush (v := 60) hx hb d_SP_body_26 (by decide) ?_
  refine csU C v_SP_35 [.int p3, .int 0, .int 60] [] (c_SP_demandWithin l g p3 0 60 v3) hP hS rfl rfl hl.1 (Nat.le_of_ble_eq_true rfl) ⟨Nat.le_of_ble_eq_true rfl, Nat.le_of_ble_eq_true rfl⟩ d_SP_body_28 ⟨Nat.zero_le _, Nat.zero_le _⟩ (fun H locs hP hS => ?_)
  refine lv_iload hx hb d_SP_body_31 (lv_at hl 5 rfl) ?_
  refine lv_iconst (v := 1) hx hb d_SP_body_33 (by decide) ?_
  refine lv_bipush (v := 20) hx hb d_SP_body_34 (by decide) ?_
  refine csU C v_SP_35 [.int p4, .int 1, .int 20] [] (c_SP_demandWithin l g p4 1 20 v4) hP hS rfl rfl hl.1 (Nat.le_of_ble_eq_true rfl) ⟨Nat.le_of_ble_eq_true rfl, Nat.le_of_ble_eq_true rfl⟩ d_SP_body_36 ⟨Nat.zero_le _, Nat.zero_le _⟩ (fun H locs hP hS => ?_)
  refine lv_aload_n hx hb d_SP_body_39 rfl (lv_at hl 0 rfl) ?_
  refine va_get (D := g.1) (ci := 0) (v := .ref (ad 1)) (C := R_SP) (T := F_SP) (N := 4) hx hb hw i_SP hown hE.1 hP 0 rfl rfl 0 (by decide) (hw _ q_214) (fun _ h9 => h9) rfl d_SP_body_40 ?_
  refine va_get (D := g.1) (ci := 5) (v := .int (k.2.1 0)) (C := R_Se) (T := F_Se) (N := 9) hx hb hw i_Se hown hE.1 hP 1 rfl rfl 3 (by decide) (hw _ q_73) (fun _ h9 => h9) rfl d_SP_body_43 ?_
  rw [hn]
  -- (nI 1)
  refine lv_istore (lv' := [(6, .int (nI 1)), (0, .ref (ad 0)), (1, .int p0), (2, .int p1), (3, .int p2), (4, .int p3), (5, .int p4)]) hx hb d_SP_body_46 hl (by decide) rfl (fun ls hl => ?_)
  refine lv_iload hx hb d_SP_body_48 (lv_at hl 0 rfl) ?_
  refine lv_iconst (v := 3) hx hb d_SP_body_50 (by decide) ?_
  refine lv_icmp_lt (tgt := 64) hx hb d_SP_body_51 (by decide) (fun c51_1 => ?_) (fun c51_1 => ?_)
  rotate_left
  · exact absurd (by decide) c51_1
  refine lv_aload_n hx hb d_SP_body_64 rfl (lv_at hl 1 rfl) ?_
  refine va_get (D := g.1) (ci := 0) (v := .ref (ad 1)) (C := R_SP) (T := F_SP) (N := 4) hx hb hw i_SP hown hE.1 hP 0 rfl rfl 0 (by decide) (hw _ q_214) (fun _ h9 => h9) rfl d_SP_body_65 ?_
  refine va_get (D := g.1) (ci := 5) (v := .ref (ad 2)) (C := R_Se) (T := F_Se) (N := 9) hx hb hw i_Se hown hE.1 hP 1 rfl rfl 0 (by decide) (hw _ q_64) (fun _ h9 => h9) rfl d_SP_body_68 ?_
  refine lv_iload hx hb d_SP_body_71 (lv_at hl 0 rfl) ?_
  refine va_aldq hx hb hE.1 hP 2 3 rfl rfl (by unfold vp_in; decide) d_SP_body_73 ?_
  rw [show ((nI 1) : Int32).toNatClampNeg = 1 from by decide]
  refine lv_astore (lv' := [(7, .ref (ad (3 + 1))), (6, .int (nI 1)), (0, .ref (ad 0)), (1, .int p0), (2, .int p1), (3, .int p2), (4, .int p3), (5, .int p4)]) hx hb d_SP_body_74 hl (by decide) rfl (fun ls hl => ?_)
  refine lv_aload hx hb d_SP_body_76 (lv_at hl 0 rfl) ?_
  refine lv_iload_n hx hb d_SP_body_78 rfl (lv_at hl 3 rfl) ?_
  refine va_put (D := g.1) (ci := 6) (v := .int p0) (ty := .int) (C := R_Sh) (T := F_Sh) (N := 5) hx hb hw i_Sh t_Sh t_Sh_ok n_Sh hown hE.1 hP hD hS 4 rfl rfl 0 (by decide) (hw _ q_39) (fun _ h9 => h9) rfl (by decide +kernel) rfl rfl (Nat.le_of_ble_eq_true rfl) d_SP_body_79 (fun H locs hP hD hS => ?_)
  have hP : va_P g.1 classes (wS g ad ((u2 k.1 0 1 p0), k.2.1, k.2.2.1, k.2.2.2) x y q) H := hP
  have hD : va_D A (wS g ad ((u2 k.1 0 1 p0), k.2.1, k.2.2.1, k.2.2.2) x y q) := hD
  refine lv_aload hx hb d_SP_body_82 (lv_at hl 0 rfl) ?_
  refine lv_iload_n hx hb d_SP_body_84 rfl (lv_at hl 4 rfl) ?_
  refine va_put (D := g.1) (ci := 6) (v := .int p1) (ty := .int) (C := R_Sh) (T := F_Sh) (N := 5) hx hb hw i_Sh t_Sh t_Sh_ok n_Sh hown hE.1 hP hD hS 4 rfl rfl 1 (by decide) (hw _ q_41) (fun _ h9 => h9) rfl (by decide +kernel) rfl rfl (Nat.le_of_ble_eq_true rfl) d_SP_body_85 (fun H locs hP hD hS => ?_)
  have hP : va_P g.1 classes (wS g ad ((u2 (u2 k.1 0 1 p0) 1 1 p1), k.2.1, k.2.2.1, k.2.2.2) x y q) H := hP
  have hD : va_D A (wS g ad ((u2 (u2 k.1 0 1 p0) 1 1 p1), k.2.1, k.2.2.1, k.2.2.2) x y q) := hD
  refine lv_aload hx hb d_SP_body_88 (lv_at hl 0 rfl) ?_
  refine lv_iload_n hx hb d_SP_body_90 rfl (lv_at hl 5 rfl) ?_
  refine va_put (D := g.1) (ci := 6) (v := .int p2) (ty := .int) (C := R_Sh) (T := F_Sh) (N := 5) hx hb hw i_Sh t_Sh t_Sh_ok n_Sh hown hE.1 hP hD hS 4 rfl rfl 2 (by decide) (hw _ q_44) (fun _ h9 => h9) rfl (by decide +kernel) rfl rfl (Nat.le_of_ble_eq_true rfl) d_SP_body_91 (fun H locs hP hD hS => ?_)
  have hP : va_P g.1 classes (wS g ad ((u2 (u2 (u2 k.1 0 1 p0) 1 1 p1) 2 1 p2), k.2.1, k.2.2.1, k.2.2.2) x y q) H := hP
  have hD : va_D A (wS g ad ((u2 (u2 (u2 k.1 0 1 p0) 1 1 p1) 2 1 p2), k.2.1, k.2.2.1, k.2.2.2) x y q) := hD
  refine lv_aload hx hb d_SP_body_94 (lv_at hl 0 rfl) ?_
  refine lv_iload hx hb d_SP_body_96 (lv_at hl 6 rfl) ?_
  refine va_put (D := g.1) (ci := 6) (v := .int p3) (ty := .int) (C := R_Sh) (T := F_Sh) (N := 5) hx hb hw i_Sh t_Sh t_Sh_ok n_Sh hown hE.1 hP hD hS 4 rfl rfl 3 (by decide) (hw _ q_47) (fun _ h9 => h9) rfl (by decide +kernel) rfl rfl (Nat.le_of_ble_eq_true rfl) d_SP_body_98 (fun H locs hP hD hS => ?_)
  have hP : va_P g.1 classes (wS g ad ((u2 (u2 (u2 (u2 k.1 0 1 p0) 1 1 p1) 2 1 p2) 3 1 p3), k.2.1, k.2.2.1, k.2.2.2) x y q) H := hP
  have hD : va_D A (wS g ad ((u2 (u2 (u2 (u2 k.1 0 1 p0) 1 1 p1) 2 1 p2) 3 1 p3), k.2.1, k.2.2.1, k.2.2.2) x y q) := hD
  refine lv_aload hx hb d_SP_body_101 (lv_at hl 0 rfl) ?_
  refine lv_iload hx hb d_SP_body_103 (lv_at hl 7 rfl) ?_
  refine va_put (D := g.1) (ci := 6) (v := .int p4) (ty := .int) (C := R_Sh) (T := F_Sh) (N := 5) hx hb hw i_Sh t_Sh t_Sh_ok n_Sh hown hE.1 hP hD hS 4 rfl rfl 4 (by decide) (hw _ q_50) (fun _ h9 => h9) rfl (by decide +kernel) rfl rfl (Nat.le_of_ble_eq_true rfl) d_SP_body_105 (fun H locs hP hD hS => ?_)
  have hP : va_P g.1 classes (wS g ad ((u2 (u2 (u2 (u2 (u2 k.1 0 1 p0) 1 1 p1) 2 1 p2) 3 1 p3) 4 1 p4), k.2.1, k.2.2.1, k.2.2.2) x y q) H := hP
  have hD : va_D A (wS g ad ((u2 (u2 (u2 (u2 (u2 k.1 0 1 p0) 1 1 p1) 2 1 p2) 3 1 p3) 4 1 p4), k.2.1, k.2.2.1, k.2.2.2) x y q) := hD
  refine lv_aload_n hx hb d_SP_body_108 rfl (lv_at hl 2 rfl) ?_
  refine va_get (D := g.1) (ci := 0) (v := .ref (ad 1)) (C := R_SP) (T := F_SP) (N := 4) hx hb hw i_SP hown hE.1 hP 0 rfl rfl 0 (by decide) (hw _ q_214) (fun _ h9 => h9) rfl d_SP_body_109 ?_
  refine lv_iload hx hb d_SP_body_112 (lv_at hl 1 rfl) ?_
  refine lv_iconst (v := 1) hx hb d_SP_body_114 (by decide) ?_
  refine lv_iadd hx hb d_SP_body_115 ?_
  refine va_put (D := g.1) (ci := 5) (v := .int ((nI 1) + 1)) (ty := .int) (C := R_Se) (T := F_Se) (N := 9) hx hb hw i_Se t_Se t_Se_ok n_Se hown hE.1 hP hD hS 1 rfl rfl 3 (by decide) (hw _ q_73) (fun _ h9 => h9) rfl (by decide +kernel) rfl rfl (Nat.le_of_ble_eq_true rfl) d_SP_body_116 (fun H locs hP hD hS => ?_)
  have hP : va_P g.1 classes (wS g ad ((u2 (u2 (u2 (u2 (u2 k.1 0 1 p0) 1 1 p1) 2 1 p2) 3 1 p3) 4 1 p4), (upd k.2.1 0 ((nI 1) + 1)), k.2.2.1, k.2.2.2) x y q) H := hP
  have hD : va_D A (wS g ad ((u2 (u2 (u2 (u2 (u2 k.1 0 1 p0) 1 1 p1) 2 1 p2) 3 1 p3) 4 1 p4), (upd k.2.1 0 ((nI 1) + 1)), k.2.2.1, k.2.2.2) x y q) := hD
  have hP : va_P g.1 classes (wS g ad (bodyK k 1 p0 p1 p2 p3 p4) x y q) H := hP
  have hD : va_D A (wS g ad (bodyK k 1 p0 p1 p2 p3 p4) x y q) := hD
  refine lv_aload_n hx hb d_SP_body_119 rfl (lv_at hl 2 rfl) ?_
  refine va_get (D := g.1) (ci := 0) (v := .ref (ad 8)) (C := R_SP) (T := F_SP) (N := 4) hx hb hw i_SP hown hE.1 hP 0 rfl rfl 1 (by decide) (hw _ q_215) (fun _ h9 => h9) rfl d_SP_body_120 ?_
  refine cvV C v_SP_71 [] [] (c_Ru_begin l g (mp lvL ad) (bodyK k 1 p0 p1 p2 p3 p4) x (1 + 1) bodyK_0 (by decide) np ((bodyK_lo (by decide)).trans hp) h20) hP hD hS [8, 1, 2, 3, 4, 5, 9, 10, 11, 12, 13, 14, 6, 7] [0, 15, 16, 17, 18, 19, 20, 21, 22, 23, 24, 25, 26, 27, 28, 29, 30, 31, 32, 33, 34, 35, 36, 37, 38] [0, 26, 27, 28, 29, 30, 37, 38, 25, 31, 32, 33, 34, 35, 36, 1, 2, 3, 4, 5, 6, 7, 8, 9, 10, 11, 12, 13, 14, 15, 16, 17, 18, 19, 20, 21, 22, 23, 24] [((ad 0), .inr (0, [.ref (ad 1), .ref (ad 8), .ref (ad 15), .ref (ad 22)])), ((ad 15), .inr (4, [.ref (ad 16), .ref (ad 20), .int (y.2.1 0), .int (y.2.1 1), .int (y.2.1 2), .int (y.2.1 3), .int (y.2.1 4), .ref (ad 1)])), ((ad 16), .inl (g.2.1 4, 3, .inr (.inr (.inr (.inr (fun j => [ad 17, ad 18, ad 19][j]?)))))), ((ad 17), .inr (3, [.int (y.1 0 0), .int (y.1 1 0), .int (y.1 2 0), .int (y.1 3 0), .int (y.1 4 0)])), ((ad 18), .inr (3, [.int (y.1 0 1), .int (y.1 1 1), .int (y.1 2 1), .int (y.1 3 1), .int (y.1 4 1)])), ((ad 19), .inr (3, [.int (y.1 0 2), .int (y.1 1 2), .int (y.1 2 2), .int (y.1 3 2), .int (y.1 4 2)])), ((ad 20), .inr (1, [.ref (ad 21), .int y.2.2.1])), ((ad 21), .inl (g.2.1 1, 64, .inr (.inl y.2.2.2))), ((ad 22), .inl (g.2.1 5, 4, .inr (.inr (.inr (.inr (fun j => [ad 23, ad 27, ad 31, ad 35][j]?)))))), ((ad 23), .inr (2, [.ref (ad 24), .ref (ad 25), .ref (ad 26), .int ((q 0).2.2.2)])), ((ad 24), .inl (g.2.1 0, 6, .inl ((q 0).1))), ((ad 25), .inl (g.2.1 0, 6, .inl ((q 0).2.1))), ((ad 26), .inl (g.2.1 2, 6, .inl ((q 0).2.2.1))), ((ad 27), .inr (2, [.ref (ad 28), .ref (ad 29), .ref (ad 30), .int ((q 1).2.2.2)])), ((ad 28), .inl (g.2.1 0, 6, .inl ((q 1).1))), ((ad 29), .inl (g.2.1 0, 6, .inl ((q 1).2.1))), ((ad 30), .inl (g.2.1 2, 6, .inl ((q 1).2.2.1))), ((ad 31), .inr (2, [.ref (ad 32), .ref (ad 33), .ref (ad 34), .int ((q 2).2.2.2)])), ((ad 32), .inl (g.2.1 0, 6, .inl ((q 2).1))), ((ad 33), .inl (g.2.1 0, 6, .inl ((q 2).2.1))), ((ad 34), .inl (g.2.1 2, 6, .inl ((q 2).2.2.1))), ((ad 35), .inr (2, [.ref (ad 36), .ref (ad 37), .ref (ad 38), .int ((q 3).2.2.2)])), ((ad 36), .inl (g.2.1 0, 6, .inl ((q 3).1))), ((ad 37), .inl (g.2.1 0, 6, .inl ((q 3).2.1))), ((ad 38), .inl (g.2.1 2, 6, .inl ((q 3).2.2.1)))] (wS g ad (bodyK k 1 p0 p1 p2 p3 p4) (begF (bodyK k 1 p0 p1 p2 p3 p4) (1 + 1) np x) y q) rfl rfl (by decide) (by decide) (by decide) rfl (by decide) 0 rfl rfl rfl rfl hl.1 (Nat.le_of_ble_eq_true rfl) ⟨Nat.le_of_ble_eq_true rfl, Nat.le_of_ble_eq_true rfl⟩ d_SP_body_123 ⟨Nat.zero_le _, Nat.zero_le _⟩ (fun H locs hP hD hS => ?_)
  refine lv_iload hx hb d_SP_body_126 (lv_at hl 1 rfl) ?_
  exact hret _ _ _ _ _ _ rfl rfl hP hD hS d_SP_body_128
set_option maxHeartbeats 4000000 in
set_option maxRecDepth 100000 in
theorem c_SP_body_0_2 (l : Launch) (g : Glob) (ad : Nat → Nat) (k : CFG) (x y : RS) (q : PLS) (hn : k.2.1 0 = nI 2) (np : Nat) (hp : k.2.1 1 = nI np) (h20 : np ≤ 20) (p0 p1 p2 p3 p4 : Int32) (v0 : inI p0 1 200 = 1) (v1 : inI p1 0 200 = 1) (v2 : inI p2 0 60 = 1) (v3 : inI p3 0 60 = 1) (v4 : inI p4 1 20 = 1) : CI l g y_SP_body b_SP_body 8 (some .int) 8 162 [.ref (ad 0), .int p0, .int p1, .int p2, .int p3, .int p4] (wS g ad k x y q) (nI 2) (wS g ad (bodyK k 2 p0 p1 p2 p3 p4) (begF (bodyK k 2 p0 p1 p2 p3 p4) (2 + 1) np x) y q) := by
  refine CI.of .int rfl rfl (by decide +kernel) (Nat.le_of_ble_eq_true rfl) ?_
  intro p e s m below meth c A Q ls C hP hD hl hret hS
  obtain ⟨hx, hb, hml, hown, hw, hE, hA⟩ := id C
  have hl : lv_has ls 8 [(0, .ref (ad 0)), (1, .int p0), (2, .int p1), (3, .int p2), (4, .int p3), (5, .int p4)] := hl
  refine lv_iload_n hx hb d_SP_body_0 rfl (lv_at hl 1 rfl) ?_
  refine lv_iconst (v := 1) hx hb d_SP_body_1 (by decide) ?_
  refine lv_sipush (v := 200) hx hb d_SP_body_2 (by decide) ?_
  refine csU C v_SP_35 [.int p0, .int 1, .int 200] [] (c_SP_demandWithin l g p0 1 200 v0) hP hS rfl rfl hl.1 (Nat.le_of_ble_eq_true rfl) ⟨Nat.le_of_ble_eq_true rfl, Nat.le_of_ble_eq_true rfl⟩ d_SP_body_5 ⟨Nat.zero_le _, Nat.zero_le _⟩ (fun H locs hP hS => ?_)
  refine lv_iload_n hx hb d_SP_body_8 rfl (lv_at hl 2 rfl) ?_
  refine lv_iconst (v := 0) hx hb d_SP_body_9 (by decide) ?_
  refine lv_sipush (v := 200) hx hb d_SP_body_10 (by decide) ?_
  refine csU C v_SP_35 [.int p1, .int 0, .int 200] [] (c_SP_demandWithin l g p1 0 200 v1) hP hS rfl rfl hl.1 (Nat.le_of_ble_eq_true rfl) ⟨Nat.le_of_ble_eq_true rfl, Nat.le_of_ble_eq_true rfl⟩ d_SP_body_13 ⟨Nat.zero_le _, Nat.zero_le _⟩ (fun H locs hP hS => ?_)
  refine lv_iload_n hx hb d_SP_body_16 rfl (lv_at hl 3 rfl) ?_
  refine lv_iconst (v := 0) hx hb d_SP_body_17 (by decide) ?_
  refine lv_bipush (v := 60) hx hb d_SP_body_18 (by decide) ?_
  refine csU C v_SP_35 [.int p2, .int 0, .int 60] [] (c_SP_demandWithin l g p2 0 60 v2) hP hS rfl rfl hl.1 (Nat.le_of_ble_eq_true rfl) ⟨Nat.le_of_ble_eq_true rfl, Nat.le_of_ble_eq_true rfl⟩ d_SP_body_20 ⟨Nat.zero_le _, Nat.zero_le _⟩ (fun H locs hP hS => ?_)
  refine lv_iload hx hb d_SP_body_23 (lv_at hl 4 rfl) ?_
  refine lv_iconst (v := 0) hx hb d_SP_body_25 (by decide) ?_
  refine lv_bipush (v := 60) hx hb d_SP_body_26 (by decide) ?_
  refine csU C v_SP_35 [.int p3, .int 0, .int 60] [] (c_SP_demandWithin l g p3 0 60 v3) hP hS rfl rfl hl.1 (Nat.le_of_ble_eq_true rfl) ⟨Nat.le_of_ble_eq_true rfl, Nat.le_of_ble_eq_true rfl⟩ d_SP_body_28 ⟨Nat.zero_le _, Nat.zero_le _⟩ (fun H locs hP hS => ?_)
  refine lv_iload hx hb d_SP_body_31 (lv_at hl 5 rfl) ?_
  refine lv_iconst (v := 1) hx hb d_SP_body_33 (by decide) ?_
  refine lv_bipush (v := 20) hx hb d_SP_body_34 (by decide) ?_
  refine csU C v_SP_35 [.int p4, .int 1, .int 20] [] (c_SP_demandWithin l g p4 1 20 v4) hP hS rfl rfl hl.1 (Nat.le_of_ble_eq_true rfl) ⟨Nat.le_of_ble_eq_true rfl, Nat.le_of_ble_eq_true rfl⟩ d_SP_body_36 ⟨Nat.zero_le _, Nat.zero_le _⟩ (fun H locs hP hS => ?_)
  refine lv_aload_n hx hb d_SP_body_39 rfl (lv_at hl 0 rfl) ?_
  refine va_get (D := g.1) (ci := 0) (v := .ref (ad 1)) (C := R_SP) (T := F_SP) (N := 4) hx hb hw i_SP hown hE.1 hP 0 rfl rfl 0 (by decide) (hw _ q_214) (fun _ h9 => h9) rfl d_SP_body_40 ?_
  refine va_get (D := g.1) (ci := 5) (v := .int (k.2.1 0)) (C := R_Se) (T := F_Se) (N := 9) hx hb hw i_Se hown hE.1 hP 1 rfl rfl 3 (by decide) (hw _ q_73) (fun _ h9 => h9) rfl d_SP_body_43 ?_
  rw [hn]
  -- (nI 2)
  refine lv_istore (lv' := [(6, .int (nI 2)), (0, .ref (ad 0)), (1, .int p0), (2, .int p1), (3, .int p2), (4, .int p3), (5, .int p4)]) hx hb d_SP_body_46 hl (by decide) rfl (fun ls hl => ?_)
  refine lv_iload hx hb d_SP_body_48 (lv_at hl 0 rfl) ?_
  refine lv_iconst (v := 3) hx hb d_SP_body_50 (by decide) ?_
  refine lv_icmp_lt (tgt := 64) hx hb d_SP_body_51 (by decide) (fun c51_1 => ?_) (fun c51_1 => ?_)
  rotate_left
  · exact absurd (by decide) c51_1
  refine lv_aload_n hx hb d_SP_body_64 rfl (lv_at hl 1 rfl) ?_
  refine va_get (D := g.1) (ci := 0) (v := .ref (ad 1)) (C := R_SP) (T := F_SP) (N := 4) hx hb hw i_SP hown hE.1 hP 0 rfl rfl 0 (by decide) (hw _ q_214) (fun _ h9 => h9) rfl d_SP_body_65 ?_
  refine va_get (D := g.1) (ci := 5) (v := .ref (ad 2)) (C := R_Se) (T := F_Se) (N := 9) hx hb hw i_Se hown hE.1 hP 1 rfl rfl 0 (by decide) (hw _ q_64) (fun _ h9 => h9) rfl d_SP_body_68 ?_
  refine lv_iload hx hb d_SP_body_71 (lv_at hl 0 rfl) ?_
  refine va_aldq hx hb hE.1 hP 2 3 rfl rfl (by unfold vp_in; decide) d_SP_body_73 ?_
  rw [show ((nI 2) : Int32).toNatClampNeg = 2 from by decide]
  refine lv_astore (lv' := [(7, .ref (ad (3 + 2))), (6, .int (nI 2)), (0, .ref (ad 0)), (1, .int p0), (2, .int p1), (3, .int p2), (4, .int p3), (5, .int p4)]) hx hb d_SP_body_74 hl (by decide) rfl (fun ls hl => ?_)
  refine lv_aload hx hb d_SP_body_76 (lv_at hl 0 rfl) ?_
  refine lv_iload_n hx hb d_SP_body_78 rfl (lv_at hl 3 rfl) ?_
  refine va_put (D := g.1) (ci := 6) (v := .int p0) (ty := .int) (C := R_Sh) (T := F_Sh) (N := 5) hx hb hw i_Sh t_Sh t_Sh_ok n_Sh hown hE.1 hP hD hS 5 rfl rfl 0 (by decide) (hw _ q_39) (fun _ h9 => h9) rfl (by decide +kernel) rfl rfl (Nat.le_of_ble_eq_true rfl) d_SP_body_79 (fun H locs hP hD hS => ?_)
  have hP : va_P g.1 classes (wS g ad ((u2 k.1 0 2 p0), k.2.1, k.2.2.1, k.2.2.2) x y q) H := hP
  have hD : va_D A (wS g ad ((u2 k.1 0 2 p0), k.2.1, k.2.2.1, k.2.2.2) x y q) := hD
  refine lv_aload hx hb d_SP_body_82 (lv_at hl 0 rfl) ?_
  refine lv_iload_n hx hb d_SP_body_84 rfl (lv_at hl 4 rfl) ?_
  refine va_put (D := g.1) (ci := 6) (v := .int p1) (ty := .int) (C := R_Sh) (T := F_Sh) (N := 5) hx hb hw i_Sh t_Sh t_Sh_ok n_Sh hown hE.1 hP hD hS 5 rfl rfl 1 (by decide) (hw _ q_41) (fun _ h9 => h9) rfl (by decide +kernel) rfl rfl (Nat.le_of_ble_eq_true rfl) d_SP_body_85 (fun H locs hP hD hS => ?_)
  have hP : va_P g.1 classes (wS g ad ((u2 (u2 k.1 0 2 p0) 1 2 p1), k.2.1, k.2.2.1, k.2.2.2) x y q) H := hP
  have hD : va_D A (wS g ad ((u2 (u2 k.1 0 2 p0) 1 2 p1), k.2.1, k.2.2.1, k.2.2.2) x y q) := hD
  refine lv_aload hx hb d_SP_body_88 (lv_at hl 0 rfl) ?_
  refine lv_iload_n hx hb d_SP_body_90 rfl (lv_at hl 5 rfl) ?_
  refine va_put (D := g.1) (ci := 6) (v := .int p2) (ty := .int) (C := R_Sh) (T := F_Sh) (N := 5) hx hb hw i_Sh t_Sh t_Sh_ok n_Sh hown hE.1 hP hD hS 5 rfl rfl 2 (by decide) (hw _ q_44) (fun _ h9 => h9) rfl (by decide +kernel) rfl rfl (Nat.le_of_ble_eq_true rfl) d_SP_body_91 (fun H locs hP hD hS => ?_)
  have hP : va_P g.1 classes (wS g ad ((u2 (u2 (u2 k.1 0 2 p0) 1 2 p1) 2 2 p2), k.2.1, k.2.2.1, k.2.2.2) x y q) H := hP
  have hD : va_D A (wS g ad ((u2 (u2 (u2 k.1 0 2 p0) 1 2 p1) 2 2 p2), k.2.1, k.2.2.1, k.2.2.2) x y q) := hD
  refine lv_aload hx hb d_SP_body_94 (lv_at hl 0 rfl) ?_
  refine lv_iload hx hb d_SP_body_96 (lv_at hl 6 rfl) ?_
  refine va_put (D := g.1) (ci := 6) (v := .int p3) (ty := .int) (C := R_Sh) (T := F_Sh) (N := 5) hx hb hw i_Sh t_Sh t_Sh_ok n_Sh hown hE.1 hP hD hS 5 rfl rfl 3 (by decide) (hw _ q_47) (fun _ h9 => h9) rfl (by decide +kernel) rfl rfl (Nat.le_of_ble_eq_true rfl) d_SP_body_98 (fun H locs hP hD hS => ?_)
  have hP : va_P g.1 classes (wS g ad ((u2 (u2 (u2 (u2 k.1 0 2 p0) 1 2 p1) 2 2 p2) 3 2 p3), k.2.1, k.2.2.1, k.2.2.2) x y q) H := hP
  have hD : va_D A (wS g ad ((u2 (u2 (u2 (u2 k.1 0 2 p0) 1 2 p1) 2 2 p2) 3 2 p3), k.2.1, k.2.2.1, k.2.2.2) x y q) := hD
  refine lv_aload hx hb d_SP_body_101 (lv_at hl 0 rfl) ?_
  refine lv_iload hx hb d_SP_body_103 (lv_at hl 7 rfl) ?_
  refine va_put (D := g.1) (ci := 6) (v := .int p4) (ty := .int) (C := R_Sh) (T := F_Sh) (N := 5) hx hb hw i_Sh t_Sh t_Sh_ok n_Sh hown hE.1 hP hD hS 5 rfl rfl 4 (by decide) (hw _ q_50) (fun _ h9 => h9) rfl (by decide +kernel) rfl rfl (Nat.le_of_ble_eq_true rfl) d_SP_body_105 (fun H locs hP hD hS => ?_)
  have hP : va_P g.1 classes (wS g ad ((u2 (u2 (u2 (u2 (u2 k.1 0 2 p0) 1 2 p1) 2 2 p2) 3 2 p3) 4 2 p4), k.2.1, k.2.2.1, k.2.2.2) x y q) H := hP
  have hD : va_D A (wS g ad ((u2 (u2 (u2 (u2 (u2 k.1 0 2 p0) 1 2 p1) 2 2 p2) 3 2 p3) 4 2 p4), k.2.1, k.2.2.1, k.2.2.2) x y q) := hD
  refine lv_aload_n hx hb d_SP_body_108 rfl (lv_at hl 2 rfl) ?_
  refine va_get (D := g.1) (ci := 0) (v := .ref (ad 1)) (C := R_SP) (T := F_SP) (N := 4) hx hb hw i_SP hown hE.1 hP 0 rfl rfl 0 (by decide) (hw _ q_214) (fun _ h9 => h9) rfl d_SP_body_109 ?_
  refine lv_iload hx hb d_SP_body_112 (lv_at hl 1 rfl) ?_
  refine lv_iconst (v := 1) hx hb d_SP_body_114 (by decide) ?_
  refine lv_iadd hx hb d_SP_body_115 ?_
  refine va_put (D := g.1) (ci := 5) (v := .int ((nI 2) + 1)) (ty := .int) (C := R_Se) (T := F_Se) (N := 9) hx hb hw i_Se t_Se t_Se_ok n_Se hown hE.1 hP hD hS 1 rfl rfl 3 (by decide) (hw _ q_73) (fun _ h9 => h9) rfl (by decide +kernel) rfl rfl (Nat.le_of_ble_eq_true rfl) d_SP_body_116 (fun H locs hP hD hS => ?_)
  have hP : va_P g.1 classes (wS g ad ((u2 (u2 (u2 (u2 (u2 k.1 0 2 p0) 1 2 p1) 2 2 p2) 3 2 p3) 4 2 p4), (upd k.2.1 0 ((nI 2) + 1)), k.2.2.1, k.2.2.2) x y q) H := hP
  have hD : va_D A (wS g ad ((u2 (u2 (u2 (u2 (u2 k.1 0 2 p0) 1 2 p1) 2 2 p2) 3 2 p3) 4 2 p4), (upd k.2.1 0 ((nI 2) + 1)), k.2.2.1, k.2.2.2) x y q) := hD
  have hP : va_P g.1 classes (wS g ad (bodyK k 2 p0 p1 p2 p3 p4) x y q) H := hP
  have hD : va_D A (wS g ad (bodyK k 2 p0 p1 p2 p3 p4) x y q) := hD
  refine lv_aload_n hx hb d_SP_body_119 rfl (lv_at hl 2 rfl) ?_
  refine va_get (D := g.1) (ci := 0) (v := .ref (ad 8)) (C := R_SP) (T := F_SP) (N := 4) hx hb hw i_SP hown hE.1 hP 0 rfl rfl 1 (by decide) (hw _ q_215) (fun _ h9 => h9) rfl d_SP_body_120 ?_
  refine cvV C v_SP_71 [] [] (c_Ru_begin l g (mp lvL ad) (bodyK k 2 p0 p1 p2 p3 p4) x (2 + 1) bodyK_0 (by decide) np ((bodyK_lo (by decide)).trans hp) h20) hP hD hS [8, 1, 2, 3, 4, 5, 9, 10, 11, 12, 13, 14, 6, 7] [0, 15, 16, 17, 18, 19, 20, 21, 22, 23, 24, 25, 26, 27, 28, 29, 30, 31, 32, 33, 34, 35, 36, 37, 38] [0, 26, 27, 28, 29, 30, 37, 38, 25, 31, 32, 33, 34, 35, 36, 1, 2, 3, 4, 5, 6, 7, 8, 9, 10, 11, 12, 13, 14, 15, 16, 17, 18, 19, 20, 21, 22, 23, 24] [((ad 0), .inr (0, [.ref (ad 1), .ref (ad 8), .ref (ad 15), .ref (ad 22)])), ((ad 15), .inr (4, [.ref (ad 16), .ref (ad 20), .int (y.2.1 0), .int (y.2.1 1), .int (y.2.1 2), .int (y.2.1 3), .int (y.2.1 4), .ref (ad 1)])), ((ad 16), .inl (g.2.1 4, 3, .inr (.inr (.inr (.inr (fun j => [ad 17, ad 18, ad 19][j]?)))))), ((ad 17), .inr (3, [.int (y.1 0 0), .int (y.1 1 0), .int (y.1 2 0), .int (y.1 3 0), .int (y.1 4 0)])), ((ad 18), .inr (3, [.int (y.1 0 1), .int (y.1 1 1), .int (y.1 2 1), .int (y.1 3 1), .int (y.1 4 1)])), ((ad 19), .inr (3, [.int (y.1 0 2), .int (y.1 1 2), .int (y.1 2 2), .int (y.1 3 2), .int (y.1 4 2)])), ((ad 20), .inr (1, [.ref (ad 21), .int y.2.2.1])), ((ad 21), .inl (g.2.1 1, 64, .inr (.inl y.2.2.2))), ((ad 22), .inl (g.2.1 5, 4, .inr (.inr (.inr (.inr (fun j => [ad 23, ad 27, ad 31, ad 35][j]?)))))), ((ad 23), .inr (2, [.ref (ad 24), .ref (ad 25), .ref (ad 26), .int ((q 0).2.2.2)])), ((ad 24), .inl (g.2.1 0, 6, .inl ((q 0).1))), ((ad 25), .inl (g.2.1 0, 6, .inl ((q 0).2.1))), ((ad 26), .inl (g.2.1 2, 6, .inl ((q 0).2.2.1))), ((ad 27), .inr (2, [.ref (ad 28), .ref (ad 29), .ref (ad 30), .int ((q 1).2.2.2)])), ((ad 28), .inl (g.2.1 0, 6, .inl ((q 1).1))), ((ad 29), .inl (g.2.1 0, 6, .inl ((q 1).2.1))), ((ad 30), .inl (g.2.1 2, 6, .inl ((q 1).2.2.1))), ((ad 31), .inr (2, [.ref (ad 32), .ref (ad 33), .ref (ad 34), .int ((q 2).2.2.2)])), ((ad 32), .inl (g.2.1 0, 6, .inl ((q 2).1))), ((ad 33), .inl (g.2.1 0, 6, .inl ((q 2).2.1))), ((ad 34), .inl (g.2.1 2, 6, .inl ((q 2).2.2.1))), ((ad 35), .inr (2, [.ref (ad 36), .ref (ad 37), .ref (ad 38), .int ((q 3).2.2.2)])), ((ad 36), .inl (g.2.1 0, 6, .inl ((q 3).1))), ((ad 37), .inl (g.2.1 0, 6, .inl ((q 3).2.1))), ((ad 38), .inl (g.2.1 2, 6, .inl ((q 3).2.2.1)))] (wS g ad (bodyK k 2 p0 p1 p2 p3 p4) (begF (bodyK k 2 p0 p1 p2 p3 p4) (2 + 1) np x) y q) rfl rfl (by decide) (by decide) (by decide) rfl (by decide) 0 rfl rfl rfl rfl hl.1 (Nat.le_of_ble_eq_true rfl) ⟨Nat.le_of_ble_eq_true rfl, Nat.le_of_ble_eq_true rfl⟩ d_SP_body_123 ⟨Nat.zero_le _, Nat.zero_le _⟩ (fun H locs hP hD hS => ?_)
  refine lv_iload hx hb d_SP_body_126 (lv_at hl 1 rfl) ?_
  exact hret _ _ _ _ _ _ rfl rfl hP hD hS d_SP_body_128
set_option maxHeartbeats 4000000 in
theorem c_SP_body_0 (l : Launch) (g : Glob) (ad : Nat → Nat) (k : CFG) (x y : RS) (q : PLS) (n : Nat) (h3 : n < 3) (hn : k.2.1 0 = nI n) (np : Nat) (hp : k.2.1 1 = nI np) (h20 : np ≤ 20) (p0 p1 p2 p3 p4 : Int32) (v0 : inI p0 1 200 = 1) (v1 : inI p1 0 200 = 1) (v2 : inI p2 0 60 = 1) (v3 : inI p3 0 60 = 1) (v4 : inI p4 1 20 = 1) : CI l g y_SP_body b_SP_body 8 (some .int) 8 162 [.ref (ad 0), .int p0, .int p1, .int p2, .int p3, .int p4] (wS g ad k x y q) (nI n) (wS g ad (bodyK k n p0 p1 p2 p3 p4) (begF (bodyK k n p0 p1 p2 p3 p4) (n + 1) np x) y q) := by
  rcases (show n = 0 ∨ n = 1 ∨ n = 2 by omega) with rfl | rfl | rfl
  · exact c_SP_body_0_0 l g ad k x y q hn np hp h20 p0 p1 p2 p3 p4 v0 v1 v2 v3 v4
  · exact c_SP_body_0_1 l g ad k x y q hn np hp h20 p0 p1 p2 p3 p4 v0 v1 v2 v3 v4
  · exact c_SP_body_0_2 l g ad k x y q hn np hp h20 p0 p1 p2 p3 p4 v0 v1 v2 v3 v4
set_option maxHeartbeats 4000000 in
set_option maxRecDepth 100000 in
theorem c_SP_start_1 (l : Launch) (g : Glob) (hfl : l.flags = pinnedFlags ++ [noTraceFlag]) (ad : Nat → Nat) (k : CFG) (x y : RS) (q : PLS) (p0 p1 p2 : Int32) (hbad : ¬ (inI p0 (-1000) 1000 = 1 ∧ inI p1 (-1000) 1000 = 1 ∧ inI p2 0 63 = 1)) : CX l g y_SP_start b_SP_start 4 (Option.none : Option Jvm.ClassFile.FieldType) 8 162 [.ref (ad 0), .int p0, .int p1, .int p2] (wS g ad k x y q) R_IA := by
  refine CX.of (by decide +kernel) (Nat.le_of_ble_eq_true rfl) ?_
  intro p e s m below meth c A ls C htab hlocks hP hD hl hS
  obtain ⟨hx, hb, hml, hown, hw, hE, hA⟩ := id C
  have hH : ∀ x : Nat, x < s.heap.size → s.heap[x]? = s.heap[x]? := fun _ _ => rfl
  have hHs : s.heap.size ≤ s.heap.size := Nat.le_refl _
  have hl : lv_has ls 4 [(0, .ref (ad 0)), (1, .int p0), (2, .int p1), (3, .int p2)] := hl
  refine lv_iload_n hx hb d_SP_start_0 rfl (lv_at hl 1 rfl) ?_
  refine lv_sipush (v := (-1000)) hx hb d_SP_start_1 (by decide) ?_
  refine lv_sipush (v := 1000) hx hb d_SP_start_4 (by decide) ?_
  by_cases v0 : inI p0 (-1000) 1000 = 1
  rotate_left
  · exact xsOut C htab hlocks v_SP_35 [.int p0, .int (-1000), .int 1000] [] (c_SP_demandWithin_x l g hfl p0 (-1000) 1000 v0) hH hHs rfl rfl hl.1 (Nat.le_of_ble_eq_true rfl) ⟨Nat.le_of_ble_eq_true rfl, Nat.le_of_ble_eq_true rfl⟩ ⟨Nat.le_refl _, Nat.le_refl _⟩ d_SP_start_7
  refine csU0 C v_SP_35 [.int p0, .int (-1000), .int 1000] [] (c_SP_demandWithin l g p0 (-1000) 1000 v0) hP hH hHs rfl rfl hl.1 (Nat.le_of_ble_eq_true rfl) ⟨Nat.le_of_ble_eq_true rfl, Nat.le_of_ble_eq_true rfl⟩ d_SP_start_7 ⟨Nat.zero_le _, Nat.zero_le _⟩ (fun H hP hH hHs => ?_)
  refine lv_iload_n hx hb d_SP_start_10 rfl (lv_at hl 2 rfl) ?_
  refine lv_sipush (v := (-1000)) hx hb d_SP_start_11 (by decide) ?_
  refine lv_sipush (v := 1000) hx hb d_SP_start_14 (by decide) ?_
  by_cases v1 : inI p1 (-1000) 1000 = 1
  rotate_left
  · exact xsOut C htab hlocks v_SP_35 [.int p1, .int (-1000), .int 1000] [] (c_SP_demandWithin_x l g hfl p1 (-1000) 1000 v1) hH hHs rfl rfl hl.1 (Nat.le_of_ble_eq_true rfl) ⟨Nat.le_of_ble_eq_true rfl, Nat.le_of_ble_eq_true rfl⟩ ⟨Nat.le_refl _, Nat.le_refl _⟩ d_SP_start_17
  refine csU0 C v_SP_35 [.int p1, .int (-1000), .int 1000] [] (c_SP_demandWithin l g p1 (-1000) 1000 v1) hP hH hHs rfl rfl hl.1 (Nat.le_of_ble_eq_true rfl) ⟨Nat.le_of_ble_eq_true rfl, Nat.le_of_ble_eq_true rfl⟩ d_SP_start_17 ⟨Nat.zero_le _, Nat.zero_le _⟩ (fun H hP hH hHs => ?_)
  refine lv_iload_n hx hb d_SP_start_20 rfl (lv_at hl 3 rfl) ?_
  refine lv_iconst (v := 0) hx hb d_SP_start_21 (by decide) ?_
  refine lv_bipush (v := 63) hx hb d_SP_start_22 (by decide) ?_
  by_cases v2 : inI p2 0 63 = 1
  rotate_left
  · exact xsOut C htab hlocks v_SP_35 [.int p2, .int 0, .int 63] [] (c_SP_demandWithin_x l g hfl p2 0 63 v2) hH hHs rfl rfl hl.1 (Nat.le_of_ble_eq_true rfl) ⟨Nat.le_of_ble_eq_true rfl, Nat.le_of_ble_eq_true rfl⟩ ⟨Nat.le_refl _, Nat.le_refl _⟩ d_SP_start_24
  exact absurd ⟨v0, v1, v2⟩ hbad
set_option maxHeartbeats 4000000 in
set_option maxRecDepth 100000 in
theorem c_SP_start_0 (l : Launch) (g : Glob) (ad : Nat → Nat) (k : CFG) (x y : RS) (q : PLS) (n : Nat) (hn : k.2.1 0 = nI n) (h3 : n ≤ 3) (np : Nat) (hp : k.2.1 1 = nI np) (h20 : np ≤ 20) (p0 p1 p2 : Int32) (v0 : inI p0 (-1000) 1000 = 1) (v1 : inI p1 (-1000) 1000 = 1) (v2 : inI p2 0 63 = 1) : CV l g y_SP_start b_SP_start 4 8 162 [.ref (ad 0), .int p0, .int p1, .int p2] (wS g ad k x y q) (wS g ad (startK k p0 p1 p2) (begF (startK k p0 p1 p2) n np x) y q) := by
  refine CV.of (by decide +kernel) (Nat.le_of_ble_eq_true rfl) ?_
  intro p e s m below meth c A Q ls C hP hD hl hret hS
  obtain ⟨hx, hb, hml, hown, hw, hE, hA⟩ := id C
  have hl : lv_has ls 4 [(0, .ref (ad 0)), (1, .int p0), (2, .int p1), (3, .int p2)] := hl
  refine lv_iload_n hx hb d_SP_start_0 rfl (lv_at hl 1 rfl) ?_
  refine lv_sipush (v := (-1000)) hx hb d_SP_start_1 (by decide) ?_
  refine lv_sipush (v := 1000) hx hb d_SP_start_4 (by decide) ?_
  refine csU C v_SP_35 [.int p0, .int (-1000), .int 1000] [] (c_SP_demandWithin l g p0 (-1000) 1000 v0) hP hS rfl rfl hl.1 (Nat.le_of_ble_eq_true rfl) ⟨Nat.le_of_ble_eq_true rfl, Nat.le_of_ble_eq_true rfl⟩ d_SP_start_7 ⟨Nat.zero_le _, Nat.zero_le _⟩ (fun H locs hP hS => ?_)
  refine lv_iload_n hx hb d_SP_start_10 rfl (lv_at hl 2 rfl) ?_
  refine lv_sipush (v := (-1000)) hx hb d_SP_start_11 (by decide) ?_
  refine lv_sipush (v := 1000) hx hb d_SP_start_14 (by decide) ?_
  refine csU C v_SP_35 [.int p1, .int (-1000), .int 1000] [] (c_SP_demandWithin l g p1 (-1000) 1000 v1) hP hS rfl rfl hl.1 (Nat.le_of_ble_eq_true rfl) ⟨Nat.le_of_ble_eq_true rfl, Nat.le_of_ble_eq_true rfl⟩ d_SP_start_17 ⟨Nat.zero_le _, Nat.zero_le _⟩ (fun H locs hP hS => ?_)
  refine lv_iload_n hx hb d_SP_start_20 rfl (lv_at hl 3 rfl) ?_
  refine lv_iconst (v := 0) hx hb d_SP_start_21 (by decide) ?_
  refine lv_bipush (v := 63) hx hb d_SP_start_22 (by decide) ?_
  refine csU C v_SP_35 [.int p2, .int 0, .int 63] [] (c_SP_demandWithin l g p2 0 63 v2) hP hS rfl rfl hl.1 (Nat.le_of_ble_eq_true rfl) ⟨Nat.le_of_ble_eq_true rfl, Nat.le_of_ble_eq_true rfl⟩ d_SP_start_24 ⟨Nat.zero_le _, Nat.zero_le _⟩ (fun H locs hP hS => ?_)
  refine lv_aload_n hx hb d_SP_start_27 rfl (lv_at hl 0 rfl) ?_
  refine va_get (D := g.1) (ci := 0) (v := .ref (ad 1)) (C := R_SP) (T := F_SP) (N := 4) hx hb hw i_SP hown hE.1 hP 0 rfl rfl 0 (by decide) (hw _ q_214) (fun _ h9 => h9) rfl d_SP_start_28 ?_
  refine lv_iload_n hx hb d_SP_start_31 rfl (lv_at hl 1 rfl) ?_
  refine va_put (D := g.1) (ci := 5) (v := .int p0) (ty := .int) (C := R_Se) (T := F_Se) (N := 9) hx hb hw i_Se t_Se t_Se_ok n_Se hown hE.1 hP hD hS 1 rfl rfl 5 (by decide) (hw _ q_77) (fun _ h9 => h9) rfl (by decide +kernel) rfl rfl (Nat.le_of_ble_eq_true rfl) d_SP_start_32 (fun H locs hP hD hS => ?_)
  have hP : va_P g.1 classes (wS g ad (k.1, (upd k.2.1 2 p0), k.2.2.1, k.2.2.2) x y q) H := hP
  have hD : va_D A (wS g ad (k.1, (upd k.2.1 2 p0), k.2.2.1, k.2.2.2) x y q) := hD
  refine lv_aload_n hx hb d_SP_start_35 rfl (lv_at hl 0 rfl) ?_
  refine va_get (D := g.1) (ci := 0) (v := .ref (ad 1)) (C := R_SP) (T := F_SP) (N := 4) hx hb hw i_SP hown hE.1 hP 0 rfl rfl 0 (by decide) (hw _ q_214) (fun _ h9 => h9) rfl d_SP_start_36 ?_
  refine lv_iload_n hx hb d_SP_start_39 rfl (lv_at hl 2 rfl) ?_
  refine va_put (D := g.1) (ci := 5) (v := .int p1) (ty := .int) (C := R_Se) (T := F_Se) (N := 9) hx hb hw i_Se t_Se t_Se_ok n_Se hown hE.1 hP hD hS 1 rfl rfl 6 (by decide) (hw _ q_79) (fun _ h9 => h9) rfl (by decide +kernel) rfl rfl (Nat.le_of_ble_eq_true rfl) d_SP_start_40 (fun H locs hP hD hS => ?_)
  have hP : va_P g.1 classes (wS g ad (k.1, (upd (upd k.2.1 2 p0) 3 p1), k.2.2.1, k.2.2.2) x y q) H := hP
  have hD : va_D A (wS g ad (k.1, (upd (upd k.2.1 2 p0) 3 p1), k.2.2.1, k.2.2.2) x y q) := hD
  refine lv_aload_n hx hb d_SP_start_43 rfl (lv_at hl 0 rfl) ?_
  refine va_get (D := g.1) (ci := 0) (v := .ref (ad 1)) (C := R_SP) (T := F_SP) (N := 4) hx hb hw i_SP hown hE.1 hP 0 rfl rfl 0 (by decide) (hw _ q_214) (fun _ h9 => h9) rfl d_SP_start_44 ?_
  refine lv_iload_n hx hb d_SP_start_47 rfl (lv_at hl 3 rfl) ?_
  refine va_put (D := g.1) (ci := 5) (v := .int p2) (ty := .int) (C := R_Se) (T := F_Se) (N := 9) hx hb hw i_Se t_Se t_Se_ok n_Se hown hE.1 hP hD hS 1 rfl rfl 7 (by decide) (hw _ q_81) (fun _ h9 => h9) rfl (by decide +kernel) rfl rfl (Nat.le_of_ble_eq_true rfl) d_SP_start_48 (fun H locs hP hD hS => ?_)
  have hP : va_P g.1 classes (wS g ad (k.1, (upd (upd (upd k.2.1 2 p0) 3 p1) 4 p2), k.2.2.1, k.2.2.2) x y q) H := hP
  have hD : va_D A (wS g ad (k.1, (upd (upd (upd k.2.1 2 p0) 3 p1) 4 p2), k.2.2.1, k.2.2.2) x y q) := hD
  have hP : va_P g.1 classes (wS g ad (startK k p0 p1 p2) x y q) H := hP
  have hD : va_D A (wS g ad (startK k p0 p1 p2) x y q) := hD
  refine lv_aload_n hx hb d_SP_start_51 rfl (lv_at hl 0 rfl) ?_
  refine va_get (D := g.1) (ci := 0) (v := .ref (ad 8)) (C := R_SP) (T := F_SP) (N := 4) hx hb hw i_SP hown hE.1 hP 0 rfl rfl 1 (by decide) (hw _ q_215) (fun _ h9 => h9) rfl d_SP_start_52 ?_
  refine cvV C v_SP_71 [] [] (c_Ru_begin l g (mp lvL ad) (startK k p0 p1 p2) x n ((startK_lo (by decide)).trans hn) h3 np ((startK_lo (by decide)).trans hp) h20) hP hD hS [8, 1, 2, 3, 4, 5, 9, 10, 11, 12, 13, 14, 6, 7] [0, 15, 16, 17, 18, 19, 20, 21, 22, 23, 24, 25, 26, 27, 28, 29, 30, 31, 32, 33, 34, 35, 36, 37, 38] [0, 26, 27, 28, 29, 30, 37, 38, 25, 31, 32, 33, 34, 35, 36, 1, 2, 3, 4, 5, 6, 7, 8, 9, 10, 11, 12, 13, 14, 15, 16, 17, 18, 19, 20, 21, 22, 23, 24] [((ad 0), .inr (0, [.ref (ad 1), .ref (ad 8), .ref (ad 15), .ref (ad 22)])), ((ad 15), .inr (4, [.ref (ad 16), .ref (ad 20), .int (y.2.1 0), .int (y.2.1 1), .int (y.2.1 2), .int (y.2.1 3), .int (y.2.1 4), .ref (ad 1)])), ((ad 16), .inl (g.2.1 4, 3, .inr (.inr (.inr (.inr (fun j => [ad 17, ad 18, ad 19][j]?)))))), ((ad 17), .inr (3, [.int (y.1 0 0), .int (y.1 1 0), .int (y.1 2 0), .int (y.1 3 0), .int (y.1 4 0)])), ((ad 18), .inr (3, [.int (y.1 0 1), .int (y.1 1 1), .int (y.1 2 1), .int (y.1 3 1), .int (y.1 4 1)])), ((ad 19), .inr (3, [.int (y.1 0 2), .int (y.1 1 2), .int (y.1 2 2), .int (y.1 3 2), .int (y.1 4 2)])), ((ad 20), .inr (1, [.ref (ad 21), .int y.2.2.1])), ((ad 21), .inl (g.2.1 1, 64, .inr (.inl y.2.2.2))), ((ad 22), .inl (g.2.1 5, 4, .inr (.inr (.inr (.inr (fun j => [ad 23, ad 27, ad 31, ad 35][j]?)))))), ((ad 23), .inr (2, [.ref (ad 24), .ref (ad 25), .ref (ad 26), .int ((q 0).2.2.2)])), ((ad 24), .inl (g.2.1 0, 6, .inl ((q 0).1))), ((ad 25), .inl (g.2.1 0, 6, .inl ((q 0).2.1))), ((ad 26), .inl (g.2.1 2, 6, .inl ((q 0).2.2.1))), ((ad 27), .inr (2, [.ref (ad 28), .ref (ad 29), .ref (ad 30), .int ((q 1).2.2.2)])), ((ad 28), .inl (g.2.1 0, 6, .inl ((q 1).1))), ((ad 29), .inl (g.2.1 0, 6, .inl ((q 1).2.1))), ((ad 30), .inl (g.2.1 2, 6, .inl ((q 1).2.2.1))), ((ad 31), .inr (2, [.ref (ad 32), .ref (ad 33), .ref (ad 34), .int ((q 2).2.2.2)])), ((ad 32), .inl (g.2.1 0, 6, .inl ((q 2).1))), ((ad 33), .inl (g.2.1 0, 6, .inl ((q 2).2.1))), ((ad 34), .inl (g.2.1 2, 6, .inl ((q 2).2.2.1))), ((ad 35), .inr (2, [.ref (ad 36), .ref (ad 37), .ref (ad 38), .int ((q 3).2.2.2)])), ((ad 36), .inl (g.2.1 0, 6, .inl ((q 3).1))), ((ad 37), .inl (g.2.1 0, 6, .inl ((q 3).2.1))), ((ad 38), .inl (g.2.1 2, 6, .inl ((q 3).2.2.1)))] (wS g ad (startK k p0 p1 p2) (begF (startK k p0 p1 p2) n np x) y q) rfl rfl (by decide) (by decide) (by decide) rfl (by decide) 0 rfl rfl rfl rfl hl.1 (Nat.le_of_ble_eq_true rfl) ⟨Nat.le_of_ble_eq_true rfl, Nat.le_of_ble_eq_true rfl⟩ d_SP_start_55 ⟨Nat.zero_le _, Nat.zero_le _⟩ (fun H locs hP hD hS => ?_)
  exact hret _ _ _ _ _ rfl hP hD hS d_SP_start_58
set_option maxHeartbeats 4000000 in
set_option maxRecDepth 100000 in
theorem c_SP_step_1 (l : Launch) (g : Glob) (hfl : l.flags = pinnedFlags ++ [noTraceFlag]) (ad : Nat → Nat) (k : CFG) (x y : RS) (q : PLS) (p0 : Int32) (hbad : ¬ (inI p0 1 20 = 1)) : CX l g y_SP_step b_SP_step 3 (some .int) 8 162 [.ref (ad 0), .int p0] (wS g ad k x y q) R_IA := by
  refine CX.of (by decide +kernel) (Nat.le_of_ble_eq_true rfl) ?_
  intro p e s m below meth c A ls C htab hlocks hP hD hl hS
  obtain ⟨hx, hb, hml, hown, hw, hE, hA⟩ := id C
  have hH : ∀ x : Nat, x < s.heap.size → s.heap[x]? = s.heap[x]? := fun _ _ => rfl
  have hHs : s.heap.size ≤ s.heap.size := Nat.le_refl _
  have hl : lv_has ls 3 [(0, .ref (ad 0)), (1, .int p0)] := hl
  refine lv_iload_n hx hb d_SP_step_0 rfl (lv_at hl 1 rfl) ?_
  refine lv_iconst (v := 1) hx hb d_SP_step_1 (by decide) ?_
  refine lv_bipush (v := 20) hx hb d_SP_step_2 (by decide) ?_
  by_cases v0 : inI p0 1 20 = 1
  rotate_left
  · exact xsOut C htab hlocks v_SP_35 [.int p0, .int 1, .int 20] [] (c_SP_demandWithin_x l g hfl p0 1 20 v0) hH hHs rfl rfl hl.1 (Nat.le_of_ble_eq_true rfl) ⟨Nat.le_of_ble_eq_true rfl, Nat.le_of_ble_eq_true rfl⟩ ⟨Nat.le_refl _, Nat.le_refl _⟩ d_SP_step_4
  exact absurd v0 hbad
set_option maxHeartbeats 4000000 in
set_option maxRecDepth 100000 in
theorem c_SP_step_0 (l : Launch) (g : Glob) (ad : Nat → Nat) (k : CFG) (x y : RS) (q : PLS) (n : Nat) (hn : k.2.1 0 = nI n) (h3 : n ≤ 3) (np : Nat) (hp : k.2.1 1 = nI np) (h20 : np ≤ 20) (p0 : Int32) (v0 : inI p0 1 20 = 1) : CI l g y_SP_step b_SP_step 3 (some .int) 8 162 [.ref (ad 0), .int p0] (wS g ad k x y q) (k.2.1 5) (wS g ad (stepK k p0) (begF (stepK k p0) n np x) y q) := by
  refine CI.of .int rfl rfl (by decide +kernel) (Nat.le_of_ble_eq_true rfl) ?_
  intro p e s m below meth c A Q ls C hP hD hl hret hS
  obtain ⟨hx, hb, hml, hown, hw, hE, hA⟩ := id C
  have hl : lv_has ls 3 [(0, .ref (ad 0)), (1, .int p0)] := hl
  refine lv_iload_n hx hb d_SP_step_0 rfl (lv_at hl 1 rfl) ?_
  refine lv_iconst (v := 1) hx hb d_SP_step_1 (by decide) ?_
  refine lv_bipush (v := 20) hx hb d_SP_step_2 (by decide) ?_
  refine csU C v_SP_35 [.int p0, .int 1, .int 20] [] (c_SP_demandWithin l g p0 1 20 v0) hP hS rfl rfl hl.1 (Nat.le_of_ble_eq_true rfl) ⟨Nat.le_of_ble_eq_true rfl, Nat.le_of_ble_eq_true rfl⟩ d_SP_step_4 ⟨Nat.zero_le _, Nat.zero_le _⟩ (fun H locs hP hS => ?_)
  refine lv_aload_n hx hb d_SP_step_7 rfl (lv_at hl 0 rfl) ?_
  refine va_get (D := g.1) (ci := 0) (v := .ref (ad 1)) (C := R_SP) (T := F_SP) (N := 4) hx hb hw i_SP hown hE.1 hP 0 rfl rfl 0 (by decide) (hw _ q_214) (fun _ h9 => h9) rfl d_SP_step_8 ?_
  refine va_get (D := g.1) (ci := 5) (v := .int (k.2.1 5)) (C := R_Se) (T := F_Se) (N := 9) hx hb hw i_Se hown hE.1 hP 1 rfl rfl 8 (by decide) (hw _ q_83) (fun _ h9 => h9) rfl d_SP_step_11 ?_
  refine lv_istore_n (lv' := [(2, .int (k.2.1 5)), (0, .ref (ad 0)), (1, .int p0)]) hx hb d_SP_step_14 rfl hl (by decide) rfl (fun ls hl => ?_)
  refine lv_aload_n hx hb d_SP_step_15 rfl (lv_at hl 1 rfl) ?_
  refine va_get (D := g.1) (ci := 0) (v := .ref (ad 1)) (C := R_SP) (T := F_SP) (N := 4) hx hb hw i_SP hown hE.1 hP 0 rfl rfl 0 (by decide) (hw _ q_214) (fun _ h9 => h9) rfl d_SP_step_16 ?_
  refine lv_iload_n hx hb d_SP_step_19 rfl (lv_at hl 2 rfl) ?_
  refine va_put (D := g.1) (ci := 5) (v := .int p0) (ty := .int) (C := R_Se) (T := F_Se) (N := 9) hx hb hw i_Se t_Se t_Se_ok n_Se hown hE.1 hP hD hS 1 rfl rfl 8 (by decide) (hw _ q_83) (fun _ h9 => h9) rfl (by decide +kernel) rfl rfl (Nat.le_of_ble_eq_true rfl) d_SP_step_20 (fun H locs hP hD hS => ?_)
  have hP : va_P g.1 classes (wS g ad (k.1, (upd k.2.1 5 p0), k.2.2.1, k.2.2.2) x y q) H := hP
  have hD : va_D A (wS g ad (k.1, (upd k.2.1 5 p0), k.2.2.1, k.2.2.2) x y q) := hD
  have hP : va_P g.1 classes (wS g ad (stepK k p0) x y q) H := hP
  have hD : va_D A (wS g ad (stepK k p0) x y q) := hD
  refine lv_aload_n hx hb d_SP_step_23 rfl (lv_at hl 1 rfl) ?_
  refine va_get (D := g.1) (ci := 0) (v := .ref (ad 8)) (C := R_SP) (T := F_SP) (N := 4) hx hb hw i_SP hown hE.1 hP 0 rfl rfl 1 (by decide) (hw _ q_215) (fun _ h9 => h9) rfl d_SP_step_24 ?_
  refine cvV C v_SP_71 [] [] (c_Ru_begin l g (mp lvL ad) (stepK k p0) x n ((stepK_lo (by decide)).trans hn) h3 np ((stepK_lo (by decide)).trans hp) h20) hP hD hS [8, 1, 2, 3, 4, 5, 9, 10, 11, 12, 13, 14, 6, 7] [0, 15, 16, 17, 18, 19, 20, 21, 22, 23, 24, 25, 26, 27, 28, 29, 30, 31, 32, 33, 34, 35, 36, 37, 38] [0, 26, 27, 28, 29, 30, 37, 38, 25, 31, 32, 33, 34, 35, 36, 1, 2, 3, 4, 5, 6, 7, 8, 9, 10, 11, 12, 13, 14, 15, 16, 17, 18, 19, 20, 21, 22, 23, 24] [((ad 0), .inr (0, [.ref (ad 1), .ref (ad 8), .ref (ad 15), .ref (ad 22)])), ((ad 15), .inr (4, [.ref (ad 16), .ref (ad 20), .int (y.2.1 0), .int (y.2.1 1), .int (y.2.1 2), .int (y.2.1 3), .int (y.2.1 4), .ref (ad 1)])), ((ad 16), .inl (g.2.1 4, 3, .inr (.inr (.inr (.inr (fun j => [ad 17, ad 18, ad 19][j]?)))))), ((ad 17), .inr (3, [.int (y.1 0 0), .int (y.1 1 0), .int (y.1 2 0), .int (y.1 3 0), .int (y.1 4 0)])), ((ad 18), .inr (3, [.int (y.1 0 1), .int (y.1 1 1), .int (y.1 2 1), .int (y.1 3 1), .int (y.1 4 1)])), ((ad 19), .inr (3, [.int (y.1 0 2), .int (y.1 1 2), .int (y.1 2 2), .int (y.1 3 2), .int (y.1 4 2)])), ((ad 20), .inr (1, [.ref (ad 21), .int y.2.2.1])), ((ad 21), .inl (g.2.1 1, 64, .inr (.inl y.2.2.2))), ((ad 22), .inl (g.2.1 5, 4, .inr (.inr (.inr (.inr (fun j => [ad 23, ad 27, ad 31, ad 35][j]?)))))), ((ad 23), .inr (2, [.ref (ad 24), .ref (ad 25), .ref (ad 26), .int ((q 0).2.2.2)])), ((ad 24), .inl (g.2.1 0, 6, .inl ((q 0).1))), ((ad 25), .inl (g.2.1 0, 6, .inl ((q 0).2.1))), ((ad 26), .inl (g.2.1 2, 6, .inl ((q 0).2.2.1))), ((ad 27), .inr (2, [.ref (ad 28), .ref (ad 29), .ref (ad 30), .int ((q 1).2.2.2)])), ((ad 28), .inl (g.2.1 0, 6, .inl ((q 1).1))), ((ad 29), .inl (g.2.1 0, 6, .inl ((q 1).2.1))), ((ad 30), .inl (g.2.1 2, 6, .inl ((q 1).2.2.1))), ((ad 31), .inr (2, [.ref (ad 32), .ref (ad 33), .ref (ad 34), .int ((q 2).2.2.2)])), ((ad 32), .inl (g.2.1 0, 6, .inl ((q 2).1))), ((ad 33), .inl (g.2.1 0, 6, .inl ((q 2).2.1))), ((ad 34), .inl (g.2.1 2, 6, .inl ((q 2).2.2.1))), ((ad 35), .inr (2, [.ref (ad 36), .ref (ad 37), .ref (ad 38), .int ((q 3).2.2.2)])), ((ad 36), .inl (g.2.1 0, 6, .inl ((q 3).1))), ((ad 37), .inl (g.2.1 0, 6, .inl ((q 3).2.1))), ((ad 38), .inl (g.2.1 2, 6, .inl ((q 3).2.2.1)))] (wS g ad (stepK k p0) (begF (stepK k p0) n np x) y q) rfl rfl (by decide) (by decide) (by decide) rfl (by decide) 0 rfl rfl rfl rfl hl.1 (Nat.le_of_ble_eq_true rfl) ⟨Nat.le_of_ble_eq_true rfl, Nat.le_of_ble_eq_true rfl⟩ d_SP_step_27 ⟨Nat.zero_le _, Nat.zero_le _⟩ (fun H locs hP hD hS => ?_)
  refine lv_iload_n hx hb d_SP_step_30 rfl (lv_at hl 0 rfl) ?_
  exact hret _ _ _ _ _ _ rfl rfl hP hD hS d_SP_step_31
set_option maxHeartbeats 4000000 in
set_option maxRecDepth 100000 in
theorem c_SP_pole_1 (l : Launch) (g : Glob) (hfl : l.flags = pinnedFlags ++ [noTraceFlag]) (ad : Nat → Nat) (k : CFG) (x y : RS) (q : PLS) (p0 p1 : Int32) (hbad : ¬ (inI p0 (-1000) 1000 = 1 ∧ inI p1 (-1000) 1000 = 1)) : CX l g y_SP_pole b_SP_pole 4 (some .int) 8 162 [.ref (ad 0), .int p0, .int p1] (wS g ad k x y q) R_IA := by
  refine CX.of (by decide +kernel) (Nat.le_of_ble_eq_true rfl) ?_
  intro p e s m below meth c A ls C htab hlocks hP hD hl hS
  obtain ⟨hx, hb, hml, hown, hw, hE, hA⟩ := id C
  have hH : ∀ x : Nat, x < s.heap.size → s.heap[x]? = s.heap[x]? := fun _ _ => rfl
  have hHs : s.heap.size ≤ s.heap.size := Nat.le_refl _
  have hl : lv_has ls 4 [(0, .ref (ad 0)), (1, .int p0), (2, .int p1)] := hl
  refine lv_iload_n hx hb d_SP_pole_0 rfl (lv_at hl 1 rfl) ?_
  refine lv_sipush (v := (-1000)) hx hb d_SP_pole_1 (by decide) ?_
  refine lv_sipush (v := 1000) hx hb d_SP_pole_4 (by decide) ?_
  by_cases v0 : inI p0 (-1000) 1000 = 1
  rotate_left
  · exact xsOut C htab hlocks v_SP_35 [.int p0, .int (-1000), .int 1000] [] (c_SP_demandWithin_x l g hfl p0 (-1000) 1000 v0) hH hHs rfl rfl hl.1 (Nat.le_of_ble_eq_true rfl) ⟨Nat.le_of_ble_eq_true rfl, Nat.le_of_ble_eq_true rfl⟩ ⟨Nat.le_refl _, Nat.le_refl _⟩ d_SP_pole_7
  refine csU0 C v_SP_35 [.int p0, .int (-1000), .int 1000] [] (c_SP_demandWithin l g p0 (-1000) 1000 v0) hP hH hHs rfl rfl hl.1 (Nat.le_of_ble_eq_true rfl) ⟨Nat.le_of_ble_eq_true rfl, Nat.le_of_ble_eq_true rfl⟩ d_SP_pole_7 ⟨Nat.zero_le _, Nat.zero_le _⟩ (fun H hP hH hHs => ?_)
  refine lv_iload_n hx hb d_SP_pole_10 rfl (lv_at hl 2 rfl) ?_
  refine lv_sipush (v := (-1000)) hx hb d_SP_pole_11 (by decide) ?_
  refine lv_sipush (v := 1000) hx hb d_SP_pole_14 (by decide) ?_
  by_cases v1 : inI p1 (-1000) 1000 = 1
  rotate_left
  · exact xsOut C htab hlocks v_SP_35 [.int p1, .int (-1000), .int 1000] [] (c_SP_demandWithin_x l g hfl p1 (-1000) 1000 v1) hH hHs rfl rfl hl.1 (Nat.le_of_ble_eq_true rfl) ⟨Nat.le_of_ble_eq_true rfl, Nat.le_of_ble_eq_true rfl⟩ ⟨Nat.le_refl _, Nat.le_refl _⟩ d_SP_pole_17
  exact absurd ⟨v0, v1⟩ hbad
set_option maxHeartbeats 4000000 in
set_option maxRecDepth 100000 in
theorem c_SP_pole_2 (l : Launch) (g : Glob) (hfl : l.flags = pinnedFlags ++ [noTraceFlag]) (ad : Nat → Nat) (k : CFG) (x y : RS) (q : PLS) (p0 p1 : Int32) (v0 : inI p0 (-1000) 1000 = 1) (v1 : inI p1 (-1000) 1000 = 1) (hfull : k.2.1 1 = 20) : CX l g y_SP_pole b_SP_pole 4 (some .int) 8 162 [.ref (ad 0), .int p0, .int p1] (wS g ad k x y q) R_IS := by
  refine CX.of (by decide +kernel) (Nat.le_of_ble_eq_true rfl) ?_
  intro p e s m below meth c A ls C htab hlocks hP hD hl hS
  obtain ⟨hx, hb, hml, hown, hw, hE, hA⟩ := id C
  have hH : ∀ x : Nat, x < s.heap.size → s.heap[x]? = s.heap[x]? := fun _ _ => rfl
  have hHs : s.heap.size ≤ s.heap.size := Nat.le_refl _
  have hl : lv_has ls 4 [(0, .ref (ad 0)), (1, .int p0), (2, .int p1)] := hl
  refine lv_iload_n hx hb d_SP_pole_0 rfl (lv_at hl 1 rfl) ?_
  refine lv_sipush (v := (-1000)) hx hb d_SP_pole_1 (by decide) ?_
  refine lv_sipush (v := 1000) hx hb d_SP_pole_4 (by decide) ?_
  refine csU0 C v_SP_35 [.int p0, .int (-1000), .int 1000] [] (c_SP_demandWithin l g p0 (-1000) 1000 v0) hP hH hHs rfl rfl hl.1 (Nat.le_of_ble_eq_true rfl) ⟨Nat.le_of_ble_eq_true rfl, Nat.le_of_ble_eq_true rfl⟩ d_SP_pole_7 ⟨Nat.zero_le _, Nat.zero_le _⟩ (fun H hP hH hHs => ?_)
  refine lv_iload_n hx hb d_SP_pole_10 rfl (lv_at hl 2 rfl) ?_
  refine lv_sipush (v := (-1000)) hx hb d_SP_pole_11 (by decide) ?_
  refine lv_sipush (v := 1000) hx hb d_SP_pole_14 (by decide) ?_
  refine csU0 C v_SP_35 [.int p1, .int (-1000), .int 1000] [] (c_SP_demandWithin l g p1 (-1000) 1000 v1) hP hH hHs rfl rfl hl.1 (Nat.le_of_ble_eq_true rfl) ⟨Nat.le_of_ble_eq_true rfl, Nat.le_of_ble_eq_true rfl⟩ d_SP_pole_17 ⟨Nat.zero_le _, Nat.zero_le _⟩ (fun H hP hH hHs => ?_)
  refine lv_aload_n hx hb d_SP_pole_20 rfl (lv_at hl 0 rfl) ?_
  refine va_get (D := g.1) (ci := 0) (v := .ref (ad 1)) (C := R_SP) (T := F_SP) (N := 4) hx hb hw i_SP hown hE.1 hP 0 rfl rfl 0 (by decide) (hw _ q_214) (fun _ h9 => h9) rfl d_SP_pole_21 ?_
  refine va_get (D := g.1) (ci := 5) (v := .int (k.2.1 1)) (C := R_Se) (T := F_Se) (N := 9) hx hb hw i_Se hown hE.1 hP 1 rfl rfl 4 (by decide) (hw _ q_74) (fun _ h9 => h9) rfl d_SP_pole_24 ?_
  refine lv_istore_n (lv' := [(3, .int (k.2.1 1)), (0, .ref (ad 0)), (1, .int p0), (2, .int p1)]) hx hb d_SP_pole_27 rfl hl (by decide) rfl (fun ls hl => ?_)
  refine lv_iload_n hx hb d_SP_pole_28 rfl (lv_at hl 0 rfl) ?_
  refine lv_bipush (v := 20) hx hb d_SP_pole_29 (by decide) ?_
  refine lv_icmp_lt (tgt := 44) hx hb d_SP_pole_31 (by decide) (fun c31_1 => ?_) (fun c31_1 => ?_)
  · exact absurd c31_1 (by rw [hfull]; decide)
  exact thr_new C htab hlocks hfl (own_all hw hE own_IS own_ISc) (by decide +kernel) q_314 q_315 q_13 hE.2.2.2.2.2.2.2.2.2.2.2.2.1 hH hHs hl.1 (Nat.le_of_ble_eq_true rfl) (Nat.le_of_ble_eq_true rfl) (Nat.le_refl _) (Nat.le_refl _) d_SP_pole_34 d_SP_pole_37 d_SP_pole_38 d_SP_pole_40 d_SP_pole_43
set_option maxHeartbeats 4000000 in
set_option maxRecDepth 100000 in
theorem c_SP_pole_0 (l : Launch) (g : Glob) (ad : Nat → Nat) (k : CFG) (x y : RS) (q : PLS) (np : Nat) (hp : k.2.1 1 = nI np) (h20 : np < 20) (p0 p1 : Int32) (v0 : inI p0 (-1000) 1000 = 1) (v1 : inI p1 (-1000) 1000 = 1) : CI l g y_SP_pole b_SP_pole 4 (some .int) 8 162 [.ref (ad 0), .int p0, .int p1] (wS g ad k x y q) (nI np) (wS g ad (poleK k np p0 p1) x y q) := by
  refine CI.of .int rfl rfl (by decide +kernel) (Nat.le_of_ble_eq_true rfl) ?_
  intro p e s m below meth c A Q ls C hP hD hl hret hS
  obtain ⟨hx, hb, hml, hown, hw, hE, hA⟩ := id C
  have hl : lv_has ls 4 [(0, .ref (ad 0)), (1, .int p0), (2, .int p1)] := hl
  refine lv_iload_n hx hb d_SP_pole_0 rfl (lv_at hl 1 rfl) ?_
  refine lv_sipush (v := (-1000)) hx hb d_SP_pole_1 (by decide) ?_
  refine lv_sipush (v := 1000) hx hb d_SP_pole_4 (by decide) ?_
  refine csU C v_SP_35 [.int p0, .int (-1000), .int 1000] [] (c_SP_demandWithin l g p0 (-1000) 1000 v0) hP hS rfl rfl hl.1 (Nat.le_of_ble_eq_true rfl) ⟨Nat.le_of_ble_eq_true rfl, Nat.le_of_ble_eq_true rfl⟩ d_SP_pole_7 ⟨Nat.zero_le _, Nat.zero_le _⟩ (fun H locs hP hS => ?_)
  refine lv_iload_n hx hb d_SP_pole_10 rfl (lv_at hl 2 rfl) ?_
  refine lv_sipush (v := (-1000)) hx hb d_SP_pole_11 (by decide) ?_
  refine lv_sipush (v := 1000) hx hb d_SP_pole_14 (by decide) ?_
  refine csU C v_SP_35 [.int p1, .int (-1000), .int 1000] [] (c_SP_demandWithin l g p1 (-1000) 1000 v1) hP hS rfl rfl hl.1 (Nat.le_of_ble_eq_true rfl) ⟨Nat.le_of_ble_eq_true rfl, Nat.le_of_ble_eq_true rfl⟩ d_SP_pole_17 ⟨Nat.zero_le _, Nat.zero_le _⟩ (fun H locs hP hS => ?_)
  refine lv_aload_n hx hb d_SP_pole_20 rfl (lv_at hl 0 rfl) ?_
  refine va_get (D := g.1) (ci := 0) (v := .ref (ad 1)) (C := R_SP) (T := F_SP) (N := 4) hx hb hw i_SP hown hE.1 hP 0 rfl rfl 0 (by decide) (hw _ q_214) (fun _ h9 => h9) rfl d_SP_pole_21 ?_
  refine va_get (D := g.1) (ci := 5) (v := .int (k.2.1 1)) (C := R_Se) (T := F_Se) (N := 9) hx hb hw i_Se hown hE.1 hP 1 rfl rfl 4 (by decide) (hw _ q_74) (fun _ h9 => h9) rfl d_SP_pole_24 ?_
  rw [hp]
  -- (nI np)
  refine lv_istore_n (lv' := [(3, .int (nI np)), (0, .ref (ad 0)), (1, .int p0), (2, .int p1)]) hx hb d_SP_pole_27 rfl hl (by decide) rfl (fun ls hl => ?_)
  refine lv_iload_n hx hb d_SP_pole_28 rfl (lv_at hl 0 rfl) ?_
  refine lv_bipush (v := 20) hx hb d_SP_pole_29 (by decide) ?_
  refine lv_icmp_lt (tgt := 44) hx hb d_SP_pole_31 (by decide) (fun c31_1 => ?_) (fun c31_1 => ?_)
  rotate_left
  · exact absurd (nI_lt h20 (by omega)) c31_1
  refine lv_aload_n hx hb d_SP_pole_44 rfl (lv_at hl 1 rfl) ?_
  refine va_get (D := g.1) (ci := 0) (v := .ref (ad 1)) (C := R_SP) (T := F_SP) (N := 4) hx hb hw i_SP hown hE.1 hP 0 rfl rfl 0 (by decide) (hw _ q_214) (fun _ h9 => h9) rfl d_SP_pole_45 ?_
  refine va_get (D := g.1) (ci := 5) (v := .ref (ad 6)) (C := R_Se) (T := F_Se) (N := 9) hx hb hw i_Se hown hE.1 hP 1 rfl rfl 1 (by decide) (hw _ q_67) (fun _ h9 => h9) rfl d_SP_pole_48 ?_
  refine lv_iload_n hx hb d_SP_pole_51 rfl (lv_at hl 0 rfl) ?_
  refine lv_iload_n hx hb d_SP_pole_52 rfl (lv_at hl 2 rfl) ?_
  refine lv_sipush (v := 4096) hx hb d_SP_pole_53 (by decide) ?_
  refine lv_imul hx hb d_SP_pole_56 ?_
  refine va_iast hx hb hE.1 hP hD hS 6 0 rfl rfl (vp_in_nI h20 (by omega)) d_SP_pole_57 (fun H locs hP hD hS => ?_)
  have hP : va_P g.1 classes (wS g ad (k.1, k.2.1, (upd k.2.2.1 np (p0 * 4096)), k.2.2.2) x y q) H := by have q := hP; rw [nI_clamp (show np < 2 ^ 31 by omega)] at q; exact q
  have hD : va_D A (wS g ad (k.1, k.2.1, (upd k.2.2.1 np (p0 * 4096)), k.2.2.2) x y q) := by have q := hD; rw [nI_clamp (show np < 2 ^ 31 by omega)] at q; exact q
  refine lv_aload_n hx hb d_SP_pole_58 rfl (lv_at hl 1 rfl) ?_
  refine va_get (D := g.1) (ci := 0) (v := .ref (ad 1)) (C := R_SP) (T := F_SP) (N := 4) hx hb hw i_SP hown hE.1 hP 0 rfl rfl 0 (by decide) (hw _ q_214) (fun _ h9 => h9) rfl d_SP_pole_59 ?_
  refine va_get (D := g.1) (ci := 5) (v := .ref (ad 7)) (C := R_Se) (T := F_Se) (N := 9) hx hb hw i_Se hown hE.1 hP 1 rfl rfl 2 (by decide) (hw _ q_70) (fun _ h9 => h9) rfl d_SP_pole_62 ?_
  refine lv_iload_n hx hb d_SP_pole_65 rfl (lv_at hl 0 rfl) ?_
  refine lv_iload_n hx hb d_SP_pole_66 rfl (lv_at hl 3 rfl) ?_
  refine lv_sipush (v := 4096) hx hb d_SP_pole_67 (by decide) ?_
  refine lv_imul hx hb d_SP_pole_70 ?_
  refine va_iast hx hb hE.1 hP hD hS 7 0 rfl rfl (vp_in_nI h20 (by omega)) d_SP_pole_71 (fun H locs hP hD hS => ?_)
  have hP : va_P g.1 classes (wS g ad (k.1, k.2.1, (upd k.2.2.1 np (p0 * 4096)), (upd k.2.2.2 np (p1 * 4096))) x y q) H := by have q := hP; rw [nI_clamp (show np < 2 ^ 31 by omega)] at q; exact q
  have hD : va_D A (wS g ad (k.1, k.2.1, (upd k.2.2.1 np (p0 * 4096)), (upd k.2.2.2 np (p1 * 4096))) x y q) := by have q := hD; rw [nI_clamp (show np < 2 ^ 31 by omega)] at q; exact q
  refine lv_aload_n hx hb d_SP_pole_72 rfl (lv_at hl 1 rfl) ?_
  refine va_get (D := g.1) (ci := 0) (v := .ref (ad 1)) (C := R_SP) (T := F_SP) (N := 4) hx hb hw i_SP hown hE.1 hP 0 rfl rfl 0 (by decide) (hw _ q_214) (fun _ h9 => h9) rfl d_SP_pole_73 ?_
  refine lv_iload_n hx hb d_SP_pole_76 rfl (lv_at hl 0 rfl) ?_
  refine lv_iconst (v := 1) hx hb d_SP_pole_77 (by decide) ?_
  refine lv_iadd hx hb d_SP_pole_78 ?_
  refine va_put (D := g.1) (ci := 5) (v := .int ((nI np) + 1)) (ty := .int) (C := R_Se) (T := F_Se) (N := 9) hx hb hw i_Se t_Se t_Se_ok n_Se hown hE.1 hP hD hS 1 rfl rfl 4 (by decide) (hw _ q_74) (fun _ h9 => h9) rfl (by decide +kernel) rfl rfl (Nat.le_of_ble_eq_true rfl) d_SP_pole_79 (fun H locs hP hD hS => ?_)
  have hP : va_P g.1 classes (wS g ad (k.1, (upd k.2.1 1 ((nI np) + 1)), (upd k.2.2.1 np (p0 * 4096)), (upd k.2.2.2 np (p1 * 4096))) x y q) H := hP
  have hD : va_D A (wS g ad (k.1, (upd k.2.1 1 ((nI np) + 1)), (upd k.2.2.1 np (p0 * 4096)), (upd k.2.2.2 np (p1 * 4096))) x y q) := hD
  refine lv_iload_n hx hb d_SP_pole_82 rfl (lv_at hl 0 rfl) ?_
  exact hret _ _ _ _ _ _ rfl rfl hP hD hS d_SP_pole_83
set_option maxHeartbeats 4000000 in
set_option maxRecDepth 100000 in
theorem c_SP_go_1 (l : Launch) (g : Glob) (hfl : l.flags = pinnedFlags ++ [noTraceFlag]) (ad : Nat → Nat) (k : CFG) (x y : RS) (q : PLS) (p0 p1 p2 : Int32) (hbad : ¬ (inI p0 (-3) 3 = 1 ∧ inI p1 1 200 = 1)) : CX l g y_SP_go b_SP_go 4 (some .int) 8 162 [.ref (ad 0), .int p0, .int p1, .int p2] (wS g ad k x y q) R_IA := by
  refine CX.of (by decide +kernel) (Nat.le_of_ble_eq_true rfl) ?_
  intro p e s m below meth c A ls C htab hlocks hP hD hl hS
  obtain ⟨hx, hb, hml, hown, hw, hE, hA⟩ := id C
  have hH : ∀ x : Nat, x < s.heap.size → s.heap[x]? = s.heap[x]? := fun _ _ => rfl
  have hHs : s.heap.size ≤ s.heap.size := Nat.le_refl _
  have hl : lv_has ls 4 [(0, .ref (ad 0)), (1, .int p0), (2, .int p1), (3, .int p2)] := hl
  refine lv_iload_n hx hb d_SP_go_0 rfl (lv_at hl 1 rfl) ?_
  refine lv_bipush (v := (-3)) hx hb d_SP_go_1 (by decide) ?_
  refine lv_iconst (v := 3) hx hb d_SP_go_3 (by decide) ?_
  by_cases v0 : inI p0 (-3) 3 = 1
  rotate_left
  · exact xsOut C htab hlocks v_SP_35 [.int p0, .int (-3), .int 3] [] (c_SP_demandWithin_x l g hfl p0 (-3) 3 v0) hH hHs rfl rfl hl.1 (Nat.le_of_ble_eq_true rfl) ⟨Nat.le_of_ble_eq_true rfl, Nat.le_of_ble_eq_true rfl⟩ ⟨Nat.le_refl _, Nat.le_refl _⟩ d_SP_go_4
  refine csU0 C v_SP_35 [.int p0, .int (-3), .int 3] [] (c_SP_demandWithin l g p0 (-3) 3 v0) hP hH hHs rfl rfl hl.1 (Nat.le_of_ble_eq_true rfl) ⟨Nat.le_of_ble_eq_true rfl, Nat.le_of_ble_eq_true rfl⟩ d_SP_go_4 ⟨Nat.zero_le _, Nat.zero_le _⟩ (fun H hP hH hHs => ?_)
  refine lv_iload_n hx hb d_SP_go_7 rfl (lv_at hl 2 rfl) ?_
  refine lv_iconst (v := 1) hx hb d_SP_go_8 (by decide) ?_
  refine lv_sipush (v := 200) hx hb d_SP_go_9 (by decide) ?_
  by_cases v1 : inI p1 1 200 = 1
  rotate_left
  · exact xsOut C htab hlocks v_SP_35 [.int p1, .int 1, .int 200] [] (c_SP_demandWithin_x l g hfl p1 1 200 v1) hH hHs rfl rfl hl.1 (Nat.le_of_ble_eq_true rfl) ⟨Nat.le_of_ble_eq_true rfl, Nat.le_of_ble_eq_true rfl⟩ ⟨Nat.le_refl _, Nat.le_refl _⟩ d_SP_go_12
  exact absurd ⟨v0, v1⟩ hbad
set_option maxHeartbeats 4000000 in
set_option maxRecDepth 100000 in
theorem c_SP_go_2 (l : Launch) (g : Glob) (hfl : l.flags = pinnedFlags ++ [noTraceFlag]) (ad : Nat → Nat) (k : CFG) (x y : RS) (q : PLS) (p0 p1 p2 : Int32) (v0 : inI p0 (-3) 3 = 1) (v1 : inI p1 1 200 = 1) (h0 : k.2.1 0 = 0) : CX l g y_SP_go b_SP_go 4 (some .int) 8 162 [.ref (ad 0), .int p0, .int p1, .int p2] (wS g ad k x y q) R_IS := by
  refine CX.of (by decide +kernel) (Nat.le_of_ble_eq_true rfl) ?_
  intro p e s m below meth c A ls C htab hlocks hP hD hl hS
  obtain ⟨hx, hb, hml, hown, hw, hE, hA⟩ := id C
  have hH : ∀ x : Nat, x < s.heap.size → s.heap[x]? = s.heap[x]? := fun _ _ => rfl
  have hHs : s.heap.size ≤ s.heap.size := Nat.le_refl _
  have hl : lv_has ls 4 [(0, .ref (ad 0)), (1, .int p0), (2, .int p1), (3, .int p2)] := hl
  refine lv_iload_n hx hb d_SP_go_0 rfl (lv_at hl 1 rfl) ?_
  refine lv_bipush (v := (-3)) hx hb d_SP_go_1 (by decide) ?_
  refine lv_iconst (v := 3) hx hb d_SP_go_3 (by decide) ?_
  refine csU0 C v_SP_35 [.int p0, .int (-3), .int 3] [] (c_SP_demandWithin l g p0 (-3) 3 v0) hP hH hHs rfl rfl hl.1 (Nat.le_of_ble_eq_true rfl) ⟨Nat.le_of_ble_eq_true rfl, Nat.le_of_ble_eq_true rfl⟩ d_SP_go_4 ⟨Nat.zero_le _, Nat.zero_le _⟩ (fun H hP hH hHs => ?_)
  refine lv_iload_n hx hb d_SP_go_7 rfl (lv_at hl 2 rfl) ?_
  refine lv_iconst (v := 1) hx hb d_SP_go_8 (by decide) ?_
  refine lv_sipush (v := 200) hx hb d_SP_go_9 (by decide) ?_
  refine csU0 C v_SP_35 [.int p1, .int 1, .int 200] [] (c_SP_demandWithin l g p1 1 200 v1) hP hH hHs rfl rfl hl.1 (Nat.le_of_ble_eq_true rfl) ⟨Nat.le_of_ble_eq_true rfl, Nat.le_of_ble_eq_true rfl⟩ d_SP_go_12 ⟨Nat.zero_le _, Nat.zero_le _⟩ (fun H hP hH hHs => ?_)
  refine lv_aload_n hx hb d_SP_go_15 rfl (lv_at hl 0 rfl) ?_
  exact xvOut C htab hlocks v_SP_100 [] [] (c_SP_demandSomeBody_x l g hfl ad k x y q h0) hP hD hH hHs [0, 1, 2, 3, 4, 5, 6, 7, 8, 9, 10, 11, 12, 13, 14, 15, 16, 17, 18, 19, 20, 21, 22, 23, 24, 25, 26, 27, 28, 29, 30, 31, 32, 33, 34, 35, 36, 37, 38] rfl (by decide) 0 rfl rfl rfl rfl hl.1 (Nat.le_of_ble_eq_true rfl) ⟨Nat.le_of_ble_eq_true rfl, Nat.le_of_ble_eq_true rfl⟩ ⟨Nat.le_refl _, Nat.le_refl _⟩ d_SP_go_16
set_option maxHeartbeats 4000000 in
set_option maxRecDepth 100000 in
theorem c_SP_go_0 (l : Launch) (g : Glob) (ad : Nat → Nat) (k : CFG) (x y : RS) (q : PLS) (n : Nat) (hn : k.2.1 0 = nI n) (h3 : n ≤ 3) (np : Nat) (hp : k.2.1 1 = nI np) (h20 : np ≤ 20) (p0 p1 p2 : Int32) (v0 : inI p0 (-3) 3 = 1) (v1 : inI p1 1 200 = 1) (h0 : ¬ k.2.1 0 = 0) (N : Nat) (hN : p1 = nI N) (hN6 : N ≤ 1000000) : CI l g y_SP_go b_SP_go 4 (some .int) 8 162 [.ref (ad 0), .int p0, .int p1, .int p2] (wS g ad k x y q) ((walkF k n np p0 N p2 x).2.1 0) (wS g ad k (walkF k n np p0 N p2 x) y q) := by
  refine CI.of .int rfl rfl (by decide +kernel) (Nat.le_of_ble_eq_true rfl) ?_
  intro p e s m below meth c A Q ls C hP hD hl hret hS
  obtain ⟨hx, hb, hml, hown, hw, hE, hA⟩ := id C
  have hl : lv_has ls 4 [(0, .ref (ad 0)), (1, .int p0), (2, .int p1), (3, .int p2)] := hl
  refine lv_iload_n hx hb d_SP_go_0 rfl (lv_at hl 1 rfl) ?_
  refine lv_bipush (v := (-3)) hx hb d_SP_go_1 (by decide) ?_
  refine lv_iconst (v := 3) hx hb d_SP_go_3 (by decide) ?_
  refine csU C v_SP_35 [.int p0, .int (-3), .int 3] [] (c_SP_demandWithin l g p0 (-3) 3 v0) hP hS rfl rfl hl.1 (Nat.le_of_ble_eq_true rfl) ⟨Nat.le_of_ble_eq_true rfl, Nat.le_of_ble_eq_true rfl⟩ d_SP_go_4 ⟨Nat.zero_le _, Nat.zero_le _⟩ (fun H locs hP hS => ?_)
  refine lv_iload_n hx hb d_SP_go_7 rfl (lv_at hl 2 rfl) ?_
  refine lv_iconst (v := 1) hx hb d_SP_go_8 (by decide) ?_
  refine lv_sipush (v := 200) hx hb d_SP_go_9 (by decide) ?_
  refine csU C v_SP_35 [.int p1, .int 1, .int 200] [] (c_SP_demandWithin l g p1 1 200 v1) hP hS rfl rfl hl.1 (Nat.le_of_ble_eq_true rfl) ⟨Nat.le_of_ble_eq_true rfl, Nat.le_of_ble_eq_true rfl⟩ d_SP_go_12 ⟨Nat.zero_le _, Nat.zero_le _⟩ (fun H locs hP hS => ?_)
  refine lv_aload_n hx hb d_SP_go_15 rfl (lv_at hl 0 rfl) ?_
  refine cvV C v_SP_100 [] [] (c_SP_demandSomeBody l g ad k x y q h0) hP hD hS [0, 1, 2, 3, 4, 5, 6, 7, 8, 9, 10, 11, 12, 13, 14, 15, 16, 17, 18, 19, 20, 21, 22, 23, 24, 25, 26, 27, 28, 29, 30, 31, 32, 33, 34, 35, 36, 37, 38] [] [0, 1, 2, 3, 4, 5, 6, 7, 8, 9, 10, 11, 12, 13, 14, 15, 16, 17, 18, 19, 20, 21, 22, 23, 24, 25, 26, 27, 28, 29, 30, 31, 32, 33, 34, 35, 36, 37, 38] [] (wS g ad k x y q) rfl rfl (by decide) (by decide) (by decide) rfl (by decide) 0 rfl rfl rfl rfl hl.1 (Nat.le_of_ble_eq_true rfl) ⟨Nat.le_of_ble_eq_true rfl, Nat.le_of_ble_eq_true rfl⟩ d_SP_go_16 ⟨Nat.zero_le _, Nat.zero_le _⟩ (fun H locs hP hD hS => ?_)
  refine lv_aload_n hx hb d_SP_go_19 rfl (lv_at hl 0 rfl) ?_
  refine va_get (D := g.1) (ci := 0) (v := .ref (ad 8)) (C := R_SP) (T := F_SP) (N := 4) hx hb hw i_SP hown hE.1 hP 0 rfl rfl 1 (by decide) (hw _ q_215) (fun _ h9 => h9) rfl d_SP_go_20 ?_
  refine lv_iload_n hx hb d_SP_go_23 rfl (lv_at hl 1 rfl) ?_
  refine lv_iload_n hx hb d_SP_go_24 rfl (lv_at hl 2 rfl) ?_
  refine lv_iload_n hx hb d_SP_go_25 rfl (lv_at hl 3 rfl) ?_
  refine cvV C v_SP_103 [.int p0, .int p1, .int p2] [] (c_Ru_walk l g (mp lvL ad) k x n hn h3 np hp h20 p0 p1 p2 N hN hN6) hP hD hS [8, 1, 2, 3, 4, 5, 9, 10, 11, 12, 13, 14, 6, 7] [0, 15, 16, 17, 18, 19, 20, 21, 22, 23, 24, 25, 26, 27, 28, 29, 30, 31, 32, 33, 34, 35, 36, 37, 38] [0, 26, 27, 28, 29, 30, 37, 38, 25, 31, 32, 33, 34, 35, 36, 1, 2, 3, 4, 5, 6, 7, 8, 9, 10, 11, 12, 13, 14, 15, 16, 17, 18, 19, 20, 21, 22, 23, 24] [((ad 0), .inr (0, [.ref (ad 1), .ref (ad 8), .ref (ad 15), .ref (ad 22)])), ((ad 15), .inr (4, [.ref (ad 16), .ref (ad 20), .int (y.2.1 0), .int (y.2.1 1), .int (y.2.1 2), .int (y.2.1 3), .int (y.2.1 4), .ref (ad 1)])), ((ad 16), .inl (g.2.1 4, 3, .inr (.inr (.inr (.inr (fun j => [ad 17, ad 18, ad 19][j]?)))))), ((ad 17), .inr (3, [.int (y.1 0 0), .int (y.1 1 0), .int (y.1 2 0), .int (y.1 3 0), .int (y.1 4 0)])), ((ad 18), .inr (3, [.int (y.1 0 1), .int (y.1 1 1), .int (y.1 2 1), .int (y.1 3 1), .int (y.1 4 1)])), ((ad 19), .inr (3, [.int (y.1 0 2), .int (y.1 1 2), .int (y.1 2 2), .int (y.1 3 2), .int (y.1 4 2)])), ((ad 20), .inr (1, [.ref (ad 21), .int y.2.2.1])), ((ad 21), .inl (g.2.1 1, 64, .inr (.inl y.2.2.2))), ((ad 22), .inl (g.2.1 5, 4, .inr (.inr (.inr (.inr (fun j => [ad 23, ad 27, ad 31, ad 35][j]?)))))), ((ad 23), .inr (2, [.ref (ad 24), .ref (ad 25), .ref (ad 26), .int ((q 0).2.2.2)])), ((ad 24), .inl (g.2.1 0, 6, .inl ((q 0).1))), ((ad 25), .inl (g.2.1 0, 6, .inl ((q 0).2.1))), ((ad 26), .inl (g.2.1 2, 6, .inl ((q 0).2.2.1))), ((ad 27), .inr (2, [.ref (ad 28), .ref (ad 29), .ref (ad 30), .int ((q 1).2.2.2)])), ((ad 28), .inl (g.2.1 0, 6, .inl ((q 1).1))), ((ad 29), .inl (g.2.1 0, 6, .inl ((q 1).2.1))), ((ad 30), .inl (g.2.1 2, 6, .inl ((q 1).2.2.1))), ((ad 31), .inr (2, [.ref (ad 32), .ref (ad 33), .ref (ad 34), .int ((q 2).2.2.2)])), ((ad 32), .inl (g.2.1 0, 6, .inl ((q 2).1))), ((ad 33), .inl (g.2.1 0, 6, .inl ((q 2).2.1))), ((ad 34), .inl (g.2.1 2, 6, .inl ((q 2).2.2.1))), ((ad 35), .inr (2, [.ref (ad 36), .ref (ad 37), .ref (ad 38), .int ((q 3).2.2.2)])), ((ad 36), .inl (g.2.1 0, 6, .inl ((q 3).1))), ((ad 37), .inl (g.2.1 0, 6, .inl ((q 3).2.1))), ((ad 38), .inl (g.2.1 2, 6, .inl ((q 3).2.2.1)))] (wS g ad k (walkF k n np p0 N p2 x) y q) rfl rfl (by decide) (by decide) (by decide) rfl (by decide) 0 rfl rfl rfl rfl hl.1 (Nat.le_of_ble_eq_true rfl) ⟨Nat.le_of_ble_eq_true rfl, Nat.le_of_ble_eq_true rfl⟩ d_SP_go_26 ⟨Nat.zero_le _, Nat.zero_le _⟩ (fun H locs hP hD hS => ?_)
  refine lv_aload_n hx hb d_SP_go_29 rfl (lv_at hl 0 rfl) ?_
  refine va_get (D := g.1) (ci := 0) (v := .ref (ad 8)) (C := R_SP) (T := F_SP) (N := 4) hx hb hw i_SP hown hE.1 hP 0 rfl rfl 1 (by decide) (hw _ q_215) (fun _ h9 => h9) rfl d_SP_go_30 ?_
  refine va_get (D := g.1) (ci := 4) (v := .int ((walkF k n np p0 N p2 x).2.1 0)) (C := R_Ru) (T := F_Ru) (N := 8) hx hb hw i_Ru hown hE.1 hP 8 rfl rfl 2 (by decide) (hw _ q_161) (fun _ h9 => h9) rfl d_SP_go_33 ?_
  exact hret _ _ _ _ _ _ rfl rfl hP hD hS d_SP_go_36
set_option maxHeartbeats 4000000 in
set_option maxRecDepth 100000 in
theorem c_SP_told_1 (l : Launch) (g : Glob) (hfl : l.flags = pinnedFlags ++ [noTraceFlag]) (ad : Nat → Nat) (k : CFG) (x y : RS) (q : PLS) (p0 p1 : Int32) (hbad : ¬ (inI p0 0 (k.2.1 0 - 1) = 1 ∧ inI p1 0 4 = 1)) : CX l g y_SP_told b_SP_told 4 (some .int) 8 162 [.ref (ad 0), .int p0, .int p1] (wS g ad k x y q) R_IA := by
  refine CX.of (by decide +kernel) (Nat.le_of_ble_eq_true rfl) ?_
  intro p e s m below meth c A ls C htab hlocks hP hD hl hS
  obtain ⟨hx, hb, hml, hown, hw, hE, hA⟩ := id C
  have hH : ∀ x : Nat, x < s.heap.size → s.heap[x]? = s.heap[x]? := fun _ _ => rfl
  have hHs : s.heap.size ≤ s.heap.size := Nat.le_refl _
  have hl : lv_has ls 4 [(0, .ref (ad 0)), (1, .int p0), (2, .int p1)] := hl
  refine lv_iload_n hx hb d_SP_told_0 rfl (lv_at hl 1 rfl) ?_
  refine lv_iconst (v := 0) hx hb d_SP_told_1 (by decide) ?_
  refine lv_aload_n hx hb d_SP_told_2 rfl (lv_at hl 0 rfl) ?_
  refine va_get (D := g.1) (ci := 0) (v := .ref (ad 1)) (C := R_SP) (T := F_SP) (N := 4) hx hb hw i_SP hown hE.1 hP 0 rfl rfl 0 (by decide) (hw _ q_214) (fun _ h9 => h9) rfl d_SP_told_3 ?_
  refine va_get (D := g.1) (ci := 5) (v := .int (k.2.1 0)) (C := R_Se) (T := F_Se) (N := 9) hx hb hw i_Se hown hE.1 hP 1 rfl rfl 3 (by decide) (hw _ q_73) (fun _ h9 => h9) rfl d_SP_told_6 ?_
  refine lv_iconst (v := 1) hx hb d_SP_told_9 (by decide) ?_
  refine lv_isub hx hb d_SP_told_10 ?_
  by_cases v0 : inI p0 0 ((k.2.1 0) - 1) = 1
  rotate_left
  · exact xsOut C htab hlocks v_SP_35 [.int p0, .int 0, .int ((k.2.1 0) - 1)] [] (c_SP_demandWithin_x l g hfl p0 0 ((k.2.1 0) - 1) v0) hH hHs rfl rfl hl.1 (Nat.le_of_ble_eq_true rfl) ⟨Nat.le_of_ble_eq_true rfl, Nat.le_of_ble_eq_true rfl⟩ ⟨Nat.le_refl _, Nat.le_refl _⟩ d_SP_told_11
  refine csU0 C v_SP_35 [.int p0, .int 0, .int ((k.2.1 0) - 1)] [] (c_SP_demandWithin l g p0 0 ((k.2.1 0) - 1) v0) hP hH hHs rfl rfl hl.1 (Nat.le_of_ble_eq_true rfl) ⟨Nat.le_of_ble_eq_true rfl, Nat.le_of_ble_eq_true rfl⟩ d_SP_told_11 ⟨Nat.zero_le _, Nat.zero_le _⟩ (fun H hP hH hHs => ?_)
  refine lv_iload_n hx hb d_SP_told_14 rfl (lv_at hl 2 rfl) ?_
  refine lv_iconst (v := 0) hx hb d_SP_told_15 (by decide) ?_
  refine lv_iconst (v := 4) hx hb d_SP_told_16 (by decide) ?_
  by_cases v1 : inI p1 0 4 = 1
  rotate_left
  · exact xsOut C htab hlocks v_SP_35 [.int p1, .int 0, .int 4] [] (c_SP_demandWithin_x l g hfl p1 0 4 v1) hH hHs rfl rfl hl.1 (Nat.le_of_ble_eq_true rfl) ⟨Nat.le_of_ble_eq_true rfl, Nat.le_of_ble_eq_true rfl⟩ ⟨Nat.le_refl _, Nat.le_refl _⟩ d_SP_told_17
  exact absurd ⟨v0, v1⟩ hbad
set_option maxHeartbeats 4000000 in
set_option maxRecDepth 100000 in
theorem c_SP_told_0_0 (l : Launch) (g : Glob) (ad : Nat → Nat) (k : CFG) (x y : RS) (q : PLS) (w : Nat) (hw5 : w < 5) (v0 : inI (nI 0) 0 (k.2.1 0 - 1) = 1) (v1 : inI (nI w) 0 4 = 1) : CI l g y_SP_told b_SP_told 4 (some .int) 8 162 [.ref (ad 0), .int (nI 0), .int (nI w)] (wS g ad k x y q) (toldF x 0 (nI w)) (wS g ad k x y q) := by
  refine CI.of .int rfl rfl (by decide +kernel) (Nat.le_of_ble_eq_true rfl) ?_
  intro p e s m below meth c A Q ls C hP hD hl hret hS
  obtain ⟨hx, hb, hml, hown, hw, hE, hA⟩ := id C
  have hl : lv_has ls 4 [(0, .ref (ad 0)), (1, .int (nI 0)), (2, .int (nI w))] := hl
  refine lv_iload_n hx hb d_SP_told_0 rfl (lv_at hl 1 rfl) ?_
  refine lv_iconst (v := 0) hx hb d_SP_told_1 (by decide) ?_
  refine lv_aload_n hx hb d_SP_told_2 rfl (lv_at hl 0 rfl) ?_
  refine va_get (D := g.1) (ci := 0) (v := .ref (ad 1)) (C := R_SP) (T := F_SP) (N := 4) hx hb hw i_SP hown hE.1 hP 0 rfl rfl 0 (by decide) (hw _ q_214) (fun _ h9 => h9) rfl d_SP_told_3 ?_
  refine va_get (D := g.1) (ci := 5) (v := .int (k.2.1 0)) (C := R_Se) (T := F_Se) (N := 9) hx hb hw i_Se hown hE.1 hP 1 rfl rfl 3 (by decide) (hw _ q_73) (fun _ h9 => h9) rfl d_SP_told_6 ?_
  refine lv_iconst (v := 1) hx hb d_SP_told_9 (by decide) ?_
  refine lv_isub hx hb d_SP_told_10 ?_
  refine csU C v_SP_35 [.int (nI 0), .int 0, .int ((k.2.1 0) - 1)] [] (c_SP_demandWithin l g (nI 0) 0 ((k.2.1 0) - 1) v0) hP hS rfl rfl hl.1 (Nat.le_of_ble_eq_true rfl) ⟨Nat.le_of_ble_eq_true rfl, Nat.le_of_ble_eq_true rfl⟩ d_SP_told_11 ⟨Nat.zero_le _, Nat.zero_le _⟩ (fun H locs hP hS => ?_)
  refine lv_iload_n hx hb d_SP_told_14 rfl (lv_at hl 2 rfl) ?_
  refine lv_iconst (v := 0) hx hb d_SP_told_15 (by decide) ?_
  refine lv_iconst (v := 4) hx hb d_SP_told_16 (by decide) ?_
  refine csU C v_SP_35 [.int (nI w), .int 0, .int 4] [] (c_SP_demandWithin l g (nI w) 0 4 v1) hP hS rfl rfl hl.1 (Nat.le_of_ble_eq_true rfl) ⟨Nat.le_of_ble_eq_true rfl, Nat.le_of_ble_eq_true rfl⟩ d_SP_told_17 ⟨Nat.zero_le _, Nat.zero_le _⟩ (fun H locs hP hS => ?_)
  refine lv_aload_n hx hb d_SP_told_20 rfl (lv_at hl 0 rfl) ?_
  refine va_get (D := g.1) (ci := 0) (v := .ref (ad 8)) (C := R_SP) (T := F_SP) (N := 4) hx hb hw i_SP hown hE.1 hP 0 rfl rfl 1 (by decide) (hw _ q_215) (fun _ h9 => h9) rfl d_SP_told_21 ?_
  refine va_get (D := g.1) (ci := 4) (v := .ref (ad 9)) (C := R_Ru) (T := F_Ru) (N := 8) hx hb hw i_Ru hown hE.1 hP 8 rfl rfl 0 (by decide) (hw _ q_157) (fun _ h9 => h9) rfl d_SP_told_24 ?_
  refine lv_iload_n hx hb d_SP_told_27 rfl (lv_at hl 1 rfl) ?_
  refine va_aldq hx hb hE.1 hP 9 4 rfl rfl (by unfold vp_in; decide) d_SP_told_28 ?_
  rw [show ((nI 0) : Int32).toNatClampNeg = 0 from by decide]
  refine lv_astore_n (lv' := [(3, .ref (ad (10 + 0))), (0, .ref (ad 0)), (1, .int (nI 0)), (2, .int (nI w))]) hx hb d_SP_told_29 rfl hl (by decide) rfl (fun ls hl => ?_)
  refine lv_iload_n hx hb d_SP_told_30 rfl (lv_at hl 3 rfl) ?_
  rcases (show w = 0 ∨ w = 1 ∨ w = 2 ∨ w = 3 ∨ w = 4 by omega) with rfl | rfl | rfl | rfl | rfl
  · refine lv_tableIn (x := nI 0) (off := 29) (tgt := 60) hx hb d_SP_told_31 (by decide) (by decide) rfl (by decide) ?_
    refine lv_aload_n hx hb d_SP_told_60 rfl (lv_at hl 0 rfl) ?_
    refine va_get (D := g.1) (ci := 3) (v := .int (x.1 0 0)) (C := R_Po) (T := F_Po) (N := 5) hx hb hw i_Po hown hE.1 hP 10 rfl rfl 0 (by decide) (hw _ q_120) (fun _ h9 => h9) rfl d_SP_told_61 ?_
    exact hret _ _ _ _ _ _ ((if_pos rfl).symm) rfl hP hD hS d_SP_told_64
  · refine lv_tableIn (x := nI 1) (off := 34) (tgt := 65) hx hb d_SP_told_31 (by decide) (by decide) rfl (by decide) ?_
    refine lv_aload_n hx hb d_SP_told_65 rfl (lv_at hl 0 rfl) ?_
    refine va_get (D := g.1) (ci := 3) (v := .int (x.1 1 0)) (C := R_Po) (T := F_Po) (N := 5) hx hb hw i_Po hown hE.1 hP 10 rfl rfl 1 (by decide) (hw _ q_123) (fun _ h9 => h9) rfl d_SP_told_66 ?_
    exact hret _ _ _ _ _ _ (((if_neg (by decide)).trans (if_pos rfl)).symm) rfl hP hD hS d_SP_told_69
  · refine lv_tableIn (x := nI 2) (off := 39) (tgt := 70) hx hb d_SP_told_31 (by decide) (by decide) rfl (by decide) ?_
    refine lv_aload_n hx hb d_SP_told_70 rfl (lv_at hl 0 rfl) ?_
    refine va_get (D := g.1) (ci := 3) (v := .int (x.1 2 0)) (C := R_Po) (T := F_Po) (N := 5) hx hb hw i_Po hown hE.1 hP 10 rfl rfl 2 (by decide) (hw _ q_126) (fun _ h9 => h9) rfl d_SP_told_71 ?_
    exact hret _ _ _ _ _ _ (((if_neg (by decide)).trans ((if_neg (by decide)).trans (if_pos rfl))).symm) rfl hP hD hS d_SP_told_74
  · refine lv_tableIn (x := nI 3) (off := 44) (tgt := 75) hx hb d_SP_told_31 (by decide) (by decide) rfl (by decide) ?_
    refine lv_aload_n hx hb d_SP_told_75 rfl (lv_at hl 1 rfl) ?_
    refine va_get (D := g.1) (ci := 0) (v := .ref (ad 8)) (C := R_SP) (T := F_SP) (N := 4) hx hb hw i_SP hown hE.1 hP 0 rfl rfl 1 (by decide) (hw _ q_215) (fun _ h9 => h9) rfl d_SP_told_76 ?_
    refine lv_iload_n hx hb d_SP_told_79 rfl (lv_at hl 2 rfl) ?_
    refine cvI C v_SP_125 [.int (nI 0)] [] (c_Ru_askewOf_0 l g (mp lvL ad) k x) hP hD hS [8, 1, 2, 3, 4, 5, 9, 10, 11, 12, 13, 14, 6, 7] [0, 15, 16, 17, 18, 19, 20, 21, 22, 23, 24, 25, 26, 27, 28, 29, 30, 31, 32, 33, 34, 35, 36, 37, 38] [0, 26, 27, 28, 29, 30, 37, 38, 25, 31, 32, 33, 34, 35, 36, 1, 2, 3, 4, 5, 6, 7, 8, 9, 10, 11, 12, 13, 14, 15, 16, 17, 18, 19, 20, 21, 22, 23, 24] [((ad 0), .inr (0, [.ref (ad 1), .ref (ad 8), .ref (ad 15), .ref (ad 22)])), ((ad 15), .inr (4, [.ref (ad 16), .ref (ad 20), .int (y.2.1 0), .int (y.2.1 1), .int (y.2.1 2), .int (y.2.1 3), .int (y.2.1 4), .ref (ad 1)])), ((ad 16), .inl (g.2.1 4, 3, .inr (.inr (.inr (.inr (fun j => [ad 17, ad 18, ad 19][j]?)))))), ((ad 17), .inr (3, [.int (y.1 0 0), .int (y.1 1 0), .int (y.1 2 0), .int (y.1 3 0), .int (y.1 4 0)])), ((ad 18), .inr (3, [.int (y.1 0 1), .int (y.1 1 1), .int (y.1 2 1), .int (y.1 3 1), .int (y.1 4 1)])), ((ad 19), .inr (3, [.int (y.1 0 2), .int (y.1 1 2), .int (y.1 2 2), .int (y.1 3 2), .int (y.1 4 2)])), ((ad 20), .inr (1, [.ref (ad 21), .int y.2.2.1])), ((ad 21), .inl (g.2.1 1, 64, .inr (.inl y.2.2.2))), ((ad 22), .inl (g.2.1 5, 4, .inr (.inr (.inr (.inr (fun j => [ad 23, ad 27, ad 31, ad 35][j]?)))))), ((ad 23), .inr (2, [.ref (ad 24), .ref (ad 25), .ref (ad 26), .int ((q 0).2.2.2)])), ((ad 24), .inl (g.2.1 0, 6, .inl ((q 0).1))), ((ad 25), .inl (g.2.1 0, 6, .inl ((q 0).2.1))), ((ad 26), .inl (g.2.1 2, 6, .inl ((q 0).2.2.1))), ((ad 27), .inr (2, [.ref (ad 28), .ref (ad 29), .ref (ad 30), .int ((q 1).2.2.2)])), ((ad 28), .inl (g.2.1 0, 6, .inl ((q 1).1))), ((ad 29), .inl (g.2.1 0, 6, .inl ((q 1).2.1))), ((ad 30), .inl (g.2.1 2, 6, .inl ((q 1).2.2.1))), ((ad 31), .inr (2, [.ref (ad 32), .ref (ad 33), .ref (ad 34), .int ((q 2).2.2.2)])), ((ad 32), .inl (g.2.1 0, 6, .inl ((q 2).1))), ((ad 33), .inl (g.2.1 0, 6, .inl ((q 2).2.1))), ((ad 34), .inl (g.2.1 2, 6, .inl ((q 2).2.2.1))), ((ad 35), .inr (2, [.ref (ad 36), .ref (ad 37), .ref (ad 38), .int ((q 3).2.2.2)])), ((ad 36), .inl (g.2.1 0, 6, .inl ((q 3).1))), ((ad 37), .inl (g.2.1 0, 6, .inl ((q 3).2.1))), ((ad 38), .inl (g.2.1 2, 6, .inl ((q 3).2.2.1)))] (wS g ad k x y q) rfl rfl (by decide) (by decide) (by decide) rfl (by decide) 0 rfl rfl rfl rfl hl.1 (Nat.le_of_ble_eq_true rfl) ⟨Nat.le_of_ble_eq_true rfl, Nat.le_of_ble_eq_true rfl⟩ d_SP_told_80 ⟨Nat.zero_le _, Nat.zero_le _⟩ (fun H locs hP hD hS => ?_)
    exact hret _ _ _ _ _ _ (((if_neg (by decide)).trans ((if_neg (by decide)).trans ((if_neg (by decide)).trans (if_pos rfl)))).symm) rfl hP hD hS d_SP_told_83
  · refine lv_tableOut (x := nI 4) (tgt := 84) hx hb d_SP_told_31 (by decide) (by decide) ?_
    refine lv_aload_n hx hb d_SP_told_84 rfl (lv_at hl 0 rfl) ?_
    refine va_get (D := g.1) (ci := 3) (v := .int (x.1 4 0)) (C := R_Po) (T := F_Po) (N := 5) hx hb hw i_Po hown hE.1 hP 10 rfl rfl 4 (by decide) (hw _ q_129) (fun _ h9 => h9) rfl d_SP_told_85 ?_
    exact hret _ _ _ _ _ _ (((if_neg (by decide)).trans ((if_neg (by decide)).trans ((if_neg (by decide)).trans (if_neg (by decide))))).symm) rfl hP hD hS d_SP_told_88
set_option maxHeartbeats 4000000 in
set_option maxRecDepth 100000 in
theorem c_SP_told_0_1 (l : Launch) (g : Glob) (ad : Nat → Nat) (k : CFG) (x y : RS) (q : PLS) (w : Nat) (hw5 : w < 5) (v0 : inI (nI 1) 0 (k.2.1 0 - 1) = 1) (v1 : inI (nI w) 0 4 = 1) : CI l g y_SP_told b_SP_told 4 (some .int) 8 162 [.ref (ad 0), .int (nI 1), .int (nI w)] (wS g ad k x y q) (toldF x 1 (nI w)) (wS g ad k x y q) := by
  refine CI.of .int rfl rfl (by decide +kernel) (Nat.le_of_ble_eq_true rfl) ?_
  intro p e s m below meth c A Q ls C hP hD hl hret hS
  obtain ⟨hx, hb, hml, hown, hw, hE, hA⟩ := id C
  have hl : lv_has ls 4 [(0, .ref (ad 0)), (1, .int (nI 1)), (2, .int (nI w))] := hl
  refine lv_iload_n hx hb d_SP_told_0 rfl (lv_at hl 1 rfl) ?_
  refine lv_iconst (v := 0) hx hb d_SP_told_1 (by decide) ?_
  refine lv_aload_n hx hb d_SP_told_2 rfl (lv_at hl 0 rfl) ?_
  refine va_get (D := g.1) (ci := 0) (v := .ref (ad 1)) (C := R_SP) (T := F_SP) (N := 4) hx hb hw i_SP hown hE.1 hP 0 rfl rfl 0 (by decide) (hw _ q_214) (fun _ h9 => h9) rfl d_SP_told_3 ?_
  refine va_get (D := g.1) (ci := 5) (v := .int (k.2.1 0)) (C := R_Se) (T := F_Se) (N := 9) hx hb hw i_Se hown hE.1 hP 1 rfl rfl 3 (by decide) (hw _ q_73) (fun _ h9 => h9) rfl d_SP_told_6 ?_
  refine lv_iconst (v := 1) hx hb d_SP_told_9 (by decide) ?_
  refine lv_isub hx hb d_SP_told_10 ?_
  refine csU C v_SP_35 [.int (nI 1), .int 0, .int ((k.2.1 0) - 1)] [] (c_SP_demandWithin l g (nI 1) 0 ((k.2.1 0) - 1) v0) hP hS rfl rfl hl.1 (Nat.le_of_ble_eq_true rfl) ⟨Nat.le_of_ble_eq_true rfl, Nat.le_of_ble_eq_true rfl⟩ d_SP_told_11 ⟨Nat.zero_le _, Nat.zero_le _⟩ (fun H locs hP hS => ?_)
  refine lv_iload_n hx hb d_SP_told_14 rfl (lv_at hl 2 rfl) ?_
  refine lv_iconst (v := 0) hx hb d_SP_told_15 (by decide) ?_
  refine lv_iconst (v := 4) hx hb d_SP_told_16 (by decide) ?_
  refine csU C v_SP_35 [.int (nI w), .int 0, .int 4] [] (c_SP_demandWithin l g (nI w) 0 4 v1) hP hS rfl rfl hl.1 (Nat.le_of_ble_eq_true rfl) ⟨Nat.le_of_ble_eq_true rfl, Nat.le_of_ble_eq_true rfl⟩ d_SP_told_17 ⟨Nat.zero_le _, Nat.zero_le _⟩ (fun H locs hP hS => ?_)
  refine lv_aload_n hx hb d_SP_told_20 rfl (lv_at hl 0 rfl) ?_
  refine va_get (D := g.1) (ci := 0) (v := .ref (ad 8)) (C := R_SP) (T := F_SP) (N := 4) hx hb hw i_SP hown hE.1 hP 0 rfl rfl 1 (by decide) (hw _ q_215) (fun _ h9 => h9) rfl d_SP_told_21 ?_
  refine va_get (D := g.1) (ci := 4) (v := .ref (ad 9)) (C := R_Ru) (T := F_Ru) (N := 8) hx hb hw i_Ru hown hE.1 hP 8 rfl rfl 0 (by decide) (hw _ q_157) (fun _ h9 => h9) rfl d_SP_told_24 ?_
  refine lv_iload_n hx hb d_SP_told_27 rfl (lv_at hl 1 rfl) ?_
  refine va_aldq hx hb hE.1 hP 9 4 rfl rfl (by unfold vp_in; decide) d_SP_told_28 ?_
  rw [show ((nI 1) : Int32).toNatClampNeg = 1 from by decide]
  refine lv_astore_n (lv' := [(3, .ref (ad (10 + 1))), (0, .ref (ad 0)), (1, .int (nI 1)), (2, .int (nI w))]) hx hb d_SP_told_29 rfl hl (by decide) rfl (fun ls hl => ?_)
  refine lv_iload_n hx hb d_SP_told_30 rfl (lv_at hl 3 rfl) ?_
  rcases (show w = 0 ∨ w = 1 ∨ w = 2 ∨ w = 3 ∨ w = 4 by omega) with rfl | rfl | rfl | rfl | rfl
  · refine lv_tableIn (x := nI 0) (off := 29) (tgt := 60) hx hb d_SP_told_31 (by decide) (by decide) rfl (by decide) ?_
    refine lv_aload_n hx hb d_SP_told_60 rfl (lv_at hl 0 rfl) ?_
    refine va_get (D := g.1) (ci := 3) (v := .int (x.1 0 1)) (C := R_Po) (T := F_Po) (N := 5) hx hb hw i_Po hown hE.1 hP 11 rfl rfl 0 (by decide) (hw _ q_120) (fun _ h9 => h9) rfl d_SP_told_61 ?_
    exact hret _ _ _ _ _ _ ((if_pos rfl).symm) rfl hP hD hS d_SP_told_64
  · refine lv_tableIn (x := nI 1) (off := 34) (tgt := 65) hx hb d_SP_told_31 (by decide) (by decide) rfl (by decide) ?_
    refine lv_aload_n hx hb d_SP_told_65 rfl (lv_at hl 0 rfl) ?_
    refine va_get (D := g.1) (ci := 3) (v := .int (x.1 1 1)) (C := R_Po) (T := F_Po) (N := 5) hx hb hw i_Po hown hE.1 hP 11 rfl rfl 1 (by decide) (hw _ q_123) (fun _ h9 => h9) rfl d_SP_told_66 ?_
    exact hret _ _ _ _ _ _ (((if_neg (by decide)).trans (if_pos rfl)).symm) rfl hP hD hS d_SP_told_69
  · refine lv_tableIn (x := nI 2) (off := 39) (tgt := 70) hx hb d_SP_told_31 (by decide) (by decide) rfl (by decide) ?_
    refine lv_aload_n hx hb d_SP_told_70 rfl (lv_at hl 0 rfl) ?_
    refine va_get (D := g.1) (ci := 3) (v := .int (x.1 2 1)) (C := R_Po) (T := F_Po) (N := 5) hx hb hw i_Po hown hE.1 hP 11 rfl rfl 2 (by decide) (hw _ q_126) (fun _ h9 => h9) rfl d_SP_told_71 ?_
    exact hret _ _ _ _ _ _ (((if_neg (by decide)).trans ((if_neg (by decide)).trans (if_pos rfl))).symm) rfl hP hD hS d_SP_told_74
  · refine lv_tableIn (x := nI 3) (off := 44) (tgt := 75) hx hb d_SP_told_31 (by decide) (by decide) rfl (by decide) ?_
    refine lv_aload_n hx hb d_SP_told_75 rfl (lv_at hl 1 rfl) ?_
    refine va_get (D := g.1) (ci := 0) (v := .ref (ad 8)) (C := R_SP) (T := F_SP) (N := 4) hx hb hw i_SP hown hE.1 hP 0 rfl rfl 1 (by decide) (hw _ q_215) (fun _ h9 => h9) rfl d_SP_told_76 ?_
    refine lv_iload_n hx hb d_SP_told_79 rfl (lv_at hl 2 rfl) ?_
    refine cvI C v_SP_125 [.int (nI 1)] [] (c_Ru_askewOf_1 l g (mp lvL ad) k x) hP hD hS [8, 1, 2, 3, 4, 5, 9, 10, 11, 12, 13, 14, 6, 7] [0, 15, 16, 17, 18, 19, 20, 21, 22, 23, 24, 25, 26, 27, 28, 29, 30, 31, 32, 33, 34, 35, 36, 37, 38] [0, 26, 27, 28, 29, 30, 37, 38, 25, 31, 32, 33, 34, 35, 36, 1, 2, 3, 4, 5, 6, 7, 8, 9, 10, 11, 12, 13, 14, 15, 16, 17, 18, 19, 20, 21, 22, 23, 24] [((ad 0), .inr (0, [.ref (ad 1), .ref (ad 8), .ref (ad 15), .ref (ad 22)])), ((ad 15), .inr (4, [.ref (ad 16), .ref (ad 20), .int (y.2.1 0), .int (y.2.1 1), .int (y.2.1 2), .int (y.2.1 3), .int (y.2.1 4), .ref (ad 1)])), ((ad 16), .inl (g.2.1 4, 3, .inr (.inr (.inr (.inr (fun j => [ad 17, ad 18, ad 19][j]?)))))), ((ad 17), .inr (3, [.int (y.1 0 0), .int (y.1 1 0), .int (y.1 2 0), .int (y.1 3 0), .int (y.1 4 0)])), ((ad 18), .inr (3, [.int (y.1 0 1), .int (y.1 1 1), .int (y.1 2 1), .int (y.1 3 1), .int (y.1 4 1)])), ((ad 19), .inr (3, [.int (y.1 0 2), .int (y.1 1 2), .int (y.1 2 2), .int (y.1 3 2), .int (y.1 4 2)])), ((ad 20), .inr (1, [.ref (ad 21), .int y.2.2.1])), ((ad 21), .inl (g.2.1 1, 64, .inr (.inl y.2.2.2))), ((ad 22), .inl (g.2.1 5, 4, .inr (.inr (.inr (.inr (fun j => [ad 23, ad 27, ad 31, ad 35][j]?)))))), ((ad 23), .inr (2, [.ref (ad 24), .ref (ad 25), .ref (ad 26), .int ((q 0).2.2.2)])), ((ad 24), .inl (g.2.1 0, 6, .inl ((q 0).1))), ((ad 25), .inl (g.2.1 0, 6, .inl ((q 0).2.1))), ((ad 26), .inl (g.2.1 2, 6, .inl ((q 0).2.2.1))), ((ad 27), .inr (2, [.ref (ad 28), .ref (ad 29), .ref (ad 30), .int ((q 1).2.2.2)])), ((ad 28), .inl (g.2.1 0, 6, .inl ((q 1).1))), ((ad 29), .inl (g.2.1 0, 6, .inl ((q 1).2.1))), ((ad 30), .inl (g.2.1 2, 6, .inl ((q 1).2.2.1))), ((ad 31), .inr (2, [.ref (ad 32), .ref (ad 33), .ref (ad 34), .int ((q 2).2.2.2)])), ((ad 32), .inl (g.2.1 0, 6, .inl ((q 2).1))), ((ad 33), .inl (g.2.1 0, 6, .inl ((q 2).2.1))), ((ad 34), .inl (g.2.1 2, 6, .inl ((q 2).2.2.1))), ((ad 35), .inr (2, [.ref (ad 36), .ref (ad 37), .ref (ad 38), .int ((q 3).2.2.2)])), ((ad 36), .inl (g.2.1 0, 6, .inl ((q 3).1))), ((ad 37), .inl (g.2.1 0, 6, .inl ((q 3).2.1))), ((ad 38), .inl (g.2.1 2, 6, .inl ((q 3).2.2.1)))] (wS g ad k x y q) rfl rfl (by decide) (by decide) (by decide) rfl (by decide) 0 rfl rfl rfl rfl hl.1 (Nat.le_of_ble_eq_true rfl) ⟨Nat.le_of_ble_eq_true rfl, Nat.le_of_ble_eq_true rfl⟩ d_SP_told_80 ⟨Nat.zero_le _, Nat.zero_le _⟩ (fun H locs hP hD hS => ?_)
    exact hret _ _ _ _ _ _ (((if_neg (by decide)).trans ((if_neg (by decide)).trans ((if_neg (by decide)).trans (if_pos rfl)))).symm) rfl hP hD hS d_SP_told_83
  · refine lv_tableOut (x := nI 4) (tgt := 84) hx hb d_SP_told_31 (by decide) (by decide) ?_
    refine lv_aload_n hx hb d_SP_told_84 rfl (lv_at hl 0 rfl) ?_
    refine va_get (D := g.1) (ci := 3) (v := .int (x.1 4 1)) (C := R_Po) (T := F_Po) (N := 5) hx hb hw i_Po hown hE.1 hP 11 rfl rfl 4 (by decide) (hw _ q_129) (fun _ h9 => h9) rfl d_SP_told_85 ?_
    exact hret _ _ _ _ _ _ (((if_neg (by decide)).trans ((if_neg (by decide)).trans ((if_neg (by decide)).trans (if_neg (by decide))))).symm) rfl hP hD hS d_SP_told_88
set_option maxHeartbeats 4000000 in
set_option maxRecDepth 100000 in
theorem c_SP_told_0_2 (l : Launch) (g : Glob) (ad : Nat → Nat) (k : CFG) (x y : RS) (q : PLS) (w : Nat) (hw5 : w < 5) (v0 : inI (nI 2) 0 (k.2.1 0 - 1) = 1) (v1 : inI (nI w) 0 4 = 1) : CI l g y_SP_told b_SP_told 4 (some .int) 8 162 [.ref (ad 0), .int (nI 2), .int (nI w)] (wS g ad k x y q) (toldF x 2 (nI w)) (wS g ad k x y q) := by
  refine CI.of .int rfl rfl (by decide +kernel) (Nat.le_of_ble_eq_true rfl) ?_
  intro p e s m below meth c A Q ls C hP hD hl hret hS
  obtain ⟨hx, hb, hml, hown, hw, hE, hA⟩ := id C
  have hl : lv_has ls 4 [(0, .ref (ad 0)), (1, .int (nI 2)), (2, .int (nI w))] := hl
  refine lv_iload_n hx hb d_SP_told_0 rfl (lv_at hl 1 rfl) ?_
  refine lv_iconst (v := 0) hx hb d_SP_told_1 (by decide) ?_
  refine lv_aload_n hx hb d_SP_told_2 rfl (lv_at hl 0 rfl) ?_
  refine va_get (D := g.1) (ci := 0) (v := .ref (ad 1)) (C := R_SP) (T := F_SP) (N := 4) hx hb hw i_SP hown hE.1 hP 0 rfl rfl 0 (by decide) (hw _ q_214) (fun _ h9 => h9) rfl d_SP_told_3 ?_
  refine va_get (D := g.1) (ci := 5) (v := .int (k.2.1 0)) (C := R_Se) (T := F_Se) (N := 9) hx hb hw i_Se hown hE.1 hP 1 rfl rfl 3 (by decide) (hw _ q_73) (fun _ h9 => h9) rfl d_SP_told_6 ?_
  refine lv_iconst (v := 1) hx hb d_SP_told_9 (by decide) ?_
  refine lv_isub hx hb d_SP_told_10 ?_
  refine csU C v_SP_35 [.int (nI 2), .int 0, .int ((k.2.1 0) - 1)] [] (c_SP_demandWithin l g (nI 2) 0 ((k.2.1 0) - 1) v0) hP hS rfl rfl hl.1 (Nat.le_of_ble_eq_true rfl) ⟨Nat.le_of_ble_eq_true rfl, Nat.le_of_ble_eq_true rfl⟩ d_SP_told_11 ⟨Nat.zero_le _, Nat.zero_le _⟩ (fun H locs hP hS => ?_)
  refine lv_iload_n hx hb d_SP_told_14 rfl (lv_at hl 2 rfl) ?_
  refine lv_iconst (v := 0) hx hb d_SP_told_15 (by decide) ?_
  refine lv_iconst (v := 4) hx hb d_SP_told_16 (by decide) ?_
  refine csU C v_SP_35 [.int (nI w), .int 0, .int 4] [] (c_SP_demandWithin l g (nI w) 0 4 v1) hP hS rfl rfl hl.1 (Nat.le_of_ble_eq_true rfl) ⟨Nat.le_of_ble_eq_true rfl, Nat.le_of_ble_eq_true rfl⟩ d_SP_told_17 ⟨Nat.zero_le _, Nat.zero_le _⟩ (fun H locs hP hS => ?_)
  refine lv_aload_n hx hb d_SP_told_20 rfl (lv_at hl 0 rfl) ?_
  refine va_get (D := g.1) (ci := 0) (v := .ref (ad 8)) (C := R_SP) (T := F_SP) (N := 4) hx hb hw i_SP hown hE.1 hP 0 rfl rfl 1 (by decide) (hw _ q_215) (fun _ h9 => h9) rfl d_SP_told_21 ?_
  refine va_get (D := g.1) (ci := 4) (v := .ref (ad 9)) (C := R_Ru) (T := F_Ru) (N := 8) hx hb hw i_Ru hown hE.1 hP 8 rfl rfl 0 (by decide) (hw _ q_157) (fun _ h9 => h9) rfl d_SP_told_24 ?_
  refine lv_iload_n hx hb d_SP_told_27 rfl (lv_at hl 1 rfl) ?_
  refine va_aldq hx hb hE.1 hP 9 4 rfl rfl (by unfold vp_in; decide) d_SP_told_28 ?_
  rw [show ((nI 2) : Int32).toNatClampNeg = 2 from by decide]
  refine lv_astore_n (lv' := [(3, .ref (ad (10 + 2))), (0, .ref (ad 0)), (1, .int (nI 2)), (2, .int (nI w))]) hx hb d_SP_told_29 rfl hl (by decide) rfl (fun ls hl => ?_)
  refine lv_iload_n hx hb d_SP_told_30 rfl (lv_at hl 3 rfl) ?_
  rcases (show w = 0 ∨ w = 1 ∨ w = 2 ∨ w = 3 ∨ w = 4 by omega) with rfl | rfl | rfl | rfl | rfl
  · refine lv_tableIn (x := nI 0) (off := 29) (tgt := 60) hx hb d_SP_told_31 (by decide) (by decide) rfl (by decide) ?_
    refine lv_aload_n hx hb d_SP_told_60 rfl (lv_at hl 0 rfl) ?_
    refine va_get (D := g.1) (ci := 3) (v := .int (x.1 0 2)) (C := R_Po) (T := F_Po) (N := 5) hx hb hw i_Po hown hE.1 hP 12 rfl rfl 0 (by decide) (hw _ q_120) (fun _ h9 => h9) rfl d_SP_told_61 ?_
    exact hret _ _ _ _ _ _ ((if_pos rfl).symm) rfl hP hD hS d_SP_told_64
  · refine lv_tableIn (x := nI 1) (off := 34) (tgt := 65) hx hb d_SP_told_31 (by decide) (by decide) rfl (by decide) ?_
    refine lv_aload_n hx hb d_SP_told_65 rfl (lv_at hl 0 rfl) ?_
    refine va_get (D := g.1) (ci := 3) (v := .int (x.1 1 2)) (C := R_Po) (T := F_Po) (N := 5) hx hb hw i_Po hown hE.1 hP 12 rfl rfl 1 (by decide) (hw _ q_123) (fun _ h9 => h9) rfl d_SP_told_66 ?_
    exact hret _ _ _ _ _ _ (((if_neg (by decide)).trans (if_pos rfl)).symm) rfl hP hD hS d_SP_told_69
  · refine lv_tableIn (x := nI 2) (off := 39) (tgt := 70) hx hb d_SP_told_31 (by decide) (by decide) rfl (by decide) ?_
    refine lv_aload_n hx hb d_SP_told_70 rfl (lv_at hl 0 rfl) ?_
    refine va_get (D := g.1) (ci := 3) (v := .int (x.1 2 2)) (C := R_Po) (T := F_Po) (N := 5) hx hb hw i_Po hown hE.1 hP 12 rfl rfl 2 (by decide) (hw _ q_126) (fun _ h9 => h9) rfl d_SP_told_71 ?_
    exact hret _ _ _ _ _ _ (((if_neg (by decide)).trans ((if_neg (by decide)).trans (if_pos rfl))).symm) rfl hP hD hS d_SP_told_74
  · refine lv_tableIn (x := nI 3) (off := 44) (tgt := 75) hx hb d_SP_told_31 (by decide) (by decide) rfl (by decide) ?_
    refine lv_aload_n hx hb d_SP_told_75 rfl (lv_at hl 1 rfl) ?_
    refine va_get (D := g.1) (ci := 0) (v := .ref (ad 8)) (C := R_SP) (T := F_SP) (N := 4) hx hb hw i_SP hown hE.1 hP 0 rfl rfl 1 (by decide) (hw _ q_215) (fun _ h9 => h9) rfl d_SP_told_76 ?_
    refine lv_iload_n hx hb d_SP_told_79 rfl (lv_at hl 2 rfl) ?_
    refine cvI C v_SP_125 [.int (nI 2)] [] (c_Ru_askewOf_2 l g (mp lvL ad) k x) hP hD hS [8, 1, 2, 3, 4, 5, 9, 10, 11, 12, 13, 14, 6, 7] [0, 15, 16, 17, 18, 19, 20, 21, 22, 23, 24, 25, 26, 27, 28, 29, 30, 31, 32, 33, 34, 35, 36, 37, 38] [0, 26, 27, 28, 29, 30, 37, 38, 25, 31, 32, 33, 34, 35, 36, 1, 2, 3, 4, 5, 6, 7, 8, 9, 10, 11, 12, 13, 14, 15, 16, 17, 18, 19, 20, 21, 22, 23, 24] [((ad 0), .inr (0, [.ref (ad 1), .ref (ad 8), .ref (ad 15), .ref (ad 22)])), ((ad 15), .inr (4, [.ref (ad 16), .ref (ad 20), .int (y.2.1 0), .int (y.2.1 1), .int (y.2.1 2), .int (y.2.1 3), .int (y.2.1 4), .ref (ad 1)])), ((ad 16), .inl (g.2.1 4, 3, .inr (.inr (.inr (.inr (fun j => [ad 17, ad 18, ad 19][j]?)))))), ((ad 17), .inr (3, [.int (y.1 0 0), .int (y.1 1 0), .int (y.1 2 0), .int (y.1 3 0), .int (y.1 4 0)])), ((ad 18), .inr (3, [.int (y.1 0 1), .int (y.1 1 1), .int (y.1 2 1), .int (y.1 3 1), .int (y.1 4 1)])), ((ad 19), .inr (3, [.int (y.1 0 2), .int (y.1 1 2), .int (y.1 2 2), .int (y.1 3 2), .int (y.1 4 2)])), ((ad 20), .inr (1, [.ref (ad 21), .int y.2.2.1])), ((ad 21), .inl (g.2.1 1, 64, .inr (.inl y.2.2.2))), ((ad 22), .inl (g.2.1 5, 4, .inr (.inr (.inr (.inr (fun j => [ad 23, ad 27, ad 31, ad 35][j]?)))))), ((ad 23), .inr (2, [.ref (ad 24), .ref (ad 25), .ref (ad 26), .int ((q 0).2.2.2)])), ((ad 24), .inl (g.2.1 0, 6, .inl ((q 0).1))), ((ad 25), .inl (g.2.1 0, 6, .inl ((q 0).2.1))), ((ad 26), .inl (g.2.1 2, 6, .inl ((q 0).2.2.1))), ((ad 27), .inr (2, [.ref (ad 28), .ref (ad 29), .ref (ad 30), .int ((q 1).2.2.2)])), ((ad 28), .inl (g.2.1 0, 6, .inl ((q 1).1))), ((ad 29), .inl (g.2.1 0, 6, .inl ((q 1).2.1))), ((ad 30), .inl (g.2.1 2, 6, .inl ((q 1).2.2.1))), ((ad 31), .inr (2, [.ref (ad 32), .ref (ad 33), .ref (ad 34), .int ((q 2).2.2.2)])), ((ad 32), .inl (g.2.1 0, 6, .inl ((q 2).1))), ((ad 33), .inl (g.2.1 0, 6, .inl ((q 2).2.1))), ((ad 34), .inl (g.2.1 2, 6, .inl ((q 2).2.2.1))), ((ad 35), .inr (2, [.ref (ad 36), .ref (ad 37), .ref (ad 38), .int ((q 3).2.2.2)])), ((ad 36), .inl (g.2.1 0, 6, .inl ((q 3).1))), ((ad 37), .inl (g.2.1 0, 6, .inl ((q 3).2.1))), ((ad 38), .inl (g.2.1 2, 6, .inl ((q 3).2.2.1)))] (wS g ad k x y q) rfl rfl (by decide) (by decide) (by decide) rfl (by decide) 0 rfl rfl rfl rfl hl.1 (Nat.le_of_ble_eq_true rfl) ⟨Nat.le_of_ble_eq_true rfl, Nat.le_of_ble_eq_true rfl⟩ d_SP_told_80 ⟨Nat.zero_le _, Nat.zero_le _⟩ (fun H locs hP hD hS => ?_)
    exact hret _ _ _ _ _ _ (((if_neg (by decide)).trans ((if_neg (by decide)).trans ((if_neg (by decide)).trans (if_pos rfl)))).symm) rfl hP hD hS d_SP_told_83
  · refine lv_tableOut (x := nI 4) (tgt := 84) hx hb d_SP_told_31 (by decide) (by decide) ?_
    refine lv_aload_n hx hb d_SP_told_84 rfl (lv_at hl 0 rfl) ?_
    refine va_get (D := g.1) (ci := 3) (v := .int (x.1 4 2)) (C := R_Po) (T := F_Po) (N := 5) hx hb hw i_Po hown hE.1 hP 12 rfl rfl 4 (by decide) (hw _ q_129) (fun _ h9 => h9) rfl d_SP_told_85 ?_
    exact hret _ _ _ _ _ _ (((if_neg (by decide)).trans ((if_neg (by decide)).trans ((if_neg (by decide)).trans (if_neg (by decide))))).symm) rfl hP hD hS d_SP_told_88
set_option maxHeartbeats 4000000 in
theorem c_SP_told_0 (l : Launch) (g : Glob) (ad : Nat → Nat) (k : CFG) (x y : RS) (q : PLS) (b w : Nat) (h3 : b < 3) (hw5 : w < 5) (v0 : inI (nI b) 0 (k.2.1 0 - 1) = 1) (v1 : inI (nI w) 0 4 = 1) : CI l g y_SP_told b_SP_told 4 (some .int) 8 162 [.ref (ad 0), .int (nI b), .int (nI w)] (wS g ad k x y q) (toldF x b (nI w)) (wS g ad k x y q) := by
  rcases (show b = 0 ∨ b = 1 ∨ b = 2 by omega) with rfl | rfl | rfl
  · exact c_SP_told_0_0 l g ad k x y q w hw5 v0 v1
  · exact c_SP_told_0_1 l g ad k x y q w hw5 v0 v1
  · exact c_SP_told_0_2 l g ad k x y q w hw5 v0 v1
set_option maxHeartbeats 4000000 in
set_option maxRecDepth 100000 in
theorem c_SP_corner_1 (l : Launch) (g : Glob) (hfl : l.flags = pinnedFlags ++ [noTraceFlag]) (ad : Nat → Nat) (k : CFG) (x y : RS) (q : PLS) (p0 p1 p2 : Int32) (hbad : ¬ (inI p0 0 (k.2.1 0 - 1) = 1 ∧ inI p1 0 3 = 1 ∧ inI p2 0 1 = 1)) : CX l g y_SP_corner b_SP_corner 10 (some .int) 8 162 [.ref (ad 0), .int p0, .int p1, .int p2] (wS g ad k x y q) R_IA := by
  refine CX.of (by decide +kernel) (Nat.le_of_ble_eq_true rfl) ?_
  intro p e s m below meth c A ls C htab hlocks hP hD hl hS
  obtain ⟨hx, hb, hml, hown, hw, hE, hA⟩ := id C
  have hH : ∀ x : Nat, x < s.heap.size → s.heap[x]? = s.heap[x]? := fun _ _ => rfl
  have hHs : s.heap.size ≤ s.heap.size := Nat.le_refl _
  have hl : lv_has ls 10 [(0, .ref (ad 0)), (1, .int p0), (2, .int p1), (3, .int p2)] := hl
  refine lv_iload_n hx hb d_SP_corner_0 rfl (lv_at hl 1 rfl) ?_
  refine lv_iconst (v := 0) hx hb d_SP_corner_1 (by decide) ?_
  refine lv_aload_n hx hb d_SP_corner_2 rfl (lv_at hl 0 rfl) ?_
  refine va_get (D := g.1) (ci := 0) (v := .ref (ad 1)) (C := R_SP) (T := F_SP) (N := 4) hx hb hw i_SP hown hE.1 hP 0 rfl rfl 0 (by decide) (hw _ q_214) (fun _ h9 => h9) rfl d_SP_corner_3 ?_
  refine va_get (D := g.1) (ci := 5) (v := .int (k.2.1 0)) (C := R_Se) (T := F_Se) (N := 9) hx hb hw i_Se hown hE.1 hP 1 rfl rfl 3 (by decide) (hw _ q_73) (fun _ h9 => h9) rfl d_SP_corner_6 ?_
  refine lv_iconst (v := 1) hx hb d_SP_corner_9 (by decide) ?_
  refine lv_isub hx hb d_SP_corner_10 ?_
  by_cases v0 : inI p0 0 ((k.2.1 0) - 1) = 1
  rotate_left
  · exact xsOut C htab hlocks v_SP_35 [.int p0, .int 0, .int ((k.2.1 0) - 1)] [] (c_SP_demandWithin_x l g hfl p0 0 ((k.2.1 0) - 1) v0) hH hHs rfl rfl hl.1 (Nat.le_of_ble_eq_true rfl) ⟨Nat.le_of_ble_eq_true rfl, Nat.le_of_ble_eq_true rfl⟩ ⟨Nat.le_refl _, Nat.le_refl _⟩ d_SP_corner_11
  refine csU0 C v_SP_35 [.int p0, .int 0, .int ((k.2.1 0) - 1)] [] (c_SP_demandWithin l g p0 0 ((k.2.1 0) - 1) v0) hP hH hHs rfl rfl hl.1 (Nat.le_of_ble_eq_true rfl) ⟨Nat.le_of_ble_eq_true rfl, Nat.le_of_ble_eq_true rfl⟩ d_SP_corner_11 ⟨Nat.zero_le _, Nat.zero_le _⟩ (fun H hP hH hHs => ?_)
  refine lv_iload_n hx hb d_SP_corner_14 rfl (lv_at hl 2 rfl) ?_
  refine lv_iconst (v := 0) hx hb d_SP_corner_15 (by decide) ?_
  refine lv_iconst (v := 3) hx hb d_SP_corner_16 (by decide) ?_
  by_cases v1 : inI p1 0 3 = 1
  rotate_left
  · exact xsOut C htab hlocks v_SP_35 [.int p1, .int 0, .int 3] [] (c_SP_demandWithin_x l g hfl p1 0 3 v1) hH hHs rfl rfl hl.1 (Nat.le_of_ble_eq_true rfl) ⟨Nat.le_of_ble_eq_true rfl, Nat.le_of_ble_eq_true rfl⟩ ⟨Nat.le_refl _, Nat.le_refl _⟩ d_SP_corner_17
  refine csU0 C v_SP_35 [.int p1, .int 0, .int 3] [] (c_SP_demandWithin l g p1 0 3 v1) hP hH hHs rfl rfl hl.1 (Nat.le_of_ble_eq_true rfl) ⟨Nat.le_of_ble_eq_true rfl, Nat.le_of_ble_eq_true rfl⟩ d_SP_corner_17 ⟨Nat.zero_le _, Nat.zero_le _⟩ (fun H hP hH hHs => ?_)
  refine lv_iload_n hx hb d_SP_corner_20 rfl (lv_at hl 3 rfl) ?_
  refine lv_iconst (v := 0) hx hb d_SP_corner_21 (by decide) ?_
  refine lv_iconst (v := 1) hx hb d_SP_corner_22 (by decide) ?_
  by_cases v2 : inI p2 0 1 = 1
  rotate_left
  · exact xsOut C htab hlocks v_SP_35 [.int p2, .int 0, .int 1] [] (c_SP_demandWithin_x l g hfl p2 0 1 v2) hH hHs rfl rfl hl.1 (Nat.le_of_ble_eq_true rfl) ⟨Nat.le_of_ble_eq_true rfl, Nat.le_of_ble_eq_true rfl⟩ ⟨Nat.le_refl _, Nat.le_refl _⟩ d_SP_corner_23
  exact absurd ⟨v0, v1, v2⟩ hbad
set_option maxHeartbeats 4000000 in
set_option maxRecDepth 100000 in
theorem c_SP_corner_0_0 (l : Launch) (g : Glob) (ad : Nat → Nat) (k : CFG) (x y : RS) (q : PLS) (p1 p2 : Int32) (v0 : inI (nI 0) 0 (k.2.1 0 - 1) = 1) (v1 : inI p1 0 3 = 1) (v2 : inI p2 0 1 = 1) : CI l g y_SP_corner b_SP_corner 10 (some .int) 8 162 [.ref (ad 0), .int (nI 0), .int p1, .int p2] (wS g ad k x y q) (cornerF k x 0 p1 p2) (wS g ad k x y q) := by
  refine CI.of .int rfl rfl (by decide +kernel) (Nat.le_of_ble_eq_true rfl) ?_
  intro p e s m below meth c A Q ls C hP hD hl hret hS
  obtain ⟨hx, hb, hml, hown, hw, hE, hA⟩ := id C
  have hl : lv_has ls 10 [(0, .ref (ad 0)), (1, .int (nI 0)), (2, .int p1), (3, .int p2)] := hl
  refine lv_iload_n hx hb d_SP_corner_0 rfl (lv_at hl 1 rfl) ?_
  refine lv_iconst (v := 0) hx hb d_SP_corner_1 (by decide) ?_
  refine lv_aload_n hx hb d_SP_corner_2 rfl (lv_at hl 0 rfl) ?_
  refine va_get (D := g.1) (ci := 0) (v := .ref (ad 1)) (C := R_SP) (T := F_SP) (N := 4) hx hb hw i_SP hown hE.1 hP 0 rfl rfl 0 (by decide) (hw _ q_214) (fun _ h9 => h9) rfl d_SP_corner_3 ?_
  refine va_get (D := g.1) (ci := 5) (v := .int (k.2.1 0)) (C := R_Se) (T := F_Se) (N := 9) hx hb hw i_Se hown hE.1 hP 1 rfl rfl 3 (by decide) (hw _ q_73) (fun _ h9 => h9) rfl d_SP_corner_6 ?_
  refine lv_iconst (v := 1) hx hb d_SP_corner_9 (by decide) ?_
  refine lv_isub hx hb d_SP_corner_10 ?_
  refine csU C v_SP_35 [.int (nI 0), .int 0, .int ((k.2.1 0) - 1)] [] (c_SP_demandWithin l g (nI 0) 0 ((k.2.1 0) - 1) v0) hP hS rfl rfl hl.1 (Nat.le_of_ble_eq_true rfl) ⟨Nat.le_of_ble_eq_true rfl, Nat.le_of_ble_eq_true rfl⟩ d_SP_corner_11 ⟨Nat.zero_le _, Nat.zero_le _⟩ (fun H locs hP hS => ?_)
  refine lv_iload_n hx hb d_SP_corner_14 rfl (lv_at hl 2 rfl) ?_
  refine lv_iconst (v := 0) hx hb d_SP_corner_15 (by decide) ?_
  refine lv_iconst (v := 3) hx hb d_SP_corner_16 (by decide) ?_
  refine csU C v_SP_35 [.int p1, .int 0, .int 3] [] (c_SP_demandWithin l g p1 0 3 v1) hP hS rfl rfl hl.1 (Nat.le_of_ble_eq_true rfl) ⟨Nat.le_of_ble_eq_true rfl, Nat.le_of_ble_eq_true rfl⟩ d_SP_corner_17 ⟨Nat.zero_le _, Nat.zero_le _⟩ (fun H locs hP hS => ?_)
  refine lv_iload_n hx hb d_SP_corner_20 rfl (lv_at hl 3 rfl) ?_
  refine lv_iconst (v := 0) hx hb d_SP_corner_21 (by decide) ?_
  refine lv_iconst (v := 1) hx hb d_SP_corner_22 (by decide) ?_
  refine csU C v_SP_35 [.int p2, .int 0, .int 1] [] (c_SP_demandWithin l g p2 0 1 v2) hP hS rfl rfl hl.1 (Nat.le_of_ble_eq_true rfl) ⟨Nat.le_of_ble_eq_true rfl, Nat.le_of_ble_eq_true rfl⟩ d_SP_corner_23 ⟨Nat.zero_le _, Nat.zero_le _⟩ (fun H locs hP hS => ?_)
  refine lv_aload_n hx hb d_SP_corner_26 rfl (lv_at hl 0 rfl) ?_
  refine va_get (D := g.1) (ci := 0) (v := .ref (ad 1)) (C := R_SP) (T := F_SP) (N := 4) hx hb hw i_SP hown hE.1 hP 0 rfl rfl 0 (by decide) (hw _ q_214) (fun _ h9 => h9) rfl d_SP_corner_27 ?_
  refine va_get (D := g.1) (ci := 5) (v := .ref (ad 2)) (C := R_Se) (T := F_Se) (N := 9) hx hb hw i_Se hown hE.1 hP 1 rfl rfl 0 (by decide) (hw _ q_64) (fun _ h9 => h9) rfl d_SP_corner_30 ?_
  refine lv_iload_n hx hb d_SP_corner_33 rfl (lv_at hl 1 rfl) ?_
  refine va_aldq hx hb hE.1 hP 2 3 rfl rfl (by unfold vp_in; decide) d_SP_corner_34 ?_
  rw [show ((nI 0) : Int32).toNatClampNeg = 0 from by decide]
  refine lv_astore (lv' := [(4, .ref (ad (3 + 0))), (0, .ref (ad 0)), (1, .int (nI 0)), (2, .int p1), (3, .int p2)]) hx hb d_SP_corner_35 hl (by decide) rfl (fun ls hl => ?_)
  refine lv_aload_n hx hb d_SP_corner_37 rfl (lv_at hl 1 rfl) ?_
  refine va_get (D := g.1) (ci := 0) (v := .ref (ad 8)) (C := R_SP) (T := F_SP) (N := 4) hx hb hw i_SP hown hE.1 hP 0 rfl rfl 1 (by decide) (hw _ q_215) (fun _ h9 => h9) rfl d_SP_corner_38 ?_
  refine va_get (D := g.1) (ci := 4) (v := .ref (ad 9)) (C := R_Ru) (T := F_Ru) (N := 8) hx hb hw i_Ru hown hE.1 hP 8 rfl rfl 0 (by decide) (hw _ q_157) (fun _ h9 => h9) rfl d_SP_corner_41 ?_
  refine lv_iload_n hx hb d_SP_corner_44 rfl (lv_at hl 2 rfl) ?_
  refine va_aldq hx hb hE.1 hP 9 4 rfl rfl (by unfold vp_in; decide) d_SP_corner_45 ?_
  rw [show ((nI 0) : Int32).toNatClampNeg = 0 from by decide]
  refine lv_astore (lv' := [(5, .ref (ad (10 + 0))), (4, .ref (ad (3 + 0))), (0, .ref (ad 0)), (1, .int (nI 0)), (2, .int p1), (3, .int p2)]) hx hb d_SP_corner_46 hl (by decide) rfl (fun ls hl => ?_)
  refine lv_aload hx hb d_SP_corner_48 (lv_at hl 0 rfl) ?_
  refine va_get (D := g.1) (ci := 3) (v := .int (x.1 2 0)) (C := R_Po) (T := F_Po) (N := 5) hx hb hw i_Po hown hE.1 hP 10 rfl rfl 2 (by decide) (hw _ q_126) (fun _ h9 => h9) rfl d_SP_corner_50 ?_
  refine csI C v_SP_132 [.int (x.1 2 0)] [] (c_Di_dx l g (x.1 2 0)) hP hS rfl rfl hl.1 (Nat.le_of_ble_eq_true rfl) ⟨Nat.le_of_ble_eq_true rfl, Nat.le_of_ble_eq_true rfl⟩ d_SP_corner_53 ⟨Nat.zero_le _, Nat.zero_le _⟩ (fun H locs hP hS => ?_)
  refine lv_istore (lv' := [(6, .int (dX (x.1 2 0))), (5, .ref (ad (10 + 0))), (4, .ref (ad (3 + 0))), (0, .ref (ad 0)), (1, .int (nI 0)), (2, .int p1), (3, .int p2)]) hx hb d_SP_corner_56 hl (by decide) rfl (fun ls hl => ?_)
  refine lv_aload hx hb d_SP_corner_58 (lv_at hl 1 rfl) ?_
  refine va_get (D := g.1) (ci := 3) (v := .int (x.1 2 0)) (C := R_Po) (T := F_Po) (N := 5) hx hb hw i_Po hown hE.1 hP 10 rfl rfl 2 (by decide) (hw _ q_126) (fun _ h9 => h9) rfl d_SP_corner_60 ?_
  refine csI C v_SP_135 [.int (x.1 2 0)] [] (c_Di_dy l g (x.1 2 0)) hP hS rfl rfl hl.1 (Nat.le_of_ble_eq_true rfl) ⟨Nat.le_of_ble_eq_true rfl, Nat.le_of_ble_eq_true rfl⟩ d_SP_corner_63 ⟨Nat.zero_le _, Nat.zero_le _⟩ (fun H locs hP hS => ?_)
  refine lv_istore (lv' := [(7, .int (dY (x.1 2 0))), (6, .int (dX (x.1 2 0))), (5, .ref (ad (10 + 0))), (4, .ref (ad (3 + 0))), (0, .ref (ad 0)), (1, .int (nI 0)), (2, .int p1), (3, .int p2)]) hx hb d_SP_corner_66 hl (by decide) rfl (fun ls hl => ?_)
  refine lv_iload_n hx hb d_SP_corner_68 rfl (lv_at hl 6 rfl) ?_
  refine lv_iconst (v := 1) hx hb d_SP_corner_69 (by decide) ?_
  refine lv_icmp_gt (tgt := 81) hx hb d_SP_corner_70 (by decide) (fun c70_1 => ?_) (fun c70_1 => ?_)
  · refine lv_aload hx hb d_SP_corner_81 (lv_at hl 3 rfl) ?_
    refine va_get (D := g.1) (ci := 6) (v := .int (k.1 3 0)) (C := R_Sh) (T := F_Sh) (N := 5) hx hb hw i_Sh hown hE.1 hP 3 rfl rfl 3 (by decide) (hw _ q_47) (fun _ h9 => h9) rfl d_SP_corner_83 ?_
    refine lv_ineg hx hb d_SP_corner_86 ?_
    refine lv_istore (lv' := [(8, .int (-(k.1 3 0))), (7, .int (dY (x.1 2 0))), (6, .int (dX (x.1 2 0))), (5, .ref (ad (10 + 0))), (4, .ref (ad (3 + 0))), (0, .ref (ad 0)), (1, .int (nI 0)), (2, .int p1), (3, .int p2)]) hx hb d_SP_corner_87 hl (by decide) rfl (fun ls hl => ?_)
    refine lv_iload_n hx hb d_SP_corner_89 rfl (lv_at hl 7 rfl) ?_
    refine lv_if_eq (tgt := 98) hx hb d_SP_corner_90 (by decide) (fun c90_2 => ?_) (fun c90_2 => ?_)
    · refine lv_aload hx hb d_SP_corner_98 (lv_at hl 4 rfl) ?_
      refine va_get (D := g.1) (ci := 6) (v := .int (k.1 4 0)) (C := R_Sh) (T := F_Sh) (N := 5) hx hb hw i_Sh hown hE.1 hP 3 rfl rfl 4 (by decide) (hw _ q_50) (fun _ h9 => h9) rfl d_SP_corner_100 ?_
      refine lv_goto (tgt := 112) hx hb d_SP_corner_103 (by decide) ?_
      refine lv_istore (lv' := [(9, .int (k.1 4 0)), (8, .int (-(k.1 3 0))), (7, .int (dY (x.1 2 0))), (6, .int (dX (x.1 2 0))), (5, .ref (ad (10 + 0))), (4, .ref (ad (3 + 0))), (0, .ref (ad 0)), (1, .int (nI 0)), (2, .int p1), (3, .int p2)]) hx hb d_SP_corner_112 hl (by decide) rfl (fun ls hl => ?_)
      refine lv_iload_n hx hb d_SP_corner_114 rfl (lv_at hl 9 rfl) ?_
      refine lv_if_ne (tgt := 138) hx hb d_SP_corner_115 (by decide) (fun c115_3 => ?_) (fun c115_3 => ?_)
      · refine lv_aload hx hb d_SP_corner_138 (lv_at hl 4 rfl) ?_
        refine va_get (D := g.1) (ci := 3) (v := .int (x.1 1 0)) (C := R_Po) (T := F_Po) (N := 5) hx hb hw i_Po hown hE.1 hP 10 rfl rfl 1 (by decide) (hw _ q_123) (fun _ h9 => h9) rfl d_SP_corner_140 ?_
        refine lv_iload hx hb d_SP_corner_143 (lv_at hl 1 rfl) ?_
        refine lv_iload hx hb d_SP_corner_145 (lv_at hl 2 rfl) ?_
        refine lv_imul hx hb d_SP_corner_147 ?_
        refine lv_iadd hx hb d_SP_corner_148 ?_
        refine lv_iload hx hb d_SP_corner_149 (lv_at hl 0 rfl) ?_
        refine lv_iload hx hb d_SP_corner_151 (lv_at hl 3 rfl) ?_
        refine lv_imul hx hb d_SP_corner_153 ?_
        refine lv_iadd hx hb d_SP_corner_154 ?_
        exact hret _ _ _ _ _ _ (by unfold cornerF alF acF; rw [if_neg c115_3, if_pos c70_1, if_pos c90_2]) rfl hP hD hS d_SP_corner_155
      · refine lv_aload hx hb d_SP_corner_118 (lv_at hl 4 rfl) ?_
        refine va_get (D := g.1) (ci := 3) (v := .int (x.1 0 0)) (C := R_Po) (T := F_Po) (N := 5) hx hb hw i_Po hown hE.1 hP 10 rfl rfl 0 (by decide) (hw _ q_120) (fun _ h9 => h9) rfl d_SP_corner_120 ?_
        refine lv_iload hx hb d_SP_corner_123 (lv_at hl 1 rfl) ?_
        refine lv_iload hx hb d_SP_corner_125 (lv_at hl 3 rfl) ?_
        refine lv_imul hx hb d_SP_corner_127 ?_
        refine lv_iadd hx hb d_SP_corner_128 ?_
        refine lv_iload hx hb d_SP_corner_129 (lv_at hl 0 rfl) ?_
        refine lv_iload hx hb d_SP_corner_131 (lv_at hl 2 rfl) ?_
        refine lv_imul hx hb d_SP_corner_133 ?_
        refine lv_isub hx hb d_SP_corner_134 ?_
        refine lv_goto (tgt := 155) hx hb d_SP_corner_135 (by decide) ?_
        exact hret _ _ _ _ _ _ (by unfold cornerF alF acF; rw [if_pos c115_3, if_pos c70_1, if_pos c90_2]) rfl hP hD hS d_SP_corner_155
    · refine lv_iload_n hx hb d_SP_corner_93 rfl (lv_at hl 7 rfl) ?_
      refine lv_iconst (v := 3) hx hb d_SP_corner_94 (by decide) ?_
      refine lv_icmp_ne (tgt := 106) hx hb d_SP_corner_95 (by decide) (fun c95_4 => ?_) (fun c95_4 => ?_)
      · refine lv_aload hx hb d_SP_corner_106 (lv_at hl 4 rfl) ?_
        refine va_get (D := g.1) (ci := 6) (v := .int (k.1 4 0)) (C := R_Sh) (T := F_Sh) (N := 5) hx hb hw i_Sh hown hE.1 hP 3 rfl rfl 4 (by decide) (hw _ q_50) (fun _ h9 => h9) rfl d_SP_corner_108 ?_
        refine lv_ineg hx hb d_SP_corner_111 ?_
        refine lv_istore (lv' := [(9, .int (-(k.1 4 0))), (8, .int (-(k.1 3 0))), (7, .int (dY (x.1 2 0))), (6, .int (dX (x.1 2 0))), (5, .ref (ad (10 + 0))), (4, .ref (ad (3 + 0))), (0, .ref (ad 0)), (1, .int (nI 0)), (2, .int p1), (3, .int p2)]) hx hb d_SP_corner_112 hl (by decide) rfl (fun ls hl => ?_)
        refine lv_iload_n hx hb d_SP_corner_114 rfl (lv_at hl 9 rfl) ?_
        refine lv_if_ne (tgt := 138) hx hb d_SP_corner_115 (by decide) (fun c115_5 => ?_) (fun c115_5 => ?_)
        · refine lv_aload hx hb d_SP_corner_138 (lv_at hl 4 rfl) ?_
          refine va_get (D := g.1) (ci := 3) (v := .int (x.1 1 0)) (C := R_Po) (T := F_Po) (N := 5) hx hb hw i_Po hown hE.1 hP 10 rfl rfl 1 (by decide) (hw _ q_123) (fun _ h9 => h9) rfl d_SP_corner_140 ?_
          refine lv_iload hx hb d_SP_corner_143 (lv_at hl 1 rfl) ?_
          refine lv_iload hx hb d_SP_corner_145 (lv_at hl 2 rfl) ?_
          refine lv_imul hx hb d_SP_corner_147 ?_
          refine lv_iadd hx hb d_SP_corner_148 ?_
          refine lv_iload hx hb d_SP_corner_149 (lv_at hl 0 rfl) ?_
          refine lv_iload hx hb d_SP_corner_151 (lv_at hl 3 rfl) ?_
          refine lv_imul hx hb d_SP_corner_153 ?_
          refine lv_iadd hx hb d_SP_corner_154 ?_
          exact hret _ _ _ _ _ _ (by unfold cornerF alF acF; rw [if_neg c115_5, if_pos c70_1, if_neg c90_2, if_neg c95_4]) rfl hP hD hS d_SP_corner_155
        · refine lv_aload hx hb d_SP_corner_118 (lv_at hl 4 rfl) ?_
          refine va_get (D := g.1) (ci := 3) (v := .int (x.1 0 0)) (C := R_Po) (T := F_Po) (N := 5) hx hb hw i_Po hown hE.1 hP 10 rfl rfl 0 (by decide) (hw _ q_120) (fun _ h9 => h9) rfl d_SP_corner_120 ?_
          refine lv_iload hx hb d_SP_corner_123 (lv_at hl 1 rfl) ?_
          refine lv_iload hx hb d_SP_corner_125 (lv_at hl 3 rfl) ?_
          refine lv_imul hx hb d_SP_corner_127 ?_
          refine lv_iadd hx hb d_SP_corner_128 ?_
          refine lv_iload hx hb d_SP_corner_129 (lv_at hl 0 rfl) ?_
          refine lv_iload hx hb d_SP_corner_131 (lv_at hl 2 rfl) ?_
          refine lv_imul hx hb d_SP_corner_133 ?_
          refine lv_isub hx hb d_SP_corner_134 ?_
          refine lv_goto (tgt := 155) hx hb d_SP_corner_135 (by decide) ?_
          exact hret _ _ _ _ _ _ (by unfold cornerF alF acF; rw [if_pos c115_5, if_pos c70_1, if_neg c90_2, if_neg c95_4]) rfl hP hD hS d_SP_corner_155
      · refine lv_aload hx hb d_SP_corner_98 (lv_at hl 4 rfl) ?_
        refine va_get (D := g.1) (ci := 6) (v := .int (k.1 4 0)) (C := R_Sh) (T := F_Sh) (N := 5) hx hb hw i_Sh hown hE.1 hP 3 rfl rfl 4 (by decide) (hw _ q_50) (fun _ h9 => h9) rfl d_SP_corner_100 ?_
        refine lv_goto (tgt := 112) hx hb d_SP_corner_103 (by decide) ?_
        refine lv_istore (lv' := [(9, .int (k.1 4 0)), (8, .int (-(k.1 3 0))), (7, .int (dY (x.1 2 0))), (6, .int (dX (x.1 2 0))), (5, .ref (ad (10 + 0))), (4, .ref (ad (3 + 0))), (0, .ref (ad 0)), (1, .int (nI 0)), (2, .int p1), (3, .int p2)]) hx hb d_SP_corner_112 hl (by decide) rfl (fun ls hl => ?_)
        refine lv_iload_n hx hb d_SP_corner_114 rfl (lv_at hl 9 rfl) ?_
        refine lv_if_ne (tgt := 138) hx hb d_SP_corner_115 (by decide) (fun c115_6 => ?_) (fun c115_6 => ?_)
        · refine lv_aload hx hb d_SP_corner_138 (lv_at hl 4 rfl) ?_
          refine va_get (D := g.1) (ci := 3) (v := .int (x.1 1 0)) (C := R_Po) (T := F_Po) (N := 5) hx hb hw i_Po hown hE.1 hP 10 rfl rfl 1 (by decide) (hw _ q_123) (fun _ h9 => h9) rfl d_SP_corner_140 ?_
          refine lv_iload hx hb d_SP_corner_143 (lv_at hl 1 rfl) ?_
          refine lv_iload hx hb d_SP_corner_145 (lv_at hl 2 rfl) ?_
          refine lv_imul hx hb d_SP_corner_147 ?_
          refine lv_iadd hx hb d_SP_corner_148 ?_
          refine lv_iload hx hb d_SP_corner_149 (lv_at hl 0 rfl) ?_
          refine lv_iload hx hb d_SP_corner_151 (lv_at hl 3 rfl) ?_
          refine lv_imul hx hb d_SP_corner_153 ?_
          refine lv_iadd hx hb d_SP_corner_154 ?_
          exact hret _ _ _ _ _ _ (by unfold cornerF alF acF; rw [if_neg c115_6, if_pos c70_1, if_neg c90_2, if_pos c95_4]) rfl hP hD hS d_SP_corner_155
        · refine lv_aload hx hb d_SP_corner_118 (lv_at hl 4 rfl) ?_
          refine va_get (D := g.1) (ci := 3) (v := .int (x.1 0 0)) (C := R_Po) (T := F_Po) (N := 5) hx hb hw i_Po hown hE.1 hP 10 rfl rfl 0 (by decide) (hw _ q_120) (fun _ h9 => h9) rfl d_SP_corner_120 ?_
          refine lv_iload hx hb d_SP_corner_123 (lv_at hl 1 rfl) ?_
          refine lv_iload hx hb d_SP_corner_125 (lv_at hl 3 rfl) ?_
          refine lv_imul hx hb d_SP_corner_127 ?_
          refine lv_iadd hx hb d_SP_corner_128 ?_
          refine lv_iload hx hb d_SP_corner_129 (lv_at hl 0 rfl) ?_
          refine lv_iload hx hb d_SP_corner_131 (lv_at hl 2 rfl) ?_
          refine lv_imul hx hb d_SP_corner_133 ?_
          refine lv_isub hx hb d_SP_corner_134 ?_
          refine lv_goto (tgt := 155) hx hb d_SP_corner_135 (by decide) ?_
          exact hret _ _ _ _ _ _ (by unfold cornerF alF acF; rw [if_pos c115_6, if_pos c70_1, if_neg c90_2, if_pos c95_4]) rfl hP hD hS d_SP_corner_155
  · refine lv_aload hx hb d_SP_corner_73 (lv_at hl 3 rfl) ?_
    refine va_get (D := g.1) (ci := 6) (v := .int (k.1 2 0)) (C := R_Sh) (T := F_Sh) (N := 5) hx hb hw i_Sh hown hE.1 hP 3 rfl rfl 2 (by decide) (hw _ q_44) (fun _ h9 => h9) rfl d_SP_corner_75 ?_
    refine lv_goto (tgt := 87) hx hb d_SP_corner_78 (by decide) ?_
    refine lv_istore (lv' := [(8, .int (k.1 2 0)), (7, .int (dY (x.1 2 0))), (6, .int (dX (x.1 2 0))), (5, .ref (ad (10 + 0))), (4, .ref (ad (3 + 0))), (0, .ref (ad 0)), (1, .int (nI 0)), (2, .int p1), (3, .int p2)]) hx hb d_SP_corner_87 hl (by decide) rfl (fun ls hl => ?_)
    refine lv_iload_n hx hb d_SP_corner_89 rfl (lv_at hl 7 rfl) ?_
    refine lv_if_eq (tgt := 98) hx hb d_SP_corner_90 (by decide) (fun c90_7 => ?_) (fun c90_7 => ?_)
    · refine lv_aload hx hb d_SP_corner_98 (lv_at hl 4 rfl) ?_
      refine va_get (D := g.1) (ci := 6) (v := .int (k.1 4 0)) (C := R_Sh) (T := F_Sh) (N := 5) hx hb hw i_Sh hown hE.1 hP 3 rfl rfl 4 (by decide) (hw _ q_50) (fun _ h9 => h9) rfl d_SP_corner_100 ?_
      refine lv_goto (tgt := 112) hx hb d_SP_corner_103 (by decide) ?_
      refine lv_istore (lv' := [(9, .int (k.1 4 0)), (8, .int (k.1 2 0)), (7, .int (dY (x.1 2 0))), (6, .int (dX (x.1 2 0))), (5, .ref (ad (10 + 0))), (4, .ref (ad (3 + 0))), (0, .ref (ad 0)), (1, .int (nI 0)), (2, .int p1), (3, .int p2)]) hx hb d_SP_corner_112 hl (by decide) rfl (fun ls hl => ?_)
      refine lv_iload_n hx hb d_SP_corner_114 rfl (lv_at hl 9 rfl) ?_
      refine lv_if_ne (tgt := 138) hx hb d_SP_corner_115 (by decide) (fun c115_8 => ?_) (fun c115_8 => ?_)
      · refine lv_aload hx hb d_SP_corner_138 (lv_at hl 4 rfl) ?_
        refine va_get (D := g.1) (ci := 3) (v := .int (x.1 1 0)) (C := R_Po) (T := F_Po) (N := 5) hx hb hw i_Po hown hE.1 hP 10 rfl rfl 1 (by decide) (hw _ q_123) (fun _ h9 => h9) rfl d_SP_corner_140 ?_
        refine lv_iload hx hb d_SP_corner_143 (lv_at hl 1 rfl) ?_
        refine lv_iload hx hb d_SP_corner_145 (lv_at hl 2 rfl) ?_
        refine lv_imul hx hb d_SP_corner_147 ?_
        refine lv_iadd hx hb d_SP_corner_148 ?_
        refine lv_iload hx hb d_SP_corner_149 (lv_at hl 0 rfl) ?_
        refine lv_iload hx hb d_SP_corner_151 (lv_at hl 3 rfl) ?_
        refine lv_imul hx hb d_SP_corner_153 ?_
        refine lv_iadd hx hb d_SP_corner_154 ?_
        exact hret _ _ _ _ _ _ (by unfold cornerF alF acF; rw [if_neg c115_8, if_neg c70_1, if_pos c90_7]) rfl hP hD hS d_SP_corner_155
      · refine lv_aload hx hb d_SP_corner_118 (lv_at hl 4 rfl) ?_
        refine va_get (D := g.1) (ci := 3) (v := .int (x.1 0 0)) (C := R_Po) (T := F_Po) (N := 5) hx hb hw i_Po hown hE.1 hP 10 rfl rfl 0 (by decide) (hw _ q_120) (fun _ h9 => h9) rfl d_SP_corner_120 ?_
        refine lv_iload hx hb d_SP_corner_123 (lv_at hl 1 rfl) ?_
        refine lv_iload hx hb d_SP_corner_125 (lv_at hl 3 rfl) ?_
        refine lv_imul hx hb d_SP_corner_127 ?_
        refine lv_iadd hx hb d_SP_corner_128 ?_
        refine lv_iload hx hb d_SP_corner_129 (lv_at hl 0 rfl) ?_
        refine lv_iload hx hb d_SP_corner_131 (lv_at hl 2 rfl) ?_
        refine lv_imul hx hb d_SP_corner_133 ?_
        refine lv_isub hx hb d_SP_corner_134 ?_
        refine lv_goto (tgt := 155) hx hb d_SP_corner_135 (by decide) ?_
        exact hret _ _ _ _ _ _ (by unfold cornerF alF acF; rw [if_pos c115_8, if_neg c70_1, if_pos c90_7]) rfl hP hD hS d_SP_corner_155
    · refine lv_iload_n hx hb d_SP_corner_93 rfl (lv_at hl 7 rfl) ?_
      refine lv_iconst (v := 3) hx hb d_SP_corner_94 (by decide) ?_
      refine lv_icmp_ne (tgt := 106) hx hb d_SP_corner_95 (by decide) (fun c95_9 => ?_) (fun c95_9 => ?_)
      · refine lv_aload hx hb d_SP_corner_106 (lv_at hl 4 rfl) ?_
        refine va_get (D := g.1) (ci := 6) (v := .int (k.1 4 0)) (C := R_Sh) (T := F_Sh) (N := 5) hx hb hw i_Sh hown hE.1 hP 3 rfl rfl 4 (by decide) (hw _ q_50) (fun _ h9 => h9) rfl d_SP_corner_108 ?_
        refine lv_ineg hx hb d_SP_corner_111 ?_
        refine lv_istore (lv' := [(9, .int (-(k.1 4 0))), (8, .int (k.1 2 0)), (7, .int (dY (x.1 2 0))), (6, .int (dX (x.1 2 0))), (5, .ref (ad (10 + 0))), (4, .ref (ad (3 + 0))), (0, .ref (ad 0)), (1, .int (nI 0)), (2, .int p1), (3, .int p2)]) hx hb d_SP_corner_112 hl (by decide) rfl (fun ls hl => ?_)
        refine lv_iload_n hx hb d_SP_corner_114 rfl (lv_at hl 9 rfl) ?_
        refine lv_if_ne (tgt := 138) hx hb d_SP_corner_115 (by decide) (fun c115_10 => ?_) (fun c115_10 => ?_)
        · refine lv_aload hx hb d_SP_corner_138 (lv_at hl 4 rfl) ?_
          refine va_get (D := g.1) (ci := 3) (v := .int (x.1 1 0)) (C := R_Po) (T := F_Po) (N := 5) hx hb hw i_Po hown hE.1 hP 10 rfl rfl 1 (by decide) (hw _ q_123) (fun _ h9 => h9) rfl d_SP_corner_140 ?_
          refine lv_iload hx hb d_SP_corner_143 (lv_at hl 1 rfl) ?_
          refine lv_iload hx hb d_SP_corner_145 (lv_at hl 2 rfl) ?_
          refine lv_imul hx hb d_SP_corner_147 ?_
          refine lv_iadd hx hb d_SP_corner_148 ?_
          refine lv_iload hx hb d_SP_corner_149 (lv_at hl 0 rfl) ?_
          refine lv_iload hx hb d_SP_corner_151 (lv_at hl 3 rfl) ?_
          refine lv_imul hx hb d_SP_corner_153 ?_
          refine lv_iadd hx hb d_SP_corner_154 ?_
          exact hret _ _ _ _ _ _ (by unfold cornerF alF acF; rw [if_neg c115_10, if_neg c70_1, if_neg c90_7, if_neg c95_9]) rfl hP hD hS d_SP_corner_155
        · refine lv_aload hx hb d_SP_corner_118 (lv_at hl 4 rfl) ?_
          refine va_get (D := g.1) (ci := 3) (v := .int (x.1 0 0)) (C := R_Po) (T := F_Po) (N := 5) hx hb hw i_Po hown hE.1 hP 10 rfl rfl 0 (by decide) (hw _ q_120) (fun _ h9 => h9) rfl d_SP_corner_120 ?_
          refine lv_iload hx hb d_SP_corner_123 (lv_at hl 1 rfl) ?_
          refine lv_iload hx hb d_SP_corner_125 (lv_at hl 3 rfl) ?_
          refine lv_imul hx hb d_SP_corner_127 ?_
          refine lv_iadd hx hb d_SP_corner_128 ?_
          refine lv_iload hx hb d_SP_corner_129 (lv_at hl 0 rfl) ?_
          refine lv_iload hx hb d_SP_corner_131 (lv_at hl 2 rfl) ?_
          refine lv_imul hx hb d_SP_corner_133 ?_
          refine lv_isub hx hb d_SP_corner_134 ?_
          refine lv_goto (tgt := 155) hx hb d_SP_corner_135 (by decide) ?_
          exact hret _ _ _ _ _ _ (by unfold cornerF alF acF; rw [if_pos c115_10, if_neg c70_1, if_neg c90_7, if_neg c95_9]) rfl hP hD hS d_SP_corner_155
      · refine lv_aload hx hb d_SP_corner_98 (lv_at hl 4 rfl) ?_
        refine va_get (D := g.1) (ci := 6) (v := .int (k.1 4 0)) (C := R_Sh) (T := F_Sh) (N := 5) hx hb hw i_Sh hown hE.1 hP 3 rfl rfl 4 (by decide) (hw _ q_50) (fun _ h9 => h9) rfl d_SP_corner_100 ?_
        refine lv_goto (tgt := 112) hx hb d_SP_corner_103 (by decide) ?_
        refine lv_istore (lv' := [(9, .int (k.1 4 0)), (8, .int (k.1 2 0)), (7, .int (dY (x.1 2 0))), (6, .int (dX (x.1 2 0))), (5, .ref (ad (10 + 0))), (4, .ref (ad (3 + 0))), (0, .ref (ad 0)), (1, .int (nI 0)), (2, .int p1), (3, .int p2)]) hx hb d_SP_corner_112 hl (by decide) rfl (fun ls hl => ?_)
        refine lv_iload_n hx hb d_SP_corner_114 rfl (lv_at hl 9 rfl) ?_
        refine lv_if_ne (tgt := 138) hx hb d_SP_corner_115 (by decide) (fun c115_11 => ?_) (fun c115_11 => ?_)
        · refine lv_aload hx hb d_SP_corner_138 (lv_at hl 4 rfl) ?_
          refine va_get (D := g.1) (ci := 3) (v := .int (x.1 1 0)) (C := R_Po) (T := F_Po) (N := 5) hx hb hw i_Po hown hE.1 hP 10 rfl rfl 1 (by decide) (hw _ q_123) (fun _ h9 => h9) rfl d_SP_corner_140 ?_
          refine lv_iload hx hb d_SP_corner_143 (lv_at hl 1 rfl) ?_
          refine lv_iload hx hb d_SP_corner_145 (lv_at hl 2 rfl) ?_
          refine lv_imul hx hb d_SP_corner_147 ?_
          refine lv_iadd hx hb d_SP_corner_148 ?_
          refine lv_iload hx hb d_SP_corner_149 (lv_at hl 0 rfl) ?_
          refine lv_iload hx hb d_SP_corner_151 (lv_at hl 3 rfl) ?_
          refine lv_imul hx hb d_SP_corner_153 ?_
          refine lv_iadd hx hb d_SP_corner_154 ?_
          exact hret _ _ _ _ _ _ (by unfold cornerF alF acF; rw [if_neg c115_11, if_neg c70_1, if_neg c90_7, if_pos c95_9]) rfl hP hD hS d_SP_corner_155
        · refine lv_aload hx hb d_SP_corner_118 (lv_at hl 4 rfl) ?_
          refine va_get (D := g.1) (ci := 3) (v := .int (x.1 0 0)) (C := R_Po) (T := F_Po) (N := 5) hx hb hw i_Po hown hE.1 hP 10 rfl rfl 0 (by decide) (hw _ q_120) (fun _ h9 => h9) rfl d_SP_corner_120 ?_
          refine lv_iload hx hb d_SP_corner_123 (lv_at hl 1 rfl) ?_
          refine lv_iload hx hb d_SP_corner_125 (lv_at hl 3 rfl) ?_
          refine lv_imul hx hb d_SP_corner_127 ?_
          refine lv_iadd hx hb d_SP_corner_128 ?_
          refine lv_iload hx hb d_SP_corner_129 (lv_at hl 0 rfl) ?_
          refine lv_iload hx hb d_SP_corner_131 (lv_at hl 2 rfl) ?_
          refine lv_imul hx hb d_SP_corner_133 ?_
          refine lv_isub hx hb d_SP_corner_134 ?_
          refine lv_goto (tgt := 155) hx hb d_SP_corner_135 (by decide) ?_
          exact hret _ _ _ _ _ _ (by unfold cornerF alF acF; rw [if_pos c115_11, if_neg c70_1, if_neg c90_7, if_pos c95_9]) rfl hP hD hS d_SP_corner_155
set_option maxHeartbeats 4000000 in
set_option maxRecDepth 100000 in
theorem c_SP_corner_0_1 (l : Launch) (g : Glob) (ad : Nat → Nat) (k : CFG) (x y : RS) (q : PLS) (p1 p2 : Int32) (v0 : inI (nI 1) 0 (k.2.1 0 - 1) = 1) (v1 : inI p1 0 3 = 1) (v2 : inI p2 0 1 = 1) : CI l g y_SP_corner b_SP_corner 10 (some .int) 8 162 [.ref (ad 0), .int (nI 1), .int p1, .int p2] (wS g ad k x y q) (cornerF k x 1 p1 p2) (wS g ad k x y q) := by
  refine CI.of .int rfl rfl (by decide +kernel) (Nat.le_of_ble_eq_true rfl) ?_
  intro p e s m below meth c A Q ls C hP hD hl hret hS
  obtain ⟨hx, hb, hml, hown, hw, hE, hA⟩ := id C
  have hl : lv_has ls 10 [(0, .ref (ad 0)), (1, .int (nI 1)), (2, .int p1), (3, .int p2)] := hl
  refine lv_iload_n hx hb d_SP_corner_0 rfl (lv_at hl 1 rfl) ?_
  refine lv_iconst (v := 0) hx hb d_SP_corner_1 (by decide) ?_
  refine lv_aload_n hx hb d_SP_corner_2 rfl (lv_at hl 0 rfl) ?_
  refine va_get (D := g.1) (ci := 0) (v := .ref (ad 1)) (C := R_SP) (T := F_SP) (N := 4) hx hb hw i_SP hown hE.1 hP 0 rfl rfl 0 (by decide) (hw _ q_214) (fun _ h9 => h9) rfl d_SP_corner_3 ?_
  refine va_get (D := g.1) (ci := 5) (v := .int (k.2.1 0)) (C := R_Se) (T := F_Se) (N := 9) hx hb hw i_Se hown hE.1 hP 1 rfl rfl 3 (by decide) (hw _ q_73) (fun _ h9 => h9) rfl d_SP_corner_6 ?_
  refine lv_iconst (v := 1) hx hb d_SP_corner_9 (by decide) ?_
  refine lv_isub hx hb d_SP_corner_10 ?_
  refine csU C v_SP_35 [.int (nI 1), .int 0, .int ((k.2.1 0) - 1)] [] (c_SP_demandWithin l g (nI 1) 0 ((k.2.1 0) - 1) v0) hP hS rfl rfl hl.1 (Nat.le_of_ble_eq_true rfl) ⟨Nat.le_of_ble_eq_true rfl, Nat.le_of_ble_eq_true rfl⟩ d_SP_corner_11 ⟨Nat.zero_le _, Nat.zero_le _⟩ (fun H locs hP hS => ?_)
  refine lv_iload_n hx hb d_SP_corner_14 rfl (lv_at hl 2 rfl) ?_
  refine lv_iconst (v := 0) hx hb d_SP_corner_15 (by decide) ?_
  refine lv_iconst (v := 3) hx hb d_SP_corner_16 (by decide) ?_
  refine csU C v_SP_35 [.int p1, .int 0, .int 3] [] (c_SP_demandWithin l g p1 0 3 v1) hP hS rfl rfl hl.1 (Nat.le_of_ble_eq_true rfl) ⟨Nat.le_of_ble_eq_true rfl, Nat.le_of_ble_eq_true rfl⟩ d_SP_corner_17 ⟨Nat.zero_le _, Nat.zero_le _⟩ (fun H locs hP hS => ?_)
  refine lv_iload_n hx hb d_SP_corner_20 rfl (lv_at hl 3 rfl) ?_
  refine lv_iconst (v := 0) hx hb d_SP_corner_21 (by decide) ?_
  refine lv_iconst (v := 1) hx hb d_SP_corner_22 (by decide) ?_
  refine csU C v_SP_35 [.int p2, .int 0, .int 1] [] (c_SP_demandWithin l g p2 0 1 v2) hP hS rfl rfl hl.1 (Nat.le_of_ble_eq_true rfl) ⟨Nat.le_of_ble_eq_true rfl, Nat.le_of_ble_eq_true rfl⟩ d_SP_corner_23 ⟨Nat.zero_le _, Nat.zero_le _⟩ (fun H locs hP hS => ?_)
  refine lv_aload_n hx hb d_SP_corner_26 rfl (lv_at hl 0 rfl) ?_
  refine va_get (D := g.1) (ci := 0) (v := .ref (ad 1)) (C := R_SP) (T := F_SP) (N := 4) hx hb hw i_SP hown hE.1 hP 0 rfl rfl 0 (by decide) (hw _ q_214) (fun _ h9 => h9) rfl d_SP_corner_27 ?_
  refine va_get (D := g.1) (ci := 5) (v := .ref (ad 2)) (C := R_Se) (T := F_Se) (N := 9) hx hb hw i_Se hown hE.1 hP 1 rfl rfl 0 (by decide) (hw _ q_64) (fun _ h9 => h9) rfl d_SP_corner_30 ?_
  refine lv_iload_n hx hb d_SP_corner_33 rfl (lv_at hl 1 rfl) ?_
  refine va_aldq hx hb hE.1 hP 2 3 rfl rfl (by unfold vp_in; decide) d_SP_corner_34 ?_
  rw [show ((nI 1) : Int32).toNatClampNeg = 1 from by decide]
  refine lv_astore (lv' := [(4, .ref (ad (3 + 1))), (0, .ref (ad 0)), (1, .int (nI 1)), (2, .int p1), (3, .int p2)]) hx hb d_SP_corner_35 hl (by decide) rfl (fun ls hl => ?_)
  refine lv_aload_n hx hb d_SP_corner_37 rfl (lv_at hl 1 rfl) ?_
  refine va_get (D := g.1) (ci := 0) (v := .ref (ad 8)) (C := R_SP) (T := F_SP) (N := 4) hx hb hw i_SP hown hE.1 hP 0 rfl rfl 1 (by decide) (hw _ q_215) (fun _ h9 => h9) rfl d_SP_corner_38 ?_
  refine va_get (D := g.1) (ci := 4) (v := .ref (ad 9)) (C := R_Ru) (T := F_Ru) (N := 8) hx hb hw i_Ru hown hE.1 hP 8 rfl rfl 0 (by decide) (hw _ q_157) (fun _ h9 => h9) rfl d_SP_corner_41 ?_
  refine lv_iload_n hx hb d_SP_corner_44 rfl (lv_at hl 2 rfl) ?_
  refine va_aldq hx hb hE.1 hP 9 4 rfl rfl (by unfold vp_in; decide) d_SP_corner_45 ?_
  rw [show ((nI 1) : Int32).toNatClampNeg = 1 from by decide]
  refine lv_astore (lv' := [(5, .ref (ad (10 + 1))), (4, .ref (ad (3 + 1))), (0, .ref (ad 0)), (1, .int (nI 1)), (2, .int p1), (3, .int p2)]) hx hb d_SP_corner_46 hl (by decide) rfl (fun ls hl => ?_)
  refine lv_aload hx hb d_SP_corner_48 (lv_at hl 0 rfl) ?_
  refine va_get (D := g.1) (ci := 3) (v := .int (x.1 2 1)) (C := R_Po) (T := F_Po) (N := 5) hx hb hw i_Po hown hE.1 hP 11 rfl rfl 2 (by decide) (hw _ q_126) (fun _ h9 => h9) rfl d_SP_corner_50 ?_
  refine csI C v_SP_132 [.int (x.1 2 1)] [] (c_Di_dx l g (x.1 2 1)) hP hS rfl rfl hl.1 (Nat.le_of_ble_eq_true rfl) ⟨Nat.le_of_ble_eq_true rfl, Nat.le_of_ble_eq_true rfl⟩ d_SP_corner_53 ⟨Nat.zero_le _, Nat.zero_le _⟩ (fun H locs hP hS => ?_)
  refine lv_istore (lv' := [(6, .int (dX (x.1 2 1))), (5, .ref (ad (10 + 1))), (4, .ref (ad (3 + 1))), (0, .ref (ad 0)), (1, .int (nI 1)), (2, .int p1), (3, .int p2)]) hx hb d_SP_corner_56 hl (by decide) rfl (fun ls hl => ?_)
  refine lv_aload hx hb d_SP_corner_58 (lv_at hl 1 rfl) ?_
  refine va_get (D := g.1) (ci := 3) (v := .int (x.1 2 1)) (C := R_Po) (T := F_Po) (N := 5) hx hb hw i_Po hown hE.1 hP 11 rfl rfl 2 (by decide) (hw _ q_126) (fun _ h9 => h9) rfl d_SP_corner_60 ?_
  refine csI C v_SP_135 [.int (x.1 2 1)] [] (c_Di_dy l g (x.1 2 1)) hP hS rfl rfl hl.1 (Nat.le_of_ble_eq_true rfl) ⟨Nat.le_of_ble_eq_true rfl, Nat.le_of_ble_eq_true rfl⟩ d_SP_corner_63 ⟨Nat.zero_le _, Nat.zero_le _⟩ (fun H locs hP hS => ?_)
  refine lv_istore (lv' := [(7, .int (dY (x.1 2 1))), (6, .int (dX (x.1 2 1))), (5, .ref (ad (10 + 1))), (4, .ref (ad (3 + 1))), (0, .ref (ad 0)), (1, .int (nI 1)), (2, .int p1), (3, .int p2)]) hx hb d_SP_corner_66 hl (by decide) rfl (fun ls hl => ?_)
  refine lv_iload_n hx hb d_SP_corner_68 rfl (lv_at hl 6 rfl) ?_
  refine lv_iconst (v := 1) hx hb d_SP_corner_69 (by decide) ?_
  refine lv_icmp_gt (tgt := 81) hx hb d_SP_corner_70 (by decide) (fun c70_1 => ?_) (fun c70_1 => ?_)
  · refine lv_aload hx hb d_SP_corner_81 (lv_at hl 3 rfl) ?_
    refine va_get (D := g.1) (ci := 6) (v := .int (k.1 3 1)) (C := R_Sh) (T := F_Sh) (N := 5) hx hb hw i_Sh hown hE.1 hP 4 rfl rfl 3 (by decide) (hw _ q_47) (fun _ h9 => h9) rfl d_SP_corner_83 ?_
    refine lv_ineg hx hb d_SP_corner_86 ?_
    refine lv_istore (lv' := [(8, .int (-(k.1 3 1))), (7, .int (dY (x.1 2 1))), (6, .int (dX (x.1 2 1))), (5, .ref (ad (10 + 1))), (4, .ref (ad (3 + 1))), (0, .ref (ad 0)), (1, .int (nI 1)), (2, .int p1), (3, .int p2)]) hx hb d_SP_corner_87 hl (by decide) rfl (fun ls hl => ?_)
    refine lv_iload_n hx hb d_SP_corner_89 rfl (lv_at hl 7 rfl) ?_
    refine lv_if_eq (tgt := 98) hx hb d_SP_corner_90 (by decide) (fun c90_2 => ?_) (fun c90_2 => ?_)
    · refine lv_aload hx hb d_SP_corner_98 (lv_at hl 4 rfl) ?_
      refine va_get (D := g.1) (ci := 6) (v := .int (k.1 4 1)) (C := R_Sh) (T := F_Sh) (N := 5) hx hb hw i_Sh hown hE.1 hP 4 rfl rfl 4 (by decide) (hw _ q_50) (fun _ h9 => h9) rfl d_SP_corner_100 ?_
      refine lv_goto (tgt := 112) hx hb d_SP_corner_103 (by decide) ?_
      refine lv_istore (lv' := [(9, .int (k.1 4 1)), (8, .int (-(k.1 3 1))), (7, .int (dY (x.1 2 1))), (6, .int (dX (x.1 2 1))), (5, .ref (ad (10 + 1))), (4, .ref (ad (3 + 1))), (0, .ref (ad 0)), (1, .int (nI 1)), (2, .int p1), (3, .int p2)]) hx hb d_SP_corner_112 hl (by decide) rfl (fun ls hl => ?_)
      refine lv_iload_n hx hb d_SP_corner_114 rfl (lv_at hl 9 rfl) ?_
      refine lv_if_ne (tgt := 138) hx hb d_SP_corner_115 (by decide) (fun c115_3 => ?_) (fun c115_3 => ?_)
      · refine lv_aload hx hb d_SP_corner_138 (lv_at hl 4 rfl) ?_
        refine va_get (D := g.1) (ci := 3) (v := .int (x.1 1 1)) (C := R_Po) (T := F_Po) (N := 5) hx hb hw i_Po hown hE.1 hP 11 rfl rfl 1 (by decide) (hw _ q_123) (fun _ h9 => h9) rfl d_SP_corner_140 ?_
        refine lv_iload hx hb d_SP_corner_143 (lv_at hl 1 rfl) ?_
        refine lv_iload hx hb d_SP_corner_145 (lv_at hl 2 rfl) ?_
        refine lv_imul hx hb d_SP_corner_147 ?_
        refine lv_iadd hx hb d_SP_corner_148 ?_
        refine lv_iload hx hb d_SP_corner_149 (lv_at hl 0 rfl) ?_
        refine lv_iload hx hb d_SP_corner_151 (lv_at hl 3 rfl) ?_
        refine lv_imul hx hb d_SP_corner_153 ?_
        refine lv_iadd hx hb d_SP_corner_154 ?_
        exact hret _ _ _ _ _ _ (by unfold cornerF alF acF; rw [if_neg c115_3, if_pos c70_1, if_pos c90_2]) rfl hP hD hS d_SP_corner_155
      · refine lv_aload hx hb d_SP_corner_118 (lv_at hl 4 rfl) ?_
        refine va_get (D := g.1) (ci := 3) (v := .int (x.1 0 1)) (C := R_Po) (T := F_Po) (N := 5) hx hb hw i_Po hown hE.1 hP 11 rfl rfl 0 (by decide) (hw _ q_120) (fun _ h9 => h9) rfl d_SP_corner_120 ?_
        refine lv_iload hx hb d_SP_corner_123 (lv_at hl 1 rfl) ?_
        refine lv_iload hx hb d_SP_corner_125 (lv_at hl 3 rfl) ?_
        refine lv_imul hx hb d_SP_corner_127 ?_
        refine lv_iadd hx hb d_SP_corner_128 ?_
        refine lv_iload hx hb d_SP_corner_129 (lv_at hl 0 rfl) ?_
        refine lv_iload hx hb d_SP_corner_131 (lv_at hl 2 rfl) ?_
        refine lv_imul hx hb d_SP_corner_133 ?_
        refine lv_isub hx hb d_SP_corner_134 ?_
        refine lv_goto (tgt := 155) hx hb d_SP_corner_135 (by decide) ?_
        exact hret _ _ _ _ _ _ (by unfold cornerF alF acF; rw [if_pos c115_3, if_pos c70_1, if_pos c90_2]) rfl hP hD hS d_SP_corner_155
    · refine lv_iload_n hx hb d_SP_corner_93 rfl (lv_at hl 7 rfl) ?_
      refine lv_iconst (v := 3) hx hb d_SP_corner_94 (by decide) ?_
      refine lv_icmp_ne (tgt := 106) hx hb d_SP_corner_95 (by decide) (fun c95_4 => ?_) (fun c95_4 => ?_)
      · refine lv_aload hx hb d_SP_corner_106 (lv_at hl 4 rfl) ?_
        refine va_get (D := g.1) (ci := 6) (v := .int (k.1 4 1)) (C := R_Sh) (T := F_Sh) (N := 5) hx hb hw i_Sh hown hE.1 hP 4 rfl rfl 4 (by decide) (hw _ q_50) (fun _ h9 => h9) rfl d_SP_corner_108 ?_
        refine lv_ineg hx hb d_SP_corner_111 ?_
        refine lv_istore (lv' := [(9, .int (-(k.1 4 1))), (8, .int (-(k.1 3 1))), (7, .int (dY (x.1 2 1))), (6, .int (dX (x.1 2 1))), (5, .ref (ad (10 + 1))), (4, .ref (ad (3 + 1))), (0, .ref (ad 0)), (1, .int (nI 1)), (2, .int p1), (3, .int p2)]) hx hb d_SP_corner_112 hl (by decide) rfl (fun ls hl => ?_)
        refine lv_iload_n hx hb d_SP_corner_114 rfl (lv_at hl 9 rfl) ?_
        refine lv_if_ne (tgt := 138) hx hb d_SP_corner_115 (by decide) (fun c115_5 => ?_) (fun c115_5 => ?_)
        · refine lv_aload hx hb d_SP_corner_138 (lv_at hl 4 rfl) ?_
          refine va_get (D := g.1) (ci := 3) (v := .int (x.1 1 1)) (C := R_Po) (T := F_Po) (N := 5) hx hb hw i_Po hown hE.1 hP 11 rfl rfl 1 (by decide) (hw _ q_123) (fun _ h9 => h9) rfl d_SP_corner_140 ?_
          refine lv_iload hx hb d_SP_corner_143 (lv_at hl 1 rfl) ?_
          refine lv_iload hx hb d_SP_corner_145 (lv_at hl 2 rfl) ?_
          refine lv_imul hx hb d_SP_corner_147 ?_
          refine lv_iadd hx hb d_SP_corner_148 ?_
          refine lv_iload hx hb d_SP_corner_149 (lv_at hl 0 rfl) ?_
          refine lv_iload hx hb d_SP_corner_151 (lv_at hl 3 rfl) ?_
          refine lv_imul hx hb d_SP_corner_153 ?_
          refine lv_iadd hx hb d_SP_corner_154 ?_
          exact hret _ _ _ _ _ _ (by unfold cornerF alF acF; rw [if_neg c115_5, if_pos c70_1, if_neg c90_2, if_neg c95_4]) rfl hP hD hS d_SP_corner_155
        · refine lv_aload hx hb d_SP_corner_118 (lv_at hl 4 rfl) ?_
          refine va_get (D := g.1) (ci := 3) (v := .int (x.1 0 1)) (C := R_Po) (T := F_Po) (N := 5) hx hb hw i_Po hown hE.1 hP 11 rfl rfl 0 (by decide) (hw _ q_120) (fun _ h9 => h9) rfl d_SP_corner_120 ?_
          refine lv_iload hx hb d_SP_corner_123 (lv_at hl 1 rfl) ?_
          refine lv_iload hx hb d_SP_corner_125 (lv_at hl 3 rfl) ?_
          refine lv_imul hx hb d_SP_corner_127 ?_
          refine lv_iadd hx hb d_SP_corner_128 ?_
          refine lv_iload hx hb d_SP_corner_129 (lv_at hl 0 rfl) ?_
          refine lv_iload hx hb d_SP_corner_131 (lv_at hl 2 rfl) ?_
          refine lv_imul hx hb d_SP_corner_133 ?_
          refine lv_isub hx hb d_SP_corner_134 ?_
          refine lv_goto (tgt := 155) hx hb d_SP_corner_135 (by decide) ?_
          exact hret _ _ _ _ _ _ (by unfold cornerF alF acF; rw [if_pos c115_5, if_pos c70_1, if_neg c90_2, if_neg c95_4]) rfl hP hD hS d_SP_corner_155
      · refine lv_aload hx hb d_SP_corner_98 (lv_at hl 4 rfl) ?_
        refine va_get (D := g.1) (ci := 6) (v := .int (k.1 4 1)) (C := R_Sh) (T := F_Sh) (N := 5) hx hb hw i_Sh hown hE.1 hP 4 rfl rfl 4 (by decide) (hw _ q_50) (fun _ h9 => h9) rfl d_SP_corner_100 ?_
        refine lv_goto (tgt := 112) hx hb d_SP_corner_103 (by decide) ?_
        refine lv_istore (lv' := [(9, .int (k.1 4 1)), (8, .int (-(k.1 3 1))), (7, .int (dY (x.1 2 1))), (6, .int (dX (x.1 2 1))), (5, .ref (ad (10 + 1))), (4, .ref (ad (3 + 1))), (0, .ref (ad 0)), (1, .int (nI 1)), (2, .int p1), (3, .int p2)]) hx hb d_SP_corner_112 hl (by decide) rfl (fun ls hl => ?_)
        refine lv_iload_n hx hb d_SP_corner_114 rfl (lv_at hl 9 rfl) ?_
        refine lv_if_ne (tgt := 138) hx hb d_SP_corner_115 (by decide) (fun c115_6 => ?_) (fun c115_6 => ?_)
        · refine lv_aload hx hb d_SP_corner_138 (lv_at hl 4 rfl) ?_
          refine va_get (D := g.1) (ci := 3) (v := .int (x.1 1 1)) (C := R_Po) (T := F_Po) (N := 5) hx hb hw i_Po hown hE.1 hP 11 rfl rfl 1 (by decide) (hw _ q_123) (fun _ h9 => h9) rfl d_SP_corner_140 ?_
          refine lv_iload hx hb d_SP_corner_143 (lv_at hl 1 rfl) ?_
          refine lv_iload hx hb d_SP_corner_145 (lv_at hl 2 rfl) ?_
          refine lv_imul hx hb d_SP_corner_147 ?_
          refine lv_iadd hx hb d_SP_corner_148 ?_
          refine lv_iload hx hb d_SP_corner_149 (lv_at hl 0 rfl) ?_
          refine lv_iload hx hb d_SP_corner_151 (lv_at hl 3 rfl) ?_
          refine lv_imul hx hb d_SP_corner_153 ?_
          refine lv_iadd hx hb d_SP_corner_154 ?_
          exact hret _ _ _ _ _ _ (by unfold cornerF alF acF; rw [if_neg c115_6, if_pos c70_1, if_neg c90_2, if_pos c95_4]) rfl hP hD hS d_SP_corner_155
        · refine lv_aload hx hb d_SP_corner_118 (lv_at hl 4 rfl) ?_
          refine va_get (D := g.1) (ci := 3) (v := .int (x.1 0 1)) (C := R_Po) (T := F_Po) (N := 5) hx hb hw i_Po hown hE.1 hP 11 rfl rfl 0 (by decide) (hw _ q_120) (fun _ h9 => h9) rfl d_SP_corner_120 ?_
          refine lv_iload hx hb d_SP_corner_123 (lv_at hl 1 rfl) ?_
          refine lv_iload hx hb d_SP_corner_125 (lv_at hl 3 rfl) ?_
          refine lv_imul hx hb d_SP_corner_127 ?_
          refine lv_iadd hx hb d_SP_corner_128 ?_
          refine lv_iload hx hb d_SP_corner_129 (lv_at hl 0 rfl) ?_
          refine lv_iload hx hb d_SP_corner_131 (lv_at hl 2 rfl) ?_
          refine lv_imul hx hb d_SP_corner_133 ?_
          refine lv_isub hx hb d_SP_corner_134 ?_
          refine lv_goto (tgt := 155) hx hb d_SP_corner_135 (by decide) ?_
          exact hret _ _ _ _ _ _ (by unfold cornerF alF acF; rw [if_pos c115_6, if_pos c70_1, if_neg c90_2, if_pos c95_4]) rfl hP hD hS d_SP_corner_155
  · refine lv_aload hx hb d_SP_corner_73 (lv_at hl 3 rfl) ?_
    refine va_get (D := g.1) (ci := 6) (v := .int (k.1 2 1)) (C := R_Sh) (T := F_Sh) (N := 5) hx hb hw i_Sh hown hE.1 hP 4 rfl rfl 2 (by decide) (hw _ q_44) (fun _ h9 => h9) rfl d_SP_corner_75 ?_
    refine lv_goto (tgt := 87) hx hb d_SP_corner_78 (by decide) ?_
    refine lv_istore (lv' := [(8, .int (k.1 2 1)), (7, .int (dY (x.1 2 1))), (6, .int (dX (x.1 2 1))), (5, .ref (ad (10 + 1))), (4, .ref (ad (3 + 1))), (0, .ref (ad 0)), (1, .int (nI 1)), (2, .int p1), (3, .int p2)]) hx hb d_SP_corner_87 hl (by decide) rfl (fun ls hl => ?_)
    refine lv_iload_n hx hb d_SP_corner_89 rfl (lv_at hl 7 rfl) ?_
    refine lv_if_eq (tgt := 98) hx hb d_SP_corner_90 (by decide) (fun c90_7 => ?_) (fun c90_7 => ?_)
    · refine lv_aload hx hb d_SP_corner_98 (lv_at hl 4 rfl) ?_
      refine va_get (D := g.1) (ci := 6) (v := .int (k.1 4 1)) (C := R_Sh) (T := F_Sh) (N := 5) hx hb hw i_Sh hown hE.1 hP 4 rfl rfl 4 (by decide) (hw _ q_50) (fun _ h9 => h9) rfl d_SP_corner_100 ?_
      refine lv_goto (tgt := 112) hx hb d_SP_corner_103 (by decide) ?_
      refine lv_istore (lv' := [(9, .int (k.1 4 1)), (8, .int (k.1 2 1)), (7, .int (dY (x.1 2 1))), (6, .int (dX (x.1 2 1))), (5, .ref (ad (10 + 1))), (4, .ref (ad (3 + 1))), (0, .ref (ad 0)), (1, .int (nI 1)), (2, .int p1), (3, .int p2)]) hx hb d_SP_corner_112 hl (by decide) rfl (fun ls hl => ?_)
      refine lv_iload_n hx hb d_SP_corner_114 rfl (lv_at hl 9 rfl) ?_
      refine lv_if_ne (tgt := 138) hx hb d_SP_corner_115 (by decide) (fun c115_8 => ?_) (fun c115_8 => ?_)
      · refine lv_aload hx hb d_SP_corner_138 (lv_at hl 4 rfl) ?_
        refine va_get (D := g.1) (ci := 3) (v := .int (x.1 1 1)) (C := R_Po) (T := F_Po) (N := 5) hx hb hw i_Po hown hE.1 hP 11 rfl rfl 1 (by decide) (hw _ q_123) (fun _ h9 => h9) rfl d_SP_corner_140 ?_
        refine lv_iload hx hb d_SP_corner_143 (lv_at hl 1 rfl) ?_
        refine lv_iload hx hb d_SP_corner_145 (lv_at hl 2 rfl) ?_
        refine lv_imul hx hb d_SP_corner_147 ?_
        refine lv_iadd hx hb d_SP_corner_148 ?_
        refine lv_iload hx hb d_SP_corner_149 (lv_at hl 0 rfl) ?_
        refine lv_iload hx hb d_SP_corner_151 (lv_at hl 3 rfl) ?_
        refine lv_imul hx hb d_SP_corner_153 ?_
        refine lv_iadd hx hb d_SP_corner_154 ?_
        exact hret _ _ _ _ _ _ (by unfold cornerF alF acF; rw [if_neg c115_8, if_neg c70_1, if_pos c90_7]) rfl hP hD hS d_SP_corner_155
      · refine lv_aload hx hb d_SP_corner_118 (lv_at hl 4 rfl) ?_
        refine va_get (D := g.1) (ci := 3) (v := .int (x.1 0 1)) (C := R_Po) (T := F_Po) (N := 5) hx hb hw i_Po hown hE.1 hP 11 rfl rfl 0 (by decide) (hw _ q_120) (fun _ h9 => h9) rfl d_SP_corner_120 ?_
        refine lv_iload hx hb d_SP_corner_123 (lv_at hl 1 rfl) ?_
        refine lv_iload hx hb d_SP_corner_125 (lv_at hl 3 rfl) ?_
        refine lv_imul hx hb d_SP_corner_127 ?_
        refine lv_iadd hx hb d_SP_corner_128 ?_
        refine lv_iload hx hb d_SP_corner_129 (lv_at hl 0 rfl) ?_
        refine lv_iload hx hb d_SP_corner_131 (lv_at hl 2 rfl) ?_
        refine lv_imul hx hb d_SP_corner_133 ?_
        refine lv_isub hx hb d_SP_corner_134 ?_
        refine lv_goto (tgt := 155) hx hb d_SP_corner_135 (by decide) ?_
        exact hret _ _ _ _ _ _ (by unfold cornerF alF acF; rw [if_pos c115_8, if_neg c70_1, if_pos c90_7]) rfl hP hD hS d_SP_corner_155
    · refine lv_iload_n hx hb d_SP_corner_93 rfl (lv_at hl 7 rfl) ?_
      refine lv_iconst (v := 3) hx hb d_SP_corner_94 (by decide) ?_
      refine lv_icmp_ne (tgt := 106) hx hb d_SP_corner_95 (by decide) (fun c95_9 => ?_) (fun c95_9 => ?_)
      · refine lv_aload hx hb d_SP_corner_106 (lv_at hl 4 rfl) ?_
        refine va_get (D := g.1) (ci := 6) (v := .int (k.1 4 1)) (C := R_Sh) (T := F_Sh) (N := 5) hx hb hw i_Sh hown hE.1 hP 4 rfl rfl 4 (by decide) (hw _ q_50) (fun _ h9 => h9) rfl d_SP_corner_108 ?_
        refine lv_ineg hx hb d_SP_corner_111 ?_
        refine lv_istore (lv' := [(9, .int (-(k.1 4 1))), (8, .int (k.1 2 1)), (7, .int (dY (x.1 2 1))), (6, .int (dX (x.1 2 1))), (5, .ref (ad (10 + 1))), (4, .ref (ad (3 + 1))), (0, .ref (ad 0)), (1, .int (nI 1)), (2, .int p1), (3, .int p2)]) hx hb d_SP_corner_112 hl (by decide) rfl (fun ls hl => ?_)
        refine lv_iload_n hx hb d_SP_corner_114 rfl (lv_at hl 9 rfl) ?_
        refine lv_if_ne (tgt := 138) hx hb d_SP_corner_115 (by decide) (fun c115_10 => ?_) (fun c115_10 => ?_)
        · refine lv_aload hx hb d_SP_corner_138 (lv_at hl 4 rfl) ?_
          refine va_get (D := g.1) (ci := 3) (v := .int (x.1 1 1)) (C := R_Po) (T := F_Po) (N := 5) hx hb hw i_Po hown hE.1 hP 11 rfl rfl 1 (by decide) (hw _ q_123) (fun _ h9 => h9) rfl d_SP_corner_140 ?_
          refine lv_iload hx hb d_SP_corner_143 (lv_at hl 1 rfl) ?_
          refine lv_iload hx hb d_SP_corner_145 (lv_at hl 2 rfl) ?_
          refine lv_imul hx hb d_SP_corner_147 ?_
          refine lv_iadd hx hb d_SP_corner_148 ?_
          refine lv_iload hx hb d_SP_corner_149 (lv_at hl 0 rfl) ?_
          refine lv_iload hx hb d_SP_corner_151 (lv_at hl 3 rfl) ?_
          refine lv_imul hx hb d_SP_corner_153 ?_
          refine lv_iadd hx hb d_SP_corner_154 ?_
          exact hret _ _ _ _ _ _ (by unfold cornerF alF acF; rw [if_neg c115_10, if_neg c70_1, if_neg c90_7, if_neg c95_9]) rfl hP hD hS d_SP_corner_155
        · refine lv_aload hx hb d_SP_corner_118 (lv_at hl 4 rfl) ?_
          refine va_get (D := g.1) (ci := 3) (v := .int (x.1 0 1)) (C := R_Po) (T := F_Po) (N := 5) hx hb hw i_Po hown hE.1 hP 11 rfl rfl 0 (by decide) (hw _ q_120) (fun _ h9 => h9) rfl d_SP_corner_120 ?_
          refine lv_iload hx hb d_SP_corner_123 (lv_at hl 1 rfl) ?_
          refine lv_iload hx hb d_SP_corner_125 (lv_at hl 3 rfl) ?_
          refine lv_imul hx hb d_SP_corner_127 ?_
          refine lv_iadd hx hb d_SP_corner_128 ?_
          refine lv_iload hx hb d_SP_corner_129 (lv_at hl 0 rfl) ?_
          refine lv_iload hx hb d_SP_corner_131 (lv_at hl 2 rfl) ?_
          refine lv_imul hx hb d_SP_corner_133 ?_
          refine lv_isub hx hb d_SP_corner_134 ?_
          refine lv_goto (tgt := 155) hx hb d_SP_corner_135 (by decide) ?_
          exact hret _ _ _ _ _ _ (by unfold cornerF alF acF; rw [if_pos c115_10, if_neg c70_1, if_neg c90_7, if_neg c95_9]) rfl hP hD hS d_SP_corner_155
      · refine lv_aload hx hb d_SP_corner_98 (lv_at hl 4 rfl) ?_
        refine va_get (D := g.1) (ci := 6) (v := .int (k.1 4 1)) (C := R_Sh) (T := F_Sh) (N := 5) hx hb hw i_Sh hown hE.1 hP 4 rfl rfl 4 (by decide) (hw _ q_50) (fun _ h9 => h9) rfl d_SP_corner_100 ?_
        refine lv_goto (tgt := 112) hx hb d_SP_corner_103 (by decide) ?_
        refine lv_istore (lv' := [(9, .int (k.1 4 1)), (8, .int (k.1 2 1)), (7, .int (dY (x.1 2 1))), (6, .int (dX (x.1 2 1))), (5, .ref (ad (10 + 1))), (4, .ref (ad (3 + 1))), (0, .ref (ad 0)), (1, .int (nI 1)), (2, .int p1), (3, .int p2)]) hx hb d_SP_corner_112 hl (by decide) rfl (fun ls hl => ?_)
        refine lv_iload_n hx hb d_SP_corner_114 rfl (lv_at hl 9 rfl) ?_
        refine lv_if_ne (tgt := 138) hx hb d_SP_corner_115 (by decide) (fun c115_11 => ?_) (fun c115_11 => ?_)
        · refine lv_aload hx hb d_SP_corner_138 (lv_at hl 4 rfl) ?_
          refine va_get (D := g.1) (ci := 3) (v := .int (x.1 1 1)) (C := R_Po) (T := F_Po) (N := 5) hx hb hw i_Po hown hE.1 hP 11 rfl rfl 1 (by decide) (hw _ q_123) (fun _ h9 => h9) rfl d_SP_corner_140 ?_
          refine lv_iload hx hb d_SP_corner_143 (lv_at hl 1 rfl) ?_
          refine lv_iload hx hb d_SP_corner_145 (lv_at hl 2 rfl) ?_
          refine lv_imul hx hb d_SP_corner_147 ?_
          refine lv_iadd hx hb d_SP_corner_148 ?_
          refine lv_iload hx hb d_SP_corner_149 (lv_at hl 0 rfl) ?_
          refine lv_iload hx hb d_SP_corner_151 (lv_at hl 3 rfl) ?_
          refine lv_imul hx hb d_SP_corner_153 ?_
          refine lv_iadd hx hb d_SP_corner_154 ?_
          exact hret _ _ _ _ _ _ (by unfold cornerF alF acF; rw [if_neg c115_11, if_neg c70_1, if_neg c90_7, if_pos c95_9]) rfl hP hD hS d_SP_corner_155
        · refine lv_aload hx hb d_SP_corner_118 (lv_at hl 4 rfl) ?_
          refine va_get (D := g.1) (ci := 3) (v := .int (x.1 0 1)) (C := R_Po) (T := F_Po) (N := 5) hx hb hw i_Po hown hE.1 hP 11 rfl rfl 0 (by decide) (hw _ q_120) (fun _ h9 => h9) rfl d_SP_corner_120 ?_
          refine lv_iload hx hb d_SP_corner_123 (lv_at hl 1 rfl) ?_
          refine lv_iload hx hb d_SP_corner_125 (lv_at hl 3 rfl) ?_
          refine lv_imul hx hb d_SP_corner_127 ?_
          refine lv_iadd hx hb d_SP_corner_128 ?_
          refine lv_iload hx hb d_SP_corner_129 (lv_at hl 0 rfl) ?_
          refine lv_iload hx hb d_SP_corner_131 (lv_at hl 2 rfl) ?_
          refine lv_imul hx hb d_SP_corner_133 ?_
          refine lv_isub hx hb d_SP_corner_134 ?_
          refine lv_goto (tgt := 155) hx hb d_SP_corner_135 (by decide) ?_
          exact hret _ _ _ _ _ _ (by unfold cornerF alF acF; rw [if_pos c115_11, if_neg c70_1, if_neg c90_7, if_pos c95_9]) rfl hP hD hS d_SP_corner_155
set_option maxHeartbeats 4000000 in
set_option maxRecDepth 100000 in
theorem c_SP_corner_0_2 (l : Launch) (g : Glob) (ad : Nat → Nat) (k : CFG) (x y : RS) (q : PLS) (p1 p2 : Int32) (v0 : inI (nI 2) 0 (k.2.1 0 - 1) = 1) (v1 : inI p1 0 3 = 1) (v2 : inI p2 0 1 = 1) : CI l g y_SP_corner b_SP_corner 10 (some .int) 8 162 [.ref (ad 0), .int (nI 2), .int p1, .int p2] (wS g ad k x y q) (cornerF k x 2 p1 p2) (wS g ad k x y q) := by
  refine CI.of .int rfl rfl (by decide +kernel) (Nat.le_of_ble_eq_true rfl) ?_
  intro p e s m below meth c A Q ls C hP hD hl hret hS
  obtain ⟨hx, hb, hml, hown, hw, hE, hA⟩ := id C
  have hl : lv_has ls 10 [(0, .ref (ad 0)), (1, .int (nI 2)), (2, .int p1), (3, .int p2)] := hl
  refine lv_iload_n hx hb d_SP_corner_0 rfl (lv_at hl 1 rfl) ?_
  refine lv_iconst (v := 0) hx hb d_SP_corner_1 (by decide) ?_
  refine lv_aload_n hx hb d_SP_corner_2 rfl (lv_at hl 0 rfl) ?_
  refine va_get (D := g.1) (ci := 0) (v := .ref (ad 1)) (C := R_SP) (T := F_SP) (N := 4) hx hb hw i_SP hown hE.1 hP 0 rfl rfl 0 (by decide) (hw _ q_214) (fun _ h9 => h9) rfl d_SP_corner_3 ?_
  refine va_get (D := g.1) (ci := 5) (v := .int (k.2.1 0)) (C := R_Se) (T := F_Se) (N := 9) hx hb hw i_Se hown hE.1 hP 1 rfl rfl 3 (by decide) (hw _ q_73) (fun _ h9 => h9) rfl d_SP_corner_6 ?_
  refine lv_iconst (v := 1) hx hb d_SP_corner_9 (by decide) ?_
  refine lv_isub hx hb d_SP_corner_10 ?_
  refine csU C v_SP_35 [.int (nI 2), .int 0, .int ((k.2.1 0) - 1)] [] (c_SP_demandWithin l g (nI 2) 0 ((k.2.1 0) - 1) v0) hP hS rfl rfl hl.1 (Nat.le_of_ble_eq_true rfl) ⟨Nat.le_of_ble_eq_true rfl, Nat.le_of_ble_eq_true rfl⟩ d_SP_corner_11 ⟨Nat.zero_le _, Nat.zero_le _⟩ (fun H locs hP hS => ?_)
  refine lv_iload_n hx hb d_SP_corner_14 rfl (lv_at hl 2 rfl) ?_
  refine lv_iconst (v := 0) hx hb d_SP_corner_15 (by decide) ?_
  refine lv_iconst (v := 3) hx hb d_SP_corner_16 (by decide) ?_
  refine csU C v_SP_35 [.int p1, .int 0, .int 3] [] (c_SP_demandWithin l g p1 0 3 v1) hP hS rfl rfl hl.1 (Nat.le_of_ble_eq_true rfl) ⟨Nat.le_of_ble_eq_true rfl, Nat.le_of_ble_eq_true rfl⟩ d_SP_corner_17 ⟨Nat.zero_le _, Nat.zero_le _⟩ (fun H locs hP hS => ?_)
  refine lv_iload_n hx hb d_SP_corner_20 rfl (lv_at hl 3 rfl) ?_
  refine lv_iconst (v := 0) hx hb d_SP_corner_21 (by decide) ?_
  refine lv_iconst (v := 1) hx hb d_SP_corner_22 (by decide) ?_
  refine csU C v_SP_35 [.int p2, .int 0, .int 1] [] (c_SP_demandWithin l g p2 0 1 v2) hP hS rfl rfl hl.1 (Nat.le_of_ble_eq_true rfl) ⟨Nat.le_of_ble_eq_true rfl, Nat.le_of_ble_eq_true rfl⟩ d_SP_corner_23 ⟨Nat.zero_le _, Nat.zero_le _⟩ (fun H locs hP hS => ?_)
  refine lv_aload_n hx hb d_SP_corner_26 rfl (lv_at hl 0 rfl) ?_
  refine va_get (D := g.1) (ci := 0) (v := .ref (ad 1)) (C := R_SP) (T := F_SP) (N := 4) hx hb hw i_SP hown hE.1 hP 0 rfl rfl 0 (by decide) (hw _ q_214) (fun _ h9 => h9) rfl d_SP_corner_27 ?_
  refine va_get (D := g.1) (ci := 5) (v := .ref (ad 2)) (C := R_Se) (T := F_Se) (N := 9) hx hb hw i_Se hown hE.1 hP 1 rfl rfl 0 (by decide) (hw _ q_64) (fun _ h9 => h9) rfl d_SP_corner_30 ?_
  refine lv_iload_n hx hb d_SP_corner_33 rfl (lv_at hl 1 rfl) ?_
  refine va_aldq hx hb hE.1 hP 2 3 rfl rfl (by unfold vp_in; decide) d_SP_corner_34 ?_
  rw [show ((nI 2) : Int32).toNatClampNeg = 2 from by decide]
  refine lv_astore (lv' := [(4, .ref (ad (3 + 2))), (0, .ref (ad 0)), (1, .int (nI 2)), (2, .int p1), (3, .int p2)]) hx hb d_SP_corner_35 hl (by decide) rfl (fun ls hl => ?_)
  refine lv_aload_n hx hb d_SP_corner_37 rfl (lv_at hl 1 rfl) ?_
  refine va_get (D := g.1) (ci := 0) (v := .ref (ad 8)) (C := R_SP) (T := F_SP) (N := 4) hx hb hw i_SP hown hE.1 hP 0 rfl rfl 1 (by decide) (hw _ q_215) (fun _ h9 => h9) rfl d_SP_corner_38 ?_
  refine va_get (D := g.1) (ci := 4) (v := .ref (ad 9)) (C := R_Ru) (T := F_Ru) (N := 8) hx hb hw i_Ru hown hE.1 hP 8 rfl rfl 0 (by decide) (hw _ q_157) (fun _ h9 => h9) rfl d_SP_corner_41 ?_
  refine lv_iload_n hx hb d_SP_corner_44 rfl (lv_at hl 2 rfl) ?_
  refine va_aldq hx hb hE.1 hP 9 4 rfl rfl (by unfold vp_in; decide) d_SP_corner_45 ?_
  rw [show ((nI 2) : Int32).toNatClampNeg = 2 from by decide]
  refine lv_astore (lv' := [(5, .ref (ad (10 + 2))), (4, .ref (ad (3 + 2))), (0, .ref (ad 0)), (1, .int (nI 2)), (2, .int p1), (3, .int p2)]) hx hb d_SP_corner_46 hl (by decide) rfl (fun ls hl => ?_)
  refine lv_aload hx hb d_SP_corner_48 (lv_at hl 0 rfl) ?_
  refine va_get (D := g.1) (ci := 3) (v := .int (x.1 2 2)) (C := R_Po) (T := F_Po) (N := 5) hx hb hw i_Po hown hE.1 hP 12 rfl rfl 2 (by decide) (hw _ q_126) (fun _ h9 => h9) rfl d_SP_corner_50 ?_
  refine csI C v_SP_132 [.int (x.1 2 2)] [] (c_Di_dx l g (x.1 2 2)) hP hS rfl rfl hl.1 (Nat.le_of_ble_eq_true rfl) ⟨Nat.le_of_ble_eq_true rfl, Nat.le_of_ble_eq_true rfl⟩ d_SP_corner_53 ⟨Nat.zero_le _, Nat.zero_le _⟩ (fun H locs hP hS => ?_)
  refine lv_istore (lv' := [(6, .int (dX (x.1 2 2))), (5, .ref (ad (10 + 2))), (4, .ref (ad (3 + 2))), (0, .ref (ad 0)), (1, .int (nI 2)), (2, .int p1), (3, .int p2)]) hx hb d_SP_corner_56 hl (by decide) rfl (fun ls hl => ?_)
  refine lv_aload hx hb d_SP_corner_58 (lv_at hl 1 rfl) ?_
  refine va_get (D := g.1) (ci := 3) (v := .int (x.1 2 2)) (C := R_Po) (T := F_Po) (N := 5) hx hb hw i_Po hown hE.1 hP 12 rfl rfl 2 (by decide) (hw _ q_126) (fun _ h9 => h9) rfl d_SP_corner_60 ?_
  refine csI C v_SP_135 [.int (x.1 2 2)] [] (c_Di_dy l g (x.1 2 2)) hP hS rfl rfl hl.1 (Nat.le_of_ble_eq_true rfl) ⟨Nat.le_of_ble_eq_true rfl, Nat.le_of_ble_eq_true rfl⟩ d_SP_corner_63 ⟨Nat.zero_le _, Nat.zero_le _⟩ (fun H locs hP hS => ?_)
  refine lv_istore (lv' := [(7, .int (dY (x.1 2 2))), (6, .int (dX (x.1 2 2))), (5, .ref (ad (10 + 2))), (4, .ref (ad (3 + 2))), (0, .ref (ad 0)), (1, .int (nI 2)), (2, .int p1), (3, .int p2)]) hx hb d_SP_corner_66 hl (by decide) rfl (fun ls hl => ?_)
  refine lv_iload_n hx hb d_SP_corner_68 rfl (lv_at hl 6 rfl) ?_
  refine lv_iconst (v := 1) hx hb d_SP_corner_69 (by decide) ?_
  refine lv_icmp_gt (tgt := 81) hx hb d_SP_corner_70 (by decide) (fun c70_1 => ?_) (fun c70_1 => ?_)
  · refine lv_aload hx hb d_SP_corner_81 (lv_at hl 3 rfl) ?_
    refine va_get (D := g.1) (ci := 6) (v := .int (k.1 3 2)) (C := R_Sh) (T := F_Sh) (N := 5) hx hb hw i_Sh hown hE.1 hP 5 rfl rfl 3 (by decide) (hw _ q_47) (fun _ h9 => h9) rfl d_SP_corner_83 ?_
    refine lv_ineg hx hb d_SP_corner_86 ?_
    refine lv_istore (lv' := [(8, .int (-(k.1 3 2))), (7, .int (dY (x.1 2 2))), (6, .int (dX (x.1 2 2))), (5, .ref (ad (10 + 2))), (4, .ref (ad (3 + 2))), (0, .ref (ad 0)), (1, .int (nI 2)), (2, .int p1), (3, .int p2)]) hx hb d_SP_corner_87 hl (by decide) rfl (fun ls hl => ?_)
    refine lv_iload_n hx hb d_SP_corner_89 rfl (lv_at hl 7 rfl) ?_
    refine lv_if_eq (tgt := 98) hx hb d_SP_corner_90 (by decide) (fun c90_2 => ?_) (fun c90_2 => ?_)
    · refine lv_aload hx hb d_SP_corner_98 (lv_at hl 4 rfl) ?_
      refine va_get (D := g.1) (ci := 6) (v := .int (k.1 4 2)) (C := R_Sh) (T := F_Sh) (N := 5) hx hb hw i_Sh hown hE.1 hP 5 rfl rfl 4 (by decide) (hw _ q_50) (fun _ h9 => h9) rfl d_SP_corner_100 ?_
      refine lv_goto (tgt := 112) hx hb d_SP_corner_103 (by decide) ?_
      refine lv_istore (lv' := [(9, .int (k.1 4 2)), (8, .int (-(k.1 3 2))), (7, .int (dY (x.1 2 2))), (6, .int (dX (x.1 2 2))), (5, .ref (ad (10 + 2))), (4, .ref (ad (3 + 2))), (0, .ref (ad 0)), (1, .int (nI 2)), (2, .int p1), (3, .int p2)]) hx hb d_SP_corner_112 hl (by decide) rfl (fun ls hl => ?_)
      refine lv_iload_n hx hb d_SP_corner_114 rfl (lv_at hl 9 rfl) ?_
      refine lv_if_ne (tgt := 138) hx hb d_SP_corner_115 (by decide) (fun c115_3 => ?_) (fun c115_3 => ?_)
      · refine lv_aload hx hb d_SP_corner_138 (lv_at hl 4 rfl) ?_
        refine va_get (D := g.1) (ci := 3) (v := .int (x.1 1 2)) (C := R_Po) (T := F_Po) (N := 5) hx hb hw i_Po hown hE.1 hP 12 rfl rfl 1 (by decide) (hw _ q_123) (fun _ h9 => h9) rfl d_SP_corner_140 ?_
        refine lv_iload hx hb d_SP_corner_143 (lv_at hl 1 rfl) ?_
        refine lv_iload hx hb d_SP_corner_145 (lv_at hl 2 rfl) ?_
        refine lv_imul hx hb d_SP_corner_147 ?_
        refine lv_iadd hx hb d_SP_corner_148 ?_
        refine lv_iload hx hb d_SP_corner_149 (lv_at hl 0 rfl) ?_
        refine lv_iload hx hb d_SP_corner_151 (lv_at hl 3 rfl) ?_
        refine lv_imul hx hb d_SP_corner_153 ?_
        refine lv_iadd hx hb d_SP_corner_154 ?_
        exact hret _ _ _ _ _ _ (by unfold cornerF alF acF; rw [if_neg c115_3, if_pos c70_1, if_pos c90_2]) rfl hP hD hS d_SP_corner_155
      · refine lv_aload hx hb d_SP_corner_118 (lv_at hl 4 rfl) ?_
        refine va_get (D := g.1) (ci := 3) (v := .int (x.1 0 2)) (C := R_Po) (T := F_Po) (N := 5) hx hb hw i_Po hown hE.1 hP 12 rfl rfl 0 (by decide) (hw _ q_120) (fun _ h9 => h9) rfl d_SP_corner_120 ?_
        refine lv_iload hx hb d_SP_corner_123 (lv_at hl 1 rfl) ?_
        refine lv_iload hx hb d_SP_corner_125 (lv_at hl 3 rfl) ?_
        refine lv_imul hx hb d_SP_corner_127 ?_
        refine lv_iadd hx hb d_SP_corner_128 ?_
        refine lv_iload hx hb d_SP_corner_129 (lv_at hl 0 rfl) ?_
        refine lv_iload hx hb d_SP_corner_131 (lv_at hl 2 rfl) ?_
        refine lv_imul hx hb d_SP_corner_133 ?_
        refine lv_isub hx hb d_SP_corner_134 ?_
        refine lv_goto (tgt := 155) hx hb d_SP_corner_135 (by decide) ?_
        exact hret _ _ _ _ _ _ (by unfold cornerF alF acF; rw [if_pos c115_3, if_pos c70_1, if_pos c90_2]) rfl hP hD hS d_SP_corner_155
    · refine lv_iload_n hx hb d_SP_corner_93 rfl (lv_at hl 7 rfl) ?_
      refine lv_iconst (v := 3) hx hb d_SP_corner_94 (by decide) ?_
      refine lv_icmp_ne (tgt := 106) hx hb d_SP_corner_95 (by decide) (fun c95_4 => ?_) (fun c95_4 => ?_)
      · refine lv_aload hx hb d_SP_corner_106 (lv_at hl 4 rfl) ?_
        refine va_get (D := g.1) (ci := 6) (v := .int (k.1 4 2)) (C := R_Sh) (T := F_Sh) (N := 5) hx hb hw i_Sh hown hE.1 hP 5 rfl rfl 4 (by decide) (hw _ q_50) (fun _ h9 => h9) rfl d_SP_corner_108 ?_
        refine lv_ineg hx hb d_SP_corner_111 ?_
        refine lv_istore (lv' := [(9, .int (-(k.1 4 2))), (8, .int (-(k.1 3 2))), (7, .int (dY (x.1 2 2))), (6, .int (dX (x.1 2 2))), (5, .ref (ad (10 + 2))), (4, .ref (ad (3 + 2))), (0, .ref (ad 0)), (1, .int (nI 2)), (2, .int p1), (3, .int p2)]) hx hb d_SP_corner_112 hl (by decide) rfl (fun ls hl => ?_)
        refine lv_iload_n hx hb d_SP_corner_114 rfl (lv_at hl 9 rfl) ?_
        refine lv_if_ne (tgt := 138) hx hb d_SP_corner_115 (by decide) (fun c115_5 => ?_) (fun c115_5 => ?_)
        · refine lv_aload hx hb d_SP_corner_138 (lv_at hl 4 rfl) ?_
          refine va_get (D := g.1) (ci := 3) (v := .int (x.1 1 2)) (C := R_Po) (T := F_Po) (N := 5) hx hb hw i_Po hown hE.1 hP 12 rfl rfl 1 (by decide) (hw _ q_123) (fun _ h9 => h9) rfl d_SP_corner_140 ?_
          refine lv_iload hx hb d_SP_corner_143 (lv_at hl 1 rfl) ?_
          refine lv_iload hx hb d_SP_corner_145 (lv_at hl 2 rfl) ?_
          refine lv_imul hx hb d_SP_corner_147 ?_
          refine lv_iadd hx hb d_SP_corner_148 ?_
          refine lv_iload hx hb d_SP_corner_149 (lv_at hl 0 rfl) ?_
          refine lv_iload hx hb d_SP_corner_151 (lv_at hl 3 rfl) ?_
          refine lv_imul hx hb d_SP_corner_153 ?_
          refine lv_iadd hx hb d_SP_corner_154 ?_
          exact hret _ _ _ _ _ _ (by unfold cornerF alF acF; rw [if_neg c115_5, if_pos c70_1, if_neg c90_2, if_neg c95_4]) rfl hP hD hS d_SP_corner_155
        · refine lv_aload hx hb d_SP_corner_118 (lv_at hl 4 rfl) ?_
          refine va_get (D := g.1) (ci := 3) (v := .int (x.1 0 2)) (C := R_Po) (T := F_Po) (N := 5) hx hb hw i_Po hown hE.1 hP 12 rfl rfl 0 (by decide) (hw _ q_120) (fun _ h9 => h9) rfl d_SP_corner_120 ?_
          refine lv_iload hx hb d_SP_corner_123 (lv_at hl 1 rfl) ?_
          refine lv_iload hx hb d_SP_corner_125 (lv_at hl 3 rfl) ?_
          refine lv_imul hx hb d_SP_corner_127 ?_
          refine lv_iadd hx hb d_SP_corner_128 ?_
          refine lv_iload hx hb d_SP_corner_129 (lv_at hl 0 rfl) ?_
          refine lv_iload hx hb d_SP_corner_131 (lv_at hl 2 rfl) ?_
          refine lv_imul hx hb d_SP_corner_133 ?_
          refine lv_isub hx hb d_SP_corner_134 ?_
          refine lv_goto (tgt := 155) hx hb d_SP_corner_135 (by decide) ?_
          exact hret _ _ _ _ _ _ (by unfold cornerF alF acF; rw [if_pos c115_5, if_pos c70_1, if_neg c90_2, if_neg c95_4]) rfl hP hD hS d_SP_corner_155
      · refine lv_aload hx hb d_SP_corner_98 (lv_at hl 4 rfl) ?_
        refine va_get (D := g.1) (ci := 6) (v := .int (k.1 4 2)) (C := R_Sh) (T := F_Sh) (N := 5) hx hb hw i_Sh hown hE.1 hP 5 rfl rfl 4 (by decide) (hw _ q_50) (fun _ h9 => h9) rfl d_SP_corner_100 ?_
        refine lv_goto (tgt := 112) hx hb d_SP_corner_103 (by decide) ?_
        refine lv_istore (lv' := [(9, .int (k.1 4 2)), (8, .int (-(k.1 3 2))), (7, .int (dY (x.1 2 2))), (6, .int (dX (x.1 2 2))), (5, .ref (ad (10 + 2))), (4, .ref (ad (3 + 2))), (0, .ref (ad 0)), (1, .int (nI 2)), (2, .int p1), (3, .int p2)]) hx hb d_SP_corner_112 hl (by decide) rfl (fun ls hl => ?_)
        refine lv_iload_n hx hb d_SP_corner_114 rfl (lv_at hl 9 rfl) ?_
        refine lv_if_ne (tgt := 138) hx hb d_SP_corner_115 (by decide) (fun c115_6 => ?_) (fun c115_6 => ?_)
        · refine lv_aload hx hb d_SP_corner_138 (lv_at hl 4 rfl) ?_
          refine va_get (D := g.1) (ci := 3) (v := .int (x.1 1 2)) (C := R_Po) (T := F_Po) (N := 5) hx hb hw i_Po hown hE.1 hP 12 rfl rfl 1 (by decide) (hw _ q_123) (fun _ h9 => h9) rfl d_SP_corner_140 ?_
          refine lv_iload hx hb d_SP_corner_143 (lv_at hl 1 rfl) ?_
          refine lv_iload hx hb d_SP_corner_145 (lv_at hl 2 rfl) ?_
          refine lv_imul hx hb d_SP_corner_147 ?_
          refine lv_iadd hx hb d_SP_corner_148 ?_
          refine lv_iload hx hb d_SP_corner_149 (lv_at hl 0 rfl) ?_
          refine lv_iload hx hb d_SP_corner_151 (lv_at hl 3 rfl) ?_
          refine lv_imul hx hb d_SP_corner_153 ?_
          refine lv_iadd hx hb d_SP_corner_154 ?_
          exact hret _ _ _ _ _ _ (by unfold cornerF alF acF; rw [if_neg c115_6, if_pos c70_1, if_neg c90_2, if_pos c95_4]) rfl hP hD hS d_SP_corner_155
        · refine lv_aload hx hb d_SP_corner_118 (lv_at hl 4 rfl) ?_
          refine va_get (D := g.1) (ci := 3) (v := .int (x.1 0 2)) (C := R_Po) (T := F_Po) (N := 5) hx hb hw i_Po hown hE.1 hP 12 rfl rfl 0 (by decide) (hw _ q_120) (fun _ h9 => h9) rfl d_SP_corner_120 ?_
          refine lv_iload hx hb d_SP_corner_123 (lv_at hl 1 rfl) ?_
          refine lv_iload hx hb d_SP_corner_125 (lv_at hl 3 rfl) ?_
          refine lv_imul hx hb d_SP_corner_127 ?_
          refine lv_iadd hx hb d_SP_corner_128 ?_
          refine lv_iload hx hb d_SP_corner_129 (lv_at hl 0 rfl) ?_
          refine lv_iload hx hb d_SP_corner_131 (lv_at hl 2 rfl) ?_
          refine lv_imul hx hb d_SP_corner_133 ?_
          refine lv_isub hx hb d_SP_corner_134 ?_
          refine lv_goto (tgt := 155) hx hb d_SP_corner_135 (by decide) ?_
          exact hret _ _ _ _ _ _ (by unfold cornerF alF acF; rw [if_pos c115_6, if_pos c70_1, if_neg c90_2, if_pos c95_4]) rfl hP hD hS d_SP_corner_155
  · refine lv_aload hx hb d_SP_corner_73 (lv_at hl 3 rfl) ?_
    refine va_get (D := g.1) (ci := 6) (v := .int (k.1 2 2)) (C := R_Sh) (T := F_Sh) (N := 5) hx hb hw i_Sh hown hE.1 hP 5 rfl rfl 2 (by decide) (hw _ q_44) (fun _ h9 => h9) rfl d_SP_corner_75 ?_
    refine lv_goto (tgt := 87) hx hb d_SP_corner_78 (by decide) ?_
    refine lv_istore (lv' := [(8, .int (k.1 2 2)), (7, .int (dY (x.1 2 2))), (6, .int (dX (x.1 2 2))), (5, .ref (ad (10 + 2))), (4, .ref (ad (3 + 2))), (0, .ref (ad 0)), (1, .int (nI 2)), (2, .int p1), (3, .int p2)]) hx hb d_SP_corner_87 hl (by decide) rfl (fun ls hl => ?_)
    refine lv_iload_n hx hb d_SP_corner_89 rfl (lv_at hl 7 rfl) ?_
    refine lv_if_eq (tgt := 98) hx hb d_SP_corner_90 (by decide) (fun c90_7 => ?_) (fun c90_7 => ?_)
    · refine lv_aload hx hb d_SP_corner_98 (lv_at hl 4 rfl) ?_
      refine va_get (D := g.1) (ci := 6) (v := .int (k.1 4 2)) (C := R_Sh) (T := F_Sh) (N := 5) hx hb hw i_Sh hown hE.1 hP 5 rfl rfl 4 (by decide) (hw _ q_50) (fun _ h9 => h9) rfl d_SP_corner_100 ?_
      refine lv_goto (tgt := 112) hx hb d_SP_corner_103 (by decide) ?_
      refine lv_istore (lv' := [(9, .int (k.1 4 2)), (8, .int (k.1 2 2)), (7, .int (dY (x.1 2 2))), (6, .int (dX (x.1 2 2))), (5, .ref (ad (10 + 2))), (4, .ref (ad (3 + 2))), (0, .ref (ad 0)), (1, .int (nI 2)), (2, .int p1), (3, .int p2)]) hx hb d_SP_corner_112 hl (by decide) rfl (fun ls hl => ?_)
      refine lv_iload_n hx hb d_SP_corner_114 rfl (lv_at hl 9 rfl) ?_
      refine lv_if_ne (tgt := 138) hx hb d_SP_corner_115 (by decide) (fun c115_8 => ?_) (fun c115_8 => ?_)
      · refine lv_aload hx hb d_SP_corner_138 (lv_at hl 4 rfl) ?_
        refine va_get (D := g.1) (ci := 3) (v := .int (x.1 1 2)) (C := R_Po) (T := F_Po) (N := 5) hx hb hw i_Po hown hE.1 hP 12 rfl rfl 1 (by decide) (hw _ q_123) (fun _ h9 => h9) rfl d_SP_corner_140 ?_
        refine lv_iload hx hb d_SP_corner_143 (lv_at hl 1 rfl) ?_
        refine lv_iload hx hb d_SP_corner_145 (lv_at hl 2 rfl) ?_
        refine lv_imul hx hb d_SP_corner_147 ?_
        refine lv_iadd hx hb d_SP_corner_148 ?_
        refine lv_iload hx hb d_SP_corner_149 (lv_at hl 0 rfl) ?_
        refine lv_iload hx hb d_SP_corner_151 (lv_at hl 3 rfl) ?_
        refine lv_imul hx hb d_SP_corner_153 ?_
        refine lv_iadd hx hb d_SP_corner_154 ?_
        exact hret _ _ _ _ _ _ (by unfold cornerF alF acF; rw [if_neg c115_8, if_neg c70_1, if_pos c90_7]) rfl hP hD hS d_SP_corner_155
      · refine lv_aload hx hb d_SP_corner_118 (lv_at hl 4 rfl) ?_
        refine va_get (D := g.1) (ci := 3) (v := .int (x.1 0 2)) (C := R_Po) (T := F_Po) (N := 5) hx hb hw i_Po hown hE.1 hP 12 rfl rfl 0 (by decide) (hw _ q_120) (fun _ h9 => h9) rfl d_SP_corner_120 ?_
        refine lv_iload hx hb d_SP_corner_123 (lv_at hl 1 rfl) ?_
        refine lv_iload hx hb d_SP_corner_125 (lv_at hl 3 rfl) ?_
        refine lv_imul hx hb d_SP_corner_127 ?_
        refine lv_iadd hx hb d_SP_corner_128 ?_
        refine lv_iload hx hb d_SP_corner_129 (lv_at hl 0 rfl) ?_
        refine lv_iload hx hb d_SP_corner_131 (lv_at hl 2 rfl) ?_
        refine lv_imul hx hb d_SP_corner_133 ?_
        refine lv_isub hx hb d_SP_corner_134 ?_
        refine lv_goto (tgt := 155) hx hb d_SP_corner_135 (by decide) ?_
        exact hret _ _ _ _ _ _ (by unfold cornerF alF acF; rw [if_pos c115_8, if_neg c70_1, if_pos c90_7]) rfl hP hD hS d_SP_corner_155
    · refine lv_iload_n hx hb d_SP_corner_93 rfl (lv_at hl 7 rfl) ?_
      refine lv_iconst (v := 3) hx hb d_SP_corner_94 (by decide) ?_
      refine lv_icmp_ne (tgt := 106) hx hb d_SP_corner_95 (by decide) (fun c95_9 => ?_) (fun c95_9 => ?_)
      · refine lv_aload hx hb d_SP_corner_106 (lv_at hl 4 rfl) ?_
        refine va_get (D := g.1) (ci := 6) (v := .int (k.1 4 2)) (C := R_Sh) (T := F_Sh) (N := 5) hx hb hw i_Sh hown hE.1 hP 5 rfl rfl 4 (by decide) (hw _ q_50) (fun _ h9 => h9) rfl d_SP_corner_108 ?_
        refine lv_ineg hx hb d_SP_corner_111 ?_
        refine lv_istore (lv' := [(9, .int (-(k.1 4 2))), (8, .int (k.1 2 2)), (7, .int (dY (x.1 2 2))), (6, .int (dX (x.1 2 2))), (5, .ref (ad (10 + 2))), (4, .ref (ad (3 + 2))), (0, .ref (ad 0)), (1, .int (nI 2)), (2, .int p1), (3, .int p2)]) hx hb d_SP_corner_112 hl (by decide) rfl (fun ls hl => ?_)
        refine lv_iload_n hx hb d_SP_corner_114 rfl (lv_at hl 9 rfl) ?_
        refine lv_if_ne (tgt := 138) hx hb d_SP_corner_115 (by decide) (fun c115_10 => ?_) (fun c115_10 => ?_)
        · refine lv_aload hx hb d_SP_corner_138 (lv_at hl 4 rfl) ?_
          refine va_get (D := g.1) (ci := 3) (v := .int (x.1 1 2)) (C := R_Po) (T := F_Po) (N := 5) hx hb hw i_Po hown hE.1 hP 12 rfl rfl 1 (by decide) (hw _ q_123) (fun _ h9 => h9) rfl d_SP_corner_140 ?_
          refine lv_iload hx hb d_SP_corner_143 (lv_at hl 1 rfl) ?_
          refine lv_iload hx hb d_SP_corner_145 (lv_at hl 2 rfl) ?_
          refine lv_imul hx hb d_SP_corner_147 ?_
          refine lv_iadd hx hb d_SP_corner_148 ?_
          refine lv_iload hx hb d_SP_corner_149 (lv_at hl 0 rfl) ?_
          refine lv_iload hx hb d_SP_corner_151 (lv_at hl 3 rfl) ?_
          refine lv_imul hx hb d_SP_corner_153 ?_
          refine lv_iadd hx hb d_SP_corner_154 ?_
          exact hret _ _ _ _ _ _ (by unfold cornerF alF acF; rw [if_neg c115_10, if_neg c70_1, if_neg c90_7, if_neg c95_9]) rfl hP hD hS d_SP_corner_155
        · refine lv_aload hx hb d_SP_corner_118 (lv_at hl 4 rfl) ?_
          refine va_get (D := g.1) (ci := 3) (v := .int (x.1 0 2)) (C := R_Po) (T := F_Po) (N := 5) hx hb hw i_Po hown hE.1 hP 12 rfl rfl 0 (by decide) (hw _ q_120) (fun _ h9 => h9) rfl d_SP_corner_120 ?_
          refine lv_iload hx hb d_SP_corner_123 (lv_at hl 1 rfl) ?_
          refine lv_iload hx hb d_SP_corner_125 (lv_at hl 3 rfl) ?_
          refine lv_imul hx hb d_SP_corner_127 ?_
          refine lv_iadd hx hb d_SP_corner_128 ?_
          refine lv_iload hx hb d_SP_corner_129 (lv_at hl 0 rfl) ?_
          refine lv_iload hx hb d_SP_corner_131 (lv_at hl 2 rfl) ?_
          refine lv_imul hx hb d_SP_corner_133 ?_
          refine lv_isub hx hb d_SP_corner_134 ?_
          refine lv_goto (tgt := 155) hx hb d_SP_corner_135 (by decide) ?_
          exact hret _ _ _ _ _ _ (by unfold cornerF alF acF; rw [if_pos c115_10, if_neg c70_1, if_neg c90_7, if_neg c95_9]) rfl hP hD hS d_SP_corner_155
      · refine lv_aload hx hb d_SP_corner_98 (lv_at hl 4 rfl) ?_
        refine va_get (D := g.1) (ci := 6) (v := .int (k.1 4 2)) (C := R_Sh) (T := F_Sh) (N := 5) hx hb hw i_Sh hown hE.1 hP 5 rfl rfl 4 (by decide) (hw _ q_50) (fun _ h9 => h9) rfl d_SP_corner_100 ?_
        refine lv_goto (tgt := 112) hx hb d_SP_corner_103 (by decide) ?_
        refine lv_istore (lv' := [(9, .int (k.1 4 2)), (8, .int (k.1 2 2)), (7, .int (dY (x.1 2 2))), (6, .int (dX (x.1 2 2))), (5, .ref (ad (10 + 2))), (4, .ref (ad (3 + 2))), (0, .ref (ad 0)), (1, .int (nI 2)), (2, .int p1), (3, .int p2)]) hx hb d_SP_corner_112 hl (by decide) rfl (fun ls hl => ?_)
        refine lv_iload_n hx hb d_SP_corner_114 rfl (lv_at hl 9 rfl) ?_
        refine lv_if_ne (tgt := 138) hx hb d_SP_corner_115 (by decide) (fun c115_11 => ?_) (fun c115_11 => ?_)
        · refine lv_aload hx hb d_SP_corner_138 (lv_at hl 4 rfl) ?_
          refine va_get (D := g.1) (ci := 3) (v := .int (x.1 1 2)) (C := R_Po) (T := F_Po) (N := 5) hx hb hw i_Po hown hE.1 hP 12 rfl rfl 1 (by decide) (hw _ q_123) (fun _ h9 => h9) rfl d_SP_corner_140 ?_
          refine lv_iload hx hb d_SP_corner_143 (lv_at hl 1 rfl) ?_
          refine lv_iload hx hb d_SP_corner_145 (lv_at hl 2 rfl) ?_
          refine lv_imul hx hb d_SP_corner_147 ?_
          refine lv_iadd hx hb d_SP_corner_148 ?_
          refine lv_iload hx hb d_SP_corner_149 (lv_at hl 0 rfl) ?_
          refine lv_iload hx hb d_SP_corner_151 (lv_at hl 3 rfl) ?_
          refine lv_imul hx hb d_SP_corner_153 ?_
          refine lv_iadd hx hb d_SP_corner_154 ?_
          exact hret _ _ _ _ _ _ (by unfold cornerF alF acF; rw [if_neg c115_11, if_neg c70_1, if_neg c90_7, if_pos c95_9]) rfl hP hD hS d_SP_corner_155
        · refine lv_aload hx hb d_SP_corner_118 (lv_at hl 4 rfl) ?_
          refine va_get (D := g.1) (ci := 3) (v := .int (x.1 0 2)) (C := R_Po) (T := F_Po) (N := 5) hx hb hw i_Po hown hE.1 hP 12 rfl rfl 0 (by decide) (hw _ q_120) (fun _ h9 => h9) rfl d_SP_corner_120 ?_
          refine lv_iload hx hb d_SP_corner_123 (lv_at hl 1 rfl) ?_
          refine lv_iload hx hb d_SP_corner_125 (lv_at hl 3 rfl) ?_
          refine lv_imul hx hb d_SP_corner_127 ?_
          refine lv_iadd hx hb d_SP_corner_128 ?_
          refine lv_iload hx hb d_SP_corner_129 (lv_at hl 0 rfl) ?_
          refine lv_iload hx hb d_SP_corner_131 (lv_at hl 2 rfl) ?_
          refine lv_imul hx hb d_SP_corner_133 ?_
          refine lv_isub hx hb d_SP_corner_134 ?_
          refine lv_goto (tgt := 155) hx hb d_SP_corner_135 (by decide) ?_
          exact hret _ _ _ _ _ _ (by unfold cornerF alF acF; rw [if_pos c115_11, if_neg c70_1, if_neg c90_7, if_pos c95_9]) rfl hP hD hS d_SP_corner_155
set_option maxHeartbeats 4000000 in
theorem c_SP_corner_0 (l : Launch) (g : Glob) (ad : Nat → Nat) (k : CFG) (x y : RS) (q : PLS) (b : Nat) (h3 : b < 3) (p1 p2 : Int32) (v0 : inI (nI b) 0 (k.2.1 0 - 1) = 1) (v1 : inI p1 0 3 = 1) (v2 : inI p2 0 1 = 1) : CI l g y_SP_corner b_SP_corner 10 (some .int) 8 162 [.ref (ad 0), .int (nI b), .int p1, .int p2] (wS g ad k x y q) (cornerF k x b p1 p2) (wS g ad k x y q) := by
  rcases (show b = 0 ∨ b = 1 ∨ b = 2 by omega) with rfl | rfl | rfl
  · exact c_SP_corner_0_0 l g ad k x y q p1 p2 v0 v1 v2
  · exact c_SP_corner_0_1 l g ad k x y q p1 p2 v0 v1 v2
  · exact c_SP_corner_0_2 l g ad k x y q p1 p2 v0 v1 v2
set_option maxHeartbeats 4000000 in
set_option maxRecDepth 100000 in
theorem c_SP_swept (l : Launch) (g : Glob) (ad : Nat → Nat) (k : CFG) (x y : RS) (q : PLS) : CI l g y_SP_swept b_SP_swept 1 (some .int) 0 0 [.ref (ad 0)] (wS g ad k x y q) (x.2.2.1) (wS g ad k x y q) := by
  refine CI.of .int rfl rfl (by decide +kernel) (Nat.le_of_ble_eq_true rfl) ?_
  intro p e s m below meth c A Q ls C hP hD hl hret hS
  obtain ⟨hx, hb, hml, hown, hw, hE, hA⟩ := id C
  have hl : lv_has ls 1 [(0, .ref (ad 0))] := hl
  refine lv_aload_n hx hb d_SP_swept_0 rfl (lv_at hl 0 rfl) ?_
  refine va_get (D := g.1) (ci := 0) (v := .ref (ad 8)) (C := R_SP) (T := F_SP) (N := 4) hx hb hw i_SP hown hE.1 hP 0 rfl rfl 1 (by decide) (hw _ q_215) (fun _ h9 => h9) rfl d_SP_swept_1 ?_
  refine va_get (D := g.1) (ci := 4) (v := .ref (ad 13)) (C := R_Ru) (T := F_Ru) (N := 8) hx hb hw i_Ru hown hE.1 hP 8 rfl rfl 1 (by decide) (hw _ q_159) (fun _ h9 => h9) rfl d_SP_swept_4 ?_
  refine va_get (D := g.1) (ci := 1) (v := .int x.2.2.1) (C := R_Ce) (T := F_Ce) (N := 2) hx hb hw i_Ce hown hE.1 hP 13 rfl rfl 1 (by decide) (hw _ q_149) (fun _ h9 => h9) rfl d_SP_swept_7 ?_
  exact hret _ _ _ _ _ _ rfl rfl hP hD hS d_SP_swept_10
set_option maxHeartbeats 4000000 in
set_option maxRecDepth 100000 in
theorem c_SP_isStuck (l : Launch) (g : Glob) (ad : Nat → Nat) (k : CFG) (x y : RS) (q : PLS) (hst : x.2.1 1 = 0 ∨ x.2.1 1 = 1) : CI l g y_SP_isStuck b_SP_isStuck 1 (some .boolean) 0 0 [.ref (ad 0)] (wS g ad k x y q) (x.2.1 1) (wS g ad k x y q) := by
  refine CI.of .boolean rfl (nar01 hst) (by decide +kernel) (Nat.le_of_ble_eq_true rfl) ?_
  intro p e s m below meth c A Q ls C hP hD hl hret hS
  obtain ⟨hx, hb, hml, hown, hw, hE, hA⟩ := id C
  have hl : lv_has ls 1 [(0, .ref (ad 0))] := hl
  refine lv_aload_n hx hb d_SP_isStuck_0 rfl (lv_at hl 0 rfl) ?_
  refine va_get (D := g.1) (ci := 0) (v := .ref (ad 8)) (C := R_SP) (T := F_SP) (N := 4) hx hb hw i_SP hown hE.1 hP 0 rfl rfl 1 (by decide) (hw _ q_215) (fun _ h9 => h9) rfl d_SP_isStuck_1 ?_
  refine va_get (D := g.1) (ci := 4) (v := .int (x.2.1 1)) (C := R_Ru) (T := F_Ru) (N := 8) hx hb hw i_Ru hown hE.1 hP 8 rfl rfl 3 (by decide) (hw _ q_163) (fun _ h9 => h9) rfl d_SP_isStuck_4 ?_
  exact hret _ _ _ _ _ _ rfl rfl hP hD hS d_SP_isStuck_7
set_option maxHeartbeats 4000000 in
set_option maxRecDepth 100000 in
theorem c_SP_cell_1 (l : Launch) (g : Glob) (hfl : l.flags = pinnedFlags ++ [noTraceFlag]) (ad : Nat → Nat) (k : CFG) (x y : RS) (q : PLS) (p0 p1 : Int32) (hbad : ¬ (inI p0 (-32) 31 = 1 ∧ inI p1 (-32) 31 = 1)) : CX l g y_SP_cell b_SP_cell 3 (some .boolean) 8 162 [.ref (ad 0), .int p0, .int p1] (wS g ad k x y q) R_IA := by
  refine CX.of (by decide +kernel) (Nat.le_of_ble_eq_true rfl) ?_
  intro p e s m below meth c A ls C htab hlocks hP hD hl hS
  obtain ⟨hx, hb, hml, hown, hw, hE, hA⟩ := id C
  have hH : ∀ x : Nat, x < s.heap.size → s.heap[x]? = s.heap[x]? := fun _ _ => rfl
  have hHs : s.heap.size ≤ s.heap.size := Nat.le_refl _
  have hl : lv_has ls 3 [(0, .ref (ad 0)), (1, .int p0), (2, .int p1)] := hl
  refine lv_iload_n hx hb d_SP_cell_0 rfl (lv_at hl 1 rfl) ?_
  refine lv_bipush (v := (-32)) hx hb d_SP_cell_1 (by decide) ?_
  refine lv_bipush (v := 31) hx hb d_SP_cell_3 (by decide) ?_
  by_cases v0 : inI p0 (-32) 31 = 1
  rotate_left
  · exact xsOut C htab hlocks v_SP_35 [.int p0, .int (-32), .int 31] [] (c_SP_demandWithin_x l g hfl p0 (-32) 31 v0) hH hHs rfl rfl hl.1 (Nat.le_of_ble_eq_true rfl) ⟨Nat.le_of_ble_eq_true rfl, Nat.le_of_ble_eq_true rfl⟩ ⟨Nat.le_refl _, Nat.le_refl _⟩ d_SP_cell_5
  refine csU0 C v_SP_35 [.int p0, .int (-32), .int 31] [] (c_SP_demandWithin l g p0 (-32) 31 v0) hP hH hHs rfl rfl hl.1 (Nat.le_of_ble_eq_true rfl) ⟨Nat.le_of_ble_eq_true rfl, Nat.le_of_ble_eq_true rfl⟩ d_SP_cell_5 ⟨Nat.zero_le _, Nat.zero_le _⟩ (fun H hP hH hHs => ?_)
  refine lv_iload_n hx hb d_SP_cell_8 rfl (lv_at hl 2 rfl) ?_
  refine lv_bipush (v := (-32)) hx hb d_SP_cell_9 (by decide) ?_
  refine lv_bipush (v := 31) hx hb d_SP_cell_11 (by decide) ?_
  by_cases v1 : inI p1 (-32) 31 = 1
  rotate_left
  · exact xsOut C htab hlocks v_SP_35 [.int p1, .int (-32), .int 31] [] (c_SP_demandWithin_x l g hfl p1 (-32) 31 v1) hH hHs rfl rfl hl.1 (Nat.le_of_ble_eq_true rfl) ⟨Nat.le_of_ble_eq_true rfl, Nat.le_of_ble_eq_true rfl⟩ ⟨Nat.le_refl _, Nat.le_refl _⟩ d_SP_cell_13
  exact absurd ⟨v0, v1⟩ hbad
set_option maxHeartbeats 4000000 in
set_option maxRecDepth 100000 in
theorem c_SP_cell_0 (l : Launch) (g : Glob) (ad : Nat → Nat) (k : CFG) (x y : RS) (q : PLS) (p0 p1 : Int32) (v0 : inI p0 (-32) 31 = 1) (v1 : inI p1 (-32) 31 = 1) : CI l g y_SP_cell b_SP_cell 3 (some .boolean) 8 162 [.ref (ad 0), .int p0, .int p1] (wS g ad k x y q) (hasI x.2.2.2 p0 p1) (wS g ad k x y q) := by
  refine CI.of .boolean rfl (nar01 (hasI_01 _ _ _)) (by decide +kernel) (Nat.le_of_ble_eq_true rfl) ?_
  intro p e s m below meth c A Q ls C hP hD hl hret hS
  obtain ⟨hx, hb, hml, hown, hw, hE, hA⟩ := id C
  have hl : lv_has ls 3 [(0, .ref (ad 0)), (1, .int p0), (2, .int p1)] := hl
  refine lv_iload_n hx hb d_SP_cell_0 rfl (lv_at hl 1 rfl) ?_
  refine lv_bipush (v := (-32)) hx hb d_SP_cell_1 (by decide) ?_
  refine lv_bipush (v := 31) hx hb d_SP_cell_3 (by decide) ?_
  refine csU C v_SP_35 [.int p0, .int (-32), .int 31] [] (c_SP_demandWithin l g p0 (-32) 31 v0) hP hS rfl rfl hl.1 (Nat.le_of_ble_eq_true rfl) ⟨Nat.le_of_ble_eq_true rfl, Nat.le_of_ble_eq_true rfl⟩ d_SP_cell_5 ⟨Nat.zero_le _, Nat.zero_le _⟩ (fun H locs hP hS => ?_)
  refine lv_iload_n hx hb d_SP_cell_8 rfl (lv_at hl 2 rfl) ?_
  refine lv_bipush (v := (-32)) hx hb d_SP_cell_9 (by decide) ?_
  refine lv_bipush (v := 31) hx hb d_SP_cell_11 (by decide) ?_
  refine csU C v_SP_35 [.int p1, .int (-32), .int 31] [] (c_SP_demandWithin l g p1 (-32) 31 v1) hP hS rfl rfl hl.1 (Nat.le_of_ble_eq_true rfl) ⟨Nat.le_of_ble_eq_true rfl, Nat.le_of_ble_eq_true rfl⟩ d_SP_cell_13 ⟨Nat.zero_le _, Nat.zero_le _⟩ (fun H locs hP hS => ?_)
  refine lv_aload_n hx hb d_SP_cell_16 rfl (lv_at hl 0 rfl) ?_
  refine va_get (D := g.1) (ci := 0) (v := .ref (ad 8)) (C := R_SP) (T := F_SP) (N := 4) hx hb hw i_SP hown hE.1 hP 0 rfl rfl 1 (by decide) (hw _ q_215) (fun _ h9 => h9) rfl d_SP_cell_17 ?_
  refine va_get (D := g.1) (ci := 4) (v := .ref (ad 13)) (C := R_Ru) (T := F_Ru) (N := 8) hx hb hw i_Ru hown hE.1 hP 8 rfl rfl 1 (by decide) (hw _ q_159) (fun _ h9 => h9) rfl d_SP_cell_20 ?_
  refine lv_iload_n hx hb d_SP_cell_23 rfl (lv_at hl 1 rfl) ?_
  refine lv_iload_n hx hb d_SP_cell_24 rfl (lv_at hl 2 rfl) ?_
  refine cvI C v_SP_147 [.int p0, .int p1] [] (c_Ce_has l g (ad 13) (ad 14) x.2.2 p0 p1) hP hD hS [13, 14] [0, 1, 2, 3, 4, 5, 6, 7, 8, 9, 10, 11, 12, 15, 16, 17, 18, 19, 20, 21, 22, 23, 24, 25, 26, 27, 28, 29, 30, 31, 32, 33, 34, 35, 36, 37, 38] [0, 1, 2, 3, 4, 5, 6, 7, 8, 9, 10, 11, 12, 37, 38, 13, 14, 15, 16, 17, 18, 19, 20, 21, 22, 23, 24, 25, 26, 27, 28, 29, 30, 31, 32, 33, 34, 35, 36] [((ad 0), .inr (0, [.ref (ad 1), .ref (ad 8), .ref (ad 15), .ref (ad 22)])), ((ad 1), .inr (5, [.ref (ad 2), .ref (ad 6), .ref (ad 7), .int (k.2.1 0), .int (k.2.1 1), .int (k.2.1 2), .int (k.2.1 3), .int (k.2.1 4), .int (k.2.1 5)])), ((ad 2), .inl (g.2.1 3, 3, .inr (.inr (.inr (.inr (fun j => [ad 3, ad 4, ad 5][j]?)))))), ((ad 3), .inr (6, [.int (k.1 0 0), .int (k.1 1 0), .int (k.1 2 0), .int (k.1 3 0), .int (k.1 4 0)])), ((ad 4), .inr (6, [.int (k.1 0 1), .int (k.1 1 1), .int (k.1 2 1), .int (k.1 3 1), .int (k.1 4 1)])), ((ad 5), .inr (6, [.int (k.1 0 2), .int (k.1 1 2), .int (k.1 2 2), .int (k.1 3 2), .int (k.1 4 2)])), ((ad 6), .inl (g.2.1 0, 20, .inl k.2.2.1)), ((ad 7), .inl (g.2.1 0, 20, .inl k.2.2.2)), ((ad 8), .inr (4, [.ref (ad 9), .ref (ad 13), .int (x.2.1 0), .int (x.2.1 1), .int (x.2.1 2), .int (x.2.1 3), .int (x.2.1 4), .ref (ad 1)])), ((ad 9), .inl (g.2.1 4, 3, .inr (.inr (.inr (.inr (fun j => [ad 10, ad 11, ad 12][j]?)))))), ((ad 10), .inr (3, [.int (x.1 0 0), .int (x.1 1 0), .int (x.1 2 0), .int (x.1 3 0), .int (x.1 4 0)])), ((ad 11), .inr (3, [.int (x.1 0 1), .int (x.1 1 1), .int (x.1 2 1), .int (x.1 3 1), .int (x.1 4 1)])), ((ad 12), .inr (3, [.int (x.1 0 2), .int (x.1 1 2), .int (x.1 2 2), .int (x.1 3 2), .int (x.1 4 2)])), ((ad 15), .inr (4, [.ref (ad 16), .ref (ad 20), .int (y.2.1 0), .int (y.2.1 1), .int (y.2.1 2), .int (y.2.1 3), .int (y.2.1 4), .ref (ad 1)])), ((ad 16), .inl (g.2.1 4, 3, .inr (.inr (.inr (.inr (fun j => [ad 17, ad 18, ad 19][j]?)))))), ((ad 17), .inr (3, [.int (y.1 0 0), .int (y.1 1 0), .int (y.1 2 0), .int (y.1 3 0), .int (y.1 4 0)])), ((ad 18), .inr (3, [.int (y.1 0 1), .int (y.1 1 1), .int (y.1 2 1), .int (y.1 3 1), .int (y.1 4 1)])), ((ad 19), .inr (3, [.int (y.1 0 2), .int (y.1 1 2), .int (y.1 2 2), .int (y.1 3 2), .int (y.1 4 2)])), ((ad 20), .inr (1, [.ref (ad 21), .int y.2.2.1])), ((ad 21), .inl (g.2.1 1, 64, .inr (.inl y.2.2.2))), ((ad 22), .inl (g.2.1 5, 4, .inr (.inr (.inr (.inr (fun j => [ad 23, ad 27, ad 31, ad 35][j]?)))))), ((ad 23), .inr (2, [.ref (ad 24), .ref (ad 25), .ref (ad 26), .int ((q 0).2.2.2)])), ((ad 24), .inl (g.2.1 0, 6, .inl ((q 0).1))), ((ad 25), .inl (g.2.1 0, 6, .inl ((q 0).2.1))), ((ad 26), .inl (g.2.1 2, 6, .inl ((q 0).2.2.1))), ((ad 27), .inr (2, [.ref (ad 28), .ref (ad 29), .ref (ad 30), .int ((q 1).2.2.2)])), ((ad 28), .inl (g.2.1 0, 6, .inl ((q 1).1))), ((ad 29), .inl (g.2.1 0, 6, .inl ((q 1).2.1))), ((ad 30), .inl (g.2.1 2, 6, .inl ((q 1).2.2.1))), ((ad 31), .inr (2, [.ref (ad 32), .ref (ad 33), .ref (ad 34), .int ((q 2).2.2.2)])), ((ad 32), .inl (g.2.1 0, 6, .inl ((q 2).1))), ((ad 33), .inl (g.2.1 0, 6, .inl ((q 2).2.1))), ((ad 34), .inl (g.2.1 2, 6, .inl ((q 2).2.2.1))), ((ad 35), .inr (2, [.ref (ad 36), .ref (ad 37), .ref (ad 38), .int ((q 3).2.2.2)])), ((ad 36), .inl (g.2.1 0, 6, .inl ((q 3).1))), ((ad 37), .inl (g.2.1 0, 6, .inl ((q 3).2.1))), ((ad 38), .inl (g.2.1 2, 6, .inl ((q 3).2.2.1)))] (wS g ad k x y q) rfl rfl (by decide) (by decide) (by decide) rfl (by decide) 0 rfl rfl rfl rfl hl.1 (Nat.le_of_ble_eq_true rfl) ⟨Nat.le_of_ble_eq_true rfl, Nat.le_of_ble_eq_true rfl⟩ d_SP_cell_25 ⟨Nat.zero_le _, Nat.zero_le _⟩ (fun H locs hP hD hS => ?_)
  exact hret _ _ _ _ _ _ rfl rfl hP hD hS d_SP_cell_28
set_option maxHeartbeats 4000000 in
set_option maxRecDepth 100000 in
theorem c_SP_clash_1 (l : Launch) (g : Glob) (hfl : l.flags = pinnedFlags ++ [noTraceFlag]) (ad : Nat → Nat) (k : CFG) (x y : RS) (q : PLS) (p0 : Int32) (hbad : ¬ (inI p0 0 2 = 1)) : CX l g y_SP_clash b_SP_clash 2 (some .int) 8 162 [.ref (ad 0), .int p0] (wS g ad k x y q) R_IA := by
  refine CX.of (by decide +kernel) (Nat.le_of_ble_eq_true rfl) ?_
  intro p e s m below meth c A ls C htab hlocks hP hD hl hS
  obtain ⟨hx, hb, hml, hown, hw, hE, hA⟩ := id C
  have hH : ∀ x : Nat, x < s.heap.size → s.heap[x]? = s.heap[x]? := fun _ _ => rfl
  have hHs : s.heap.size ≤ s.heap.size := Nat.le_refl _
  have hl : lv_has ls 2 [(0, .ref (ad 0)), (1, .int p0)] := hl
  refine lv_iload_n hx hb d_SP_clash_0 rfl (lv_at hl 1 rfl) ?_
  refine lv_iconst (v := 0) hx hb d_SP_clash_1 (by decide) ?_
  refine lv_iconst (v := 2) hx hb d_SP_clash_2 (by decide) ?_
  by_cases v0 : inI p0 0 2 = 1
  rotate_left
  · exact xsOut C htab hlocks v_SP_35 [.int p0, .int 0, .int 2] [] (c_SP_demandWithin_x l g hfl p0 0 2 v0) hH hHs rfl rfl hl.1 (Nat.le_of_ble_eq_true rfl) ⟨Nat.le_of_ble_eq_true rfl, Nat.le_of_ble_eq_true rfl⟩ ⟨Nat.le_refl _, Nat.le_refl _⟩ d_SP_clash_3
  exact absurd v0 hbad
set_option maxHeartbeats 4000000 in
set_option maxRecDepth 100000 in
theorem c_SP_clash_0 (l : Launch) (g : Glob) (ad : Nat → Nat) (k : CFG) (x y : RS) (q : PLS) (w : Nat) (hw3 : w < 3) (v0 : inI (nI w) 0 2 = 1) : CI l g y_SP_clash b_SP_clash 2 (some .int) 8 162 [.ref (ad 0), .int (nI w)] (wS g ad k x y q) (clashF x (nI w)) (wS g ad k x y q) := by
  refine CI.of .int rfl rfl (by decide +kernel) (Nat.le_of_ble_eq_true rfl) ?_
  intro p e s m below meth c A Q ls C hP hD hl hret hS
  obtain ⟨hx, hb, hml, hown, hw, hE, hA⟩ := id C
  have hl : lv_has ls 2 [(0, .ref (ad 0)), (1, .int (nI w))] := hl
  refine lv_iload_n hx hb d_SP_clash_0 rfl (lv_at hl 1 rfl) ?_
  refine lv_iconst (v := 0) hx hb d_SP_clash_1 (by decide) ?_
  refine lv_iconst (v := 2) hx hb d_SP_clash_2 (by decide) ?_
  refine csU C v_SP_35 [.int (nI w), .int 0, .int 2] [] (c_SP_demandWithin l g (nI w) 0 2 v0) hP hS rfl rfl hl.1 (Nat.le_of_ble_eq_true rfl) ⟨Nat.le_of_ble_eq_true rfl, Nat.le_of_ble_eq_true rfl⟩ d_SP_clash_3 ⟨Nat.zero_le _, Nat.zero_le _⟩ (fun H locs hP hS => ?_)
  refine lv_iload_n hx hb d_SP_clash_6 rfl (lv_at hl 1 rfl) ?_
  rcases (show w = 0 ∨ w = 1 ∨ w = 2 by omega) with rfl | rfl | rfl
  · refine lv_lookup (x := nI 0) (off := 25) (tgt := 32) hx hb d_SP_clash_7 (by decide) (by decide) (by decide) ?_
    refine lv_aload_n hx hb d_SP_clash_32 rfl (lv_at hl 0 rfl) ?_
    refine va_get (D := g.1) (ci := 0) (v := .ref (ad 8)) (C := R_SP) (T := F_SP) (N := 4) hx hb hw i_SP hown hE.1 hP 0 rfl rfl 1 (by decide) (hw _ q_215) (fun _ h9 => h9) rfl d_SP_clash_33 ?_
    refine va_get (D := g.1) (ci := 4) (v := .int (x.2.1 2)) (C := R_Ru) (T := F_Ru) (N := 8) hx hb hw i_Ru hown hE.1 hP 8 rfl rfl 4 (by decide) (hw _ q_165) (fun _ h9 => h9) rfl d_SP_clash_36 ?_
    exact hret _ _ _ _ _ _ ((if_pos rfl).symm) rfl hP hD hS d_SP_clash_39
  · refine lv_lookup (x := nI 1) (off := 33) (tgt := 40) hx hb d_SP_clash_7 (by decide) (by decide) (by decide) ?_
    refine lv_aload_n hx hb d_SP_clash_40 rfl (lv_at hl 0 rfl) ?_
    refine va_get (D := g.1) (ci := 0) (v := .ref (ad 8)) (C := R_SP) (T := F_SP) (N := 4) hx hb hw i_SP hown hE.1 hP 0 rfl rfl 1 (by decide) (hw _ q_215) (fun _ h9 => h9) rfl d_SP_clash_41 ?_
    refine va_get (D := g.1) (ci := 4) (v := .int (x.2.1 3)) (C := R_Ru) (T := F_Ru) (N := 8) hx hb hw i_Ru hown hE.1 hP 8 rfl rfl 5 (by decide) (hw _ q_167) (fun _ h9 => h9) rfl d_SP_clash_44 ?_
    exact hret _ _ _ _ _ _ (((if_neg (by decide)).trans (if_pos rfl)).symm) rfl hP hD hS d_SP_clash_47
  · refine lv_lookup (x := nI 2) (off := 41) (tgt := 48) hx hb d_SP_clash_7 (by decide) (by decide) (by decide) ?_
    refine lv_aload_n hx hb d_SP_clash_48 rfl (lv_at hl 0 rfl) ?_
    refine va_get (D := g.1) (ci := 0) (v := .ref (ad 8)) (C := R_SP) (T := F_SP) (N := 4) hx hb hw i_SP hown hE.1 hP 0 rfl rfl 1 (by decide) (hw _ q_215) (fun _ h9 => h9) rfl d_SP_clash_49 ?_
    refine va_get (D := g.1) (ci := 4) (v := .int (x.2.1 4)) (C := R_Ru) (T := F_Ru) (N := 8) hx hb hw i_Ru hown hE.1 hP 8 rfl rfl 6 (by decide) (hw _ q_169) (fun _ h9 => h9) rfl d_SP_clash_52 ?_
    exact hret _ _ _ _ _ _ (((if_neg (by decide)).trans (if_neg (by decide))).symm) rfl hP hD hS d_SP_clash_55
