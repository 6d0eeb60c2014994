/-! the reference's face -/
theorem nz1 {v : Int32} (h : v = 1) : ¬ v = 0 := by rw [h]; decide
theorem in1 {a b c : Int32} (h : ¬ inI a b c = 0) : inI a b c = 1 := by
  rcases inI_01 a b c with q | q
  · exact absurd q h
  · exact q
theorem lookB_it_s {n np : Nat} {x : MS} {f : Nat} (h1 : f ≠ 26) (h2 : f ≠ 27) (h3 : f ≠ 28) (h4 : f ≠ 29) : (itF (lookB np) n 0 x).1 f = x.1 f := itF_all (P := fun y : MS => y.1 f = x.1 f) (fun i y hy => (lookB_s h1 h2 h3 h4).trans hy) rfl
theorem begM_s {n np : Nat} {x : MS} {f : Nat} (h : f < 24) : (begM n np x).1 f = x.1 f := by
  unfold begM
  rw [lookB_it_s (by omega) (by omega) (by omega) (by omega)]
  have h2 : (itF (bgB n) 3 0 (bgS x.1, bgA0 x.1 x.2)).1 = bgS x.1 := itF_all (P := fun y : MS => y.1 = bgS x.1) (fun i y hy => hy) rfl
  rw [h2]
  unfold bgS
  rw [pk_un (by omega), pk_un (by omega), pk_un (by omega), pk_un (by omega), pk_un (by omega), pk_un (by omega)]
theorem add_sub1 (v : Int32) : v + 1 - 1 = v := by
  apply Int32.toBitVec_inj.mp
  rw [Int32.toBitVec_sub, Int32.toBitVec_add]
  exact BitVec.add_sub_cancel _ _
def bodyA (n : Nat) (p0 p1 p2 p3 p4 : Int32) (a : St2) : St2 := u2 (u2 (u2 (u2 (u2 a 2 n p0) 3 n p1) 4 n p2) 5 n p3) 6 n p4
def bodyM (n np : Nat) (p0 p1 p2 p3 p4 : Int32) (x : MS) : MS := begM (n + 1) np (upd (upd x.1 0 0) 2 (x.1 2 + 1), bodyA n p0 p1 p2 p3 p4 x.2)
def startM (n np : Nat) (p0 p1 p2 : Int32) (x : MS) : MS := begM n np (upd (upd (upd (upd x.1 0 0) 8 p0) 9 p1) 10 p2, x.2)
def stepM (n np : Nat) (p0 : Int32) (x : MS) : MS := begM n np (upd (upd x.1 0 0) 11 p0, x.2)
def poleM (np : Nat) (p0 p1 : Int32) (x : MS) : MS := (upd (upd x.1 0 0) 12 (x.1 12 + 1), u2 (u2 x.2 7 np p0) 8 np p1)
def partM (pl m : Nat) (p1 p2 p3 : Int32) (x : MS) : MS := (upd x.1 0 0, u2 (u2 (u2 (u2 x.2 10 (6 * pl + m) p1) 11 (6 * pl + m) p2) 12 (6 * pl + m) p3) 9 pl (x.2 9 pl + 1))
def clearM (pl : Nat) (x : MS) : MS := (upd x.1 0 0, u2 x.2 9 pl 0)
def toldM (x : MS) (b : Nat) (w : Int32) : Int32 := if 2 ≤ w then (if w = 2 then x.2 15 b else if w = 3 then askF (poM x.2) b else x.2 17 b) else if w = 0 then x.2 13 b else x.2 14 b
def alM (x : MS) (b : Nat) (k : Int32) : Int32 := if 2 ≤ k then -(x.2 5 b) else x.2 4 b
def acM (x : MS) (b : Nat) (k : Int32) : Int32 := if k = 0 then x.2 6 b else if k = 3 then x.2 6 b else -(x.2 6 b)
def cornerM (x : MS) (b : Nat) (k axis : Int32) : Int32 := if axis = 0 then x.2 13 b + alM x b k * dX (x.2 15 b) - acM x b k * dY (x.2 15 b) else x.2 14 b + alM x b k * dY (x.2 15 b) + acM x b k * dX (x.2 15 b)
def clashM (x : MS) (w : Int32) : Int32 := if w = 0 then x.1 26 else if w = 1 then x.1 27 else x.1 28
def cellM (x : MS) (i j : Int32) : Int32 := if x.2 18 (atI i j).toNatClampNeg = 0 then 0 else 1
theorem cellM_01 (x : MS) (i j : Int32) : cellM x i j = 0 ∨ cellM x i j = 1 := by
  unfold cellM
  split <;> simp
theorem inI_b {a b c : Int32} (h : inI a b c = 1) : b.toInt ≤ a.toInt ∧ a.toInt ≤ c.toInt := by
  unfold inI at h
  split at h
  · exact absurd h (by decide)
  · next h1 =>
    split at h
    · exact absurd h (by decide)
    · next h2 =>
      rw [i32_lt] at h1 h2
      omega
theorem in_nI {a : Int32} {M : Nat} (h0 : 0 ≤ a.toInt) (h1 : a.toInt < M) (hM : M < 2 ^ 31) : ∃ j : Nat, j < M ∧ a = nI j := by
  refine ⟨a.toInt.toNat, by omega, ?_⟩
  apply Int32.toInt_inj.mp
  rw [nI_toInt (by omega)]
  omega
theorem mul6 {pl m : Nat} : (6 : Int32) * nI pl + nI m = nI (6 * pl + m) := by
  rw [show (6 : Int32) = nI 6 from rfl, pk_mul, nI_add]
theorem vpn01 {v : Int32} (h : v = 0 ∨ v = 1) : vp_nar .boolean v = v := by
  rcases h with rfl | rfl <;> rfl
theorem clN {a : Int32} {n : Nat} (h : a = nI n) (hn : n < 2 ^ 31) : a.toNatClampNeg = n := by rw [h, nI_clamp hn]
theorem inN {a : Int32} {n N : Nat} (h : a = nI n) (hn : n < N) (hN : N < 2 ^ 31) : vp_in a N := by rw [h]; exact vp_in_nI hn hN

set_option maxHeartbeats 4000000 in
set_option maxRecDepth 100000 in
theorem c_Mo_thrown (l : Launch) (g : Glob) (ad : Nat → Nat) (x : MS) : CI l g y_Mo_thrown b_Mo_thrown 1 (some .int) 0 0 [.ref (ad 0)] (wM g ad x) (x.1 0) (wM g ad x) := by
  refine CI.of .int rfl rfl (by decide +kernel) (Nat.le_of_ble_eq_true rfl) ?_
  intro p e s m below meth c A Q ls C hP hD hl hret hS
  obtain ⟨hx, hb, hml, hown, hw, hE, hA⟩ := id C
  have hl : lv_has ls 1 [(0, .ref (ad 0))] := hl
  refine lv_aload_n hx hb d_Mo_thrown_0 rfl (lv_at hl 0 rfl) ?_
  refine get_mi (x := x) C 0 q_550 rfl (by decide) rfl (x.1 0) rfl hP d_Mo_thrown_1 ?_
  exact hret _ _ _ _ _ _ rfl rfl hP hD hS d_Mo_thrown_4
set_option maxHeartbeats 4000000 in
set_option maxRecDepth 100000 in
theorem c_Mo_swept (l : Launch) (g : Glob) (ad : Nat → Nat) (x : MS) : CI l g y_Mo_swept b_Mo_swept 1 (some .int) 0 0 [.ref (ad 0)] (wM g ad x) (x.1 29) (wM g ad (upd x.1 0 0, x.2)) := by
  refine CI.of .int rfl rfl (by decide +kernel) (Nat.le_of_ble_eq_true rfl) ?_
  intro p e s m below meth c A Q ls C hP hD hl hret hS
  obtain ⟨hx, hb, hml, hown, hw, hE, hA⟩ := id C
  have hl : lv_has ls 1 [(0, .ref (ad 0))] := hl
  refine lv_aload_n hx hb d_Mo_swept_0 rfl (lv_at hl 0 rfl) ?_
  refine lv_iconst (v := 0) hx hb d_Mo_swept_1 (by decide) ?_
  refine put_ms C 0 (ty := .int) q_550 rfl (by decide) rfl (by decide +kernel) rfl rfl wM_s0 hP hD hS d_Mo_swept_2 (fun H locs hP hD hS => ?_)
  refine lv_aload_n hx hb d_Mo_swept_5 rfl (lv_at hl 0 rfl) ?_
  refine get_mi (x := ((upd x.1 0 0), x.2)) C 29 q_579 rfl (by decide) rfl (x.1 29) (pk_un (f := x.1) (k := 0) (x := 0) (j := 29) (by decide)) hP d_Mo_swept_6 ?_
  exact hret _ _ _ _ _ _ rfl rfl hP hD hS d_Mo_swept_9
set_option maxHeartbeats 4000000 in
set_option maxRecDepth 100000 in
theorem c_Mo_isStuck (l : Launch) (g : Glob) (ad : Nat → Nat) (x : MS) (hst : x.1 25 = 0 ∨ x.1 25 = 1) : CI l g y_Mo_isStuck b_Mo_isStuck 1 (some .boolean) 0 0 [.ref (ad 0)] (wM g ad x) (x.1 25) (wM g ad (upd x.1 0 0, x.2)) := by
  refine CI.of .boolean rfl (nar01 hst) (by decide +kernel) (Nat.le_of_ble_eq_true rfl) ?_
  intro p e s m below meth c A Q ls C hP hD hl hret hS
  obtain ⟨hx, hb, hml, hown, hw, hE, hA⟩ := id C
  have hl : lv_has ls 1 [(0, .ref (ad 0))] := hl
  refine lv_aload_n hx hb d_Mo_isStuck_0 rfl (lv_at hl 0 rfl) ?_
  refine lv_iconst (v := 0) hx hb d_Mo_isStuck_1 (by decide) ?_
  refine put_ms C 0 (ty := .int) q_550 rfl (by decide) rfl (by decide +kernel) rfl rfl wM_s0 hP hD hS d_Mo_isStuck_2 (fun H locs hP hD hS => ?_)
  refine lv_aload_n hx hb d_Mo_isStuck_5 rfl (lv_at hl 0 rfl) ?_
  refine get_mi (x := ((upd x.1 0 0), x.2)) C 25 q_575 rfl (by decide) rfl (x.1 25) (pk_un (f := x.1) (k := 0) (x := 0) (j := 25) (by decide)) hP d_Mo_isStuck_6 ?_
  exact hret _ _ _ _ _ _ rfl rfl hP hD hS d_Mo_isStuck_9
set_option maxHeartbeats 4000000 in
set_option maxRecDepth 100000 in
theorem c_Mo_body_1 (l : Launch) (g : Glob) (ad : Nat → Nat) (x : MS) (p0 p1 p2 p3 p4 : Int32) (hbad : ¬ (inI p0 1 200 = 1 ∧ inI p1 0 200 = 1 ∧ inI p2 0 60 = 1 ∧ inI p3 0 60 = 1 ∧ inI p4 1 20 = 1)) : CI l g y_Mo_body b_Mo_body 7 (some .int) 5 127 [.ref (ad 0), .int p0, .int p1, .int p2, .int p3, .int p4] (wM g ad x) (0) (wM g ad (upd x.1 0 1, x.2)) := by
  refine CI.of .int rfl rfl (by decide +kernel) (Nat.le_of_ble_eq_true rfl) ?_
  intro p e s m below meth c A Q ls C hP hD hl hret hS
  obtain ⟨hx, hb, hml, hown, hw, hE, hA⟩ := id C
  have hl : lv_has ls 7 [(0, .ref (ad 0)), (1, .int p0), (2, .int p1), (3, .int p2), (4, .int p3), (5, .int p4)] := hl
  refine lv_iload_n hx hb d_Mo_body_0 rfl (lv_at hl 1 rfl) ?_
  refine lv_iconst (v := 1) hx hb d_Mo_body_1 (by decide) ?_
  refine lv_sipush (v := 200) hx hb d_Mo_body_2 (by decide) ?_
  refine csI C v_Mo_152 [.int p0, .int 1, .int 200] [] (c_Mo_in l g p0 1 200) hP hS rfl rfl hl.1 (Nat.le_of_ble_eq_true rfl) ⟨Nat.le_of_ble_eq_true rfl, Nat.le_of_ble_eq_true rfl⟩ d_Mo_body_5 ⟨Nat.zero_le _, Nat.zero_le _⟩ (fun H locs hP hS => ?_)
  refine lv_if_eq (tgt := 58) hx hb d_Mo_body_8 (by decide) (fun c8_1 => ?_) (fun c8_1 => ?_)
  · refine lv_iconst (v := 0) hx hb d_Mo_body_58 (by decide) ?_
    refine lv_istore (lv' := [(6, .int 0), (0, .ref (ad 0)), (1, .int p0), (2, .int p1), (3, .int p2), (4, .int p3), (5, .int p4)]) hx hb d_Mo_body_59 hl (by decide) rfl (fun ls hl => ?_)
    refine lv_aload_n hx hb d_Mo_body_61 rfl (lv_at hl 1 rfl) ?_
    refine lv_iload hx hb d_Mo_body_62 (lv_at hl 0 rfl) ?_
    refine lv_if_ne (tgt := 71) hx hb d_Mo_body_64 (by decide) (fun c64_2 => ?_) (fun c64_2 => ?_)
    · exact absurd c64_2 (by decide)
    refine lv_iconst (v := 1) hx hb d_Mo_body_67 (by decide) ?_
    refine lv_goto (tgt := 84) hx hb d_Mo_body_68 (by decide) ?_
    refine put_ms C 0 (ty := .int) q_550 rfl (by decide) rfl (by decide +kernel) rfl rfl wM_s0 hP hD hS d_Mo_body_84 (fun H locs hP hD hS => ?_)
    refine lv_aload_n hx hb d_Mo_body_87 rfl (lv_at hl 1 rfl) ?_
    refine get_mi (x := ((upd x.1 0 1), x.2)) C 0 q_550 rfl (by decide) rfl 1 (pk_us (f := x.1) (k := 0) (x := 1)) hP d_Mo_body_88 ?_
    refine lv_if_le (tgt := 96) hx hb d_Mo_body_91 (by decide) (fun c91_3 => ?_) (fun c91_3 => ?_)
    · exact absurd c91_3 (by decide)
    refine lv_iconst (v := 0) hx hb d_Mo_body_94 (by decide) ?_
    exact hret _ _ _ _ _ _ rfl rfl hP hD hS d_Mo_body_95
  · refine lv_iload_n hx hb d_Mo_body_11 rfl (lv_at hl 2 rfl) ?_
    refine lv_iconst (v := 0) hx hb d_Mo_body_12 (by decide) ?_
    refine lv_sipush (v := 200) hx hb d_Mo_body_13 (by decide) ?_
    refine csI C v_Mo_152 [.int p1, .int 0, .int 200] [] (c_Mo_in l g p1 0 200) hP hS rfl rfl hl.1 (Nat.le_of_ble_eq_true rfl) ⟨Nat.le_of_ble_eq_true rfl, Nat.le_of_ble_eq_true rfl⟩ d_Mo_body_16 ⟨Nat.zero_le _, Nat.zero_le _⟩ (fun H locs hP hS => ?_)
    refine lv_if_eq (tgt := 58) hx hb d_Mo_body_19 (by decide) (fun c19_4 => ?_) (fun c19_4 => ?_)
    · refine lv_iconst (v := 0) hx hb d_Mo_body_58 (by decide) ?_
      refine lv_istore (lv' := [(6, .int 0), (0, .ref (ad 0)), (1, .int p0), (2, .int p1), (3, .int p2), (4, .int p3), (5, .int p4)]) hx hb d_Mo_body_59 hl (by decide) rfl (fun ls hl => ?_)
      refine lv_aload_n hx hb d_Mo_body_61 rfl (lv_at hl 1 rfl) ?_
      refine lv_iload hx hb d_Mo_body_62 (lv_at hl 0 rfl) ?_
      refine lv_if_ne (tgt := 71) hx hb d_Mo_body_64 (by decide) (fun c64_5 => ?_) (fun c64_5 => ?_)
      · exact absurd c64_5 (by decide)
      refine lv_iconst (v := 1) hx hb d_Mo_body_67 (by decide) ?_
      refine lv_goto (tgt := 84) hx hb d_Mo_body_68 (by decide) ?_
      refine put_ms C 0 (ty := .int) q_550 rfl (by decide) rfl (by decide +kernel) rfl rfl wM_s0 hP hD hS d_Mo_body_84 (fun H locs hP hD hS => ?_)
      refine lv_aload_n hx hb d_Mo_body_87 rfl (lv_at hl 1 rfl) ?_
      refine get_mi (x := ((upd x.1 0 1), x.2)) C 0 q_550 rfl (by decide) rfl 1 (pk_us (f := x.1) (k := 0) (x := 1)) hP d_Mo_body_88 ?_
      refine lv_if_le (tgt := 96) hx hb d_Mo_body_91 (by decide) (fun c91_6 => ?_) (fun c91_6 => ?_)
      · exact absurd c91_6 (by decide)
      refine lv_iconst (v := 0) hx hb d_Mo_body_94 (by decide) ?_
      exact hret _ _ _ _ _ _ rfl rfl hP hD hS d_Mo_body_95
    · refine lv_iload_n hx hb d_Mo_body_22 rfl (lv_at hl 3 rfl) ?_
      refine lv_iconst (v := 0) hx hb d_Mo_body_23 (by decide) ?_
      refine lv_bipush (v := 60) hx hb d_Mo_body_24 (by decide) ?_
      refine csI C v_Mo_152 [.int p2, .int 0, .int 60] [] (c_Mo_in l g p2 0 60) hP hS rfl rfl hl.1 (Nat.le_of_ble_eq_true rfl) ⟨Nat.le_of_ble_eq_true rfl, Nat.le_of_ble_eq_true rfl⟩ d_Mo_body_26 ⟨Nat.zero_le _, Nat.zero_le _⟩ (fun H locs hP hS => ?_)
      refine lv_if_eq (tgt := 58) hx hb d_Mo_body_29 (by decide) (fun c29_7 => ?_) (fun c29_7 => ?_)
      · refine lv_iconst (v := 0) hx hb d_Mo_body_58 (by decide) ?_
        refine lv_istore (lv' := [(6, .int 0), (0, .ref (ad 0)), (1, .int p0), (2, .int p1), (3, .int p2), (4, .int p3), (5, .int p4)]) hx hb d_Mo_body_59 hl (by decide) rfl (fun ls hl => ?_)
        refine lv_aload_n hx hb d_Mo_body_61 rfl (lv_at hl 1 rfl) ?_
        refine lv_iload hx hb d_Mo_body_62 (lv_at hl 0 rfl) ?_
        refine lv_if_ne (tgt := 71) hx hb d_Mo_body_64 (by decide) (fun c64_8 => ?_) (fun c64_8 => ?_)
        · exact absurd c64_8 (by decide)
        refine lv_iconst (v := 1) hx hb d_Mo_body_67 (by decide) ?_
        refine lv_goto (tgt := 84) hx hb d_Mo_body_68 (by decide) ?_
        refine put_ms C 0 (ty := .int) q_550 rfl (by decide) rfl (by decide +kernel) rfl rfl wM_s0 hP hD hS d_Mo_body_84 (fun H locs hP hD hS => ?_)
        refine lv_aload_n hx hb d_Mo_body_87 rfl (lv_at hl 1 rfl) ?_
        refine get_mi (x := ((upd x.1 0 1), x.2)) C 0 q_550 rfl (by decide) rfl 1 (pk_us (f := x.1) (k := 0) (x := 1)) hP d_Mo_body_88 ?_
        refine lv_if_le (tgt := 96) hx hb d_Mo_body_91 (by decide) (fun c91_9 => ?_) (fun c91_9 => ?_)
        · exact absurd c91_9 (by decide)
        refine lv_iconst (v := 0) hx hb d_Mo_body_94 (by decide) ?_
        exact hret _ _ _ _ _ _ rfl rfl hP hD hS d_Mo_body_95
      · refine lv_iload hx hb d_Mo_body_32 (lv_at hl 4 rfl) ?_
        refine lv_iconst (v := 0) hx hb d_Mo_body_34 (by decide) ?_
        refine lv_bipush (v := 60) hx hb d_Mo_body_35 (by decide) ?_
        refine csI C v_Mo_152 [.int p3, .int 0, .int 60] [] (c_Mo_in l g p3 0 60) hP hS rfl rfl hl.1 (Nat.le_of_ble_eq_true rfl) ⟨Nat.le_of_ble_eq_true rfl, Nat.le_of_ble_eq_true rfl⟩ d_Mo_body_37 ⟨Nat.zero_le _, Nat.zero_le _⟩ (fun H locs hP hS => ?_)
        refine lv_if_eq (tgt := 58) hx hb d_Mo_body_40 (by decide) (fun c40_10 => ?_) (fun c40_10 => ?_)
        · refine lv_iconst (v := 0) hx hb d_Mo_body_58 (by decide) ?_
          refine lv_istore (lv' := [(6, .int 0), (0, .ref (ad 0)), (1, .int p0), (2, .int p1), (3, .int p2), (4, .int p3), (5, .int p4)]) hx hb d_Mo_body_59 hl (by decide) rfl (fun ls hl => ?_)
          refine lv_aload_n hx hb d_Mo_body_61 rfl (lv_at hl 1 rfl) ?_
          refine lv_iload hx hb d_Mo_body_62 (lv_at hl 0 rfl) ?_
          refine lv_if_ne (tgt := 71) hx hb d_Mo_body_64 (by decide) (fun c64_11 => ?_) (fun c64_11 => ?_)
          · exact absurd c64_11 (by decide)
          refine lv_iconst (v := 1) hx hb d_Mo_body_67 (by decide) ?_
          refine lv_goto (tgt := 84) hx hb d_Mo_body_68 (by decide) ?_
          refine put_ms C 0 (ty := .int) q_550 rfl (by decide) rfl (by decide +kernel) rfl rfl wM_s0 hP hD hS d_Mo_body_84 (fun H locs hP hD hS => ?_)
          refine lv_aload_n hx hb d_Mo_body_87 rfl (lv_at hl 1 rfl) ?_
          refine get_mi (x := ((upd x.1 0 1), x.2)) C 0 q_550 rfl (by decide) rfl 1 (pk_us (f := x.1) (k := 0) (x := 1)) hP d_Mo_body_88 ?_
          refine lv_if_le (tgt := 96) hx hb d_Mo_body_91 (by decide) (fun c91_12 => ?_) (fun c91_12 => ?_)
          · exact absurd c91_12 (by decide)
          refine lv_iconst (v := 0) hx hb d_Mo_body_94 (by decide) ?_
          exact hret _ _ _ _ _ _ rfl rfl hP hD hS d_Mo_body_95
        · refine lv_iload hx hb d_Mo_body_43 (lv_at hl 5 rfl) ?_
          refine lv_iconst (v := 1) hx hb d_Mo_body_45 (by decide) ?_
          refine lv_bipush (v := 20) hx hb d_Mo_body_46 (by decide) ?_
          refine csI C v_Mo_152 [.int p4, .int 1, .int 20] [] (c_Mo_in l g p4 1 20) hP hS rfl rfl hl.1 (Nat.le_of_ble_eq_true rfl) ⟨Nat.le_of_ble_eq_true rfl, Nat.le_of_ble_eq_true rfl⟩ d_Mo_body_48 ⟨Nat.zero_le _, Nat.zero_le _⟩ (fun H locs hP hS => ?_)
          refine lv_if_eq (tgt := 58) hx hb d_Mo_body_51 (by decide) (fun c51_13 => ?_) (fun c51_13 => ?_)
          · refine lv_iconst (v := 0) hx hb d_Mo_body_58 (by decide) ?_
            refine lv_istore (lv' := [(6, .int 0), (0, .ref (ad 0)), (1, .int p0), (2, .int p1), (3, .int p2), (4, .int p3), (5, .int p4)]) hx hb d_Mo_body_59 hl (by decide) rfl (fun ls hl => ?_)
            refine lv_aload_n hx hb d_Mo_body_61 rfl (lv_at hl 1 rfl) ?_
            refine lv_iload hx hb d_Mo_body_62 (lv_at hl 0 rfl) ?_
            refine lv_if_ne (tgt := 71) hx hb d_Mo_body_64 (by decide) (fun c64_14 => ?_) (fun c64_14 => ?_)
            · exact absurd c64_14 (by decide)
            refine lv_iconst (v := 1) hx hb d_Mo_body_67 (by decide) ?_
            refine lv_goto (tgt := 84) hx hb d_Mo_body_68 (by decide) ?_
            refine put_ms C 0 (ty := .int) q_550 rfl (by decide) rfl (by decide +kernel) rfl rfl wM_s0 hP hD hS d_Mo_body_84 (fun H locs hP hD hS => ?_)
            refine lv_aload_n hx hb d_Mo_body_87 rfl (lv_at hl 1 rfl) ?_
            refine get_mi (x := ((upd x.1 0 1), x.2)) C 0 q_550 rfl (by decide) rfl 1 (pk_us (f := x.1) (k := 0) (x := 1)) hP d_Mo_body_88 ?_
            refine lv_if_le (tgt := 96) hx hb d_Mo_body_91 (by decide) (fun c91_15 => ?_) (fun c91_15 => ?_)
            · exact absurd c91_15 (by decide)
            refine lv_iconst (v := 0) hx hb d_Mo_body_94 (by decide) ?_
            exact hret _ _ _ _ _ _ rfl rfl hP hD hS d_Mo_body_95
          · exact absurd ⟨in1 c8_1, in1 c19_4, in1 c29_7, in1 c40_10, in1 c51_13⟩ hbad
set_option maxHeartbeats 4000000 in
set_option maxRecDepth 100000 in
theorem c_Mo_body_2 (l : Launch) (g : Glob) (ad : Nat → Nat) (x : MS) (p0 p1 p2 p3 p4 : Int32) (v0 : inI p0 1 200 = 1) (v1 : inI p1 0 200 = 1) (v2 : inI p2 0 60 = 1) (v3 : inI p3 0 60 = 1) (v4 : inI p4 1 20 = 1) (hfull : x.1 2 = 3) : CI l g y_Mo_body b_Mo_body 7 (some .int) 5 127 [.ref (ad 0), .int p0, .int p1, .int p2, .int p3, .int p4] (wM g ad x) (0) (wM g ad (upd x.1 0 2, x.2)) := by
  refine CI.of .int rfl rfl (by decide +kernel) (Nat.le_of_ble_eq_true rfl) ?_
  intro p e s m below meth c A Q ls C hP hD hl hret hS
  obtain ⟨hx, hb, hml, hown, hw, hE, hA⟩ := id C
  have hl : lv_has ls 7 [(0, .ref (ad 0)), (1, .int p0), (2, .int p1), (3, .int p2), (4, .int p3), (5, .int p4)] := hl
  refine lv_iload_n hx hb d_Mo_body_0 rfl (lv_at hl 1 rfl) ?_
  refine lv_iconst (v := 1) hx hb d_Mo_body_1 (by decide) ?_
  refine lv_sipush (v := 200) hx hb d_Mo_body_2 (by decide) ?_
  refine csI C v_Mo_152 [.int p0, .int 1, .int 200] [] (c_Mo_in l g p0 1 200) hP hS rfl rfl hl.1 (Nat.le_of_ble_eq_true rfl) ⟨Nat.le_of_ble_eq_true rfl, Nat.le_of_ble_eq_true rfl⟩ d_Mo_body_5 ⟨Nat.zero_le _, Nat.zero_le _⟩ (fun H locs hP hS => ?_)
  refine lv_if_eq (tgt := 58) hx hb d_Mo_body_8 (by decide) (fun c8_1 => ?_) (fun c8_1 => ?_)
  · exact absurd c8_1 (nz1 v0)
  refine lv_iload_n hx hb d_Mo_body_11 rfl (lv_at hl 2 rfl) ?_
  refine lv_iconst (v := 0) hx hb d_Mo_body_12 (by decide) ?_
  refine lv_sipush (v := 200) hx hb d_Mo_body_13 (by decide) ?_
  refine csI C v_Mo_152 [.int p1, .int 0, .int 200] [] (c_Mo_in l g p1 0 200) hP hS rfl rfl hl.1 (Nat.le_of_ble_eq_true rfl) ⟨Nat.le_of_ble_eq_true rfl, Nat.le_of_ble_eq_true rfl⟩ d_Mo_body_16 ⟨Nat.zero_le _, Nat.zero_le _⟩ (fun H locs hP hS => ?_)
  refine lv_if_eq (tgt := 58) hx hb d_Mo_body_19 (by decide) (fun c19_2 => ?_) (fun c19_2 => ?_)
  · exact absurd c19_2 (nz1 v1)
  refine lv_iload_n hx hb d_Mo_body_22 rfl (lv_at hl 3 rfl) ?_
  refine lv_iconst (v := 0) hx hb d_Mo_body_23 (by decide) ?_
  refine lv_bipush (v := 60) hx hb d_Mo_body_24 (by decide) ?_
  refine csI C v_Mo_152 [.int p2, .int 0, .int 60] [] (c_Mo_in l g p2 0 60) hP hS rfl rfl hl.1 (Nat.le_of_ble_eq_true rfl) ⟨Nat.le_of_ble_eq_true rfl, Nat.le_of_ble_eq_true rfl⟩ d_Mo_body_26 ⟨Nat.zero_le _, Nat.zero_le _⟩ (fun H locs hP hS => ?_)
  refine lv_if_eq (tgt := 58) hx hb d_Mo_body_29 (by decide) (fun c29_3 => ?_) (fun c29_3 => ?_)
  · exact absurd c29_3 (nz1 v2)
  refine lv_iload hx hb d_Mo_body_32 (lv_at hl 4 rfl) ?_
  refine lv_iconst (v := 0) hx hb d_Mo_body_34 (by decide) ?_
  refine lv_bipush (v := 60) hx hb d_Mo_body_35 (by decide) ?_
  refine csI C v_Mo_152 [.int p3, .int 0, .int 60] [] (c_Mo_in l g p3 0 60) hP hS rfl rfl hl.1 (Nat.le_of_ble_eq_true rfl) ⟨Nat.le_of_ble_eq_true rfl, Nat.le_of_ble_eq_true rfl⟩ d_Mo_body_37 ⟨Nat.zero_le _, Nat.zero_le _⟩ (fun H locs hP hS => ?_)
  refine lv_if_eq (tgt := 58) hx hb d_Mo_body_40 (by decide) (fun c40_4 => ?_) (fun c40_4 => ?_)
  · exact absurd c40_4 (nz1 v3)
  refine lv_iload hx hb d_Mo_body_43 (lv_at hl 5 rfl) ?_
  refine lv_iconst (v := 1) hx hb d_Mo_body_45 (by decide) ?_
  refine lv_bipush (v := 20) hx hb d_Mo_body_46 (by decide) ?_
  refine csI C v_Mo_152 [.int p4, .int 1, .int 20] [] (c_Mo_in l g p4 1 20) hP hS rfl rfl hl.1 (Nat.le_of_ble_eq_true rfl) ⟨Nat.le_of_ble_eq_true rfl, Nat.le_of_ble_eq_true rfl⟩ d_Mo_body_48 ⟨Nat.zero_le _, Nat.zero_le _⟩ (fun H locs hP hS => ?_)
  refine lv_if_eq (tgt := 58) hx hb d_Mo_body_51 (by decide) (fun c51_5 => ?_) (fun c51_5 => ?_)
  · exact absurd c51_5 (nz1 v4)
  refine lv_iconst (v := 1) hx hb d_Mo_body_54 (by decide) ?_
  refine lv_goto (tgt := 59) hx hb d_Mo_body_55 (by decide) ?_
  refine lv_istore (lv' := [(6, .int 1), (0, .ref (ad 0)), (1, .int p0), (2, .int p1), (3, .int p2), (4, .int p3), (5, .int p4)]) hx hb d_Mo_body_59 hl (by decide) rfl (fun ls hl => ?_)
  refine lv_aload_n hx hb d_Mo_body_61 rfl (lv_at hl 1 rfl) ?_
  refine lv_iload hx hb d_Mo_body_62 (lv_at hl 0 rfl) ?_
  refine lv_if_ne (tgt := 71) hx hb d_Mo_body_64 (by decide) (fun c64_6 => ?_) (fun c64_6 => ?_)
  rotate_left
  · exact absurd c64_6 (by decide)
  refine lv_aload_n hx hb d_Mo_body_71 rfl (lv_at hl 1 rfl) ?_
  refine get_mi (x := x) C 2 q_552 rfl (by decide) rfl (x.1 2) rfl hP d_Mo_body_72 ?_
  refine lv_iconst (v := 3) hx hb d_Mo_body_75 (by decide) ?_
  refine lv_icmp_ne (tgt := 83) hx hb d_Mo_body_76 (by decide) (fun c76_7 => ?_) (fun c76_7 => ?_)
  · exact absurd c76_7 (fun q => q hfull)
  refine lv_iconst (v := 2) hx hb d_Mo_body_79 (by decide) ?_
  refine lv_goto (tgt := 84) hx hb d_Mo_body_80 (by decide) ?_
  refine put_ms C 0 (ty := .int) q_550 rfl (by decide) rfl (by decide +kernel) rfl rfl wM_s0 hP hD hS d_Mo_body_84 (fun H locs hP hD hS => ?_)
  refine lv_aload_n hx hb d_Mo_body_87 rfl (lv_at hl 1 rfl) ?_
  refine get_mi (x := ((upd x.1 0 2), x.2)) C 0 q_550 rfl (by decide) rfl 2 (pk_us (f := x.1) (k := 0) (x := 2)) hP d_Mo_body_88 ?_
  refine lv_if_le (tgt := 96) hx hb d_Mo_body_91 (by decide) (fun c91_8 => ?_) (fun c91_8 => ?_)
  · exact absurd c91_8 (by decide)
  refine lv_iconst (v := 0) hx hb d_Mo_body_94 (by decide) ?_
  exact hret _ _ _ _ _ _ rfl rfl hP hD hS d_Mo_body_95
set_option maxHeartbeats 4000000 in
set_option maxRecDepth 100000 in
theorem c_Mo_body_0 (l : Launch) (g : Glob) (ad : Nat → Nat) (x : MS) (n np : Nat) (hc : ∀ i, i < 17 → x.2 1 i = cosT i) (hn : x.1 2 = nI n) (hp : x.1 12 = nI np) (h3 : n < 3) (h20 : np ≤ 20) (p0 p1 p2 p3 p4 : Int32) (v0 : inI p0 1 200 = 1) (v1 : inI p1 0 200 = 1) (v2 : inI p2 0 60 = 1) (v3 : inI p3 0 60 = 1) (v4 : inI p4 1 20 = 1) (hfull : ¬ x.1 2 = 3) : CI l g y_Mo_body b_Mo_body 7 (some .int) 5 127 [.ref (ad 0), .int p0, .int p1, .int p2, .int p3, .int p4] (wM g ad x) (x.1 2) (wM g ad (bodyM n np p0 p1 p2 p3 p4 x)) := by
  refine CI.of .int rfl rfl (by decide +kernel) (Nat.le_of_ble_eq_true rfl) ?_
  intro p e s m below meth c A Q ls C hP hD hl hret hS
  obtain ⟨hx, hb, hml, hown, hw, hE, hA⟩ := id C
  have hl : lv_has ls 7 [(0, .ref (ad 0)), (1, .int p0), (2, .int p1), (3, .int p2), (4, .int p3), (5, .int p4)] := hl
  refine lv_iload_n hx hb d_Mo_body_0 rfl (lv_at hl 1 rfl) ?_
  refine lv_iconst (v := 1) hx hb d_Mo_body_1 (by decide) ?_
  refine lv_sipush (v := 200) hx hb d_Mo_body_2 (by decide) ?_
  refine csI C v_Mo_152 [.int p0, .int 1, .int 200] [] (c_Mo_in l g p0 1 200) hP hS rfl rfl hl.1 (Nat.le_of_ble_eq_true rfl) ⟨Nat.le_of_ble_eq_true rfl, Nat.le_of_ble_eq_true rfl⟩ d_Mo_body_5 ⟨Nat.zero_le _, Nat.zero_le _⟩ (fun H locs hP hS => ?_)
  refine lv_if_eq (tgt := 58) hx hb d_Mo_body_8 (by decide) (fun c8_1 => ?_) (fun c8_1 => ?_)
  · exact absurd c8_1 (nz1 v0)
  refine lv_iload_n hx hb d_Mo_body_11 rfl (lv_at hl 2 rfl) ?_
  refine lv_iconst (v := 0) hx hb d_Mo_body_12 (by decide) ?_
  refine lv_sipush (v := 200) hx hb d_Mo_body_13 (by decide) ?_
  refine csI C v_Mo_152 [.int p1, .int 0, .int 200] [] (c_Mo_in l g p1 0 200) hP hS rfl rfl hl.1 (Nat.le_of_ble_eq_true rfl) ⟨Nat.le_of_ble_eq_true rfl, Nat.le_of_ble_eq_true rfl⟩ d_Mo_body_16 ⟨Nat.zero_le _, Nat.zero_le _⟩ (fun H locs hP hS => ?_)
  refine lv_if_eq (tgt := 58) hx hb d_Mo_body_19 (by decide) (fun c19_2 => ?_) (fun c19_2 => ?_)
  · exact absurd c19_2 (nz1 v1)
  refine lv_iload_n hx hb d_Mo_body_22 rfl (lv_at hl 3 rfl) ?_
  refine lv_iconst (v := 0) hx hb d_Mo_body_23 (by decide) ?_
  refine lv_bipush (v := 60) hx hb d_Mo_body_24 (by decide) ?_
  refine csI C v_Mo_152 [.int p2, .int 0, .int 60] [] (c_Mo_in l g p2 0 60) hP hS rfl rfl hl.1 (Nat.le_of_ble_eq_true rfl) ⟨Nat.le_of_ble_eq_true rfl, Nat.le_of_ble_eq_true rfl⟩ d_Mo_body_26 ⟨Nat.zero_le _, Nat.zero_le _⟩ (fun H locs hP hS => ?_)
  refine lv_if_eq (tgt := 58) hx hb d_Mo_body_29 (by decide) (fun c29_3 => ?_) (fun c29_3 => ?_)
  · exact absurd c29_3 (nz1 v2)
  refine lv_iload hx hb d_Mo_body_32 (lv_at hl 4 rfl) ?_
  refine lv_iconst (v := 0) hx hb d_Mo_body_34 (by decide) ?_
  refine lv_bipush (v := 60) hx hb d_Mo_body_35 (by decide) ?_
  refine csI C v_Mo_152 [.int p3, .int 0, .int 60] [] (c_Mo_in l g p3 0 60) hP hS rfl rfl hl.1 (Nat.le_of_ble_eq_true rfl) ⟨Nat.le_of_ble_eq_true rfl, Nat.le_of_ble_eq_true rfl⟩ d_Mo_body_37 ⟨Nat.zero_le _, Nat.zero_le _⟩ (fun H locs hP hS => ?_)
  refine lv_if_eq (tgt := 58) hx hb d_Mo_body_40 (by decide) (fun c40_4 => ?_) (fun c40_4 => ?_)
  · exact absurd c40_4 (nz1 v3)
  refine lv_iload hx hb d_Mo_body_43 (lv_at hl 5 rfl) ?_
  refine lv_iconst (v := 1) hx hb d_Mo_body_45 (by decide) ?_
  refine lv_bipush (v := 20) hx hb d_Mo_body_46 (by decide) ?_
  refine csI C v_Mo_152 [.int p4, .int 1, .int 20] [] (c_Mo_in l g p4 1 20) hP hS rfl rfl hl.1 (Nat.le_of_ble_eq_true rfl) ⟨Nat.le_of_ble_eq_true rfl, Nat.le_of_ble_eq_true rfl⟩ d_Mo_body_48 ⟨Nat.zero_le _, Nat.zero_le _⟩ (fun H locs hP hS => ?_)
  refine lv_if_eq (tgt := 58) hx hb d_Mo_body_51 (by decide) (fun c51_5 => ?_) (fun c51_5 => ?_)
  · exact absurd c51_5 (nz1 v4)
  refine lv_iconst (v := 1) hx hb d_Mo_body_54 (by decide) ?_
  refine lv_goto (tgt := 59) hx hb d_Mo_body_55 (by decide) ?_
  refine lv_istore (lv' := [(6, .int 1), (0, .ref (ad 0)), (1, .int p0), (2, .int p1), (3, .int p2), (4, .int p3), (5, .int p4)]) hx hb d_Mo_body_59 hl (by decide) rfl (fun ls hl => ?_)
  refine lv_aload_n hx hb d_Mo_body_61 rfl (lv_at hl 1 rfl) ?_
  refine lv_iload hx hb d_Mo_body_62 (lv_at hl 0 rfl) ?_
  refine lv_if_ne (tgt := 71) hx hb d_Mo_body_64 (by decide) (fun c64_6 => ?_) (fun c64_6 => ?_)
  rotate_left
  · exact absurd c64_6 (by decide)
  refine lv_aload_n hx hb d_Mo_body_71 rfl (lv_at hl 1 rfl) ?_
  refine get_mi (x := x) C 2 q_552 rfl (by decide) rfl (x.1 2) rfl hP d_Mo_body_72 ?_
  refine lv_iconst (v := 3) hx hb d_Mo_body_75 (by decide) ?_
  refine lv_icmp_ne (tgt := 83) hx hb d_Mo_body_76 (by decide) (fun c76_7 => ?_) (fun c76_7 => ?_)
  rotate_left
  · exact absurd c76_7 (fun q => hfull q)
  refine lv_iconst (v := 0) hx hb d_Mo_body_83 (by decide) ?_
  refine put_ms C 0 (ty := .int) q_550 rfl (by decide) rfl (by decide +kernel) rfl rfl wM_s0 hP hD hS d_Mo_body_84 (fun H locs hP hD hS => ?_)
  refine lv_aload_n hx hb d_Mo_body_87 rfl (lv_at hl 1 rfl) ?_
  refine get_mi (x := ((upd x.1 0 0), x.2)) C 0 q_550 rfl (by decide) rfl 0 (pk_us (f := x.1) (k := 0) (x := 0)) hP d_Mo_body_88 ?_
  refine lv_if_le (tgt := 96) hx hb d_Mo_body_91 (by decide) (fun c91_8 => ?_) (fun c91_8 => ?_)
  rotate_left
  · exact absurd (by decide) c91_8
  refine lv_aload_n hx hb d_Mo_body_96 rfl (lv_at hl 1 rfl) ?_
  refine get_ms (x := ((upd x.1 0 0), x.2)) C 3 q_553 rfl (by decide) (.ref (ad 2)) rfl hP d_Mo_body_97 ?_
  refine lv_aload_n hx hb d_Mo_body_100 rfl (lv_at hl 1 rfl) ?_
  refine get_mi (x := ((upd x.1 0 0), x.2)) C 2 q_552 rfl (by decide) rfl (x.1 2) (pk_un (f := x.1) (k := 0) (x := 0) (j := 2) (by decide)) hP d_Mo_body_101 ?_
  refine lv_iload_n hx hb d_Mo_body_104 rfl (lv_at hl 2 rfl) ?_
  refine put_ma C 2 3 rfl (inN hn (show n < 3 by omega) (by omega)) n (clN hn (by omega)) wM_a2 hP hD hS d_Mo_body_105 (fun H locs hP hD hS => ?_)
  refine lv_aload_n hx hb d_Mo_body_106 rfl (lv_at hl 1 rfl) ?_
  refine get_ms (x := ((upd x.1 0 0), (u2 x.2 2 n p0))) C 4 q_554 rfl (by decide) (.ref (ad 3)) rfl hP d_Mo_body_107 ?_
  refine lv_aload_n hx hb d_Mo_body_110 rfl (lv_at hl 1 rfl) ?_
  refine get_mi (x := ((upd x.1 0 0), (u2 x.2 2 n p0))) C 2 q_552 rfl (by decide) rfl (x.1 2) (pk_un (f := x.1) (k := 0) (x := 0) (j := 2) (by decide)) hP d_Mo_body_111 ?_
  refine lv_iload_n hx hb d_Mo_body_114 rfl (lv_at hl 3 rfl) ?_
  refine put_ma C 3 3 rfl (inN hn (show n < 3 by omega) (by omega)) n (clN hn (by omega)) wM_a3 hP hD hS d_Mo_body_115 (fun H locs hP hD hS => ?_)
  refine lv_aload_n hx hb d_Mo_body_116 rfl (lv_at hl 1 rfl) ?_
  refine get_ms (x := ((upd x.1 0 0), (u2 (u2 x.2 2 n p0) 3 n p1))) C 5 q_555 rfl (by decide) (.ref (ad 4)) rfl hP d_Mo_body_117 ?_
  refine lv_aload_n hx hb d_Mo_body_120 rfl (lv_at hl 1 rfl) ?_
  refine get_mi (x := ((upd x.1 0 0), (u2 (u2 x.2 2 n p0) 3 n p1))) C 2 q_552 rfl (by decide) rfl (x.1 2) (pk_un (f := x.1) (k := 0) (x := 0) (j := 2) (by decide)) hP d_Mo_body_121 ?_
  refine lv_iload_n hx hb d_Mo_body_124 rfl (lv_at hl 4 rfl) ?_
  refine put_ma C 4 3 rfl (inN hn (show n < 3 by omega) (by omega)) n (clN hn (by omega)) wM_a4 hP hD hS d_Mo_body_125 (fun H locs hP hD hS => ?_)
  refine lv_aload_n hx hb d_Mo_body_126 rfl (lv_at hl 1 rfl) ?_
  refine get_ms (x := ((upd x.1 0 0), (u2 (u2 (u2 x.2 2 n p0) 3 n p1) 4 n p2))) C 6 q_556 rfl (by decide) (.ref (ad 5)) rfl hP d_Mo_body_127 ?_
  refine lv_aload_n hx hb d_Mo_body_130 rfl (lv_at hl 1 rfl) ?_
  refine get_mi (x := ((upd x.1 0 0), (u2 (u2 (u2 x.2 2 n p0) 3 n p1) 4 n p2))) C 2 q_552 rfl (by decide) rfl (x.1 2) (pk_un (f := x.1) (k := 0) (x := 0) (j := 2) (by decide)) hP d_Mo_body_131 ?_
  refine lv_iload hx hb d_Mo_body_134 (lv_at hl 5 rfl) ?_
  refine put_ma C 5 3 rfl (inN hn (show n < 3 by omega) (by omega)) n (clN hn (by omega)) wM_a5 hP hD hS d_Mo_body_136 (fun H locs hP hD hS => ?_)
  refine lv_aload_n hx hb d_Mo_body_137 rfl (lv_at hl 1 rfl) ?_
  refine get_ms (x := ((upd x.1 0 0), (u2 (u2 (u2 (u2 x.2 2 n p0) 3 n p1) 4 n p2) 5 n p3))) C 7 q_557 rfl (by decide) (.ref (ad 6)) rfl hP d_Mo_body_138 ?_
  refine lv_aload_n hx hb d_Mo_body_141 rfl (lv_at hl 1 rfl) ?_
  refine get_mi (x := ((upd x.1 0 0), (u2 (u2 (u2 (u2 x.2 2 n p0) 3 n p1) 4 n p2) 5 n p3))) C 2 q_552 rfl (by decide) rfl (x.1 2) (pk_un (f := x.1) (k := 0) (x := 0) (j := 2) (by decide)) hP d_Mo_body_142 ?_
  refine lv_iload hx hb d_Mo_body_145 (lv_at hl 6 rfl) ?_
  refine put_ma C 6 3 rfl (inN hn (show n < 3 by omega) (by omega)) n (clN hn (by omega)) wM_a6 hP hD hS d_Mo_body_147 (fun H locs hP hD hS => ?_)
  refine lv_aload_n hx hb d_Mo_body_148 rfl (lv_at hl 1 rfl) ?_
  refine lv_dup hx hb d_Mo_body_149 rfl ?_
  refine get_mi (x := ((upd x.1 0 0), (u2 (u2 (u2 (u2 (u2 x.2 2 n p0) 3 n p1) 4 n p2) 5 n p3) 6 n p4))) C 2 q_552 rfl (by decide) rfl (x.1 2) (pk_un (f := x.1) (k := 0) (x := 0) (j := 2) (by decide)) hP d_Mo_body_150 ?_
  refine lv_iconst (v := 1) hx hb d_Mo_body_153 (by decide) ?_
  refine lv_iadd hx hb d_Mo_body_154 ?_
  refine put_ms C 2 (ty := .int) q_552 rfl (by decide) rfl (by decide +kernel) rfl rfl wM_s2 hP hD hS d_Mo_body_155 (fun H locs hP hD hS => ?_)
  refine lv_aload_n hx hb d_Mo_body_158 rfl (lv_at hl 1 rfl) ?_
  refine cvV C v_Mo_155 [] [] (c_Mo_beginAnew l g ad ((upd (upd x.1 0 0) 2 ((x.1 2) + 1)), (u2 (u2 (u2 (u2 (u2 x.2 2 n p0) 3 n p1) 4 n p2) 5 n p3) 6 n p4)) (n + 1) np (fun i hi => (u2_k (σ := (u2 (u2 (u2 (u2 x.2 2 n p0) 3 n p1) 4 n p2) 5 n p3)) (k := 6) (b := n) (x := p4) (i := 1) (j := i) (by decide)).trans ((fun i hi => (u2_k (σ := (u2 (u2 (u2 x.2 2 n p0) 3 n p1) 4 n p2)) (k := 5) (b := n) (x := p3) (i := 1) (j := i) (by decide)).trans ((fun i hi => (u2_k (σ := (u2 (u2 x.2 2 n p0) 3 n p1)) (k := 4) (b := n) (x := p2) (i := 1) (j := i) (by decide)).trans ((fun i hi => (u2_k (σ := (u2 x.2 2 n p0)) (k := 3) (b := n) (x := p1) (i := 1) (j := i) (by decide)).trans ((fun i hi => (u2_k (σ := x.2) (k := 2) (b := n) (x := p0) (i := 1) (j := i) (by decide)).trans (hc i hi)) i hi)) i hi)) i hi)) i hi)) ((pk_us (f := (upd x.1 0 0)) (k := 2) (x := x.1 2 + 1)).trans (by rw [hn]; exact nI_1 n)) (((pk_un (f := (upd x.1 0 0)) (k := 2) (x := ((x.1 2) + 1)) (j := 12) (by decide)).trans (pk_un (f := x.1) (k := 0) (x := 0) (j := 12) (by decide))).trans hp) (by omega) h20) hP hD hS [0, 1, 2, 3, 4, 5, 6, 7, 8, 9, 10, 11, 12, 13, 14, 15, 16, 17, 18, 19, 20] [] [0, 1, 2, 3, 4, 5, 6, 7, 8, 9, 10, 11, 12, 13, 14, 15, 16, 17, 18, 19, 20] [] (wM g ad (begM (n + 1) np ((upd (upd x.1 0 0) 2 ((x.1 2) + 1)), (u2 (u2 (u2 (u2 (u2 x.2 2 n p0) 3 n p1) 4 n p2) 5 n p3) 6 n p4)))) rfl rfl (by decide) (by decide) (by decide) rfl (by decide) 0 rfl rfl rfl rfl hl.1 (Nat.le_of_ble_eq_true rfl) ⟨Nat.le_of_ble_eq_true rfl, Nat.le_of_ble_eq_true rfl⟩ d_Mo_body_159 ⟨Nat.zero_le _, Nat.zero_le _⟩ (fun H locs hP hD hS => ?_)
  refine lv_aload_n hx hb d_Mo_body_162 rfl (lv_at hl 1 rfl) ?_
  refine get_mi (x := (begM (n + 1) np ((upd (upd x.1 0 0) 2 ((x.1 2) + 1)), (u2 (u2 (u2 (u2 (u2 x.2 2 n p0) 3 n p1) 4 n p2) 5 n p3) 6 n p4)))) C 2 q_552 rfl (by decide) rfl ((begM (n + 1) np ((upd (upd x.1 0 0) 2 ((x.1 2) + 1)), (u2 (u2 (u2 (u2 (u2 x.2 2 n p0) 3 n p1) 4 n p2) 5 n p3) 6 n p4))).1 2) rfl hP d_Mo_body_163 ?_
  refine lv_iconst (v := 1) hx hb d_Mo_body_166 (by decide) ?_
  refine lv_isub hx hb d_Mo_body_167 ?_
  exact hret _ _ _ _ _ _ (by rw [begM_s (by decide)]; dsimp only; rw [pk_us, add_sub1]) rfl hP hD hS d_Mo_body_168
set_option maxHeartbeats 4000000 in
set_option maxRecDepth 100000 in
theorem c_Mo_start_1 (l : Launch) (g : Glob) (ad : Nat → Nat) (x : MS) (p0 p1 p2 : Int32) (hbad : ¬ (inI p0 (-1000) 1000 = 1 ∧ inI p1 (-1000) 1000 = 1 ∧ inI p2 0 63 = 1)) : CV l g y_Mo_start b_Mo_start 4 5 127 [.ref (ad 0), .int p0, .int p1, .int p2] (wM g ad x) (wM g ad (upd x.1 0 1, x.2)) := by
  refine CV.of (by decide +kernel) (Nat.le_of_ble_eq_true rfl) ?_
  intro p e s m below meth c A Q ls C hP hD hl hret hS
  obtain ⟨hx, hb, hml, hown, hw, hE, hA⟩ := id C
  have hl : lv_has ls 4 [(0, .ref (ad 0)), (1, .int p0), (2, .int p1), (3, .int p2)] := hl
  refine lv_aload_n hx hb d_Mo_start_0 rfl (lv_at hl 0 rfl) ?_
  refine lv_iload_n hx hb d_Mo_start_1 rfl (lv_at hl 1 rfl) ?_
  refine lv_sipush (v := (-1000)) hx hb d_Mo_start_2 (by decide) ?_
  refine lv_sipush (v := 1000) hx hb d_Mo_start_5 (by decide) ?_
  refine csI C v_Mo_152 [.int p0, .int (-1000), .int 1000] [.ref (ad 0)] (c_Mo_in l g p0 (-1000) 1000) hP hS rfl rfl hl.1 (Nat.le_of_ble_eq_true rfl) ⟨Nat.le_of_ble_eq_true rfl, Nat.le_of_ble_eq_true rfl⟩ d_Mo_start_8 ⟨Nat.zero_le _, Nat.zero_le _⟩ (fun H locs hP hS => ?_)
  refine lv_if_eq (tgt := 41) hx hb d_Mo_start_11 (by decide) (fun c11_1 => ?_) (fun c11_1 => ?_)
  · refine lv_iconst (v := 1) hx hb d_Mo_start_41 (by decide) ?_
    refine put_ms C 0 (ty := .int) q_550 rfl (by decide) rfl (by decide +kernel) rfl rfl wM_s0 hP hD hS d_Mo_start_42 (fun H locs hP hD hS => ?_)
    refine lv_aload_n hx hb d_Mo_start_45 rfl (lv_at hl 0 rfl) ?_
    refine get_mi (x := ((upd x.1 0 1), x.2)) C 0 q_550 rfl (by decide) rfl 1 (pk_us (f := x.1) (k := 0) (x := 1)) hP d_Mo_start_46 ?_
    refine lv_if_le (tgt := 53) hx hb d_Mo_start_49 (by decide) (fun c49_2 => ?_) (fun c49_2 => ?_)
    · exact absurd c49_2 (by decide)
    exact hret _ _ _ _ _ rfl hP hD hS d_Mo_start_52
  · refine lv_iload_n hx hb d_Mo_start_14 rfl (lv_at hl 2 rfl) ?_
    refine lv_sipush (v := (-1000)) hx hb d_Mo_start_15 (by decide) ?_
    refine lv_sipush (v := 1000) hx hb d_Mo_start_18 (by decide) ?_
    refine csI C v_Mo_152 [.int p1, .int (-1000), .int 1000] [.ref (ad 0)] (c_Mo_in l g p1 (-1000) 1000) hP hS rfl rfl hl.1 (Nat.le_of_ble_eq_true rfl) ⟨Nat.le_of_ble_eq_true rfl, Nat.le_of_ble_eq_true rfl⟩ d_Mo_start_21 ⟨Nat.zero_le _, Nat.zero_le _⟩ (fun H locs hP hS => ?_)
    refine lv_if_eq (tgt := 41) hx hb d_Mo_start_24 (by decide) (fun c24_3 => ?_) (fun c24_3 => ?_)
    · refine lv_iconst (v := 1) hx hb d_Mo_start_41 (by decide) ?_
      refine put_ms C 0 (ty := .int) q_550 rfl (by decide) rfl (by decide +kernel) rfl rfl wM_s0 hP hD hS d_Mo_start_42 (fun H locs hP hD hS => ?_)
      refine lv_aload_n hx hb d_Mo_start_45 rfl (lv_at hl 0 rfl) ?_
      refine get_mi (x := ((upd x.1 0 1), x.2)) C 0 q_550 rfl (by decide) rfl 1 (pk_us (f := x.1) (k := 0) (x := 1)) hP d_Mo_start_46 ?_
      refine lv_if_le (tgt := 53) hx hb d_Mo_start_49 (by decide) (fun c49_4 => ?_) (fun c49_4 => ?_)
      · exact absurd c49_4 (by decide)
      exact hret _ _ _ _ _ rfl hP hD hS d_Mo_start_52
    · refine lv_iload_n hx hb d_Mo_start_27 rfl (lv_at hl 3 rfl) ?_
      refine lv_iconst (v := 0) hx hb d_Mo_start_28 (by decide) ?_
      refine lv_bipush (v := 63) hx hb d_Mo_start_29 (by decide) ?_
      refine csI C v_Mo_152 [.int p2, .int 0, .int 63] [.ref (ad 0)] (c_Mo_in l g p2 0 63) hP hS rfl rfl hl.1 (Nat.le_of_ble_eq_true rfl) ⟨Nat.le_of_ble_eq_true rfl, Nat.le_of_ble_eq_true rfl⟩ d_Mo_start_31 ⟨Nat.zero_le _, Nat.zero_le _⟩ (fun H locs hP hS => ?_)
      refine lv_if_eq (tgt := 41) hx hb d_Mo_start_34 (by decide) (fun c34_5 => ?_) (fun c34_5 => ?_)
      · refine lv_iconst (v := 1) hx hb d_Mo_start_41 (by decide) ?_
        refine put_ms C 0 (ty := .int) q_550 rfl (by decide) rfl (by decide +kernel) rfl rfl wM_s0 hP hD hS d_Mo_start_42 (fun H locs hP hD hS => ?_)
        refine lv_aload_n hx hb d_Mo_start_45 rfl (lv_at hl 0 rfl) ?_
        refine get_mi (x := ((upd x.1 0 1), x.2)) C 0 q_550 rfl (by decide) rfl 1 (pk_us (f := x.1) (k := 0) (x := 1)) hP d_Mo_start_46 ?_
        refine lv_if_le (tgt := 53) hx hb d_Mo_start_49 (by decide) (fun c49_6 => ?_) (fun c49_6 => ?_)
        · exact absurd c49_6 (by decide)
        exact hret _ _ _ _ _ rfl hP hD hS d_Mo_start_52
      · exact absurd ⟨in1 c11_1, in1 c24_3, in1 c34_5⟩ hbad
set_option maxHeartbeats 4000000 in
set_option maxRecDepth 100000 in
theorem c_Mo_start_0 (l : Launch) (g : Glob) (ad : Nat → Nat) (x : MS) (n np : Nat) (hc : ∀ i, i < 17 → x.2 1 i = cosT i) (hn : x.1 2 = nI n) (hp : x.1 12 = nI np) (h3 : n ≤ 3) (h20 : np ≤ 20) (p0 p1 p2 : Int32) (v0 : inI p0 (-1000) 1000 = 1) (v1 : inI p1 (-1000) 1000 = 1) (v2 : inI p2 0 63 = 1) : CV l g y_Mo_start b_Mo_start 4 5 127 [.ref (ad 0), .int p0, .int p1, .int p2] (wM g ad x) (wM g ad (startM n np p0 p1 p2 x)) := by
  refine CV.of (by decide +kernel) (Nat.le_of_ble_eq_true rfl) ?_
  intro p e s m below meth c A Q ls C hP hD hl hret hS
  obtain ⟨hx, hb, hml, hown, hw, hE, hA⟩ := id C
  have hl : lv_has ls 4 [(0, .ref (ad 0)), (1, .int p0), (2, .int p1), (3, .int p2)] := hl
  refine lv_aload_n hx hb d_Mo_start_0 rfl (lv_at hl 0 rfl) ?_
  refine lv_iload_n hx hb d_Mo_start_1 rfl (lv_at hl 1 rfl) ?_
  refine lv_sipush (v := (-1000)) hx hb d_Mo_start_2 (by decide) ?_
  refine lv_sipush (v := 1000) hx hb d_Mo_start_5 (by decide) ?_
  refine csI C v_Mo_152 [.int p0, .int (-1000), .int 1000] [.ref (ad 0)] (c_Mo_in l g p0 (-1000) 1000) hP hS rfl rfl hl.1 (Nat.le_of_ble_eq_true rfl) ⟨Nat.le_of_ble_eq_true rfl, Nat.le_of_ble_eq_true rfl⟩ d_Mo_start_8 ⟨Nat.zero_le _, Nat.zero_le _⟩ (fun H locs hP hS => ?_)
  refine lv_if_eq (tgt := 41) hx hb d_Mo_start_11 (by decide) (fun c11_1 => ?_) (fun c11_1 => ?_)
  · exact absurd c11_1 (nz1 v0)
  refine lv_iload_n hx hb d_Mo_start_14 rfl (lv_at hl 2 rfl) ?_
  refine lv_sipush (v := (-1000)) hx hb d_Mo_start_15 (by decide) ?_
  refine lv_sipush (v := 1000) hx hb d_Mo_start_18 (by decide) ?_
  refine csI C v_Mo_152 [.int p1, .int (-1000), .int 1000] [.ref (ad 0)] (c_Mo_in l g p1 (-1000) 1000) hP hS rfl rfl hl.1 (Nat.le_of_ble_eq_true rfl) ⟨Nat.le_of_ble_eq_true rfl, Nat.le_of_ble_eq_true rfl⟩ d_Mo_start_21 ⟨Nat.zero_le _, Nat.zero_le _⟩ (fun H locs hP hS => ?_)
  refine lv_if_eq (tgt := 41) hx hb d_Mo_start_24 (by decide) (fun c24_2 => ?_) (fun c24_2 => ?_)
  · exact absurd c24_2 (nz1 v1)
  refine lv_iload_n hx hb d_Mo_start_27 rfl (lv_at hl 3 rfl) ?_
  refine lv_iconst (v := 0) hx hb d_Mo_start_28 (by decide) ?_
  refine lv_bipush (v := 63) hx hb d_Mo_start_29 (by decide) ?_
  refine csI C v_Mo_152 [.int p2, .int 0, .int 63] [.ref (ad 0)] (c_Mo_in l g p2 0 63) hP hS rfl rfl hl.1 (Nat.le_of_ble_eq_true rfl) ⟨Nat.le_of_ble_eq_true rfl, Nat.le_of_ble_eq_true rfl⟩ d_Mo_start_31 ⟨Nat.zero_le _, Nat.zero_le _⟩ (fun H locs hP hS => ?_)
  refine lv_if_eq (tgt := 41) hx hb d_Mo_start_34 (by decide) (fun c34_3 => ?_) (fun c34_3 => ?_)
  · exact absurd c34_3 (nz1 v2)
  refine lv_iconst (v := 0) hx hb d_Mo_start_37 (by decide) ?_
  refine lv_goto (tgt := 42) hx hb d_Mo_start_38 (by decide) ?_
  refine put_ms C 0 (ty := .int) q_550 rfl (by decide) rfl (by decide +kernel) rfl rfl wM_s0 hP hD hS d_Mo_start_42 (fun H locs hP hD hS => ?_)
  refine lv_aload_n hx hb d_Mo_start_45 rfl (lv_at hl 0 rfl) ?_
  refine get_mi (x := ((upd x.1 0 0), x.2)) C 0 q_550 rfl (by decide) rfl 0 (pk_us (f := x.1) (k := 0) (x := 0)) hP d_Mo_start_46 ?_
  refine lv_if_le (tgt := 53) hx hb d_Mo_start_49 (by decide) (fun c49_4 => ?_) (fun c49_4 => ?_)
  rotate_left
  · exact absurd (by decide) c49_4
  refine lv_aload_n hx hb d_Mo_start_53 rfl (lv_at hl 0 rfl) ?_
  refine lv_iload_n hx hb d_Mo_start_54 rfl (lv_at hl 1 rfl) ?_
  refine put_ms C 8 (ty := .int) q_558 rfl (by decide) rfl (by decide +kernel) rfl rfl wM_s8 hP hD hS d_Mo_start_55 (fun H locs hP hD hS => ?_)
  refine lv_aload_n hx hb d_Mo_start_58 rfl (lv_at hl 0 rfl) ?_
  refine lv_iload_n hx hb d_Mo_start_59 rfl (lv_at hl 2 rfl) ?_
  refine put_ms C 9 (ty := .int) q_559 rfl (by decide) rfl (by decide +kernel) rfl rfl wM_s9 hP hD hS d_Mo_start_60 (fun H locs hP hD hS => ?_)
  refine lv_aload_n hx hb d_Mo_start_63 rfl (lv_at hl 0 rfl) ?_
  refine lv_iload_n hx hb d_Mo_start_64 rfl (lv_at hl 3 rfl) ?_
  refine put_ms C 10 (ty := .int) q_560 rfl (by decide) rfl (by decide +kernel) rfl rfl wM_s10 hP hD hS d_Mo_start_65 (fun H locs hP hD hS => ?_)
  refine lv_aload_n hx hb d_Mo_start_68 rfl (lv_at hl 0 rfl) ?_
  refine cvV C v_Mo_155 [] [] (c_Mo_beginAnew l g ad ((upd (upd (upd (upd x.1 0 0) 8 p0) 9 p1) 10 p2), x.2) n np hc (((pk_un (f := (upd (upd (upd x.1 0 0) 8 p0) 9 p1)) (k := 10) (x := p2) (j := 2) (by decide)).trans ((pk_un (f := (upd (upd x.1 0 0) 8 p0)) (k := 9) (x := p1) (j := 2) (by decide)).trans ((pk_un (f := (upd x.1 0 0)) (k := 8) (x := p0) (j := 2) (by decide)).trans (pk_un (f := x.1) (k := 0) (x := 0) (j := 2) (by decide))))).trans hn) (((pk_un (f := (upd (upd (upd x.1 0 0) 8 p0) 9 p1)) (k := 10) (x := p2) (j := 12) (by decide)).trans ((pk_un (f := (upd (upd x.1 0 0) 8 p0)) (k := 9) (x := p1) (j := 12) (by decide)).trans ((pk_un (f := (upd x.1 0 0)) (k := 8) (x := p0) (j := 12) (by decide)).trans (pk_un (f := x.1) (k := 0) (x := 0) (j := 12) (by decide))))).trans hp) h3 h20) hP hD hS [0, 1, 2, 3, 4, 5, 6, 7, 8, 9, 10, 11, 12, 13, 14, 15, 16, 17, 18, 19, 20] [] [0, 1, 2, 3, 4, 5, 6, 7, 8, 9, 10, 11, 12, 13, 14, 15, 16, 17, 18, 19, 20] [] (wM g ad (begM n np ((upd (upd (upd (upd x.1 0 0) 8 p0) 9 p1) 10 p2), x.2))) rfl rfl (by decide) (by decide) (by decide) rfl (by decide) 0 rfl rfl rfl rfl hl.1 (Nat.le_of_ble_eq_true rfl) ⟨Nat.le_of_ble_eq_true rfl, Nat.le_of_ble_eq_true rfl⟩ d_Mo_start_69 ⟨Nat.zero_le _, Nat.zero_le _⟩ (fun H locs hP hD hS => ?_)
  exact hret _ _ _ _ _ rfl hP hD hS d_Mo_start_72
set_option maxHeartbeats 4000000 in
set_option maxRecDepth 100000 in
theorem c_Mo_step_1 (l : Launch) (g : Glob) (ad : Nat → Nat) (x : MS) (p0 : Int32) (hbad : ¬ (inI p0 1 20 = 1)) : CI l g y_Mo_step b_Mo_step 3 (some .int) 5 127 [.ref (ad 0), .int p0] (wM g ad x) (0) (wM g ad (upd x.1 0 1, x.2)) := by
  refine CI.of .int rfl rfl (by decide +kernel) (Nat.le_of_ble_eq_true rfl) ?_
  intro p e s m below meth c A Q ls C hP hD hl hret hS
  obtain ⟨hx, hb, hml, hown, hw, hE, hA⟩ := id C
  have hl : lv_has ls 3 [(0, .ref (ad 0)), (1, .int p0)] := hl
  refine lv_aload_n hx hb d_Mo_step_0 rfl (lv_at hl 0 rfl) ?_
  refine lv_iload_n hx hb d_Mo_step_1 rfl (lv_at hl 1 rfl) ?_
  refine lv_iconst (v := 1) hx hb d_Mo_step_2 (by decide) ?_
  refine lv_bipush (v := 20) hx hb d_Mo_step_3 (by decide) ?_
  refine csI C v_Mo_152 [.int p0, .int 1, .int 20] [.ref (ad 0)] (c_Mo_in l g p0 1 20) hP hS rfl rfl hl.1 (Nat.le_of_ble_eq_true rfl) ⟨Nat.le_of_ble_eq_true rfl, Nat.le_of_ble_eq_true rfl⟩ d_Mo_step_5 ⟨Nat.zero_le _, Nat.zero_le _⟩ (fun H locs hP hS => ?_)
  refine lv_if_eq (tgt := 15) hx hb d_Mo_step_8 (by decide) (fun c8_1 => ?_) (fun c8_1 => ?_)
  · refine lv_iconst (v := 1) hx hb d_Mo_step_15 (by decide) ?_
    refine put_ms C 0 (ty := .int) q_550 rfl (by decide) rfl (by decide +kernel) rfl rfl wM_s0 hP hD hS d_Mo_step_16 (fun H locs hP hD hS => ?_)
    refine lv_aload_n hx hb d_Mo_step_19 rfl (lv_at hl 0 rfl) ?_
    refine get_mi (x := ((upd x.1 0 1), x.2)) C 0 q_550 rfl (by decide) rfl 1 (pk_us (f := x.1) (k := 0) (x := 1)) hP d_Mo_step_20 ?_
    refine lv_if_le (tgt := 28) hx hb d_Mo_step_23 (by decide) (fun c23_2 => ?_) (fun c23_2 => ?_)
    · exact absurd c23_2 (by decide)
    refine lv_iconst (v := 0) hx hb d_Mo_step_26 (by decide) ?_
    exact hret _ _ _ _ _ _ rfl rfl hP hD hS d_Mo_step_27
  · exact absurd (in1 c8_1) hbad
set_option maxHeartbeats 4000000 in
set_option maxRecDepth 100000 in
theorem c_Mo_step_0 (l : Launch) (g : Glob) (ad : Nat → Nat) (x : MS) (n np : Nat) (hc : ∀ i, i < 17 → x.2 1 i = cosT i) (hn : x.1 2 = nI n) (hp : x.1 12 = nI np) (h3 : n ≤ 3) (h20 : np ≤ 20) (p0 : Int32) (v0 : inI p0 1 20 = 1) : CI l g y_Mo_step b_Mo_step 3 (some .int) 5 127 [.ref (ad 0), .int p0] (wM g ad x) (x.1 11) (wM g ad (stepM n np p0 x)) := by
  refine CI.of .int rfl rfl (by decide +kernel) (Nat.le_of_ble_eq_true rfl) ?_
  intro p e s m below meth c A Q ls C hP hD hl hret hS
  obtain ⟨hx, hb, hml, hown, hw, hE, hA⟩ := id C
  have hl : lv_has ls 3 [(0, .ref (ad 0)), (1, .int p0)] := hl
  refine lv_aload_n hx hb d_Mo_step_0 rfl (lv_at hl 0 rfl) ?_
  refine lv_iload_n hx hb d_Mo_step_1 rfl (lv_at hl 1 rfl) ?_
  refine lv_iconst (v := 1) hx hb d_Mo_step_2 (by decide) ?_
  refine lv_bipush (v := 20) hx hb d_Mo_step_3 (by decide) ?_
  refine csI C v_Mo_152 [.int p0, .int 1, .int 20] [.ref (ad 0)] (c_Mo_in l g p0 1 20) hP hS rfl rfl hl.1 (Nat.le_of_ble_eq_true rfl) ⟨Nat.le_of_ble_eq_true rfl, Nat.le_of_ble_eq_true rfl⟩ d_Mo_step_5 ⟨Nat.zero_le _, Nat.zero_le _⟩ (fun H locs hP hS => ?_)
  refine lv_if_eq (tgt := 15) hx hb d_Mo_step_8 (by decide) (fun c8_1 => ?_) (fun c8_1 => ?_)
  · exact absurd c8_1 (nz1 v0)
  refine lv_iconst (v := 0) hx hb d_Mo_step_11 (by decide) ?_
  refine lv_goto (tgt := 16) hx hb d_Mo_step_12 (by decide) ?_
  refine put_ms C 0 (ty := .int) q_550 rfl (by decide) rfl (by decide +kernel) rfl rfl wM_s0 hP hD hS d_Mo_step_16 (fun H locs hP hD hS => ?_)
  refine lv_aload_n hx hb d_Mo_step_19 rfl (lv_at hl 0 rfl) ?_
  refine get_mi (x := ((upd x.1 0 0), x.2)) C 0 q_550 rfl (by decide) rfl 0 (pk_us (f := x.1) (k := 0) (x := 0)) hP d_Mo_step_20 ?_
  refine lv_if_le (tgt := 28) hx hb d_Mo_step_23 (by decide) (fun c23_2 => ?_) (fun c23_2 => ?_)
  rotate_left
  · exact absurd (by decide) c23_2
  refine lv_aload_n hx hb d_Mo_step_28 rfl (lv_at hl 0 rfl) ?_
  refine get_mi (x := ((upd x.1 0 0), x.2)) C 11 q_561 rfl (by decide) rfl (x.1 11) (pk_un (f := x.1) (k := 0) (x := 0) (j := 11) (by decide)) hP d_Mo_step_29 ?_
  refine lv_istore_n (lv' := [(2, .int (x.1 11)), (0, .ref (ad 0)), (1, .int p0)]) hx hb d_Mo_step_32 rfl hl (by decide) rfl (fun ls hl => ?_)
  refine lv_aload_n hx hb d_Mo_step_33 rfl (lv_at hl 1 rfl) ?_
  refine lv_iload_n hx hb d_Mo_step_34 rfl (lv_at hl 2 rfl) ?_
  refine put_ms C 11 (ty := .int) q_561 rfl (by decide) rfl (by decide +kernel) rfl rfl wM_s11 hP hD hS d_Mo_step_35 (fun H locs hP hD hS => ?_)
  refine lv_aload_n hx hb d_Mo_step_38 rfl (lv_at hl 1 rfl) ?_
  refine cvV C v_Mo_155 [] [] (c_Mo_beginAnew l g ad ((upd (upd x.1 0 0) 11 p0), x.2) n np hc (((pk_un (f := (upd x.1 0 0)) (k := 11) (x := p0) (j := 2) (by decide)).trans (pk_un (f := x.1) (k := 0) (x := 0) (j := 2) (by decide))).trans hn) (((pk_un (f := (upd x.1 0 0)) (k := 11) (x := p0) (j := 12) (by decide)).trans (pk_un (f := x.1) (k := 0) (x := 0) (j := 12) (by decide))).trans hp) h3 h20) hP hD hS [0, 1, 2, 3, 4, 5, 6, 7, 8, 9, 10, 11, 12, 13, 14, 15, 16, 17, 18, 19, 20] [] [0, 1, 2, 3, 4, 5, 6, 7, 8, 9, 10, 11, 12, 13, 14, 15, 16, 17, 18, 19, 20] [] (wM g ad (begM n np ((upd (upd x.1 0 0) 11 p0), x.2))) rfl rfl (by decide) (by decide) (by decide) rfl (by decide) 0 rfl rfl rfl rfl hl.1 (Nat.le_of_ble_eq_true rfl) ⟨Nat.le_of_ble_eq_true rfl, Nat.le_of_ble_eq_true rfl⟩ d_Mo_step_39 ⟨Nat.zero_le _, Nat.zero_le _⟩ (fun H locs hP hD hS => ?_)
  refine lv_iload_n hx hb d_Mo_step_42 rfl (lv_at hl 0 rfl) ?_
  exact hret _ _ _ _ _ _ rfl rfl hP hD hS d_Mo_step_43
set_option maxHeartbeats 4000000 in
set_option maxRecDepth 100000 in
theorem c_Mo_pole_1 (l : Launch) (g : Glob) (ad : Nat → Nat) (x : MS) (p0 p1 : Int32) (hbad : ¬ (inI p0 (-1000) 1000 = 1 ∧ inI p1 (-1000) 1000 = 1)) : CI l g y_Mo_pole b_Mo_pole 3 (some .int) 1 22 [.ref (ad 0), .int p0, .int p1] (wM g ad x) (0) (wM g ad (upd x.1 0 1, x.2)) := by
  refine CI.of .int rfl rfl (by decide +kernel) (Nat.le_of_ble_eq_true rfl) ?_
  intro p e s m below meth c A Q ls C hP hD hl hret hS
  obtain ⟨hx, hb, hml, hown, hw, hE, hA⟩ := id C
  have hl : lv_has ls 3 [(0, .ref (ad 0)), (1, .int p0), (2, .int p1)] := hl
  refine lv_aload_n hx hb d_Mo_pole_0 rfl (lv_at hl 0 rfl) ?_
  refine lv_iload_n hx hb d_Mo_pole_1 rfl (lv_at hl 1 rfl) ?_
  refine lv_sipush (v := (-1000)) hx hb d_Mo_pole_2 (by decide) ?_
  refine lv_sipush (v := 1000) hx hb d_Mo_pole_5 (by decide) ?_
  refine csI C v_Mo_152 [.int p0, .int (-1000), .int 1000] [.ref (ad 0)] (c_Mo_in l g p0 (-1000) 1000) hP hS rfl rfl hl.1 (Nat.le_of_ble_eq_true rfl) ⟨Nat.le_of_ble_eq_true rfl, Nat.le_of_ble_eq_true rfl⟩ d_Mo_pole_8 ⟨Nat.zero_le _, Nat.zero_le _⟩ (fun H locs hP hS => ?_)
  refine lv_if_eq (tgt := 27) hx hb d_Mo_pole_11 (by decide) (fun c11_1 => ?_) (fun c11_1 => ?_)
  · refine lv_iconst (v := 1) hx hb d_Mo_pole_27 (by decide) ?_
    refine lv_goto (tgt := 45) hx hb d_Mo_pole_28 (by decide) ?_
    refine put_ms C 0 (ty := .int) q_550 rfl (by decide) rfl (by decide +kernel) rfl rfl wM_s0 hP hD hS d_Mo_pole_45 (fun H locs hP hD hS => ?_)
    refine lv_aload_n hx hb d_Mo_pole_48 rfl (lv_at hl 0 rfl) ?_
    refine get_mi (x := ((upd x.1 0 1), x.2)) C 0 q_550 rfl (by decide) rfl 1 (pk_us (f := x.1) (k := 0) (x := 1)) hP d_Mo_pole_49 ?_
    refine lv_if_le (tgt := 57) hx hb d_Mo_pole_52 (by decide) (fun c52_2 => ?_) (fun c52_2 => ?_)
    · exact absurd c52_2 (by decide)
    refine lv_iconst (v := 0) hx hb d_Mo_pole_55 (by decide) ?_
    exact hret _ _ _ _ _ _ rfl rfl hP hD hS d_Mo_pole_56
  · refine lv_iload_n hx hb d_Mo_pole_14 rfl (lv_at hl 2 rfl) ?_
    refine lv_sipush (v := (-1000)) hx hb d_Mo_pole_15 (by decide) ?_
    refine lv_sipush (v := 1000) hx hb d_Mo_pole_18 (by decide) ?_
    refine csI C v_Mo_152 [.int p1, .int (-1000), .int 1000] [.ref (ad 0)] (c_Mo_in l g p1 (-1000) 1000) hP hS rfl rfl hl.1 (Nat.le_of_ble_eq_true rfl) ⟨Nat.le_of_ble_eq_true rfl, Nat.le_of_ble_eq_true rfl⟩ d_Mo_pole_21 ⟨Nat.zero_le _, Nat.zero_le _⟩ (fun H locs hP hS => ?_)
    refine lv_if_ne (tgt := 31) hx hb d_Mo_pole_24 (by decide) (fun c24_3 => ?_) (fun c24_3 => ?_)
    · exact absurd ⟨in1 c11_1, in1 c24_3⟩ hbad
    · refine lv_iconst (v := 1) hx hb d_Mo_pole_27 (by decide) ?_
      refine lv_goto (tgt := 45) hx hb d_Mo_pole_28 (by decide) ?_
      refine put_ms C 0 (ty := .int) q_550 rfl (by decide) rfl (by decide +kernel) rfl rfl wM_s0 hP hD hS d_Mo_pole_45 (fun H locs hP hD hS => ?_)
      refine lv_aload_n hx hb d_Mo_pole_48 rfl (lv_at hl 0 rfl) ?_
      refine get_mi (x := ((upd x.1 0 1), x.2)) C 0 q_550 rfl (by decide) rfl 1 (pk_us (f := x.1) (k := 0) (x := 1)) hP d_Mo_pole_49 ?_
      refine lv_if_le (tgt := 57) hx hb d_Mo_pole_52 (by decide) (fun c52_4 => ?_) (fun c52_4 => ?_)
      · exact absurd c52_4 (by decide)
      refine lv_iconst (v := 0) hx hb d_Mo_pole_55 (by decide) ?_
      exact hret _ _ _ _ _ _ rfl rfl hP hD hS d_Mo_pole_56
set_option maxHeartbeats 4000000 in
set_option maxRecDepth 100000 in
theorem c_Mo_pole_2 (l : Launch) (g : Glob) (ad : Nat → Nat) (x : MS) (p0 p1 : Int32) (v0 : inI p0 (-1000) 1000 = 1) (v1 : inI p1 (-1000) 1000 = 1) (hfull : x.1 12 = 20) : CI l g y_Mo_pole b_Mo_pole 3 (some .int) 1 22 [.ref (ad 0), .int p0, .int p1] (wM g ad x) (0) (wM g ad (upd x.1 0 2, x.2)) := by
  refine CI.of .int rfl rfl (by decide +kernel) (Nat.le_of_ble_eq_true rfl) ?_
  intro p e s m below meth c A Q ls C hP hD hl hret hS
  obtain ⟨hx, hb, hml, hown, hw, hE, hA⟩ := id C
  have hl : lv_has ls 3 [(0, .ref (ad 0)), (1, .int p0), (2, .int p1)] := hl
  refine lv_aload_n hx hb d_Mo_pole_0 rfl (lv_at hl 0 rfl) ?_
  refine lv_iload_n hx hb d_Mo_pole_1 rfl (lv_at hl 1 rfl) ?_
  refine lv_sipush (v := (-1000)) hx hb d_Mo_pole_2 (by decide) ?_
  refine lv_sipush (v := 1000) hx hb d_Mo_pole_5 (by decide) ?_
  refine csI C v_Mo_152 [.int p0, .int (-1000), .int 1000] [.ref (ad 0)] (c_Mo_in l g p0 (-1000) 1000) hP hS rfl rfl hl.1 (Nat.le_of_ble_eq_true rfl) ⟨Nat.le_of_ble_eq_true rfl, Nat.le_of_ble_eq_true rfl⟩ d_Mo_pole_8 ⟨Nat.zero_le _, Nat.zero_le _⟩ (fun H locs hP hS => ?_)
  refine lv_if_eq (tgt := 27) hx hb d_Mo_pole_11 (by decide) (fun c11_1 => ?_) (fun c11_1 => ?_)
  · exact absurd c11_1 (nz1 v0)
  refine lv_iload_n hx hb d_Mo_pole_14 rfl (lv_at hl 2 rfl) ?_
  refine lv_sipush (v := (-1000)) hx hb d_Mo_pole_15 (by decide) ?_
  refine lv_sipush (v := 1000) hx hb d_Mo_pole_18 (by decide) ?_
  refine csI C v_Mo_152 [.int p1, .int (-1000), .int 1000] [.ref (ad 0)] (c_Mo_in l g p1 (-1000) 1000) hP hS rfl rfl hl.1 (Nat.le_of_ble_eq_true rfl) ⟨Nat.le_of_ble_eq_true rfl, Nat.le_of_ble_eq_true rfl⟩ d_Mo_pole_21 ⟨Nat.zero_le _, Nat.zero_le _⟩ (fun H locs hP hS => ?_)
  refine lv_if_ne (tgt := 31) hx hb d_Mo_pole_24 (by decide) (fun c24_2 => ?_) (fun c24_2 => ?_)
  rotate_left
  · exact absurd c24_2 (nz1 v1)
  refine lv_aload_n hx hb d_Mo_pole_31 rfl (lv_at hl 0 rfl) ?_
  refine get_mi (x := x) C 12 q_562 rfl (by decide) rfl (x.1 12) rfl hP d_Mo_pole_32 ?_
  refine lv_bipush (v := 20) hx hb d_Mo_pole_35 (by decide) ?_
  refine lv_icmp_ne (tgt := 44) hx hb d_Mo_pole_37 (by decide) (fun c37_3 => ?_) (fun c37_3 => ?_)
  · exact absurd c37_3 (fun q => q hfull)
  refine lv_iconst (v := 2) hx hb d_Mo_pole_40 (by decide) ?_
  refine lv_goto (tgt := 45) hx hb d_Mo_pole_41 (by decide) ?_
  refine put_ms C 0 (ty := .int) q_550 rfl (by decide) rfl (by decide +kernel) rfl rfl wM_s0 hP hD hS d_Mo_pole_45 (fun H locs hP hD hS => ?_)
  refine lv_aload_n hx hb d_Mo_pole_48 rfl (lv_at hl 0 rfl) ?_
  refine get_mi (x := ((upd x.1 0 2), x.2)) C 0 q_550 rfl (by decide) rfl 2 (pk_us (f := x.1) (k := 0) (x := 2)) hP d_Mo_pole_49 ?_
  refine lv_if_le (tgt := 57) hx hb d_Mo_pole_52 (by decide) (fun c52_4 => ?_) (fun c52_4 => ?_)
  · exact absurd c52_4 (by decide)
  refine lv_iconst (v := 0) hx hb d_Mo_pole_55 (by decide) ?_
  exact hret _ _ _ _ _ _ rfl rfl hP hD hS d_Mo_pole_56
set_option maxHeartbeats 4000000 in
set_option maxRecDepth 100000 in
theorem c_Mo_pole_0 (l : Launch) (g : Glob) (ad : Nat → Nat) (x : MS) (np : Nat) (hp : x.1 12 = nI np) (h20 : np < 20) (p0 p1 : Int32) (v0 : inI p0 (-1000) 1000 = 1) (v1 : inI p1 (-1000) 1000 = 1) (hfull : ¬ x.1 12 = 20) : CI l g y_Mo_pole b_Mo_pole 3 (some .int) 1 22 [.ref (ad 0), .int p0, .int p1] (wM g ad x) (x.1 12) (wM g ad (poleM np p0 p1 x)) := by
  refine CI.of .int rfl rfl (by decide +kernel) (Nat.le_of_ble_eq_true rfl) ?_
  intro p e s m below meth c A Q ls C hP hD hl hret hS
  obtain ⟨hx, hb, hml, hown, hw, hE, hA⟩ := id C
  have hl : lv_has ls 3 [(0, .ref (ad 0)), (1, .int p0), (2, .int p1)] := hl
  refine lv_aload_n hx hb d_Mo_pole_0 rfl (lv_at hl 0 rfl) ?_
  refine lv_iload_n hx hb d_Mo_pole_1 rfl (lv_at hl 1 rfl) ?_
  refine lv_sipush (v := (-1000)) hx hb d_Mo_pole_2 (by decide) ?_
  refine lv_sipush (v := 1000) hx hb d_Mo_pole_5 (by decide) ?_
  refine csI C v_Mo_152 [.int p0, .int (-1000), .int 1000] [.ref (ad 0)] (c_Mo_in l g p0 (-1000) 1000) hP hS rfl rfl hl.1 (Nat.le_of_ble_eq_true rfl) ⟨Nat.le_of_ble_eq_true rfl, Nat.le_of_ble_eq_true rfl⟩ d_Mo_pole_8 ⟨Nat.zero_le _, Nat.zero_le _⟩ (fun H locs hP hS => ?_)
  refine lv_if_eq (tgt := 27) hx hb d_Mo_pole_11 (by decide) (fun c11_1 => ?_) (fun c11_1 => ?_)
  · exact absurd c11_1 (nz1 v0)
  refine lv_iload_n hx hb d_Mo_pole_14 rfl (lv_at hl 2 rfl) ?_
  refine lv_sipush (v := (-1000)) hx hb d_Mo_pole_15 (by decide) ?_
  refine lv_sipush (v := 1000) hx hb d_Mo_pole_18 (by decide) ?_
  refine csI C v_Mo_152 [.int p1, .int (-1000), .int 1000] [.ref (ad 0)] (c_Mo_in l g p1 (-1000) 1000) hP hS rfl rfl hl.1 (Nat.le_of_ble_eq_true rfl) ⟨Nat.le_of_ble_eq_true rfl, Nat.le_of_ble_eq_true rfl⟩ d_Mo_pole_21 ⟨Nat.zero_le _, Nat.zero_le _⟩ (fun H locs hP hS => ?_)
  refine lv_if_ne (tgt := 31) hx hb d_Mo_pole_24 (by decide) (fun c24_2 => ?_) (fun c24_2 => ?_)
  rotate_left
  · exact absurd c24_2 (nz1 v1)
  refine lv_aload_n hx hb d_Mo_pole_31 rfl (lv_at hl 0 rfl) ?_
  refine get_mi (x := x) C 12 q_562 rfl (by decide) rfl (x.1 12) rfl hP d_Mo_pole_32 ?_
  refine lv_bipush (v := 20) hx hb d_Mo_pole_35 (by decide) ?_
  refine lv_icmp_ne (tgt := 44) hx hb d_Mo_pole_37 (by decide) (fun c37_3 => ?_) (fun c37_3 => ?_)
  rotate_left
  · exact absurd c37_3 (fun q => hfull q)
  refine lv_iconst (v := 0) hx hb d_Mo_pole_44 (by decide) ?_
  refine put_ms C 0 (ty := .int) q_550 rfl (by decide) rfl (by decide +kernel) rfl rfl wM_s0 hP hD hS d_Mo_pole_45 (fun H locs hP hD hS => ?_)
  refine lv_aload_n hx hb d_Mo_pole_48 rfl (lv_at hl 0 rfl) ?_
  refine get_mi (x := ((upd x.1 0 0), x.2)) C 0 q_550 rfl (by decide) rfl 0 (pk_us (f := x.1) (k := 0) (x := 0)) hP d_Mo_pole_49 ?_
  refine lv_if_le (tgt := 57) hx hb d_Mo_pole_52 (by decide) (fun c52_4 => ?_) (fun c52_4 => ?_)
  rotate_left
  · exact absurd (by decide) c52_4
  refine lv_aload_n hx hb d_Mo_pole_57 rfl (lv_at hl 0 rfl) ?_
  refine get_ms (x := ((upd x.1 0 0), x.2)) C 13 q_563 rfl (by decide) (.ref (ad 7)) rfl hP d_Mo_pole_58 ?_
  refine lv_aload_n hx hb d_Mo_pole_61 rfl (lv_at hl 0 rfl) ?_
  refine get_mi (x := ((upd x.1 0 0), x.2)) C 12 q_562 rfl (by decide) rfl (x.1 12) (pk_un (f := x.1) (k := 0) (x := 0) (j := 12) (by decide)) hP d_Mo_pole_62 ?_
  refine lv_iload_n hx hb d_Mo_pole_65 rfl (lv_at hl 1 rfl) ?_
  refine put_ma C 7 20 rfl (inN hp h20 (by omega)) np (clN hp (by omega)) wM_a7 hP hD hS d_Mo_pole_66 (fun H locs hP hD hS => ?_)
  refine lv_aload_n hx hb d_Mo_pole_67 rfl (lv_at hl 0 rfl) ?_
  refine get_ms (x := ((upd x.1 0 0), (u2 x.2 7 np p0))) C 14 q_564 rfl (by decide) (.ref (ad 8)) rfl hP d_Mo_pole_68 ?_
  refine lv_aload_n hx hb d_Mo_pole_71 rfl (lv_at hl 0 rfl) ?_
  refine get_mi (x := ((upd x.1 0 0), (u2 x.2 7 np p0))) C 12 q_562 rfl (by decide) rfl (x.1 12) (pk_un (f := x.1) (k := 0) (x := 0) (j := 12) (by decide)) hP d_Mo_pole_72 ?_
  refine lv_iload_n hx hb d_Mo_pole_75 rfl (lv_at hl 2 rfl) ?_
  refine put_ma C 8 20 rfl (inN hp h20 (by omega)) np (clN hp (by omega)) wM_a8 hP hD hS d_Mo_pole_76 (fun H locs hP hD hS => ?_)
  refine lv_aload_n hx hb d_Mo_pole_77 rfl (lv_at hl 0 rfl) ?_
  refine lv_dup hx hb d_Mo_pole_78 rfl ?_
  refine get_mi (x := ((upd x.1 0 0), (u2 (u2 x.2 7 np p0) 8 np p1))) C 12 q_562 rfl (by decide) rfl (x.1 12) (pk_un (f := x.1) (k := 0) (x := 0) (j := 12) (by decide)) hP d_Mo_pole_79 ?_
  refine lv_iconst (v := 1) hx hb d_Mo_pole_82 (by decide) ?_
  refine lv_iadd hx hb d_Mo_pole_83 ?_
  refine put_ms C 12 (ty := .int) q_562 rfl (by decide) rfl (by decide +kernel) rfl rfl wM_s12 hP hD hS d_Mo_pole_84 (fun H locs hP hD hS => ?_)
  refine lv_aload_n hx hb d_Mo_pole_87 rfl (lv_at hl 0 rfl) ?_
  refine get_mi (x := ((upd (upd x.1 0 0) 12 ((x.1 12) + 1)), (u2 (u2 x.2 7 np p0) 8 np p1))) C 12 q_562 rfl (by decide) rfl ((x.1 12) + 1) (pk_us (f := (upd x.1 0 0)) (k := 12) (x := ((x.1 12) + 1))) hP d_Mo_pole_88 ?_
  refine lv_iconst (v := 1) hx hb d_Mo_pole_91 (by decide) ?_
  refine lv_isub hx hb d_Mo_pole_92 ?_
  exact hret _ _ _ _ _ _ (add_sub1 _) rfl hP hD hS d_Mo_pole_93
set_option maxHeartbeats 4000000 in
set_option maxRecDepth 100000 in
theorem c_Mo_go_1 (l : Launch) (g : Glob) (ad : Nat → Nat) (x : MS) (p0 p1 p2 : Int32) (hbad : ¬ (inI p0 (-3) 3 = 1 ∧ inI p1 1 200 = 1)) : CI l g y_Mo_go b_Mo_go 4 (some .int) 6 156 [.ref (ad 0), .int p0, .int p1, .int p2] (wM g ad x) (0) (wM g ad (upd x.1 0 1, x.2)) := by
  refine CI.of .int rfl rfl (by decide +kernel) (Nat.le_of_ble_eq_true rfl) ?_
  intro p e s m below meth c A Q ls C hP hD hl hret hS
  obtain ⟨hx, hb, hml, hown, hw, hE, hA⟩ := id C
  have hl : lv_has ls 4 [(0, .ref (ad 0)), (1, .int p0), (2, .int p1), (3, .int p2)] := hl
  refine lv_aload_n hx hb d_Mo_go_0 rfl (lv_at hl 0 rfl) ?_
  refine lv_iload_n hx hb d_Mo_go_1 rfl (lv_at hl 1 rfl) ?_
  refine lv_bipush (v := (-3)) hx hb d_Mo_go_2 (by decide) ?_
  refine lv_iconst (v := 3) hx hb d_Mo_go_4 (by decide) ?_
  refine csI C v_Mo_152 [.int p0, .int (-3), .int 3] [.ref (ad 0)] (c_Mo_in l g p0 (-3) 3) hP hS rfl rfl hl.1 (Nat.le_of_ble_eq_true rfl) ⟨Nat.le_of_ble_eq_true rfl, Nat.le_of_ble_eq_true rfl⟩ d_Mo_go_5 ⟨Nat.zero_le _, Nat.zero_le _⟩ (fun H locs hP hS => ?_)
  refine lv_if_eq (tgt := 22) hx hb d_Mo_go_8 (by decide) (fun c8_1 => ?_) (fun c8_1 => ?_)
  · refine lv_iconst (v := 1) hx hb d_Mo_go_22 (by decide) ?_
    refine lv_goto (tgt := 38) hx hb d_Mo_go_23 (by decide) ?_
    refine put_ms C 0 (ty := .int) q_550 rfl (by decide) rfl (by decide +kernel) rfl rfl wM_s0 hP hD hS d_Mo_go_38 (fun H locs hP hD hS => ?_)
    refine lv_aload_n hx hb d_Mo_go_41 rfl (lv_at hl 0 rfl) ?_
    refine get_mi (x := ((upd x.1 0 1), x.2)) C 0 q_550 rfl (by decide) rfl 1 (pk_us (f := x.1) (k := 0) (x := 1)) hP d_Mo_go_42 ?_
    refine lv_if_le (tgt := 50) hx hb d_Mo_go_45 (by decide) (fun c45_2 => ?_) (fun c45_2 => ?_)
    · exact absurd c45_2 (by decide)
    refine lv_iconst (v := 0) hx hb d_Mo_go_48 (by decide) ?_
    exact hret _ _ _ _ _ _ rfl rfl hP hD hS d_Mo_go_49
  · refine lv_iload_n hx hb d_Mo_go_11 rfl (lv_at hl 2 rfl) ?_
    refine lv_iconst (v := 1) hx hb d_Mo_go_12 (by decide) ?_
    refine lv_sipush (v := 200) hx hb d_Mo_go_13 (by decide) ?_
    refine csI C v_Mo_152 [.int p1, .int 1, .int 200] [.ref (ad 0)] (c_Mo_in l g p1 1 200) hP hS rfl rfl hl.1 (Nat.le_of_ble_eq_true rfl) ⟨Nat.le_of_ble_eq_true rfl, Nat.le_of_ble_eq_true rfl⟩ d_Mo_go_16 ⟨Nat.zero_le _, Nat.zero_le _⟩ (fun H locs hP hS => ?_)
    refine lv_if_ne (tgt := 26) hx hb d_Mo_go_19 (by decide) (fun c19_3 => ?_) (fun c19_3 => ?_)
    · exact absurd ⟨in1 c8_1, in1 c19_3⟩ hbad
    · refine lv_iconst (v := 1) hx hb d_Mo_go_22 (by decide) ?_
      refine lv_goto (tgt := 38) hx hb d_Mo_go_23 (by decide) ?_
      refine put_ms C 0 (ty := .int) q_550 rfl (by decide) rfl (by decide +kernel) rfl rfl wM_s0 hP hD hS d_Mo_go_38 (fun H locs hP hD hS => ?_)
      refine lv_aload_n hx hb d_Mo_go_41 rfl (lv_at hl 0 rfl) ?_
      refine get_mi (x := ((upd x.1 0 1), x.2)) C 0 q_550 rfl (by decide) rfl 1 (pk_us (f := x.1) (k := 0) (x := 1)) hP d_Mo_go_42 ?_
      refine lv_if_le (tgt := 50) hx hb d_Mo_go_45 (by decide) (fun c45_4 => ?_) (fun c45_4 => ?_)
      · exact absurd c45_4 (by decide)
      refine lv_iconst (v := 0) hx hb d_Mo_go_48 (by decide) ?_
      exact hret _ _ _ _ _ _ rfl rfl hP hD hS d_Mo_go_49
set_option maxHeartbeats 4000000 in
set_option maxRecDepth 100000 in
theorem c_Mo_go_2 (l : Launch) (g : Glob) (ad : Nat → Nat) (x : MS) (p0 p1 p2 : Int32) (v0 : inI p0 (-3) 3 = 1) (v1 : inI p1 1 200 = 1) (h0 : x.1 2 = 0) : CI l g y_Mo_go b_Mo_go 4 (some .int) 6 156 [.ref (ad 0), .int p0, .int p1, .int p2] (wM g ad x) (0) (wM g ad (upd x.1 0 2, x.2)) := by
  refine CI.of .int rfl rfl (by decide +kernel) (Nat.le_of_ble_eq_true rfl) ?_
  intro p e s m below meth c A Q ls C hP hD hl hret hS
  obtain ⟨hx, hb, hml, hown, hw, hE, hA⟩ := id C
  have hl : lv_has ls 4 [(0, .ref (ad 0)), (1, .int p0), (2, .int p1), (3, .int p2)] := hl
  refine lv_aload_n hx hb d_Mo_go_0 rfl (lv_at hl 0 rfl) ?_
  refine lv_iload_n hx hb d_Mo_go_1 rfl (lv_at hl 1 rfl) ?_
  refine lv_bipush (v := (-3)) hx hb d_Mo_go_2 (by decide) ?_
  refine lv_iconst (v := 3) hx hb d_Mo_go_4 (by decide) ?_
  refine csI C v_Mo_152 [.int p0, .int (-3), .int 3] [.ref (ad 0)] (c_Mo_in l g p0 (-3) 3) hP hS rfl rfl hl.1 (Nat.le_of_ble_eq_true rfl) ⟨Nat.le_of_ble_eq_true rfl, Nat.le_of_ble_eq_true rfl⟩ d_Mo_go_5 ⟨Nat.zero_le _, Nat.zero_le _⟩ (fun H locs hP hS => ?_)
  refine lv_if_eq (tgt := 22) hx hb d_Mo_go_8 (by decide) (fun c8_1 => ?_) (fun c8_1 => ?_)
  · exact absurd c8_1 (nz1 v0)
  refine lv_iload_n hx hb d_Mo_go_11 rfl (lv_at hl 2 rfl) ?_
  refine lv_iconst (v := 1) hx hb d_Mo_go_12 (by decide) ?_
  refine lv_sipush (v := 200) hx hb d_Mo_go_13 (by decide) ?_
  refine csI C v_Mo_152 [.int p1, .int 1, .int 200] [.ref (ad 0)] (c_Mo_in l g p1 1 200) hP hS rfl rfl hl.1 (Nat.le_of_ble_eq_true rfl) ⟨Nat.le_of_ble_eq_true rfl, Nat.le_of_ble_eq_true rfl⟩ d_Mo_go_16 ⟨Nat.zero_le _, Nat.zero_le _⟩ (fun H locs hP hS => ?_)
  refine lv_if_ne (tgt := 26) hx hb d_Mo_go_19 (by decide) (fun c19_2 => ?_) (fun c19_2 => ?_)
  rotate_left
  · exact absurd c19_2 (nz1 v1)
  refine lv_aload_n hx hb d_Mo_go_26 rfl (lv_at hl 0 rfl) ?_
  refine get_mi (x := x) C 2 q_552 rfl (by decide) rfl (x.1 2) rfl hP d_Mo_go_27 ?_
  refine lv_if_ne (tgt := 37) hx hb d_Mo_go_30 (by decide) (fun c30_3 => ?_) (fun c30_3 => ?_)
  · exact absurd c30_3 (fun q => q h0)
  refine lv_iconst (v := 2) hx hb d_Mo_go_33 (by decide) ?_
  refine lv_goto (tgt := 38) hx hb d_Mo_go_34 (by decide) ?_
  refine put_ms C 0 (ty := .int) q_550 rfl (by decide) rfl (by decide +kernel) rfl rfl wM_s0 hP hD hS d_Mo_go_38 (fun H locs hP hD hS => ?_)
  refine lv_aload_n hx hb d_Mo_go_41 rfl (lv_at hl 0 rfl) ?_
  refine get_mi (x := ((upd x.1 0 2), x.2)) C 0 q_550 rfl (by decide) rfl 2 (pk_us (f := x.1) (k := 0) (x := 2)) hP d_Mo_go_42 ?_
  refine lv_if_le (tgt := 50) hx hb d_Mo_go_45 (by decide) (fun c45_4 => ?_) (fun c45_4 => ?_)
  · exact absurd c45_4 (by decide)
  refine lv_iconst (v := 0) hx hb d_Mo_go_48 (by decide) ?_
  exact hret _ _ _ _ _ _ rfl rfl hP hD hS d_Mo_go_49
set_option maxHeartbeats 4000000 in
set_option maxRecDepth 100000 in
theorem c_Mo_go_0 (l : Launch) (g : Glob) (ad : Nat → Nat) (x : MS) (n np : Nat) (hI : InvG n np x) (h3 : n ≤ 3) (h20 : np ≤ 20) (p0 p1 p2 : Int32) (v0 : inI p0 (-3) 3 = 1) (v1 : inI p1 1 200 = 1) (h0 : ¬ x.1 2 = 0) (N : Nat) (hN : p1 = nI N) (hN6 : N ≤ 1000000) : CI l g y_Mo_go b_Mo_go 4 (some .int) 6 156 [.ref (ad 0), .int p0, .int p1, .int p2] (wM g ad x) ((goM n np p0 N p2 (upd x.1 0 0, x.2)).1 24) (wM g ad (goM n np p0 N p2 (upd x.1 0 0, x.2))) := by
  refine CI.of .int rfl rfl (by decide +kernel) (Nat.le_of_ble_eq_true rfl) ?_
  intro p e s m below meth c A Q ls C hP hD hl hret hS
  obtain ⟨hx, hb, hml, hown, hw, hE, hA⟩ := id C
  have hl : lv_has ls 4 [(0, .ref (ad 0)), (1, .int p0), (2, .int p1), (3, .int p2)] := hl
  refine lv_aload_n hx hb d_Mo_go_0 rfl (lv_at hl 0 rfl) ?_
  refine lv_iload_n hx hb d_Mo_go_1 rfl (lv_at hl 1 rfl) ?_
  refine lv_bipush (v := (-3)) hx hb d_Mo_go_2 (by decide) ?_
  refine lv_iconst (v := 3) hx hb d_Mo_go_4 (by decide) ?_
  refine csI C v_Mo_152 [.int p0, .int (-3), .int 3] [.ref (ad 0)] (c_Mo_in l g p0 (-3) 3) hP hS rfl rfl hl.1 (Nat.le_of_ble_eq_true rfl) ⟨Nat.le_of_ble_eq_true rfl, Nat.le_of_ble_eq_true rfl⟩ d_Mo_go_5 ⟨Nat.zero_le _, Nat.zero_le _⟩ (fun H locs hP hS => ?_)
  refine lv_if_eq (tgt := 22) hx hb d_Mo_go_8 (by decide) (fun c8_1 => ?_) (fun c8_1 => ?_)
  · exact absurd c8_1 (nz1 v0)
  refine lv_iload_n hx hb d_Mo_go_11 rfl (lv_at hl 2 rfl) ?_
  refine lv_iconst (v := 1) hx hb d_Mo_go_12 (by decide) ?_
  refine lv_sipush (v := 200) hx hb d_Mo_go_13 (by decide) ?_
  refine csI C v_Mo_152 [.int p1, .int 1, .int 200] [.ref (ad 0)] (c_Mo_in l g p1 1 200) hP hS rfl rfl hl.1 (Nat.le_of_ble_eq_true rfl) ⟨Nat.le_of_ble_eq_true rfl, Nat.le_of_ble_eq_true rfl⟩ d_Mo_go_16 ⟨Nat.zero_le _, Nat.zero_le _⟩ (fun H locs hP hS => ?_)
  refine lv_if_ne (tgt := 26) hx hb d_Mo_go_19 (by decide) (fun c19_2 => ?_) (fun c19_2 => ?_)
  rotate_left
  · exact absurd c19_2 (nz1 v1)
  refine lv_aload_n hx hb d_Mo_go_26 rfl (lv_at hl 0 rfl) ?_
  refine get_mi (x := x) C 2 q_552 rfl (by decide) rfl (x.1 2) rfl hP d_Mo_go_27 ?_
  refine lv_if_ne (tgt := 37) hx hb d_Mo_go_30 (by decide) (fun c30_3 => ?_) (fun c30_3 => ?_)
  rotate_left
  · exact absurd c30_3 (fun q => h0 q)
  refine lv_iconst (v := 0) hx hb d_Mo_go_37 (by decide) ?_
  refine put_ms C 0 (ty := .int) q_550 rfl (by decide) rfl (by decide +kernel) rfl rfl wM_s0 hP hD hS d_Mo_go_38 (fun H locs hP hD hS => ?_)
  refine lv_aload_n hx hb d_Mo_go_41 rfl (lv_at hl 0 rfl) ?_
  refine get_mi (x := ((upd x.1 0 0), x.2)) C 0 q_550 rfl (by decide) rfl 0 (pk_us (f := x.1) (k := 0) (x := 0)) hP d_Mo_go_42 ?_
  refine lv_if_le (tgt := 50) hx hb d_Mo_go_45 (by decide) (fun c45_4 => ?_) (fun c45_4 => ?_)
  rotate_left
  · exact absurd (by decide) c45_4
  refine lv_aload_n hx hb d_Mo_go_50 rfl (lv_at hl 0 rfl) ?_
  refine lv_iload_n hx hb d_Mo_go_51 rfl (lv_at hl 1 rfl) ?_
  refine lv_iload_n hx hb d_Mo_go_52 rfl (lv_at hl 2 rfl) ?_
  refine lv_iload_n hx hb d_Mo_go_53 rfl (lv_at hl 3 rfl) ?_
  refine cvV C v_Mo_158 [.int p0, .int p1, .int p2] [] (c_Mo_goOn l g ad ((upd x.1 0 0), x.2) n np ⟨hI.1, hI.2.1, hI.2.2.1, hI.2.2.2.1, hI.2.2.2.2⟩ h3 h20 p0 p1 p2 N hN hN6) hP hD hS [0, 1, 2, 3, 4, 5, 6, 7, 8, 9, 10, 11, 12, 13, 14, 15, 16, 17, 18, 19, 20] [] [0, 1, 2, 3, 4, 5, 6, 7, 8, 9, 10, 11, 12, 13, 14, 15, 16, 17, 18, 19, 20] [] (wM g ad (goM n np p0 N p2 ((upd x.1 0 0), x.2))) rfl rfl (by decide) (by decide) (by decide) rfl (by decide) 0 rfl rfl rfl rfl hl.1 (Nat.le_of_ble_eq_true rfl) ⟨Nat.le_of_ble_eq_true rfl, Nat.le_of_ble_eq_true rfl⟩ d_Mo_go_54 ⟨Nat.zero_le _, Nat.zero_le _⟩ (fun H locs hP hD hS => ?_)
  refine lv_aload_n hx hb d_Mo_go_57 rfl (lv_at hl 0 rfl) ?_
  refine get_mi (x := (goM n np p0 N p2 ((upd x.1 0 0), x.2))) C 24 q_574 rfl (by decide) rfl ((goM n np p0 N p2 ((upd x.1 0 0), x.2)).1 24) rfl hP d_Mo_go_58 ?_
  exact hret _ _ _ _ _ _ rfl rfl hP hD hS d_Mo_go_61
set_option maxHeartbeats 4000000 in
set_option maxRecDepth 100000 in
theorem c_Mo_told_1 (l : Launch) (g : Glob) (ad : Nat → Nat) (x : MS) (p0 p1 : Int32) (hbad : ¬ (inI p0 0 (x.1 2 - 1) = 1 ∧ inI p1 0 4 = 1)) : CI l g y_Mo_told b_Mo_told 3 (some .int) 2 41 [.ref (ad 0), .int p0, .int p1] (wM g ad x) (0) (wM g ad (upd x.1 0 1, x.2)) := by
  refine CI.of .int rfl rfl (by decide +kernel) (Nat.le_of_ble_eq_true rfl) ?_
  intro p e s m below meth c A Q ls C hP hD hl hret hS
  obtain ⟨hx, hb, hml, hown, hw, hE, hA⟩ := id C
  have hl : lv_has ls 3 [(0, .ref (ad 0)), (1, .int p0), (2, .int p1)] := hl
  refine lv_aload_n hx hb d_Mo_told_0 rfl (lv_at hl 0 rfl) ?_
  refine lv_iload_n hx hb d_Mo_told_1 rfl (lv_at hl 1 rfl) ?_
  refine lv_iconst (v := 0) hx hb d_Mo_told_2 (by decide) ?_
  refine lv_aload_n hx hb d_Mo_told_3 rfl (lv_at hl 0 rfl) ?_
  refine get_mi (x := x) C 2 q_552 rfl (by decide) rfl (x.1 2) rfl hP d_Mo_told_4 ?_
  refine lv_iconst (v := 1) hx hb d_Mo_told_7 (by decide) ?_
  refine lv_isub hx hb d_Mo_told_8 ?_
  refine csI C v_Mo_152 [.int p0, .int 0, .int ((x.1 2) - 1)] [.ref (ad 0)] (c_Mo_in l g p0 0 ((x.1 2) - 1)) hP hS rfl rfl hl.1 (Nat.le_of_ble_eq_true rfl) ⟨Nat.le_of_ble_eq_true rfl, Nat.le_of_ble_eq_true rfl⟩ d_Mo_told_9 ⟨Nat.zero_le _, Nat.zero_le _⟩ (fun H locs hP hS => ?_)
  refine lv_if_eq (tgt := 28) hx hb d_Mo_told_12 (by decide) (fun c12_1 => ?_) (fun c12_1 => ?_)
  · refine lv_iconst (v := 1) hx hb d_Mo_told_28 (by decide) ?_
    refine put_ms C 0 (ty := .int) q_550 rfl (by decide) rfl (by decide +kernel) rfl rfl wM_s0 hP hD hS d_Mo_told_29 (fun H locs hP hD hS => ?_)
    refine lv_aload_n hx hb d_Mo_told_32 rfl (lv_at hl 0 rfl) ?_
    refine get_mi (x := ((upd x.1 0 1), x.2)) C 0 q_550 rfl (by decide) rfl 1 (pk_us (f := x.1) (k := 0) (x := 1)) hP d_Mo_told_33 ?_
    refine lv_if_le (tgt := 41) hx hb d_Mo_told_36 (by decide) (fun c36_2 => ?_) (fun c36_2 => ?_)
    · exact absurd c36_2 (by decide)
    refine lv_iconst (v := 0) hx hb d_Mo_told_39 (by decide) ?_
    exact hret _ _ _ _ _ _ rfl rfl hP hD hS d_Mo_told_40
  · refine lv_iload_n hx hb d_Mo_told_15 rfl (lv_at hl 2 rfl) ?_
    refine lv_iconst (v := 0) hx hb d_Mo_told_16 (by decide) ?_
    refine lv_iconst (v := 4) hx hb d_Mo_told_17 (by decide) ?_
    refine csI C v_Mo_152 [.int p1, .int 0, .int 4] [.ref (ad 0)] (c_Mo_in l g p1 0 4) hP hS rfl rfl hl.1 (Nat.le_of_ble_eq_true rfl) ⟨Nat.le_of_ble_eq_true rfl, Nat.le_of_ble_eq_true rfl⟩ d_Mo_told_18 ⟨Nat.zero_le _, Nat.zero_le _⟩ (fun H locs hP hS => ?_)
    refine lv_if_eq (tgt := 28) hx hb d_Mo_told_21 (by decide) (fun c21_3 => ?_) (fun c21_3 => ?_)
    · refine lv_iconst (v := 1) hx hb d_Mo_told_28 (by decide) ?_
      refine put_ms C 0 (ty := .int) q_550 rfl (by decide) rfl (by decide +kernel) rfl rfl wM_s0 hP hD hS d_Mo_told_29 (fun H locs hP hD hS => ?_)
      refine lv_aload_n hx hb d_Mo_told_32 rfl (lv_at hl 0 rfl) ?_
      refine get_mi (x := ((upd x.1 0 1), x.2)) C 0 q_550 rfl (by decide) rfl 1 (pk_us (f := x.1) (k := 0) (x := 1)) hP d_Mo_told_33 ?_
      refine lv_if_le (tgt := 41) hx hb d_Mo_told_36 (by decide) (fun c36_4 => ?_) (fun c36_4 => ?_)
      · exact absurd c36_4 (by decide)
      refine lv_iconst (v := 0) hx hb d_Mo_told_39 (by decide) ?_
      exact hret _ _ _ _ _ _ rfl rfl hP hD hS d_Mo_told_40
    · exact absurd ⟨in1 c12_1, in1 c21_3⟩ hbad
set_option maxHeartbeats 4000000 in
set_option maxRecDepth 100000 in
theorem c_Mo_told_0 (l : Launch) (g : Glob) (ad : Nat → Nat) (x : MS) (b : Nat) (hb3 : b < 3) (p1 : Int32) (v0 : inI (nI b) 0 (x.1 2 - 1) = 1) (v1 : inI p1 0 4 = 1) : CI l g y_Mo_told b_Mo_told 3 (some .int) 2 41 [.ref (ad 0), .int (nI b), .int p1] (wM g ad x) (toldM x b p1) (wM g ad (upd x.1 0 0, x.2)) := by
  refine CI.of .int rfl rfl (by decide +kernel) (Nat.le_of_ble_eq_true rfl) ?_
  intro p e s m below meth c A Q ls C hP hD hl hret hS
  obtain ⟨hx, hb, hml, hown, hw, hE, hA⟩ := id C
  have hl : lv_has ls 3 [(0, .ref (ad 0)), (1, .int (nI b)), (2, .int p1)] := hl
  refine lv_aload_n hx hb d_Mo_told_0 rfl (lv_at hl 0 rfl) ?_
  refine lv_iload_n hx hb d_Mo_told_1 rfl (lv_at hl 1 rfl) ?_
  refine lv_iconst (v := 0) hx hb d_Mo_told_2 (by decide) ?_
  refine lv_aload_n hx hb d_Mo_told_3 rfl (lv_at hl 0 rfl) ?_
  refine get_mi (x := x) C 2 q_552 rfl (by decide) rfl (x.1 2) rfl hP d_Mo_told_4 ?_
  refine lv_iconst (v := 1) hx hb d_Mo_told_7 (by decide) ?_
  refine lv_isub hx hb d_Mo_told_8 ?_
  refine csI C v_Mo_152 [.int (nI b), .int 0, .int ((x.1 2) - 1)] [.ref (ad 0)] (c_Mo_in l g (nI b) 0 ((x.1 2) - 1)) hP hS rfl rfl hl.1 (Nat.le_of_ble_eq_true rfl) ⟨Nat.le_of_ble_eq_true rfl, Nat.le_of_ble_eq_true rfl⟩ d_Mo_told_9 ⟨Nat.zero_le _, Nat.zero_le _⟩ (fun H locs hP hS => ?_)
  refine lv_if_eq (tgt := 28) hx hb d_Mo_told_12 (by decide) (fun c12_1 => ?_) (fun c12_1 => ?_)
  · exact absurd c12_1 (nz1 v0)
  refine lv_iload_n hx hb d_Mo_told_15 rfl (lv_at hl 2 rfl) ?_
  refine lv_iconst (v := 0) hx hb d_Mo_told_16 (by decide) ?_
  refine lv_iconst (v := 4) hx hb d_Mo_told_17 (by decide) ?_
  refine csI C v_Mo_152 [.int p1, .int 0, .int 4] [.ref (ad 0)] (c_Mo_in l g p1 0 4) hP hS rfl rfl hl.1 (Nat.le_of_ble_eq_true rfl) ⟨Nat.le_of_ble_eq_true rfl, Nat.le_of_ble_eq_true rfl⟩ d_Mo_told_18 ⟨Nat.zero_le _, Nat.zero_le _⟩ (fun H locs hP hS => ?_)
  refine lv_if_eq (tgt := 28) hx hb d_Mo_told_21 (by decide) (fun c21_2 => ?_) (fun c21_2 => ?_)
  · exact absurd c21_2 (nz1 v1)
  refine lv_iconst (v := 0) hx hb d_Mo_told_24 (by decide) ?_
  refine lv_goto (tgt := 29) hx hb d_Mo_told_25 (by decide) ?_
  refine put_ms C 0 (ty := .int) q_550 rfl (by decide) rfl (by decide +kernel) rfl rfl wM_s0 hP hD hS d_Mo_told_29 (fun H locs hP hD hS => ?_)
  refine lv_aload_n hx hb d_Mo_told_32 rfl (lv_at hl 0 rfl) ?_
  refine get_mi (x := ((upd x.1 0 0), x.2)) C 0 q_550 rfl (by decide) rfl 0 (pk_us (f := x.1) (k := 0) (x := 0)) hP d_Mo_told_33 ?_
  refine lv_if_le (tgt := 41) hx hb d_Mo_told_36 (by decide) (fun c36_3 => ?_) (fun c36_3 => ?_)
  rotate_left
  · exact absurd (by decide) c36_3
  refine lv_iload_n hx hb d_Mo_told_41 rfl (lv_at hl 2 rfl) ?_
  refine lv_iconst (v := 2) hx hb d_Mo_told_42 (by decide) ?_
  refine lv_icmp_ge (tgt := 66) hx hb d_Mo_told_43 (by decide) (fun c43_4 => ?_) (fun c43_4 => ?_)
  · refine lv_iload_n hx hb d_Mo_told_66 rfl (lv_at hl 2 rfl) ?_
    refine lv_iconst (v := 2) hx hb d_Mo_told_67 (by decide) ?_
    refine lv_icmp_ne (tgt := 80) hx hb d_Mo_told_68 (by decide) (fun c68_5 => ?_) (fun c68_5 => ?_)
    · refine lv_iload_n hx hb d_Mo_told_80 rfl (lv_at hl 2 rfl) ?_
      refine lv_iconst (v := 3) hx hb d_Mo_told_81 (by decide) ?_
      refine lv_icmp_ne (tgt := 93) hx hb d_Mo_told_82 (by decide) (fun c82_6 => ?_) (fun c82_6 => ?_)
      · refine lv_aload_n hx hb d_Mo_told_93 rfl (lv_at hl 0 rfl) ?_
        refine get_ms (x := ((upd x.1 0 0), x.2)) C 23 q_573 rfl (by decide) (.ref (ad 17)) rfl hP d_Mo_told_94 ?_
        refine lv_iload_n hx hb d_Mo_told_97 rfl (lv_at hl 1 rfl) ?_
        refine get_ma (x := ((upd x.1 0 0), x.2)) C 17 3 rfl (vp_in_nI hb3 (by omega)) (x.2 17 b) ((congrArg (x.2 17) (nI_clamp (by omega))).trans rfl) hP d_Mo_told_98 ?_
        exact hret _ _ _ _ _ _ (((if_pos c43_4).trans ((if_neg c68_5).trans (if_neg c82_6))).symm) rfl hP hD hS d_Mo_told_99
      · refine lv_aload_n hx hb d_Mo_told_85 rfl (lv_at hl 0 rfl) ?_
        refine lv_iload_n hx hb d_Mo_told_86 rfl (lv_at hl 1 rfl) ?_
        refine cvI C v_Mo_145 [.int (nI b)] [] (c_Mo_askewOf l g ad ((upd x.1 0 0), x.2) b hb3) hP hD hS [0, 1, 2, 3, 4, 5, 6, 7, 8, 9, 10, 11, 12, 13, 14, 15, 16, 17, 18, 19, 20] [] [0, 1, 2, 3, 4, 5, 6, 7, 8, 9, 10, 11, 12, 13, 14, 15, 16, 17, 18, 19, 20] [] (wM g ad ((upd x.1 0 0), x.2)) rfl rfl (by decide) (by decide) (by decide) rfl (by decide) 0 rfl rfl rfl rfl hl.1 (Nat.le_of_ble_eq_true rfl) ⟨Nat.le_of_ble_eq_true rfl, Nat.le_of_ble_eq_true rfl⟩ d_Mo_told_87 ⟨Nat.zero_le _, Nat.zero_le _⟩ (fun H locs hP hD hS => ?_)
        refine lv_goto (tgt := 99) hx hb d_Mo_told_90 (by decide) ?_
        exact hret _ _ _ _ _ _ (((if_pos c43_4).trans ((if_neg c68_5).trans (if_pos c82_6))).symm) rfl hP hD hS d_Mo_told_99
    · refine lv_aload_n hx hb d_Mo_told_71 rfl (lv_at hl 0 rfl) ?_
      refine get_ms (x := ((upd x.1 0 0), x.2)) C 21 q_571 rfl (by decide) (.ref (ad 15)) rfl hP d_Mo_told_72 ?_
      refine lv_iload_n hx hb d_Mo_told_75 rfl (lv_at hl 1 rfl) ?_
      refine get_ma (x := ((upd x.1 0 0), x.2)) C 15 3 rfl (vp_in_nI hb3 (by omega)) (x.2 15 b) ((congrArg (x.2 15) (nI_clamp (by omega))).trans rfl) hP d_Mo_told_76 ?_
      refine lv_goto (tgt := 99) hx hb d_Mo_told_77 (by decide) ?_
      exact hret _ _ _ _ _ _ (((if_pos c43_4).trans (if_pos c68_5)).symm) rfl hP hD hS d_Mo_told_99
  · refine lv_iload_n hx hb d_Mo_told_46 rfl (lv_at hl 2 rfl) ?_
    refine lv_if_ne (tgt := 59) hx hb d_Mo_told_47 (by decide) (fun c47_7 => ?_) (fun c47_7 => ?_)
    · refine lv_aload_n hx hb d_Mo_told_59 rfl (lv_at hl 0 rfl) ?_
      refine get_ms (x := ((upd x.1 0 0), x.2)) C 20 q_570 rfl (by decide) (.ref (ad 14)) rfl hP d_Mo_told_60 ?_
      refine lv_iload_n hx hb d_Mo_told_63 rfl (lv_at hl 1 rfl) ?_
      refine get_ma (x := ((upd x.1 0 0), x.2)) C 14 3 rfl (vp_in_nI hb3 (by omega)) (x.2 14 b) ((congrArg (x.2 14) (nI_clamp (by omega))).trans rfl) hP d_Mo_told_64 ?_
      exact hret _ _ _ _ _ _ (((if_neg c43_4).trans (if_neg c47_7)).symm) rfl hP hD hS d_Mo_told_65
    · refine lv_aload_n hx hb d_Mo_told_50 rfl (lv_at hl 0 rfl) ?_
      refine get_ms (x := ((upd x.1 0 0), x.2)) C 19 q_569 rfl (by decide) (.ref (ad 13)) rfl hP d_Mo_told_51 ?_
      refine lv_iload_n hx hb d_Mo_told_54 rfl (lv_at hl 1 rfl) ?_
      refine get_ma (x := ((upd x.1 0 0), x.2)) C 13 3 rfl (vp_in_nI hb3 (by omega)) (x.2 13 b) ((congrArg (x.2 13) (nI_clamp (by omega))).trans rfl) hP d_Mo_told_55 ?_
      refine lv_goto (tgt := 65) hx hb d_Mo_told_56 (by decide) ?_
      exact hret _ _ _ _ _ _ (((if_neg c43_4).trans (if_pos c47_7)).symm) rfl hP hD hS d_Mo_told_65
set_option maxHeartbeats 4000000 in
set_option maxRecDepth 100000 in
theorem c_Mo_corner_1 (l : Launch) (g : Glob) (ad : Nat → Nat) (x : MS) (p0 p1 p2 : Int32) (hbad : ¬ (inI p0 0 (x.1 2 - 1) = 1 ∧ inI p1 0 3 = 1 ∧ inI p2 0 1 = 1)) : CI l g y_Mo_corner b_Mo_corner 8 (some .int) 2 43 [.ref (ad 0), .int p0, .int p1, .int p2] (wM g ad x) (0) (wM g ad (upd x.1 0 1, x.2)) := by
  refine CI.of .int rfl rfl (by decide +kernel) (Nat.le_of_ble_eq_true rfl) ?_
  intro p e s m below meth c A Q ls C hP hD hl hret hS
  obtain ⟨hx, hb, hml, hown, hw, hE, hA⟩ := id C
  have hl : lv_has ls 8 [(0, .ref (ad 0)), (1, .int p0), (2, .int p1), (3, .int p2)] := hl
  refine lv_aload_n hx hb d_Mo_corner_0 rfl (lv_at hl 0 rfl) ?_
  refine lv_iload_n hx hb d_Mo_corner_1 rfl (lv_at hl 1 rfl) ?_
  refine lv_iconst (v := 0) hx hb d_Mo_corner_2 (by decide) ?_
  refine lv_aload_n hx hb d_Mo_corner_3 rfl (lv_at hl 0 rfl) ?_
  refine get_mi (x := x) C 2 q_552 rfl (by decide) rfl (x.1 2) rfl hP d_Mo_corner_4 ?_
  refine lv_iconst (v := 1) hx hb d_Mo_corner_7 (by decide) ?_
  refine lv_isub hx hb d_Mo_corner_8 ?_
  refine csI C v_Mo_152 [.int p0, .int 0, .int ((x.1 2) - 1)] [.ref (ad 0)] (c_Mo_in l g p0 0 ((x.1 2) - 1)) hP hS rfl rfl hl.1 (Nat.le_of_ble_eq_true rfl) ⟨Nat.le_of_ble_eq_true rfl, Nat.le_of_ble_eq_true rfl⟩ d_Mo_corner_9 ⟨Nat.zero_le _, Nat.zero_le _⟩ (fun H locs hP hS => ?_)
  refine lv_if_eq (tgt := 37) hx hb d_Mo_corner_12 (by decide) (fun c12_1 => ?_) (fun c12_1 => ?_)
  · refine lv_iconst (v := 1) hx hb d_Mo_corner_37 (by decide) ?_
    refine put_ms C 0 (ty := .int) q_550 rfl (by decide) rfl (by decide +kernel) rfl rfl wM_s0 hP hD hS d_Mo_corner_38 (fun H locs hP hD hS => ?_)
    refine lv_aload_n hx hb d_Mo_corner_41 rfl (lv_at hl 0 rfl) ?_
    refine get_mi (x := ((upd x.1 0 1), x.2)) C 0 q_550 rfl (by decide) rfl 1 (pk_us (f := x.1) (k := 0) (x := 1)) hP d_Mo_corner_42 ?_
    refine lv_if_le (tgt := 50) hx hb d_Mo_corner_45 (by decide) (fun c45_2 => ?_) (fun c45_2 => ?_)
    · exact absurd c45_2 (by decide)
    refine lv_iconst (v := 0) hx hb d_Mo_corner_48 (by decide) ?_
    exact hret _ _ _ _ _ _ rfl rfl hP hD hS d_Mo_corner_49
  · refine lv_iload_n hx hb d_Mo_corner_15 rfl (lv_at hl 2 rfl) ?_
    refine lv_iconst (v := 0) hx hb d_Mo_corner_16 (by decide) ?_
    refine lv_iconst (v := 3) hx hb d_Mo_corner_17 (by decide) ?_
    refine csI C v_Mo_152 [.int p1, .int 0, .int 3] [.ref (ad 0)] (c_Mo_in l g p1 0 3) hP hS rfl rfl hl.1 (Nat.le_of_ble_eq_true rfl) ⟨Nat.le_of_ble_eq_true rfl, Nat.le_of_ble_eq_true rfl⟩ d_Mo_corner_18 ⟨Nat.zero_le _, Nat.zero_le _⟩ (fun H locs hP hS => ?_)
    refine lv_if_eq (tgt := 37) hx hb d_Mo_corner_21 (by decide) (fun c21_3 => ?_) (fun c21_3 => ?_)
    · refine lv_iconst (v := 1) hx hb d_Mo_corner_37 (by decide) ?_
      refine put_ms C 0 (ty := .int) q_550 rfl (by decide) rfl (by decide +kernel) rfl rfl wM_s0 hP hD hS d_Mo_corner_38 (fun H locs hP hD hS => ?_)
      refine lv_aload_n hx hb d_Mo_corner_41 rfl (lv_at hl 0 rfl) ?_
      refine get_mi (x := ((upd x.1 0 1), x.2)) C 0 q_550 rfl (by decide) rfl 1 (pk_us (f := x.1) (k := 0) (x := 1)) hP d_Mo_corner_42 ?_
      refine lv_if_le (tgt := 50) hx hb d_Mo_corner_45 (by decide) (fun c45_4 => ?_) (fun c45_4 => ?_)
      · exact absurd c45_4 (by decide)
      refine lv_iconst (v := 0) hx hb d_Mo_corner_48 (by decide) ?_
      exact hret _ _ _ _ _ _ rfl rfl hP hD hS d_Mo_corner_49
    · refine lv_iload_n hx hb d_Mo_corner_24 rfl (lv_at hl 3 rfl) ?_
      refine lv_iconst (v := 0) hx hb d_Mo_corner_25 (by decide) ?_
      refine lv_iconst (v := 1) hx hb d_Mo_corner_26 (by decide) ?_
      refine csI C v_Mo_152 [.int p2, .int 0, .int 1] [.ref (ad 0)] (c_Mo_in l g p2 0 1) hP hS rfl rfl hl.1 (Nat.le_of_ble_eq_true rfl) ⟨Nat.le_of_ble_eq_true rfl, Nat.le_of_ble_eq_true rfl⟩ d_Mo_corner_27 ⟨Nat.zero_le _, Nat.zero_le _⟩ (fun H locs hP hS => ?_)
      refine lv_if_eq (tgt := 37) hx hb d_Mo_corner_30 (by decide) (fun c30_5 => ?_) (fun c30_5 => ?_)
      · refine lv_iconst (v := 1) hx hb d_Mo_corner_37 (by decide) ?_
        refine put_ms C 0 (ty := .int) q_550 rfl (by decide) rfl (by decide +kernel) rfl rfl wM_s0 hP hD hS d_Mo_corner_38 (fun H locs hP hD hS => ?_)
        refine lv_aload_n hx hb d_Mo_corner_41 rfl (lv_at hl 0 rfl) ?_
        refine get_mi (x := ((upd x.1 0 1), x.2)) C 0 q_550 rfl (by decide) rfl 1 (pk_us (f := x.1) (k := 0) (x := 1)) hP d_Mo_corner_42 ?_
        refine lv_if_le (tgt := 50) hx hb d_Mo_corner_45 (by decide) (fun c45_6 => ?_) (fun c45_6 => ?_)
        · exact absurd c45_6 (by decide)
        refine lv_iconst (v := 0) hx hb d_Mo_corner_48 (by decide) ?_
        exact hret _ _ _ _ _ _ rfl rfl hP hD hS d_Mo_corner_49
      · exact absurd ⟨in1 c12_1, in1 c21_3, in1 c30_5⟩ hbad
set_option maxHeartbeats 4000000 in
set_option maxRecDepth 100000 in
theorem c_Mo_corner_0 (l : Launch) (g : Glob) (ad : Nat → Nat) (x : MS) (hc : ∀ i, i < 17 → x.2 1 i = cosT i) (b : Nat) (hb3 : b < 3) (p1 p2 : Int32) (v0 : inI (nI b) 0 (x.1 2 - 1) = 1) (v1 : inI p1 0 3 = 1) (v2 : inI p2 0 1 = 1) : CI l g y_Mo_corner b_Mo_corner 8 (some .int) 2 43 [.ref (ad 0), .int (nI b), .int p1, .int p2] (wM g ad x) (cornerM x b p1 p2) (wM g ad (upd x.1 0 0, x.2)) := by
  refine CI.of .int rfl rfl (by decide +kernel) (Nat.le_of_ble_eq_true rfl) ?_
  intro p e s m below meth c A Q ls C hP hD hl hret hS
  obtain ⟨hx, hb, hml, hown, hw, hE, hA⟩ := id C
  have hl : lv_has ls 8 [(0, .ref (ad 0)), (1, .int (nI b)), (2, .int p1), (3, .int p2)] := hl
  refine lv_aload_n hx hb d_Mo_corner_0 rfl (lv_at hl 0 rfl) ?_
  refine lv_iload_n hx hb d_Mo_corner_1 rfl (lv_at hl 1 rfl) ?_
  refine lv_iconst (v := 0) hx hb d_Mo_corner_2 (by decide) ?_
  refine lv_aload_n hx hb d_Mo_corner_3 rfl (lv_at hl 0 rfl) ?_
  refine get_mi (x := x) C 2 q_552 rfl (by decide) rfl (x.1 2) rfl hP d_Mo_corner_4 ?_
  refine lv_iconst (v := 1) hx hb d_Mo_corner_7 (by decide) ?_
  refine lv_isub hx hb d_Mo_corner_8 ?_
  refine csI C v_Mo_152 [.int (nI b), .int 0, .int ((x.1 2) - 1)] [.ref (ad 0)] (c_Mo_in l g (nI b) 0 ((x.1 2) - 1)) hP hS rfl rfl hl.1 (Nat.le_of_ble_eq_true rfl) ⟨Nat.le_of_ble_eq_true rfl, Nat.le_of_ble_eq_true rfl⟩ d_Mo_corner_9 ⟨Nat.zero_le _, Nat.zero_le _⟩ (fun H locs hP hS => ?_)
  refine lv_if_eq (tgt := 37) hx hb d_Mo_corner_12 (by decide) (fun c12_1 => ?_) (fun c12_1 => ?_)
  · exact absurd c12_1 (nz1 v0)
  refine lv_iload_n hx hb d_Mo_corner_15 rfl (lv_at hl 2 rfl) ?_
  refine lv_iconst (v := 0) hx hb d_Mo_corner_16 (by decide) ?_
  refine lv_iconst (v := 3) hx hb d_Mo_corner_17 (by decide) ?_
  refine csI C v_Mo_152 [.int p1, .int 0, .int 3] [.ref (ad 0)] (c_Mo_in l g p1 0 3) hP hS rfl rfl hl.1 (Nat.le_of_ble_eq_true rfl) ⟨Nat.le_of_ble_eq_true rfl, Nat.le_of_ble_eq_true rfl⟩ d_Mo_corner_18 ⟨Nat.zero_le _, Nat.zero_le _⟩ (fun H locs hP hS => ?_)
  refine lv_if_eq (tgt := 37) hx hb d_Mo_corner_21 (by decide) (fun c21_2 => ?_) (fun c21_2 => ?_)
  · exact absurd c21_2 (nz1 v1)
  refine lv_iload_n hx hb d_Mo_corner_24 rfl (lv_at hl 3 rfl) ?_
  refine lv_iconst (v := 0) hx hb d_Mo_corner_25 (by decide) ?_
  refine lv_iconst (v := 1) hx hb d_Mo_corner_26 (by decide) ?_
  refine csI C v_Mo_152 [.int p2, .int 0, .int 1] [.ref (ad 0)] (c_Mo_in l g p2 0 1) hP hS rfl rfl hl.1 (Nat.le_of_ble_eq_true rfl) ⟨Nat.le_of_ble_eq_true rfl, Nat.le_of_ble_eq_true rfl⟩ d_Mo_corner_27 ⟨Nat.zero_le _, Nat.zero_le _⟩ (fun H locs hP hS => ?_)
  refine lv_if_eq (tgt := 37) hx hb d_Mo_corner_30 (by decide) (fun c30_3 => ?_) (fun c30_3 => ?_)
  · exact absurd c30_3 (nz1 v2)
  refine lv_iconst (v := 0) hx hb d_Mo_corner_33 (by decide) ?_
  refine lv_goto (tgt := 38) hx hb d_Mo_corner_34 (by decide) ?_
  refine put_ms C 0 (ty := .int) q_550 rfl (by decide) rfl (by decide +kernel) rfl rfl wM_s0 hP hD hS d_Mo_corner_38 (fun H locs hP hD hS => ?_)
  refine lv_aload_n hx hb d_Mo_corner_41 rfl (lv_at hl 0 rfl) ?_
  refine get_mi (x := ((upd x.1 0 0), x.2)) C 0 q_550 rfl (by decide) rfl 0 (pk_us (f := x.1) (k := 0) (x := 0)) hP d_Mo_corner_42 ?_
  refine lv_if_le (tgt := 50) hx hb d_Mo_corner_45 (by decide) (fun c45_4 => ?_) (fun c45_4 => ?_)
  rotate_left
  · exact absurd (by decide) c45_4
  have J71 : ∀ (al : Int32), al = alM x b p1 → W p l e { frames := 2, cells := 0, slots := 0, locals := 43 } s m ([.ref (ad 0), .int (nI b), .int p1, .int p2] : List Value).toArray below meth c H locs 0 0 Q (F0 m 71 ls [.int al]) := by
    intro al eal
    refine lv_istore (lv' := [(4, .int al), (0, .ref (ad 0)), (1, .int (nI b)), (2, .int p1), (3, .int p2)]) hx hb d_Mo_corner_71 hl (by decide) rfl (fun ls hl => ?_)
    have J98 : ∀ (ac : Int32), ac = acM x b p1 → W p l e { frames := 2, cells := 0, slots := 0, locals := 43 } s m ([.ref (ad 0), .int (nI b), .int p1, .int p2] : List Value).toArray below meth c H locs 0 0 Q (F0 m 98 ls [.int ac]) := by
      intro ac eac
      refine lv_istore (lv' := [(5, .int ac), (4, .int al), (0, .ref (ad 0)), (1, .int (nI b)), (2, .int p1), (3, .int p2)]) hx hb d_Mo_corner_98 hl (by decide) rfl (fun ls hl => ?_)
      refine lv_aload_n hx hb d_Mo_corner_100 rfl (lv_at hl 2 rfl) ?_
      refine lv_aload_n hx hb d_Mo_corner_101 rfl (lv_at hl 2 rfl) ?_
      refine get_ms (x := ((upd x.1 0 0), x.2)) C 21 q_571 rfl (by decide) (.ref (ad 15)) rfl hP d_Mo_corner_102 ?_
      refine lv_iload_n hx hb d_Mo_corner_105 rfl (lv_at hl 3 rfl) ?_
      refine get_ma (x := ((upd x.1 0 0), x.2)) C 15 3 rfl (vp_in_nI hb3 (by omega)) (x.2 15 b) ((congrArg (x.2 15) (nI_clamp (by omega))).trans rfl) hP d_Mo_corner_106 ?_
      refine cvI C v_Mo_90 [.int (x.2 15 b)] [] (c_Mo_dx l g ad ((upd x.1 0 0), x.2) hc (x.2 15 b)) hP hD hS [0, 1, 2, 3, 4, 5, 6, 7, 8, 9, 10, 11, 12, 13, 14, 15, 16, 17, 18, 19, 20] [] [0, 1, 2, 3, 4, 5, 6, 7, 8, 9, 10, 11, 12, 13, 14, 15, 16, 17, 18, 19, 20] [] (wM g ad ((upd x.1 0 0), x.2)) rfl rfl (by decide) (by decide) (by decide) rfl (by decide) 0 rfl rfl rfl rfl hl.1 (Nat.le_of_ble_eq_true rfl) ⟨Nat.le_of_ble_eq_true rfl, Nat.le_of_ble_eq_true rfl⟩ d_Mo_corner_107 ⟨Nat.zero_le _, Nat.zero_le _⟩ (fun H locs hP hD hS => ?_)
      refine lv_istore (lv' := [(6, .int (dX (x.2 15 b))), (5, .int ac), (4, .int al), (0, .ref (ad 0)), (1, .int (nI b)), (2, .int p1), (3, .int p2)]) hx hb d_Mo_corner_110 hl (by decide) rfl (fun ls hl => ?_)
      refine lv_aload_n hx hb d_Mo_corner_112 rfl (lv_at hl 3 rfl) ?_
      refine lv_aload_n hx hb d_Mo_corner_113 rfl (lv_at hl 3 rfl) ?_
      refine get_ms (x := ((upd x.1 0 0), x.2)) C 21 q_571 rfl (by decide) (.ref (ad 15)) rfl hP d_Mo_corner_114 ?_
      refine lv_iload_n hx hb d_Mo_corner_117 rfl (lv_at hl 4 rfl) ?_
      refine get_ma (x := ((upd x.1 0 0), x.2)) C 15 3 rfl (vp_in_nI hb3 (by omega)) (x.2 15 b) ((congrArg (x.2 15) (nI_clamp (by omega))).trans rfl) hP d_Mo_corner_118 ?_
      refine cvI C v_Mo_97 [.int (x.2 15 b)] [] (c_Mo_dy l g ad ((upd x.1 0 0), x.2) hc (x.2 15 b)) hP hD hS [0, 1, 2, 3, 4, 5, 6, 7, 8, 9, 10, 11, 12, 13, 14, 15, 16, 17, 18, 19, 20] [] [0, 1, 2, 3, 4, 5, 6, 7, 8, 9, 10, 11, 12, 13, 14, 15, 16, 17, 18, 19, 20] [] (wM g ad ((upd x.1 0 0), x.2)) rfl rfl (by decide) (by decide) (by decide) rfl (by decide) 0 rfl rfl rfl rfl hl.1 (Nat.le_of_ble_eq_true rfl) ⟨Nat.le_of_ble_eq_true rfl, Nat.le_of_ble_eq_true rfl⟩ d_Mo_corner_119 ⟨Nat.zero_le _, Nat.zero_le _⟩ (fun H locs hP hD hS => ?_)
      refine lv_istore (lv' := [(7, .int (dY (x.2 15 b))), (6, .int (dX (x.2 15 b))), (5, .int ac), (4, .int al), (0, .ref (ad 0)), (1, .int (nI b)), (2, .int p1), (3, .int p2)]) hx hb d_Mo_corner_122 hl (by decide) rfl (fun ls hl => ?_)
      refine lv_iload_n hx hb d_Mo_corner_124 rfl (lv_at hl 7 rfl) ?_
      refine lv_if_ne (tgt := 149) hx hb d_Mo_corner_125 (by decide) (fun c125_5 => ?_) (fun c125_5 => ?_)
      · refine lv_aload_n hx hb d_Mo_corner_149 rfl (lv_at hl 4 rfl) ?_
        refine get_ms (x := ((upd x.1 0 0), x.2)) C 20 q_570 rfl (by decide) (.ref (ad 14)) rfl hP d_Mo_corner_150 ?_
        refine lv_iload_n hx hb d_Mo_corner_153 rfl (lv_at hl 5 rfl) ?_
        refine get_ma (x := ((upd x.1 0 0), x.2)) C 14 3 rfl (vp_in_nI hb3 (by omega)) (x.2 14 b) ((congrArg (x.2 14) (nI_clamp (by omega))).trans rfl) hP d_Mo_corner_154 ?_
        refine lv_iload hx hb d_Mo_corner_155 (lv_at hl 3 rfl) ?_
        refine lv_iload hx hb d_Mo_corner_157 (lv_at hl 0 rfl) ?_
        refine lv_imul hx hb d_Mo_corner_159 ?_
        refine lv_iadd hx hb d_Mo_corner_160 ?_
        refine lv_iload hx hb d_Mo_corner_161 (lv_at hl 2 rfl) ?_
        refine lv_iload hx hb d_Mo_corner_163 (lv_at hl 1 rfl) ?_
        refine lv_imul hx hb d_Mo_corner_165 ?_
        refine lv_iadd hx hb d_Mo_corner_166 ?_
        exact hret _ _ _ _ _ _ (by rw [eal, eac]; exact (if_neg c125_5).symm) rfl hP hD hS d_Mo_corner_167
      · refine lv_aload_n hx hb d_Mo_corner_128 rfl (lv_at hl 4 rfl) ?_
        refine get_ms (x := ((upd x.1 0 0), x.2)) C 19 q_569 rfl (by decide) (.ref (ad 13)) rfl hP d_Mo_corner_129 ?_
        refine lv_iload_n hx hb d_Mo_corner_132 rfl (lv_at hl 5 rfl) ?_
        refine get_ma (x := ((upd x.1 0 0), x.2)) C 13 3 rfl (vp_in_nI hb3 (by omega)) (x.2 13 b) ((congrArg (x.2 13) (nI_clamp (by omega))).trans rfl) hP d_Mo_corner_133 ?_
        refine lv_iload hx hb d_Mo_corner_134 (lv_at hl 3 rfl) ?_
        refine lv_iload hx hb d_Mo_corner_136 (lv_at hl 1 rfl) ?_
        refine lv_imul hx hb d_Mo_corner_138 ?_
        refine lv_iadd hx hb d_Mo_corner_139 ?_
        refine lv_iload hx hb d_Mo_corner_140 (lv_at hl 2 rfl) ?_
        refine lv_iload hx hb d_Mo_corner_142 (lv_at hl 0 rfl) ?_
        refine lv_imul hx hb d_Mo_corner_144 ?_
        refine lv_isub hx hb d_Mo_corner_145 ?_
        refine lv_goto (tgt := 167) hx hb d_Mo_corner_146 (by decide) ?_
        exact hret _ _ _ _ _ _ (by rw [eal, eac]; exact (if_pos c125_5).symm) rfl hP hD hS d_Mo_corner_167
    refine lv_iload_n hx hb d_Mo_corner_73 rfl (lv_at hl 3 rfl) ?_
    refine lv_if_eq (tgt := 82) hx hb d_Mo_corner_74 (by decide) (fun c74_6 => ?_) (fun c74_6 => ?_)
    · refine lv_aload_n hx hb d_Mo_corner_82 rfl (lv_at hl 1 rfl) ?_
      refine get_ms (x := ((upd x.1 0 0), x.2)) C 7 q_557 rfl (by decide) (.ref (ad 6)) rfl hP d_Mo_corner_83 ?_
      refine lv_iload_n hx hb d_Mo_corner_86 rfl (lv_at hl 2 rfl) ?_
      refine get_ma (x := ((upd x.1 0 0), x.2)) C 6 3 rfl (vp_in_nI hb3 (by omega)) (x.2 6 b) ((congrArg (x.2 6) (nI_clamp (by omega))).trans rfl) hP d_Mo_corner_87 ?_
      refine lv_goto (tgt := 98) hx hb d_Mo_corner_88 (by decide) ?_
      exact J98 _ ((if_pos c74_6).symm)
    · refine lv_iload_n hx hb d_Mo_corner_77 rfl (lv_at hl 3 rfl) ?_
      refine lv_iconst (v := 3) hx hb d_Mo_corner_78 (by decide) ?_
      refine lv_icmp_ne (tgt := 91) hx hb d_Mo_corner_79 (by decide) (fun c79_7 => ?_) (fun c79_7 => ?_)
      · refine lv_aload_n hx hb d_Mo_corner_91 rfl (lv_at hl 1 rfl) ?_
        refine get_ms (x := ((upd x.1 0 0), x.2)) C 7 q_557 rfl (by decide) (.ref (ad 6)) rfl hP d_Mo_corner_92 ?_
        refine lv_iload_n hx hb d_Mo_corner_95 rfl (lv_at hl 2 rfl) ?_
        refine get_ma (x := ((upd x.1 0 0), x.2)) C 6 3 rfl (vp_in_nI hb3 (by omega)) (x.2 6 b) ((congrArg (x.2 6) (nI_clamp (by omega))).trans rfl) hP d_Mo_corner_96 ?_
        refine lv_ineg hx hb d_Mo_corner_97 ?_
        exact J98 _ (((if_neg c74_6).trans (if_neg c79_7)).symm)
      · refine lv_aload_n hx hb d_Mo_corner_82 rfl (lv_at hl 1 rfl) ?_
        refine get_ms (x := ((upd x.1 0 0), x.2)) C 7 q_557 rfl (by decide) (.ref (ad 6)) rfl hP d_Mo_corner_83 ?_
        refine lv_iload_n hx hb d_Mo_corner_86 rfl (lv_at hl 2 rfl) ?_
        refine get_ma (x := ((upd x.1 0 0), x.2)) C 6 3 rfl (vp_in_nI hb3 (by omega)) (x.2 6 b) ((congrArg (x.2 6) (nI_clamp (by omega))).trans rfl) hP d_Mo_corner_87 ?_
        refine lv_goto (tgt := 98) hx hb d_Mo_corner_88 (by decide) ?_
        exact J98 _ (((if_neg c74_6).trans (if_pos c79_7)).symm)
  refine lv_iload_n hx hb d_Mo_corner_50 rfl (lv_at hl 2 rfl) ?_
  refine lv_iconst (v := 2) hx hb d_Mo_corner_51 (by decide) ?_
  refine lv_icmp_ge (tgt := 64) hx hb d_Mo_corner_52 (by decide) (fun c52_8 => ?_) (fun c52_8 => ?_)
  · refine lv_aload_n hx hb d_Mo_corner_64 rfl (lv_at hl 0 rfl) ?_
    refine get_ms (x := ((upd x.1 0 0), x.2)) C 6 q_556 rfl (by decide) (.ref (ad 5)) rfl hP d_Mo_corner_65 ?_
    refine lv_iload_n hx hb d_Mo_corner_68 rfl (lv_at hl 1 rfl) ?_
    refine get_ma (x := ((upd x.1 0 0), x.2)) C 5 3 rfl (vp_in_nI hb3 (by omega)) (x.2 5 b) ((congrArg (x.2 5) (nI_clamp (by omega))).trans rfl) hP d_Mo_corner_69 ?_
    refine lv_ineg hx hb d_Mo_corner_70 ?_
    exact J71 _ ((if_pos c52_8).symm)
  · refine lv_aload_n hx hb d_Mo_corner_55 rfl (lv_at hl 0 rfl) ?_
    refine get_ms (x := ((upd x.1 0 0), x.2)) C 5 q_555 rfl (by decide) (.ref (ad 4)) rfl hP d_Mo_corner_56 ?_
    refine lv_iload_n hx hb d_Mo_corner_59 rfl (lv_at hl 1 rfl) ?_
    refine get_ma (x := ((upd x.1 0 0), x.2)) C 4 3 rfl (vp_in_nI hb3 (by omega)) (x.2 4 b) ((congrArg (x.2 4) (nI_clamp (by omega))).trans rfl) hP d_Mo_corner_60 ?_
    refine lv_goto (tgt := 71) hx hb d_Mo_corner_61 (by decide) ?_
    exact J71 _ ((if_neg c52_8).symm)
set_option maxHeartbeats 4000000 in
set_option maxRecDepth 100000 in
theorem c_Mo_cell_1 (l : Launch) (g : Glob) (ad : Nat → Nat) (x : MS) (p0 p1 : Int32) (hbad : ¬ (inI p0 (-32) 31 = 1 ∧ inI p1 (-32) 31 = 1)) : CI l g y_Mo_cell b_Mo_cell 3 (some .boolean) 1 22 [.ref (ad 0), .int p0, .int p1] (wM g ad x) (0) (wM g ad (upd x.1 0 1, x.2)) := by
  refine CI.of .boolean rfl rfl (by decide +kernel) (Nat.le_of_ble_eq_true rfl) ?_
  intro p e s m below meth c A Q ls C hP hD hl hret hS
  obtain ⟨hx, hb, hml, hown, hw, hE, hA⟩ := id C
  have hl : lv_has ls 3 [(0, .ref (ad 0)), (1, .int p0), (2, .int p1)] := hl
  refine lv_aload_n hx hb d_Mo_cell_0 rfl (lv_at hl 0 rfl) ?_
  refine lv_iload_n hx hb d_Mo_cell_1 rfl (lv_at hl 1 rfl) ?_
  refine lv_bipush (v := (-32)) hx hb d_Mo_cell_2 (by decide) ?_
  refine lv_bipush (v := 31) hx hb d_Mo_cell_4 (by decide) ?_
  refine csI C v_Mo_152 [.int p0, .int (-32), .int 31] [.ref (ad 0)] (c_Mo_in l g p0 (-32) 31) hP hS rfl rfl hl.1 (Nat.le_of_ble_eq_true rfl) ⟨Nat.le_of_ble_eq_true rfl, Nat.le_of_ble_eq_true rfl⟩ d_Mo_cell_6 ⟨Nat.zero_le _, Nat.zero_le _⟩ (fun H locs hP hS => ?_)
  refine lv_if_eq (tgt := 27) hx hb d_Mo_cell_9 (by decide) (fun c9_1 => ?_) (fun c9_1 => ?_)
  · refine lv_iconst (v := 1) hx hb d_Mo_cell_27 (by decide) ?_
    refine put_ms C 0 (ty := .int) q_550 rfl (by decide) rfl (by decide +kernel) rfl rfl wM_s0 hP hD hS d_Mo_cell_28 (fun H locs hP hD hS => ?_)
    refine lv_aload_n hx hb d_Mo_cell_31 rfl (lv_at hl 0 rfl) ?_
    refine get_mi (x := ((upd x.1 0 1), x.2)) C 0 q_550 rfl (by decide) rfl 1 (pk_us (f := x.1) (k := 0) (x := 1)) hP d_Mo_cell_32 ?_
    refine lv_if_ne (tgt := 62) hx hb d_Mo_cell_35 (by decide) (fun c35_2 => ?_) (fun c35_2 => ?_)
    rotate_left
    · exact absurd c35_2 (by decide)
    refine lv_iconst (v := 0) hx hb d_Mo_cell_62 (by decide) ?_
    exact hret _ _ _ _ _ _ rfl rfl hP hD hS d_Mo_cell_63
  · refine lv_iload_n hx hb d_Mo_cell_12 rfl (lv_at hl 2 rfl) ?_
    refine lv_bipush (v := (-32)) hx hb d_Mo_cell_13 (by decide) ?_
    refine lv_bipush (v := 31) hx hb d_Mo_cell_15 (by decide) ?_
    refine csI C v_Mo_152 [.int p1, .int (-32), .int 31] [.ref (ad 0)] (c_Mo_in l g p1 (-32) 31) hP hS rfl rfl hl.1 (Nat.le_of_ble_eq_true rfl) ⟨Nat.le_of_ble_eq_true rfl, Nat.le_of_ble_eq_true rfl⟩ d_Mo_cell_17 ⟨Nat.zero_le _, Nat.zero_le _⟩ (fun H locs hP hS => ?_)
    refine lv_if_eq (tgt := 27) hx hb d_Mo_cell_20 (by decide) (fun c20_3 => ?_) (fun c20_3 => ?_)
    · refine lv_iconst (v := 1) hx hb d_Mo_cell_27 (by decide) ?_
      refine put_ms C 0 (ty := .int) q_550 rfl (by decide) rfl (by decide +kernel) rfl rfl wM_s0 hP hD hS d_Mo_cell_28 (fun H locs hP hD hS => ?_)
      refine lv_aload_n hx hb d_Mo_cell_31 rfl (lv_at hl 0 rfl) ?_
      refine get_mi (x := ((upd x.1 0 1), x.2)) C 0 q_550 rfl (by decide) rfl 1 (pk_us (f := x.1) (k := 0) (x := 1)) hP d_Mo_cell_32 ?_
      refine lv_if_ne (tgt := 62) hx hb d_Mo_cell_35 (by decide) (fun c35_4 => ?_) (fun c35_4 => ?_)
      rotate_left
      · exact absurd c35_4 (by decide)
      refine lv_iconst (v := 0) hx hb d_Mo_cell_62 (by decide) ?_
      exact hret _ _ _ _ _ _ rfl rfl hP hD hS d_Mo_cell_63
    · exact absurd ⟨in1 c9_1, in1 c20_3⟩ hbad
set_option maxHeartbeats 4000000 in
set_option maxRecDepth 100000 in
theorem c_Mo_cell_0 (l : Launch) (g : Glob) (ad : Nat → Nat) (x : MS) (p0 p1 : Int32) (v0 : inI p0 (-32) 31 = 1) (v1 : inI p1 (-32) 31 = 1) : CI l g y_Mo_cell b_Mo_cell 3 (some .boolean) 1 22 [.ref (ad 0), .int p0, .int p1] (wM g ad x) (cellM x p0 p1) (wM g ad (upd x.1 0 0, x.2)) := by
  refine CI.of .boolean rfl (nar01 (cellM_01 _ _ _)) (by decide +kernel) (Nat.le_of_ble_eq_true rfl) ?_
  intro p e s m below meth c A Q ls C hP hD hl hret hS
  obtain ⟨hx, hb, hml, hown, hw, hE, hA⟩ := id C
  have hl : lv_has ls 3 [(0, .ref (ad 0)), (1, .int p0), (2, .int p1)] := hl
  refine lv_aload_n hx hb d_Mo_cell_0 rfl (lv_at hl 0 rfl) ?_
  refine lv_iload_n hx hb d_Mo_cell_1 rfl (lv_at hl 1 rfl) ?_
  refine lv_bipush (v := (-32)) hx hb d_Mo_cell_2 (by decide) ?_
  refine lv_bipush (v := 31) hx hb d_Mo_cell_4 (by decide) ?_
  refine csI C v_Mo_152 [.int p0, .int (-32), .int 31] [.ref (ad 0)] (c_Mo_in l g p0 (-32) 31) hP hS rfl rfl hl.1 (Nat.le_of_ble_eq_true rfl) ⟨Nat.le_of_ble_eq_true rfl, Nat.le_of_ble_eq_true rfl⟩ d_Mo_cell_6 ⟨Nat.zero_le _, Nat.zero_le _⟩ (fun H locs hP hS => ?_)
  refine lv_if_eq (tgt := 27) hx hb d_Mo_cell_9 (by decide) (fun c9_1 => ?_) (fun c9_1 => ?_)
  · exact absurd c9_1 (nz1 v0)
  refine lv_iload_n hx hb d_Mo_cell_12 rfl (lv_at hl 2 rfl) ?_
  refine lv_bipush (v := (-32)) hx hb d_Mo_cell_13 (by decide) ?_
  refine lv_bipush (v := 31) hx hb d_Mo_cell_15 (by decide) ?_
  refine csI C v_Mo_152 [.int p1, .int (-32), .int 31] [.ref (ad 0)] (c_Mo_in l g p1 (-32) 31) hP hS rfl rfl hl.1 (Nat.le_of_ble_eq_true rfl) ⟨Nat.le_of_ble_eq_true rfl, Nat.le_of_ble_eq_true rfl⟩ d_Mo_cell_17 ⟨Nat.zero_le _, Nat.zero_le _⟩ (fun H locs hP hS => ?_)
  refine lv_if_eq (tgt := 27) hx hb d_Mo_cell_20 (by decide) (fun c20_2 => ?_) (fun c20_2 => ?_)
  · exact absurd c20_2 (nz1 v1)
  refine lv_iconst (v := 0) hx hb d_Mo_cell_23 (by decide) ?_
  refine lv_goto (tgt := 28) hx hb d_Mo_cell_24 (by decide) ?_
  refine put_ms C 0 (ty := .int) q_550 rfl (by decide) rfl (by decide +kernel) rfl rfl wM_s0 hP hD hS d_Mo_cell_28 (fun H locs hP hD hS => ?_)
  refine lv_aload_n hx hb d_Mo_cell_31 rfl (lv_at hl 0 rfl) ?_
  refine get_mi (x := ((upd x.1 0 0), x.2)) C 0 q_550 rfl (by decide) rfl 0 (pk_us (f := x.1) (k := 0) (x := 0)) hP d_Mo_cell_32 ?_
  refine lv_if_ne (tgt := 62) hx hb d_Mo_cell_35 (by decide) (fun c35_3 => ?_) (fun c35_3 => ?_)
  · exact absurd c35_3 (by decide)
  refine lv_aload_n hx hb d_Mo_cell_38 rfl (lv_at hl 0 rfl) ?_
  refine get_ms (x := ((upd x.1 0 0), x.2)) C 30 q_580 rfl (by decide) (.ref (ad 18)) rfl hP d_Mo_cell_39 ?_
  refine lv_bipush (v := 64) hx hb d_Mo_cell_42 (by decide) ?_
  refine lv_iload_n hx hb d_Mo_cell_44 rfl (lv_at hl 1 rfl) ?_
  refine lv_bipush (v := 32) hx hb d_Mo_cell_45 (by decide) ?_
  refine lv_iadd hx hb d_Mo_cell_47 ?_
  refine lv_imul hx hb d_Mo_cell_48 ?_
  refine lv_iload_n hx hb d_Mo_cell_49 rfl (lv_at hl 2 rfl) ?_
  refine lv_iadd hx hb d_Mo_cell_50 ?_
  refine lv_bipush (v := 32) hx hb d_Mo_cell_51 (by decide) ?_
  refine lv_iadd hx hb d_Mo_cell_53 ?_
  refine get_mz (x := ((upd x.1 0 0), x.2)) C 18 4096 rfl (at_in (inI_b v0).1 (inI_b v0).2 (inI_b v1).1 (inI_b v1).2) (x.2 18 ((((64 * (p0 + 32)) + p1) + 32).toNatClampNeg)) rfl hP d_Mo_cell_54 ?_
  refine lv_if_eq (tgt := 62) hx hb d_Mo_cell_55 (by decide) (fun c55_4 => ?_) (fun c55_4 => ?_)
  · refine lv_iconst (v := 0) hx hb d_Mo_cell_62 (by decide) ?_
    exact hret _ _ _ _ _ _ ((if_pos c55_4).symm) rfl hP hD hS d_Mo_cell_63
  · refine lv_iconst (v := 1) hx hb d_Mo_cell_58 (by decide) ?_
    refine lv_goto (tgt := 63) hx hb d_Mo_cell_59 (by decide) ?_
    exact hret _ _ _ _ _ _ ((if_neg c55_4).symm) rfl hP hD hS d_Mo_cell_63
set_option maxHeartbeats 4000000 in
set_option maxRecDepth 100000 in
theorem c_Mo_clash_1 (l : Launch) (g : Glob) (ad : Nat → Nat) (x : MS) (p0 : Int32) (hbad : ¬ (inI p0 0 2 = 1)) : CI l g y_Mo_clash b_Mo_clash 2 (some .int) 1 22 [.ref (ad 0), .int p0] (wM g ad x) (0) (wM g ad (upd x.1 0 1, x.2)) := by
  refine CI.of .int rfl rfl (by decide +kernel) (Nat.le_of_ble_eq_true rfl) ?_
  intro p e s m below meth c A Q ls C hP hD hl hret hS
  obtain ⟨hx, hb, hml, hown, hw, hE, hA⟩ := id C
  have hl : lv_has ls 2 [(0, .ref (ad 0)), (1, .int p0)] := hl
  refine lv_aload_n hx hb d_Mo_clash_0 rfl (lv_at hl 0 rfl) ?_
  refine lv_iload_n hx hb d_Mo_clash_1 rfl (lv_at hl 1 rfl) ?_
  refine lv_iconst (v := 0) hx hb d_Mo_clash_2 (by decide) ?_
  refine lv_iconst (v := 2) hx hb d_Mo_clash_3 (by decide) ?_
  refine csI C v_Mo_152 [.int p0, .int 0, .int 2] [.ref (ad 0)] (c_Mo_in l g p0 0 2) hP hS rfl rfl hl.1 (Nat.le_of_ble_eq_true rfl) ⟨Nat.le_of_ble_eq_true rfl, Nat.le_of_ble_eq_true rfl⟩ d_Mo_clash_4 ⟨Nat.zero_le _, Nat.zero_le _⟩ (fun H locs hP hS => ?_)
  refine lv_if_eq (tgt := 14) hx hb d_Mo_clash_7 (by decide) (fun c7_1 => ?_) (fun c7_1 => ?_)
  · refine lv_iconst (v := 1) hx hb d_Mo_clash_14 (by decide) ?_
    refine put_ms C 0 (ty := .int) q_550 rfl (by decide) rfl (by decide +kernel) rfl rfl wM_s0 hP hD hS d_Mo_clash_15 (fun H locs hP hD hS => ?_)
    refine lv_aload_n hx hb d_Mo_clash_18 rfl (lv_at hl 0 rfl) ?_
    refine get_mi (x := ((upd x.1 0 1), x.2)) C 0 q_550 rfl (by decide) rfl 1 (pk_us (f := x.1) (k := 0) (x := 1)) hP d_Mo_clash_19 ?_
    refine lv_if_le (tgt := 27) hx hb d_Mo_clash_22 (by decide) (fun c22_2 => ?_) (fun c22_2 => ?_)
    · exact absurd c22_2 (by decide)
    refine lv_iconst (v := 0) hx hb d_Mo_clash_25 (by decide) ?_
    exact hret _ _ _ _ _ _ rfl rfl hP hD hS d_Mo_clash_26
  · exact absurd (in1 c7_1) hbad
set_option maxHeartbeats 4000000 in
set_option maxRecDepth 100000 in
theorem c_Mo_clash_0 (l : Launch) (g : Glob) (ad : Nat → Nat) (x : MS) (p0 : Int32) (v0 : inI p0 0 2 = 1) : CI l g y_Mo_clash b_Mo_clash 2 (some .int) 1 22 [.ref (ad 0), .int p0] (wM g ad x) (clashM x p0) (wM g ad (upd x.1 0 0, x.2)) := by
  refine CI.of .int rfl rfl (by decide +kernel) (Nat.le_of_ble_eq_true rfl) ?_
  intro p e s m below meth c A Q ls C hP hD hl hret hS
  obtain ⟨hx, hb, hml, hown, hw, hE, hA⟩ := id C
  have hl : lv_has ls 2 [(0, .ref (ad 0)), (1, .int p0)] := hl
  refine lv_aload_n hx hb d_Mo_clash_0 rfl (lv_at hl 0 rfl) ?_
  refine lv_iload_n hx hb d_Mo_clash_1 rfl (lv_at hl 1 rfl) ?_
  refine lv_iconst (v := 0) hx hb d_Mo_clash_2 (by decide) ?_
  refine lv_iconst (v := 2) hx hb d_Mo_clash_3 (by decide) ?_
  refine csI C v_Mo_152 [.int p0, .int 0, .int 2] [.ref (ad 0)] (c_Mo_in l g p0 0 2) hP hS rfl rfl hl.1 (Nat.le_of_ble_eq_true rfl) ⟨Nat.le_of_ble_eq_true rfl, Nat.le_of_ble_eq_true rfl⟩ d_Mo_clash_4 ⟨Nat.zero_le _, Nat.zero_le _⟩ (fun H locs hP hS => ?_)
  refine lv_if_eq (tgt := 14) hx hb d_Mo_clash_7 (by decide) (fun c7_1 => ?_) (fun c7_1 => ?_)
  · exact absurd c7_1 (nz1 v0)
  refine lv_iconst (v := 0) hx hb d_Mo_clash_10 (by decide) ?_
  refine lv_goto (tgt := 15) hx hb d_Mo_clash_11 (by decide) ?_
  refine put_ms C 0 (ty := .int) q_550 rfl (by decide) rfl (by decide +kernel) rfl rfl wM_s0 hP hD hS d_Mo_clash_15 (fun H locs hP hD hS => ?_)
  refine lv_aload_n hx hb d_Mo_clash_18 rfl (lv_at hl 0 rfl) ?_
  refine get_mi (x := ((upd x.1 0 0), x.2)) C 0 q_550 rfl (by decide) rfl 0 (pk_us (f := x.1) (k := 0) (x := 0)) hP d_Mo_clash_19 ?_
  refine lv_if_le (tgt := 27) hx hb d_Mo_clash_22 (by decide) (fun c22_2 => ?_) (fun c22_2 => ?_)
  rotate_left
  · exact absurd (by decide) c22_2
  refine lv_iload_n hx hb d_Mo_clash_27 rfl (lv_at hl 1 rfl) ?_
  refine lv_if_ne (tgt := 38) hx hb d_Mo_clash_28 (by decide) (fun c28_3 => ?_) (fun c28_3 => ?_)
  · refine lv_iload_n hx hb d_Mo_clash_38 rfl (lv_at hl 1 rfl) ?_
    refine lv_iconst (v := 1) hx hb d_Mo_clash_39 (by decide) ?_
    refine lv_icmp_ne (tgt := 50) hx hb d_Mo_clash_40 (by decide) (fun c40_4 => ?_) (fun c40_4 => ?_)
    · refine lv_aload_n hx hb d_Mo_clash_50 rfl (lv_at hl 0 rfl) ?_
      refine get_mi (x := ((upd x.1 0 0), x.2)) C 28 q_578 rfl (by decide) rfl (x.1 28) (pk_un (f := x.1) (k := 0) (x := 0) (j := 28) (by decide)) hP d_Mo_clash_51 ?_
      exact hret _ _ _ _ _ _ (((if_neg c28_3).trans (if_neg c40_4)).symm) rfl hP hD hS d_Mo_clash_54
    · refine lv_aload_n hx hb d_Mo_clash_43 rfl (lv_at hl 0 rfl) ?_
      refine get_mi (x := ((upd x.1 0 0), x.2)) C 27 q_577 rfl (by decide) rfl (x.1 27) (pk_un (f := x.1) (k := 0) (x := 0) (j := 27) (by decide)) hP d_Mo_clash_44 ?_
      refine lv_goto (tgt := 54) hx hb d_Mo_clash_47 (by decide) ?_
      exact hret _ _ _ _ _ _ (((if_neg c28_3).trans (if_pos c40_4)).symm) rfl hP hD hS d_Mo_clash_54
  · refine lv_aload_n hx hb d_Mo_clash_31 rfl (lv_at hl 0 rfl) ?_
    refine get_mi (x := ((upd x.1 0 0), x.2)) C 26 q_576 rfl (by decide) rfl (x.1 26) (pk_un (f := x.1) (k := 0) (x := 0) (j := 26) (by decide)) hP d_Mo_clash_32 ?_
    refine lv_goto (tgt := 54) hx hb d_Mo_clash_35 (by decide) ?_
    exact hret _ _ _ _ _ _ ((if_pos c28_3).symm) rfl hP hD hS d_Mo_clash_54
set_option maxHeartbeats 4000000 in
set_option maxRecDepth 100000 in
theorem c_Mo_part_1 (l : Launch) (g : Glob) (ad : Nat → Nat) (x : MS) (p0 p1 p2 p3 : Int32) (hbad : ¬ (inI p0 0 3 = 1 ∧ inI p1 (-3) 3 = 1 ∧ inI p2 1 60 = 1)) : CI l g y_Mo_part b_Mo_part 6 (some .int) 1 22 [.ref (ad 0), .int p0, .int p1, .int p2, .int p3] (wM g ad x) (0) (wM g ad (upd x.1 0 1, x.2)) := by
  refine CI.of .int rfl rfl (by decide +kernel) (Nat.le_of_ble_eq_true rfl) ?_
  intro p e s m below meth c A Q ls C hP hD hl hret hS
  obtain ⟨hx, hb, hml, hown, hw, hE, hA⟩ := id C
  have hl : lv_has ls 6 [(0, .ref (ad 0)), (1, .int p0), (2, .int p1), (3, .int p2), (4, .int p3)] := hl
  refine lv_aload_n hx hb d_Mo_part_0 rfl (lv_at hl 0 rfl) ?_
  refine lv_iload_n hx hb d_Mo_part_1 rfl (lv_at hl 1 rfl) ?_
  refine lv_iconst (v := 0) hx hb d_Mo_part_2 (by decide) ?_
  refine lv_iconst (v := 3) hx hb d_Mo_part_3 (by decide) ?_
  refine csI C v_Mo_152 [.int p0, .int 0, .int 3] [.ref (ad 0)] (c_Mo_in l g p0 0 3) hP hS rfl rfl hl.1 (Nat.le_of_ble_eq_true rfl) ⟨Nat.le_of_ble_eq_true rfl, Nat.le_of_ble_eq_true rfl⟩ d_Mo_part_4 ⟨Nat.zero_le _, Nat.zero_le _⟩ (fun H locs hP hS => ?_)
  refine lv_if_eq (tgt := 30) hx hb d_Mo_part_7 (by decide) (fun c7_1 => ?_) (fun c7_1 => ?_)
  · refine lv_iconst (v := 1) hx hb d_Mo_part_30 (by decide) ?_
    refine lv_goto (tgt := 50) hx hb d_Mo_part_31 (by decide) ?_
    refine put_ms C 0 (ty := .int) q_550 rfl (by decide) rfl (by decide +kernel) rfl rfl wM_s0 hP hD hS d_Mo_part_50 (fun H locs hP hD hS => ?_)
    refine lv_aload_n hx hb d_Mo_part_53 rfl (lv_at hl 0 rfl) ?_
    refine get_mi (x := ((upd x.1 0 1), x.2)) C 0 q_550 rfl (by decide) rfl 1 (pk_us (f := x.1) (k := 0) (x := 1)) hP d_Mo_part_54 ?_
    refine lv_if_le (tgt := 62) hx hb d_Mo_part_57 (by decide) (fun c57_2 => ?_) (fun c57_2 => ?_)
    · exact absurd c57_2 (by decide)
    refine lv_iconst (v := 0) hx hb d_Mo_part_60 (by decide) ?_
    exact hret _ _ _ _ _ _ rfl rfl hP hD hS d_Mo_part_61
  · refine lv_iload_n hx hb d_Mo_part_10 rfl (lv_at hl 2 rfl) ?_
    refine lv_bipush (v := (-3)) hx hb d_Mo_part_11 (by decide) ?_
    refine lv_iconst (v := 3) hx hb d_Mo_part_13 (by decide) ?_
    refine csI C v_Mo_152 [.int p1, .int (-3), .int 3] [.ref (ad 0)] (c_Mo_in l g p1 (-3) 3) hP hS rfl rfl hl.1 (Nat.le_of_ble_eq_true rfl) ⟨Nat.le_of_ble_eq_true rfl, Nat.le_of_ble_eq_true rfl⟩ d_Mo_part_14 ⟨Nat.zero_le _, Nat.zero_le _⟩ (fun H locs hP hS => ?_)
    refine lv_if_eq (tgt := 30) hx hb d_Mo_part_17 (by decide) (fun c17_3 => ?_) (fun c17_3 => ?_)
    · refine lv_iconst (v := 1) hx hb d_Mo_part_30 (by decide) ?_
      refine lv_goto (tgt := 50) hx hb d_Mo_part_31 (by decide) ?_
      refine put_ms C 0 (ty := .int) q_550 rfl (by decide) rfl (by decide +kernel) rfl rfl wM_s0 hP hD hS d_Mo_part_50 (fun H locs hP hD hS => ?_)
      refine lv_aload_n hx hb d_Mo_part_53 rfl (lv_at hl 0 rfl) ?_
      refine get_mi (x := ((upd x.1 0 1), x.2)) C 0 q_550 rfl (by decide) rfl 1 (pk_us (f := x.1) (k := 0) (x := 1)) hP d_Mo_part_54 ?_
      refine lv_if_le (tgt := 62) hx hb d_Mo_part_57 (by decide) (fun c57_4 => ?_) (fun c57_4 => ?_)
      · exact absurd c57_4 (by decide)
      refine lv_iconst (v := 0) hx hb d_Mo_part_60 (by decide) ?_
      exact hret _ _ _ _ _ _ rfl rfl hP hD hS d_Mo_part_61
    · refine lv_iload_n hx hb d_Mo_part_20 rfl (lv_at hl 3 rfl) ?_
      refine lv_iconst (v := 1) hx hb d_Mo_part_21 (by decide) ?_
      refine lv_bipush (v := 60) hx hb d_Mo_part_22 (by decide) ?_
      refine csI C v_Mo_152 [.int p2, .int 1, .int 60] [.ref (ad 0)] (c_Mo_in l g p2 1 60) hP hS rfl rfl hl.1 (Nat.le_of_ble_eq_true rfl) ⟨Nat.le_of_ble_eq_true rfl, Nat.le_of_ble_eq_true rfl⟩ d_Mo_part_24 ⟨Nat.zero_le _, Nat.zero_le _⟩ (fun H locs hP hS => ?_)
      refine lv_if_ne (tgt := 34) hx hb d_Mo_part_27 (by decide) (fun c27_5 => ?_) (fun c27_5 => ?_)
      · exact absurd ⟨in1 c7_1, in1 c17_3, in1 c27_5⟩ hbad
      · refine lv_iconst (v := 1) hx hb d_Mo_part_30 (by decide) ?_
        refine lv_goto (tgt := 50) hx hb d_Mo_part_31 (by decide) ?_
        refine put_ms C 0 (ty := .int) q_550 rfl (by decide) rfl (by decide +kernel) rfl rfl wM_s0 hP hD hS d_Mo_part_50 (fun H locs hP hD hS => ?_)
        refine lv_aload_n hx hb d_Mo_part_53 rfl (lv_at hl 0 rfl) ?_
        refine get_mi (x := ((upd x.1 0 1), x.2)) C 0 q_550 rfl (by decide) rfl 1 (pk_us (f := x.1) (k := 0) (x := 1)) hP d_Mo_part_54 ?_
        refine lv_if_le (tgt := 62) hx hb d_Mo_part_57 (by decide) (fun c57_6 => ?_) (fun c57_6 => ?_)
        · exact absurd c57_6 (by decide)
        refine lv_iconst (v := 0) hx hb d_Mo_part_60 (by decide) ?_
        exact hret _ _ _ _ _ _ rfl rfl hP hD hS d_Mo_part_61
set_option maxHeartbeats 4000000 in
set_option maxRecDepth 100000 in
theorem c_Mo_part_2 (l : Launch) (g : Glob) (ad : Nat → Nat) (x : MS) (pl : Nat) (hpl : pl < 4) (p1 p2 p3 : Int32) (v0 : inI (nI pl) 0 3 = 1) (v1 : inI p1 (-3) 3 = 1) (v2 : inI p2 1 60 = 1) (hfull : x.2 9 pl = 6) : CI l g y_Mo_part b_Mo_part 6 (some .int) 1 22 [.ref (ad 0), .int (nI pl), .int p1, .int p2, .int p3] (wM g ad x) (0) (wM g ad (upd x.1 0 2, x.2)) := by
  refine CI.of .int rfl rfl (by decide +kernel) (Nat.le_of_ble_eq_true rfl) ?_
  intro p e s m below meth c A Q ls C hP hD hl hret hS
  obtain ⟨hx, hb, hml, hown, hw, hE, hA⟩ := id C
  have hl : lv_has ls 6 [(0, .ref (ad 0)), (1, .int (nI pl)), (2, .int p1), (3, .int p2), (4, .int p3)] := hl
  refine lv_aload_n hx hb d_Mo_part_0 rfl (lv_at hl 0 rfl) ?_
  refine lv_iload_n hx hb d_Mo_part_1 rfl (lv_at hl 1 rfl) ?_
  refine lv_iconst (v := 0) hx hb d_Mo_part_2 (by decide) ?_
  refine lv_iconst (v := 3) hx hb d_Mo_part_3 (by decide) ?_
  refine csI C v_Mo_152 [.int (nI pl), .int 0, .int 3] [.ref (ad 0)] (c_Mo_in l g (nI pl) 0 3) hP hS rfl rfl hl.1 (Nat.le_of_ble_eq_true rfl) ⟨Nat.le_of_ble_eq_true rfl, Nat.le_of_ble_eq_true rfl⟩ d_Mo_part_4 ⟨Nat.zero_le _, Nat.zero_le _⟩ (fun H locs hP hS => ?_)
  refine lv_if_eq (tgt := 30) hx hb d_Mo_part_7 (by decide) (fun c7_1 => ?_) (fun c7_1 => ?_)
  · exact absurd c7_1 (nz1 v0)
  refine lv_iload_n hx hb d_Mo_part_10 rfl (lv_at hl 2 rfl) ?_
  refine lv_bipush (v := (-3)) hx hb d_Mo_part_11 (by decide) ?_
  refine lv_iconst (v := 3) hx hb d_Mo_part_13 (by decide) ?_
  refine csI C v_Mo_152 [.int p1, .int (-3), .int 3] [.ref (ad 0)] (c_Mo_in l g p1 (-3) 3) hP hS rfl rfl hl.1 (Nat.le_of_ble_eq_true rfl) ⟨Nat.le_of_ble_eq_true rfl, Nat.le_of_ble_eq_true rfl⟩ d_Mo_part_14 ⟨Nat.zero_le _, Nat.zero_le _⟩ (fun H locs hP hS => ?_)
  refine lv_if_eq (tgt := 30) hx hb d_Mo_part_17 (by decide) (fun c17_2 => ?_) (fun c17_2 => ?_)
  · exact absurd c17_2 (nz1 v1)
  refine lv_iload_n hx hb d_Mo_part_20 rfl (lv_at hl 3 rfl) ?_
  refine lv_iconst (v := 1) hx hb d_Mo_part_21 (by decide) ?_
  refine lv_bipush (v := 60) hx hb d_Mo_part_22 (by decide) ?_
  refine csI C v_Mo_152 [.int p2, .int 1, .int 60] [.ref (ad 0)] (c_Mo_in l g p2 1 60) hP hS rfl rfl hl.1 (Nat.le_of_ble_eq_true rfl) ⟨Nat.le_of_ble_eq_true rfl, Nat.le_of_ble_eq_true rfl⟩ d_Mo_part_24 ⟨Nat.zero_le _, Nat.zero_le _⟩ (fun H locs hP hS => ?_)
  refine lv_if_ne (tgt := 34) hx hb d_Mo_part_27 (by decide) (fun c27_3 => ?_) (fun c27_3 => ?_)
  rotate_left
  · exact absurd c27_3 (nz1 v2)
  refine lv_aload_n hx hb d_Mo_part_34 rfl (lv_at hl 0 rfl) ?_
  refine get_ms (x := x) C 15 q_565 rfl (by decide) (.ref (ad 9)) rfl hP d_Mo_part_35 ?_
  refine lv_iload_n hx hb d_Mo_part_38 rfl (lv_at hl 1 rfl) ?_
  refine get_ma (x := x) C 9 4 rfl (vp_in_nI hpl (by omega)) (x.2 9 pl) ((congrArg (x.2 9) (nI_clamp (by omega))).trans rfl) hP d_Mo_part_39 ?_
  refine lv_bipush (v := 6) hx hb d_Mo_part_40 (by decide) ?_
  refine lv_icmp_ne (tgt := 49) hx hb d_Mo_part_42 (by decide) (fun c42_4 => ?_) (fun c42_4 => ?_)
  · exact absurd c42_4 (fun q => q hfull)
  refine lv_iconst (v := 2) hx hb d_Mo_part_45 (by decide) ?_
  refine lv_goto (tgt := 50) hx hb d_Mo_part_46 (by decide) ?_
  refine put_ms C 0 (ty := .int) q_550 rfl (by decide) rfl (by decide +kernel) rfl rfl wM_s0 hP hD hS d_Mo_part_50 (fun H locs hP hD hS => ?_)
  refine lv_aload_n hx hb d_Mo_part_53 rfl (lv_at hl 0 rfl) ?_
  refine get_mi (x := ((upd x.1 0 2), x.2)) C 0 q_550 rfl (by decide) rfl 2 (pk_us (f := x.1) (k := 0) (x := 2)) hP d_Mo_part_54 ?_
  refine lv_if_le (tgt := 62) hx hb d_Mo_part_57 (by decide) (fun c57_5 => ?_) (fun c57_5 => ?_)
  · exact absurd c57_5 (by decide)
  refine lv_iconst (v := 0) hx hb d_Mo_part_60 (by decide) ?_
  exact hret _ _ _ _ _ _ rfl rfl hP hD hS d_Mo_part_61
set_option maxHeartbeats 4000000 in
set_option maxRecDepth 100000 in
theorem c_Mo_part_0 (l : Launch) (g : Glob) (ad : Nat → Nat) (x : MS) (pl mm : Nat) (hpl : pl < 4) (hmm : x.2 9 pl = nI mm) (h6 : mm < 6) (p1 p2 p3 : Int32) (h01 : p3 = 0 ∨ p3 = 1) (v0 : inI (nI pl) 0 3 = 1) (v1 : inI p1 (-3) 3 = 1) (v2 : inI p2 1 60 = 1) (hfull : ¬ x.2 9 pl = 6) : CI l g y_Mo_part b_Mo_part 6 (some .int) 1 22 [.ref (ad 0), .int (nI pl), .int p1, .int p2, .int p3] (wM g ad x) (x.2 9 pl + 1) (wM g ad (partM pl mm p1 p2 p3 x)) := by
  refine CI.of .int rfl rfl (by decide +kernel) (Nat.le_of_ble_eq_true rfl) ?_
  intro p e s m below meth c A Q ls C hP hD hl hret hS
  obtain ⟨hx, hb, hml, hown, hw, hE, hA⟩ := id C
  have hl : lv_has ls 6 [(0, .ref (ad 0)), (1, .int (nI pl)), (2, .int p1), (3, .int p2), (4, .int p3)] := hl
  have hat : (6 : Int32) * nI pl + x.2 9 pl = nI (6 * pl + mm) := by rw [hmm]; exact mul6
  refine lv_aload_n hx hb d_Mo_part_0 rfl (lv_at hl 0 rfl) ?_
  refine lv_iload_n hx hb d_Mo_part_1 rfl (lv_at hl 1 rfl) ?_
  refine lv_iconst (v := 0) hx hb d_Mo_part_2 (by decide) ?_
  refine lv_iconst (v := 3) hx hb d_Mo_part_3 (by decide) ?_
  refine csI C v_Mo_152 [.int (nI pl), .int 0, .int 3] [.ref (ad 0)] (c_Mo_in l g (nI pl) 0 3) hP hS rfl rfl hl.1 (Nat.le_of_ble_eq_true rfl) ⟨Nat.le_of_ble_eq_true rfl, Nat.le_of_ble_eq_true rfl⟩ d_Mo_part_4 ⟨Nat.zero_le _, Nat.zero_le _⟩ (fun H locs hP hS => ?_)
  refine lv_if_eq (tgt := 30) hx hb d_Mo_part_7 (by decide) (fun c7_1 => ?_) (fun c7_1 => ?_)
  · exact absurd c7_1 (nz1 v0)
  refine lv_iload_n hx hb d_Mo_part_10 rfl (lv_at hl 2 rfl) ?_
  refine lv_bipush (v := (-3)) hx hb d_Mo_part_11 (by decide) ?_
  refine lv_iconst (v := 3) hx hb d_Mo_part_13 (by decide) ?_
  refine csI C v_Mo_152 [.int p1, .int (-3), .int 3] [.ref (ad 0)] (c_Mo_in l g p1 (-3) 3) hP hS rfl rfl hl.1 (Nat.le_of_ble_eq_true rfl) ⟨Nat.le_of_ble_eq_true rfl, Nat.le_of_ble_eq_true rfl⟩ d_Mo_part_14 ⟨Nat.zero_le _, Nat.zero_le _⟩ (fun H locs hP hS => ?_)
  refine lv_if_eq (tgt := 30) hx hb d_Mo_part_17 (by decide) (fun c17_2 => ?_) (fun c17_2 => ?_)
  · exact absurd c17_2 (nz1 v1)
  refine lv_iload_n hx hb d_Mo_part_20 rfl (lv_at hl 3 rfl) ?_
  refine lv_iconst (v := 1) hx hb d_Mo_part_21 (by decide) ?_
  refine lv_bipush (v := 60) hx hb d_Mo_part_22 (by decide) ?_
  refine csI C v_Mo_152 [.int p2, .int 1, .int 60] [.ref (ad 0)] (c_Mo_in l g p2 1 60) hP hS rfl rfl hl.1 (Nat.le_of_ble_eq_true rfl) ⟨Nat.le_of_ble_eq_true rfl, Nat.le_of_ble_eq_true rfl⟩ d_Mo_part_24 ⟨Nat.zero_le _, Nat.zero_le _⟩ (fun H locs hP hS => ?_)
  refine lv_if_ne (tgt := 34) hx hb d_Mo_part_27 (by decide) (fun c27_3 => ?_) (fun c27_3 => ?_)
  rotate_left
  · exact absurd c27_3 (nz1 v2)
  refine lv_aload_n hx hb d_Mo_part_34 rfl (lv_at hl 0 rfl) ?_
  refine get_ms (x := x) C 15 q_565 rfl (by decide) (.ref (ad 9)) rfl hP d_Mo_part_35 ?_
  refine lv_iload_n hx hb d_Mo_part_38 rfl (lv_at hl 1 rfl) ?_
  refine get_ma (x := x) C 9 4 rfl (vp_in_nI hpl (by omega)) (x.2 9 pl) ((congrArg (x.2 9) (nI_clamp (by omega))).trans rfl) hP d_Mo_part_39 ?_
  refine lv_bipush (v := 6) hx hb d_Mo_part_40 (by decide) ?_
  refine lv_icmp_ne (tgt := 49) hx hb d_Mo_part_42 (by decide) (fun c42_4 => ?_) (fun c42_4 => ?_)
  rotate_left
  · exact absurd c42_4 (fun q => hfull q)
  refine lv_iconst (v := 0) hx hb d_Mo_part_49 (by decide) ?_
  refine put_ms C 0 (ty := .int) q_550 rfl (by decide) rfl (by decide +kernel) rfl rfl wM_s0 hP hD hS d_Mo_part_50 (fun H locs hP hD hS => ?_)
  refine lv_aload_n hx hb d_Mo_part_53 rfl (lv_at hl 0 rfl) ?_
  refine get_mi (x := ((upd x.1 0 0), x.2)) C 0 q_550 rfl (by decide) rfl 0 (pk_us (f := x.1) (k := 0) (x := 0)) hP d_Mo_part_54 ?_
  refine lv_if_le (tgt := 62) hx hb d_Mo_part_57 (by decide) (fun c57_5 => ?_) (fun c57_5 => ?_)
  rotate_left
  · exact absurd (by decide) c57_5
  refine lv_bipush (v := 6) hx hb d_Mo_part_62 (by decide) ?_
  refine lv_iload_n hx hb d_Mo_part_64 rfl (lv_at hl 1 rfl) ?_
  refine lv_imul hx hb d_Mo_part_65 ?_
  refine lv_aload_n hx hb d_Mo_part_66 rfl (lv_at hl 0 rfl) ?_
  refine get_ms (x := ((upd x.1 0 0), x.2)) C 15 q_565 rfl (by decide) (.ref (ad 9)) rfl hP d_Mo_part_67 ?_
  refine lv_iload_n hx hb d_Mo_part_70 rfl (lv_at hl 1 rfl) ?_
  refine get_ma (x := ((upd x.1 0 0), x.2)) C 9 4 rfl (vp_in_nI hpl (by omega)) (x.2 9 pl) ((congrArg (x.2 9) (nI_clamp (by omega))).trans rfl) hP d_Mo_part_71 ?_
  refine lv_iadd hx hb d_Mo_part_72 ?_
  refine lv_istore (lv' := [(5, .int ((6 * (nI pl)) + (x.2 9 pl))), (0, .ref (ad 0)), (1, .int (nI pl)), (2, .int p1), (3, .int p2), (4, .int p3)]) hx hb d_Mo_part_73 hl (by decide) rfl (fun ls hl => ?_)
  refine lv_aload_n hx hb d_Mo_part_75 rfl (lv_at hl 1 rfl) ?_
  refine get_ms (x := ((upd x.1 0 0), x.2)) C 16 q_566 rfl (by decide) (.ref (ad 10)) rfl hP d_Mo_part_76 ?_
  refine lv_iload hx hb d_Mo_part_79 (lv_at hl 0 rfl) ?_
  refine lv_iload_n hx hb d_Mo_part_81 rfl (lv_at hl 3 rfl) ?_
  refine put_ma C 10 24 rfl (inN hat (show 6 * pl + mm < 24 by omega) (by omega)) (6 * pl + mm) (clN hat (by omega)) wM_a10 hP hD hS d_Mo_part_82 (fun H locs hP hD hS => ?_)
  refine lv_aload_n hx hb d_Mo_part_83 rfl (lv_at hl 1 rfl) ?_
  refine get_ms (x := ((upd x.1 0 0), (u2 x.2 10 (6 * pl + mm) p1))) C 17 q_567 rfl (by decide) (.ref (ad 11)) rfl hP d_Mo_part_84 ?_
  refine lv_iload hx hb d_Mo_part_87 (lv_at hl 0 rfl) ?_
  refine lv_iload_n hx hb d_Mo_part_89 rfl (lv_at hl 4 rfl) ?_
  refine put_ma C 11 24 rfl (inN hat (show 6 * pl + mm < 24 by omega) (by omega)) (6 * pl + mm) (clN hat (by omega)) wM_a11 hP hD hS d_Mo_part_90 (fun H locs hP hD hS => ?_)
  refine lv_aload_n hx hb d_Mo_part_91 rfl (lv_at hl 1 rfl) ?_
  refine get_ms (x := ((upd x.1 0 0), (u2 (u2 x.2 10 (6 * pl + mm) p1) 11 (6 * pl + mm) p2))) C 18 q_568 rfl (by decide) (.ref (ad 12)) rfl hP d_Mo_part_92 ?_
  refine lv_iload hx hb d_Mo_part_95 (lv_at hl 0 rfl) ?_
  refine lv_iload hx hb d_Mo_part_97 (lv_at hl 5 rfl) ?_
  refine put_mz C 12 24 rfl (inN hat (show 6 * pl + mm < 24 by omega) (by omega)) (6 * pl + mm) (clN hat (by omega)) (vpn01 h01) wM_a12 hP hD hS d_Mo_part_99 (fun H locs hP hD hS => ?_)
  refine lv_aload_n hx hb d_Mo_part_100 rfl (lv_at hl 1 rfl) ?_
  refine get_ms (x := ((upd x.1 0 0), (u2 (u2 (u2 x.2 10 (6 * pl + mm) p1) 11 (6 * pl + mm) p2) 12 (6 * pl + mm) p3))) C 15 q_565 rfl (by decide) (.ref (ad 9)) rfl hP d_Mo_part_101 ?_
  refine lv_iload_n hx hb d_Mo_part_104 rfl (lv_at hl 2 rfl) ?_
  refine lv_dup2_11 hx hb d_Mo_part_105 rfl rfl ?_
  refine get_ma (x := ((upd x.1 0 0), (u2 (u2 (u2 x.2 10 (6 * pl + mm) p1) 11 (6 * pl + mm) p2) 12 (6 * pl + mm) p3))) C 9 4 rfl (vp_in_nI hpl (by omega)) (x.2 9 pl) ((congrArg ((u2 (u2 (u2 x.2 10 (6 * pl + mm) p1) 11 (6 * pl + mm) p2) 12 (6 * pl + mm) p3) 9) (nI_clamp (by omega))).trans ((u2_k (σ := (u2 (u2 x.2 10 (6 * pl + mm) p1) 11 (6 * pl + mm) p2)) (k := 12) (b := (6 * pl + mm)) (x := p3) (i := 9) (j := pl) (by decide)).trans ((u2_k (σ := (u2 x.2 10 (6 * pl + mm) p1)) (k := 11) (b := (6 * pl + mm)) (x := p2) (i := 9) (j := pl) (by decide)).trans (u2_k (σ := x.2) (k := 10) (b := (6 * pl + mm)) (x := p1) (i := 9) (j := pl) (by decide))))) hP d_Mo_part_106 ?_
  refine lv_iconst (v := 1) hx hb d_Mo_part_107 (by decide) ?_
  refine lv_iadd hx hb d_Mo_part_108 ?_
  refine put_ma C 9 4 rfl (vp_in_nI hpl (by omega)) pl (nI_clamp (by omega)) wM_a9 hP hD hS d_Mo_part_109 (fun H locs hP hD hS => ?_)
  refine lv_aload_n hx hb d_Mo_part_110 rfl (lv_at hl 1 rfl) ?_
  refine get_ms (x := ((upd x.1 0 0), (u2 (u2 (u2 (u2 x.2 10 (6 * pl + mm) p1) 11 (6 * pl + mm) p2) 12 (6 * pl + mm) p3) 9 pl ((x.2 9 pl) + 1)))) C 15 q_565 rfl (by decide) (.ref (ad 9)) rfl hP d_Mo_part_111 ?_
  refine lv_iload_n hx hb d_Mo_part_114 rfl (lv_at hl 2 rfl) ?_
  refine get_ma (x := ((upd x.1 0 0), (u2 (u2 (u2 (u2 x.2 10 (6 * pl + mm) p1) 11 (6 * pl + mm) p2) 12 (6 * pl + mm) p3) 9 pl ((x.2 9 pl) + 1)))) C 9 4 rfl (vp_in_nI hpl (by omega)) ((x.2 9 pl) + 1) ((congrArg ((u2 (u2 (u2 (u2 x.2 10 (6 * pl + mm) p1) 11 (6 * pl + mm) p2) 12 (6 * pl + mm) p3) 9 pl ((x.2 9 pl) + 1)) 9) (nI_clamp (by omega))).trans (u2_s (σ := (u2 (u2 (u2 x.2 10 (6 * pl + mm) p1) 11 (6 * pl + mm) p2) 12 (6 * pl + mm) p3)) (k := 9) (b := pl) (x := ((x.2 9 pl) + 1)))) hP d_Mo_part_115 ?_
  exact hret _ _ _ _ _ _ rfl rfl hP hD hS d_Mo_part_116
set_option maxHeartbeats 4000000 in
set_option maxRecDepth 100000 in
theorem c_Mo_clear_1 (l : Launch) (g : Glob) (ad : Nat → Nat) (x : MS) (p0 : Int32) (hbad : ¬ (inI p0 0 3 = 1)) : CI l g y_Mo_clear b_Mo_clear 3 (some .int) 1 22 [.ref (ad 0), .int p0] (wM g ad x) (0) (wM g ad (upd x.1 0 1, x.2)) := by
  refine CI.of .int rfl rfl (by decide +kernel) (Nat.le_of_ble_eq_true rfl) ?_
  intro p e s m below meth c A Q ls C hP hD hl hret hS
  obtain ⟨hx, hb, hml, hown, hw, hE, hA⟩ := id C
  have hl : lv_has ls 3 [(0, .ref (ad 0)), (1, .int p0)] := hl
  refine lv_aload_n hx hb d_Mo_clear_0 rfl (lv_at hl 0 rfl) ?_
  refine lv_iload_n hx hb d_Mo_clear_1 rfl (lv_at hl 1 rfl) ?_
  refine lv_iconst (v := 0) hx hb d_Mo_clear_2 (by decide) ?_
  refine lv_iconst (v := 3) hx hb d_Mo_clear_3 (by decide) ?_
  refine csI C v_Mo_152 [.int p0, .int 0, .int 3] [.ref (ad 0)] (c_Mo_in l g p0 0 3) hP hS rfl rfl hl.1 (Nat.le_of_ble_eq_true rfl) ⟨Nat.le_of_ble_eq_true rfl, Nat.le_of_ble_eq_true rfl⟩ d_Mo_clear_4 ⟨Nat.zero_le _, Nat.zero_le _⟩ (fun H locs hP hS => ?_)
  refine lv_if_eq (tgt := 14) hx hb d_Mo_clear_7 (by decide) (fun c7_1 => ?_) (fun c7_1 => ?_)
  · refine lv_iconst (v := 1) hx hb d_Mo_clear_14 (by decide) ?_
    refine put_ms C 0 (ty := .int) q_550 rfl (by decide) rfl (by decide +kernel) rfl rfl wM_s0 hP hD hS d_Mo_clear_15 (fun H locs hP hD hS => ?_)
    refine lv_aload_n hx hb d_Mo_clear_18 rfl (lv_at hl 0 rfl) ?_
    refine get_mi (x := ((upd x.1 0 1), x.2)) C 0 q_550 rfl (by decide) rfl 1 (pk_us (f := x.1) (k := 0) (x := 1)) hP d_Mo_clear_19 ?_
    refine lv_if_le (tgt := 27) hx hb d_Mo_clear_22 (by decide) (fun c22_2 => ?_) (fun c22_2 => ?_)
    · exact absurd c22_2 (by decide)
    refine lv_iconst (v := 0) hx hb d_Mo_clear_25 (by decide) ?_
    exact hret _ _ _ _ _ _ rfl rfl hP hD hS d_Mo_clear_26
  · exact absurd (in1 c7_1) hbad
set_option maxHeartbeats 4000000 in
set_option maxRecDepth 100000 in
theorem c_Mo_clear_0 (l : Launch) (g : Glob) (ad : Nat → Nat) (x : MS) (pl : Nat) (hpl : pl < 4) (v0 : inI (nI pl) 0 3 = 1) : CI l g y_Mo_clear b_Mo_clear 3 (some .int) 1 22 [.ref (ad 0), .int (nI pl)] (wM g ad x) (x.2 9 pl) (wM g ad (clearM pl x)) := by
  refine CI.of .int rfl rfl (by decide +kernel) (Nat.le_of_ble_eq_true rfl) ?_
  intro p e s m below meth c A Q ls C hP hD hl hret hS
  obtain ⟨hx, hb, hml, hown, hw, hE, hA⟩ := id C
  have hl : lv_has ls 3 [(0, .ref (ad 0)), (1, .int (nI pl))] := hl
  refine lv_aload_n hx hb d_Mo_clear_0 rfl (lv_at hl 0 rfl) ?_
  refine lv_iload_n hx hb d_Mo_clear_1 rfl (lv_at hl 1 rfl) ?_
  refine lv_iconst (v := 0) hx hb d_Mo_clear_2 (by decide) ?_
  refine lv_iconst (v := 3) hx hb d_Mo_clear_3 (by decide) ?_
  refine csI C v_Mo_152 [.int (nI pl), .int 0, .int 3] [.ref (ad 0)] (c_Mo_in l g (nI pl) 0 3) hP hS rfl rfl hl.1 (Nat.le_of_ble_eq_true rfl) ⟨Nat.le_of_ble_eq_true rfl, Nat.le_of_ble_eq_true rfl⟩ d_Mo_clear_4 ⟨Nat.zero_le _, Nat.zero_le _⟩ (fun H locs hP hS => ?_)
  refine lv_if_eq (tgt := 14) hx hb d_Mo_clear_7 (by decide) (fun c7_1 => ?_) (fun c7_1 => ?_)
  · exact absurd c7_1 (nz1 v0)
  refine lv_iconst (v := 0) hx hb d_Mo_clear_10 (by decide) ?_
  refine lv_goto (tgt := 15) hx hb d_Mo_clear_11 (by decide) ?_
  refine put_ms C 0 (ty := .int) q_550 rfl (by decide) rfl (by decide +kernel) rfl rfl wM_s0 hP hD hS d_Mo_clear_15 (fun H locs hP hD hS => ?_)
  refine lv_aload_n hx hb d_Mo_clear_18 rfl (lv_at hl 0 rfl) ?_
  refine get_mi (x := ((upd x.1 0 0), x.2)) C 0 q_550 rfl (by decide) rfl 0 (pk_us (f := x.1) (k := 0) (x := 0)) hP d_Mo_clear_19 ?_
  refine lv_if_le (tgt := 27) hx hb d_Mo_clear_22 (by decide) (fun c22_2 => ?_) (fun c22_2 => ?_)
  rotate_left
  · exact absurd (by decide) c22_2
  refine lv_aload_n hx hb d_Mo_clear_27 rfl (lv_at hl 0 rfl) ?_
  refine get_ms (x := ((upd x.1 0 0), x.2)) C 15 q_565 rfl (by decide) (.ref (ad 9)) rfl hP d_Mo_clear_28 ?_
  refine lv_iload_n hx hb d_Mo_clear_31 rfl (lv_at hl 1 rfl) ?_
  refine get_ma (x := ((upd x.1 0 0), x.2)) C 9 4 rfl (vp_in_nI hpl (by omega)) (x.2 9 pl) ((congrArg (x.2 9) (nI_clamp (by omega))).trans rfl) hP d_Mo_clear_32 ?_
  refine lv_istore_n (lv' := [(2, .int (x.2 9 pl)), (0, .ref (ad 0)), (1, .int (nI pl))]) hx hb d_Mo_clear_33 rfl hl (by decide) rfl (fun ls hl => ?_)
  refine lv_aload_n hx hb d_Mo_clear_34 rfl (lv_at hl 1 rfl) ?_
  refine get_ms (x := ((upd x.1 0 0), x.2)) C 15 q_565 rfl (by decide) (.ref (ad 9)) rfl hP d_Mo_clear_35 ?_
  refine lv_iload_n hx hb d_Mo_clear_38 rfl (lv_at hl 2 rfl) ?_
  refine lv_iconst (v := 0) hx hb d_Mo_clear_39 (by decide) ?_
  refine put_ma C 9 4 rfl (vp_in_nI hpl (by omega)) pl (nI_clamp (by omega)) wM_a9 hP hD hS d_Mo_clear_40 (fun H locs hP hD hS => ?_)
  refine lv_iload_n hx hb d_Mo_clear_41 rfl (lv_at hl 0 rfl) ?_
  exact hret _ _ _ _ _ _ rfl rfl hP hD hS d_Mo_clear_42
