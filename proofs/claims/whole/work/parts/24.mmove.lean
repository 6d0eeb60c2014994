theorem mvA1_k {s : Nat → Int32} {way : Int32} {b : Nat} {a : St2} {k : Nat} (h1 : k ≠ 15) (h2 : k ≠ 16) : mvA1 s way b a k = a k := by
  unfold mvA1
  rw [u2_row h2, u2_row h1, u2_row h2]
theorem mvB_k {way : Int32} {b : Nat} {x : MS} {k : Nat} (h1 : k ≠ 15) (h2 : k ≠ 16) (h3 : k ≠ 13) (h4 : k ≠ 14) : (mvB way b x).2 k = x.2 k := by
  unfold mvB
  dsimp only
  rw [hangA_k h3 h4, mvA1_k h1 h2]
theorem msB_s {b : Nat} {x : MS} {f : Nat} (h : f ≠ 25) : (msB b x).1 f = x.1 f := by
  unfold msB
  exact pk_un h
theorem msB_a {b : Nat} {x : MS} {k : Nat} (h : k ≠ 17) : (msB b x).2 k = x.2 k := by
  unfold msB
  exact u2_row h
theorem mdM_s {x : MS} {f : Nat} (h : f ≠ 24) : (mdM x).1 f = x.1 f := by
  unfold mdM
  exact pk_un h
theorem mdM_24 {x : MS} : (mdM x).1 24 = x.1 24 + 1 := by
  show upd x.1 24 (x.1 24 + 1) 24 = _
  exact pk_us
theorem mvA0_k {s : Nat → Int32} {turn way : Int32} {a : St2} {k : Nat} (h1 : k ≠ 13) (h2 : k ≠ 14) (h3 : k ≠ 15) : mvA0 s turn way a k = a k := by
  unfold mvA0
  rw [u2_row h3, u2_row h2, u2_row h1]
theorem msB_inv {n np b : Nat} {x : MS} (h : InvL n np x) : InvL n np (msB b x) := by
  obtain ⟨h1, h2, h3, h4⟩ := h
  exact ⟨fun i hi => by rw [msB_a (by decide)]; exact h1 i hi, by rw [msB_s (by decide)]; exact h2, by rw [msB_s (by decide)]; exact h3, by rw [msB_s (by decide)]; exact h4⟩
theorem stk01 {a b : Int32} : (if a = 0 then (if b ≤ 24 then (0 : Int32) else 1) else 1) = 0 ∨ (if a = 0 then (if b ≤ 24 then (0 : Int32) else 1) else 1) = 1 := by
  split
  · split <;> simp
  · simp
theorem fit01 {v : Int32} (h : v = 0 ∨ v = 1) : fits .boolean (.int v) = true := by
  rcases h with rfl | rfl <;> rfl
theorem made_ne {v : Int32} (h1 : 0 ≤ v.toInt) (h2 : v.toInt < 4000) : ¬ v + 1 = -1 := fun q => by
  have h := congrArg Int32.toInt q
  rw [tI_add (b := 1) (by show _ ≤ v.toInt + 1; omega) (by show v.toInt + 1 < _; omega)] at h
  have h' : v.toInt + 1 = -1 := h
  omega
theorem nn_ne {v : Int32} (h1 : 0 ≤ v.toInt) : ¬ v = -1 := fun q => by
  rw [q] at h1
  exact absurd h1 (by decide)
def stopM (x : MS) : Bool := !(x.1 25 == 0) || decide (4000 ≤ x.1 24)
theorem stopM_t1 {x : MS} (c : ¬ x.1 25 = 0) : stopM x = true := by simp [stopM, c]
theorem stopM_t2 {x : MS} (c : 4000 ≤ x.1 24) : stopM x = true := by simp [stopM, c]
theorem stopM_f {x : MS} (c1 : x.1 25 = 0) (c2 : ¬ 4000 ≤ x.1 24) : stopM x = false := by simp [stopM, c1, c2]
def goM (n np : Nat) (turn : Int32) (N : Nat) (fw : Int32) (x : MS) : MS := whileF stopM (moveM n np turn (sgnI fw)) N x
/-- what holds of the reference while it goes -/
def InvG (n np : Nat) (x : MS) : Prop := (∀ i, i < 17 → x.2 1 i = cosT i) ∧ x.1 2 = nI n ∧ x.1 12 = nI np ∧ 0 ≤ (x.1 24).toInt ∧ ∀ b, b < n → ¬ x.2 2 b = 0
theorem itF_keep {α : Type} {P : α → Prop} {f : Nat → α → α} (hf : ∀ i x, P x → P (f i x)) : ∀ (j n i : Nat) (x : α), n ≤ i + j → P x → P (itF f n i x) := by
  intro j
  induction j with
  | zero => intro n i x h hx; rw [itF_end (by omega)]; exact hx
  | succ j ih =>
    intro n i x h hx
    rcases Nat.lt_or_ge i n with q | q
    · rw [itF_step q]; exact ih n (i + 1) _ (by omega) (hf i x hx)
    · rw [itF_end q]; exact hx
theorem itF_all {α : Type} {P : α → Prop} {f : Nat → α → α} {n i : Nat} {x : α} (hf : ∀ i x, P x → P (f i x)) (hx : P x) : P (itF f n i x) := itF_keep hf n n i x (by omega) hx
/-- the parts of the reference's state that a move leaves -/
def KeepG (y x : MS) : Prop := x.2 1 = y.2 1 ∧ x.2 2 = y.2 2 ∧ x.1 2 = y.1 2 ∧ x.1 12 = y.1 12 ∧ x.1 24 = y.1 24
theorem mvB_keep {y : MS} {way : Int32} (b : Nat) (x : MS) (h : KeepG y x) : KeepG y (mvB way b x) := by
  obtain ⟨h1, h2, h3, h4, h5⟩ := h
  exact ⟨(mvB_k (by decide) (by decide) (by decide) (by decide)).trans h1, (mvB_k (by decide) (by decide) (by decide) (by decide)).trans h2, h3, h4, h5⟩
theorem msB_keep {y : MS} (b : Nat) (x : MS) (h : KeepG y x) : KeepG y (msB b x) := by
  obtain ⟨h1, h2, h3, h4, h5⟩ := h
  exact ⟨(msB_a (by decide)).trans h1, (msB_a (by decide)).trans h2, (msB_s (by decide)).trans h3, (msB_s (by decide)).trans h4, (msB_s (by decide)).trans h5⟩
theorem lookB_keep {y : MS} {np : Nat} (b : Nat) (x : MS) (h : KeepG y x) : KeepG y (lookB np b x) := by
  obtain ⟨h1, h2, h3, h4, h5⟩ := h
  exact ⟨(lookB_a (by decide)).trans h1, (lookB_a (by decide)).trans h2, (lookB_s (by decide) (by decide) (by decide) (by decide)).trans h3, (lookB_s (by decide) (by decide) (by decide) (by decide)).trans h4, (lookB_s (by decide) (by decide) (by decide) (by decide)).trans h5⟩
theorem moveM_keep {n np : Nat} {turn way : Int32} {x : MS} : (moveM n np turn way x).2 1 = x.2 1 ∧ (moveM n np turn way x).2 2 = x.2 2 ∧ (moveM n np turn way x).1 2 = x.1 2 ∧ (moveM n np turn way x).1 12 = x.1 12 ∧ (moveM n np turn way x).1 24 = x.1 24 + 1 := by
  unfold moveM
  have k1 : KeepG x (itF (mvB way) n 1 (x.1, mvA0 x.1 turn way x.2)) := itF_all mvB_keep ⟨mvA0_k (s := x.1) (turn := turn) (way := way) (a := x.2) (k := 1) (by decide) (by decide) (by decide), mvA0_k (s := x.1) (turn := turn) (way := way) (a := x.2) (k := 2) (by decide) (by decide) (by decide), rfl, rfl, rfl⟩
  generalize itF (mvB way) n 1 (x.1, mvA0 x.1 turn way x.2) = x1 at k1
  have k2 : KeepG (mdM x1) (itF (lookB np) n 0 (itF msB n 1 (mdM x1))) := itF_all lookB_keep (itF_all msB_keep ⟨rfl, rfl, rfl, rfl, rfl⟩)
  obtain ⟨a1, a2, a3, a4, a5⟩ := k1
  obtain ⟨b1, b2, b3, b4, b5⟩ := k2
  exact ⟨b1.trans a1, b2.trans a2, b3.trans ((mdM_s (by decide)).trans a3), b4.trans ((mdM_s (by decide)).trans a4), b5.trans (mdM_24.trans (by rw [a5]))⟩
theorem lt4000 {v : Int32} (c : ¬ 4000 ≤ v) : v.toInt < 4000 := by
  rcases Int.lt_or_le v.toInt 4000 with q | q
  · exact q
  · exact absurd (i32_le.mpr (show (4000 : Int32).toInt ≤ v.toInt from q)) c
theorem moveM_inv {n np : Nat} {turn way : Int32} {x : MS} (h : InvG n np x) (h4 : (x.1 24).toInt < 4000) : InvG n np (moveM n np turn way x) := by
  obtain ⟨k1, k2, k3, k4, k5⟩ := moveM_keep (n := n) (np := np) (turn := turn) (way := way) (x := x)
  obtain ⟨h1, h2, h3, h5, h6⟩ := h
  refine ⟨fun i hi => by rw [k1]; exact h1 i hi, k3.trans h2, k4.trans h3, ?_, fun b hb => by rw [k2]; exact h6 b hb⟩
  rw [k5, tI_add (b := 1) (by show _ ≤ (x.1 24).toInt + 1; omega) (by show (x.1 24).toInt + 1 < _; omega)]
  show 0 ≤ (x.1 24).toInt + 1
  omega

set_option maxHeartbeats 4000000 in
set_option maxRecDepth 100000 in
theorem c_Mo_move (l : Launch) (g : Glob) (ad : Nat → Nat) (x : MS) (n np : Nat) (hc : ∀ i, i < 17 → x.2 1 i = cosT i) (hn : x.1 2 = nI n) (hp : x.1 12 = nI np) (hm0 : 0 ≤ (x.1 24).toInt) (hm4 : (x.1 24).toInt < 4000) (hL : ∀ b, b < n → ¬ x.2 2 b = 0) (h3 : n ≤ 3) (h20 : np ≤ 20) (turn fw : Int32) : CV l g y_Mo_move b_Mo_move 7 4 106 [.ref (ad 0), .int turn, .int fw] (wM g ad x) (wM g ad (moveM n np turn (sgnI fw) x)) := by
  refine CV.of (by decide +kernel) (Nat.le_of_ble_eq_true rfl) ?_
  intro p e s m below meth c A Q ls C hP hD hl hret hS
  obtain ⟨hx, hb, hml, hown, hw, hE, hA⟩ := id C
  have hl : lv_has ls 7 [(0, .ref (ad 0)), (1, .int turn), (2, .int fw)] := hl
  unfold moveM at hret
  generalize hway : sgnI fw = way at hret
  generalize h9 : itF (lookB np) n 0 (itF msB n 1 (mdM (itF (mvB way) n 1 (x.1, mvA0 x.1 turn way x.2)))) = x9 at hret
  obtain ⟨s0, a0⟩ := x
  dsimp only at hc hn hp hm0 hm4 hL hret h9
  have K0 : ∀ (ls : Array Slot), lv_has ls 7 [(3, .int way), (0, .ref (ad 0)), (1, .int turn), (2, .int fw)] → W p l e { frames := 4, cells := 0, slots := 0, locals := 106 } s m ([.ref (ad 0), .int turn, .int fw] : List Value).toArray below meth c s.heap [] 0 0 Q (F0 m 10 ls []) := by
    intro ls hl
    refine lv_aload_n hx hb d_Mo_move_10 rfl (lv_at hl 1 rfl) ?_
    refine get_ms (x := (s0, a0)) C 19 q_569 rfl (by decide) (.ref (ad 13)) rfl hP d_Mo_move_11 ?_
    refine lv_iconst (v := 0) hx hb d_Mo_move_14 (by decide) ?_
    refine lv_aload_n hx hb d_Mo_move_15 rfl (lv_at hl 1 rfl) ?_
    refine get_ms (x := (s0, a0)) C 19 q_569 rfl (by decide) (.ref (ad 13)) rfl hP d_Mo_move_16 ?_
    refine lv_iconst (v := 0) hx hb d_Mo_move_19 (by decide) ?_
    refine get_ma (x := (s0, a0)) C 13 3 rfl (by unfold vp_in; decide) (a0 13 0) ((congrArg (a0 13) (show (0 : Int32).toNatClampNeg = 0 from by decide)).trans rfl) hP d_Mo_move_20 ?_
    refine lv_iload_n hx hb d_Mo_move_21 rfl (lv_at hl 0 rfl) ?_
    refine lv_aload_n hx hb d_Mo_move_22 rfl (lv_at hl 1 rfl) ?_
    refine get_mi (x := (s0, a0)) C 11 q_561 rfl (by decide) rfl (s0 11) rfl hP d_Mo_move_23 ?_
    refine lv_imul hx hb d_Mo_move_26 ?_
    refine lv_aload_n hx hb d_Mo_move_27 rfl (lv_at hl 1 rfl) ?_
    refine lv_aload_n hx hb d_Mo_move_28 rfl (lv_at hl 1 rfl) ?_
    refine get_ms (x := (s0, a0)) C 21 q_571 rfl (by decide) (.ref (ad 15)) rfl hP d_Mo_move_29 ?_
    refine lv_iconst (v := 0) hx hb d_Mo_move_32 (by decide) ?_
    refine get_ma (x := (s0, a0)) C 15 3 rfl (by unfold vp_in; decide) (a0 15 0) ((congrArg (a0 15) (show (0 : Int32).toNatClampNeg = 0 from by decide)).trans rfl) hP d_Mo_move_33 ?_
    refine cvI C v_Mo_90 [.int (a0 15 0)] [.int (way * (s0 11)), .int (a0 13 0), .int 0, .ref (ad 13)] (c_Mo_dx l g ad (s0, a0) hc (a0 15 0)) hP hD hS [0, 1, 2, 3, 4, 5, 6, 7, 8, 9, 10, 11, 12, 13, 14, 15, 16, 17, 18, 19, 20] [] [0, 1, 2, 3, 4, 5, 6, 7, 8, 9, 10, 11, 12, 13, 14, 15, 16, 17, 18, 19, 20] [] (wM g ad (s0, a0)) rfl rfl (by decide) (by decide) (by decide) rfl (by decide) 0 rfl rfl rfl rfl hl.1 (Nat.le_of_ble_eq_true rfl) ⟨Nat.le_of_ble_eq_true rfl, Nat.le_of_ble_eq_true rfl⟩ d_Mo_move_34 ⟨Nat.zero_le _, Nat.zero_le _⟩ (fun H locs hP hD hS => ?_)
    refine lv_imul hx hb d_Mo_move_37 ?_
    refine lv_iadd hx hb d_Mo_move_38 ?_
    refine put_ma C 13 3 rfl (by unfold vp_in; decide) 0 (show (0 : Int32).toNatClampNeg = 0 from by decide) wM_a13 hP hD hS d_Mo_move_39 (fun H locs hP hD hS => ?_)
    refine lv_aload_n hx hb d_Mo_move_40 rfl (lv_at hl 1 rfl) ?_
    refine get_ms (x := (s0, (u2 a0 13 0 ((a0 13 0) + ((way * (s0 11)) * (dX (a0 15 0))))))) C 20 q_570 rfl (by decide) (.ref (ad 14)) rfl hP d_Mo_move_41 ?_
    refine lv_iconst (v := 0) hx hb d_Mo_move_44 (by decide) ?_
    refine lv_aload_n hx hb d_Mo_move_45 rfl (lv_at hl 1 rfl) ?_
    refine get_ms (x := (s0, (u2 a0 13 0 ((a0 13 0) + ((way * (s0 11)) * (dX (a0 15 0))))))) C 20 q_570 rfl (by decide) (.ref (ad 14)) rfl hP d_Mo_move_46 ?_
    refine lv_iconst (v := 0) hx hb d_Mo_move_49 (by decide) ?_
    refine get_ma (x := (s0, (u2 a0 13 0 ((a0 13 0) + ((way * (s0 11)) * (dX (a0 15 0))))))) C 14 3 rfl (by unfold vp_in; decide) (a0 14 0) ((congrArg ((u2 a0 13 0 ((a0 13 0) + ((way * (s0 11)) * (dX (a0 15 0))))) 14) (show (0 : Int32).toNatClampNeg = 0 from by decide)).trans (u2_k (σ := a0) (k := 13) (b := 0) (x := ((a0 13 0) + ((way * (s0 11)) * (dX (a0 15 0))))) (i := 14) (j := 0) (by decide))) hP d_Mo_move_50 ?_
    refine lv_iload_n hx hb d_Mo_move_51 rfl (lv_at hl 0 rfl) ?_
    refine lv_aload_n hx hb d_Mo_move_52 rfl (lv_at hl 1 rfl) ?_
    refine get_mi (x := (s0, (u2 a0 13 0 ((a0 13 0) + ((way * (s0 11)) * (dX (a0 15 0))))))) C 11 q_561 rfl (by decide) rfl (s0 11) rfl hP d_Mo_move_53 ?_
    refine lv_imul hx hb d_Mo_move_56 ?_
    refine lv_aload_n hx hb d_Mo_move_57 rfl (lv_at hl 1 rfl) ?_
    refine lv_aload_n hx hb d_Mo_move_58 rfl (lv_at hl 1 rfl) ?_
    refine get_ms (x := (s0, (u2 a0 13 0 ((a0 13 0) + ((way * (s0 11)) * (dX (a0 15 0))))))) C 21 q_571 rfl (by decide) (.ref (ad 15)) rfl hP d_Mo_move_59 ?_
    refine lv_iconst (v := 0) hx hb d_Mo_move_62 (by decide) ?_
    refine get_ma (x := (s0, (u2 a0 13 0 ((a0 13 0) + ((way * (s0 11)) * (dX (a0 15 0))))))) C 15 3 rfl (by unfold vp_in; decide) (a0 15 0) ((congrArg ((u2 a0 13 0 ((a0 13 0) + ((way * (s0 11)) * (dX (a0 15 0))))) 15) (show (0 : Int32).toNatClampNeg = 0 from by decide)).trans (u2_k (σ := a0) (k := 13) (b := 0) (x := ((a0 13 0) + ((way * (s0 11)) * (dX (a0 15 0))))) (i := 15) (j := 0) (by decide))) hP d_Mo_move_63 ?_
    refine cvI C v_Mo_97 [.int (a0 15 0)] [.int (way * (s0 11)), .int (a0 14 0), .int 0, .ref (ad 14)] (c_Mo_dy l g ad (s0, (u2 a0 13 0 ((a0 13 0) + ((way * (s0 11)) * (dX (a0 15 0)))))) (fun i hi => (u2_k (σ := a0) (k := 13) (b := 0) (x := ((a0 13 0) + ((way * (s0 11)) * (dX (a0 15 0))))) (i := 1) (j := i) (by decide)).trans (hc i hi)) (a0 15 0)) hP hD hS [0, 1, 2, 3, 4, 5, 6, 7, 8, 9, 10, 11, 12, 13, 14, 15, 16, 17, 18, 19, 20] [] [0, 1, 2, 3, 4, 5, 6, 7, 8, 9, 10, 11, 12, 13, 14, 15, 16, 17, 18, 19, 20] [] (wM g ad (s0, (u2 a0 13 0 ((a0 13 0) + ((way * (s0 11)) * (dX (a0 15 0))))))) rfl rfl (by decide) (by decide) (by decide) rfl (by decide) 0 rfl rfl rfl rfl hl.1 (Nat.le_of_ble_eq_true rfl) ⟨Nat.le_of_ble_eq_true rfl, Nat.le_of_ble_eq_true rfl⟩ d_Mo_move_64 ⟨Nat.zero_le _, Nat.zero_le _⟩ (fun H locs hP hD hS => ?_)
    refine lv_imul hx hb d_Mo_move_67 ?_
    refine lv_iadd hx hb d_Mo_move_68 ?_
    refine put_ma C 14 3 rfl (by unfold vp_in; decide) 0 (show (0 : Int32).toNatClampNeg = 0 from by decide) wM_a14 hP hD hS d_Mo_move_69 (fun H locs hP hD hS => ?_)
    refine lv_aload_n hx hb d_Mo_move_70 rfl (lv_at hl 1 rfl) ?_
    refine get_ms (x := (s0, (u2 (u2 a0 13 0 ((a0 13 0) + ((way * (s0 11)) * (dX (a0 15 0))))) 14 0 ((a0 14 0) + ((way * (s0 11)) * (dY (a0 15 0))))))) C 21 q_571 rfl (by decide) (.ref (ad 15)) rfl hP d_Mo_move_71 ?_
    refine lv_iconst (v := 0) hx hb d_Mo_move_74 (by decide) ?_
    refine lv_aload_n hx hb d_Mo_move_75 rfl (lv_at hl 1 rfl) ?_
    refine get_ms (x := (s0, (u2 (u2 a0 13 0 ((a0 13 0) + ((way * (s0 11)) * (dX (a0 15 0))))) 14 0 ((a0 14 0) + ((way * (s0 11)) * (dY (a0 15 0))))))) C 21 q_571 rfl (by decide) (.ref (ad 15)) rfl hP d_Mo_move_76 ?_
    refine lv_iconst (v := 0) hx hb d_Mo_move_79 (by decide) ?_
    refine get_ma (x := (s0, (u2 (u2 a0 13 0 ((a0 13 0) + ((way * (s0 11)) * (dX (a0 15 0))))) 14 0 ((a0 14 0) + ((way * (s0 11)) * (dY (a0 15 0))))))) C 15 3 rfl (by unfold vp_in; decide) (a0 15 0) ((congrArg ((u2 (u2 a0 13 0 ((a0 13 0) + ((way * (s0 11)) * (dX (a0 15 0))))) 14 0 ((a0 14 0) + ((way * (s0 11)) * (dY (a0 15 0))))) 15) (show (0 : Int32).toNatClampNeg = 0 from by decide)).trans ((u2_k (σ := (u2 a0 13 0 ((a0 13 0) + ((way * (s0 11)) * (dX (a0 15 0)))))) (k := 14) (b := 0) (x := ((a0 14 0) + ((way * (s0 11)) * (dY (a0 15 0))))) (i := 15) (j := 0) (by decide)).trans (u2_k (σ := a0) (k := 13) (b := 0) (x := ((a0 13 0) + ((way * (s0 11)) * (dX (a0 15 0))))) (i := 15) (j := 0) (by decide)))) hP d_Mo_move_80 ?_
    refine lv_iload_n hx hb d_Mo_move_81 rfl (lv_at hl 0 rfl) ?_
    refine lv_iload_n hx hb d_Mo_move_82 rfl (lv_at hl 2 rfl) ?_
    refine lv_imul hx hb d_Mo_move_83 ?_
    refine lv_iadd hx hb d_Mo_move_84 ?_
    refine lv_bipush (v := 63) hx hb d_Mo_move_85 (by decide) ?_
    refine lv_iand hx hb d_Mo_move_87 ?_
    refine put_ma C 15 3 rfl (by unfold vp_in; decide) 0 (show (0 : Int32).toNatClampNeg = 0 from by decide) wM_a15 hP hD hS d_Mo_move_88 (fun H locs hP hD hS => ?_)
    refine lv_iconst (v := 1) hx hb d_Mo_move_89 (by decide) ?_
    refine lv_istore (lv' := [(4, .int 1), (3, .int way), (0, .ref (ad 0)), (1, .int turn), (2, .int fw)]) hx hb d_Mo_move_90 hl (by decide) rfl (fun ls hl => ?_)
    generalize hx8 : itF (mvB way) n 1 (s0, mvA0 s0 turn way a0) = x8 at h9
    have l1 : ∀ (t : Nat) (b : Nat) (a : St2) (H : Heap) (locs : List Loc) (ls : Array Slot), 1 ≤ b → b ≤ n + 1 → n + 1 < b + t → (∀ i, i < 17 → a 1 i = cosT i) → (∀ b, b < n → ¬ a 2 b = 0) → itF (mvB way) n b (s0, a) = x8 → va_P g.1 classes (wM g ad (s0, a)) H → va_D A (wM g ad (s0, a)) → va_S A s.heap H locs → lv_has ls 7 [(4, .int (nI b)), (3, .int way), (0, .ref (ad 0)), (1, .int turn), (2, .int fw)] → W p l e { frames := 4, cells := 0, slots := 0, locals := 106 } s m ([.ref (ad 0), .int turn, .int fw] : List Value).toArray below meth c H locs 0 0 Q (F0 m 92 ls []) := by
      intro t
      induction t with
      | zero =>
        intro b a H locs ls hb1 hbn ht hc hL h8 hP hD hS hl
        exact absurd trivial (by omega)
      | succ t ih =>
        intro b a H locs ls hb1 hbn ht hc hL h8 hP hD hS hl
        refine lv_iload hx hb d_Mo_move_92 (lv_at hl 0 rfl) ?_
        refine lv_aload_n hx hb d_Mo_move_94 rfl (lv_at hl 2 rfl) ?_
        refine get_mi (x := (s0, a)) C 2 q_552 rfl (by decide) rfl (s0 2) rfl hP d_Mo_move_95 ?_
        refine lv_icmp_ge (tgt := 203) hx hb d_Mo_move_98 (by decide) (fun c98_1 => ?_) (fun c98_1 => ?_)
        · have h8 := (itF_end (ge_of_le hn h3 hbn c98_1)).symm.trans h8
          subst h8
          refine lv_aload_n hx hb d_Mo_move_203 rfl (lv_at hl 2 rfl) ?_
          refine lv_dup hx hb d_Mo_move_204 rfl ?_
          refine get_mi (x := (s0, a)) C 24 q_574 rfl (by decide) rfl (s0 24) rfl hP d_Mo_move_205 ?_
          refine lv_iconst (v := 1) hx hb d_Mo_move_208 (by decide) ?_
          refine lv_iadd hx hb d_Mo_move_209 ?_
          refine put_ms C 24 (ty := .int) q_574 rfl (by decide) rfl (by decide +kernel) rfl rfl wM_s24 hP hD hS d_Mo_move_210 (fun H locs hP hD hS => ?_)
          refine lv_iconst (v := 1) hx hb d_Mo_move_213 (by decide) ?_
          refine lv_istore (lv' := [(4, .int 1), (3, .int way), (0, .ref (ad 0)), (1, .int turn), (2, .int fw)]) hx hb d_Mo_move_214 hl (by decide) rfl (fun ls hl => ?_)
          have hI : InvL n np (mdM (s0, a)) := ⟨hc, by rw [mdM_s (by decide)]; exact hn, by rw [mdM_s (by decide)]; exact hp, by rw [mdM_24]; exact made_ne hm0 hm4⟩
          generalize hx7 : itF msB n 1 (mdM (s0, a)) = x7 at h9
          have l2 : ∀ (t2 : Nat) (b : Nat) (x : MS) (H : Heap) (locs : List Loc) (ls : Array Slot), 1 ≤ b → b ≤ n + 1 → n + 1 < b + t2 → InvL n np x → itF msB n b x = x7 → va_P g.1 classes (wM g ad x) H → va_D A (wM g ad x) → va_S A s.heap H locs → lv_has ls 7 [(4, .int (nI b)), (0, .ref (ad 0))] → W p l e { frames := 4, cells := 0, slots := 0, locals := 106 } s m ([.ref (ad 0), .int turn, .int fw] : List Value).toArray below meth c H locs 0 0 Q (F0 m 216 ls []) := by
            intro t2
            induction t2 with
            | zero =>
              intro b x H locs ls hb1 hbn ht2 hI h7 hP hD hS hl
              exact absurd trivial (by omega)
            | succ t2 ih =>
              intro b x H locs ls hb1 hbn ht2 hI h7 hP hD hS hl
              obtain ⟨hc, hn, hp, hm⟩ := id hI
              refine lv_iload hx hb d_Mo_move_216 (lv_at hl 0 rfl) ?_
              refine lv_aload_n hx hb d_Mo_move_218 rfl (lv_at hl 1 rfl) ?_
              refine get_mi (x := x) C 2 q_552 rfl (by decide) rfl (x.1 2) rfl hP d_Mo_move_219 ?_
              refine lv_icmp_ge (tgt := 308) hx hb d_Mo_move_222 (by decide) (fun c222_2 => ?_) (fun c222_2 => ?_)
              · have h7 := (itF_end (ge_of_le hn h3 hbn c222_2)).symm.trans h7
                subst h7
                have hI9 := hI
                refine lv_aload_n hx hb d_Mo_move_308 rfl (lv_at hl 1 rfl) ?_
                refine cvV C v_Mo_142 [] [] (c_Mo_look l g ad x n np hI9 h3 h20) hP hD hS [0, 1, 2, 3, 4, 5, 6, 7, 8, 9, 10, 11, 12, 13, 14, 15, 16, 17, 18, 19, 20] [] [0, 1, 2, 3, 4, 5, 6, 7, 8, 9, 10, 11, 12, 13, 14, 15, 16, 17, 18, 19, 20] [] (wM g ad (itF (lookB np) n 0 x)) rfl rfl (by decide) (by decide) (by decide) rfl (by decide) 0 rfl rfl rfl rfl hl.1 (Nat.le_of_ble_eq_true rfl) ⟨Nat.le_of_ble_eq_true rfl, Nat.le_of_ble_eq_true rfl⟩ d_Mo_move_309 ⟨Nat.zero_le _, Nat.zero_le _⟩ (fun H locs hP hD hS => ?_)
                exact hret _ _ _ _ _ (by rw [← h9]) hP hD hS d_Mo_move_312
              · have hlt := lt_of_nle hn h3 hbn c222_2
                have hb3 : b < 3 := by omega
                refine lv_aload_n hx hb d_Mo_move_225 rfl (lv_at hl 1 rfl) ?_
                refine lv_iload hx hb d_Mo_move_226 (lv_at hl 0 rfl) ?_
                refine cvI C v_Mo_145 [.int (nI b)] [] (c_Mo_askewOf l g ad x b hb3) hP hD hS [0, 1, 2, 3, 4, 5, 6, 7, 8, 9, 10, 11, 12, 13, 14, 15, 16, 17, 18, 19, 20] [] [0, 1, 2, 3, 4, 5, 6, 7, 8, 9, 10, 11, 12, 13, 14, 15, 16, 17, 18, 19, 20] [] (wM g ad x) rfl rfl (by decide) (by decide) (by decide) rfl (by decide) 0 rfl rfl rfl rfl hl.1 (Nat.le_of_ble_eq_true rfl) ⟨Nat.le_of_ble_eq_true rfl, Nat.le_of_ble_eq_true rfl⟩ d_Mo_move_228 ⟨Nat.zero_le _, Nat.zero_le _⟩ (fun H locs hP hD hS => ?_)
                refine lv_istore (lv' := [(5, .int (askF (poM x.2) b)), (4, .int (nI b)), (0, .ref (ad 0))]) hx hb d_Mo_move_231 hl (by decide) rfl (fun ls hl => ?_)
                have J246 : ∀ (sz : Int32), sz = sizI (askF (poM x.2) b) → W p l e { frames := 4, cells := 0, slots := 0, locals := 106 } s m ([.ref (ad 0), .int turn, .int fw] : List Value).toArray below meth c H locs 0 0 Q (F0 m 246 ls [.int sz]) := by
                  intro sz esz
                  refine lv_istore (lv' := [(6, .int sz), (5, .int (askF (poM x.2) b)), (4, .int (nI b)), (0, .ref (ad 0))]) hx hb d_Mo_move_246 hl (by decide) rfl (fun ls hl => ?_)
                  refine lv_aload_n hx hb d_Mo_move_248 rfl (lv_at hl 3 rfl) ?_
                  refine get_ms (x := x) C 23 q_573 rfl (by decide) (.ref (ad 17)) rfl hP d_Mo_move_249 ?_
                  refine lv_iload hx hb d_Mo_move_252 (lv_at hl 2 rfl) ?_
                  have J278 : ∀ (gr : Int32), gr = (if sz ≤ x.2 17 b then x.2 17 b else sz) → W p l e { frames := 4, cells := 0, slots := 0, locals := 106 } s m ([.ref (ad 0), .int turn, .int fw] : List Value).toArray below meth c H locs 0 0 Q (F0 m 278 ls [.int gr, .int (nI b), .ref (ad 17)]) := by
                    intro gr egr
                    refine put_ma C 17 3 rfl (vp_in_nI hb3 (by omega)) b (nI_clamp (by omega)) wM_a17 hP hD hS d_Mo_move_278 (fun H locs hP hD hS => ?_)
                    refine lv_aload_n hx hb d_Mo_move_279 rfl (lv_at hl 3 rfl) ?_
                    have J299 : ∀ (sk : Int32), sk = (if x.1 25 = 0 then (if sz ≤ 24 then 0 else 1) else 1) → W p l e { frames := 4, cells := 0, slots := 0, locals := 106 } s m ([.ref (ad 0), .int turn, .int fw] : List Value).toArray below meth c H locs 0 0 Q (F0 m 299 ls [.int sk, .ref (ad 0)]) := by
                      intro sk esk
                      refine put_ms C 25 (ty := .boolean) q_575 rfl (by decide) rfl (by decide +kernel) (nar01 (by rw [esk]; exact stk01)) (fit01 (by rw [esk]; exact stk01)) wM_s25 hP hD hS d_Mo_move_299 (fun H locs hP hD hS => ?_)
                      refine lv_iinc (v := (nI (b + 1))) (lv' := [(4, .int (nI (b + 1))), (6, .int sz), (5, .int (askF (poM x.2) b)), (0, .ref (ad 0))]) hx hb d_Mo_move_302 hl (k := 2) rfl (nI_1 b) (by decide) rfl (fun ls hl => ?_)
                      refine lv_goto (tgt := 216) hx hb d_Mo_move_305 (by decide) ?_
                      have e1 : msB b x = ((upd x.1 25 sk), (u2 x.2 17 b gr)) := by unfold msB; rw [esk, egr, esz]
                      exact ih (b + 1) ((upd x.1 25 sk), (u2 x.2 17 b gr)) _ _ _ (by omega) (by omega) (by omega) (e1 ▸ msB_inv hI) (it_back hlt h7 e1) hP hD hS (lv_sub hl [0, 3] rfl)
                    refine lv_aload_n hx hb d_Mo_move_280 rfl (lv_at hl 3 rfl) ?_
                    refine get_mi (x := (x.1, (u2 x.2 17 b gr))) C 25 q_575 rfl (by decide) rfl (x.1 25) rfl hP d_Mo_move_281 ?_
                    refine lv_if_ne (tgt := 294) hx hb d_Mo_move_284 (by decide) (fun c284_3 => ?_) (fun c284_3 => ?_)
                    · refine lv_iconst (v := 1) hx hb d_Mo_move_294 (by decide) ?_
                      refine lv_goto (tgt := 299) hx hb d_Mo_move_295 (by decide) ?_
                      exact J299 _ ((if_neg c284_3).symm)
                    · refine lv_iload hx hb d_Mo_move_287 (lv_at hl 0 rfl) ?_
                      refine lv_bipush (v := 24) hx hb d_Mo_move_289 (by decide) ?_
                      refine lv_icmp_le (tgt := 298) hx hb d_Mo_move_291 (by decide) (fun c291_4 => ?_) (fun c291_4 => ?_)
                      · refine lv_iconst (v := 0) hx hb d_Mo_move_298 (by decide) ?_
                        exact J299 _ (((if_pos c284_3).trans (if_pos c291_4)).symm)
                      · refine lv_iconst (v := 1) hx hb d_Mo_move_294 (by decide) ?_
                        refine lv_goto (tgt := 299) hx hb d_Mo_move_295 (by decide) ?_
                        exact J299 _ (((if_pos c284_3).trans (if_neg c291_4)).symm)
                  refine lv_iload hx hb d_Mo_move_254 (lv_at hl 0 rfl) ?_
                  refine lv_aload_n hx hb d_Mo_move_256 rfl (lv_at hl 3 rfl) ?_
                  refine get_ms (x := x) C 23 q_573 rfl (by decide) (.ref (ad 17)) rfl hP d_Mo_move_257 ?_
                  refine lv_iload hx hb d_Mo_move_260 (lv_at hl 2 rfl) ?_
                  refine get_ma (x := x) C 17 3 rfl (vp_in_nI hb3 (by omega)) (x.2 17 b) ((congrArg (x.2 17) (nI_clamp (by omega))).trans rfl) hP d_Mo_move_262 ?_
                  refine lv_icmp_le (tgt := 271) hx hb d_Mo_move_263 (by decide) (fun c263_5 => ?_) (fun c263_5 => ?_)
                  · refine lv_aload_n hx hb d_Mo_move_271 rfl (lv_at hl 3 rfl) ?_
                    refine get_ms (x := x) C 23 q_573 rfl (by decide) (.ref (ad 17)) rfl hP d_Mo_move_272 ?_
                    refine lv_iload hx hb d_Mo_move_275 (lv_at hl 2 rfl) ?_
                    refine get_ma (x := x) C 17 3 rfl (vp_in_nI hb3 (by omega)) (x.2 17 b) ((congrArg (x.2 17) (nI_clamp (by omega))).trans rfl) hP d_Mo_move_277 ?_
                    exact J278 _ ((if_pos c263_5).symm)
                  · refine lv_iload hx hb d_Mo_move_266 (lv_at hl 0 rfl) ?_
                    refine lv_goto (tgt := 278) hx hb d_Mo_move_268 (by decide) ?_
                    exact J278 _ ((if_neg c263_5).symm)
                refine lv_iload hx hb d_Mo_move_233 (lv_at hl 0 rfl) ?_
                refine lv_if_ge (tgt := 244) hx hb d_Mo_move_235 (by decide) (fun c235_6 => ?_) (fun c235_6 => ?_)
                · refine lv_iload hx hb d_Mo_move_244 (lv_at hl 0 rfl) ?_
                  exact J246 _ ((if_pos c235_6).symm)
                · refine lv_iload hx hb d_Mo_move_238 (lv_at hl 0 rfl) ?_
                  refine lv_ineg hx hb d_Mo_move_240 ?_
                  refine lv_goto (tgt := 246) hx hb d_Mo_move_241 (by decide) ?_
                  exact J246 _ ((if_neg c235_6).symm)
          exact l2 (n + 2) 1 (mdM (s0, a)) _ _ _ (by omega) (by omega) (by omega) hI hx7 hP hD hS (lv_sub hl [0, 2] rfl)
        · have hlt := lt_of_nle hn h3 hbn c98_1
          have hb3 : b < 3 := by omega
          refine lv_aload_n hx hb d_Mo_move_101 rfl (lv_at hl 2 rfl) ?_
          refine get_ms (x := (s0, a)) C 22 q_572 rfl (by decide) (.ref (ad 16)) rfl hP d_Mo_move_102 ?_
          refine lv_iload hx hb d_Mo_move_105 (lv_at hl 0 rfl) ?_
          refine lv_aload_n hx hb d_Mo_move_107 rfl (lv_at hl 2 rfl) ?_
          refine get_ms (x := (s0, a)) C 22 q_572 rfl (by decide) (.ref (ad 16)) rfl hP d_Mo_move_108 ?_
          refine lv_iload hx hb d_Mo_move_111 (lv_at hl 0 rfl) ?_
          refine get_ma (x := (s0, a)) C 16 3 rfl (vp_in_nI hb3 (by omega)) (a 16 b) ((congrArg (a 16) (nI_clamp (by omega))).trans rfl) hP d_Mo_move_113 ?_
          refine lv_iload_n hx hb d_Mo_move_114 rfl (lv_at hl 1 rfl) ?_
          refine lv_aload_n hx hb d_Mo_move_115 rfl (lv_at hl 2 rfl) ?_
          refine lv_iload hx hb d_Mo_move_116 (lv_at hl 0 rfl) ?_
          refine cvI C v_Mo_145 [.int (nI b)] [.int way, .int (a 16 b), .int (nI b), .ref (ad 16)] (c_Mo_askewOf l g ad (s0, a) b hb3) hP hD hS [0, 1, 2, 3, 4, 5, 6, 7, 8, 9, 10, 11, 12, 13, 14, 15, 16, 17, 18, 19, 20] [] [0, 1, 2, 3, 4, 5, 6, 7, 8, 9, 10, 11, 12, 13, 14, 15, 16, 17, 18, 19, 20] [] (wM g ad (s0, a)) rfl rfl (by decide) (by decide) (by decide) rfl (by decide) 0 rfl rfl rfl rfl hl.1 (Nat.le_of_ble_eq_true rfl) ⟨Nat.le_of_ble_eq_true rfl, Nat.le_of_ble_eq_true rfl⟩ d_Mo_move_118 ⟨Nat.zero_le _, Nat.zero_le _⟩ (fun H locs hP hD hS => ?_)
          refine lv_imul hx hb d_Mo_move_121 ?_
          refine lv_aload_n hx hb d_Mo_move_122 rfl (lv_at hl 2 rfl) ?_
          refine get_mi (x := (s0, a)) C 11 q_561 rfl (by decide) rfl (s0 11) rfl hP d_Mo_move_123 ?_
          refine lv_imul hx hb d_Mo_move_126 ?_
          refine lv_iadd hx hb d_Mo_move_127 ?_
          refine put_ma C 16 3 rfl (vp_in_nI hb3 (by omega)) b (nI_clamp (by omega)) wM_a16 hP hD hS d_Mo_move_128 (fun H locs hP hD hS => ?_)
          refine lv_aload_n hx hb d_Mo_move_129 rfl (lv_at hl 2 rfl) ?_
          refine get_ms (x := (s0, (u2 a 16 b ((a 16 b) + ((way * (askF (poM a) b)) * (s0 11)))))) C 22 q_572 rfl (by decide) (.ref (ad 16)) rfl hP d_Mo_move_130 ?_
          refine lv_iload hx hb d_Mo_move_133 (lv_at hl 0 rfl) ?_
          refine get_ma (x := (s0, (u2 a 16 b ((a 16 b) + ((way * (askF (poM a) b)) * (s0 11)))))) C 16 3 rfl (vp_in_nI hb3 (by omega)) ((a 16 b) + ((way * (askF (poM a) b)) * (s0 11))) ((congrArg ((u2 a 16 b ((a 16 b) + ((way * (askF (poM a) b)) * (s0 11)))) 16) (nI_clamp (by omega))).trans (u2_s (σ := a) (k := 16) (b := b) (x := ((a 16 b) + ((way * (askF (poM a) b)) * (s0 11)))))) hP d_Mo_move_135 ?_
          refine lv_aload_n hx hb d_Mo_move_136 rfl (lv_at hl 2 rfl) ?_
          refine get_ms (x := (s0, (u2 a 16 b ((a 16 b) + ((way * (askF (poM a) b)) * (s0 11)))))) C 3 q_553 rfl (by decide) (.ref (ad 2)) rfl hP d_Mo_move_137 ?_
          refine lv_iload hx hb d_Mo_move_140 (lv_at hl 0 rfl) ?_
          refine get_ma (x := (s0, (u2 a 16 b ((a 16 b) + ((way * (askF (poM a) b)) * (s0 11)))))) C 2 3 rfl (vp_in_nI hb3 (by omega)) (a 2 b) ((congrArg ((u2 a 16 b ((a 16 b) + ((way * (askF (poM a) b)) * (s0 11)))) 2) (nI_clamp (by omega))).trans (u2_k (σ := a) (k := 16) (b := b) (x := ((a 16 b) + ((way * (askF (poM a) b)) * (s0 11)))) (i := 2) (j := b) (by decide))) hP d_Mo_move_142 ?_
          refine lv_idiv hx hb d_Mo_move_143 (hL b hlt) ?_
          refine lv_istore (lv' := [(5, .int (((a 16 b) + ((way * (askF (poM a) b)) * (s0 11))) / (a 2 b))), (4, .int (nI b)), (3, .int way), (0, .ref (ad 0)), (1, .int turn), (2, .int fw)]) hx hb d_Mo_move_144 hl (by decide) rfl (fun ls hl => ?_)
          refine lv_aload_n hx hb d_Mo_move_146 rfl (lv_at hl 3 rfl) ?_
          refine get_ms (x := (s0, (u2 a 16 b ((a 16 b) + ((way * (askF (poM a) b)) * (s0 11)))))) C 21 q_571 rfl (by decide) (.ref (ad 15)) rfl hP d_Mo_move_147 ?_
          refine lv_iload hx hb d_Mo_move_150 (lv_at hl 1 rfl) ?_
          refine lv_aload_n hx hb d_Mo_move_152 rfl (lv_at hl 3 rfl) ?_
          refine get_ms (x := (s0, (u2 a 16 b ((a 16 b) + ((way * (askF (poM a) b)) * (s0 11)))))) C 21 q_571 rfl (by decide) (.ref (ad 15)) rfl hP d_Mo_move_153 ?_
          refine lv_iload hx hb d_Mo_move_156 (lv_at hl 1 rfl) ?_
          refine get_ma (x := (s0, (u2 a 16 b ((a 16 b) + ((way * (askF (poM a) b)) * (s0 11)))))) C 15 3 rfl (vp_in_nI hb3 (by omega)) (a 15 b) ((congrArg ((u2 a 16 b ((a 16 b) + ((way * (askF (poM a) b)) * (s0 11)))) 15) (nI_clamp (by omega))).trans (u2_k (σ := a) (k := 16) (b := b) (x := ((a 16 b) + ((way * (askF (poM a) b)) * (s0 11)))) (i := 15) (j := b) (by decide))) hP d_Mo_move_158 ?_
          refine lv_iload hx hb d_Mo_move_159 (lv_at hl 0 rfl) ?_
          refine lv_iadd hx hb d_Mo_move_161 ?_
          refine lv_bipush (v := 63) hx hb d_Mo_move_162 (by decide) ?_
          refine lv_iand hx hb d_Mo_move_164 ?_
          refine put_ma C 15 3 rfl (vp_in_nI hb3 (by omega)) b (nI_clamp (by omega)) wM_a15 hP hD hS d_Mo_move_165 (fun H locs hP hD hS => ?_)
          refine lv_aload_n hx hb d_Mo_move_166 rfl (lv_at hl 3 rfl) ?_
          refine get_ms (x := (s0, (u2 (u2 a 16 b ((a 16 b) + ((way * (askF (poM a) b)) * (s0 11)))) 15 b (((a 15 b) + (((a 16 b) + ((way * (askF (poM a) b)) * (s0 11))) / (a 2 b))) &&& 63)))) C 22 q_572 rfl (by decide) (.ref (ad 16)) rfl hP d_Mo_move_167 ?_
          refine lv_iload hx hb d_Mo_move_170 (lv_at hl 1 rfl) ?_
          refine lv_aload_n hx hb d_Mo_move_172 rfl (lv_at hl 3 rfl) ?_
          refine get_ms (x := (s0, (u2 (u2 a 16 b ((a 16 b) + ((way * (askF (poM a) b)) * (s0 11)))) 15 b (((a 15 b) + (((a 16 b) + ((way * (askF (poM a) b)) * (s0 11))) / (a 2 b))) &&& 63)))) C 22 q_572 rfl (by decide) (.ref (ad 16)) rfl hP d_Mo_move_173 ?_
          refine lv_iload hx hb d_Mo_move_176 (lv_at hl 1 rfl) ?_
          refine get_ma (x := (s0, (u2 (u2 a 16 b ((a 16 b) + ((way * (askF (poM a) b)) * (s0 11)))) 15 b (((a 15 b) + (((a 16 b) + ((way * (askF (poM a) b)) * (s0 11))) / (a 2 b))) &&& 63)))) C 16 3 rfl (vp_in_nI hb3 (by omega)) ((a 16 b) + ((way * (askF (poM a) b)) * (s0 11))) ((congrArg ((u2 (u2 a 16 b ((a 16 b) + ((way * (askF (poM a) b)) * (s0 11)))) 15 b (((a 15 b) + (((a 16 b) + ((way * (askF (poM a) b)) * (s0 11))) / (a 2 b))) &&& 63)) 16) (nI_clamp (by omega))).trans ((u2_k (σ := (u2 a 16 b ((a 16 b) + ((way * (askF (poM a) b)) * (s0 11))))) (k := 15) (b := b) (x := (((a 15 b) + (((a 16 b) + ((way * (askF (poM a) b)) * (s0 11))) / (a 2 b))) &&& 63)) (i := 16) (j := b) (by decide)).trans (u2_s (σ := a) (k := 16) (b := b) (x := ((a 16 b) + ((way * (askF (poM a) b)) * (s0 11))))))) hP d_Mo_move_178 ?_
          refine lv_iload hx hb d_Mo_move_179 (lv_at hl 0 rfl) ?_
          refine lv_aload_n hx hb d_Mo_move_181 rfl (lv_at hl 3 rfl) ?_
          refine get_ms (x := (s0, (u2 (u2 a 16 b ((a 16 b) + ((way * (askF (poM a) b)) * (s0 11)))) 15 b (((a 15 b) + (((a 16 b) + ((way * (askF (poM a) b)) * (s0 11))) / (a 2 b))) &&& 63)))) C 3 q_553 rfl (by decide) (.ref (ad 2)) rfl hP d_Mo_move_182 ?_
          refine lv_iload hx hb d_Mo_move_185 (lv_at hl 1 rfl) ?_
          refine get_ma (x := (s0, (u2 (u2 a 16 b ((a 16 b) + ((way * (askF (poM a) b)) * (s0 11)))) 15 b (((a 15 b) + (((a 16 b) + ((way * (askF (poM a) b)) * (s0 11))) / (a 2 b))) &&& 63)))) C 2 3 rfl (vp_in_nI hb3 (by omega)) (a 2 b) ((congrArg ((u2 (u2 a 16 b ((a 16 b) + ((way * (askF (poM a) b)) * (s0 11)))) 15 b (((a 15 b) + (((a 16 b) + ((way * (askF (poM a) b)) * (s0 11))) / (a 2 b))) &&& 63)) 2) (nI_clamp (by omega))).trans ((u2_k (σ := (u2 a 16 b ((a 16 b) + ((way * (askF (poM a) b)) * (s0 11))))) (k := 15) (b := b) (x := (((a 15 b) + (((a 16 b) + ((way * (askF (poM a) b)) * (s0 11))) / (a 2 b))) &&& 63)) (i := 2) (j := b) (by decide)).trans (u2_k (σ := a) (k := 16) (b := b) (x := ((a 16 b) + ((way * (askF (poM a) b)) * (s0 11)))) (i := 2) (j := b) (by decide)))) hP d_Mo_move_187 ?_
          refine lv_imul hx hb d_Mo_move_188 ?_
          refine lv_isub hx hb d_Mo_move_189 ?_
          refine put_ma C 16 3 rfl (vp_in_nI hb3 (by omega)) b (nI_clamp (by omega)) wM_a16 hP hD hS d_Mo_move_190 (fun H locs hP hD hS => ?_)
          refine lv_aload_n hx hb d_Mo_move_191 rfl (lv_at hl 3 rfl) ?_
          refine lv_iload hx hb d_Mo_move_192 (lv_at hl 1 rfl) ?_
          refine cvV C v_Mo_138 [.int (nI b)] [] (c_Mo_hang l g ad (s0, (u2 (u2 (u2 a 16 b ((a 16 b) + ((way * (askF (poM a) b)) * (s0 11)))) 15 b (((a 15 b) + (((a 16 b) + ((way * (askF (poM a) b)) * (s0 11))) / (a 2 b))) &&& 63)) 16 b (((a 16 b) + ((way * (askF (poM a) b)) * (s0 11))) - ((((a 16 b) + ((way * (askF (poM a) b)) * (s0 11))) / (a 2 b)) * (a 2 b))))) (fun i hi => (u2_k (σ := (u2 (u2 a 16 b ((a 16 b) + ((way * (askF (poM a) b)) * (s0 11)))) 15 b (((a 15 b) + (((a 16 b) + ((way * (askF (poM a) b)) * (s0 11))) / (a 2 b))) &&& 63))) (k := 16) (b := b) (x := (((a 16 b) + ((way * (askF (poM a) b)) * (s0 11))) - ((((a 16 b) + ((way * (askF (poM a) b)) * (s0 11))) / (a 2 b)) * (a 2 b)))) (i := 1) (j := i) (by decide)).trans ((fun i hi => (u2_k (σ := (u2 a 16 b ((a 16 b) + ((way * (askF (poM a) b)) * (s0 11))))) (k := 15) (b := b) (x := (((a 15 b) + (((a 16 b) + ((way * (askF (poM a) b)) * (s0 11))) / (a 2 b))) &&& 63)) (i := 1) (j := i) (by decide)).trans ((fun i hi => (u2_k (σ := a) (k := 16) (b := b) (x := ((a 16 b) + ((way * (askF (poM a) b)) * (s0 11)))) (i := 1) (j := i) (by decide)).trans (hc i hi)) i hi)) i hi)) b hb3 hb1) hP hD hS [0, 1, 2, 3, 4, 5, 6, 7, 8, 9, 10, 11, 12, 13, 14, 15, 16, 17, 18, 19, 20] [] [0, 1, 2, 3, 4, 5, 6, 7, 8, 9, 10, 11, 12, 13, 14, 15, 16, 17, 18, 19, 20] [] (wM g ad (s0, (hangA b (u2 (u2 (u2 a 16 b ((a 16 b) + ((way * (askF (poM a) b)) * (s0 11)))) 15 b (((a 15 b) + (((a 16 b) + ((way * (askF (poM a) b)) * (s0 11))) / (a 2 b))) &&& 63)) 16 b (((a 16 b) + ((way * (askF (poM a) b)) * (s0 11))) - ((((a 16 b) + ((way * (askF (poM a) b)) * (s0 11))) / (a 2 b)) * (a 2 b))))))) rfl rfl (by decide) (by decide) (by decide) rfl (by decide) 0 rfl rfl rfl rfl hl.1 (Nat.le_of_ble_eq_true rfl) ⟨Nat.le_of_ble_eq_true rfl, Nat.le_of_ble_eq_true rfl⟩ d_Mo_move_194 ⟨Nat.zero_le _, Nat.zero_le _⟩ (fun H locs hP hD hS => ?_)
          refine lv_iinc (v := (nI (b + 1))) (lv' := [(4, .int (nI (b + 1))), (5, .int (((a 16 b) + ((way * (askF (poM a) b)) * (s0 11))) / (a 2 b))), (3, .int way), (0, .ref (ad 0)), (1, .int turn), (2, .int fw)]) hx hb d_Mo_move_197 hl (k := 1) rfl (nI_1 b) (by decide) rfl (fun ls hl => ?_)
          refine lv_goto (tgt := 92) hx hb d_Mo_move_200 (by decide) ?_
          exact ih (b + 1) (hangA b (mvA1 s0 way b a)) _ _ _ (by omega) (by omega) (by omega) (fun i hi => by rw [hangA_k (by decide) (by decide), mvA1_k (by decide) (by decide)]; exact hc i hi) (fun q hq => by rw [hangA_k (by decide) (by decide), mvA1_k (by decide) (by decide)]; exact hL q hq) (it_back hlt h8 rfl) hP hD hS (lv_sub hl [0, 2, 3, 4, 5] rfl)
    exact l1 (n + 2) 1 (mvA0 s0 turn way a0) _ _ _ (by omega) (by omega) (by omega) (fun i hi => by rw [mvA0_k (by decide) (by decide) (by decide)]; exact hc i hi) (fun b hb => by rw [mvA0_k (by decide) (by decide) (by decide)]; exact hL b hb) hx8 hP hD hS (lv_sub hl [0, 1, 2, 3, 4] rfl)
  refine lv_iload_n hx hb d_Mo_move_0 rfl (lv_at hl 2 rfl) ?_
  refine lv_if_eq (tgt := 8) hx hb d_Mo_move_1 (by decide) (fun c1_7 => ?_) (fun c1_7 => ?_)
  · refine lv_iconst (v := (-1)) hx hb d_Mo_move_8 (by decide) ?_
    refine lv_istore_n (lv' := [(3, .int (-1)), (0, .ref (ad 0)), (1, .int turn), (2, .int fw)]) hx hb d_Mo_move_9 rfl hl (by decide) rfl (fun ls hl => ?_)
    refine K0 _ ?_
    rw [← hway, show sgnI fw = -1 from if_pos c1_7]
    exact lv_sub hl [0, 1, 2, 3] rfl
  · refine lv_iconst (v := 1) hx hb d_Mo_move_4 (by decide) ?_
    refine lv_goto (tgt := 9) hx hb d_Mo_move_5 (by decide) ?_
    refine lv_istore_n (lv' := [(3, .int 1), (0, .ref (ad 0)), (1, .int turn), (2, .int fw)]) hx hb d_Mo_move_9 rfl hl (by decide) rfl (fun ls hl => ?_)
    refine K0 _ ?_
    rw [← hway, show sgnI fw = 1 from if_neg c1_7]
    exact lv_sub hl [0, 1, 2, 3] rfl
set_option maxHeartbeats 4000000 in
set_option maxRecDepth 100000 in
theorem c_Mo_goOn (l : Launch) (g : Glob) (ad : Nat → Nat) (x : MS) (n np : Nat) (hI : InvG n np x) (h3 : n ≤ 3) (h20 : np ≤ 20) (turn sp fw : Int32) (N : Nat) (hN : sp = nI N) (hN6 : N ≤ 1000000) : CV l g y_Mo_goOn b_Mo_goOn 5 5 132 [.ref (ad 0), .int turn, .int sp, .int fw] (wM g ad x) (wM g ad (goM n np turn N fw x)) := by
  refine CV.of (by decide +kernel) (Nat.le_of_ble_eq_true rfl) ?_
  intro p e s m below meth c A Q ls C hP hD hl hret hS
  obtain ⟨hx, hb, hml, hown, hw, hE, hA⟩ := id C
  have hl : lv_has ls 5 [(0, .ref (ad 0)), (1, .int turn), (2, .int sp), (3, .int fw)] := hl
  unfold goM at hret
  generalize h9 : whileF stopM (moveM n np turn (sgnI fw)) N x = x9 at hret
  refine lv_iconst (v := 0) hx hb d_Mo_goOn_0 (by decide) ?_
  refine lv_istore (lv' := [(4, .int 0), (0, .ref (ad 0)), (1, .int turn), (2, .int sp), (3, .int fw)]) hx hb d_Mo_goOn_1 hl (by decide) rfl (fun ls hl => ?_)
  have lp : ∀ (j : Nat) (q : Nat) (x : MS) (H : Heap) (locs : List Loc) (ls : Array Slot), q ≤ N → N < q + j → InvG n np x → whileF stopM (moveM n np turn (sgnI fw)) (N - q) x = x9 → va_P g.1 classes (wM g ad x) H → va_D A (wM g ad x) → va_S A s.heap H locs → lv_has ls 5 [(4, .int (nI q)), (0, .ref (ad 0)), (1, .int turn), (2, .int sp), (3, .int fw)] → W p l e { frames := 5, cells := 0, slots := 0, locals := 132 } s m ([.ref (ad 0), .int turn, .int sp, .int fw] : List Value).toArray below meth c H locs 0 0 Q (F0 m 3 ls []) := by
    intro j
    induction j with
    | zero =>
      intro q x H locs ls hq hj hI h9 hP hD hS hl
      exact absurd trivial (by omega)
    | succ j ih =>
      intro q x H locs ls hq hj hI h9 hP hD hS hl
      refine lv_iload hx hb d_Mo_goOn_3 (lv_at hl 0 rfl) ?_
      refine lv_iload_n hx hb d_Mo_goOn_5 rfl (lv_at hl 3 rfl) ?_
      refine lv_icmp_ge (tgt := 38) hx hb d_Mo_goOn_6 (by decide) (fun c6_1 => ?_) (fun c6_1 => ?_)
      · have h9 := wh_end (ge_of_le' 1000000 hN hN6 (by decide) (by omega) c6_1) h9
        subst h9
        exact hret _ _ _ _ _ rfl hP hD hS d_Mo_goOn_38
      · have hlt := lt_of_nle' 1000000 hN hN6 (by decide) (by omega) c6_1
        refine lv_aload_n hx hb d_Mo_goOn_9 rfl (lv_at hl 1 rfl) ?_
        refine get_mi (x := x) C 25 q_575 rfl (by decide) rfl (x.1 25) rfl hP d_Mo_goOn_10 ?_
        refine lv_if_ne (tgt := 38) hx hb d_Mo_goOn_13 (by decide) (fun c13_2 => ?_) (fun c13_2 => ?_)
        · have h9 := wh_stop (stopM_t1 c13_2) h9
          subst h9
          exact hret _ _ _ _ _ rfl hP hD hS d_Mo_goOn_38
        · refine lv_aload_n hx hb d_Mo_goOn_16 rfl (lv_at hl 1 rfl) ?_
          refine get_mi (x := x) C 24 q_574 rfl (by decide) rfl (x.1 24) rfl hP d_Mo_goOn_17 ?_
          refine lv_sipush (v := 4000) hx hb d_Mo_goOn_20 (by decide) ?_
          refine lv_icmp_ge (tgt := 38) hx hb d_Mo_goOn_23 (by decide) (fun c23_3 => ?_) (fun c23_3 => ?_)
          · have h9 := wh_stop (stopM_t2 c23_3) h9
            subst h9
            exact hret _ _ _ _ _ rfl hP hD hS d_Mo_goOn_38
          · refine lv_aload_n hx hb d_Mo_goOn_26 rfl (lv_at hl 1 rfl) ?_
            refine lv_iload_n hx hb d_Mo_goOn_27 rfl (lv_at hl 2 rfl) ?_
            refine lv_iload_n hx hb d_Mo_goOn_28 rfl (lv_at hl 4 rfl) ?_
            refine cvV C v_Mo_148 [.int turn, .int fw] [] (c_Mo_move l g ad x n np hI.1 hI.2.1 hI.2.2.1 hI.2.2.2.1 (lt4000 c23_3) hI.2.2.2.2 h3 h20 turn fw) hP hD hS [0, 1, 2, 3, 4, 5, 6, 7, 8, 9, 10, 11, 12, 13, 14, 15, 16, 17, 18, 19, 20] [] [0, 1, 2, 3, 4, 5, 6, 7, 8, 9, 10, 11, 12, 13, 14, 15, 16, 17, 18, 19, 20] [] (wM g ad (moveM n np turn (sgnI fw) x)) rfl rfl (by decide) (by decide) (by decide) rfl (by decide) 0 rfl rfl rfl rfl hl.1 (Nat.le_of_ble_eq_true rfl) ⟨Nat.le_of_ble_eq_true rfl, Nat.le_of_ble_eq_true rfl⟩ d_Mo_goOn_29 ⟨Nat.zero_le _, Nat.zero_le _⟩ (fun H locs hP hD hS => ?_)
            refine lv_iinc (v := (nI (q + 1))) (lv' := [(4, .int (nI (q + 1))), (0, .ref (ad 0)), (1, .int turn), (2, .int sp), (3, .int fw)]) hx hb d_Mo_goOn_32 hl (k := 0) rfl (nI_1 q) (by decide) rfl (fun ls hl => ?_)
            refine lv_goto (tgt := 3) hx hb d_Mo_goOn_35 (by decide) ?_
            exact ih (q + 1) _ _ _ _ (by omega) (by omega) (moveM_inv hI (lt4000 c23_3)) (wh_back hlt (stopM_f c13_2 c23_3) h9 rfl) hP hD hS (lv_sub hl [0, 1, 2, 3, 4] rfl)
  exact lp (N + 1) 0 x _ _ _ (by omega) (by omega) hI h9 hP hD hS (lv_sub hl [0, 1, 2, 3, 4] rfl)
