theorem tk1 {args : Array Value} {s : State} {own E : String} {pc h : Nat} {x : ExceptionTableEntry} {t : List ExceptionTableEntry} (h1 : covers x pc = true) (h2 : x.catchType ≠ 0) (nm : String) (hl : (Cond.classLink own x.catchType nm).before args s = true) (hh : h = x.handlerPc) (hc : va_Nw (.castable E nm) s) : Taken args s own E pc h (x :: t) := ⟨h1, h2, nm, hl, Or.inl ⟨hh, hc⟩⟩
theorem tk2 {args : Array Value} {s : State} {own E : String} {pc h : Nat} {x : ExceptionTableEntry} {t : List ExceptionTableEntry} (h1 : covers x pc = true) (h2 : x.catchType ≠ 0) (nm : String) (hl : (Cond.classLink own x.catchType nm).before args s = true) (hc : va_Nc E nm s) (ht : Taken args s own E pc h t) : Taken args s own E pc h (x :: t) := ⟨h1, h2, nm, hl, Or.inr ⟨hc, ht⟩⟩
/-- the class's world and the array for answers -/
def wL (g : Glob) (ad : Nat → Nat) (ao : Nat) (k : CFG) (x y : RS) (q : PLS) (o : Nat → Int64) : va_W := wS g ad k x y q ++ [qLongs ao (g.2.1 1) 1 o]

set_option maxRecDepth 20000 in
theorem q_237 : Jvm.Cond.codeWith y_La_body b_La_body 8 (some .int) [(0, 16, 19, 13), (0, 16, 23, 15)] ∈ W0 := W0_tab 237 (by rfl) (by decide +kernel)
set_option maxRecDepth 20000 in
theorem q_402 : Jvm.Cond.codeWith y_La_start b_La_start 5 (some .int) [(0, 7, 10, 13)] ∈ W0 := W0_tab 402 (by rfl) (by decide +kernel)
set_option maxRecDepth 20000 in
theorem q_409 : Jvm.Cond.codeWith y_La_step b_La_step 4 (some .int) [(0, 9, 12, 13)] ∈ W0 := W0_tab 409 (by rfl) (by decide +kernel)
set_option maxRecDepth 20000 in
theorem q_416 : Jvm.Cond.codeWith y_La_pole b_La_pole 5 (some .int) [(0, 10, 13, 13), (0, 10, 17, 15)] ∈ W0 := W0_tab 416 (by rfl) (by decide +kernel)
set_option maxRecDepth 20000 in
theorem q_424 : Jvm.Cond.codeWith y_La_go b_La_go 6 (some .int) [(0, 12, 15, 13), (0, 12, 19, 15)] ∈ W0 := W0_tab 424 (by rfl) (by decide +kernel)
set_option maxRecDepth 20000 in
theorem q_468 : Jvm.Cond.codeWith y_La_told b_La_told 5 (some .int) [(0, 10, 13, 13)] ∈ W0 := W0_tab 468 (by rfl) (by decide +kernel)
set_option maxRecDepth 20000 in
theorem q_476 : Jvm.Cond.codeWith y_La_corner b_La_corner 6 (some .int) [(0, 12, 15, 13)] ∈ W0 := W0_tab 476 (by rfl) (by decide +kernel)
set_option maxRecDepth 20000 in
theorem q_485 : Jvm.Cond.codeWith y_La_cell_LPIIaJ b_La_cell_LPIIaJ 5 (some .int) [(0, 17, 20, 13)] ∈ W0 := W0_tab 485 (by rfl) (by decide +kernel)
set_option maxRecDepth 20000 in
theorem q_496 : Jvm.Cond.codeWith y_La_clash b_La_clash 4 (some .int) [(0, 9, 12, 13)] ∈ W0 := W0_tab 496 (by rfl) (by decide +kernel)
set_option maxRecDepth 20000 in
theorem q_503 : Jvm.Cond.codeWith y_La_part b_La_part 7 (some .int) [(0, 14, 17, 13), (0, 14, 21, 15)] ∈ W0 := W0_tab 503 (by rfl) (by decide +kernel)
set_option maxRecDepth 20000 in
theorem q_515 : Jvm.Cond.codeWith y_La_clear b_La_clear 4 (some .int) [(0, 9, 12, 13)] ∈ W0 := W0_tab 515 (by rfl) (by decide +kernel)
set_option maxRecDepth 20000 in
theorem q_522 : Jvm.Cond.codeWith y_La_best b_La_best 3 (some .int) [(0, 8, 11, 15)] ∈ W0 := W0_tab 522 (by rfl) (by decide +kernel)
set_option maxRecDepth 20000 in
theorem q_539 : Jvm.Cond.codeWith y_La_sweeps b_La_sweeps 4 (some .int) [(0, 9, 12, 13), (0, 9, 15, 15)] ∈ W0 := W0_tab 539 (by rfl) (by decide +kernel)
theorem v_La_65 : KA "SweptPathsLaw" 65 y_La_body b_La_body 8 [(0, 16, 19, 13), (0, 16, 23, 15)] 7 := ⟨q_235, q_236, q_0, q_237, by decide +kernel⟩
theorem v_La_74 : KA "SweptPathsLaw" 74 y_La_start b_La_start 5 [(0, 7, 10, 13)] 4 := ⟨q_400, q_401, q_0, q_402, by decide +kernel⟩
theorem v_La_78 : KA "SweptPathsLaw" 78 y_La_step b_La_step 4 [(0, 9, 12, 13)] 3 := ⟨q_407, q_408, q_0, q_409, by decide +kernel⟩
theorem v_La_82 : KA "SweptPathsLaw" 82 y_La_pole b_La_pole 5 [(0, 10, 13, 13), (0, 10, 17, 15)] 4 := ⟨q_414, q_415, q_0, q_416, by decide +kernel⟩
theorem v_La_86 : KA "SweptPathsLaw" 86 y_La_go b_La_go 6 [(0, 12, 15, 13), (0, 12, 19, 15)] 5 := ⟨q_422, q_423, q_0, q_424, by decide +kernel⟩
theorem v_La_90 : KA "SweptPathsLaw" 90 y_La_told b_La_told 5 [(0, 10, 13, 13)] 4 := ⟨q_466, q_467, q_0, q_468, by decide +kernel⟩
theorem v_La_93 : KA "SweptPathsLaw" 93 y_La_corner b_La_corner 6 [(0, 12, 15, 13)] 5 := ⟨q_474, q_475, q_0, q_476, by decide +kernel⟩
theorem v_La_101 : KA "SweptPathsLaw" 101 y_La_cell_LPIIaJ b_La_cell_LPIIaJ 5 [(0, 17, 20, 13)] 4 := ⟨q_483, q_484, q_0, q_485, by decide +kernel⟩
theorem v_La_104 : KA "SweptPathsLaw" 104 y_La_clash b_La_clash 4 [(0, 9, 12, 13)] 3 := ⟨q_494, q_495, q_0, q_496, by decide +kernel⟩
theorem v_La_112 : KA "SweptPathsLaw" 112 y_La_part b_La_part 7 [(0, 14, 17, 13), (0, 14, 21, 15)] 6 := ⟨q_501, q_502, q_0, q_503, by decide +kernel⟩
theorem v_La_116 : KA "SweptPathsLaw" 116 y_La_clear b_La_clear 4 [(0, 9, 12, 13)] 3 := ⟨q_513, q_514, q_0, q_515, by decide +kernel⟩
theorem v_La_119 : KA "SweptPathsLaw" 119 y_La_best b_La_best 3 [(0, 8, 11, 15)] 2 := ⟨q_520, q_521, q_0, q_522, by decide +kernel⟩
theorem v_La_123 : KA "SweptPathsLaw" 123 y_La_sweeps b_La_sweeps 4 [(0, 9, 12, 13), (0, 9, 15, 15)] 3 := ⟨q_537, q_538, q_0, q_539, by decide +kernel⟩
set_option maxHeartbeats 4000000 in
set_option maxRecDepth 100000 in
theorem c_La_body_1 (l : Launch) (g : Glob) (hfl : l.flags = pinnedFlags ++ [noTraceFlag]) (ad : Nat → Nat) (ao : Nat) (k : CFG) (x y : RS) (q : PLS) (o : Nat → Int64) (p0 p1 p2 p3 p4 : Int32) (hbad : ¬ (inI p0 1 200 = 1 ∧ inI p1 0 200 = 1 ∧ inI p2 0 60 = 1 ∧ inI p3 0 60 = 1 ∧ inI p4 1 20 = 1)) : CJ l g y_La_body b_La_body 8 [(0, 16, 19, 13), (0, 16, 23, 15)] 9 189 [.ref (ad 0), .int p0, .int p1, .int p2, .int p3, .int p4, .ref ao] (wL g ad ao k x y q o) (1) (wL g ad ao k x y q o) := by
  refine CJ.of (by decide +kernel) (Nat.le_of_ble_eq_true rfl) ?_
  intro p e s m below meth c A Q ls C htab hP hD hl hret hS
  obtain ⟨hx, hb, hml, hown, hw, hE, hA⟩ := id C
  have hl : lv_has ls 8 [(0, .ref (ad 0)), (1, .int p0), (2, .int p1), (3, .int p2), (4, .int p3), (5, .int p4), (6, .ref ao)] := hl
  refine lv_aload hx hb d_La_body_0 (lv_at hl 6 rfl) ?_
  refine lv_iconst (v := 0) hx hb d_La_body_2 (by decide) ?_
  refine lv_aload_n hx hb d_La_body_3 rfl (lv_at hl 0 rfl) ?_
  refine lv_iload_n hx hb d_La_body_4 rfl (lv_at hl 1 rfl) ?_
  refine lv_iload_n hx hb d_La_body_5 rfl (lv_at hl 2 rfl) ?_
  refine lv_iload_n hx hb d_La_body_6 rfl (lv_at hl 3 rfl) ?_
  refine lv_iload hx hb d_La_body_7 (lv_at hl 4 rfl) ?_
  refine lv_iload hx hb d_La_body_9 (lv_at hl 5 rfl) ?_
  refine xvTake C v_La_7 [.int p0, .int p1, .int p2, .int p3, .int p4] [.int 0, .ref ao] (c_SP_body_1 l g hfl ad k x y q p0 p1 p2 p3 p4 hbad) hP hD hS [0, 1, 2, 3, 4, 5, 6, 7, 8, 9, 10, 11, 12, 13, 14, 15, 16, 17, 18, 19, 20, 21, 22, 23, 24, 25, 26, 27, 28, 29, 30, 31, 32, 33, 34, 35, 36, 37, 38] rfl (by decide) 0 rfl rfl rfl rfl hl.1 (Nat.le_of_ble_eq_true rfl) ⟨Nat.le_of_ble_eq_true rfl, Nat.le_of_ble_eq_true rfl⟩ ⟨Nat.le_refl _, Nat.le_refl _⟩ d_La_body_11 19 (by rw [htab]; exact tk1 (by decide) (by decide) R_IA (hw _ q_238) rfl hE.2.2.2.2.2.1) (fun H q9 hP hS => ?_)
  refine lv_astore (lv' := [(7, .ref q9), (0, .ref (ad 0)), (1, .int p0), (2, .int p1), (3, .int p2), (4, .int p3), (5, .int p4), (6, .ref ao)]) hx hb d_La_body_19 hl (by decide) rfl (fun ls hl => ?_)
  refine lv_iconst (v := 1) hx hb d_La_body_21 (by decide) ?_
  exact hret _ _ _ _ _ _ _ _ (Nat.le_refl _) (Nat.le_refl _) rfl rfl hP hD hS d_La_body_22
set_option maxHeartbeats 4000000 in
set_option maxRecDepth 100000 in
theorem c_La_body_2 (l : Launch) (g : Glob) (hfl : l.flags = pinnedFlags ++ [noTraceFlag]) (ad : Nat → Nat) (ao : Nat) (k : CFG) (x y : RS) (q : PLS) (o : Nat → Int64) (p0 p1 p2 p3 p4 : Int32) (v0 : inI p0 1 200 = 1) (v1 : inI p1 0 200 = 1) (v2 : inI p2 0 60 = 1) (v3 : inI p3 0 60 = 1) (v4 : inI p4 1 20 = 1) (hfull : k.2.1 0 = 3) : CJ l g y_La_body b_La_body 8 [(0, 16, 19, 13), (0, 16, 23, 15)] 9 189 [.ref (ad 0), .int p0, .int p1, .int p2, .int p3, .int p4, .ref ao] (wL g ad ao k x y q o) (2) (wL g ad ao k x y q o) := by
  refine CJ.of (by decide +kernel) (Nat.le_of_ble_eq_true rfl) ?_
  intro p e s m below meth c A Q ls C htab hP hD hl hret hS
  obtain ⟨hx, hb, hml, hown, hw, hE, hA⟩ := id C
  have hl : lv_has ls 8 [(0, .ref (ad 0)), (1, .int p0), (2, .int p1), (3, .int p2), (4, .int p3), (5, .int p4), (6, .ref ao)] := hl
  refine lv_aload hx hb d_La_body_0 (lv_at hl 6 rfl) ?_
  refine lv_iconst (v := 0) hx hb d_La_body_2 (by decide) ?_
  refine lv_aload_n hx hb d_La_body_3 rfl (lv_at hl 0 rfl) ?_
  refine lv_iload_n hx hb d_La_body_4 rfl (lv_at hl 1 rfl) ?_
  refine lv_iload_n hx hb d_La_body_5 rfl (lv_at hl 2 rfl) ?_
  refine lv_iload_n hx hb d_La_body_6 rfl (lv_at hl 3 rfl) ?_
  refine lv_iload hx hb d_La_body_7 (lv_at hl 4 rfl) ?_
  refine lv_iload hx hb d_La_body_9 (lv_at hl 5 rfl) ?_
  refine xvTake C v_La_7 [.int p0, .int p1, .int p2, .int p3, .int p4] [.int 0, .ref ao] (c_SP_body_2 l g hfl ad k x y q p0 p1 p2 p3 p4 v0 v1 v2 v3 v4 hfull) hP hD hS [0, 1, 2, 3, 4, 5, 6, 7, 8, 9, 10, 11, 12, 13, 14, 15, 16, 17, 18, 19, 20, 21, 22, 23, 24, 25, 26, 27, 28, 29, 30, 31, 32, 33, 34, 35, 36, 37, 38] rfl (by decide) 0 rfl rfl rfl rfl hl.1 (Nat.le_of_ble_eq_true rfl) ⟨Nat.le_of_ble_eq_true rfl, Nat.le_of_ble_eq_true rfl⟩ ⟨Nat.le_refl _, Nat.le_refl _⟩ d_La_body_11 23 (by rw [htab]; exact tk2 (by decide) (by decide) R_IA (hw _ q_238) hE.2.2.2.2.2.2.2.1 (tk1 (by decide) (by decide) R_IS (hw _ q_239) rfl hE.2.2.2.2.2.2.1)) (fun H q9 hP hS => ?_)
  refine lv_astore (lv' := [(7, .ref q9), (0, .ref (ad 0)), (1, .int p0), (2, .int p1), (3, .int p2), (4, .int p3), (5, .int p4), (6, .ref ao)]) hx hb d_La_body_23 hl (by decide) rfl (fun ls hl => ?_)
  refine lv_iconst (v := 2) hx hb d_La_body_25 (by decide) ?_
  exact hret _ _ _ _ _ _ _ _ (Nat.le_refl _) (Nat.le_refl _) rfl rfl hP hD hS d_La_body_26
set_option maxHeartbeats 4000000 in
set_option maxRecDepth 100000 in
theorem c_La_body_0 (l : Launch) (g : Glob) (ad : Nat → Nat) (ao : Nat) (k : CFG) (x y : RS) (q : PLS) (o : Nat → Int64) (n : Nat) (h3 : n < 3) (hn : k.2.1 0 = nI n) (np : Nat) (hp : k.2.1 1 = nI np) (h20 : np ≤ 20) (p0 p1 p2 p3 p4 : Int32) (v0 : inI p0 1 200 = 1) (v1 : inI p1 0 200 = 1) (v2 : inI p2 0 60 = 1) (v3 : inI p3 0 60 = 1) (v4 : inI p4 1 20 = 1) : CJ l g y_La_body b_La_body 8 [(0, 16, 19, 13), (0, 16, 23, 15)] 9 189 [.ref (ad 0), .int p0, .int p1, .int p2, .int p3, .int p4, .ref ao] (wL g ad ao k x y q o) (0) (wL g ad ao (bodyK k n p0 p1 p2 p3 p4) (begF (bodyK k n p0 p1 p2 p3 p4) (n + 1) np x) y q (vp_updL o 0 (nI n).toInt64)) := by
  refine CJ.of (by decide +kernel) (Nat.le_of_ble_eq_true rfl) ?_
  intro p e s m below meth c A Q ls C htab hP hD hl hret hS
  obtain ⟨hx, hb, hml, hown, hw, hE, hA⟩ := id C
  have hl : lv_has ls 8 [(0, .ref (ad 0)), (1, .int p0), (2, .int p1), (3, .int p2), (4, .int p3), (5, .int p4), (6, .ref ao)] := hl
  refine lv_aload hx hb d_La_body_0 (lv_at hl 6 rfl) ?_
  refine lv_iconst (v := 0) hx hb d_La_body_2 (by decide) ?_
  refine lv_aload_n hx hb d_La_body_3 rfl (lv_at hl 0 rfl) ?_
  refine lv_iload_n hx hb d_La_body_4 rfl (lv_at hl 1 rfl) ?_
  refine lv_iload_n hx hb d_La_body_5 rfl (lv_at hl 2 rfl) ?_
  refine lv_iload_n hx hb d_La_body_6 rfl (lv_at hl 3 rfl) ?_
  refine lv_iload hx hb d_La_body_7 (lv_at hl 4 rfl) ?_
  refine lv_iload hx hb d_La_body_9 (lv_at hl 5 rfl) ?_
  refine cvI C v_La_7 [.int p0, .int p1, .int p2, .int p3, .int p4] [.int 0, .ref ao] (c_SP_body_0 l g ad k x y q n h3 hn np hp h20 p0 p1 p2 p3 p4 v0 v1 v2 v3 v4) hP hD hS [0, 1, 2, 3, 4, 5, 6, 7, 8, 9, 10, 11, 12, 13, 14, 15, 16, 17, 18, 19, 20, 21, 22, 23, 24, 25, 26, 27, 28, 29, 30, 31, 32, 33, 34, 35, 36, 37, 38] [39] [1, 2, 3, 4, 5, 6, 7, 8, 9, 10, 11, 12, 13, 14, 15, 16, 17, 18, 19, 20, 21, 22, 23, 24, 25, 26, 27, 28, 29, 30, 31, 32, 33, 34, 35, 36, 37, 38, 39, 0] [(ao, .inl (g.2.1 1, 1, .inr (.inl o)))] (wL g ad ao (bodyK k n p0 p1 p2 p3 p4) (begF (bodyK k n p0 p1 p2 p3 p4) (n + 1) np x) y q o) rfl rfl (by decide) (by decide) (by decide) rfl (by decide) 0 rfl rfl rfl rfl hl.1 (Nat.le_of_ble_eq_true rfl) ⟨Nat.le_of_ble_eq_true rfl, Nat.le_of_ble_eq_true rfl⟩ d_La_body_11 ⟨Nat.zero_le _, Nat.zero_le _⟩ (fun H locs hP hD hS => ?_)
  refine lv_i2l hx hb d_La_body_14 rfl ?_
  refine va_last hx hb hE.1 hP hD hS 39 1 rfl rfl (by unfold vp_in; decide) d_La_body_15 (fun H locs hP hD hS => ?_)
  have hP : va_P g.1 classes (wL g ad ao (bodyK k n p0 p1 p2 p3 p4) (begF (bodyK k n p0 p1 p2 p3 p4) (n + 1) np x) y q (vp_updL o 0 ((nI n).toInt64))) H := hP
  have hD : va_D A (wL g ad ao (bodyK k n p0 p1 p2 p3 p4) (begF (bodyK k n p0 p1 p2 p3 p4) (n + 1) np x) y q (vp_updL o 0 ((nI n).toInt64))) := hD
  refine lv_goto (tgt := 27) hx hb d_La_body_16 (by decide) ?_
  refine lv_iconst (v := 0) hx hb d_La_body_27 (by decide) ?_
  exact hret _ _ _ _ _ _ _ _ (Nat.zero_le _) (Nat.zero_le _) rfl rfl hP hD hS d_La_body_28
set_option maxHeartbeats 4000000 in
set_option maxRecDepth 100000 in
theorem c_La_start_1 (l : Launch) (g : Glob) (hfl : l.flags = pinnedFlags ++ [noTraceFlag]) (ad : Nat → Nat) (ao : Nat) (k : CFG) (x y : RS) (q : PLS) (o : Nat → Int64) (p0 p1 p2 : Int32) (hbad : ¬ (inI p0 (-1000) 1000 = 1 ∧ inI p1 (-1000) 1000 = 1 ∧ inI p2 0 63 = 1)) : CJ l g y_La_start b_La_start 5 [(0, 7, 10, 13)] 9 185 [.ref (ad 0), .int p0, .int p1, .int p2] (wL g ad ao k x y q o) (1) (wL g ad ao k x y q o) := by
  refine CJ.of (by decide +kernel) (Nat.le_of_ble_eq_true rfl) ?_
  intro p e s m below meth c A Q ls C htab hP hD hl hret hS
  obtain ⟨hx, hb, hml, hown, hw, hE, hA⟩ := id C
  have hl : lv_has ls 5 [(0, .ref (ad 0)), (1, .int p0), (2, .int p1), (3, .int p2)] := hl
  refine lv_aload_n hx hb d_La_start_0 rfl (lv_at hl 0 rfl) ?_
  refine lv_iload_n hx hb d_La_start_1 rfl (lv_at hl 1 rfl) ?_
  refine lv_iload_n hx hb d_La_start_2 rfl (lv_at hl 2 rfl) ?_
  refine lv_iload_n hx hb d_La_start_3 rfl (lv_at hl 3 rfl) ?_
  refine xvTake C v_La_17 [.int p0, .int p1, .int p2] [] (c_SP_start_1 l g hfl ad k x y q p0 p1 p2 hbad) hP hD hS [0, 1, 2, 3, 4, 5, 6, 7, 8, 9, 10, 11, 12, 13, 14, 15, 16, 17, 18, 19, 20, 21, 22, 23, 24, 25, 26, 27, 28, 29, 30, 31, 32, 33, 34, 35, 36, 37, 38] rfl (by decide) 0 rfl rfl rfl rfl hl.1 (Nat.le_of_ble_eq_true rfl) ⟨Nat.le_of_ble_eq_true rfl, Nat.le_of_ble_eq_true rfl⟩ ⟨Nat.le_refl _, Nat.le_refl _⟩ d_La_start_4 10 (by rw [htab]; exact tk1 (by decide) (by decide) R_IA (hw _ q_238) rfl hE.2.2.2.2.2.1) (fun H q9 hP hS => ?_)
  refine lv_astore (lv' := [(4, .ref q9), (0, .ref (ad 0)), (1, .int p0), (2, .int p1), (3, .int p2)]) hx hb d_La_start_10 hl (by decide) rfl (fun ls hl => ?_)
  refine lv_iconst (v := 1) hx hb d_La_start_12 (by decide) ?_
  exact hret _ _ _ _ _ _ _ _ (Nat.le_refl _) (Nat.le_refl _) rfl rfl hP hD hS d_La_start_13
set_option maxHeartbeats 4000000 in
set_option maxRecDepth 100000 in
theorem c_La_start_0 (l : Launch) (g : Glob) (ad : Nat → Nat) (ao : Nat) (k : CFG) (x y : RS) (q : PLS) (o : Nat → Int64) (n : Nat) (hn : k.2.1 0 = nI n) (h3 : n ≤ 3) (np : Nat) (hp : k.2.1 1 = nI np) (h20 : np ≤ 20) (p0 p1 p2 : Int32) (v0 : inI p0 (-1000) 1000 = 1) (v1 : inI p1 (-1000) 1000 = 1) (v2 : inI p2 0 63 = 1) : CJ l g y_La_start b_La_start 5 [(0, 7, 10, 13)] 9 185 [.ref (ad 0), .int p0, .int p1, .int p2] (wL g ad ao k x y q o) (0) (wL g ad ao (startK k p0 p1 p2) (begF (startK k p0 p1 p2) n np x) y q o) := by
  refine CJ.of (by decide +kernel) (Nat.le_of_ble_eq_true rfl) ?_
  intro p e s m below meth c A Q ls C htab hP hD hl hret hS
  obtain ⟨hx, hb, hml, hown, hw, hE, hA⟩ := id C
  have hl : lv_has ls 5 [(0, .ref (ad 0)), (1, .int p0), (2, .int p1), (3, .int p2)] := hl
  refine lv_aload_n hx hb d_La_start_0 rfl (lv_at hl 0 rfl) ?_
  refine lv_iload_n hx hb d_La_start_1 rfl (lv_at hl 1 rfl) ?_
  refine lv_iload_n hx hb d_La_start_2 rfl (lv_at hl 2 rfl) ?_
  refine lv_iload_n hx hb d_La_start_3 rfl (lv_at hl 3 rfl) ?_
  refine cvV C v_La_17 [.int p0, .int p1, .int p2] [] (c_SP_start_0 l g ad k x y q n hn h3 np hp h20 p0 p1 p2 v0 v1 v2) hP hD hS [0, 1, 2, 3, 4, 5, 6, 7, 8, 9, 10, 11, 12, 13, 14, 15, 16, 17, 18, 19, 20, 21, 22, 23, 24, 25, 26, 27, 28, 29, 30, 31, 32, 33, 34, 35, 36, 37, 38] [39] [1, 2, 3, 4, 5, 6, 7, 8, 9, 10, 11, 12, 13, 14, 15, 16, 17, 18, 19, 20, 21, 22, 23, 24, 25, 26, 27, 28, 29, 30, 31, 32, 33, 34, 35, 36, 37, 38, 39, 0] [(ao, .inl (g.2.1 1, 1, .inr (.inl o)))] (wL g ad ao (startK k p0 p1 p2) (begF (startK k p0 p1 p2) n np x) y q o) rfl rfl (by decide) (by decide) (by decide) rfl (by decide) 0 rfl rfl rfl rfl hl.1 (Nat.le_of_ble_eq_true rfl) ⟨Nat.le_of_ble_eq_true rfl, Nat.le_of_ble_eq_true rfl⟩ d_La_start_4 ⟨Nat.zero_le _, Nat.zero_le _⟩ (fun H locs hP hD hS => ?_)
  refine lv_goto (tgt := 14) hx hb d_La_start_7 (by decide) ?_
  refine lv_iconst (v := 0) hx hb d_La_start_14 (by decide) ?_
  exact hret _ _ _ _ _ _ _ _ (Nat.zero_le _) (Nat.zero_le _) rfl rfl hP hD hS d_La_start_15
set_option maxHeartbeats 4000000 in
set_option maxRecDepth 100000 in
theorem c_La_step_1 (l : Launch) (g : Glob) (hfl : l.flags = pinnedFlags ++ [noTraceFlag]) (ad : Nat → Nat) (ao : Nat) (k : CFG) (x y : RS) (q : PLS) (o : Nat → Int64) (p0 : Int32) (hbad : ¬ (inI p0 1 20 = 1)) : CJ l g y_La_step b_La_step 4 [(0, 9, 12, 13)] 9 184 [.ref (ad 0), .int p0, .ref ao] (wL g ad ao k x y q o) (1) (wL g ad ao k x y q o) := by
  refine CJ.of (by decide +kernel) (Nat.le_of_ble_eq_true rfl) ?_
  intro p e s m below meth c A Q ls C htab hP hD hl hret hS
  obtain ⟨hx, hb, hml, hown, hw, hE, hA⟩ := id C
  have hl : lv_has ls 4 [(0, .ref (ad 0)), (1, .int p0), (2, .ref ao)] := hl
  refine lv_aload_n hx hb d_La_step_0 rfl (lv_at hl 2 rfl) ?_
  refine lv_iconst (v := 0) hx hb d_La_step_1 (by decide) ?_
  refine lv_aload_n hx hb d_La_step_2 rfl (lv_at hl 0 rfl) ?_
  refine lv_iload_n hx hb d_La_step_3 rfl (lv_at hl 1 rfl) ?_
  refine xvTake C v_La_21 [.int p0] [.int 0, .ref ao] (c_SP_step_1 l g hfl ad k x y q p0 hbad) hP hD hS [0, 1, 2, 3, 4, 5, 6, 7, 8, 9, 10, 11, 12, 13, 14, 15, 16, 17, 18, 19, 20, 21, 22, 23, 24, 25, 26, 27, 28, 29, 30, 31, 32, 33, 34, 35, 36, 37, 38] rfl (by decide) 0 rfl rfl rfl rfl hl.1 (Nat.le_of_ble_eq_true rfl) ⟨Nat.le_of_ble_eq_true rfl, Nat.le_of_ble_eq_true rfl⟩ ⟨Nat.le_refl _, Nat.le_refl _⟩ d_La_step_4 12 (by rw [htab]; exact tk1 (by decide) (by decide) R_IA (hw _ q_238) rfl hE.2.2.2.2.2.1) (fun H q9 hP hS => ?_)
  refine lv_astore_n (lv' := [(3, .ref q9), (0, .ref (ad 0)), (1, .int p0), (2, .ref ao)]) hx hb d_La_step_12 rfl hl (by decide) rfl (fun ls hl => ?_)
  refine lv_iconst (v := 1) hx hb d_La_step_13 (by decide) ?_
  exact hret _ _ _ _ _ _ _ _ (Nat.le_refl _) (Nat.le_refl _) rfl rfl hP hD hS d_La_step_14
set_option maxHeartbeats 4000000 in
set_option maxRecDepth 100000 in
theorem c_La_step_0 (l : Launch) (g : Glob) (ad : Nat → Nat) (ao : Nat) (k : CFG) (x y : RS) (q : PLS) (o : Nat → Int64) (n : Nat) (hn : k.2.1 0 = nI n) (h3 : n ≤ 3) (np : Nat) (hp : k.2.1 1 = nI np) (h20 : np ≤ 20) (p0 : Int32) (v0 : inI p0 1 20 = 1) : CJ l g y_La_step b_La_step 4 [(0, 9, 12, 13)] 9 184 [.ref (ad 0), .int p0, .ref ao] (wL g ad ao k x y q o) (0) (wL g ad ao (stepK k p0) (begF (stepK k p0) n np x) y q (vp_updL o 0 (k.2.1 5).toInt64)) := by
  refine CJ.of (by decide +kernel) (Nat.le_of_ble_eq_true rfl) ?_
  intro p e s m below meth c A Q ls C htab hP hD hl hret hS
  obtain ⟨hx, hb, hml, hown, hw, hE, hA⟩ := id C
  have hl : lv_has ls 4 [(0, .ref (ad 0)), (1, .int p0), (2, .ref ao)] := hl
  refine lv_aload_n hx hb d_La_step_0 rfl (lv_at hl 2 rfl) ?_
  refine lv_iconst (v := 0) hx hb d_La_step_1 (by decide) ?_
  refine lv_aload_n hx hb d_La_step_2 rfl (lv_at hl 0 rfl) ?_
  refine lv_iload_n hx hb d_La_step_3 rfl (lv_at hl 1 rfl) ?_
  refine cvI C v_La_21 [.int p0] [.int 0, .ref ao] (c_SP_step_0 l g ad k x y q n hn h3 np hp h20 p0 v0) hP hD hS [0, 1, 2, 3, 4, 5, 6, 7, 8, 9, 10, 11, 12, 13, 14, 15, 16, 17, 18, 19, 20, 21, 22, 23, 24, 25, 26, 27, 28, 29, 30, 31, 32, 33, 34, 35, 36, 37, 38] [39] [1, 2, 3, 4, 5, 6, 7, 8, 9, 10, 11, 12, 13, 14, 15, 16, 17, 18, 19, 20, 21, 22, 23, 24, 25, 26, 27, 28, 29, 30, 31, 32, 33, 34, 35, 36, 37, 38, 39, 0] [(ao, .inl (g.2.1 1, 1, .inr (.inl o)))] (wL g ad ao (stepK k p0) (begF (stepK k p0) n np x) y q o) rfl rfl (by decide) (by decide) (by decide) rfl (by decide) 0 rfl rfl rfl rfl hl.1 (Nat.le_of_ble_eq_true rfl) ⟨Nat.le_of_ble_eq_true rfl, Nat.le_of_ble_eq_true rfl⟩ d_La_step_4 ⟨Nat.zero_le _, Nat.zero_le _⟩ (fun H locs hP hD hS => ?_)
  refine lv_i2l hx hb d_La_step_7 rfl ?_
  refine va_last hx hb hE.1 hP hD hS 39 1 rfl rfl (by unfold vp_in; decide) d_La_step_8 (fun H locs hP hD hS => ?_)
  have hP : va_P g.1 classes (wL g ad ao (stepK k p0) (begF (stepK k p0) n np x) y q (vp_updL o 0 ((k.2.1 5).toInt64))) H := hP
  have hD : va_D A (wL g ad ao (stepK k p0) (begF (stepK k p0) n np x) y q (vp_updL o 0 ((k.2.1 5).toInt64))) := hD
  refine lv_goto (tgt := 15) hx hb d_La_step_9 (by decide) ?_
  refine lv_iconst (v := 0) hx hb d_La_step_15 (by decide) ?_
  exact hret _ _ _ _ _ _ _ _ (Nat.zero_le _) (Nat.zero_le _) rfl rfl hP hD hS d_La_step_16
set_option maxHeartbeats 4000000 in
set_option maxRecDepth 100000 in
theorem c_La_pole_1 (l : Launch) (g : Glob) (hfl : l.flags = pinnedFlags ++ [noTraceFlag]) (ad : Nat → Nat) (ao : Nat) (k : CFG) (x y : RS) (q : PLS) (o : Nat → Int64) (p0 p1 : Int32) (hbad : ¬ (inI p0 (-1000) 1000 = 1 ∧ inI p1 (-1000) 1000 = 1)) : CJ l g y_La_pole b_La_pole 5 [(0, 10, 13, 13), (0, 10, 17, 15)] 9 185 [.ref (ad 0), .int p0, .int p1, .ref ao] (wL g ad ao k x y q o) (1) (wL g ad ao k x y q o) := by
  refine CJ.of (by decide +kernel) (Nat.le_of_ble_eq_true rfl) ?_
  intro p e s m below meth c A Q ls C htab hP hD hl hret hS
  obtain ⟨hx, hb, hml, hown, hw, hE, hA⟩ := id C
  have hl : lv_has ls 5 [(0, .ref (ad 0)), (1, .int p0), (2, .int p1), (3, .ref ao)] := hl
  refine lv_aload_n hx hb d_La_pole_0 rfl (lv_at hl 3 rfl) ?_
  refine lv_iconst (v := 0) hx hb d_La_pole_1 (by decide) ?_
  refine lv_aload_n hx hb d_La_pole_2 rfl (lv_at hl 0 rfl) ?_
  refine lv_iload_n hx hb d_La_pole_3 rfl (lv_at hl 1 rfl) ?_
  refine lv_iload_n hx hb d_La_pole_4 rfl (lv_at hl 2 rfl) ?_
  refine xvTake C v_La_25 [.int p0, .int p1] [.int 0, .ref ao] (c_SP_pole_1 l g hfl ad k x y q p0 p1 hbad) hP hD hS [0, 1, 2, 3, 4, 5, 6, 7, 8, 9, 10, 11, 12, 13, 14, 15, 16, 17, 18, 19, 20, 21, 22, 23, 24, 25, 26, 27, 28, 29, 30, 31, 32, 33, 34, 35, 36, 37, 38] rfl (by decide) 0 rfl rfl rfl rfl hl.1 (Nat.le_of_ble_eq_true rfl) ⟨Nat.le_of_ble_eq_true rfl, Nat.le_of_ble_eq_true rfl⟩ ⟨Nat.le_refl _, Nat.le_refl _⟩ d_La_pole_5 13 (by rw [htab]; exact tk1 (by decide) (by decide) R_IA (hw _ q_238) rfl hE.2.2.2.2.2.1) (fun H q9 hP hS => ?_)
  refine lv_astore (lv' := [(4, .ref q9), (0, .ref (ad 0)), (1, .int p0), (2, .int p1), (3, .ref ao)]) hx hb d_La_pole_13 hl (by decide) rfl (fun ls hl => ?_)
  refine lv_iconst (v := 1) hx hb d_La_pole_15 (by decide) ?_
  exact hret _ _ _ _ _ _ _ _ (Nat.le_refl _) (Nat.le_refl _) rfl rfl hP hD hS d_La_pole_16
set_option maxHeartbeats 4000000 in
set_option maxRecDepth 100000 in
theorem c_La_pole_2 (l : Launch) (g : Glob) (hfl : l.flags = pinnedFlags ++ [noTraceFlag]) (ad : Nat → Nat) (ao : Nat) (k : CFG) (x y : RS) (q : PLS) (o : Nat → Int64) (p0 p1 : Int32) (v0 : inI p0 (-1000) 1000 = 1) (v1 : inI p1 (-1000) 1000 = 1) (hfull : k.2.1 1 = 20) : CJ l g y_La_pole b_La_pole 5 [(0, 10, 13, 13), (0, 10, 17, 15)] 9 185 [.ref (ad 0), .int p0, .int p1, .ref ao] (wL g ad ao k x y q o) (2) (wL g ad ao k x y q o) := by
  refine CJ.of (by decide +kernel) (Nat.le_of_ble_eq_true rfl) ?_
  intro p e s m below meth c A Q ls C htab hP hD hl hret hS
  obtain ⟨hx, hb, hml, hown, hw, hE, hA⟩ := id C
  have hl : lv_has ls 5 [(0, .ref (ad 0)), (1, .int p0), (2, .int p1), (3, .ref ao)] := hl
  refine lv_aload_n hx hb d_La_pole_0 rfl (lv_at hl 3 rfl) ?_
  refine lv_iconst (v := 0) hx hb d_La_pole_1 (by decide) ?_
  refine lv_aload_n hx hb d_La_pole_2 rfl (lv_at hl 0 rfl) ?_
  refine lv_iload_n hx hb d_La_pole_3 rfl (lv_at hl 1 rfl) ?_
  refine lv_iload_n hx hb d_La_pole_4 rfl (lv_at hl 2 rfl) ?_
  refine xvTake C v_La_25 [.int p0, .int p1] [.int 0, .ref ao] (c_SP_pole_2 l g hfl ad k x y q p0 p1 v0 v1 hfull) hP hD hS [0, 1, 2, 3, 4, 5, 6, 7, 8, 9, 10, 11, 12, 13, 14, 15, 16, 17, 18, 19, 20, 21, 22, 23, 24, 25, 26, 27, 28, 29, 30, 31, 32, 33, 34, 35, 36, 37, 38] rfl (by decide) 0 rfl rfl rfl rfl hl.1 (Nat.le_of_ble_eq_true rfl) ⟨Nat.le_of_ble_eq_true rfl, Nat.le_of_ble_eq_true rfl⟩ ⟨Nat.le_refl _, Nat.le_refl _⟩ d_La_pole_5 17 (by rw [htab]; exact tk2 (by decide) (by decide) R_IA (hw _ q_238) hE.2.2.2.2.2.2.2.1 (tk1 (by decide) (by decide) R_IS (hw _ q_239) rfl hE.2.2.2.2.2.2.1)) (fun H q9 hP hS => ?_)
  refine lv_astore (lv' := [(4, .ref q9), (0, .ref (ad 0)), (1, .int p0), (2, .int p1), (3, .ref ao)]) hx hb d_La_pole_17 hl (by decide) rfl (fun ls hl => ?_)
  refine lv_iconst (v := 2) hx hb d_La_pole_19 (by decide) ?_
  exact hret _ _ _ _ _ _ _ _ (Nat.le_refl _) (Nat.le_refl _) rfl rfl hP hD hS d_La_pole_20
set_option maxHeartbeats 4000000 in
set_option maxRecDepth 100000 in
theorem c_La_pole_0 (l : Launch) (g : Glob) (ad : Nat → Nat) (ao : Nat) (k : CFG) (x y : RS) (q : PLS) (o : Nat → Int64) (np : Nat) (hp : k.2.1 1 = nI np) (h20 : np < 20) (p0 p1 : Int32) (v0 : inI p0 (-1000) 1000 = 1) (v1 : inI p1 (-1000) 1000 = 1) : CJ l g y_La_pole b_La_pole 5 [(0, 10, 13, 13), (0, 10, 17, 15)] 9 185 [.ref (ad 0), .int p0, .int p1, .ref ao] (wL g ad ao k x y q o) (0) (wL g ad ao (poleK k np p0 p1) x y q (vp_updL o 0 (nI np).toInt64)) := by
  refine CJ.of (by decide +kernel) (Nat.le_of_ble_eq_true rfl) ?_
  intro p e s m below meth c A Q ls C htab hP hD hl hret hS
  obtain ⟨hx, hb, hml, hown, hw, hE, hA⟩ := id C
  have hl : lv_has ls 5 [(0, .ref (ad 0)), (1, .int p0), (2, .int p1), (3, .ref ao)] := hl
  refine lv_aload_n hx hb d_La_pole_0 rfl (lv_at hl 3 rfl) ?_
  refine lv_iconst (v := 0) hx hb d_La_pole_1 (by decide) ?_
  refine lv_aload_n hx hb d_La_pole_2 rfl (lv_at hl 0 rfl) ?_
  refine lv_iload_n hx hb d_La_pole_3 rfl (lv_at hl 1 rfl) ?_
  refine lv_iload_n hx hb d_La_pole_4 rfl (lv_at hl 2 rfl) ?_
  refine cvI C v_La_25 [.int p0, .int p1] [.int 0, .ref ao] (c_SP_pole_0 l g ad k x y q np hp h20 p0 p1 v0 v1) hP hD hS [0, 1, 2, 3, 4, 5, 6, 7, 8, 9, 10, 11, 12, 13, 14, 15, 16, 17, 18, 19, 20, 21, 22, 23, 24, 25, 26, 27, 28, 29, 30, 31, 32, 33, 34, 35, 36, 37, 38] [39] [1, 2, 3, 4, 5, 6, 7, 8, 9, 10, 11, 12, 13, 14, 15, 16, 17, 18, 19, 20, 21, 22, 23, 24, 25, 26, 27, 28, 29, 30, 31, 32, 33, 34, 35, 36, 37, 38, 39, 0] [(ao, .inl (g.2.1 1, 1, .inr (.inl o)))] (wL g ad ao (poleK k np p0 p1) x y q o) rfl rfl (by decide) (by decide) (by decide) rfl (by decide) 0 rfl rfl rfl rfl hl.1 (Nat.le_of_ble_eq_true rfl) ⟨Nat.le_of_ble_eq_true rfl, Nat.le_of_ble_eq_true rfl⟩ d_La_pole_5 ⟨Nat.zero_le _, Nat.zero_le _⟩ (fun H locs hP hD hS => ?_)
  refine lv_i2l hx hb d_La_pole_8 rfl ?_
  refine va_last hx hb hE.1 hP hD hS 39 1 rfl rfl (by unfold vp_in; decide) d_La_pole_9 (fun H locs hP hD hS => ?_)
  have hP : va_P g.1 classes (wL g ad ao (poleK k np p0 p1) x y q (vp_updL o 0 ((nI np).toInt64))) H := hP
  have hD : va_D A (wL g ad ao (poleK k np p0 p1) x y q (vp_updL o 0 ((nI np).toInt64))) := hD
  refine lv_goto (tgt := 21) hx hb d_La_pole_10 (by decide) ?_
  refine lv_iconst (v := 0) hx hb d_La_pole_21 (by decide) ?_
  exact hret _ _ _ _ _ _ _ _ (Nat.zero_le _) (Nat.zero_le _) rfl rfl hP hD hS d_La_pole_22
set_option maxHeartbeats 4000000 in
set_option maxRecDepth 100000 in
theorem c_La_go_1 (l : Launch) (g : Glob) (hfl : l.flags = pinnedFlags ++ [noTraceFlag]) (ad : Nat → Nat) (ao : Nat) (k : CFG) (x y : RS) (q : PLS) (o : Nat → Int64) (p0 p1 p2 : Int32) (hbad : ¬ (inI p0 (-3) 3 = 1 ∧ inI p1 1 200 = 1)) : CJ l g y_La_go b_La_go 6 [(0, 12, 15, 13), (0, 12, 19, 15)] 9 185 [.ref (ad 0), .int p0, .int p1, .int p2, .ref ao] (wL g ad ao k x y q o) (1) (wL g ad ao k x y q o) := by
  refine CJ.of (by decide +kernel) (Nat.le_of_ble_eq_true rfl) ?_
  intro p e s m below meth c A Q ls C htab hP hD hl hret hS
  obtain ⟨hx, hb, hml, hown, hw, hE, hA⟩ := id C
  have hl : lv_has ls 6 [(0, .ref (ad 0)), (1, .int p0), (2, .int p1), (3, .int p2), (4, .ref ao)] := hl
  refine lv_aload hx hb d_La_go_0 (lv_at hl 4 rfl) ?_
  refine lv_iconst (v := 0) hx hb d_La_go_2 (by decide) ?_
  refine lv_aload_n hx hb d_La_go_3 rfl (lv_at hl 0 rfl) ?_
  refine lv_iload_n hx hb d_La_go_4 rfl (lv_at hl 1 rfl) ?_
  refine lv_iload_n hx hb d_La_go_5 rfl (lv_at hl 2 rfl) ?_
  refine lv_iload_n hx hb d_La_go_6 rfl (lv_at hl 3 rfl) ?_
  refine xvTake C v_La_29 [.int p0, .int p1, .int p2] [.int 0, .ref ao] (c_SP_go_1 l g hfl ad k x y q p0 p1 p2 hbad) hP hD hS [0, 1, 2, 3, 4, 5, 6, 7, 8, 9, 10, 11, 12, 13, 14, 15, 16, 17, 18, 19, 20, 21, 22, 23, 24, 25, 26, 27, 28, 29, 30, 31, 32, 33, 34, 35, 36, 37, 38] rfl (by decide) 0 rfl rfl rfl rfl hl.1 (Nat.le_of_ble_eq_true rfl) ⟨Nat.le_of_ble_eq_true rfl, Nat.le_of_ble_eq_true rfl⟩ ⟨Nat.le_refl _, Nat.le_refl _⟩ d_La_go_7 15 (by rw [htab]; exact tk1 (by decide) (by decide) R_IA (hw _ q_238) rfl hE.2.2.2.2.2.1) (fun H q9 hP hS => ?_)
  refine lv_astore (lv' := [(5, .ref q9), (0, .ref (ad 0)), (1, .int p0), (2, .int p1), (3, .int p2), (4, .ref ao)]) hx hb d_La_go_15 hl (by decide) rfl (fun ls hl => ?_)
  refine lv_iconst (v := 1) hx hb d_La_go_17 (by decide) ?_
  exact hret _ _ _ _ _ _ _ _ (Nat.le_refl _) (Nat.le_refl _) rfl rfl hP hD hS d_La_go_18
set_option maxHeartbeats 4000000 in
set_option maxRecDepth 100000 in
theorem c_La_go_2 (l : Launch) (g : Glob) (hfl : l.flags = pinnedFlags ++ [noTraceFlag]) (ad : Nat → Nat) (ao : Nat) (k : CFG) (x y : RS) (q : PLS) (o : Nat → Int64) (p0 p1 p2 : Int32) (v0 : inI p0 (-3) 3 = 1) (v1 : inI p1 1 200 = 1) (h0 : k.2.1 0 = 0) : CJ l g y_La_go b_La_go 6 [(0, 12, 15, 13), (0, 12, 19, 15)] 9 185 [.ref (ad 0), .int p0, .int p1, .int p2, .ref ao] (wL g ad ao k x y q o) (2) (wL g ad ao k x y q o) := by
  refine CJ.of (by decide +kernel) (Nat.le_of_ble_eq_true rfl) ?_
  intro p e s m below meth c A Q ls C htab hP hD hl hret hS
  obtain ⟨hx, hb, hml, hown, hw, hE, hA⟩ := id C
  have hl : lv_has ls 6 [(0, .ref (ad 0)), (1, .int p0), (2, .int p1), (3, .int p2), (4, .ref ao)] := hl
  refine lv_aload hx hb d_La_go_0 (lv_at hl 4 rfl) ?_
  refine lv_iconst (v := 0) hx hb d_La_go_2 (by decide) ?_
  refine lv_aload_n hx hb d_La_go_3 rfl (lv_at hl 0 rfl) ?_
  refine lv_iload_n hx hb d_La_go_4 rfl (lv_at hl 1 rfl) ?_
  refine lv_iload_n hx hb d_La_go_5 rfl (lv_at hl 2 rfl) ?_
  refine lv_iload_n hx hb d_La_go_6 rfl (lv_at hl 3 rfl) ?_
  refine xvTake C v_La_29 [.int p0, .int p1, .int p2] [.int 0, .ref ao] (c_SP_go_2 l g hfl ad k x y q p0 p1 p2 v0 v1 h0) hP hD hS [0, 1, 2, 3, 4, 5, 6, 7, 8, 9, 10, 11, 12, 13, 14, 15, 16, 17, 18, 19, 20, 21, 22, 23, 24, 25, 26, 27, 28, 29, 30, 31, 32, 33, 34, 35, 36, 37, 38] rfl (by decide) 0 rfl rfl rfl rfl hl.1 (Nat.le_of_ble_eq_true rfl) ⟨Nat.le_of_ble_eq_true rfl, Nat.le_of_ble_eq_true rfl⟩ ⟨Nat.le_refl _, Nat.le_refl _⟩ d_La_go_7 19 (by rw [htab]; exact tk2 (by decide) (by decide) R_IA (hw _ q_238) hE.2.2.2.2.2.2.2.1 (tk1 (by decide) (by decide) R_IS (hw _ q_239) rfl hE.2.2.2.2.2.2.1)) (fun H q9 hP hS => ?_)
  refine lv_astore (lv' := [(5, .ref q9), (0, .ref (ad 0)), (1, .int p0), (2, .int p1), (3, .int p2), (4, .ref ao)]) hx hb d_La_go_19 hl (by decide) rfl (fun ls hl => ?_)
  refine lv_iconst (v := 2) hx hb d_La_go_21 (by decide) ?_
  exact hret _ _ _ _ _ _ _ _ (Nat.le_refl _) (Nat.le_refl _) rfl rfl hP hD hS d_La_go_22
set_option maxHeartbeats 4000000 in
set_option maxRecDepth 100000 in
theorem c_La_go_0 (l : Launch) (g : Glob) (ad : Nat → Nat) (ao : Nat) (k : CFG) (x y : RS) (q : PLS) (o : Nat → Int64) (n : Nat) (hn : k.2.1 0 = nI n) (h3 : n ≤ 3) (np : Nat) (hp : k.2.1 1 = nI np) (h20 : np ≤ 20) (p0 p1 p2 : Int32) (v0 : inI p0 (-3) 3 = 1) (v1 : inI p1 1 200 = 1) (h0 : ¬ k.2.1 0 = 0) (N : Nat) (hN : p1 = nI N) (hN6 : N ≤ 1000000) : CJ l g y_La_go b_La_go 6 [(0, 12, 15, 13), (0, 12, 19, 15)] 9 185 [.ref (ad 0), .int p0, .int p1, .int p2, .ref ao] (wL g ad ao k x y q o) (0) (wL g ad ao k (walkF k n np p0 N p2 x) y q (vp_updL o 0 ((walkF k n np p0 N p2 x).2.1 0).toInt64)) := by
  refine CJ.of (by decide +kernel) (Nat.le_of_ble_eq_true rfl) ?_
  intro p e s m below meth c A Q ls C htab hP hD hl hret hS
  obtain ⟨hx, hb, hml, hown, hw, hE, hA⟩ := id C
  have hl : lv_has ls 6 [(0, .ref (ad 0)), (1, .int p0), (2, .int p1), (3, .int p2), (4, .ref ao)] := hl
  refine lv_aload hx hb d_La_go_0 (lv_at hl 4 rfl) ?_
  refine lv_iconst (v := 0) hx hb d_La_go_2 (by decide) ?_
  refine lv_aload_n hx hb d_La_go_3 rfl (lv_at hl 0 rfl) ?_
  refine lv_iload_n hx hb d_La_go_4 rfl (lv_at hl 1 rfl) ?_
  refine lv_iload_n hx hb d_La_go_5 rfl (lv_at hl 2 rfl) ?_
  refine lv_iload_n hx hb d_La_go_6 rfl (lv_at hl 3 rfl) ?_
  refine cvI C v_La_29 [.int p0, .int p1, .int p2] [.int 0, .ref ao] (c_SP_go_0 l g ad k x y q n hn h3 np hp h20 p0 p1 p2 v0 v1 h0 N hN hN6) hP hD hS [0, 1, 2, 3, 4, 5, 6, 7, 8, 9, 10, 11, 12, 13, 14, 15, 16, 17, 18, 19, 20, 21, 22, 23, 24, 25, 26, 27, 28, 29, 30, 31, 32, 33, 34, 35, 36, 37, 38] [39] [1, 2, 3, 4, 5, 6, 7, 8, 9, 10, 11, 12, 13, 14, 15, 16, 17, 18, 19, 20, 21, 22, 23, 24, 25, 26, 27, 28, 29, 30, 31, 32, 33, 34, 35, 36, 37, 38, 39, 0] [(ao, .inl (g.2.1 1, 1, .inr (.inl o)))] (wL g ad ao k (walkF k n np p0 N p2 x) y q o) rfl rfl (by decide) (by decide) (by decide) rfl (by decide) 0 rfl rfl rfl rfl hl.1 (Nat.le_of_ble_eq_true rfl) ⟨Nat.le_of_ble_eq_true rfl, Nat.le_of_ble_eq_true rfl⟩ d_La_go_7 ⟨Nat.zero_le _, Nat.zero_le _⟩ (fun H locs hP hD hS => ?_)
  refine lv_i2l hx hb d_La_go_10 rfl ?_
  refine va_last hx hb hE.1 hP hD hS 39 1 rfl rfl (by unfold vp_in; decide) d_La_go_11 (fun H locs hP hD hS => ?_)
  have hP : va_P g.1 classes (wL g ad ao k (walkF k n np p0 N p2 x) y q (vp_updL o 0 (((walkF k n np p0 N p2 x).2.1 0).toInt64))) H := hP
  have hD : va_D A (wL g ad ao k (walkF k n np p0 N p2 x) y q (vp_updL o 0 (((walkF k n np p0 N p2 x).2.1 0).toInt64))) := hD
  refine lv_goto (tgt := 23) hx hb d_La_go_12 (by decide) ?_
  refine lv_iconst (v := 0) hx hb d_La_go_23 (by decide) ?_
  exact hret _ _ _ _ _ _ _ _ (Nat.zero_le _) (Nat.zero_le _) rfl rfl hP hD hS d_La_go_24
set_option maxHeartbeats 4000000 in
set_option maxRecDepth 100000 in
theorem c_La_told_1 (l : Launch) (g : Glob) (hfl : l.flags = pinnedFlags ++ [noTraceFlag]) (ad : Nat → Nat) (ao : Nat) (k : CFG) (x y : RS) (q : PLS) (o : Nat → Int64) (p0 p1 : Int32) (hbad : ¬ (inI p0 0 (k.2.1 0 - 1) = 1 ∧ inI p1 0 4 = 1)) : CJ l g y_La_told b_La_told 5 [(0, 10, 13, 13)] 9 185 [.ref (ad 0), .int p0, .int p1, .ref ao] (wL g ad ao k x y q o) (1) (wL g ad ao k x y q o) := by
  refine CJ.of (by decide +kernel) (Nat.le_of_ble_eq_true rfl) ?_
  intro p e s m below meth c A Q ls C htab hP hD hl hret hS
  obtain ⟨hx, hb, hml, hown, hw, hE, hA⟩ := id C
  have hl : lv_has ls 5 [(0, .ref (ad 0)), (1, .int p0), (2, .int p1), (3, .ref ao)] := hl
  refine lv_aload_n hx hb d_La_told_0 rfl (lv_at hl 3 rfl) ?_
  refine lv_iconst (v := 0) hx hb d_La_told_1 (by decide) ?_
  refine lv_aload_n hx hb d_La_told_2 rfl (lv_at hl 0 rfl) ?_
  refine lv_iload_n hx hb d_La_told_3 rfl (lv_at hl 1 rfl) ?_
  refine lv_iload_n hx hb d_La_told_4 rfl (lv_at hl 2 rfl) ?_
  refine xvTake C v_La_33 [.int p0, .int p1] [.int 0, .ref ao] (c_SP_told_1 l g hfl ad k x y q p0 p1 hbad) hP hD hS [0, 1, 2, 3, 4, 5, 6, 7, 8, 9, 10, 11, 12, 13, 14, 15, 16, 17, 18, 19, 20, 21, 22, 23, 24, 25, 26, 27, 28, 29, 30, 31, 32, 33, 34, 35, 36, 37, 38] rfl (by decide) 0 rfl rfl rfl rfl hl.1 (Nat.le_of_ble_eq_true rfl) ⟨Nat.le_of_ble_eq_true rfl, Nat.le_of_ble_eq_true rfl⟩ ⟨Nat.le_refl _, Nat.le_refl _⟩ d_La_told_5 13 (by rw [htab]; exact tk1 (by decide) (by decide) R_IA (hw _ q_238) rfl hE.2.2.2.2.2.1) (fun H q9 hP hS => ?_)
  refine lv_astore (lv' := [(4, .ref q9), (0, .ref (ad 0)), (1, .int p0), (2, .int p1), (3, .ref ao)]) hx hb d_La_told_13 hl (by decide) rfl (fun ls hl => ?_)
  refine lv_iconst (v := 1) hx hb d_La_told_15 (by decide) ?_
  exact hret _ _ _ _ _ _ _ _ (Nat.le_refl _) (Nat.le_refl _) rfl rfl hP hD hS d_La_told_16
set_option maxHeartbeats 4000000 in
set_option maxRecDepth 100000 in
theorem c_La_told_0 (l : Launch) (g : Glob) (ad : Nat → Nat) (ao : Nat) (k : CFG) (x y : RS) (q : PLS) (o : Nat → Int64) (b w : Nat) (h3 : b < 3) (hw5 : w < 5) (v0 : inI (nI b) 0 (k.2.1 0 - 1) = 1) (v1 : inI (nI w) 0 4 = 1) : CJ l g y_La_told b_La_told 5 [(0, 10, 13, 13)] 9 185 [.ref (ad 0), .int (nI b), .int (nI w), .ref ao] (wL g ad ao k x y q o) (0) (wL g ad ao k x y q (vp_updL o 0 (toldF x b (nI w)).toInt64)) := by
  refine CJ.of (by decide +kernel) (Nat.le_of_ble_eq_true rfl) ?_
  intro p e s m below meth c A Q ls C htab hP hD hl hret hS
  obtain ⟨hx, hb, hml, hown, hw, hE, hA⟩ := id C
  have hl : lv_has ls 5 [(0, .ref (ad 0)), (1, .int (nI b)), (2, .int (nI w)), (3, .ref ao)] := hl
  refine lv_aload_n hx hb d_La_told_0 rfl (lv_at hl 3 rfl) ?_
  refine lv_iconst (v := 0) hx hb d_La_told_1 (by decide) ?_
  refine lv_aload_n hx hb d_La_told_2 rfl (lv_at hl 0 rfl) ?_
  refine lv_iload_n hx hb d_La_told_3 rfl (lv_at hl 1 rfl) ?_
  refine lv_iload_n hx hb d_La_told_4 rfl (lv_at hl 2 rfl) ?_
  refine cvI C v_La_33 [.int (nI b), .int (nI w)] [.int 0, .ref ao] (c_SP_told_0 l g ad k x y q b w h3 hw5 v0 v1) hP hD hS [0, 1, 2, 3, 4, 5, 6, 7, 8, 9, 10, 11, 12, 13, 14, 15, 16, 17, 18, 19, 20, 21, 22, 23, 24, 25, 26, 27, 28, 29, 30, 31, 32, 33, 34, 35, 36, 37, 38] [39] [1, 2, 3, 4, 5, 6, 7, 8, 9, 10, 11, 12, 13, 14, 15, 16, 17, 18, 19, 20, 21, 22, 23, 24, 25, 26, 27, 28, 29, 30, 31, 32, 33, 34, 35, 36, 37, 38, 39, 0] [(ao, .inl (g.2.1 1, 1, .inr (.inl o)))] (wL g ad ao k x y q o) rfl rfl (by decide) (by decide) (by decide) rfl (by decide) 0 rfl rfl rfl rfl hl.1 (Nat.le_of_ble_eq_true rfl) ⟨Nat.le_of_ble_eq_true rfl, Nat.le_of_ble_eq_true rfl⟩ d_La_told_5 ⟨Nat.zero_le _, Nat.zero_le _⟩ (fun H locs hP hD hS => ?_)
  refine lv_i2l hx hb d_La_told_8 rfl ?_
  refine va_last hx hb hE.1 hP hD hS 39 1 rfl rfl (by unfold vp_in; decide) d_La_told_9 (fun H locs hP hD hS => ?_)
  have hP : va_P g.1 classes (wL g ad ao k x y q (vp_updL o 0 ((toldF x b (nI w)).toInt64))) H := hP
  have hD : va_D A (wL g ad ao k x y q (vp_updL o 0 ((toldF x b (nI w)).toInt64))) := hD
  refine lv_goto (tgt := 17) hx hb d_La_told_10 (by decide) ?_
  refine lv_iconst (v := 0) hx hb d_La_told_17 (by decide) ?_
  exact hret _ _ _ _ _ _ _ _ (Nat.zero_le _) (Nat.zero_le _) rfl rfl hP hD hS d_La_told_18
set_option maxHeartbeats 4000000 in
set_option maxRecDepth 100000 in
theorem c_La_corner_1 (l : Launch) (g : Glob) (hfl : l.flags = pinnedFlags ++ [noTraceFlag]) (ad : Nat → Nat) (ao : Nat) (k : CFG) (x y : RS) (q : PLS) (o : Nat → Int64) (p0 p1 p2 : Int32) (hbad : ¬ (inI p0 0 (k.2.1 0 - 1) = 1 ∧ inI p1 0 3 = 1 ∧ inI p2 0 1 = 1)) : CJ l g y_La_corner b_La_corner 6 [(0, 12, 15, 13)] 9 191 [.ref (ad 0), .int p0, .int p1, .int p2, .ref ao] (wL g ad ao k x y q o) (1) (wL g ad ao k x y q o) := by
  refine CJ.of (by decide +kernel) (Nat.le_of_ble_eq_true rfl) ?_
  intro p e s m below meth c A Q ls C htab hP hD hl hret hS
  obtain ⟨hx, hb, hml, hown, hw, hE, hA⟩ := id C
  have hl : lv_has ls 6 [(0, .ref (ad 0)), (1, .int p0), (2, .int p1), (3, .int p2), (4, .ref ao)] := hl
  refine lv_aload hx hb d_La_corner_0 (lv_at hl 4 rfl) ?_
  refine lv_iconst (v := 0) hx hb d_La_corner_2 (by decide) ?_
  refine lv_aload_n hx hb d_La_corner_3 rfl (lv_at hl 0 rfl) ?_
  refine lv_iload_n hx hb d_La_corner_4 rfl (lv_at hl 1 rfl) ?_
  refine lv_iload_n hx hb d_La_corner_5 rfl (lv_at hl 2 rfl) ?_
  refine lv_iload_n hx hb d_La_corner_6 rfl (lv_at hl 3 rfl) ?_
  refine xvTake C v_La_36 [.int p0, .int p1, .int p2] [.int 0, .ref ao] (c_SP_corner_1 l g hfl ad k x y q p0 p1 p2 hbad) hP hD hS [0, 1, 2, 3, 4, 5, 6, 7, 8, 9, 10, 11, 12, 13, 14, 15, 16, 17, 18, 19, 20, 21, 22, 23, 24, 25, 26, 27, 28, 29, 30, 31, 32, 33, 34, 35, 36, 37, 38] rfl (by decide) 0 rfl rfl rfl rfl hl.1 (Nat.le_of_ble_eq_true rfl) ⟨Nat.le_of_ble_eq_true rfl, Nat.le_of_ble_eq_true rfl⟩ ⟨Nat.le_refl _, Nat.le_refl _⟩ d_La_corner_7 15 (by rw [htab]; exact tk1 (by decide) (by decide) R_IA (hw _ q_238) rfl hE.2.2.2.2.2.1) (fun H q9 hP hS => ?_)
  refine lv_astore (lv' := [(5, .ref q9), (0, .ref (ad 0)), (1, .int p0), (2, .int p1), (3, .int p2), (4, .ref ao)]) hx hb d_La_corner_15 hl (by decide) rfl (fun ls hl => ?_)
  refine lv_iconst (v := 1) hx hb d_La_corner_17 (by decide) ?_
  exact hret _ _ _ _ _ _ _ _ (Nat.le_refl _) (Nat.le_refl _) rfl rfl hP hD hS d_La_corner_18
set_option maxHeartbeats 4000000 in
set_option maxRecDepth 100000 in
theorem c_La_corner_0 (l : Launch) (g : Glob) (ad : Nat → Nat) (ao : Nat) (k : CFG) (x y : RS) (q : PLS) (o : Nat → Int64) (b : Nat) (h3 : b < 3) (p1 p2 : Int32) (v0 : inI (nI b) 0 (k.2.1 0 - 1) = 1) (v1 : inI p1 0 3 = 1) (v2 : inI p2 0 1 = 1) : CJ l g y_La_corner b_La_corner 6 [(0, 12, 15, 13)] 9 191 [.ref (ad 0), .int (nI b), .int p1, .int p2, .ref ao] (wL g ad ao k x y q o) (0) (wL g ad ao k x y q (vp_updL o 0 (cornerF k x b p1 p2).toInt64)) := by
  refine CJ.of (by decide +kernel) (Nat.le_of_ble_eq_true rfl) ?_
  intro p e s m below meth c A Q ls C htab hP hD hl hret hS
  obtain ⟨hx, hb, hml, hown, hw, hE, hA⟩ := id C
  have hl : lv_has ls 6 [(0, .ref (ad 0)), (1, .int (nI b)), (2, .int p1), (3, .int p2), (4, .ref ao)] := hl
  refine lv_aload hx hb d_La_corner_0 (lv_at hl 4 rfl) ?_
  refine lv_iconst (v := 0) hx hb d_La_corner_2 (by decide) ?_
  refine lv_aload_n hx hb d_La_corner_3 rfl (lv_at hl 0 rfl) ?_
  refine lv_iload_n hx hb d_La_corner_4 rfl (lv_at hl 1 rfl) ?_
  refine lv_iload_n hx hb d_La_corner_5 rfl (lv_at hl 2 rfl) ?_
  refine lv_iload_n hx hb d_La_corner_6 rfl (lv_at hl 3 rfl) ?_
  refine cvI C v_La_36 [.int (nI b), .int p1, .int p2] [.int 0, .ref ao] (c_SP_corner_0 l g ad k x y q b h3 p1 p2 v0 v1 v2) hP hD hS [0, 1, 2, 3, 4, 5, 6, 7, 8, 9, 10, 11, 12, 13, 14, 15, 16, 17, 18, 19, 20, 21, 22, 23, 24, 25, 26, 27, 28, 29, 30, 31, 32, 33, 34, 35, 36, 37, 38] [39] [1, 2, 3, 4, 5, 6, 7, 8, 9, 10, 11, 12, 13, 14, 15, 16, 17, 18, 19, 20, 21, 22, 23, 24, 25, 26, 27, 28, 29, 30, 31, 32, 33, 34, 35, 36, 37, 38, 39, 0] [(ao, .inl (g.2.1 1, 1, .inr (.inl o)))] (wL g ad ao k x y q o) rfl rfl (by decide) (by decide) (by decide) rfl (by decide) 0 rfl rfl rfl rfl hl.1 (Nat.le_of_ble_eq_true rfl) ⟨Nat.le_of_ble_eq_true rfl, Nat.le_of_ble_eq_true rfl⟩ d_La_corner_7 ⟨Nat.zero_le _, Nat.zero_le _⟩ (fun H locs hP hD hS => ?_)
  refine lv_i2l hx hb d_La_corner_10 rfl ?_
  refine va_last hx hb hE.1 hP hD hS 39 1 rfl rfl (by unfold vp_in; decide) d_La_corner_11 (fun H locs hP hD hS => ?_)
  have hP : va_P g.1 classes (wL g ad ao k x y q (vp_updL o 0 ((cornerF k x b p1 p2).toInt64))) H := hP
  have hD : va_D A (wL g ad ao k x y q (vp_updL o 0 ((cornerF k x b p1 p2).toInt64))) := hD
  refine lv_goto (tgt := 19) hx hb d_La_corner_12 (by decide) ?_
  refine lv_iconst (v := 0) hx hb d_La_corner_19 (by decide) ?_
  exact hret _ _ _ _ _ _ _ _ (Nat.zero_le _) (Nat.zero_le _) rfl rfl hP hD hS d_La_corner_20
set_option maxHeartbeats 4000000 in
set_option maxRecDepth 100000 in
theorem c_La_clash_1 (l : Launch) (g : Glob) (hfl : l.flags = pinnedFlags ++ [noTraceFlag]) (ad : Nat → Nat) (ao : Nat) (k : CFG) (x y : RS) (q : PLS) (o : Nat → Int64) (p0 : Int32) (hbad : ¬ (inI p0 0 2 = 1)) : CJ l g y_La_clash b_La_clash 4 [(0, 9, 12, 13)] 9 183 [.ref (ad 0), .int p0, .ref ao] (wL g ad ao k x y q o) (1) (wL g ad ao k x y q o) := by
  refine CJ.of (by decide +kernel) (Nat.le_of_ble_eq_true rfl) ?_
  intro p e s m below meth c A Q ls C htab hP hD hl hret hS
  obtain ⟨hx, hb, hml, hown, hw, hE, hA⟩ := id C
  have hl : lv_has ls 4 [(0, .ref (ad 0)), (1, .int p0), (2, .ref ao)] := hl
  refine lv_aload_n hx hb d_La_clash_0 rfl (lv_at hl 2 rfl) ?_
  refine lv_iconst (v := 0) hx hb d_La_clash_1 (by decide) ?_
  refine lv_aload_n hx hb d_La_clash_2 rfl (lv_at hl 0 rfl) ?_
  refine lv_iload_n hx hb d_La_clash_3 rfl (lv_at hl 1 rfl) ?_
  refine xvTake C v_La_44 [.int p0] [.int 0, .ref ao] (c_SP_clash_1 l g hfl ad k x y q p0 hbad) hP hD hS [0, 1, 2, 3, 4, 5, 6, 7, 8, 9, 10, 11, 12, 13, 14, 15, 16, 17, 18, 19, 20, 21, 22, 23, 24, 25, 26, 27, 28, 29, 30, 31, 32, 33, 34, 35, 36, 37, 38] rfl (by decide) 0 rfl rfl rfl rfl hl.1 (Nat.le_of_ble_eq_true rfl) ⟨Nat.le_of_ble_eq_true rfl, Nat.le_of_ble_eq_true rfl⟩ ⟨Nat.le_refl _, Nat.le_refl _⟩ d_La_clash_4 12 (by rw [htab]; exact tk1 (by decide) (by decide) R_IA (hw _ q_238) rfl hE.2.2.2.2.2.1) (fun H q9 hP hS => ?_)
  refine lv_astore_n (lv' := [(3, .ref q9), (0, .ref (ad 0)), (1, .int p0), (2, .ref ao)]) hx hb d_La_clash_12 rfl hl (by decide) rfl (fun ls hl => ?_)
  refine lv_iconst (v := 1) hx hb d_La_clash_13 (by decide) ?_
  exact hret _ _ _ _ _ _ _ _ (Nat.le_refl _) (Nat.le_refl _) rfl rfl hP hD hS d_La_clash_14
set_option maxHeartbeats 4000000 in
set_option maxRecDepth 100000 in
theorem c_La_clash_0 (l : Launch) (g : Glob) (ad : Nat → Nat) (ao : Nat) (k : CFG) (x y : RS) (q : PLS) (o : Nat → Int64) (w : Nat) (hw3 : w < 3) (v0 : inI (nI w) 0 2 = 1) : CJ l g y_La_clash b_La_clash 4 [(0, 9, 12, 13)] 9 183 [.ref (ad 0), .int (nI w), .ref ao] (wL g ad ao k x y q o) (0) (wL g ad ao k x y q (vp_updL o 0 (clashF x (nI w)).toInt64)) := by
  refine CJ.of (by decide +kernel) (Nat.le_of_ble_eq_true rfl) ?_
  intro p e s m below meth c A Q ls C htab hP hD hl hret hS
  obtain ⟨hx, hb, hml, hown, hw, hE, hA⟩ := id C
  have hl : lv_has ls 4 [(0, .ref (ad 0)), (1, .int (nI w)), (2, .ref ao)] := hl
  refine lv_aload_n hx hb d_La_clash_0 rfl (lv_at hl 2 rfl) ?_
  refine lv_iconst (v := 0) hx hb d_La_clash_1 (by decide) ?_
  refine lv_aload_n hx hb d_La_clash_2 rfl (lv_at hl 0 rfl) ?_
  refine lv_iload_n hx hb d_La_clash_3 rfl (lv_at hl 1 rfl) ?_
  refine cvI C v_La_44 [.int (nI w)] [.int 0, .ref ao] (c_SP_clash_0 l g ad k x y q w hw3 v0) hP hD hS [0, 1, 2, 3, 4, 5, 6, 7, 8, 9, 10, 11, 12, 13, 14, 15, 16, 17, 18, 19, 20, 21, 22, 23, 24, 25, 26, 27, 28, 29, 30, 31, 32, 33, 34, 35, 36, 37, 38] [39] [1, 2, 3, 4, 5, 6, 7, 8, 9, 10, 11, 12, 13, 14, 15, 16, 17, 18, 19, 20, 21, 22, 23, 24, 25, 26, 27, 28, 29, 30, 31, 32, 33, 34, 35, 36, 37, 38, 39, 0] [(ao, .inl (g.2.1 1, 1, .inr (.inl o)))] (wL g ad ao k x y q o) rfl rfl (by decide) (by decide) (by decide) rfl (by decide) 0 rfl rfl rfl rfl hl.1 (Nat.le_of_ble_eq_true rfl) ⟨Nat.le_of_ble_eq_true rfl, Nat.le_of_ble_eq_true rfl⟩ d_La_clash_4 ⟨Nat.zero_le _, Nat.zero_le _⟩ (fun H locs hP hD hS => ?_)
  refine lv_i2l hx hb d_La_clash_7 rfl ?_
  refine va_last hx hb hE.1 hP hD hS 39 1 rfl rfl (by unfold vp_in; decide) d_La_clash_8 (fun H locs hP hD hS => ?_)
  have hP : va_P g.1 classes (wL g ad ao k x y q (vp_updL o 0 ((clashF x (nI w)).toInt64))) H := hP
  have hD : va_D A (wL g ad ao k x y q (vp_updL o 0 ((clashF x (nI w)).toInt64))) := hD
  refine lv_goto (tgt := 15) hx hb d_La_clash_9 (by decide) ?_
  refine lv_iconst (v := 0) hx hb d_La_clash_15 (by decide) ?_
  exact hret _ _ _ _ _ _ _ _ (Nat.zero_le _) (Nat.zero_le _) rfl rfl hP hD hS d_La_clash_16
set_option maxHeartbeats 4000000 in
set_option maxRecDepth 100000 in
theorem c_La_part_1 (l : Launch) (g : Glob) (hfl : l.flags = pinnedFlags ++ [noTraceFlag]) (ad : Nat → Nat) (ao : Nat) (k : CFG) (x y : RS) (q : PLS) (o : Nat → Int64) (p0 p1 p2 p3 : Int32) (hbad : ¬ (inI p0 0 3 = 1 ∧ inI p1 (-3) 3 = 1 ∧ inI p2 1 60 = 1)) : CJ l g y_La_part b_La_part 7 [(0, 14, 17, 13), (0, 14, 21, 15)] 9 187 [.ref (ad 0), .int p0, .int p1, .int p2, .int p3, .ref ao] (wL g ad ao k x y q o) (1) (wL g ad ao k x y q o) := by
  refine CJ.of (by decide +kernel) (Nat.le_of_ble_eq_true rfl) ?_
  intro p e s m below meth c A Q ls C htab hP hD hl hret hS
  obtain ⟨hx, hb, hml, hown, hw, hE, hA⟩ := id C
  have hl : lv_has ls 7 [(0, .ref (ad 0)), (1, .int p0), (2, .int p1), (3, .int p2), (4, .int p3), (5, .ref ao)] := hl
  refine lv_aload hx hb d_La_part_0 (lv_at hl 5 rfl) ?_
  refine lv_iconst (v := 0) hx hb d_La_part_2 (by decide) ?_
  refine lv_aload_n hx hb d_La_part_3 rfl (lv_at hl 0 rfl) ?_
  refine lv_iload_n hx hb d_La_part_4 rfl (lv_at hl 1 rfl) ?_
  refine lv_iload_n hx hb d_La_part_5 rfl (lv_at hl 2 rfl) ?_
  refine lv_iload_n hx hb d_La_part_6 rfl (lv_at hl 3 rfl) ?_
  refine lv_iload hx hb d_La_part_7 (lv_at hl 4 rfl) ?_
  refine xvTake C v_La_47 [.int p0, .int p1, .int p2, .int p3] [.int 0, .ref ao] (c_SP_part_1 l g hfl ad k x y q p0 p1 p2 p3 hbad) hP hD hS [0, 1, 2, 3, 4, 5, 6, 7, 8, 9, 10, 11, 12, 13, 14, 15, 16, 17, 18, 19, 20, 21, 22, 23, 24, 25, 26, 27, 28, 29, 30, 31, 32, 33, 34, 35, 36, 37, 38] rfl (by decide) 0 rfl rfl rfl rfl hl.1 (Nat.le_of_ble_eq_true rfl) ⟨Nat.le_of_ble_eq_true rfl, Nat.le_of_ble_eq_true rfl⟩ ⟨Nat.le_refl _, Nat.le_refl _⟩ d_La_part_9 17 (by rw [htab]; exact tk1 (by decide) (by decide) R_IA (hw _ q_238) rfl hE.2.2.2.2.2.1) (fun H q9 hP hS => ?_)
  refine lv_astore (lv' := [(6, .ref q9), (0, .ref (ad 0)), (1, .int p0), (2, .int p1), (3, .int p2), (4, .int p3), (5, .ref ao)]) hx hb d_La_part_17 hl (by decide) rfl (fun ls hl => ?_)
  refine lv_iconst (v := 1) hx hb d_La_part_19 (by decide) ?_
  exact hret _ _ _ _ _ _ _ _ (Nat.le_refl _) (Nat.le_refl _) rfl rfl hP hD hS d_La_part_20
set_option maxHeartbeats 4000000 in
set_option maxRecDepth 100000 in
theorem c_La_part_2 (l : Launch) (g : Glob) (hfl : l.flags = pinnedFlags ++ [noTraceFlag]) (ad : Nat → Nat) (ao : Nat) (k : CFG) (x y : RS) (q : PLS) (o : Nat → Int64) (pl : Nat) (hpl : pl < 4) (p1 p2 p3 : Int32) (v0 : inI (nI pl) 0 3 = 1) (v1 : inI p1 (-3) 3 = 1) (v2 : inI p2 1 60 = 1) (hfull : (q pl).2.2.2 = 6) : CJ l g y_La_part b_La_part 7 [(0, 14, 17, 13), (0, 14, 21, 15)] 9 187 [.ref (ad 0), .int (nI pl), .int p1, .int p2, .int p3, .ref ao] (wL g ad ao k x y q o) (2) (wL g ad ao k x y q o) := by
  refine CJ.of (by decide +kernel) (Nat.le_of_ble_eq_true rfl) ?_
  intro p e s m below meth c A Q ls C htab hP hD hl hret hS
  obtain ⟨hx, hb, hml, hown, hw, hE, hA⟩ := id C
  have hl : lv_has ls 7 [(0, .ref (ad 0)), (1, .int (nI pl)), (2, .int p1), (3, .int p2), (4, .int p3), (5, .ref ao)] := hl
  refine lv_aload hx hb d_La_part_0 (lv_at hl 5 rfl) ?_
  refine lv_iconst (v := 0) hx hb d_La_part_2 (by decide) ?_
  refine lv_aload_n hx hb d_La_part_3 rfl (lv_at hl 0 rfl) ?_
  refine lv_iload_n hx hb d_La_part_4 rfl (lv_at hl 1 rfl) ?_
  refine lv_iload_n hx hb d_La_part_5 rfl (lv_at hl 2 rfl) ?_
  refine lv_iload_n hx hb d_La_part_6 rfl (lv_at hl 3 rfl) ?_
  refine lv_iload hx hb d_La_part_7 (lv_at hl 4 rfl) ?_
  refine xvTake C v_La_47 [.int (nI pl), .int p1, .int p2, .int p3] [.int 0, .ref ao] (c_SP_part_2 l g hfl ad k x y q pl hpl p1 p2 p3 v0 v1 v2 hfull) hP hD hS [0, 1, 2, 3, 4, 5, 6, 7, 8, 9, 10, 11, 12, 13, 14, 15, 16, 17, 18, 19, 20, 21, 22, 23, 24, 25, 26, 27, 28, 29, 30, 31, 32, 33, 34, 35, 36, 37, 38] rfl (by decide) 0 rfl rfl rfl rfl hl.1 (Nat.le_of_ble_eq_true rfl) ⟨Nat.le_of_ble_eq_true rfl, Nat.le_of_ble_eq_true rfl⟩ ⟨Nat.le_refl _, Nat.le_refl _⟩ d_La_part_9 21 (by rw [htab]; exact tk2 (by decide) (by decide) R_IA (hw _ q_238) hE.2.2.2.2.2.2.2.1 (tk1 (by decide) (by decide) R_IS (hw _ q_239) rfl hE.2.2.2.2.2.2.1)) (fun H q9 hP hS => ?_)
  refine lv_astore (lv' := [(6, .ref q9), (0, .ref (ad 0)), (1, .int (nI pl)), (2, .int p1), (3, .int p2), (4, .int p3), (5, .ref ao)]) hx hb d_La_part_21 hl (by decide) rfl (fun ls hl => ?_)
  refine lv_iconst (v := 2) hx hb d_La_part_23 (by decide) ?_
  exact hret _ _ _ _ _ _ _ _ (Nat.le_refl _) (Nat.le_refl _) rfl rfl hP hD hS d_La_part_24
set_option maxHeartbeats 4000000 in
set_option maxRecDepth 100000 in
theorem c_La_part_0 (l : Launch) (g : Glob) (ad : Nat → Nat) (ao : Nat) (k : CFG) (x y : RS) (q : PLS) (o : Nat → Int64) (pl : Nat) (hpl : pl < 4) (p1 p2 p3 : Int32) (v0 : inI (nI pl) 0 3 = 1) (v1 : inI p1 (-3) 3 = 1) (v2 : inI p2 1 60 = 1) (n : Nat) (hn : (q pl).2.2.2 = nI n) (h6 : n < 6) (h01 : p3 = 0 ∨ p3 = 1) : CJ l g y_La_part b_La_part 7 [(0, 14, 17, 13), (0, 14, 21, 15)] 9 187 [.ref (ad 0), .int (nI pl), .int p1, .int p2, .int p3, .ref ao] (wL g ad ao k x y q o) (0) (wL g ad ao k x y (upQ q pl (addP (q pl) n p1 p2 p3)) (vp_updL o 0 (nI n + 1).toInt64)) := by
  refine CJ.of (by decide +kernel) (Nat.le_of_ble_eq_true rfl) ?_
  intro p e s m below meth c A Q ls C htab hP hD hl hret hS
  obtain ⟨hx, hb, hml, hown, hw, hE, hA⟩ := id C
  have hl : lv_has ls 7 [(0, .ref (ad 0)), (1, .int (nI pl)), (2, .int p1), (3, .int p2), (4, .int p3), (5, .ref ao)] := hl
  refine lv_aload hx hb d_La_part_0 (lv_at hl 5 rfl) ?_
  refine lv_iconst (v := 0) hx hb d_La_part_2 (by decide) ?_
  refine lv_aload_n hx hb d_La_part_3 rfl (lv_at hl 0 rfl) ?_
  refine lv_iload_n hx hb d_La_part_4 rfl (lv_at hl 1 rfl) ?_
  refine lv_iload_n hx hb d_La_part_5 rfl (lv_at hl 2 rfl) ?_
  refine lv_iload_n hx hb d_La_part_6 rfl (lv_at hl 3 rfl) ?_
  refine lv_iload hx hb d_La_part_7 (lv_at hl 4 rfl) ?_
  refine cvI C v_La_47 [.int (nI pl), .int p1, .int p2, .int p3] [.int 0, .ref ao] (c_SP_part_0 l g ad k x y q pl hpl p1 p2 p3 v0 v1 v2 n hn h6 h01) hP hD hS [0, 1, 2, 3, 4, 5, 6, 7, 8, 9, 10, 11, 12, 13, 14, 15, 16, 17, 18, 19, 20, 21, 22, 23, 24, 25, 26, 27, 28, 29, 30, 31, 32, 33, 34, 35, 36, 37, 38] [39] [1, 2, 3, 4, 5, 6, 7, 8, 9, 10, 11, 12, 13, 14, 15, 16, 17, 18, 19, 20, 21, 22, 23, 24, 25, 26, 27, 28, 29, 30, 31, 32, 33, 34, 35, 36, 37, 38, 39, 0] [(ao, .inl (g.2.1 1, 1, .inr (.inl o)))] (wL g ad ao k x y (upQ q pl (addP (q pl) n p1 p2 p3)) o) rfl rfl (by decide) (by decide) (by decide) rfl (by decide) 0 rfl rfl rfl rfl hl.1 (Nat.le_of_ble_eq_true rfl) ⟨Nat.le_of_ble_eq_true rfl, Nat.le_of_ble_eq_true rfl⟩ d_La_part_9 ⟨Nat.zero_le _, Nat.zero_le _⟩ (fun H locs hP hD hS => ?_)
  refine lv_i2l hx hb d_La_part_12 rfl ?_
  refine va_last hx hb hE.1 hP hD hS 39 1 rfl rfl (by unfold vp_in; decide) d_La_part_13 (fun H locs hP hD hS => ?_)
  have hP : va_P g.1 classes (wL g ad ao k x y (upQ q pl (addP (q pl) n p1 p2 p3)) (vp_updL o 0 ((nI n + 1).toInt64))) H := hP
  have hD : va_D A (wL g ad ao k x y (upQ q pl (addP (q pl) n p1 p2 p3)) (vp_updL o 0 ((nI n + 1).toInt64))) := hD
  refine lv_goto (tgt := 25) hx hb d_La_part_14 (by decide) ?_
  refine lv_iconst (v := 0) hx hb d_La_part_25 (by decide) ?_
  exact hret _ _ _ _ _ _ _ _ (Nat.zero_le _) (Nat.zero_le _) rfl rfl hP hD hS d_La_part_26
set_option maxHeartbeats 4000000 in
set_option maxRecDepth 100000 in
theorem c_La_clear_1 (l : Launch) (g : Glob) (hfl : l.flags = pinnedFlags ++ [noTraceFlag]) (ad : Nat → Nat) (ao : Nat) (k : CFG) (x y : RS) (q : PLS) (o : Nat → Int64) (p0 : Int32) (hbad : ¬ (inI p0 0 3 = 1)) : CJ l g y_La_clear b_La_clear 4 [(0, 9, 12, 13)] 9 184 [.ref (ad 0), .int p0, .ref ao] (wL g ad ao k x y q o) (1) (wL g ad ao k x y q o) := by
  refine CJ.of (by decide +kernel) (Nat.le_of_ble_eq_true rfl) ?_
  intro p e s m below meth c A Q ls C htab hP hD hl hret hS
  obtain ⟨hx, hb, hml, hown, hw, hE, hA⟩ := id C
  have hl : lv_has ls 4 [(0, .ref (ad 0)), (1, .int p0), (2, .ref ao)] := hl
  refine lv_aload_n hx hb d_La_clear_0 rfl (lv_at hl 2 rfl) ?_
  refine lv_iconst (v := 0) hx hb d_La_clear_1 (by decide) ?_
  refine lv_aload_n hx hb d_La_clear_2 rfl (lv_at hl 0 rfl) ?_
  refine lv_iload_n hx hb d_La_clear_3 rfl (lv_at hl 1 rfl) ?_
  refine xvTake C v_La_51 [.int p0] [.int 0, .ref ao] (c_SP_clear_1 l g hfl ad k x y q p0 hbad) hP hD hS [0, 1, 2, 3, 4, 5, 6, 7, 8, 9, 10, 11, 12, 13, 14, 15, 16, 17, 18, 19, 20, 21, 22, 23, 24, 25, 26, 27, 28, 29, 30, 31, 32, 33, 34, 35, 36, 37, 38] rfl (by decide) 0 rfl rfl rfl rfl hl.1 (Nat.le_of_ble_eq_true rfl) ⟨Nat.le_of_ble_eq_true rfl, Nat.le_of_ble_eq_true rfl⟩ ⟨Nat.le_refl _, Nat.le_refl _⟩ d_La_clear_4 12 (by rw [htab]; exact tk1 (by decide) (by decide) R_IA (hw _ q_238) rfl hE.2.2.2.2.2.1) (fun H q9 hP hS => ?_)
  refine lv_astore_n (lv' := [(3, .ref q9), (0, .ref (ad 0)), (1, .int p0), (2, .ref ao)]) hx hb d_La_clear_12 rfl hl (by decide) rfl (fun ls hl => ?_)
  refine lv_iconst (v := 1) hx hb d_La_clear_13 (by decide) ?_
  exact hret _ _ _ _ _ _ _ _ (Nat.le_refl _) (Nat.le_refl _) rfl rfl hP hD hS d_La_clear_14
set_option maxHeartbeats 4000000 in
set_option maxRecDepth 100000 in
theorem c_La_clear_0 (l : Launch) (g : Glob) (ad : Nat → Nat) (ao : Nat) (k : CFG) (x y : RS) (q : PLS) (o : Nat → Int64) (pl : Nat) (hpl : pl < 4) (v0 : inI (nI pl) 0 3 = 1) : CJ l g y_La_clear b_La_clear 4 [(0, 9, 12, 13)] 9 184 [.ref (ad 0), .int (nI pl), .ref ao] (wL g ad ao k x y q o) (0) (wL g ad ao k x y (upQ q pl (clrP (q pl))) (vp_updL o 0 ((q pl).2.2.2).toInt64)) := by
  refine CJ.of (by decide +kernel) (Nat.le_of_ble_eq_true rfl) ?_
  intro p e s m below meth c A Q ls C htab hP hD hl hret hS
  obtain ⟨hx, hb, hml, hown, hw, hE, hA⟩ := id C
  have hl : lv_has ls 4 [(0, .ref (ad 0)), (1, .int (nI pl)), (2, .ref ao)] := hl
  refine lv_aload_n hx hb d_La_clear_0 rfl (lv_at hl 2 rfl) ?_
  refine lv_iconst (v := 0) hx hb d_La_clear_1 (by decide) ?_
  refine lv_aload_n hx hb d_La_clear_2 rfl (lv_at hl 0 rfl) ?_
  refine lv_iload_n hx hb d_La_clear_3 rfl (lv_at hl 1 rfl) ?_
  refine cvI C v_La_51 [.int (nI pl)] [.int 0, .ref ao] (c_SP_clear_0 l g ad k x y q pl hpl v0) hP hD hS [0, 1, 2, 3, 4, 5, 6, 7, 8, 9, 10, 11, 12, 13, 14, 15, 16, 17, 18, 19, 20, 21, 22, 23, 24, 25, 26, 27, 28, 29, 30, 31, 32, 33, 34, 35, 36, 37, 38] [39] [1, 2, 3, 4, 5, 6, 7, 8, 9, 10, 11, 12, 13, 14, 15, 16, 17, 18, 19, 20, 21, 22, 23, 24, 25, 26, 27, 28, 29, 30, 31, 32, 33, 34, 35, 36, 37, 38, 39, 0] [(ao, .inl (g.2.1 1, 1, .inr (.inl o)))] (wL g ad ao k x y (upQ q pl (clrP (q pl))) o) rfl rfl (by decide) (by decide) (by decide) rfl (by decide) 0 rfl rfl rfl rfl hl.1 (Nat.le_of_ble_eq_true rfl) ⟨Nat.le_of_ble_eq_true rfl, Nat.le_of_ble_eq_true rfl⟩ d_La_clear_4 ⟨Nat.zero_le _, Nat.zero_le _⟩ (fun H locs hP hD hS => ?_)
  refine lv_i2l hx hb d_La_clear_7 rfl ?_
  refine va_last hx hb hE.1 hP hD hS 39 1 rfl rfl (by unfold vp_in; decide) d_La_clear_8 (fun H locs hP hD hS => ?_)
  have hP : va_P g.1 classes (wL g ad ao k x y (upQ q pl (clrP (q pl))) (vp_updL o 0 (((q pl).2.2.2).toInt64))) H := hP
  have hD : va_D A (wL g ad ao k x y (upQ q pl (clrP (q pl))) (vp_updL o 0 (((q pl).2.2.2).toInt64))) := hD
  refine lv_goto (tgt := 15) hx hb d_La_clear_9 (by decide) ?_
  refine lv_iconst (v := 0) hx hb d_La_clear_15 (by decide) ?_
  exact hret _ _ _ _ _ _ _ _ (Nat.zero_le _) (Nat.zero_le _) rfl rfl hP hD hS d_La_clear_16
set_option maxHeartbeats 4000000 in
set_option maxRecDepth 100000 in
theorem c_La_sweeps_1 (l : Launch) (g : Glob) (hfl : l.flags = pinnedFlags ++ [noTraceFlag]) (ad : Nat → Nat) (ao : Nat) (k : CFG) (x y : RS) (q : PLS) (o : Nat → Int64) (p0 : Int32) (hbad : ¬ (inI p0 0 3 = 1)) : CJ l g y_La_sweeps b_La_sweeps 4 [(0, 9, 12, 13), (0, 9, 15, 15)] 9 183 [.ref (ad 0), .int p0, .ref ao] (wL g ad ao k x y q o) (1) (wL g ad ao k x y q o) := by
  refine CJ.of (by decide +kernel) (Nat.le_of_ble_eq_true rfl) ?_
  intro p e s m below meth c A Q ls C htab hP hD hl hret hS
  obtain ⟨hx, hb, hml, hown, hw, hE, hA⟩ := id C
  have hl : lv_has ls 4 [(0, .ref (ad 0)), (1, .int p0), (2, .ref ao)] := hl
  refine lv_aload_n hx hb d_La_sweeps_0 rfl (lv_at hl 2 rfl) ?_
  refine lv_iconst (v := 0) hx hb d_La_sweeps_1 (by decide) ?_
  refine lv_aload_n hx hb d_La_sweeps_2 rfl (lv_at hl 0 rfl) ?_
  refine lv_iload_n hx hb d_La_sweeps_3 rfl (lv_at hl 1 rfl) ?_
  refine xvTake C v_La_58 [.int p0] [.int 0, .ref ao] (c_SP_sweeps_1 l g hfl ad k x y q p0 hbad) hP hD hS [0, 1, 2, 3, 4, 5, 6, 7, 8, 9, 10, 11, 12, 13, 14, 15, 16, 17, 18, 19, 20, 21, 22, 23, 24, 25, 26, 27, 28, 29, 30, 31, 32, 33, 34, 35, 36, 37, 38] rfl (by decide) 0 rfl rfl rfl rfl hl.1 (Nat.le_of_ble_eq_true rfl) ⟨Nat.le_of_ble_eq_true rfl, Nat.le_of_ble_eq_true rfl⟩ ⟨Nat.le_refl _, Nat.le_refl _⟩ d_La_sweeps_4 12 (by rw [htab]; exact tk1 (by decide) (by decide) R_IA (hw _ q_238) rfl hE.2.2.2.2.2.1) (fun H q9 hP hS => ?_)
  refine lv_astore_n (lv' := [(3, .ref q9), (0, .ref (ad 0)), (1, .int p0), (2, .ref ao)]) hx hb d_La_sweeps_12 rfl hl (by decide) rfl (fun ls hl => ?_)
  refine lv_iconst (v := 1) hx hb d_La_sweeps_13 (by decide) ?_
  exact hret _ _ _ _ _ _ _ _ (Nat.le_refl _) (Nat.le_refl _) rfl rfl hP hD hS d_La_sweeps_14
set_option maxHeartbeats 4000000 in
set_option maxRecDepth 100000 in
theorem c_La_sweeps_2 (l : Launch) (g : Glob) (hfl : l.flags = pinnedFlags ++ [noTraceFlag]) (ad : Nat → Nat) (ao : Nat) (k : CFG) (x y : RS) (q : PLS) (o : Nat → Int64) (p0 : Int32) (v0 : inI p0 0 3 = 1) (h0 : k.2.1 0 = 0) : CJ l g y_La_sweeps b_La_sweeps 4 [(0, 9, 12, 13), (0, 9, 15, 15)] 9 183 [.ref (ad 0), .int p0, .ref ao] (wL g ad ao k x y q o) (2) (wL g ad ao k x y q o) := by
  refine CJ.of (by decide +kernel) (Nat.le_of_ble_eq_true rfl) ?_
  intro p e s m below meth c A Q ls C htab hP hD hl hret hS
  obtain ⟨hx, hb, hml, hown, hw, hE, hA⟩ := id C
  have hl : lv_has ls 4 [(0, .ref (ad 0)), (1, .int p0), (2, .ref ao)] := hl
  refine lv_aload_n hx hb d_La_sweeps_0 rfl (lv_at hl 2 rfl) ?_
  refine lv_iconst (v := 0) hx hb d_La_sweeps_1 (by decide) ?_
  refine lv_aload_n hx hb d_La_sweeps_2 rfl (lv_at hl 0 rfl) ?_
  refine lv_iload_n hx hb d_La_sweeps_3 rfl (lv_at hl 1 rfl) ?_
  refine xvTake C v_La_58 [.int p0] [.int 0, .ref ao] (c_SP_sweeps_2 l g hfl ad k x y q p0 v0 h0) hP hD hS [0, 1, 2, 3, 4, 5, 6, 7, 8, 9, 10, 11, 12, 13, 14, 15, 16, 17, 18, 19, 20, 21, 22, 23, 24, 25, 26, 27, 28, 29, 30, 31, 32, 33, 34, 35, 36, 37, 38] rfl (by decide) 0 rfl rfl rfl rfl hl.1 (Nat.le_of_ble_eq_true rfl) ⟨Nat.le_of_ble_eq_true rfl, Nat.le_of_ble_eq_true rfl⟩ ⟨Nat.le_refl _, Nat.le_refl _⟩ d_La_sweeps_4 15 (by rw [htab]; exact tk2 (by decide) (by decide) R_IA (hw _ q_238) hE.2.2.2.2.2.2.2.1 (tk1 (by decide) (by decide) R_IS (hw _ q_239) rfl hE.2.2.2.2.2.2.1)) (fun H q9 hP hS => ?_)
  refine lv_astore_n (lv' := [(3, .ref q9), (0, .ref (ad 0)), (1, .int p0), (2, .ref ao)]) hx hb d_La_sweeps_15 rfl hl (by decide) rfl (fun ls hl => ?_)
  refine lv_iconst (v := 2) hx hb d_La_sweeps_16 (by decide) ?_
  exact hret _ _ _ _ _ _ _ _ (Nat.le_refl _) (Nat.le_refl _) rfl rfl hP hD hS d_La_sweeps_17
set_option maxHeartbeats 4000000 in
set_option maxRecDepth 100000 in
theorem c_La_sweeps_0 (l : Launch) (g : Glob) (ad : Nat → Nat) (ao : Nat) (k : CFG) (x y : RS) (q : PLS) (o : Nat → Int64) (n : Nat) (hn : k.2.1 0 = nI n) (h3 : n ≤ 3) (np : Nat) (hp : k.2.1 1 = nI np) (h20 : np ≤ 20) (pl : Nat) (hpl : pl < 4) (v0 : inI (nI pl) 0 3 = 1) (h0 : ¬ k.2.1 0 = 0) (mm : Nat) (hm : (q pl).2.2.2 = nI mm) (h6 : mm ≤ 6) (hst : ∀ i, i < mm → (¬ (q pl).2.1 i < 0) ∧ ((q pl).2.1 i).toNatClampNeg ≤ 1000000) : CJ l g y_La_sweeps b_La_sweeps 4 [(0, 9, 12, 13), (0, 9, 15, 15)] 9 183 [.ref (ad 0), .int (nI pl), .ref ao] (wL g ad ao k x y q o) (0) (wL g ad ao k x (followF k n np (q pl) mm y) q (vp_updL o 0 ((followF k n np (q pl) mm y).2.2.1).toInt64)) := by
  refine CJ.of (by decide +kernel) (Nat.le_of_ble_eq_true rfl) ?_
  intro p e s m below meth c A Q ls C htab hP hD hl hret hS
  obtain ⟨hx, hb, hml, hown, hw, hE, hA⟩ := id C
  have hl : lv_has ls 4 [(0, .ref (ad 0)), (1, .int (nI pl)), (2, .ref ao)] := hl
  refine lv_aload_n hx hb d_La_sweeps_0 rfl (lv_at hl 2 rfl) ?_
  refine lv_iconst (v := 0) hx hb d_La_sweeps_1 (by decide) ?_
  refine lv_aload_n hx hb d_La_sweeps_2 rfl (lv_at hl 0 rfl) ?_
  refine lv_iload_n hx hb d_La_sweeps_3 rfl (lv_at hl 1 rfl) ?_
  refine cvI C v_La_58 [.int (nI pl)] [.int 0, .ref ao] (c_SP_sweeps_0 l g ad k x y q n hn h3 np hp h20 pl hpl v0 h0 mm hm h6 hst) hP hD hS [0, 1, 2, 3, 4, 5, 6, 7, 8, 9, 10, 11, 12, 13, 14, 15, 16, 17, 18, 19, 20, 21, 22, 23, 24, 25, 26, 27, 28, 29, 30, 31, 32, 33, 34, 35, 36, 37, 38] [39] [1, 2, 3, 4, 5, 6, 7, 8, 9, 10, 11, 12, 13, 14, 15, 16, 17, 18, 19, 20, 21, 22, 23, 24, 25, 26, 27, 28, 29, 30, 31, 32, 33, 34, 35, 36, 37, 38, 39, 0] [(ao, .inl (g.2.1 1, 1, .inr (.inl o)))] (wL g ad ao k x (followF k n np (q pl) mm y) q o) rfl rfl (by decide) (by decide) (by decide) rfl (by decide) 0 rfl rfl rfl rfl hl.1 (Nat.le_of_ble_eq_true rfl) ⟨Nat.le_of_ble_eq_true rfl, Nat.le_of_ble_eq_true rfl⟩ d_La_sweeps_4 ⟨Nat.zero_le _, Nat.zero_le _⟩ (fun H locs hP hD hS => ?_)
  refine lv_i2l hx hb d_La_sweeps_7 rfl ?_
  refine va_last hx hb hE.1 hP hD hS 39 1 rfl rfl (by unfold vp_in; decide) d_La_sweeps_8 (fun H locs hP hD hS => ?_)
  have hP : va_P g.1 classes (wL g ad ao k x (followF k n np (q pl) mm y) q (vp_updL o 0 (((followF k n np (q pl) mm y).2.2.1).toInt64))) H := hP
  have hD : va_D A (wL g ad ao k x (followF k n np (q pl) mm y) q (vp_updL o 0 (((followF k n np (q pl) mm y).2.2.1).toInt64))) := hD
  refine lv_goto (tgt := 18) hx hb d_La_sweeps_9 (by decide) ?_
  refine lv_iconst (v := 0) hx hb d_La_sweeps_18 (by decide) ?_
  exact hret _ _ _ _ _ _ _ _ (Nat.zero_le _) (Nat.zero_le _) rfl rfl hP hD hS d_La_sweeps_19
set_option maxHeartbeats 4000000 in
set_option maxRecDepth 100000 in
theorem c_La_best_2 (l : Launch) (g : Glob) (hfl : l.flags = pinnedFlags ++ [noTraceFlag]) (ad : Nat → Nat) (ao : Nat) (k : CFG) (x y : RS) (q : PLS) (o : Nat → Int64) (h0 : k.2.1 0 = 0) : CJ l g y_La_best b_La_best 3 [(0, 8, 11, 15)] 9 183 [.ref (ad 0), .ref ao] (wL g ad ao k x y q o) (1) (wL g ad ao k x y q o) := by
  refine CJ.of (by decide +kernel) (Nat.le_of_ble_eq_true rfl) ?_
  intro p e s m below meth c A Q ls C htab hP hD hl hret hS
  obtain ⟨hx, hb, hml, hown, hw, hE, hA⟩ := id C
  have hl : lv_has ls 3 [(0, .ref (ad 0)), (1, .ref ao)] := hl
  refine lv_aload_n hx hb d_La_best_0 rfl (lv_at hl 1 rfl) ?_
  refine lv_iconst (v := 0) hx hb d_La_best_1 (by decide) ?_
  refine lv_aload_n hx hb d_La_best_2 rfl (lv_at hl 0 rfl) ?_
  refine xvTake C v_La_54 [] [.int 0, .ref ao] (c_SP_best_1 l g hfl ad k x y q h0) hP hD hS [0, 1, 2, 3, 4, 5, 6, 7, 8, 9, 10, 11, 12, 13, 14, 15, 16, 17, 18, 19, 20, 21, 22, 23, 24, 25, 26, 27, 28, 29, 30, 31, 32, 33, 34, 35, 36, 37, 38] rfl (by decide) 0 rfl rfl rfl rfl hl.1 (Nat.le_of_ble_eq_true rfl) ⟨Nat.le_of_ble_eq_true rfl, Nat.le_of_ble_eq_true rfl⟩ ⟨Nat.le_refl _, Nat.le_refl _⟩ d_La_best_3 11 (by rw [htab]; exact tk1 (by decide) (by decide) R_IS (hw _ q_239) rfl hE.2.2.2.2.2.2.1) (fun H q9 hP hS => ?_)
  refine lv_astore_n (lv' := [(2, .ref q9), (0, .ref (ad 0)), (1, .ref ao)]) hx hb d_La_best_11 rfl hl (by decide) rfl (fun ls hl => ?_)
  refine lv_iconst (v := 1) hx hb d_La_best_12 (by decide) ?_
  exact hret _ _ _ _ _ _ _ _ (Nat.le_refl _) (Nat.le_refl _) rfl rfl hP hD hS d_La_best_13
set_option maxHeartbeats 4000000 in
set_option maxRecDepth 100000 in
theorem c_La_best_0 (l : Launch) (g : Glob) (ad : Nat → Nat) (ao : Nat) (k : CFG) (x y : RS) (q : PLS) (o : Nat → Int64) (n : Nat) (hn : k.2.1 0 = nI n) (h3 : n ≤ 3) (np : Nat) (hp : k.2.1 1 = nI np) (h20 : np ≤ 20) (mm : Nat → Nat) (hmm : ∀ p, p < 4 → (q p).2.2.2 = nI (mm p) ∧ mm p ≤ 6 ∧ ∀ i, i < mm p → (¬ (q p).2.1 i < 0) ∧ ((q p).2.1 i).toNatClampNeg ≤ 1000000) (h0 : ¬ k.2.1 0 = 0) : CJ l g y_La_best b_La_best 3 [(0, 8, 11, 15)] 9 183 [.ref (ad 0), .ref ao] (wL g ad ao k x y q o) (0) (wL g ad ao k x ((bestF k n np q mm y).2.2) q (vp_updL o 0 ((bestF k n np q mm y).1).toInt64)) := by
  refine CJ.of (by decide +kernel) (Nat.le_of_ble_eq_true rfl) ?_
  intro p e s m below meth c A Q ls C htab hP hD hl hret hS
  obtain ⟨hx, hb, hml, hown, hw, hE, hA⟩ := id C
  have hl : lv_has ls 3 [(0, .ref (ad 0)), (1, .ref ao)] := hl
  refine lv_aload_n hx hb d_La_best_0 rfl (lv_at hl 1 rfl) ?_
  refine lv_iconst (v := 0) hx hb d_La_best_1 (by decide) ?_
  refine lv_aload_n hx hb d_La_best_2 rfl (lv_at hl 0 rfl) ?_
  refine cvI C v_La_54 [] [.int 0, .ref ao] (c_SP_best_0 l g ad k x y q n hn h3 np hp h20 mm hmm h0) hP hD hS [0, 1, 2, 3, 4, 5, 6, 7, 8, 9, 10, 11, 12, 13, 14, 15, 16, 17, 18, 19, 20, 21, 22, 23, 24, 25, 26, 27, 28, 29, 30, 31, 32, 33, 34, 35, 36, 37, 38] [39] [1, 2, 3, 4, 5, 6, 7, 8, 9, 10, 11, 12, 13, 14, 15, 16, 17, 18, 19, 20, 21, 22, 23, 24, 25, 26, 27, 28, 29, 30, 31, 32, 33, 34, 35, 36, 37, 38, 39, 0] [(ao, .inl (g.2.1 1, 1, .inr (.inl o)))] (wL g ad ao k x ((bestF k n np q mm y).2.2) q o) rfl rfl (by decide) (by decide) (by decide) rfl (by decide) 0 rfl rfl rfl rfl hl.1 (Nat.le_of_ble_eq_true rfl) ⟨Nat.le_of_ble_eq_true rfl, Nat.le_of_ble_eq_true rfl⟩ d_La_best_3 ⟨Nat.zero_le _, Nat.zero_le _⟩ (fun H locs hP hD hS => ?_)
  refine lv_i2l hx hb d_La_best_6 rfl ?_
  refine va_last hx hb hE.1 hP hD hS 39 1 rfl rfl (by unfold vp_in; decide) d_La_best_7 (fun H locs hP hD hS => ?_)
  have hP : va_P g.1 classes (wL g ad ao k x ((bestF k n np q mm y).2.2) q (vp_updL o 0 (((bestF k n np q mm y).1).toInt64))) H := hP
  have hD : va_D A (wL g ad ao k x ((bestF k n np q mm y).2.2) q (vp_updL o 0 (((bestF k n np q mm y).1).toInt64))) := hD
  refine lv_goto (tgt := 14) hx hb d_La_best_8 (by decide) ?_
  refine lv_iconst (v := 0) hx hb d_La_best_14 (by decide) ?_
  exact hret _ _ _ _ _ _ _ _ (Nat.zero_le _) (Nat.zero_le _) rfl rfl hP hD hS d_La_best_15
set_option maxHeartbeats 4000000 in
set_option maxRecDepth 100000 in
theorem c_La_cell_1 (l : Launch) (g : Glob) (hfl : l.flags = pinnedFlags ++ [noTraceFlag]) (ad : Nat → Nat) (ao : Nat) (k : CFG) (x y : RS) (q : PLS) (o : Nat → Int64) (p0 p1 : Int32) (hbad : ¬ (inI p0 (-32) 31 = 1 ∧ inI p1 (-32) 31 = 1)) : CJ l g y_La_cell_LPIIaJ b_La_cell_LPIIaJ 5 [(0, 17, 20, 13)] 9 184 [.ref (ad 0), .int p0, .int p1, .ref ao] (wL g ad ao k x y q o) (1) (wL g ad ao k x y q o) := by
  refine CJ.of (by decide +kernel) (Nat.le_of_ble_eq_true rfl) ?_
  intro p e s m below meth c A Q ls C htab hP hD hl hret hS
  obtain ⟨hx, hb, hml, hown, hw, hE, hA⟩ := id C
  have hl : lv_has ls 5 [(0, .ref (ad 0)), (1, .int p0), (2, .int p1), (3, .ref ao)] := hl
  refine lv_aload_n hx hb d_La_cell_LPIIaJ_0 rfl (lv_at hl 3 rfl) ?_
  refine lv_iconst (v := 0) hx hb d_La_cell_LPIIaJ_1 (by decide) ?_
  refine lv_aload_n hx hb d_La_cell_LPIIaJ_2 rfl (lv_at hl 0 rfl) ?_
  refine lv_iload_n hx hb d_La_cell_LPIIaJ_3 rfl (lv_at hl 1 rfl) ?_
  refine lv_iload_n hx hb d_La_cell_LPIIaJ_4 rfl (lv_at hl 2 rfl) ?_
  refine xvTake C v_La_40 [.int p0, .int p1] [.int 0, .ref ao] (c_SP_cell_1 l g hfl ad k x y q p0 p1 hbad) hP hD hS [0, 1, 2, 3, 4, 5, 6, 7, 8, 9, 10, 11, 12, 13, 14, 15, 16, 17, 18, 19, 20, 21, 22, 23, 24, 25, 26, 27, 28, 29, 30, 31, 32, 33, 34, 35, 36, 37, 38] rfl (by decide) 0 rfl rfl rfl rfl hl.1 (Nat.le_of_ble_eq_true rfl) ⟨Nat.le_of_ble_eq_true rfl, Nat.le_of_ble_eq_true rfl⟩ ⟨Nat.le_refl _, Nat.le_refl _⟩ d_La_cell_LPIIaJ_5 20 (by rw [htab]; exact tk1 (by decide) (by decide) R_IA (hw _ q_238) rfl hE.2.2.2.2.2.1) (fun H q9 hP hS => ?_)
  refine lv_astore (lv' := [(4, .ref q9), (0, .ref (ad 0)), (1, .int p0), (2, .int p1), (3, .ref ao)]) hx hb d_La_cell_LPIIaJ_20 hl (by decide) rfl (fun ls hl => ?_)
  refine lv_iconst (v := 1) hx hb d_La_cell_LPIIaJ_22 (by decide) ?_
  exact hret _ _ _ _ _ _ _ _ (Nat.le_refl _) (Nat.le_refl _) rfl rfl hP hD hS d_La_cell_LPIIaJ_23
set_option maxHeartbeats 4000000 in
set_option maxRecDepth 100000 in
theorem c_La_cell_0 (l : Launch) (g : Glob) (ad : Nat → Nat) (ao : Nat) (k : CFG) (x y : RS) (q : PLS) (o : Nat → Int64) (p0 p1 : Int32) (v0 : inI p0 (-32) 31 = 1) (v1 : inI p1 (-32) 31 = 1) : CJ l g y_La_cell_LPIIaJ b_La_cell_LPIIaJ 5 [(0, 17, 20, 13)] 9 184 [.ref (ad 0), .int p0, .int p1, .ref ao] (wL g ad ao k x y q o) (0) (wL g ad ao k x y q (vp_updL o 0 (if hasI x.2.2.2 p0 p1 = 0 then 0 else 1))) := by
  refine CJ.of (by decide +kernel) (Nat.le_of_ble_eq_true rfl) ?_
  intro p e s m below meth c A Q ls C htab hP hD hl hret hS
  obtain ⟨hx, hb, hml, hown, hw, hE, hA⟩ := id C
  have hl : lv_has ls 5 [(0, .ref (ad 0)), (1, .int p0), (2, .int p1), (3, .ref ao)] := hl
  refine lv_aload_n hx hb d_La_cell_LPIIaJ_0 rfl (lv_at hl 3 rfl) ?_
  refine lv_iconst (v := 0) hx hb d_La_cell_LPIIaJ_1 (by decide) ?_
  refine lv_aload_n hx hb d_La_cell_LPIIaJ_2 rfl (lv_at hl 0 rfl) ?_
  refine lv_iload_n hx hb d_La_cell_LPIIaJ_3 rfl (lv_at hl 1 rfl) ?_
  refine lv_iload_n hx hb d_La_cell_LPIIaJ_4 rfl (lv_at hl 2 rfl) ?_
  refine cvI C v_La_40 [.int p0, .int p1] [.int 0, .ref ao] (c_SP_cell_0 l g ad k x y q p0 p1 v0 v1) hP hD hS [0, 1, 2, 3, 4, 5, 6, 7, 8, 9, 10, 11, 12, 13, 14, 15, 16, 17, 18, 19, 20, 21, 22, 23, 24, 25, 26, 27, 28, 29, 30, 31, 32, 33, 34, 35, 36, 37, 38] [39] [1, 2, 3, 4, 5, 6, 7, 8, 9, 10, 11, 12, 13, 14, 15, 16, 17, 18, 19, 20, 21, 22, 23, 24, 25, 26, 27, 28, 29, 30, 31, 32, 33, 34, 35, 36, 37, 38, 39, 0] [(ao, .inl (g.2.1 1, 1, .inr (.inl o)))] (wL g ad ao k x y q o) rfl rfl (by decide) (by decide) (by decide) rfl (by decide) 0 rfl rfl rfl rfl hl.1 (Nat.le_of_ble_eq_true rfl) ⟨Nat.le_of_ble_eq_true rfl, Nat.le_of_ble_eq_true rfl⟩ d_La_cell_LPIIaJ_5 ⟨Nat.zero_le _, Nat.zero_le _⟩ (fun H locs hP hD hS => ?_)
  refine lv_if_eq (tgt := 15) hx hb d_La_cell_LPIIaJ_8 (by decide) (fun c8_1 => ?_) (fun c8_1 => ?_)
  · refine lv_lconst (v := 0) hx hb d_La_cell_LPIIaJ_15 (by decide) ?_
    refine va_last hx hb hE.1 hP hD hS 39 1 rfl rfl (by unfold vp_in; decide) d_La_cell_LPIIaJ_16 (fun H locs hP hD hS => ?_)
    have hP : va_P g.1 classes (wL g ad ao k x y q (vp_updL o 0 0)) H := hP
    have hD : va_D A (wL g ad ao k x y q (vp_updL o 0 0)) := hD
    refine lv_goto (tgt := 24) hx hb d_La_cell_LPIIaJ_17 (by decide) ?_
    refine lv_iconst (v := 0) hx hb d_La_cell_LPIIaJ_24 (by decide) ?_
    exact hret _ _ _ _ _ _ _ _ (Nat.zero_le _) (Nat.zero_le _) rfl (congrArg (fun z => wL g ad ao k x y q (vp_updL o 0 z)) (if_pos c8_1).symm) hP hD hS d_La_cell_LPIIaJ_25
  · refine lv_lconst (v := 1) hx hb d_La_cell_LPIIaJ_11 (by decide) ?_
    refine lv_goto (tgt := 16) hx hb d_La_cell_LPIIaJ_12 (by decide) ?_
    refine va_last hx hb hE.1 hP hD hS 39 1 rfl rfl (by unfold vp_in; decide) d_La_cell_LPIIaJ_16 (fun H locs hP hD hS => ?_)
    have hP : va_P g.1 classes (wL g ad ao k x y q (vp_updL o 0 1)) H := hP
    have hD : va_D A (wL g ad ao k x y q (vp_updL o 0 1)) := hD
    refine lv_goto (tgt := 24) hx hb d_La_cell_LPIIaJ_17 (by decide) ?_
    refine lv_iconst (v := 0) hx hb d_La_cell_LPIIaJ_24 (by decide) ?_
    exact hret _ _ _ _ _ _ _ _ (Nat.zero_le _) (Nat.zero_le _) rfl (congrArg (fun z => wL g ad ao k x y q (vp_updL o 0 z)) (if_neg c8_1).symm) hP hD hS d_La_cell_LPIIaJ_25
