/-- the law's world: the class, the reference, the array for answers -/
def wA (g : Glob) (ad ad2 : Nat → Nat) (ao : Nat) (k : CFG) (x y : RS) (q : PLS) (M : MS) (o : Nat → Int64) : va_W := wS g ad k x y q ++ (wM g ad2 M ++ [qLongs ao (g.2.1 1) 1 o])
theorem thr1 {M : MS} {v : Int32} : (upd M.1 0 v, M.2).1 0 = v := pk_us (f := M.1) (k := 0) (x := v)
theorem ix1 {t : Nat} : nI (6 * t) + 1 = nI (6 * t + 1) := nI_add (6 * t) 1
theorem ix2 {t : Nat} : nI (6 * t) + 2 = nI (6 * t + 2) := nI_add (6 * t) 2
theorem ix3 {t : Nat} : nI (6 * t) + 3 = nI (6 * t + 3) := nI_add (6 * t) 3
theorem ix4 {t : Nat} : nI (6 * t) + 4 = nI (6 * t + 4) := nI_add (6 * t) 4
theorem ix5 {t : Nat} : nI (6 * t) + 5 = nI (6 * t + 5) := nI_add (6 * t) 5
theorem ix6 {t : Nat} : nI (6 * t) + 6 = nI (6 * (t + 1)) := nI_add (6 * t) 6
theorem in200 {a : Int32} (v : inI a 1 200 = 1) : ∃ N : Nat, N ≤ 1000000 ∧ a = nI N := by
  obtain ⟨h1, h2⟩ := inI_b v
  have e1 : (1 : Int32).toInt = 1 := rfl
  have e2 : (200 : Int32).toInt = 200 := rfl
  obtain ⟨j, hj, e⟩ := in_nI (a := a) (M := 201) (by omega) (by omega) (by decide)
  exact ⟨j, by omega, e⟩
theorem in03 {a : Int32} (v : inI a 0 3 = 1) : ∃ j : Nat, j < 4 ∧ a = nI j := by
  obtain ⟨h1, h2⟩ := inI_b v
  have e1 : (0 : Int32).toInt = 0 := rfl
  have e2 : (3 : Int32).toInt = 3 := rfl
  exact in_nI (by omega) (by omega) (by decide)
theorem in04 {a : Int32} (v : inI a 0 4 = 1) : ∃ j : Nat, j < 5 ∧ a = nI j := by
  obtain ⟨h1, h2⟩ := inI_b v
  have e1 : (0 : Int32).toInt = 0 := rfl
  have e2 : (4 : Int32).toInt = 4 := rfl
  exact in_nI (by omega) (by omega) (by decide)
theorem in02 {a : Int32} (v : inI a 0 2 = 1) : ∃ j : Nat, j < 3 ∧ a = nI j := by
  obtain ⟨h1, h2⟩ := inI_b v
  have e1 : (0 : Int32).toInt = 0 := rfl
  have e2 : (2 : Int32).toInt = 2 := rfl
  exact in_nI (by omega) (by omega) (by decide)
theorem in0n {a d : Int32} {n : Nat} (hn : n ≤ 3) (e : d = nI n) (v : inI a 0 (d - 1) = 1) : ∃ j : Nat, j < n ∧ a = nI j := by
  subst e
  obtain ⟨h1, h2⟩ := inI_b v
  have e1 : (0 : Int32).toInt = 0 := rfl
  have e2 : (nI n - 1).toInt = (n : Int) - 1 := by
    rcases (show n = 0 ∨ n = 1 ∨ n = 2 ∨ n = 3 by omega) with rfl | rfl | rfl | rfl <;> rfl
  exact in_nI (by omega) (by omega) (by omega)

set_option maxHeartbeats 4000000 in
set_option maxRecDepth 100000 in
theorem law_body {l : Launch} {g : Glob} {p : Program} {e : Env} {s : State} {m : MethodId} {below : List Frame} {meth : Method} {c : Code} {A : Nat → Prop} {Q : State → Prop} {b L : Nat} {xs : Nat → Int32} (hfl : l.flags = pinnedFlags ++ [noTraceFlag]) (C : Cx g R_law b_La_law 7 A p s m #[Value.ref b] c) (hX : va_X b L xs s s.heap) (hbl : b < s.heap.size) (hbA : ¬ A b) {ad ad2 : Nat → Nat} {ao t : Nat} (hL : L ≤ 3072) (ht : 6 * t + 6 ≤ L) {k : CFG} {x y : RS} {q : PLS} {M : MS} {o : Nat → Int64} {n np : Nat} {mm : Nat → Nat} (h : Rel k x y q M n np mm) {H : Heap} {locs : List Loc} {ls : Array Slot} (hP : va_P g.1 classes (wA g ad ad2 ao k x y q M o) H) (hD : va_D A (wA g ad ad2 ao k x y q M o)) (hS : va_S A s.heap H locs) (hl : lv_has ls 7 [(4, .int (nI (6 * t))), (0, .ref b), (1, .ref (ad 0)), (2, .ref (ad2 0)), (3, .ref ao)]) (a1 a2 a3 a4 a5 : Int32) (e1 : xs (6 * t + 1) = a1) (e2 : xs (6 * t + 2) = a2) (e3 : xs (6 * t + 3) = a3) (e4 : xs (6 * t + 4) = a4) (e5 : xs (6 * t + 5) = a5)
    (hk : ∀ (k : CFG) (x y : RS) (q : PLS) (M : MS) (o : Nat → Int64) (n np : Nat) (mm : Nat → Nat) (H : Heap) (locs : List Loc) (ls : Array Slot), Rel k x y q M n np mm → va_P g.1 classes (wA g ad ad2 ao k x y q M o) H → va_D A (wA g ad ad2 ao k x y q M o) → va_S A s.heap H locs → lv_has ls 7 [(4, .int (nI (6 * t))), (0, .ref b), (1, .ref (ad 0)), (2, .ref (ad2 0)), (3, .ref ao)] → W p l e room_1 s m #[Value.ref b] below meth c H locs (61 + t + 1) (8756 + 6 * t + 6) Q (F0 m 1069 ls [])) :
    W p l e room_1 s m #[Value.ref b] below meth c H locs (61 + t) (8756 + 6 * t) Q (F0 m 116 ls []) := by
  obtain ⟨hx, hb, hml, hown, hw, hE, hA⟩ := id C
  refine lv_aload_n hx hb d_La_law_116 rfl (lv_at hl 2 rfl) ?_
  refine lv_aload_n hx hb d_La_law_117 rfl (lv_at hl 1 rfl) ?_
  refine lv_iload hx hb d_La_law_118 (lv_at hl 0 rfl) ?_
  refine lv_iconst (v := 1) hx hb d_La_law_120 (by decide) ?_
  refine lv_iadd hx hb d_La_law_121 ?_
  rw [ix1]
  refine va_sld hx hb hX hbl hbA hS (vp_in_nI (show 6 * t + 1 < L by omega) (by omega)) d_La_law_122 ?_
  rw [nI_clamp (show 6 * t + 1 < 2 ^ 31 by omega), e1]
  refine lv_aload_n hx hb d_La_law_123 rfl (lv_at hl 1 rfl) ?_
  refine lv_iload hx hb d_La_law_124 (lv_at hl 0 rfl) ?_
  refine lv_iconst (v := 2) hx hb d_La_law_126 (by decide) ?_
  refine lv_iadd hx hb d_La_law_127 ?_
  rw [ix2]
  refine va_sld hx hb hX hbl hbA hS (vp_in_nI (show 6 * t + 2 < L by omega) (by omega)) d_La_law_128 ?_
  rw [nI_clamp (show 6 * t + 2 < 2 ^ 31 by omega), e2]
  refine lv_aload_n hx hb d_La_law_129 rfl (lv_at hl 1 rfl) ?_
  refine lv_iload hx hb d_La_law_130 (lv_at hl 0 rfl) ?_
  refine lv_iconst (v := 3) hx hb d_La_law_132 (by decide) ?_
  refine lv_iadd hx hb d_La_law_133 ?_
  rw [ix3]
  refine va_sld hx hb hX hbl hbA hS (vp_in_nI (show 6 * t + 3 < L by omega) (by omega)) d_La_law_134 ?_
  rw [nI_clamp (show 6 * t + 3 < 2 ^ 31 by omega), e3]
  refine lv_aload_n hx hb d_La_law_135 rfl (lv_at hl 1 rfl) ?_
  refine lv_iload hx hb d_La_law_136 (lv_at hl 0 rfl) ?_
  refine lv_iconst (v := 4) hx hb d_La_law_138 (by decide) ?_
  refine lv_iadd hx hb d_La_law_139 ?_
  rw [ix4]
  refine va_sld hx hb hX hbl hbA hS (vp_in_nI (show 6 * t + 4 < L by omega) (by omega)) d_La_law_140 ?_
  rw [nI_clamp (show 6 * t + 4 < 2 ^ 31 by omega), e4]
  refine lv_aload_n hx hb d_La_law_141 rfl (lv_at hl 1 rfl) ?_
  refine lv_iload hx hb d_La_law_142 (lv_at hl 0 rfl) ?_
  refine lv_iconst (v := 5) hx hb d_La_law_144 (by decide) ?_
  refine lv_iadd hx hb d_La_law_145 ?_
  rw [ix5]
  refine va_sld hx hb hX hbl hbA hS (vp_in_nI (show 6 * t + 5 < L by omega) (by omega)) d_La_law_146 ?_
  rw [nI_clamp (show 6 * t + 5 < 2 ^ 31 by omega), e5]
  refine lv_aload_n hx hb d_La_law_147 rfl (lv_at hl 4 rfl) ?_
  by_cases v : (inI a1 1 200 = 1 ∧ inI a2 0 200 = 1 ∧ inI a3 0 60 = 1 ∧ inI a4 0 60 = 1 ∧ inI a5 1 20 = 1)
  · obtain ⟨v0, v1, v2, v3, v4⟩ := v
    by_cases hf : n = 3
    · have hkf : k.2.1 0 = 3 := by rw [h.kn, hf]; rfl
      have hmf : M.1 2 = 3 := by rw [h.mn, hf]; rfl
      refine ckJ C v_La_65 [.ref (ad 0), .int a1, .int a2, .int a3, .int a4, .int a5, .ref ao] [] (c_La_body_2 l g hfl ad ao k x y q o a1 a2 a3 a4 a5 v0 v1 v2 v3 v4 hkf) hP hD hS [0, 1, 2, 3, 4, 5, 6, 7, 8, 9, 10, 11, 12, 13, 14, 15, 16, 17, 18, 19, 20, 21, 22, 23, 24, 25, 26, 27, 28, 29, 30, 31, 32, 33, 34, 35, 36, 37, 38, 60] [39, 40, 41, 42, 43, 44, 45, 46, 47, 48, 49, 50, 51, 52, 53, 54, 55, 56, 57, 58, 59] [21, 22, 23, 24, 25, 26, 27, 28, 29, 30, 31, 32, 33, 34, 35, 36, 37, 38, 39, 40, 41, 42, 43, 44, 45, 46, 47, 48, 49, 50, 51, 52, 53, 54, 55, 56, 57, 58, 59, 0, 1, 2, 3, 4, 5, 6, 7, 8, 9, 10, 11, 12, 13, 14, 15, 16, 17, 18, 19, 20, 60] (wM g ad2 M) (wA g ad ad2 ao k x y q M o) rfl rfl (by decide) (by decide) (by decide) rfl (by decide) rfl rfl hl.1 (Nat.le_of_ble_eq_true rfl) ⟨Nat.le_of_ble_eq_true rfl, Nat.le_of_ble_eq_true rfl⟩ d_La_law_148 ⟨by show 61 + t + 1 ≤ 601024; omega, by show 8756 + 6 * t + 6 ≤ 7293034; omega⟩ (fun H locs hP hD hS => ?_)
      refine lv_istore (lv' := [(5, .int 2), (4, .int (nI (6 * t))), (0, .ref b), (1, .ref (ad 0)), (2, .ref (ad2 0)), (3, .ref ao)]) hx hb d_La_law_151 hl (by decide) rfl (fun ls hl => ?_)
      refine lv_aload_n hx hb d_La_law_153 rfl (lv_at hl 4 rfl) ?_
      refine lv_aload_n hx hb d_La_law_154 rfl (lv_at hl 2 rfl) ?_
      refine lv_iload hx hb d_La_law_155 (lv_at hl 1 rfl) ?_
      refine lv_iconst (v := 1) hx hb d_La_law_157 (by decide) ?_
      refine lv_iadd hx hb d_La_law_158 ?_
      rw [ix1]
      refine va_sld hx hb hX hbl hbA hS (vp_in_nI (show 6 * t + 1 < L by omega) (by omega)) d_La_law_159 ?_
      rw [nI_clamp (show 6 * t + 1 < 2 ^ 31 by omega), e1]
      refine lv_aload_n hx hb d_La_law_160 rfl (lv_at hl 2 rfl) ?_
      refine lv_iload hx hb d_La_law_161 (lv_at hl 1 rfl) ?_
      refine lv_iconst (v := 2) hx hb d_La_law_163 (by decide) ?_
      refine lv_iadd hx hb d_La_law_164 ?_
      rw [ix2]
      refine va_sld hx hb hX hbl hbA hS (vp_in_nI (show 6 * t + 2 < L by omega) (by omega)) d_La_law_165 ?_
      rw [nI_clamp (show 6 * t + 2 < 2 ^ 31 by omega), e2]
      refine lv_aload_n hx hb d_La_law_166 rfl (lv_at hl 2 rfl) ?_
      refine lv_iload hx hb d_La_law_167 (lv_at hl 1 rfl) ?_
      refine lv_iconst (v := 3) hx hb d_La_law_169 (by decide) ?_
      refine lv_iadd hx hb d_La_law_170 ?_
      rw [ix3]
      refine va_sld hx hb hX hbl hbA hS (vp_in_nI (show 6 * t + 3 < L by omega) (by omega)) d_La_law_171 ?_
      rw [nI_clamp (show 6 * t + 3 < 2 ^ 31 by omega), e3]
      refine lv_aload_n hx hb d_La_law_172 rfl (lv_at hl 2 rfl) ?_
      refine lv_iload hx hb d_La_law_173 (lv_at hl 1 rfl) ?_
      refine lv_iconst (v := 4) hx hb d_La_law_175 (by decide) ?_
      refine lv_iadd hx hb d_La_law_176 ?_
      rw [ix4]
      refine va_sld hx hb hX hbl hbA hS (vp_in_nI (show 6 * t + 4 < L by omega) (by omega)) d_La_law_177 ?_
      rw [nI_clamp (show 6 * t + 4 < 2 ^ 31 by omega), e4]
      refine lv_aload_n hx hb d_La_law_178 rfl (lv_at hl 2 rfl) ?_
      refine lv_iload hx hb d_La_law_179 (lv_at hl 1 rfl) ?_
      refine lv_iconst (v := 5) hx hb d_La_law_181 (by decide) ?_
      refine lv_iadd hx hb d_La_law_182 ?_
      rw [ix5]
      refine va_sld hx hb hX hbl hbA hS (vp_in_nI (show 6 * t + 5 < L by omega) (by omega)) d_La_law_183 ?_
      rw [nI_clamp (show 6 * t + 5 < 2 ^ 31 by omega), e5]
      refine cvI C v_La_70 [.int a1, .int a2, .int a3, .int a4, .int a5] [] (c_Mo_body_2 l g ad2 M a1 a2 a3 a4 a5 v0 v1 v2 v3 v4 hmf) hP hD hS [39, 40, 41, 42, 43, 44, 45, 46, 47, 48, 49, 50, 51, 52, 53, 54, 55, 56, 57, 58, 59] [0, 1, 2, 3, 4, 5, 6, 7, 8, 9, 10, 11, 12, 13, 14, 15, 16, 17, 18, 19, 20, 21, 22, 23, 24, 25, 26, 27, 28, 29, 30, 31, 32, 33, 34, 35, 36, 37, 38, 60] [0, 1, 2, 3, 4, 5, 6, 7, 8, 9, 10, 11, 12, 13, 14, 15, 16, 17, 18, 19, 20, 21, 22, 23, 24, 25, 26, 27, 28, 29, 30, 31, 32, 33, 34, 35, 36, 37, 38, 40, 41, 42, 43, 44, 45, 46, 47, 48, 49, 50, 51, 52, 53, 54, 55, 56, 57, 58, 59, 60, 39] (wL g ad ao k x y q o) (wA g ad ad2 ao k x y q (upd M.1 0 2, M.2) o) rfl rfl (by decide) (by decide) (by decide) rfl (by decide) 0 rfl rfl rfl rfl hl.1 (Nat.le_of_ble_eq_true rfl) ⟨Nat.le_of_ble_eq_true rfl, Nat.le_of_ble_eq_true rfl⟩ d_La_law_184 ⟨by show 61 + t + 1 + 0 ≤ 601024; omega, by show 8756 + 6 * t + 6 + 0 ≤ 7293034; omega⟩ (fun H locs hP hD hS => ?_)
      refine lv_istore (lv' := [(6, .int 0), (5, .int 2), (4, .int (nI (6 * t))), (0, .ref b), (1, .ref (ad 0)), (2, .ref (ad2 0)), (3, .ref ao)]) hx hb d_La_law_187 hl (by decide) rfl (fun ls hl => ?_)
      refine lv_aload_n hx hb d_La_law_189 rfl (lv_at hl 5 rfl) ?_
      refine cvI C v_La_71 [] [] (c_Mo_thrown l g ad2 (upd M.1 0 2, M.2)) hP hD hS [39, 40, 41, 42, 43, 44, 45, 46, 47, 48, 49, 50, 51, 52, 53, 54, 55, 56, 57, 58, 59] [0, 1, 2, 3, 4, 5, 6, 7, 8, 9, 10, 11, 12, 13, 14, 15, 16, 17, 18, 19, 20, 21, 22, 23, 24, 25, 26, 27, 28, 29, 30, 31, 32, 33, 34, 35, 36, 37, 38, 60] [0, 1, 2, 3, 4, 5, 6, 7, 8, 9, 10, 11, 12, 13, 14, 15, 16, 17, 18, 19, 20, 21, 22, 23, 24, 25, 26, 27, 28, 29, 30, 31, 32, 33, 34, 35, 36, 37, 38, 40, 41, 42, 43, 44, 45, 46, 47, 48, 49, 50, 51, 52, 53, 54, 55, 56, 57, 58, 59, 60, 39] (wL g ad ao k x y q o) (wA g ad ad2 ao k x y q (upd M.1 0 2, M.2) o) rfl rfl (by decide) (by decide) (by decide) rfl (by decide) 0 rfl rfl rfl rfl hl.1 (Nat.le_of_ble_eq_true rfl) ⟨Nat.le_of_ble_eq_true rfl, Nat.le_of_ble_eq_true rfl⟩ d_La_law_190 ⟨by show 61 + t + 1 + 0 ≤ 601024; omega, by show 8756 + 6 * t + 6 + 0 ≤ 7293034; omega⟩ (fun H locs hP hD hS => ?_)
      refine lv_iload hx hb d_La_law_193 (lv_at hl 1 rfl) ?_
      refine lv_icmp_eq (tgt := 200) hx hb d_La_law_195 (by decide) (fun c195_1 => ?_) (fun c195_1 => ?_)
      rotate_left
      · exact absurd thr1 c195_1
      refine lv_iload hx hb d_La_law_200 (lv_at hl 1 rfl) ?_
      refine lv_if_ne (tgt := 217) hx hb d_La_law_202 (by decide) (fun c202_2 => ?_) (fun c202_2 => ?_)
      rotate_left
      · exact absurd c202_2 (by decide)
      refine lv_goto (tgt := 1069) hx hb d_La_law_217 (by decide) ?_
      exact hk k x y q (upd M.1 0 2, M.2) o n np mm H locs ls (h.thr 2) hP hD hS (lv_sub hl [2, 3, 4, 5, 6] rfl)
    · have hn3 : n < 3 := by have := h.n3; omega
      have hmf : ¬ M.1 2 = 3 := by rw [h.mn]; rcases (show n = 0 ∨ n = 1 ∨ n = 2 by omega) with rfl | rfl | rfl <;> decide
      refine ckJ C v_La_65 [.ref (ad 0), .int a1, .int a2, .int a3, .int a4, .int a5, .ref ao] [] (c_La_body_0 l g ad ao k x y q o n hn3 h.kn np h.kp h.p20 a1 a2 a3 a4 a5 v0 v1 v2 v3 v4) hP hD hS [0, 1, 2, 3, 4, 5, 6, 7, 8, 9, 10, 11, 12, 13, 14, 15, 16, 17, 18, 19, 20, 21, 22, 23, 24, 25, 26, 27, 28, 29, 30, 31, 32, 33, 34, 35, 36, 37, 38, 60] [39, 40, 41, 42, 43, 44, 45, 46, 47, 48, 49, 50, 51, 52, 53, 54, 55, 56, 57, 58, 59] [21, 22, 23, 24, 25, 26, 27, 28, 29, 30, 31, 32, 33, 34, 35, 36, 37, 38, 39, 40, 41, 42, 43, 44, 45, 46, 47, 48, 49, 50, 51, 52, 53, 54, 55, 56, 57, 58, 59, 0, 1, 2, 3, 4, 5, 6, 7, 8, 9, 10, 11, 12, 13, 14, 15, 16, 17, 18, 19, 20, 60] (wM g ad2 M) (wA g ad ad2 ao (bodyK k n a1 a2 a3 a4 a5) (begF (bodyK k n a1 a2 a3 a4 a5) (n + 1) np x) y q M (vp_updL o 0 (nI n).toInt64)) rfl rfl (by decide) (by decide) (by decide) rfl (by decide) rfl rfl hl.1 (Nat.le_of_ble_eq_true rfl) ⟨Nat.le_of_ble_eq_true rfl, Nat.le_of_ble_eq_true rfl⟩ d_La_law_148 ⟨by show 61 + t + 1 ≤ 601024; omega, by show 8756 + 6 * t + 6 ≤ 7293034; omega⟩ (fun H locs hP hD hS => ?_)
      refine lv_istore (lv' := [(5, .int 0), (4, .int (nI (6 * t))), (0, .ref b), (1, .ref (ad 0)), (2, .ref (ad2 0)), (3, .ref ao)]) hx hb d_La_law_151 hl (by decide) rfl (fun ls hl => ?_)
      refine lv_aload_n hx hb d_La_law_153 rfl (lv_at hl 4 rfl) ?_
      refine lv_aload_n hx hb d_La_law_154 rfl (lv_at hl 2 rfl) ?_
      refine lv_iload hx hb d_La_law_155 (lv_at hl 1 rfl) ?_
      refine lv_iconst (v := 1) hx hb d_La_law_157 (by decide) ?_
      refine lv_iadd hx hb d_La_law_158 ?_
      rw [ix1]
      refine va_sld hx hb hX hbl hbA hS (vp_in_nI (show 6 * t + 1 < L by omega) (by omega)) d_La_law_159 ?_
      rw [nI_clamp (show 6 * t + 1 < 2 ^ 31 by omega), e1]
      refine lv_aload_n hx hb d_La_law_160 rfl (lv_at hl 2 rfl) ?_
      refine lv_iload hx hb d_La_law_161 (lv_at hl 1 rfl) ?_
      refine lv_iconst (v := 2) hx hb d_La_law_163 (by decide) ?_
      refine lv_iadd hx hb d_La_law_164 ?_
      rw [ix2]
      refine va_sld hx hb hX hbl hbA hS (vp_in_nI (show 6 * t + 2 < L by omega) (by omega)) d_La_law_165 ?_
      rw [nI_clamp (show 6 * t + 2 < 2 ^ 31 by omega), e2]
      refine lv_aload_n hx hb d_La_law_166 rfl (lv_at hl 2 rfl) ?_
      refine lv_iload hx hb d_La_law_167 (lv_at hl 1 rfl) ?_
      refine lv_iconst (v := 3) hx hb d_La_law_169 (by decide) ?_
      refine lv_iadd hx hb d_La_law_170 ?_
      rw [ix3]
      refine va_sld hx hb hX hbl hbA hS (vp_in_nI (show 6 * t + 3 < L by omega) (by omega)) d_La_law_171 ?_
      rw [nI_clamp (show 6 * t + 3 < 2 ^ 31 by omega), e3]
      refine lv_aload_n hx hb d_La_law_172 rfl (lv_at hl 2 rfl) ?_
      refine lv_iload hx hb d_La_law_173 (lv_at hl 1 rfl) ?_
      refine lv_iconst (v := 4) hx hb d_La_law_175 (by decide) ?_
      refine lv_iadd hx hb d_La_law_176 ?_
      rw [ix4]
      refine va_sld hx hb hX hbl hbA hS (vp_in_nI (show 6 * t + 4 < L by omega) (by omega)) d_La_law_177 ?_
      rw [nI_clamp (show 6 * t + 4 < 2 ^ 31 by omega), e4]
      refine lv_aload_n hx hb d_La_law_178 rfl (lv_at hl 2 rfl) ?_
      refine lv_iload hx hb d_La_law_179 (lv_at hl 1 rfl) ?_
      refine lv_iconst (v := 5) hx hb d_La_law_181 (by decide) ?_
      refine lv_iadd hx hb d_La_law_182 ?_
      rw [ix5]
      refine va_sld hx hb hX hbl hbA hS (vp_in_nI (show 6 * t + 5 < L by omega) (by omega)) d_La_law_183 ?_
      rw [nI_clamp (show 6 * t + 5 < 2 ^ 31 by omega), e5]
      refine cvI C v_La_70 [.int a1, .int a2, .int a3, .int a4, .int a5] [] (c_Mo_body_0 l g ad2 M n np h.C.1 h.mn h.mp hn3 h.p20 a1 a2 a3 a4 a5 v0 v1 v2 v3 v4 hmf) hP hD hS [39, 40, 41, 42, 43, 44, 45, 46, 47, 48, 49, 50, 51, 52, 53, 54, 55, 56, 57, 58, 59] [0, 1, 2, 3, 4, 5, 6, 7, 8, 9, 10, 11, 12, 13, 14, 15, 16, 17, 18, 19, 20, 21, 22, 23, 24, 25, 26, 27, 28, 29, 30, 31, 32, 33, 34, 35, 36, 37, 38, 60] [0, 1, 2, 3, 4, 5, 6, 7, 8, 9, 10, 11, 12, 13, 14, 15, 16, 17, 18, 19, 20, 21, 22, 23, 24, 25, 26, 27, 28, 29, 30, 31, 32, 33, 34, 35, 36, 37, 38, 40, 41, 42, 43, 44, 45, 46, 47, 48, 49, 50, 51, 52, 53, 54, 55, 56, 57, 58, 59, 60, 39] (wL g ad ao (bodyK k n a1 a2 a3 a4 a5) (begF (bodyK k n a1 a2 a3 a4 a5) (n + 1) np x) y q (vp_updL o 0 (nI n).toInt64)) (wA g ad ad2 ao (bodyK k n a1 a2 a3 a4 a5) (begF (bodyK k n a1 a2 a3 a4 a5) (n + 1) np x) y q (bodyM n np a1 a2 a3 a4 a5 M) (vp_updL o 0 (nI n).toInt64)) rfl rfl (by decide) (by decide) (by decide) rfl (by decide) 0 rfl rfl rfl rfl hl.1 (Nat.le_of_ble_eq_true rfl) ⟨Nat.le_of_ble_eq_true rfl, Nat.le_of_ble_eq_true rfl⟩ d_La_law_184 ⟨by show 61 + t + 1 + 0 ≤ 601024; omega, by show 8756 + 6 * t + 6 + 0 ≤ 7293034; omega⟩ (fun H locs hP hD hS => ?_)
      refine lv_istore (lv' := [(6, .int (M.1 2)), (5, .int 0), (4, .int (nI (6 * t))), (0, .ref b), (1, .ref (ad 0)), (2, .ref (ad2 0)), (3, .ref ao)]) hx hb d_La_law_187 hl (by decide) rfl (fun ls hl => ?_)
      refine lv_aload_n hx hb d_La_law_189 rfl (lv_at hl 5 rfl) ?_
      refine cvI C v_La_71 [] [] (c_Mo_thrown l g ad2 (bodyM n np a1 a2 a3 a4 a5 M)) hP hD hS [39, 40, 41, 42, 43, 44, 45, 46, 47, 48, 49, 50, 51, 52, 53, 54, 55, 56, 57, 58, 59] [0, 1, 2, 3, 4, 5, 6, 7, 8, 9, 10, 11, 12, 13, 14, 15, 16, 17, 18, 19, 20, 21, 22, 23, 24, 25, 26, 27, 28, 29, 30, 31, 32, 33, 34, 35, 36, 37, 38, 60] [0, 1, 2, 3, 4, 5, 6, 7, 8, 9, 10, 11, 12, 13, 14, 15, 16, 17, 18, 19, 20, 21, 22, 23, 24, 25, 26, 27, 28, 29, 30, 31, 32, 33, 34, 35, 36, 37, 38, 40, 41, 42, 43, 44, 45, 46, 47, 48, 49, 50, 51, 52, 53, 54, 55, 56, 57, 58, 59, 60, 39] (wL g ad ao (bodyK k n a1 a2 a3 a4 a5) (begF (bodyK k n a1 a2 a3 a4 a5) (n + 1) np x) y q (vp_updL o 0 (nI n).toInt64)) (wA g ad ad2 ao (bodyK k n a1 a2 a3 a4 a5) (begF (bodyK k n a1 a2 a3 a4 a5) (n + 1) np x) y q (bodyM n np a1 a2 a3 a4 a5 M) (vp_updL o 0 (nI n).toInt64)) rfl rfl (by decide) (by decide) (by decide) rfl (by decide) 0 rfl rfl rfl rfl hl.1 (Nat.le_of_ble_eq_true rfl) ⟨Nat.le_of_ble_eq_true rfl, Nat.le_of_ble_eq_true rfl⟩ d_La_law_190 ⟨by show 61 + t + 1 + 0 ≤ 601024; omega, by show 8756 + 6 * t + 6 + 0 ≤ 7293034; omega⟩ (fun H locs hP hD hS => ?_)
      refine lv_iload hx hb d_La_law_193 (lv_at hl 1 rfl) ?_
      refine lv_icmp_eq (tgt := 200) hx hb d_La_law_195 (by decide) (fun c195_3 => ?_) (fun c195_3 => ?_)
      rotate_left
      · exact absurd thr_bodyM c195_3
      refine lv_iload hx hb d_La_law_200 (lv_at hl 1 rfl) ?_
      refine lv_if_ne (tgt := 217) hx hb d_La_law_202 (by decide) (fun c202_4 => ?_) (fun c202_4 => ?_)
      · exact absurd c202_4 (fun z => z rfl)
      refine lv_aload_n hx hb d_La_law_205 rfl (lv_at hl 6 rfl) ?_
      refine lv_iconst (v := 0) hx hb d_La_law_206 (by decide) ?_
      refine va_lald hx hb hE.1 hP 60 1 rfl rfl (by unfold vp_in; decide) d_La_law_207 ?_
      rw [show (0 : Int32).toNatClampNeg = 0 from by decide]
      refine lv_iload hx hb d_La_law_208 (lv_at hl 0 rfl) ?_
      refine lv_i2l hx hb d_La_law_210 rfl ?_
      refine W.lcmp hx hb d_La_law_211 ?_
      refine lv_if_eq (tgt := 217) hx hb d_La_law_212 (by decide) (fun c212_5 => ?_) (fun c212_5 => ?_)
      rotate_left
      · exact absurd (show lg_cmp _ _ = 0 by rw [lg_cmp_eq]; exact congrArg Int32.toInt64 h.mn.symm) c212_5
      refine lv_goto (tgt := 1069) hx hb d_La_law_217 (by decide) ?_
      exact hk (bodyK k n a1 a2 a3 a4 a5) (begF (bodyK k n a1 a2 a3 a4 a5) (n + 1) np x) y q (bodyM n np a1 a2 a3 a4 a5 M) (vp_updL o 0 (nI n).toInt64) (n + 1) np mm H locs ls (h.body hn3 v0 v1 v2 v3 v4) hP hD hS (lv_sub hl [2, 3, 4, 5, 6] rfl)
  · refine ckJ C v_La_65 [.ref (ad 0), .int a1, .int a2, .int a3, .int a4, .int a5, .ref ao] [] (c_La_body_1 l g hfl ad ao k x y q o a1 a2 a3 a4 a5 v) hP hD hS [0, 1, 2, 3, 4, 5, 6, 7, 8, 9, 10, 11, 12, 13, 14, 15, 16, 17, 18, 19, 20, 21, 22, 23, 24, 25, 26, 27, 28, 29, 30, 31, 32, 33, 34, 35, 36, 37, 38, 60] [39, 40, 41, 42, 43, 44, 45, 46, 47, 48, 49, 50, 51, 52, 53, 54, 55, 56, 57, 58, 59] [21, 22, 23, 24, 25, 26, 27, 28, 29, 30, 31, 32, 33, 34, 35, 36, 37, 38, 39, 40, 41, 42, 43, 44, 45, 46, 47, 48, 49, 50, 51, 52, 53, 54, 55, 56, 57, 58, 59, 0, 1, 2, 3, 4, 5, 6, 7, 8, 9, 10, 11, 12, 13, 14, 15, 16, 17, 18, 19, 20, 60] (wM g ad2 M) (wA g ad ad2 ao k x y q M o) rfl rfl (by decide) (by decide) (by decide) rfl (by decide) rfl rfl hl.1 (Nat.le_of_ble_eq_true rfl) ⟨Nat.le_of_ble_eq_true rfl, Nat.le_of_ble_eq_true rfl⟩ d_La_law_148 ⟨by show 61 + t + 1 ≤ 601024; omega, by show 8756 + 6 * t + 6 ≤ 7293034; omega⟩ (fun H locs hP hD hS => ?_)
    refine lv_istore (lv' := [(5, .int 1), (4, .int (nI (6 * t))), (0, .ref b), (1, .ref (ad 0)), (2, .ref (ad2 0)), (3, .ref ao)]) hx hb d_La_law_151 hl (by decide) rfl (fun ls hl => ?_)
    refine lv_aload_n hx hb d_La_law_153 rfl (lv_at hl 4 rfl) ?_
    refine lv_aload_n hx hb d_La_law_154 rfl (lv_at hl 2 rfl) ?_
    refine lv_iload hx hb d_La_law_155 (lv_at hl 1 rfl) ?_
    refine lv_iconst (v := 1) hx hb d_La_law_157 (by decide) ?_
    refine lv_iadd hx hb d_La_law_158 ?_
    rw [ix1]
    refine va_sld hx hb hX hbl hbA hS (vp_in_nI (show 6 * t + 1 < L by omega) (by omega)) d_La_law_159 ?_
    rw [nI_clamp (show 6 * t + 1 < 2 ^ 31 by omega), e1]
    refine lv_aload_n hx hb d_La_law_160 rfl (lv_at hl 2 rfl) ?_
    refine lv_iload hx hb d_La_law_161 (lv_at hl 1 rfl) ?_
    refine lv_iconst (v := 2) hx hb d_La_law_163 (by decide) ?_
    refine lv_iadd hx hb d_La_law_164 ?_
    rw [ix2]
    refine va_sld hx hb hX hbl hbA hS (vp_in_nI (show 6 * t + 2 < L by omega) (by omega)) d_La_law_165 ?_
    rw [nI_clamp (show 6 * t + 2 < 2 ^ 31 by omega), e2]
    refine lv_aload_n hx hb d_La_law_166 rfl (lv_at hl 2 rfl) ?_
    refine lv_iload hx hb d_La_law_167 (lv_at hl 1 rfl) ?_
    refine lv_iconst (v := 3) hx hb d_La_law_169 (by decide) ?_
    refine lv_iadd hx hb d_La_law_170 ?_
    rw [ix3]
    refine va_sld hx hb hX hbl hbA hS (vp_in_nI (show 6 * t + 3 < L by omega) (by omega)) d_La_law_171 ?_
    rw [nI_clamp (show 6 * t + 3 < 2 ^ 31 by omega), e3]
    refine lv_aload_n hx hb d_La_law_172 rfl (lv_at hl 2 rfl) ?_
    refine lv_iload hx hb d_La_law_173 (lv_at hl 1 rfl) ?_
    refine lv_iconst (v := 4) hx hb d_La_law_175 (by decide) ?_
    refine lv_iadd hx hb d_La_law_176 ?_
    rw [ix4]
    refine va_sld hx hb hX hbl hbA hS (vp_in_nI (show 6 * t + 4 < L by omega) (by omega)) d_La_law_177 ?_
    rw [nI_clamp (show 6 * t + 4 < 2 ^ 31 by omega), e4]
    refine lv_aload_n hx hb d_La_law_178 rfl (lv_at hl 2 rfl) ?_
    refine lv_iload hx hb d_La_law_179 (lv_at hl 1 rfl) ?_
    refine lv_iconst (v := 5) hx hb d_La_law_181 (by decide) ?_
    refine lv_iadd hx hb d_La_law_182 ?_
    rw [ix5]
    refine va_sld hx hb hX hbl hbA hS (vp_in_nI (show 6 * t + 5 < L by omega) (by omega)) d_La_law_183 ?_
    rw [nI_clamp (show 6 * t + 5 < 2 ^ 31 by omega), e5]
    refine cvI C v_La_70 [.int a1, .int a2, .int a3, .int a4, .int a5] [] (c_Mo_body_1 l g ad2 M a1 a2 a3 a4 a5 v) hP hD hS [39, 40, 41, 42, 43, 44, 45, 46, 47, 48, 49, 50, 51, 52, 53, 54, 55, 56, 57, 58, 59] [0, 1, 2, 3, 4, 5, 6, 7, 8, 9, 10, 11, 12, 13, 14, 15, 16, 17, 18, 19, 20, 21, 22, 23, 24, 25, 26, 27, 28, 29, 30, 31, 32, 33, 34, 35, 36, 37, 38, 60] [0, 1, 2, 3, 4, 5, 6, 7, 8, 9, 10, 11, 12, 13, 14, 15, 16, 17, 18, 19, 20, 21, 22, 23, 24, 25, 26, 27, 28, 29, 30, 31, 32, 33, 34, 35, 36, 37, 38, 40, 41, 42, 43, 44, 45, 46, 47, 48, 49, 50, 51, 52, 53, 54, 55, 56, 57, 58, 59, 60, 39] (wL g ad ao k x y q o) (wA g ad ad2 ao k x y q (upd M.1 0 1, M.2) o) rfl rfl (by decide) (by decide) (by decide) rfl (by decide) 0 rfl rfl rfl rfl hl.1 (Nat.le_of_ble_eq_true rfl) ⟨Nat.le_of_ble_eq_true rfl, Nat.le_of_ble_eq_true rfl⟩ d_La_law_184 ⟨by show 61 + t + 1 + 0 ≤ 601024; omega, by show 8756 + 6 * t + 6 + 0 ≤ 7293034; omega⟩ (fun H locs hP hD hS => ?_)
    refine lv_istore (lv' := [(6, .int 0), (5, .int 1), (4, .int (nI (6 * t))), (0, .ref b), (1, .ref (ad 0)), (2, .ref (ad2 0)), (3, .ref ao)]) hx hb d_La_law_187 hl (by decide) rfl (fun ls hl => ?_)
    refine lv_aload_n hx hb d_La_law_189 rfl (lv_at hl 5 rfl) ?_
    refine cvI C v_La_71 [] [] (c_Mo_thrown l g ad2 (upd M.1 0 1, M.2)) hP hD hS [39, 40, 41, 42, 43, 44, 45, 46, 47, 48, 49, 50, 51, 52, 53, 54, 55, 56, 57, 58, 59] [0, 1, 2, 3, 4, 5, 6, 7, 8, 9, 10, 11, 12, 13, 14, 15, 16, 17, 18, 19, 20, 21, 22, 23, 24, 25, 26, 27, 28, 29, 30, 31, 32, 33, 34, 35, 36, 37, 38, 60] [0, 1, 2, 3, 4, 5, 6, 7, 8, 9, 10, 11, 12, 13, 14, 15, 16, 17, 18, 19, 20, 21, 22, 23, 24, 25, 26, 27, 28, 29, 30, 31, 32, 33, 34, 35, 36, 37, 38, 40, 41, 42, 43, 44, 45, 46, 47, 48, 49, 50, 51, 52, 53, 54, 55, 56, 57, 58, 59, 60, 39] (wL g ad ao k x y q o) (wA g ad ad2 ao k x y q (upd M.1 0 1, M.2) o) rfl rfl (by decide) (by decide) (by decide) rfl (by decide) 0 rfl rfl rfl rfl hl.1 (Nat.le_of_ble_eq_true rfl) ⟨Nat.le_of_ble_eq_true rfl, Nat.le_of_ble_eq_true rfl⟩ d_La_law_190 ⟨by show 61 + t + 1 + 0 ≤ 601024; omega, by show 8756 + 6 * t + 6 + 0 ≤ 7293034; omega⟩ (fun H locs hP hD hS => ?_)
    refine lv_iload hx hb d_La_law_193 (lv_at hl 1 rfl) ?_
    refine lv_icmp_eq (tgt := 200) hx hb d_La_law_195 (by decide) (fun c195_6 => ?_) (fun c195_6 => ?_)
    rotate_left
    · exact absurd thr1 c195_6
    refine lv_iload hx hb d_La_law_200 (lv_at hl 1 rfl) ?_
    refine lv_if_ne (tgt := 217) hx hb d_La_law_202 (by decide) (fun c202_7 => ?_) (fun c202_7 => ?_)
    rotate_left
    · exact absurd c202_7 (by decide)
    refine lv_goto (tgt := 1069) hx hb d_La_law_217 (by decide) ?_
    exact hk k x y q (upd M.1 0 1, M.2) o n np mm H locs ls (h.thr 1) hP hD hS (lv_sub hl [2, 3, 4, 5, 6] rfl)
set_option maxHeartbeats 4000000 in
set_option maxRecDepth 100000 in
theorem law_start {l : Launch} {g : Glob} {p : Program} {e : Env} {s : State} {m : MethodId} {below : List Frame} {meth : Method} {c : Code} {A : Nat → Prop} {Q : State → Prop} {b L : Nat} {xs : Nat → Int32} (hfl : l.flags = pinnedFlags ++ [noTraceFlag]) (C : Cx g R_law b_La_law 7 A p s m #[Value.ref b] c) (hX : va_X b L xs s s.heap) (hbl : b < s.heap.size) (hbA : ¬ A b) {ad ad2 : Nat → Nat} {ao t : Nat} (hL : L ≤ 3072) (ht : 6 * t + 6 ≤ L) {k : CFG} {x y : RS} {q : PLS} {M : MS} {o : Nat → Int64} {n np : Nat} {mm : Nat → Nat} (h : Rel k x y q M n np mm) {H : Heap} {locs : List Loc} {ls : Array Slot} (hP : va_P g.1 classes (wA g ad ad2 ao k x y q M o) H) (hD : va_D A (wA g ad ad2 ao k x y q M o)) (hS : va_S A s.heap H locs) (hl : lv_has ls 7 [(4, .int (nI (6 * t))), (0, .ref b), (1, .ref (ad 0)), (2, .ref (ad2 0)), (3, .ref ao)]) (a1 a2 a3 : Int32) (e1 : xs (6 * t + 1) = a1) (e2 : xs (6 * t + 2) = a2) (e3 : xs (6 * t + 3) = a3)
    (hk : ∀ (k : CFG) (x y : RS) (q : PLS) (M : MS) (o : Nat → Int64) (n np : Nat) (mm : Nat → Nat) (H : Heap) (locs : List Loc) (ls : Array Slot), Rel k x y q M n np mm → va_P g.1 classes (wA g ad ad2 ao k x y q M o) H → va_D A (wA g ad ad2 ao k x y q M o) → va_S A s.heap H locs → lv_has ls 7 [(4, .int (nI (6 * t))), (0, .ref b), (1, .ref (ad 0)), (2, .ref (ad2 0)), (3, .ref ao)] → W p l e room_1 s m #[Value.ref b] below meth c H locs (61 + t + 1) (8756 + 6 * t + 6) Q (F0 m 1069 ls [])) :
    W p l e room_1 s m #[Value.ref b] below meth c H locs (61 + t) (8756 + 6 * t) Q (F0 m 220 ls []) := by
  obtain ⟨hx, hb, hml, hown, hw, hE, hA⟩ := id C
  refine lv_aload_n hx hb d_La_law_220 rfl (lv_at hl 2 rfl) ?_
  refine lv_aload_n hx hb d_La_law_221 rfl (lv_at hl 1 rfl) ?_
  refine lv_iload hx hb d_La_law_222 (lv_at hl 0 rfl) ?_
  refine lv_iconst (v := 1) hx hb d_La_law_224 (by decide) ?_
  refine lv_iadd hx hb d_La_law_225 ?_
  rw [ix1]
  refine va_sld hx hb hX hbl hbA hS (vp_in_nI (show 6 * t + 1 < L by omega) (by omega)) d_La_law_226 ?_
  rw [nI_clamp (show 6 * t + 1 < 2 ^ 31 by omega), e1]
  refine lv_aload_n hx hb d_La_law_227 rfl (lv_at hl 1 rfl) ?_
  refine lv_iload hx hb d_La_law_228 (lv_at hl 0 rfl) ?_
  refine lv_iconst (v := 2) hx hb d_La_law_230 (by decide) ?_
  refine lv_iadd hx hb d_La_law_231 ?_
  rw [ix2]
  refine va_sld hx hb hX hbl hbA hS (vp_in_nI (show 6 * t + 2 < L by omega) (by omega)) d_La_law_232 ?_
  rw [nI_clamp (show 6 * t + 2 < 2 ^ 31 by omega), e2]
  refine lv_aload_n hx hb d_La_law_233 rfl (lv_at hl 1 rfl) ?_
  refine lv_iload hx hb d_La_law_234 (lv_at hl 0 rfl) ?_
  refine lv_iconst (v := 3) hx hb d_La_law_236 (by decide) ?_
  refine lv_iadd hx hb d_La_law_237 ?_
  rw [ix3]
  refine va_sld hx hb hX hbl hbA hS (vp_in_nI (show 6 * t + 3 < L by omega) (by omega)) d_La_law_238 ?_
  rw [nI_clamp (show 6 * t + 3 < 2 ^ 31 by omega), e3]
  by_cases v : (inI a1 (-1000) 1000 = 1 ∧ inI a2 (-1000) 1000 = 1 ∧ inI a3 0 63 = 1)
  · obtain ⟨v0, v1, v2⟩ := v
    refine ckJ C v_La_74 [.ref (ad 0), .int a1, .int a2, .int a3] [] (c_La_start_0 l g ad ao k x y q o n h.kn h.n3 np h.kp h.p20 a1 a2 a3 v0 v1 v2) hP hD hS [0, 1, 2, 3, 4, 5, 6, 7, 8, 9, 10, 11, 12, 13, 14, 15, 16, 17, 18, 19, 20, 21, 22, 23, 24, 25, 26, 27, 28, 29, 30, 31, 32, 33, 34, 35, 36, 37, 38, 60] [39, 40, 41, 42, 43, 44, 45, 46, 47, 48, 49, 50, 51, 52, 53, 54, 55, 56, 57, 58, 59] [21, 22, 23, 24, 25, 26, 27, 28, 29, 30, 31, 32, 33, 34, 35, 36, 37, 38, 39, 40, 41, 42, 43, 44, 45, 46, 47, 48, 49, 50, 51, 52, 53, 54, 55, 56, 57, 58, 59, 0, 1, 2, 3, 4, 5, 6, 7, 8, 9, 10, 11, 12, 13, 14, 15, 16, 17, 18, 19, 20, 60] (wM g ad2 M) (wA g ad ad2 ao (startK k a1 a2 a3) (begF (startK k a1 a2 a3) n np x) y q M o) rfl rfl (by decide) (by decide) (by decide) rfl (by decide) rfl rfl hl.1 (Nat.le_of_ble_eq_true rfl) ⟨Nat.le_of_ble_eq_true rfl, Nat.le_of_ble_eq_true rfl⟩ d_La_law_239 ⟨by show 61 + t + 1 ≤ 601024; omega, by show 8756 + 6 * t + 6 ≤ 7293034; omega⟩ (fun H locs hP hD hS => ?_)
    refine lv_istore (lv' := [(5, .int 0), (4, .int (nI (6 * t))), (0, .ref b), (1, .ref (ad 0)), (2, .ref (ad2 0)), (3, .ref ao)]) hx hb d_La_law_242 hl (by decide) rfl (fun ls hl => ?_)
    refine lv_aload_n hx hb d_La_law_244 rfl (lv_at hl 4 rfl) ?_
    refine lv_aload_n hx hb d_La_law_245 rfl (lv_at hl 2 rfl) ?_
    refine lv_iload hx hb d_La_law_246 (lv_at hl 1 rfl) ?_
    refine lv_iconst (v := 1) hx hb d_La_law_248 (by decide) ?_
    refine lv_iadd hx hb d_La_law_249 ?_
    rw [ix1]
    refine va_sld hx hb hX hbl hbA hS (vp_in_nI (show 6 * t + 1 < L by omega) (by omega)) d_La_law_250 ?_
    rw [nI_clamp (show 6 * t + 1 < 2 ^ 31 by omega), e1]
    refine lv_aload_n hx hb d_La_law_251 rfl (lv_at hl 2 rfl) ?_
    refine lv_iload hx hb d_La_law_252 (lv_at hl 1 rfl) ?_
    refine lv_iconst (v := 2) hx hb d_La_law_254 (by decide) ?_
    refine lv_iadd hx hb d_La_law_255 ?_
    rw [ix2]
    refine va_sld hx hb hX hbl hbA hS (vp_in_nI (show 6 * t + 2 < L by omega) (by omega)) d_La_law_256 ?_
    rw [nI_clamp (show 6 * t + 2 < 2 ^ 31 by omega), e2]
    refine lv_aload_n hx hb d_La_law_257 rfl (lv_at hl 2 rfl) ?_
    refine lv_iload hx hb d_La_law_258 (lv_at hl 1 rfl) ?_
    refine lv_iconst (v := 3) hx hb d_La_law_260 (by decide) ?_
    refine lv_iadd hx hb d_La_law_261 ?_
    rw [ix3]
    refine va_sld hx hb hX hbl hbA hS (vp_in_nI (show 6 * t + 3 < L by omega) (by omega)) d_La_law_262 ?_
    rw [nI_clamp (show 6 * t + 3 < 2 ^ 31 by omega), e3]
    refine cvV C v_La_77 [.int a1, .int a2, .int a3] [] (c_Mo_start_0 l g ad2 M n np h.C.1 h.mn h.mp h.n3 h.p20 a1 a2 a3 v0 v1 v2) hP hD hS [39, 40, 41, 42, 43, 44, 45, 46, 47, 48, 49, 50, 51, 52, 53, 54, 55, 56, 57, 58, 59] [0, 1, 2, 3, 4, 5, 6, 7, 8, 9, 10, 11, 12, 13, 14, 15, 16, 17, 18, 19, 20, 21, 22, 23, 24, 25, 26, 27, 28, 29, 30, 31, 32, 33, 34, 35, 36, 37, 38, 60] [0, 1, 2, 3, 4, 5, 6, 7, 8, 9, 10, 11, 12, 13, 14, 15, 16, 17, 18, 19, 20, 21, 22, 23, 24, 25, 26, 27, 28, 29, 30, 31, 32, 33, 34, 35, 36, 37, 38, 40, 41, 42, 43, 44, 45, 46, 47, 48, 49, 50, 51, 52, 53, 54, 55, 56, 57, 58, 59, 60, 39] (wL g ad ao (startK k a1 a2 a3) (begF (startK k a1 a2 a3) n np x) y q o) (wA g ad ad2 ao (startK k a1 a2 a3) (begF (startK k a1 a2 a3) n np x) y q (startM n np a1 a2 a3 M) o) rfl rfl (by decide) (by decide) (by decide) rfl (by decide) 0 rfl rfl rfl rfl hl.1 (Nat.le_of_ble_eq_true rfl) ⟨Nat.le_of_ble_eq_true rfl, Nat.le_of_ble_eq_true rfl⟩ d_La_law_263 ⟨by show 61 + t + 1 + 0 ≤ 601024; omega, by show 8756 + 6 * t + 6 + 0 ≤ 7293034; omega⟩ (fun H locs hP hD hS => ?_)
    refine lv_aload_n hx hb d_La_law_266 rfl (lv_at hl 4 rfl) ?_
    refine cvI C v_La_71 [] [] (c_Mo_thrown l g ad2 (startM n np a1 a2 a3 M)) hP hD hS [39, 40, 41, 42, 43, 44, 45, 46, 47, 48, 49, 50, 51, 52, 53, 54, 55, 56, 57, 58, 59] [0, 1, 2, 3, 4, 5, 6, 7, 8, 9, 10, 11, 12, 13, 14, 15, 16, 17, 18, 19, 20, 21, 22, 23, 24, 25, 26, 27, 28, 29, 30, 31, 32, 33, 34, 35, 36, 37, 38, 60] [0, 1, 2, 3, 4, 5, 6, 7, 8, 9, 10, 11, 12, 13, 14, 15, 16, 17, 18, 19, 20, 21, 22, 23, 24, 25, 26, 27, 28, 29, 30, 31, 32, 33, 34, 35, 36, 37, 38, 40, 41, 42, 43, 44, 45, 46, 47, 48, 49, 50, 51, 52, 53, 54, 55, 56, 57, 58, 59, 60, 39] (wL g ad ao (startK k a1 a2 a3) (begF (startK k a1 a2 a3) n np x) y q o) (wA g ad ad2 ao (startK k a1 a2 a3) (begF (startK k a1 a2 a3) n np x) y q (startM n np a1 a2 a3 M) o) rfl rfl (by decide) (by decide) (by decide) rfl (by decide) 0 rfl rfl rfl rfl hl.1 (Nat.le_of_ble_eq_true rfl) ⟨Nat.le_of_ble_eq_true rfl, Nat.le_of_ble_eq_true rfl⟩ d_La_law_267 ⟨by show 61 + t + 1 + 0 ≤ 601024; omega, by show 8756 + 6 * t + 6 + 0 ≤ 7293034; omega⟩ (fun H locs hP hD hS => ?_)
    refine lv_iload hx hb d_La_law_270 (lv_at hl 0 rfl) ?_
    refine lv_icmp_eq (tgt := 277) hx hb d_La_law_272 (by decide) (fun c272_1 => ?_) (fun c272_1 => ?_)
    rotate_left
    · exact absurd thr_startM c272_1
    refine lv_goto (tgt := 1069) hx hb d_La_law_277 (by decide) ?_
    exact hk (startK k a1 a2 a3) (begF (startK k a1 a2 a3) n np x) y q (startM n np a1 a2 a3 M) o n np mm H locs ls (h.start v0 v1 v2) hP hD hS (lv_sub hl [1, 2, 3, 4, 5] rfl)
  · refine ckJ C v_La_74 [.ref (ad 0), .int a1, .int a2, .int a3] [] (c_La_start_1 l g hfl ad ao k x y q o a1 a2 a3 v) hP hD hS [0, 1, 2, 3, 4, 5, 6, 7, 8, 9, 10, 11, 12, 13, 14, 15, 16, 17, 18, 19, 20, 21, 22, 23, 24, 25, 26, 27, 28, 29, 30, 31, 32, 33, 34, 35, 36, 37, 38, 60] [39, 40, 41, 42, 43, 44, 45, 46, 47, 48, 49, 50, 51, 52, 53, 54, 55, 56, 57, 58, 59] [21, 22, 23, 24, 25, 26, 27, 28, 29, 30, 31, 32, 33, 34, 35, 36, 37, 38, 39, 40, 41, 42, 43, 44, 45, 46, 47, 48, 49, 50, 51, 52, 53, 54, 55, 56, 57, 58, 59, 0, 1, 2, 3, 4, 5, 6, 7, 8, 9, 10, 11, 12, 13, 14, 15, 16, 17, 18, 19, 20, 60] (wM g ad2 M) (wA g ad ad2 ao k x y q M o) rfl rfl (by decide) (by decide) (by decide) rfl (by decide) rfl rfl hl.1 (Nat.le_of_ble_eq_true rfl) ⟨Nat.le_of_ble_eq_true rfl, Nat.le_of_ble_eq_true rfl⟩ d_La_law_239 ⟨by show 61 + t + 1 ≤ 601024; omega, by show 8756 + 6 * t + 6 ≤ 7293034; omega⟩ (fun H locs hP hD hS => ?_)
    refine lv_istore (lv' := [(5, .int 1), (4, .int (nI (6 * t))), (0, .ref b), (1, .ref (ad 0)), (2, .ref (ad2 0)), (3, .ref ao)]) hx hb d_La_law_242 hl (by decide) rfl (fun ls hl => ?_)
    refine lv_aload_n hx hb d_La_law_244 rfl (lv_at hl 4 rfl) ?_
    refine lv_aload_n hx hb d_La_law_245 rfl (lv_at hl 2 rfl) ?_
    refine lv_iload hx hb d_La_law_246 (lv_at hl 1 rfl) ?_
    refine lv_iconst (v := 1) hx hb d_La_law_248 (by decide) ?_
    refine lv_iadd hx hb d_La_law_249 ?_
    rw [ix1]
    refine va_sld hx hb hX hbl hbA hS (vp_in_nI (show 6 * t + 1 < L by omega) (by omega)) d_La_law_250 ?_
    rw [nI_clamp (show 6 * t + 1 < 2 ^ 31 by omega), e1]
    refine lv_aload_n hx hb d_La_law_251 rfl (lv_at hl 2 rfl) ?_
    refine lv_iload hx hb d_La_law_252 (lv_at hl 1 rfl) ?_
    refine lv_iconst (v := 2) hx hb d_La_law_254 (by decide) ?_
    refine lv_iadd hx hb d_La_law_255 ?_
    rw [ix2]
    refine va_sld hx hb hX hbl hbA hS (vp_in_nI (show 6 * t + 2 < L by omega) (by omega)) d_La_law_256 ?_
    rw [nI_clamp (show 6 * t + 2 < 2 ^ 31 by omega), e2]
    refine lv_aload_n hx hb d_La_law_257 rfl (lv_at hl 2 rfl) ?_
    refine lv_iload hx hb d_La_law_258 (lv_at hl 1 rfl) ?_
    refine lv_iconst (v := 3) hx hb d_La_law_260 (by decide) ?_
    refine lv_iadd hx hb d_La_law_261 ?_
    rw [ix3]
    refine va_sld hx hb hX hbl hbA hS (vp_in_nI (show 6 * t + 3 < L by omega) (by omega)) d_La_law_262 ?_
    rw [nI_clamp (show 6 * t + 3 < 2 ^ 31 by omega), e3]
    refine cvV C v_La_77 [.int a1, .int a2, .int a3] [] (c_Mo_start_1 l g ad2 M a1 a2 a3 v) hP hD hS [39, 40, 41, 42, 43, 44, 45, 46, 47, 48, 49, 50, 51, 52, 53, 54, 55, 56, 57, 58, 59] [0, 1, 2, 3, 4, 5, 6, 7, 8, 9, 10, 11, 12, 13, 14, 15, 16, 17, 18, 19, 20, 21, 22, 23, 24, 25, 26, 27, 28, 29, 30, 31, 32, 33, 34, 35, 36, 37, 38, 60] [0, 1, 2, 3, 4, 5, 6, 7, 8, 9, 10, 11, 12, 13, 14, 15, 16, 17, 18, 19, 20, 21, 22, 23, 24, 25, 26, 27, 28, 29, 30, 31, 32, 33, 34, 35, 36, 37, 38, 40, 41, 42, 43, 44, 45, 46, 47, 48, 49, 50, 51, 52, 53, 54, 55, 56, 57, 58, 59, 60, 39] (wL g ad ao k x y q o) (wA g ad ad2 ao k x y q (upd M.1 0 1, M.2) o) rfl rfl (by decide) (by decide) (by decide) rfl (by decide) 0 rfl rfl rfl rfl hl.1 (Nat.le_of_ble_eq_true rfl) ⟨Nat.le_of_ble_eq_true rfl, Nat.le_of_ble_eq_true rfl⟩ d_La_law_263 ⟨by show 61 + t + 1 + 0 ≤ 601024; omega, by show 8756 + 6 * t + 6 + 0 ≤ 7293034; omega⟩ (fun H locs hP hD hS => ?_)
    refine lv_aload_n hx hb d_La_law_266 rfl (lv_at hl 4 rfl) ?_
    refine cvI C v_La_71 [] [] (c_Mo_thrown l g ad2 (upd M.1 0 1, M.2)) hP hD hS [39, 40, 41, 42, 43, 44, 45, 46, 47, 48, 49, 50, 51, 52, 53, 54, 55, 56, 57, 58, 59] [0, 1, 2, 3, 4, 5, 6, 7, 8, 9, 10, 11, 12, 13, 14, 15, 16, 17, 18, 19, 20, 21, 22, 23, 24, 25, 26, 27, 28, 29, 30, 31, 32, 33, 34, 35, 36, 37, 38, 60] [0, 1, 2, 3, 4, 5, 6, 7, 8, 9, 10, 11, 12, 13, 14, 15, 16, 17, 18, 19, 20, 21, 22, 23, 24, 25, 26, 27, 28, 29, 30, 31, 32, 33, 34, 35, 36, 37, 38, 40, 41, 42, 43, 44, 45, 46, 47, 48, 49, 50, 51, 52, 53, 54, 55, 56, 57, 58, 59, 60, 39] (wL g ad ao k x y q o) (wA g ad ad2 ao k x y q (upd M.1 0 1, M.2) o) rfl rfl (by decide) (by decide) (by decide) rfl (by decide) 0 rfl rfl rfl rfl hl.1 (Nat.le_of_ble_eq_true rfl) ⟨Nat.le_of_ble_eq_true rfl, Nat.le_of_ble_eq_true rfl⟩ d_La_law_267 ⟨by show 61 + t + 1 + 0 ≤ 601024; omega, by show 8756 + 6 * t + 6 + 0 ≤ 7293034; omega⟩ (fun H locs hP hD hS => ?_)
    refine lv_iload hx hb d_La_law_270 (lv_at hl 0 rfl) ?_
    refine lv_icmp_eq (tgt := 277) hx hb d_La_law_272 (by decide) (fun c272_2 => ?_) (fun c272_2 => ?_)
    rotate_left
    · exact absurd thr1 c272_2
    refine lv_goto (tgt := 1069) hx hb d_La_law_277 (by decide) ?_
    exact hk k x y q (upd M.1 0 1, M.2) o n np mm H locs ls (h.thr 1) hP hD hS (lv_sub hl [1, 2, 3, 4, 5] rfl)
set_option maxHeartbeats 4000000 in
set_option maxRecDepth 100000 in
theorem law_step {l : Launch} {g : Glob} {p : Program} {e : Env} {s : State} {m : MethodId} {below : List Frame} {meth : Method} {c : Code} {A : Nat → Prop} {Q : State → Prop} {b L : Nat} {xs : Nat → Int32} (hfl : l.flags = pinnedFlags ++ [noTraceFlag]) (C : Cx g R_law b_La_law 7 A p s m #[Value.ref b] c) (hX : va_X b L xs s s.heap) (hbl : b < s.heap.size) (hbA : ¬ A b) {ad ad2 : Nat → Nat} {ao t : Nat} (hL : L ≤ 3072) (ht : 6 * t + 6 ≤ L) {k : CFG} {x y : RS} {q : PLS} {M : MS} {o : Nat → Int64} {n np : Nat} {mm : Nat → Nat} (h : Rel k x y q M n np mm) {H : Heap} {locs : List Loc} {ls : Array Slot} (hP : va_P g.1 classes (wA g ad ad2 ao k x y q M o) H) (hD : va_D A (wA g ad ad2 ao k x y q M o)) (hS : va_S A s.heap H locs) (hl : lv_has ls 7 [(4, .int (nI (6 * t))), (0, .ref b), (1, .ref (ad 0)), (2, .ref (ad2 0)), (3, .ref ao)]) (a1 : Int32) (e1 : xs (6 * t + 1) = a1)
    (hk : ∀ (k : CFG) (x y : RS) (q : PLS) (M : MS) (o : Nat → Int64) (n np : Nat) (mm : Nat → Nat) (H : Heap) (locs : List Loc) (ls : Array Slot), Rel k x y q M n np mm → va_P g.1 classes (wA g ad ad2 ao k x y q M o) H → va_D A (wA g ad ad2 ao k x y q M o) → va_S A s.heap H locs → lv_has ls 7 [(4, .int (nI (6 * t))), (0, .ref b), (1, .ref (ad 0)), (2, .ref (ad2 0)), (3, .ref ao)] → W p l e room_1 s m #[Value.ref b] below meth c H locs (61 + t + 1) (8756 + 6 * t + 6) Q (F0 m 1069 ls [])) :
    W p l e room_1 s m #[Value.ref b] below meth c H locs (61 + t) (8756 + 6 * t) Q (F0 m 280 ls []) := by
  obtain ⟨hx, hb, hml, hown, hw, hE, hA⟩ := id C
  refine lv_aload_n hx hb d_La_law_280 rfl (lv_at hl 2 rfl) ?_
  refine lv_aload_n hx hb d_La_law_281 rfl (lv_at hl 1 rfl) ?_
  refine lv_iload hx hb d_La_law_282 (lv_at hl 0 rfl) ?_
  refine lv_iconst (v := 1) hx hb d_La_law_284 (by decide) ?_
  refine lv_iadd hx hb d_La_law_285 ?_
  rw [ix1]
  refine va_sld hx hb hX hbl hbA hS (vp_in_nI (show 6 * t + 1 < L by omega) (by omega)) d_La_law_286 ?_
  rw [nI_clamp (show 6 * t + 1 < 2 ^ 31 by omega), e1]
  refine lv_aload_n hx hb d_La_law_287 rfl (lv_at hl 4 rfl) ?_
  by_cases v : inI a1 1 20 = 1
  · refine ckJ C v_La_78 [.ref (ad 0), .int a1, .ref ao] [] (c_La_step_0 l g ad ao k x y q o n h.kn h.n3 np h.kp h.p20 a1 v) hP hD hS [0, 1, 2, 3, 4, 5, 6, 7, 8, 9, 10, 11, 12, 13, 14, 15, 16, 17, 18, 19, 20, 21, 22, 23, 24, 25, 26, 27, 28, 29, 30, 31, 32, 33, 34, 35, 36, 37, 38, 60] [39, 40, 41, 42, 43, 44, 45, 46, 47, 48, 49, 50, 51, 52, 53, 54, 55, 56, 57, 58, 59] [21, 22, 23, 24, 25, 26, 27, 28, 29, 30, 31, 32, 33, 34, 35, 36, 37, 38, 39, 40, 41, 42, 43, 44, 45, 46, 47, 48, 49, 50, 51, 52, 53, 54, 55, 56, 57, 58, 59, 0, 1, 2, 3, 4, 5, 6, 7, 8, 9, 10, 11, 12, 13, 14, 15, 16, 17, 18, 19, 20, 60] (wM g ad2 M) (wA g ad ad2 ao (stepK k a1) (begF (stepK k a1) n np x) y q M (vp_updL o 0 (k.2.1 5).toInt64)) rfl rfl (by decide) (by decide) (by decide) rfl (by decide) rfl rfl hl.1 (Nat.le_of_ble_eq_true rfl) ⟨Nat.le_of_ble_eq_true rfl, Nat.le_of_ble_eq_true rfl⟩ d_La_law_288 ⟨by show 61 + t + 1 ≤ 601024; omega, by show 8756 + 6 * t + 6 ≤ 7293034; omega⟩ (fun H locs hP hD hS => ?_)
    refine lv_istore (lv' := [(5, .int 0), (4, .int (nI (6 * t))), (0, .ref b), (1, .ref (ad 0)), (2, .ref (ad2 0)), (3, .ref ao)]) hx hb d_La_law_291 hl (by decide) rfl (fun ls hl => ?_)
    refine lv_aload_n hx hb d_La_law_293 rfl (lv_at hl 4 rfl) ?_
    refine lv_aload_n hx hb d_La_law_294 rfl (lv_at hl 2 rfl) ?_
    refine lv_iload hx hb d_La_law_295 (lv_at hl 1 rfl) ?_
    refine lv_iconst (v := 1) hx hb d_La_law_297 (by decide) ?_
    refine lv_iadd hx hb d_La_law_298 ?_
    rw [ix1]
    refine va_sld hx hb hX hbl hbA hS (vp_in_nI (show 6 * t + 1 < L by omega) (by omega)) d_La_law_299 ?_
    rw [nI_clamp (show 6 * t + 1 < 2 ^ 31 by omega), e1]
    refine cvI C v_La_81 [.int a1] [] (c_Mo_step_0 l g ad2 M n np h.C.1 h.mn h.mp h.n3 h.p20 a1 v) hP hD hS [39, 40, 41, 42, 43, 44, 45, 46, 47, 48, 49, 50, 51, 52, 53, 54, 55, 56, 57, 58, 59] [0, 1, 2, 3, 4, 5, 6, 7, 8, 9, 10, 11, 12, 13, 14, 15, 16, 17, 18, 19, 20, 21, 22, 23, 24, 25, 26, 27, 28, 29, 30, 31, 32, 33, 34, 35, 36, 37, 38, 60] [0, 1, 2, 3, 4, 5, 6, 7, 8, 9, 10, 11, 12, 13, 14, 15, 16, 17, 18, 19, 20, 21, 22, 23, 24, 25, 26, 27, 28, 29, 30, 31, 32, 33, 34, 35, 36, 37, 38, 40, 41, 42, 43, 44, 45, 46, 47, 48, 49, 50, 51, 52, 53, 54, 55, 56, 57, 58, 59, 60, 39] (wL g ad ao (stepK k a1) (begF (stepK k a1) n np x) y q (vp_updL o 0 (k.2.1 5).toInt64)) (wA g ad ad2 ao (stepK k a1) (begF (stepK k a1) n np x) y q (stepM n np a1 M) (vp_updL o 0 (k.2.1 5).toInt64)) rfl rfl (by decide) (by decide) (by decide) rfl (by decide) 0 rfl rfl rfl rfl hl.1 (Nat.le_of_ble_eq_true rfl) ⟨Nat.le_of_ble_eq_true rfl, Nat.le_of_ble_eq_true rfl⟩ d_La_law_300 ⟨by show 61 + t + 1 + 0 ≤ 601024; omega, by show 8756 + 6 * t + 6 + 0 ≤ 7293034; omega⟩ (fun H locs hP hD hS => ?_)
    refine lv_istore (lv' := [(6, .int (M.1 11)), (5, .int 0), (4, .int (nI (6 * t))), (0, .ref b), (1, .ref (ad 0)), (2, .ref (ad2 0)), (3, .ref ao)]) hx hb d_La_law_303 hl (by decide) rfl (fun ls hl => ?_)
    refine lv_aload_n hx hb d_La_law_305 rfl (lv_at hl 5 rfl) ?_
    refine cvI C v_La_71 [] [] (c_Mo_thrown l g ad2 (stepM n np a1 M)) hP hD hS [39, 40, 41, 42, 43, 44, 45, 46, 47, 48, 49, 50, 51, 52, 53, 54, 55, 56, 57, 58, 59] [0, 1, 2, 3, 4, 5, 6, 7, 8, 9, 10, 11, 12, 13, 14, 15, 16, 17, 18, 19, 20, 21, 22, 23, 24, 25, 26, 27, 28, 29, 30, 31, 32, 33, 34, 35, 36, 37, 38, 60] [0, 1, 2, 3, 4, 5, 6, 7, 8, 9, 10, 11, 12, 13, 14, 15, 16, 17, 18, 19, 20, 21, 22, 23, 24, 25, 26, 27, 28, 29, 30, 31, 32, 33, 34, 35, 36, 37, 38, 40, 41, 42, 43, 44, 45, 46, 47, 48, 49, 50, 51, 52, 53, 54, 55, 56, 57, 58, 59, 60, 39] (wL g ad ao (stepK k a1) (begF (stepK k a1) n np x) y q (vp_updL o 0 (k.2.1 5).toInt64)) (wA g ad ad2 ao (stepK k a1) (begF (stepK k a1) n np x) y q (stepM n np a1 M) (vp_updL o 0 (k.2.1 5).toInt64)) rfl rfl (by decide) (by decide) (by decide) rfl (by decide) 0 rfl rfl rfl rfl hl.1 (Nat.le_of_ble_eq_true rfl) ⟨Nat.le_of_ble_eq_true rfl, Nat.le_of_ble_eq_true rfl⟩ d_La_law_306 ⟨by show 61 + t + 1 + 0 ≤ 601024; omega, by show 8756 + 6 * t + 6 + 0 ≤ 7293034; omega⟩ (fun H locs hP hD hS => ?_)
    refine lv_iload hx hb d_La_law_309 (lv_at hl 1 rfl) ?_
    refine lv_icmp_eq (tgt := 316) hx hb d_La_law_311 (by decide) (fun c311_1 => ?_) (fun c311_1 => ?_)
    rotate_left
    · exact absurd thr_stepM c311_1
    refine lv_iload hx hb d_La_law_316 (lv_at hl 1 rfl) ?_
    refine lv_if_ne (tgt := 333) hx hb d_La_law_318 (by decide) (fun c318_2 => ?_) (fun c318_2 => ?_)
    · exact absurd c318_2 (fun z => z rfl)
    refine lv_aload_n hx hb d_La_law_321 rfl (lv_at hl 6 rfl) ?_
    refine lv_iconst (v := 0) hx hb d_La_law_322 (by decide) ?_
    refine va_lald hx hb hE.1 hP 60 1 rfl rfl (by unfold vp_in; decide) d_La_law_323 ?_
    rw [show (0 : Int32).toNatClampNeg = 0 from by decide]
    refine lv_iload hx hb d_La_law_324 (lv_at hl 0 rfl) ?_
    refine lv_i2l hx hb d_La_law_326 rfl ?_
    refine W.lcmp hx hb d_La_law_327 ?_
    refine lv_if_eq (tgt := 333) hx hb d_La_law_328 (by decide) (fun c328_3 => ?_) (fun c328_3 => ?_)
    rotate_left
    · exact absurd (show lg_cmp _ _ = 0 by rw [lg_cmp_eq]; exact congrArg Int32.toInt64 h.st) c328_3
    refine lv_goto (tgt := 1069) hx hb d_La_law_333 (by decide) ?_
    exact hk (stepK k a1) (begF (stepK k a1) n np x) y q (stepM n np a1 M) (vp_updL o 0 (k.2.1 5).toInt64) n np mm H locs ls (h.step v) hP hD hS (lv_sub hl [2, 3, 4, 5, 6] rfl)
  · refine ckJ C v_La_78 [.ref (ad 0), .int a1, .ref ao] [] (c_La_step_1 l g hfl ad ao k x y q o a1 v) hP hD hS [0, 1, 2, 3, 4, 5, 6, 7, 8, 9, 10, 11, 12, 13, 14, 15, 16, 17, 18, 19, 20, 21, 22, 23, 24, 25, 26, 27, 28, 29, 30, 31, 32, 33, 34, 35, 36, 37, 38, 60] [39, 40, 41, 42, 43, 44, 45, 46, 47, 48, 49, 50, 51, 52, 53, 54, 55, 56, 57, 58, 59] [21, 22, 23, 24, 25, 26, 27, 28, 29, 30, 31, 32, 33, 34, 35, 36, 37, 38, 39, 40, 41, 42, 43, 44, 45, 46, 47, 48, 49, 50, 51, 52, 53, 54, 55, 56, 57, 58, 59, 0, 1, 2, 3, 4, 5, 6, 7, 8, 9, 10, 11, 12, 13, 14, 15, 16, 17, 18, 19, 20, 60] (wM g ad2 M) (wA g ad ad2 ao k x y q M o) rfl rfl (by decide) (by decide) (by decide) rfl (by decide) rfl rfl hl.1 (Nat.le_of_ble_eq_true rfl) ⟨Nat.le_of_ble_eq_true rfl, Nat.le_of_ble_eq_true rfl⟩ d_La_law_288 ⟨by show 61 + t + 1 ≤ 601024; omega, by show 8756 + 6 * t + 6 ≤ 7293034; omega⟩ (fun H locs hP hD hS => ?_)
    refine lv_istore (lv' := [(5, .int 1), (4, .int (nI (6 * t))), (0, .ref b), (1, .ref (ad 0)), (2, .ref (ad2 0)), (3, .ref ao)]) hx hb d_La_law_291 hl (by decide) rfl (fun ls hl => ?_)
    refine lv_aload_n hx hb d_La_law_293 rfl (lv_at hl 4 rfl) ?_
    refine lv_aload_n hx hb d_La_law_294 rfl (lv_at hl 2 rfl) ?_
    refine lv_iload hx hb d_La_law_295 (lv_at hl 1 rfl) ?_
    refine lv_iconst (v := 1) hx hb d_La_law_297 (by decide) ?_
    refine lv_iadd hx hb d_La_law_298 ?_
    rw [ix1]
    refine va_sld hx hb hX hbl hbA hS (vp_in_nI (show 6 * t + 1 < L by omega) (by omega)) d_La_law_299 ?_
    rw [nI_clamp (show 6 * t + 1 < 2 ^ 31 by omega), e1]
    refine cvI C v_La_81 [.int a1] [] (c_Mo_step_1 l g ad2 M a1 v) hP hD hS [39, 40, 41, 42, 43, 44, 45, 46, 47, 48, 49, 50, 51, 52, 53, 54, 55, 56, 57, 58, 59] [0, 1, 2, 3, 4, 5, 6, 7, 8, 9, 10, 11, 12, 13, 14, 15, 16, 17, 18, 19, 20, 21, 22, 23, 24, 25, 26, 27, 28, 29, 30, 31, 32, 33, 34, 35, 36, 37, 38, 60] [0, 1, 2, 3, 4, 5, 6, 7, 8, 9, 10, 11, 12, 13, 14, 15, 16, 17, 18, 19, 20, 21, 22, 23, 24, 25, 26, 27, 28, 29, 30, 31, 32, 33, 34, 35, 36, 37, 38, 40, 41, 42, 43, 44, 45, 46, 47, 48, 49, 50, 51, 52, 53, 54, 55, 56, 57, 58, 59, 60, 39] (wL g ad ao k x y q o) (wA g ad ad2 ao k x y q (upd M.1 0 1, M.2) o) rfl rfl (by decide) (by decide) (by decide) rfl (by decide) 0 rfl rfl rfl rfl hl.1 (Nat.le_of_ble_eq_true rfl) ⟨Nat.le_of_ble_eq_true rfl, Nat.le_of_ble_eq_true rfl⟩ d_La_law_300 ⟨by show 61 + t + 1 + 0 ≤ 601024; omega, by show 8756 + 6 * t + 6 + 0 ≤ 7293034; omega⟩ (fun H locs hP hD hS => ?_)
    refine lv_istore (lv' := [(6, .int 0), (5, .int 1), (4, .int (nI (6 * t))), (0, .ref b), (1, .ref (ad 0)), (2, .ref (ad2 0)), (3, .ref ao)]) hx hb d_La_law_303 hl (by decide) rfl (fun ls hl => ?_)
    refine lv_aload_n hx hb d_La_law_305 rfl (lv_at hl 5 rfl) ?_
    refine cvI C v_La_71 [] [] (c_Mo_thrown l g ad2 (upd M.1 0 1, M.2)) hP hD hS [39, 40, 41, 42, 43, 44, 45, 46, 47, 48, 49, 50, 51, 52, 53, 54, 55, 56, 57, 58, 59] [0, 1, 2, 3, 4, 5, 6, 7, 8, 9, 10, 11, 12, 13, 14, 15, 16, 17, 18, 19, 20, 21, 22, 23, 24, 25, 26, 27, 28, 29, 30, 31, 32, 33, 34, 35, 36, 37, 38, 60] [0, 1, 2, 3, 4, 5, 6, 7, 8, 9, 10, 11, 12, 13, 14, 15, 16, 17, 18, 19, 20, 21, 22, 23, 24, 25, 26, 27, 28, 29, 30, 31, 32, 33, 34, 35, 36, 37, 38, 40, 41, 42, 43, 44, 45, 46, 47, 48, 49, 50, 51, 52, 53, 54, 55, 56, 57, 58, 59, 60, 39] (wL g ad ao k x y q o) (wA g ad ad2 ao k x y q (upd M.1 0 1, M.2) o) rfl rfl (by decide) (by decide) (by decide) rfl (by decide) 0 rfl rfl rfl rfl hl.1 (Nat.le_of_ble_eq_true rfl) ⟨Nat.le_of_ble_eq_true rfl, Nat.le_of_ble_eq_true rfl⟩ d_La_law_306 ⟨by show 61 + t + 1 + 0 ≤ 601024; omega, by show 8756 + 6 * t + 6 + 0 ≤ 7293034; omega⟩ (fun H locs hP hD hS => ?_)
    refine lv_iload hx hb d_La_law_309 (lv_at hl 1 rfl) ?_
    refine lv_icmp_eq (tgt := 316) hx hb d_La_law_311 (by decide) (fun c311_4 => ?_) (fun c311_4 => ?_)
    rotate_left
    · exact absurd thr1 c311_4
    refine lv_iload hx hb d_La_law_316 (lv_at hl 1 rfl) ?_
    refine lv_if_ne (tgt := 333) hx hb d_La_law_318 (by decide) (fun c318_5 => ?_) (fun c318_5 => ?_)
    rotate_left
    · exact absurd c318_5 (by decide)
    refine lv_goto (tgt := 1069) hx hb d_La_law_333 (by decide) ?_
    exact hk k x y q (upd M.1 0 1, M.2) o n np mm H locs ls (h.thr 1) hP hD hS (lv_sub hl [2, 3, 4, 5, 6] rfl)
set_option maxHeartbeats 4000000 in
set_option maxRecDepth 100000 in
theorem law_pole {l : Launch} {g : Glob} {p : Program} {e : Env} {s : State} {m : MethodId} {below : List Frame} {meth : Method} {c : Code} {A : Nat → Prop} {Q : State → Prop} {b L : Nat} {xs : Nat → Int32} (hfl : l.flags = pinnedFlags ++ [noTraceFlag]) (C : Cx g R_law b_La_law 7 A p s m #[Value.ref b] c) (hX : va_X b L xs s s.heap) (hbl : b < s.heap.size) (hbA : ¬ A b) {ad ad2 : Nat → Nat} {ao t : Nat} (hL : L ≤ 3072) (ht : 6 * t + 6 ≤ L) {k : CFG} {x y : RS} {q : PLS} {M : MS} {o : Nat → Int64} {n np : Nat} {mm : Nat → Nat} (h : Rel k x y q M n np mm) {H : Heap} {locs : List Loc} {ls : Array Slot} (hP : va_P g.1 classes (wA g ad ad2 ao k x y q M o) H) (hD : va_D A (wA g ad ad2 ao k x y q M o)) (hS : va_S A s.heap H locs) (hl : lv_has ls 7 [(4, .int (nI (6 * t))), (0, .ref b), (1, .ref (ad 0)), (2, .ref (ad2 0)), (3, .ref ao)]) (a1 a2 : Int32) (e1 : xs (6 * t + 1) = a1) (e2 : xs (6 * t + 2) = a2)
    (hk : ∀ (k : CFG) (x y : RS) (q : PLS) (M : MS) (o : Nat → Int64) (n np : Nat) (mm : Nat → Nat) (H : Heap) (locs : List Loc) (ls : Array Slot), Rel k x y q M n np mm → va_P g.1 classes (wA g ad ad2 ao k x y q M o) H → va_D A (wA g ad ad2 ao k x y q M o) → va_S A s.heap H locs → lv_has ls 7 [(4, .int (nI (6 * t))), (0, .ref b), (1, .ref (ad 0)), (2, .ref (ad2 0)), (3, .ref ao)] → W p l e room_1 s m #[Value.ref b] below meth c H locs (61 + t + 1) (8756 + 6 * t + 6) Q (F0 m 1069 ls [])) :
    W p l e room_1 s m #[Value.ref b] below meth c H locs (61 + t) (8756 + 6 * t) Q (F0 m 336 ls []) := by
  obtain ⟨hx, hb, hml, hown, hw, hE, hA⟩ := id C
  refine lv_aload_n hx hb d_La_law_336 rfl (lv_at hl 2 rfl) ?_
  refine lv_aload_n hx hb d_La_law_337 rfl (lv_at hl 1 rfl) ?_
  refine lv_iload hx hb d_La_law_338 (lv_at hl 0 rfl) ?_
  refine lv_iconst (v := 1) hx hb d_La_law_340 (by decide) ?_
  refine lv_iadd hx hb d_La_law_341 ?_
  rw [ix1]
  refine va_sld hx hb hX hbl hbA hS (vp_in_nI (show 6 * t + 1 < L by omega) (by omega)) d_La_law_342 ?_
  rw [nI_clamp (show 6 * t + 1 < 2 ^ 31 by omega), e1]
  refine lv_aload_n hx hb d_La_law_343 rfl (lv_at hl 1 rfl) ?_
  refine lv_iload hx hb d_La_law_344 (lv_at hl 0 rfl) ?_
  refine lv_iconst (v := 2) hx hb d_La_law_346 (by decide) ?_
  refine lv_iadd hx hb d_La_law_347 ?_
  rw [ix2]
  refine va_sld hx hb hX hbl hbA hS (vp_in_nI (show 6 * t + 2 < L by omega) (by omega)) d_La_law_348 ?_
  rw [nI_clamp (show 6 * t + 2 < 2 ^ 31 by omega), e2]
  refine lv_aload_n hx hb d_La_law_349 rfl (lv_at hl 4 rfl) ?_
  by_cases v : (inI a1 (-1000) 1000 = 1 ∧ inI a2 (-1000) 1000 = 1)
  · obtain ⟨v0, v1⟩ := v
    by_cases hf : np = 20
    · have hkf : k.2.1 1 = 20 := by rw [h.kp, hf]; rfl
      have hmf : M.1 12 = 20 := by rw [h.mp, hf]; rfl
      refine ckJ C v_La_82 [.ref (ad 0), .int a1, .int a2, .ref ao] [] (c_La_pole_2 l g hfl ad ao k x y q o a1 a2 v0 v1 hkf) hP hD hS [0, 1, 2, 3, 4, 5, 6, 7, 8, 9, 10, 11, 12, 13, 14, 15, 16, 17, 18, 19, 20, 21, 22, 23, 24, 25, 26, 27, 28, 29, 30, 31, 32, 33, 34, 35, 36, 37, 38, 60] [39, 40, 41, 42, 43, 44, 45, 46, 47, 48, 49, 50, 51, 52, 53, 54, 55, 56, 57, 58, 59] [21, 22, 23, 24, 25, 26, 27, 28, 29, 30, 31, 32, 33, 34, 35, 36, 37, 38, 39, 40, 41, 42, 43, 44, 45, 46, 47, 48, 49, 50, 51, 52, 53, 54, 55, 56, 57, 58, 59, 0, 1, 2, 3, 4, 5, 6, 7, 8, 9, 10, 11, 12, 13, 14, 15, 16, 17, 18, 19, 20, 60] (wM g ad2 M) (wA g ad ad2 ao k x y q M o) rfl rfl (by decide) (by decide) (by decide) rfl (by decide) rfl rfl hl.1 (Nat.le_of_ble_eq_true rfl) ⟨Nat.le_of_ble_eq_true rfl, Nat.le_of_ble_eq_true rfl⟩ d_La_law_350 ⟨by show 61 + t + 1 ≤ 601024; omega, by show 8756 + 6 * t + 6 ≤ 7293034; omega⟩ (fun H locs hP hD hS => ?_)
      refine lv_istore (lv' := [(5, .int 2), (4, .int (nI (6 * t))), (0, .ref b), (1, .ref (ad 0)), (2, .ref (ad2 0)), (3, .ref ao)]) hx hb d_La_law_353 hl (by decide) rfl (fun ls hl => ?_)
      refine lv_aload_n hx hb d_La_law_355 rfl (lv_at hl 4 rfl) ?_
      refine lv_aload_n hx hb d_La_law_356 rfl (lv_at hl 2 rfl) ?_
      refine lv_iload hx hb d_La_law_357 (lv_at hl 1 rfl) ?_
      refine lv_iconst (v := 1) hx hb d_La_law_359 (by decide) ?_
      refine lv_iadd hx hb d_La_law_360 ?_
      rw [ix1]
      refine va_sld hx hb hX hbl hbA hS (vp_in_nI (show 6 * t + 1 < L by omega) (by omega)) d_La_law_361 ?_
      rw [nI_clamp (show 6 * t + 1 < 2 ^ 31 by omega), e1]
      refine lv_aload_n hx hb d_La_law_362 rfl (lv_at hl 2 rfl) ?_
      refine lv_iload hx hb d_La_law_363 (lv_at hl 1 rfl) ?_
      refine lv_iconst (v := 2) hx hb d_La_law_365 (by decide) ?_
      refine lv_iadd hx hb d_La_law_366 ?_
      rw [ix2]
      refine va_sld hx hb hX hbl hbA hS (vp_in_nI (show 6 * t + 2 < L by omega) (by omega)) d_La_law_367 ?_
      rw [nI_clamp (show 6 * t + 2 < 2 ^ 31 by omega), e2]
      refine cvI C v_La_85 [.int a1, .int a2] [] (c_Mo_pole_2 l g ad2 M a1 a2 v0 v1 hmf) hP hD hS [39, 40, 41, 42, 43, 44, 45, 46, 47, 48, 49, 50, 51, 52, 53, 54, 55, 56, 57, 58, 59] [0, 1, 2, 3, 4, 5, 6, 7, 8, 9, 10, 11, 12, 13, 14, 15, 16, 17, 18, 19, 20, 21, 22, 23, 24, 25, 26, 27, 28, 29, 30, 31, 32, 33, 34, 35, 36, 37, 38, 60] [0, 1, 2, 3, 4, 5, 6, 7, 8, 9, 10, 11, 12, 13, 14, 15, 16, 17, 18, 19, 20, 21, 22, 23, 24, 25, 26, 27, 28, 29, 30, 31, 32, 33, 34, 35, 36, 37, 38, 40, 41, 42, 43, 44, 45, 46, 47, 48, 49, 50, 51, 52, 53, 54, 55, 56, 57, 58, 59, 60, 39] (wL g ad ao k x y q o) (wA g ad ad2 ao k x y q (upd M.1 0 2, M.2) o) rfl rfl (by decide) (by decide) (by decide) rfl (by decide) 0 rfl rfl rfl rfl hl.1 (Nat.le_of_ble_eq_true rfl) ⟨Nat.le_of_ble_eq_true rfl, Nat.le_of_ble_eq_true rfl⟩ d_La_law_368 ⟨by show 61 + t + 1 + 0 ≤ 601024; omega, by show 8756 + 6 * t + 6 + 0 ≤ 7293034; omega⟩ (fun H locs hP hD hS => ?_)
      refine lv_istore (lv' := [(6, .int 0), (5, .int 2), (4, .int (nI (6 * t))), (0, .ref b), (1, .ref (ad 0)), (2, .ref (ad2 0)), (3, .ref ao)]) hx hb d_La_law_371 hl (by decide) rfl (fun ls hl => ?_)
      refine lv_aload_n hx hb d_La_law_373 rfl (lv_at hl 5 rfl) ?_
      refine cvI C v_La_71 [] [] (c_Mo_thrown l g ad2 (upd M.1 0 2, M.2)) hP hD hS [39, 40, 41, 42, 43, 44, 45, 46, 47, 48, 49, 50, 51, 52, 53, 54, 55, 56, 57, 58, 59] [0, 1, 2, 3, 4, 5, 6, 7, 8, 9, 10, 11, 12, 13, 14, 15, 16, 17, 18, 19, 20, 21, 22, 23, 24, 25, 26, 27, 28, 29, 30, 31, 32, 33, 34, 35, 36, 37, 38, 60] [0, 1, 2, 3, 4, 5, 6, 7, 8, 9, 10, 11, 12, 13, 14, 15, 16, 17, 18, 19, 20, 21, 22, 23, 24, 25, 26, 27, 28, 29, 30, 31, 32, 33, 34, 35, 36, 37, 38, 40, 41, 42, 43, 44, 45, 46, 47, 48, 49, 50, 51, 52, 53, 54, 55, 56, 57, 58, 59, 60, 39] (wL g ad ao k x y q o) (wA g ad ad2 ao k x y q (upd M.1 0 2, M.2) o) rfl rfl (by decide) (by decide) (by decide) rfl (by decide) 0 rfl rfl rfl rfl hl.1 (Nat.le_of_ble_eq_true rfl) ⟨Nat.le_of_ble_eq_true rfl, Nat.le_of_ble_eq_true rfl⟩ d_La_law_374 ⟨by show 61 + t + 1 + 0 ≤ 601024; omega, by show 8756 + 6 * t + 6 + 0 ≤ 7293034; omega⟩ (fun H locs hP hD hS => ?_)
      refine lv_iload hx hb d_La_law_377 (lv_at hl 1 rfl) ?_
      refine lv_icmp_eq (tgt := 384) hx hb d_La_law_379 (by decide) (fun c379_1 => ?_) (fun c379_1 => ?_)
      rotate_left
      · exact absurd thr1 c379_1
      refine lv_iload hx hb d_La_law_384 (lv_at hl 1 rfl) ?_
      refine lv_if_ne (tgt := 401) hx hb d_La_law_386 (by decide) (fun c386_2 => ?_) (fun c386_2 => ?_)
      rotate_left
      · exact absurd c386_2 (by decide)
      refine lv_goto (tgt := 1069) hx hb d_La_law_401 (by decide) ?_
      exact hk k x y q (upd M.1 0 2, M.2) o n np mm H locs ls (h.thr 2) hP hD hS (lv_sub hl [2, 3, 4, 5, 6] rfl)
    · have hp20 : np < 20 := by have := h.p20; omega
      have hmf : ¬ M.1 12 = 20 := by
        rw [h.mp]
        intro z
        have z2 := congrArg Int32.toInt z
        rw [nI_toInt (by omega), show (20 : Int32).toInt = 20 from rfl] at z2
        omega
      refine ckJ C v_La_82 [.ref (ad 0), .int a1, .int a2, .ref ao] [] (c_La_pole_0 l g ad ao k x y q o np h.kp hp20 a1 a2 v0 v1) hP hD hS [0, 1, 2, 3, 4, 5, 6, 7, 8, 9, 10, 11, 12, 13, 14, 15, 16, 17, 18, 19, 20, 21, 22, 23, 24, 25, 26, 27, 28, 29, 30, 31, 32, 33, 34, 35, 36, 37, 38, 60] [39, 40, 41, 42, 43, 44, 45, 46, 47, 48, 49, 50, 51, 52, 53, 54, 55, 56, 57, 58, 59] [21, 22, 23, 24, 25, 26, 27, 28, 29, 30, 31, 32, 33, 34, 35, 36, 37, 38, 39, 40, 41, 42, 43, 44, 45, 46, 47, 48, 49, 50, 51, 52, 53, 54, 55, 56, 57, 58, 59, 0, 1, 2, 3, 4, 5, 6, 7, 8, 9, 10, 11, 12, 13, 14, 15, 16, 17, 18, 19, 20, 60] (wM g ad2 M) (wA g ad ad2 ao (poleK k np a1 a2) x y q M (vp_updL o 0 (nI np).toInt64)) rfl rfl (by decide) (by decide) (by decide) rfl (by decide) rfl rfl hl.1 (Nat.le_of_ble_eq_true rfl) ⟨Nat.le_of_ble_eq_true rfl, Nat.le_of_ble_eq_true rfl⟩ d_La_law_350 ⟨by show 61 + t + 1 ≤ 601024; omega, by show 8756 + 6 * t + 6 ≤ 7293034; omega⟩ (fun H locs hP hD hS => ?_)
      refine lv_istore (lv' := [(5, .int 0), (4, .int (nI (6 * t))), (0, .ref b), (1, .ref (ad 0)), (2, .ref (ad2 0)), (3, .ref ao)]) hx hb d_La_law_353 hl (by decide) rfl (fun ls hl => ?_)
      refine lv_aload_n hx hb d_La_law_355 rfl (lv_at hl 4 rfl) ?_
      refine lv_aload_n hx hb d_La_law_356 rfl (lv_at hl 2 rfl) ?_
      refine lv_iload hx hb d_La_law_357 (lv_at hl 1 rfl) ?_
      refine lv_iconst (v := 1) hx hb d_La_law_359 (by decide) ?_
      refine lv_iadd hx hb d_La_law_360 ?_
      rw [ix1]
      refine va_sld hx hb hX hbl hbA hS (vp_in_nI (show 6 * t + 1 < L by omega) (by omega)) d_La_law_361 ?_
      rw [nI_clamp (show 6 * t + 1 < 2 ^ 31 by omega), e1]
      refine lv_aload_n hx hb d_La_law_362 rfl (lv_at hl 2 rfl) ?_
      refine lv_iload hx hb d_La_law_363 (lv_at hl 1 rfl) ?_
      refine lv_iconst (v := 2) hx hb d_La_law_365 (by decide) ?_
      refine lv_iadd hx hb d_La_law_366 ?_
      rw [ix2]
      refine va_sld hx hb hX hbl hbA hS (vp_in_nI (show 6 * t + 2 < L by omega) (by omega)) d_La_law_367 ?_
      rw [nI_clamp (show 6 * t + 2 < 2 ^ 31 by omega), e2]
      refine cvI C v_La_85 [.int a1, .int a2] [] (c_Mo_pole_0 l g ad2 M np h.mp hp20 a1 a2 v0 v1 hmf) hP hD hS [39, 40, 41, 42, 43, 44, 45, 46, 47, 48, 49, 50, 51, 52, 53, 54, 55, 56, 57, 58, 59] [0, 1, 2, 3, 4, 5, 6, 7, 8, 9, 10, 11, 12, 13, 14, 15, 16, 17, 18, 19, 20, 21, 22, 23, 24, 25, 26, 27, 28, 29, 30, 31, 32, 33, 34, 35, 36, 37, 38, 60] [0, 1, 2, 3, 4, 5, 6, 7, 8, 9, 10, 11, 12, 13, 14, 15, 16, 17, 18, 19, 20, 21, 22, 23, 24, 25, 26, 27, 28, 29, 30, 31, 32, 33, 34, 35, 36, 37, 38, 40, 41, 42, 43, 44, 45, 46, 47, 48, 49, 50, 51, 52, 53, 54, 55, 56, 57, 58, 59, 60, 39] (wL g ad ao (poleK k np a1 a2) x y q (vp_updL o 0 (nI np).toInt64)) (wA g ad ad2 ao (poleK k np a1 a2) x y q (poleM np a1 a2 M) (vp_updL o 0 (nI np).toInt64)) rfl rfl (by decide) (by decide) (by decide) rfl (by decide) 0 rfl rfl rfl rfl hl.1 (Nat.le_of_ble_eq_true rfl) ⟨Nat.le_of_ble_eq_true rfl, Nat.le_of_ble_eq_true rfl⟩ d_La_law_368 ⟨by show 61 + t + 1 + 0 ≤ 601024; omega, by show 8756 + 6 * t + 6 + 0 ≤ 7293034; omega⟩ (fun H locs hP hD hS => ?_)
      refine lv_istore (lv' := [(6, .int (M.1 12)), (5, .int 0), (4, .int (nI (6 * t))), (0, .ref b), (1, .ref (ad 0)), (2, .ref (ad2 0)), (3, .ref ao)]) hx hb d_La_law_371 hl (by decide) rfl (fun ls hl => ?_)
      refine lv_aload_n hx hb d_La_law_373 rfl (lv_at hl 5 rfl) ?_
      refine cvI C v_La_71 [] [] (c_Mo_thrown l g ad2 (poleM np a1 a2 M)) hP hD hS [39, 40, 41, 42, 43, 44, 45, 46, 47, 48, 49, 50, 51, 52, 53, 54, 55, 56, 57, 58, 59] [0, 1, 2, 3, 4, 5, 6, 7, 8, 9, 10, 11, 12, 13, 14, 15, 16, 17, 18, 19, 20, 21, 22, 23, 24, 25, 26, 27, 28, 29, 30, 31, 32, 33, 34, 35, 36, 37, 38, 60] [0, 1, 2, 3, 4, 5, 6, 7, 8, 9, 10, 11, 12, 13, 14, 15, 16, 17, 18, 19, 20, 21, 22, 23, 24, 25, 26, 27, 28, 29, 30, 31, 32, 33, 34, 35, 36, 37, 38, 40, 41, 42, 43, 44, 45, 46, 47, 48, 49, 50, 51, 52, 53, 54, 55, 56, 57, 58, 59, 60, 39] (wL g ad ao (poleK k np a1 a2) x y q (vp_updL o 0 (nI np).toInt64)) (wA g ad ad2 ao (poleK k np a1 a2) x y q (poleM np a1 a2 M) (vp_updL o 0 (nI np).toInt64)) rfl rfl (by decide) (by decide) (by decide) rfl (by decide) 0 rfl rfl rfl rfl hl.1 (Nat.le_of_ble_eq_true rfl) ⟨Nat.le_of_ble_eq_true rfl, Nat.le_of_ble_eq_true rfl⟩ d_La_law_374 ⟨by show 61 + t + 1 + 0 ≤ 601024; omega, by show 8756 + 6 * t + 6 + 0 ≤ 7293034; omega⟩ (fun H locs hP hD hS => ?_)
      refine lv_iload hx hb d_La_law_377 (lv_at hl 1 rfl) ?_
      refine lv_icmp_eq (tgt := 384) hx hb d_La_law_379 (by decide) (fun c379_3 => ?_) (fun c379_3 => ?_)
      rotate_left
      · exact absurd thr_poleM c379_3
      refine lv_iload hx hb d_La_law_384 (lv_at hl 1 rfl) ?_
      refine lv_if_ne (tgt := 401) hx hb d_La_law_386 (by decide) (fun c386_4 => ?_) (fun c386_4 => ?_)
      · exact absurd c386_4 (fun z => z rfl)
      refine lv_aload_n hx hb d_La_law_389 rfl (lv_at hl 6 rfl) ?_
      refine lv_iconst (v := 0) hx hb d_La_law_390 (by decide) ?_
      refine va_lald hx hb hE.1 hP 60 1 rfl rfl (by unfold vp_in; decide) d_La_law_391 ?_
      rw [show (0 : Int32).toNatClampNeg = 0 from by decide]
      refine lv_iload hx hb d_La_law_392 (lv_at hl 0 rfl) ?_
      refine lv_i2l hx hb d_La_law_394 rfl ?_
      refine W.lcmp hx hb d_La_law_395 ?_
      refine lv_if_eq (tgt := 401) hx hb d_La_law_396 (by decide) (fun c396_5 => ?_) (fun c396_5 => ?_)
      rotate_left
      · exact absurd (show lg_cmp _ _ = 0 by rw [lg_cmp_eq]; exact congrArg Int32.toInt64 h.mp.symm) c396_5
      refine lv_goto (tgt := 1069) hx hb d_La_law_401 (by decide) ?_
      exact hk (poleK k np a1 a2) x y q (poleM np a1 a2 M) (vp_updL o 0 (nI np).toInt64) n (np + 1) mm H locs ls (h.pole hp20 v0 v1) hP hD hS (lv_sub hl [2, 3, 4, 5, 6] rfl)
  · refine ckJ C v_La_82 [.ref (ad 0), .int a1, .int a2, .ref ao] [] (c_La_pole_1 l g hfl ad ao k x y q o a1 a2 v) hP hD hS [0, 1, 2, 3, 4, 5, 6, 7, 8, 9, 10, 11, 12, 13, 14, 15, 16, 17, 18, 19, 20, 21, 22, 23, 24, 25, 26, 27, 28, 29, 30, 31, 32, 33, 34, 35, 36, 37, 38, 60] [39, 40, 41, 42, 43, 44, 45, 46, 47, 48, 49, 50, 51, 52, 53, 54, 55, 56, 57, 58, 59] [21, 22, 23, 24, 25, 26, 27, 28, 29, 30, 31, 32, 33, 34, 35, 36, 37, 38, 39, 40, 41, 42, 43, 44, 45, 46, 47, 48, 49, 50, 51, 52, 53, 54, 55, 56, 57, 58, 59, 0, 1, 2, 3, 4, 5, 6, 7, 8, 9, 10, 11, 12, 13, 14, 15, 16, 17, 18, 19, 20, 60] (wM g ad2 M) (wA g ad ad2 ao k x y q M o) rfl rfl (by decide) (by decide) (by decide) rfl (by decide) rfl rfl hl.1 (Nat.le_of_ble_eq_true rfl) ⟨Nat.le_of_ble_eq_true rfl, Nat.le_of_ble_eq_true rfl⟩ d_La_law_350 ⟨by show 61 + t + 1 ≤ 601024; omega, by show 8756 + 6 * t + 6 ≤ 7293034; omega⟩ (fun H locs hP hD hS => ?_)
    refine lv_istore (lv' := [(5, .int 1), (4, .int (nI (6 * t))), (0, .ref b), (1, .ref (ad 0)), (2, .ref (ad2 0)), (3, .ref ao)]) hx hb d_La_law_353 hl (by decide) rfl (fun ls hl => ?_)
    refine lv_aload_n hx hb d_La_law_355 rfl (lv_at hl 4 rfl) ?_
    refine lv_aload_n hx hb d_La_law_356 rfl (lv_at hl 2 rfl) ?_
    refine lv_iload hx hb d_La_law_357 (lv_at hl 1 rfl) ?_
    refine lv_iconst (v := 1) hx hb d_La_law_359 (by decide) ?_
    refine lv_iadd hx hb d_La_law_360 ?_
    rw [ix1]
    refine va_sld hx hb hX hbl hbA hS (vp_in_nI (show 6 * t + 1 < L by omega) (by omega)) d_La_law_361 ?_
    rw [nI_clamp (show 6 * t + 1 < 2 ^ 31 by omega), e1]
    refine lv_aload_n hx hb d_La_law_362 rfl (lv_at hl 2 rfl) ?_
    refine lv_iload hx hb d_La_law_363 (lv_at hl 1 rfl) ?_
    refine lv_iconst (v := 2) hx hb d_La_law_365 (by decide) ?_
    refine lv_iadd hx hb d_La_law_366 ?_
    rw [ix2]
    refine va_sld hx hb hX hbl hbA hS (vp_in_nI (show 6 * t + 2 < L by omega) (by omega)) d_La_law_367 ?_
    rw [nI_clamp (show 6 * t + 2 < 2 ^ 31 by omega), e2]
    refine cvI C v_La_85 [.int a1, .int a2] [] (c_Mo_pole_1 l g ad2 M a1 a2 v) hP hD hS [39, 40, 41, 42, 43, 44, 45, 46, 47, 48, 49, 50, 51, 52, 53, 54, 55, 56, 57, 58, 59] [0, 1, 2, 3, 4, 5, 6, 7, 8, 9, 10, 11, 12, 13, 14, 15, 16, 17, 18, 19, 20, 21, 22, 23, 24, 25, 26, 27, 28, 29, 30, 31, 32, 33, 34, 35, 36, 37, 38, 60] [0, 1, 2, 3, 4, 5, 6, 7, 8, 9, 10, 11, 12, 13, 14, 15, 16, 17, 18, 19, 20, 21, 22, 23, 24, 25, 26, 27, 28, 29, 30, 31, 32, 33, 34, 35, 36, 37, 38, 40, 41, 42, 43, 44, 45, 46, 47, 48, 49, 50, 51, 52, 53, 54, 55, 56, 57, 58, 59, 60, 39] (wL g ad ao k x y q o) (wA g ad ad2 ao k x y q (upd M.1 0 1, M.2) o) rfl rfl (by decide) (by decide) (by decide) rfl (by decide) 0 rfl rfl rfl rfl hl.1 (Nat.le_of_ble_eq_true rfl) ⟨Nat.le_of_ble_eq_true rfl, Nat.le_of_ble_eq_true rfl⟩ d_La_law_368 ⟨by show 61 + t + 1 + 0 ≤ 601024; omega, by show 8756 + 6 * t + 6 + 0 ≤ 7293034; omega⟩ (fun H locs hP hD hS => ?_)
    refine lv_istore (lv' := [(6, .int 0), (5, .int 1), (4, .int (nI (6 * t))), (0, .ref b), (1, .ref (ad 0)), (2, .ref (ad2 0)), (3, .ref ao)]) hx hb d_La_law_371 hl (by decide) rfl (fun ls hl => ?_)
    refine lv_aload_n hx hb d_La_law_373 rfl (lv_at hl 5 rfl) ?_
    refine cvI C v_La_71 [] [] (c_Mo_thrown l g ad2 (upd M.1 0 1, M.2)) hP hD hS [39, 40, 41, 42, 43, 44, 45, 46, 47, 48, 49, 50, 51, 52, 53, 54, 55, 56, 57, 58, 59] [0, 1, 2, 3, 4, 5, 6, 7, 8, 9, 10, 11, 12, 13, 14, 15, 16, 17, 18, 19, 20, 21, 22, 23, 24, 25, 26, 27, 28, 29, 30, 31, 32, 33, 34, 35, 36, 37, 38, 60] [0, 1, 2, 3, 4, 5, 6, 7, 8, 9, 10, 11, 12, 13, 14, 15, 16, 17, 18, 19, 20, 21, 22, 23, 24, 25, 26, 27, 28, 29, 30, 31, 32, 33, 34, 35, 36, 37, 38, 40, 41, 42, 43, 44, 45, 46, 47, 48, 49, 50, 51, 52, 53, 54, 55, 56, 57, 58, 59, 60, 39] (wL g ad ao k x y q o) (wA g ad ad2 ao k x y q (upd M.1 0 1, M.2) o) rfl rfl (by decide) (by decide) (by decide) rfl (by decide) 0 rfl rfl rfl rfl hl.1 (Nat.le_of_ble_eq_true rfl) ⟨Nat.le_of_ble_eq_true rfl, Nat.le_of_ble_eq_true rfl⟩ d_La_law_374 ⟨by show 61 + t + 1 + 0 ≤ 601024; omega, by show 8756 + 6 * t + 6 + 0 ≤ 7293034; omega⟩ (fun H locs hP hD hS => ?_)
    refine lv_iload hx hb d_La_law_377 (lv_at hl 1 rfl) ?_
    refine lv_icmp_eq (tgt := 384) hx hb d_La_law_379 (by decide) (fun c379_6 => ?_) (fun c379_6 => ?_)
    rotate_left
    · exact absurd thr1 c379_6
    refine lv_iload hx hb d_La_law_384 (lv_at hl 1 rfl) ?_
    refine lv_if_ne (tgt := 401) hx hb d_La_law_386 (by decide) (fun c386_7 => ?_) (fun c386_7 => ?_)
    rotate_left
    · exact absurd c386_7 (by decide)
    refine lv_goto (tgt := 1069) hx hb d_La_law_401 (by decide) ?_
    exact hk k x y q (upd M.1 0 1, M.2) o n np mm H locs ls (h.thr 1) hP hD hS (lv_sub hl [2, 3, 4, 5, 6] rfl)
set_option maxHeartbeats 4000000 in
set_option maxRecDepth 100000 in
theorem law_go {l : Launch} {g : Glob} {p : Program} {e : Env} {s : State} {m : MethodId} {below : List Frame} {meth : Method} {c : Code} {A : Nat → Prop} {Q : State → Prop} {b L : Nat} {xs : Nat → Int32} (hfl : l.flags = pinnedFlags ++ [noTraceFlag]) (C : Cx g R_law b_La_law 7 A p s m #[Value.ref b] c) (hX : va_X b L xs s s.heap) (hbl : b < s.heap.size) (hbA : ¬ A b) {ad ad2 : Nat → Nat} {ao t : Nat} (hL : L ≤ 3072) (ht : 6 * t + 6 ≤ L) {k : CFG} {x y : RS} {q : PLS} {M : MS} {o : Nat → Int64} {n np : Nat} {mm : Nat → Nat} (h : Rel k x y q M n np mm) {H : Heap} {locs : List Loc} {ls : Array Slot} (hP : va_P g.1 classes (wA g ad ad2 ao k x y q M o) H) (hD : va_D A (wA g ad ad2 ao k x y q M o)) (hS : va_S A s.heap H locs) (hl : lv_has ls 7 [(4, .int (nI (6 * t))), (0, .ref b), (1, .ref (ad 0)), (2, .ref (ad2 0)), (3, .ref ao)]) (a1 a2 a3 : Int32) (e1 : xs (6 * t + 1) = a1) (e2 : xs (6 * t + 2) = a2) (e3 : xs (6 * t + 3) = a3)
    (hk : ∀ (k : CFG) (x y : RS) (q : PLS) (M : MS) (o : Nat → Int64) (n np : Nat) (mm : Nat → Nat) (H : Heap) (locs : List Loc) (ls : Array Slot), Rel k x y q M n np mm → va_P g.1 classes (wA g ad ad2 ao k x y q M o) H → va_D A (wA g ad ad2 ao k x y q M o) → va_S A s.heap H locs → lv_has ls 7 [(4, .int (nI (6 * t))), (0, .ref b), (1, .ref (ad 0)), (2, .ref (ad2 0)), (3, .ref ao)] → W p l e room_1 s m #[Value.ref b] below meth c H locs (61 + t + 1) (8756 + 6 * t + 6) Q (F0 m 1069 ls [])) :
    W p l e room_1 s m #[Value.ref b] below meth c H locs (61 + t) (8756 + 6 * t) Q (F0 m 404 ls []) := by
  obtain ⟨hx, hb, hml, hown, hw, hE, hA⟩ := id C
  refine lv_aload_n hx hb d_La_law_404 rfl (lv_at hl 2 rfl) ?_
  refine lv_aload_n hx hb d_La_law_405 rfl (lv_at hl 1 rfl) ?_
  refine lv_iload hx hb d_La_law_406 (lv_at hl 0 rfl) ?_
  refine lv_iconst (v := 1) hx hb d_La_law_408 (by decide) ?_
  refine lv_iadd hx hb d_La_law_409 ?_
  rw [ix1]
  refine va_sld hx hb hX hbl hbA hS (vp_in_nI (show 6 * t + 1 < L by omega) (by omega)) d_La_law_410 ?_
  rw [nI_clamp (show 6 * t + 1 < 2 ^ 31 by omega), e1]
  refine lv_aload_n hx hb d_La_law_411 rfl (lv_at hl 1 rfl) ?_
  refine lv_iload hx hb d_La_law_412 (lv_at hl 0 rfl) ?_
  refine lv_iconst (v := 2) hx hb d_La_law_414 (by decide) ?_
  refine lv_iadd hx hb d_La_law_415 ?_
  rw [ix2]
  refine va_sld hx hb hX hbl hbA hS (vp_in_nI (show 6 * t + 2 < L by omega) (by omega)) d_La_law_416 ?_
  rw [nI_clamp (show 6 * t + 2 < 2 ^ 31 by omega), e2]
  refine lv_aload_n hx hb d_La_law_417 rfl (lv_at hl 1 rfl) ?_
  refine lv_iload hx hb d_La_law_418 (lv_at hl 0 rfl) ?_
  refine lv_iconst (v := 3) hx hb d_La_law_420 (by decide) ?_
  refine lv_iadd hx hb d_La_law_421 ?_
  rw [ix3]
  refine va_sld hx hb hX hbl hbA hS (vp_in_nI (show 6 * t + 3 < L by omega) (by omega)) d_La_law_422 ?_
  rw [nI_clamp (show 6 * t + 3 < 2 ^ 31 by omega), e3]
  refine lv_if_eq (tgt := 430) hx hb d_La_law_423 (by decide) (fun c423_1 => ?_) (fun c423_1 => ?_)
  · refine lv_iconst (v := 0) hx hb d_La_law_430 (by decide) ?_
    refine lv_aload_n hx hb d_La_law_431 rfl (lv_at hl 4 rfl) ?_
    by_cases v : (inI a1 (-3) 3 = 1 ∧ inI a2 1 200 = 1)
    · obtain ⟨v0, v1⟩ := v
      by_cases hf : n = 0
      · refine ckJ C v_La_86 [.ref (ad 0), .int a1, .int a2, .int 0, .ref ao] [] (c_La_go_2 l g hfl ad ao k x y q o a1 a2 0 v0 v1 (h.kz.1.mpr hf)) hP hD hS [0, 1, 2, 3, 4, 5, 6, 7, 8, 9, 10, 11, 12, 13, 14, 15, 16, 17, 18, 19, 20, 21, 22, 23, 24, 25, 26, 27, 28, 29, 30, 31, 32, 33, 34, 35, 36, 37, 38, 60] [39, 40, 41, 42, 43, 44, 45, 46, 47, 48, 49, 50, 51, 52, 53, 54, 55, 56, 57, 58, 59] [21, 22, 23, 24, 25, 26, 27, 28, 29, 30, 31, 32, 33, 34, 35, 36, 37, 38, 39, 40, 41, 42, 43, 44, 45, 46, 47, 48, 49, 50, 51, 52, 53, 54, 55, 56, 57, 58, 59, 0, 1, 2, 3, 4, 5, 6, 7, 8, 9, 10, 11, 12, 13, 14, 15, 16, 17, 18, 19, 20, 60] (wM g ad2 M) (wA g ad ad2 ao k x y q M o) rfl rfl (by decide) (by decide) (by decide) rfl (by decide) rfl rfl hl.1 (Nat.le_of_ble_eq_true rfl) ⟨Nat.le_of_ble_eq_true rfl, Nat.le_of_ble_eq_true rfl⟩ d_La_law_432 ⟨by show 61 + t + 1 ≤ 601024; omega, by show 8756 + 6 * t + 6 ≤ 7293034; omega⟩ (fun H locs hP hD hS => ?_)
        refine lv_istore (lv' := [(5, .int 2), (4, .int (nI (6 * t))), (0, .ref b), (1, .ref (ad 0)), (2, .ref (ad2 0)), (3, .ref ao)]) hx hb d_La_law_435 hl (by decide) rfl (fun ls hl => ?_)
        refine lv_aload_n hx hb d_La_law_437 rfl (lv_at hl 4 rfl) ?_
        refine lv_aload_n hx hb d_La_law_438 rfl (lv_at hl 2 rfl) ?_
        refine lv_iload hx hb d_La_law_439 (lv_at hl 1 rfl) ?_
        refine lv_iconst (v := 1) hx hb d_La_law_441 (by decide) ?_
        refine lv_iadd hx hb d_La_law_442 ?_
        rw [ix1]
        refine va_sld hx hb hX hbl hbA hS (vp_in_nI (show 6 * t + 1 < L by omega) (by omega)) d_La_law_443 ?_
        rw [nI_clamp (show 6 * t + 1 < 2 ^ 31 by omega), e1]
        refine lv_aload_n hx hb d_La_law_444 rfl (lv_at hl 2 rfl) ?_
        refine lv_iload hx hb d_La_law_445 (lv_at hl 1 rfl) ?_
        refine lv_iconst (v := 2) hx hb d_La_law_447 (by decide) ?_
        refine lv_iadd hx hb d_La_law_448 ?_
        rw [ix2]
        refine va_sld hx hb hX hbl hbA hS (vp_in_nI (show 6 * t + 2 < L by omega) (by omega)) d_La_law_449 ?_
        rw [nI_clamp (show 6 * t + 2 < 2 ^ 31 by omega), e2]
        refine lv_aload_n hx hb d_La_law_450 rfl (lv_at hl 2 rfl) ?_
        refine lv_iload hx hb d_La_law_451 (lv_at hl 1 rfl) ?_
        refine lv_iconst (v := 3) hx hb d_La_law_453 (by decide) ?_
        refine lv_iadd hx hb d_La_law_454 ?_
        rw [ix3]
        refine va_sld hx hb hX hbl hbA hS (vp_in_nI (show 6 * t + 3 < L by omega) (by omega)) d_La_law_455 ?_
        rw [nI_clamp (show 6 * t + 3 < 2 ^ 31 by omega), e3]
        refine lv_if_eq (tgt := 463) hx hb d_La_law_456 (by decide) (fun c456_2 => ?_) (fun c456_2 => ?_)
        rotate_left
        · exact absurd c423_1 c456_2
        refine lv_iconst (v := 0) hx hb d_La_law_463 (by decide) ?_
        refine cvI C v_La_89 [.int a1, .int a2, .int 0] [] (c_Mo_go_2 l g ad2 M a1 a2 0 v0 v1 (h.kz.2.mpr hf)) hP hD hS [39, 40, 41, 42, 43, 44, 45, 46, 47, 48, 49, 50, 51, 52, 53, 54, 55, 56, 57, 58, 59] [0, 1, 2, 3, 4, 5, 6, 7, 8, 9, 10, 11, 12, 13, 14, 15, 16, 17, 18, 19, 20, 21, 22, 23, 24, 25, 26, 27, 28, 29, 30, 31, 32, 33, 34, 35, 36, 37, 38, 60] [0, 1, 2, 3, 4, 5, 6, 7, 8, 9, 10, 11, 12, 13, 14, 15, 16, 17, 18, 19, 20, 21, 22, 23, 24, 25, 26, 27, 28, 29, 30, 31, 32, 33, 34, 35, 36, 37, 38, 40, 41, 42, 43, 44, 45, 46, 47, 48, 49, 50, 51, 52, 53, 54, 55, 56, 57, 58, 59, 60, 39] (wL g ad ao k x y q o) (wA g ad ad2 ao k x y q (upd M.1 0 2, M.2) o) rfl rfl (by decide) (by decide) (by decide) rfl (by decide) 0 rfl rfl rfl rfl hl.1 (Nat.le_of_ble_eq_true rfl) ⟨Nat.le_of_ble_eq_true rfl, Nat.le_of_ble_eq_true rfl⟩ d_La_law_464 ⟨by show 61 + t + 1 + 0 ≤ 601024; omega, by show 8756 + 6 * t + 6 + 0 ≤ 7293034; omega⟩ (fun H locs hP hD hS => ?_)
        refine lv_istore (lv' := [(6, .int 0), (5, .int 2), (4, .int (nI (6 * t))), (0, .ref b), (1, .ref (ad 0)), (2, .ref (ad2 0)), (3, .ref ao)]) hx hb d_La_law_467 hl (by decide) rfl (fun ls hl => ?_)
        refine lv_aload_n hx hb d_La_law_469 rfl (lv_at hl 5 rfl) ?_
        refine cvI C v_La_71 [] [] (c_Mo_thrown l g ad2 (upd M.1 0 2, M.2)) hP hD hS [39, 40, 41, 42, 43, 44, 45, 46, 47, 48, 49, 50, 51, 52, 53, 54, 55, 56, 57, 58, 59] [0, 1, 2, 3, 4, 5, 6, 7, 8, 9, 10, 11, 12, 13, 14, 15, 16, 17, 18, 19, 20, 21, 22, 23, 24, 25, 26, 27, 28, 29, 30, 31, 32, 33, 34, 35, 36, 37, 38, 60] [0, 1, 2, 3, 4, 5, 6, 7, 8, 9, 10, 11, 12, 13, 14, 15, 16, 17, 18, 19, 20, 21, 22, 23, 24, 25, 26, 27, 28, 29, 30, 31, 32, 33, 34, 35, 36, 37, 38, 40, 41, 42, 43, 44, 45, 46, 47, 48, 49, 50, 51, 52, 53, 54, 55, 56, 57, 58, 59, 60, 39] (wL g ad ao k x y q o) (wA g ad ad2 ao k x y q (upd M.1 0 2, M.2) o) rfl rfl (by decide) (by decide) (by decide) rfl (by decide) 0 rfl rfl rfl rfl hl.1 (Nat.le_of_ble_eq_true rfl) ⟨Nat.le_of_ble_eq_true rfl, Nat.le_of_ble_eq_true rfl⟩ d_La_law_470 ⟨by show 61 + t + 1 + 0 ≤ 601024; omega, by show 8756 + 6 * t + 6 + 0 ≤ 7293034; omega⟩ (fun H locs hP hD hS => ?_)
        refine lv_iload hx hb d_La_law_473 (lv_at hl 1 rfl) ?_
        refine lv_icmp_eq (tgt := 480) hx hb d_La_law_475 (by decide) (fun c475_3 => ?_) (fun c475_3 => ?_)
        rotate_left
        · exact absurd thr1 c475_3
        refine lv_iload hx hb d_La_law_480 (lv_at hl 1 rfl) ?_
        refine lv_if_ne (tgt := 497) hx hb d_La_law_482 (by decide) (fun c482_4 => ?_) (fun c482_4 => ?_)
        rotate_left
        · exact absurd c482_4 (by decide)
        refine lv_goto (tgt := 1069) hx hb d_La_law_497 (by decide) ?_
        exact hk k x y q (upd M.1 0 2, M.2) o n np mm H locs ls (h.thr 2) hP hD hS (lv_sub hl [2, 3, 4, 5, 6] rfl)
      · obtain ⟨N, hN6, hN⟩ := in200 v1
        refine ckJ C v_La_86 [.ref (ad 0), .int a1, .int a2, .int 0, .ref ao] [] (c_La_go_0 l g ad ao k x y q o n h.kn h.n3 np h.kp h.p20 a1 a2 0 v0 v1 (fun z => hf (h.kz.1.mp z)) N hN hN6) hP hD hS [0, 1, 2, 3, 4, 5, 6, 7, 8, 9, 10, 11, 12, 13, 14, 15, 16, 17, 18, 19, 20, 21, 22, 23, 24, 25, 26, 27, 28, 29, 30, 31, 32, 33, 34, 35, 36, 37, 38, 60] [39, 40, 41, 42, 43, 44, 45, 46, 47, 48, 49, 50, 51, 52, 53, 54, 55, 56, 57, 58, 59] [21, 22, 23, 24, 25, 26, 27, 28, 29, 30, 31, 32, 33, 34, 35, 36, 37, 38, 39, 40, 41, 42, 43, 44, 45, 46, 47, 48, 49, 50, 51, 52, 53, 54, 55, 56, 57, 58, 59, 0, 1, 2, 3, 4, 5, 6, 7, 8, 9, 10, 11, 12, 13, 14, 15, 16, 17, 18, 19, 20, 60] (wM g ad2 M) (wA g ad ad2 ao k (walkF k n np a1 N 0 x) y q M (vp_updL o 0 ((walkF k n np a1 N 0 x).2.1 0).toInt64)) rfl rfl (by decide) (by decide) (by decide) rfl (by decide) rfl rfl hl.1 (Nat.le_of_ble_eq_true rfl) ⟨Nat.le_of_ble_eq_true rfl, Nat.le_of_ble_eq_true rfl⟩ d_La_law_432 ⟨by show 61 + t + 1 ≤ 601024; omega, by show 8756 + 6 * t + 6 ≤ 7293034; omega⟩ (fun H locs hP hD hS => ?_)
        refine lv_istore (lv' := [(5, .int 0), (4, .int (nI (6 * t))), (0, .ref b), (1, .ref (ad 0)), (2, .ref (ad2 0)), (3, .ref ao)]) hx hb d_La_law_435 hl (by decide) rfl (fun ls hl => ?_)
        refine lv_aload_n hx hb d_La_law_437 rfl (lv_at hl 4 rfl) ?_
        refine lv_aload_n hx hb d_La_law_438 rfl (lv_at hl 2 rfl) ?_
        refine lv_iload hx hb d_La_law_439 (lv_at hl 1 rfl) ?_
        refine lv_iconst (v := 1) hx hb d_La_law_441 (by decide) ?_
        refine lv_iadd hx hb d_La_law_442 ?_
        rw [ix1]
        refine va_sld hx hb hX hbl hbA hS (vp_in_nI (show 6 * t + 1 < L by omega) (by omega)) d_La_law_443 ?_
        rw [nI_clamp (show 6 * t + 1 < 2 ^ 31 by omega), e1]
        refine lv_aload_n hx hb d_La_law_444 rfl (lv_at hl 2 rfl) ?_
        refine lv_iload hx hb d_La_law_445 (lv_at hl 1 rfl) ?_
        refine lv_iconst (v := 2) hx hb d_La_law_447 (by decide) ?_
        refine lv_iadd hx hb d_La_law_448 ?_
        rw [ix2]
        refine va_sld hx hb hX hbl hbA hS (vp_in_nI (show 6 * t + 2 < L by omega) (by omega)) d_La_law_449 ?_
        rw [nI_clamp (show 6 * t + 2 < 2 ^ 31 by omega), e2]
        refine lv_aload_n hx hb d_La_law_450 rfl (lv_at hl 2 rfl) ?_
        refine lv_iload hx hb d_La_law_451 (lv_at hl 1 rfl) ?_
        refine lv_iconst (v := 3) hx hb d_La_law_453 (by decide) ?_
        refine lv_iadd hx hb d_La_law_454 ?_
        rw [ix3]
        refine va_sld hx hb hX hbl hbA hS (vp_in_nI (show 6 * t + 3 < L by omega) (by omega)) d_La_law_455 ?_
        rw [nI_clamp (show 6 * t + 3 < 2 ^ 31 by omega), e3]
        refine lv_if_eq (tgt := 463) hx hb d_La_law_456 (by decide) (fun c456_5 => ?_) (fun c456_5 => ?_)
        rotate_left
        · exact absurd c423_1 c456_5
        refine lv_iconst (v := 0) hx hb d_La_law_463 (by decide) ?_
        refine cvI C v_La_89 [.int a1, .int a2, .int 0] [] (c_Mo_go_0 l g ad2 M n np h.G h.n3 h.p20 a1 a2 0 v0 v1 (fun z => hf (h.kz.2.mp z)) N hN hN6) hP hD hS [39, 40, 41, 42, 43, 44, 45, 46, 47, 48, 49, 50, 51, 52, 53, 54, 55, 56, 57, 58, 59] [0, 1, 2, 3, 4, 5, 6, 7, 8, 9, 10, 11, 12, 13, 14, 15, 16, 17, 18, 19, 20, 21, 22, 23, 24, 25, 26, 27, 28, 29, 30, 31, 32, 33, 34, 35, 36, 37, 38, 60] [0, 1, 2, 3, 4, 5, 6, 7, 8, 9, 10, 11, 12, 13, 14, 15, 16, 17, 18, 19, 20, 21, 22, 23, 24, 25, 26, 27, 28, 29, 30, 31, 32, 33, 34, 35, 36, 37, 38, 40, 41, 42, 43, 44, 45, 46, 47, 48, 49, 50, 51, 52, 53, 54, 55, 56, 57, 58, 59, 60, 39] (wL g ad ao k (walkF k n np a1 N 0 x) y q (vp_updL o 0 ((walkF k n np a1 N 0 x).2.1 0).toInt64)) (wA g ad ad2 ao k (walkF k n np a1 N 0 x) y q (goM n np a1 N 0 (upd M.1 0 0, M.2)) (vp_updL o 0 ((walkF k n np a1 N 0 x).2.1 0).toInt64)) rfl rfl (by decide) (by decide) (by decide) rfl (by decide) 0 rfl rfl rfl rfl hl.1 (Nat.le_of_ble_eq_true rfl) ⟨Nat.le_of_ble_eq_true rfl, Nat.le_of_ble_eq_true rfl⟩ d_La_law_464 ⟨by show 61 + t + 1 + 0 ≤ 601024; omega, by show 8756 + 6 * t + 6 + 0 ≤ 7293034; omega⟩ (fun H locs hP hD hS => ?_)
        refine lv_istore (lv' := [(6, .int ((goM n np a1 N 0 (upd M.1 0 0, M.2)).1 24)), (5, .int 0), (4, .int (nI (6 * t))), (0, .ref b), (1, .ref (ad 0)), (2, .ref (ad2 0)), (3, .ref ao)]) hx hb d_La_law_467 hl (by decide) rfl (fun ls hl => ?_)
        refine lv_aload_n hx hb d_La_law_469 rfl (lv_at hl 5 rfl) ?_
        refine cvI C v_La_71 [] [] (c_Mo_thrown l g ad2 (goM n np a1 N 0 (upd M.1 0 0, M.2))) hP hD hS [39, 40, 41, 42, 43, 44, 45, 46, 47, 48, 49, 50, 51, 52, 53, 54, 55, 56, 57, 58, 59] [0, 1, 2, 3, 4, 5, 6, 7, 8, 9, 10, 11, 12, 13, 14, 15, 16, 17, 18, 19, 20, 21, 22, 23, 24, 25, 26, 27, 28, 29, 30, 31, 32, 33, 34, 35, 36, 37, 38, 60] [0, 1, 2, 3, 4, 5, 6, 7, 8, 9, 10, 11, 12, 13, 14, 15, 16, 17, 18, 19, 20, 21, 22, 23, 24, 25, 26, 27, 28, 29, 30, 31, 32, 33, 34, 35, 36, 37, 38, 40, 41, 42, 43, 44, 45, 46, 47, 48, 49, 50, 51, 52, 53, 54, 55, 56, 57, 58, 59, 60, 39] (wL g ad ao k (walkF k n np a1 N 0 x) y q (vp_updL o 0 ((walkF k n np a1 N 0 x).2.1 0).toInt64)) (wA g ad ad2 ao k (walkF k n np a1 N 0 x) y q (goM n np a1 N 0 (upd M.1 0 0, M.2)) (vp_updL o 0 ((walkF k n np a1 N 0 x).2.1 0).toInt64)) rfl rfl (by decide) (by decide) (by decide) rfl (by decide) 0 rfl rfl rfl rfl hl.1 (Nat.le_of_ble_eq_true rfl) ⟨Nat.le_of_ble_eq_true rfl, Nat.le_of_ble_eq_true rfl⟩ d_La_law_470 ⟨by show 61 + t + 1 + 0 ≤ 601024; omega, by show 8756 + 6 * t + 6 + 0 ≤ 7293034; omega⟩ (fun H locs hP hD hS => ?_)
        refine lv_iload hx hb d_La_law_473 (lv_at hl 1 rfl) ?_
        refine lv_icmp_eq (tgt := 480) hx hb d_La_law_475 (by decide) (fun c475_6 => ?_) (fun c475_6 => ?_)
        rotate_left
        · exact absurd thr_goM c475_6
        refine lv_iload hx hb d_La_law_480 (lv_at hl 1 rfl) ?_
        refine lv_if_ne (tgt := 497) hx hb d_La_law_482 (by decide) (fun c482_7 => ?_) (fun c482_7 => ?_)
        · exact absurd c482_7 (fun z => z rfl)
        refine lv_aload_n hx hb d_La_law_485 rfl (lv_at hl 6 rfl) ?_
        refine lv_iconst (v := 0) hx hb d_La_law_486 (by decide) ?_
        refine va_lald hx hb hE.1 hP 60 1 rfl rfl (by unfold vp_in; decide) d_La_law_487 ?_
        rw [show (0 : Int32).toNatClampNeg = 0 from by decide]
        refine lv_iload hx hb d_La_law_488 (lv_at hl 0 rfl) ?_
        refine lv_i2l hx hb d_La_law_490 rfl ?_
        refine W.lcmp hx hb d_La_law_491 ?_
        refine lv_if_eq (tgt := 497) hx hb d_La_law_492 (by decide) (fun c492_8 => ?_) (fun c492_8 => ?_)
        rotate_left
        · exact absurd (show lg_cmp _ _ = 0 by rw [lg_cmp_eq]; exact congrArg Int32.toInt64 (h.go a1 N 0).made) c492_8
        refine lv_goto (tgt := 1069) hx hb d_La_law_497 (by decide) ?_
        exact hk k (walkF k n np a1 N 0 x) y q (goM n np a1 N 0 (upd M.1 0 0, M.2)) (vp_updL o 0 ((walkF k n np a1 N 0 x).2.1 0).toInt64) n np mm H locs ls (h.go a1 N 0) hP hD hS (lv_sub hl [2, 3, 4, 5, 6] rfl)
    · refine ckJ C v_La_86 [.ref (ad 0), .int a1, .int a2, .int 0, .ref ao] [] (c_La_go_1 l g hfl ad ao k x y q o a1 a2 0 v) hP hD hS [0, 1, 2, 3, 4, 5, 6, 7, 8, 9, 10, 11, 12, 13, 14, 15, 16, 17, 18, 19, 20, 21, 22, 23, 24, 25, 26, 27, 28, 29, 30, 31, 32, 33, 34, 35, 36, 37, 38, 60] [39, 40, 41, 42, 43, 44, 45, 46, 47, 48, 49, 50, 51, 52, 53, 54, 55, 56, 57, 58, 59] [21, 22, 23, 24, 25, 26, 27, 28, 29, 30, 31, 32, 33, 34, 35, 36, 37, 38, 39, 40, 41, 42, 43, 44, 45, 46, 47, 48, 49, 50, 51, 52, 53, 54, 55, 56, 57, 58, 59, 0, 1, 2, 3, 4, 5, 6, 7, 8, 9, 10, 11, 12, 13, 14, 15, 16, 17, 18, 19, 20, 60] (wM g ad2 M) (wA g ad ad2 ao k x y q M o) rfl rfl (by decide) (by decide) (by decide) rfl (by decide) rfl rfl hl.1 (Nat.le_of_ble_eq_true rfl) ⟨Nat.le_of_ble_eq_true rfl, Nat.le_of_ble_eq_true rfl⟩ d_La_law_432 ⟨by show 61 + t + 1 ≤ 601024; omega, by show 8756 + 6 * t + 6 ≤ 7293034; omega⟩ (fun H locs hP hD hS => ?_)
      refine lv_istore (lv' := [(5, .int 1), (4, .int (nI (6 * t))), (0, .ref b), (1, .ref (ad 0)), (2, .ref (ad2 0)), (3, .ref ao)]) hx hb d_La_law_435 hl (by decide) rfl (fun ls hl => ?_)
      refine lv_aload_n hx hb d_La_law_437 rfl (lv_at hl 4 rfl) ?_
      refine lv_aload_n hx hb d_La_law_438 rfl (lv_at hl 2 rfl) ?_
      refine lv_iload hx hb d_La_law_439 (lv_at hl 1 rfl) ?_
      refine lv_iconst (v := 1) hx hb d_La_law_441 (by decide) ?_
      refine lv_iadd hx hb d_La_law_442 ?_
      rw [ix1]
      refine va_sld hx hb hX hbl hbA hS (vp_in_nI (show 6 * t + 1 < L by omega) (by omega)) d_La_law_443 ?_
      rw [nI_clamp (show 6 * t + 1 < 2 ^ 31 by omega), e1]
      refine lv_aload_n hx hb d_La_law_444 rfl (lv_at hl 2 rfl) ?_
      refine lv_iload hx hb d_La_law_445 (lv_at hl 1 rfl) ?_
      refine lv_iconst (v := 2) hx hb d_La_law_447 (by decide) ?_
      refine lv_iadd hx hb d_La_law_448 ?_
      rw [ix2]
      refine va_sld hx hb hX hbl hbA hS (vp_in_nI (show 6 * t + 2 < L by omega) (by omega)) d_La_law_449 ?_
      rw [nI_clamp (show 6 * t + 2 < 2 ^ 31 by omega), e2]
      refine lv_aload_n hx hb d_La_law_450 rfl (lv_at hl 2 rfl) ?_
      refine lv_iload hx hb d_La_law_451 (lv_at hl 1 rfl) ?_
      refine lv_iconst (v := 3) hx hb d_La_law_453 (by decide) ?_
      refine lv_iadd hx hb d_La_law_454 ?_
      rw [ix3]
      refine va_sld hx hb hX hbl hbA hS (vp_in_nI (show 6 * t + 3 < L by omega) (by omega)) d_La_law_455 ?_
      rw [nI_clamp (show 6 * t + 3 < 2 ^ 31 by omega), e3]
      refine lv_if_eq (tgt := 463) hx hb d_La_law_456 (by decide) (fun c456_9 => ?_) (fun c456_9 => ?_)
      rotate_left
      · exact absurd c423_1 c456_9
      refine lv_iconst (v := 0) hx hb d_La_law_463 (by decide) ?_
      refine cvI C v_La_89 [.int a1, .int a2, .int 0] [] (c_Mo_go_1 l g ad2 M a1 a2 0 v) hP hD hS [39, 40, 41, 42, 43, 44, 45, 46, 47, 48, 49, 50, 51, 52, 53, 54, 55, 56, 57, 58, 59] [0, 1, 2, 3, 4, 5, 6, 7, 8, 9, 10, 11, 12, 13, 14, 15, 16, 17, 18, 19, 20, 21, 22, 23, 24, 25, 26, 27, 28, 29, 30, 31, 32, 33, 34, 35, 36, 37, 38, 60] [0, 1, 2, 3, 4, 5, 6, 7, 8, 9, 10, 11, 12, 13, 14, 15, 16, 17, 18, 19, 20, 21, 22, 23, 24, 25, 26, 27, 28, 29, 30, 31, 32, 33, 34, 35, 36, 37, 38, 40, 41, 42, 43, 44, 45, 46, 47, 48, 49, 50, 51, 52, 53, 54, 55, 56, 57, 58, 59, 60, 39] (wL g ad ao k x y q o) (wA g ad ad2 ao k x y q (upd M.1 0 1, M.2) o) rfl rfl (by decide) (by decide) (by decide) rfl (by decide) 0 rfl rfl rfl rfl hl.1 (Nat.le_of_ble_eq_true rfl) ⟨Nat.le_of_ble_eq_true rfl, Nat.le_of_ble_eq_true rfl⟩ d_La_law_464 ⟨by show 61 + t + 1 + 0 ≤ 601024; omega, by show 8756 + 6 * t + 6 + 0 ≤ 7293034; omega⟩ (fun H locs hP hD hS => ?_)
      refine lv_istore (lv' := [(6, .int 0), (5, .int 1), (4, .int (nI (6 * t))), (0, .ref b), (1, .ref (ad 0)), (2, .ref (ad2 0)), (3, .ref ao)]) hx hb d_La_law_467 hl (by decide) rfl (fun ls hl => ?_)
      refine lv_aload_n hx hb d_La_law_469 rfl (lv_at hl 5 rfl) ?_
      refine cvI C v_La_71 [] [] (c_Mo_thrown l g ad2 (upd M.1 0 1, M.2)) hP hD hS [39, 40, 41, 42, 43, 44, 45, 46, 47, 48, 49, 50, 51, 52, 53, 54, 55, 56, 57, 58, 59] [0, 1, 2, 3, 4, 5, 6, 7, 8, 9, 10, 11, 12, 13, 14, 15, 16, 17, 18, 19, 20, 21, 22, 23, 24, 25, 26, 27, 28, 29, 30, 31, 32, 33, 34, 35, 36, 37, 38, 60] [0, 1, 2, 3, 4, 5, 6, 7, 8, 9, 10, 11, 12, 13, 14, 15, 16, 17, 18, 19, 20, 21, 22, 23, 24, 25, 26, 27, 28, 29, 30, 31, 32, 33, 34, 35, 36, 37, 38, 40, 41, 42, 43, 44, 45, 46, 47, 48, 49, 50, 51, 52, 53, 54, 55, 56, 57, 58, 59, 60, 39] (wL g ad ao k x y q o) (wA g ad ad2 ao k x y q (upd M.1 0 1, M.2) o) rfl rfl (by decide) (by decide) (by decide) rfl (by decide) 0 rfl rfl rfl rfl hl.1 (Nat.le_of_ble_eq_true rfl) ⟨Nat.le_of_ble_eq_true rfl, Nat.le_of_ble_eq_true rfl⟩ d_La_law_470 ⟨by show 61 + t + 1 + 0 ≤ 601024; omega, by show 8756 + 6 * t + 6 + 0 ≤ 7293034; omega⟩ (fun H locs hP hD hS => ?_)
      refine lv_iload hx hb d_La_law_473 (lv_at hl 1 rfl) ?_
      refine lv_icmp_eq (tgt := 480) hx hb d_La_law_475 (by decide) (fun c475_10 => ?_) (fun c475_10 => ?_)
      rotate_left
      · exact absurd thr1 c475_10
      refine lv_iload hx hb d_La_law_480 (lv_at hl 1 rfl) ?_
      refine lv_if_ne (tgt := 497) hx hb d_La_law_482 (by decide) (fun c482_11 => ?_) (fun c482_11 => ?_)
      rotate_left
      · exact absurd c482_11 (by decide)
      refine lv_goto (tgt := 1069) hx hb d_La_law_497 (by decide) ?_
      exact hk k x y q (upd M.1 0 1, M.2) o n np mm H locs ls (h.thr 1) hP hD hS (lv_sub hl [2, 3, 4, 5, 6] rfl)
  · refine lv_iconst (v := 1) hx hb d_La_law_426 (by decide) ?_
    refine lv_goto (tgt := 431) hx hb d_La_law_427 (by decide) ?_
    refine lv_aload_n hx hb d_La_law_431 rfl (lv_at hl 4 rfl) ?_
    by_cases v : (inI a1 (-3) 3 = 1 ∧ inI a2 1 200 = 1)
    · obtain ⟨v0, v1⟩ := v
      by_cases hf : n = 0
      · refine ckJ C v_La_86 [.ref (ad 0), .int a1, .int a2, .int 1, .ref ao] [] (c_La_go_2 l g hfl ad ao k x y q o a1 a2 1 v0 v1 (h.kz.1.mpr hf)) hP hD hS [0, 1, 2, 3, 4, 5, 6, 7, 8, 9, 10, 11, 12, 13, 14, 15, 16, 17, 18, 19, 20, 21, 22, 23, 24, 25, 26, 27, 28, 29, 30, 31, 32, 33, 34, 35, 36, 37, 38, 60] [39, 40, 41, 42, 43, 44, 45, 46, 47, 48, 49, 50, 51, 52, 53, 54, 55, 56, 57, 58, 59] [21, 22, 23, 24, 25, 26, 27, 28, 29, 30, 31, 32, 33, 34, 35, 36, 37, 38, 39, 40, 41, 42, 43, 44, 45, 46, 47, 48, 49, 50, 51, 52, 53, 54, 55, 56, 57, 58, 59, 0, 1, 2, 3, 4, 5, 6, 7, 8, 9, 10, 11, 12, 13, 14, 15, 16, 17, 18, 19, 20, 60] (wM g ad2 M) (wA g ad ad2 ao k x y q M o) rfl rfl (by decide) (by decide) (by decide) rfl (by decide) rfl rfl hl.1 (Nat.le_of_ble_eq_true rfl) ⟨Nat.le_of_ble_eq_true rfl, Nat.le_of_ble_eq_true rfl⟩ d_La_law_432 ⟨by show 61 + t + 1 ≤ 601024; omega, by show 8756 + 6 * t + 6 ≤ 7293034; omega⟩ (fun H locs hP hD hS => ?_)
        refine lv_istore (lv' := [(5, .int 2), (4, .int (nI (6 * t))), (0, .ref b), (1, .ref (ad 0)), (2, .ref (ad2 0)), (3, .ref ao)]) hx hb d_La_law_435 hl (by decide) rfl (fun ls hl => ?_)
        refine lv_aload_n hx hb d_La_law_437 rfl (lv_at hl 4 rfl) ?_
        refine lv_aload_n hx hb d_La_law_438 rfl (lv_at hl 2 rfl) ?_
        refine lv_iload hx hb d_La_law_439 (lv_at hl 1 rfl) ?_
        refine lv_iconst (v := 1) hx hb d_La_law_441 (by decide) ?_
        refine lv_iadd hx hb d_La_law_442 ?_
        rw [ix1]
        refine va_sld hx hb hX hbl hbA hS (vp_in_nI (show 6 * t + 1 < L by omega) (by omega)) d_La_law_443 ?_
        rw [nI_clamp (show 6 * t + 1 < 2 ^ 31 by omega), e1]
        refine lv_aload_n hx hb d_La_law_444 rfl (lv_at hl 2 rfl) ?_
        refine lv_iload hx hb d_La_law_445 (lv_at hl 1 rfl) ?_
        refine lv_iconst (v := 2) hx hb d_La_law_447 (by decide) ?_
        refine lv_iadd hx hb d_La_law_448 ?_
        rw [ix2]
        refine va_sld hx hb hX hbl hbA hS (vp_in_nI (show 6 * t + 2 < L by omega) (by omega)) d_La_law_449 ?_
        rw [nI_clamp (show 6 * t + 2 < 2 ^ 31 by omega), e2]
        refine lv_aload_n hx hb d_La_law_450 rfl (lv_at hl 2 rfl) ?_
        refine lv_iload hx hb d_La_law_451 (lv_at hl 1 rfl) ?_
        refine lv_iconst (v := 3) hx hb d_La_law_453 (by decide) ?_
        refine lv_iadd hx hb d_La_law_454 ?_
        rw [ix3]
        refine va_sld hx hb hX hbl hbA hS (vp_in_nI (show 6 * t + 3 < L by omega) (by omega)) d_La_law_455 ?_
        rw [nI_clamp (show 6 * t + 3 < 2 ^ 31 by omega), e3]
        refine lv_if_eq (tgt := 463) hx hb d_La_law_456 (by decide) (fun c456_12 => ?_) (fun c456_12 => ?_)
        · exact absurd c456_12 c423_1
        refine lv_iconst (v := 1) hx hb d_La_law_459 (by decide) ?_
        refine lv_goto (tgt := 464) hx hb d_La_law_460 (by decide) ?_
        refine cvI C v_La_89 [.int a1, .int a2, .int 1] [] (c_Mo_go_2 l g ad2 M a1 a2 1 v0 v1 (h.kz.2.mpr hf)) hP hD hS [39, 40, 41, 42, 43, 44, 45, 46, 47, 48, 49, 50, 51, 52, 53, 54, 55, 56, 57, 58, 59] [0, 1, 2, 3, 4, 5, 6, 7, 8, 9, 10, 11, 12, 13, 14, 15, 16, 17, 18, 19, 20, 21, 22, 23, 24, 25, 26, 27, 28, 29, 30, 31, 32, 33, 34, 35, 36, 37, 38, 60] [0, 1, 2, 3, 4, 5, 6, 7, 8, 9, 10, 11, 12, 13, 14, 15, 16, 17, 18, 19, 20, 21, 22, 23, 24, 25, 26, 27, 28, 29, 30, 31, 32, 33, 34, 35, 36, 37, 38, 40, 41, 42, 43, 44, 45, 46, 47, 48, 49, 50, 51, 52, 53, 54, 55, 56, 57, 58, 59, 60, 39] (wL g ad ao k x y q o) (wA g ad ad2 ao k x y q (upd M.1 0 2, M.2) o) rfl rfl (by decide) (by decide) (by decide) rfl (by decide) 0 rfl rfl rfl rfl hl.1 (Nat.le_of_ble_eq_true rfl) ⟨Nat.le_of_ble_eq_true rfl, Nat.le_of_ble_eq_true rfl⟩ d_La_law_464 ⟨by show 61 + t + 1 + 0 ≤ 601024; omega, by show 8756 + 6 * t + 6 + 0 ≤ 7293034; omega⟩ (fun H locs hP hD hS => ?_)
        refine lv_istore (lv' := [(6, .int 0), (5, .int 2), (4, .int (nI (6 * t))), (0, .ref b), (1, .ref (ad 0)), (2, .ref (ad2 0)), (3, .ref ao)]) hx hb d_La_law_467 hl (by decide) rfl (fun ls hl => ?_)
        refine lv_aload_n hx hb d_La_law_469 rfl (lv_at hl 5 rfl) ?_
        refine cvI C v_La_71 [] [] (c_Mo_thrown l g ad2 (upd M.1 0 2, M.2)) hP hD hS [39, 40, 41, 42, 43, 44, 45, 46, 47, 48, 49, 50, 51, 52, 53, 54, 55, 56, 57, 58, 59] [0, 1, 2, 3, 4, 5, 6, 7, 8, 9, 10, 11, 12, 13, 14, 15, 16, 17, 18, 19, 20, 21, 22, 23, 24, 25, 26, 27, 28, 29, 30, 31, 32, 33, 34, 35, 36, 37, 38, 60] [0, 1, 2, 3, 4, 5, 6, 7, 8, 9, 10, 11, 12, 13, 14, 15, 16, 17, 18, 19, 20, 21, 22, 23, 24, 25, 26, 27, 28, 29, 30, 31, 32, 33, 34, 35, 36, 37, 38, 40, 41, 42, 43, 44, 45, 46, 47, 48, 49, 50, 51, 52, 53, 54, 55, 56, 57, 58, 59, 60, 39] (wL g ad ao k x y q o) (wA g ad ad2 ao k x y q (upd M.1 0 2, M.2) o) rfl rfl (by decide) (by decide) (by decide) rfl (by decide) 0 rfl rfl rfl rfl hl.1 (Nat.le_of_ble_eq_true rfl) ⟨Nat.le_of_ble_eq_true rfl, Nat.le_of_ble_eq_true rfl⟩ d_La_law_470 ⟨by show 61 + t + 1 + 0 ≤ 601024; omega, by show 8756 + 6 * t + 6 + 0 ≤ 7293034; omega⟩ (fun H locs hP hD hS => ?_)
        refine lv_iload hx hb d_La_law_473 (lv_at hl 1 rfl) ?_
        refine lv_icmp_eq (tgt := 480) hx hb d_La_law_475 (by decide) (fun c475_13 => ?_) (fun c475_13 => ?_)
        rotate_left
        · exact absurd thr1 c475_13
        refine lv_iload hx hb d_La_law_480 (lv_at hl 1 rfl) ?_
        refine lv_if_ne (tgt := 497) hx hb d_La_law_482 (by decide) (fun c482_14 => ?_) (fun c482_14 => ?_)
        rotate_left
        · exact absurd c482_14 (by decide)
        refine lv_goto (tgt := 1069) hx hb d_La_law_497 (by decide) ?_
        exact hk k x y q (upd M.1 0 2, M.2) o n np mm H locs ls (h.thr 2) hP hD hS (lv_sub hl [2, 3, 4, 5, 6] rfl)
      · obtain ⟨N, hN6, hN⟩ := in200 v1
        refine ckJ C v_La_86 [.ref (ad 0), .int a1, .int a2, .int 1, .ref ao] [] (c_La_go_0 l g ad ao k x y q o n h.kn h.n3 np h.kp h.p20 a1 a2 1 v0 v1 (fun z => hf (h.kz.1.mp z)) N hN hN6) hP hD hS [0, 1, 2, 3, 4, 5, 6, 7, 8, 9, 10, 11, 12, 13, 14, 15, 16, 17, 18, 19, 20, 21, 22, 23, 24, 25, 26, 27, 28, 29, 30, 31, 32, 33, 34, 35, 36, 37, 38, 60] [39, 40, 41, 42, 43, 44, 45, 46, 47, 48, 49, 50, 51, 52, 53, 54, 55, 56, 57, 58, 59] [21, 22, 23, 24, 25, 26, 27, 28, 29, 30, 31, 32, 33, 34, 35, 36, 37, 38, 39, 40, 41, 42, 43, 44, 45, 46, 47, 48, 49, 50, 51, 52, 53, 54, 55, 56, 57, 58, 59, 0, 1, 2, 3, 4, 5, 6, 7, 8, 9, 10, 11, 12, 13, 14, 15, 16, 17, 18, 19, 20, 60] (wM g ad2 M) (wA g ad ad2 ao k (walkF k n np a1 N 1 x) y q M (vp_updL o 0 ((walkF k n np a1 N 1 x).2.1 0).toInt64)) rfl rfl (by decide) (by decide) (by decide) rfl (by decide) rfl rfl hl.1 (Nat.le_of_ble_eq_true rfl) ⟨Nat.le_of_ble_eq_true rfl, Nat.le_of_ble_eq_true rfl⟩ d_La_law_432 ⟨by show 61 + t + 1 ≤ 601024; omega, by show 8756 + 6 * t + 6 ≤ 7293034; omega⟩ (fun H locs hP hD hS => ?_)
        refine lv_istore (lv' := [(5, .int 0), (4, .int (nI (6 * t))), (0, .ref b), (1, .ref (ad 0)), (2, .ref (ad2 0)), (3, .ref ao)]) hx hb d_La_law_435 hl (by decide) rfl (fun ls hl => ?_)
        refine lv_aload_n hx hb d_La_law_437 rfl (lv_at hl 4 rfl) ?_
        refine lv_aload_n hx hb d_La_law_438 rfl (lv_at hl 2 rfl) ?_
        refine lv_iload hx hb d_La_law_439 (lv_at hl 1 rfl) ?_
        refine lv_iconst (v := 1) hx hb d_La_law_441 (by decide) ?_
        refine lv_iadd hx hb d_La_law_442 ?_
        rw [ix1]
        refine va_sld hx hb hX hbl hbA hS (vp_in_nI (show 6 * t + 1 < L by omega) (by omega)) d_La_law_443 ?_
        rw [nI_clamp (show 6 * t + 1 < 2 ^ 31 by omega), e1]
        refine lv_aload_n hx hb d_La_law_444 rfl (lv_at hl 2 rfl) ?_
        refine lv_iload hx hb d_La_law_445 (lv_at hl 1 rfl) ?_
        refine lv_iconst (v := 2) hx hb d_La_law_447 (by decide) ?_
        refine lv_iadd hx hb d_La_law_448 ?_
        rw [ix2]
        refine va_sld hx hb hX hbl hbA hS (vp_in_nI (show 6 * t + 2 < L by omega) (by omega)) d_La_law_449 ?_
        rw [nI_clamp (show 6 * t + 2 < 2 ^ 31 by omega), e2]
        refine lv_aload_n hx hb d_La_law_450 rfl (lv_at hl 2 rfl) ?_
        refine lv_iload hx hb d_La_law_451 (lv_at hl 1 rfl) ?_
        refine lv_iconst (v := 3) hx hb d_La_law_453 (by decide) ?_
        refine lv_iadd hx hb d_La_law_454 ?_
        rw [ix3]
        refine va_sld hx hb hX hbl hbA hS (vp_in_nI (show 6 * t + 3 < L by omega) (by omega)) d_La_law_455 ?_
        rw [nI_clamp (show 6 * t + 3 < 2 ^ 31 by omega), e3]
        refine lv_if_eq (tgt := 463) hx hb d_La_law_456 (by decide) (fun c456_15 => ?_) (fun c456_15 => ?_)
        · exact absurd c456_15 c423_1
        refine lv_iconst (v := 1) hx hb d_La_law_459 (by decide) ?_
        refine lv_goto (tgt := 464) hx hb d_La_law_460 (by decide) ?_
        refine cvI C v_La_89 [.int a1, .int a2, .int 1] [] (c_Mo_go_0 l g ad2 M n np h.G h.n3 h.p20 a1 a2 1 v0 v1 (fun z => hf (h.kz.2.mp z)) N hN hN6) hP hD hS [39, 40, 41, 42, 43, 44, 45, 46, 47, 48, 49, 50, 51, 52, 53, 54, 55, 56, 57, 58, 59] [0, 1, 2, 3, 4, 5, 6, 7, 8, 9, 10, 11, 12, 13, 14, 15, 16, 17, 18, 19, 20, 21, 22, 23, 24, 25, 26, 27, 28, 29, 30, 31, 32, 33, 34, 35, 36, 37, 38, 60] [0, 1, 2, 3, 4, 5, 6, 7, 8, 9, 10, 11, 12, 13, 14, 15, 16, 17, 18, 19, 20, 21, 22, 23, 24, 25, 26, 27, 28, 29, 30, 31, 32, 33, 34, 35, 36, 37, 38, 40, 41, 42, 43, 44, 45, 46, 47, 48, 49, 50, 51, 52, 53, 54, 55, 56, 57, 58, 59, 60, 39] (wL g ad ao k (walkF k n np a1 N 1 x) y q (vp_updL o 0 ((walkF k n np a1 N 1 x).2.1 0).toInt64)) (wA g ad ad2 ao k (walkF k n np a1 N 1 x) y q (goM n np a1 N 1 (upd M.1 0 0, M.2)) (vp_updL o 0 ((walkF k n np a1 N 1 x).2.1 0).toInt64)) rfl rfl (by decide) (by decide) (by decide) rfl (by decide) 0 rfl rfl rfl rfl hl.1 (Nat.le_of_ble_eq_true rfl) ⟨Nat.le_of_ble_eq_true rfl, Nat.le_of_ble_eq_true rfl⟩ d_La_law_464 ⟨by show 61 + t + 1 + 0 ≤ 601024; omega, by show 8756 + 6 * t + 6 + 0 ≤ 7293034; omega⟩ (fun H locs hP hD hS => ?_)
        refine lv_istore (lv' := [(6, .int ((goM n np a1 N 1 (upd M.1 0 0, M.2)).1 24)), (5, .int 0), (4, .int (nI (6 * t))), (0, .ref b), (1, .ref (ad 0)), (2, .ref (ad2 0)), (3, .ref ao)]) hx hb d_La_law_467 hl (by decide) rfl (fun ls hl => ?_)
        refine lv_aload_n hx hb d_La_law_469 rfl (lv_at hl 5 rfl) ?_
        refine cvI C v_La_71 [] [] (c_Mo_thrown l g ad2 (goM n np a1 N 1 (upd M.1 0 0, M.2))) hP hD hS [39, 40, 41, 42, 43, 44, 45, 46, 47, 48, 49, 50, 51, 52, 53, 54, 55, 56, 57, 58, 59] [0, 1, 2, 3, 4, 5, 6, 7, 8, 9, 10, 11, 12, 13, 14, 15, 16, 17, 18, 19, 20, 21, 22, 23, 24, 25, 26, 27, 28, 29, 30, 31, 32, 33, 34, 35, 36, 37, 38, 60] [0, 1, 2, 3, 4, 5, 6, 7, 8, 9, 10, 11, 12, 13, 14, 15, 16, 17, 18, 19, 20, 21, 22, 23, 24, 25, 26, 27, 28, 29, 30, 31, 32, 33, 34, 35, 36, 37, 38, 40, 41, 42, 43, 44, 45, 46, 47, 48, 49, 50, 51, 52, 53, 54, 55, 56, 57, 58, 59, 60, 39] (wL g ad ao k (walkF k n np a1 N 1 x) y q (vp_updL o 0 ((walkF k n np a1 N 1 x).2.1 0).toInt64)) (wA g ad ad2 ao k (walkF k n np a1 N 1 x) y q (goM n np a1 N 1 (upd M.1 0 0, M.2)) (vp_updL o 0 ((walkF k n np a1 N 1 x).2.1 0).toInt64)) rfl rfl (by decide) (by decide) (by decide) rfl (by decide) 0 rfl rfl rfl rfl hl.1 (Nat.le_of_ble_eq_true rfl) ⟨Nat.le_of_ble_eq_true rfl, Nat.le_of_ble_eq_true rfl⟩ d_La_law_470 ⟨by show 61 + t + 1 + 0 ≤ 601024; omega, by show 8756 + 6 * t + 6 + 0 ≤ 7293034; omega⟩ (fun H locs hP hD hS => ?_)
        refine lv_iload hx hb d_La_law_473 (lv_at hl 1 rfl) ?_
        refine lv_icmp_eq (tgt := 480) hx hb d_La_law_475 (by decide) (fun c475_16 => ?_) (fun c475_16 => ?_)
        rotate_left
        · exact absurd thr_goM c475_16
        refine lv_iload hx hb d_La_law_480 (lv_at hl 1 rfl) ?_
        refine lv_if_ne (tgt := 497) hx hb d_La_law_482 (by decide) (fun c482_17 => ?_) (fun c482_17 => ?_)
        · exact absurd c482_17 (fun z => z rfl)
        refine lv_aload_n hx hb d_La_law_485 rfl (lv_at hl 6 rfl) ?_
        refine lv_iconst (v := 0) hx hb d_La_law_486 (by decide) ?_
        refine va_lald hx hb hE.1 hP 60 1 rfl rfl (by unfold vp_in; decide) d_La_law_487 ?_
        rw [show (0 : Int32).toNatClampNeg = 0 from by decide]
        refine lv_iload hx hb d_La_law_488 (lv_at hl 0 rfl) ?_
        refine lv_i2l hx hb d_La_law_490 rfl ?_
        refine W.lcmp hx hb d_La_law_491 ?_
        refine lv_if_eq (tgt := 497) hx hb d_La_law_492 (by decide) (fun c492_18 => ?_) (fun c492_18 => ?_)
        rotate_left
        · exact absurd (show lg_cmp _ _ = 0 by rw [lg_cmp_eq]; exact congrArg Int32.toInt64 (h.go a1 N 1).made) c492_18
        refine lv_goto (tgt := 1069) hx hb d_La_law_497 (by decide) ?_
        exact hk k (walkF k n np a1 N 1 x) y q (goM n np a1 N 1 (upd M.1 0 0, M.2)) (vp_updL o 0 ((walkF k n np a1 N 1 x).2.1 0).toInt64) n np mm H locs ls (h.go a1 N 1) hP hD hS (lv_sub hl [2, 3, 4, 5, 6] rfl)
    · refine ckJ C v_La_86 [.ref (ad 0), .int a1, .int a2, .int 1, .ref ao] [] (c_La_go_1 l g hfl ad ao k x y q o a1 a2 1 v) hP hD hS [0, 1, 2, 3, 4, 5, 6, 7, 8, 9, 10, 11, 12, 13, 14, 15, 16, 17, 18, 19, 20, 21, 22, 23, 24, 25, 26, 27, 28, 29, 30, 31, 32, 33, 34, 35, 36, 37, 38, 60] [39, 40, 41, 42, 43, 44, 45, 46, 47, 48, 49, 50, 51, 52, 53, 54, 55, 56, 57, 58, 59] [21, 22, 23, 24, 25, 26, 27, 28, 29, 30, 31, 32, 33, 34, 35, 36, 37, 38, 39, 40, 41, 42, 43, 44, 45, 46, 47, 48, 49, 50, 51, 52, 53, 54, 55, 56, 57, 58, 59, 0, 1, 2, 3, 4, 5, 6, 7, 8, 9, 10, 11, 12, 13, 14, 15, 16, 17, 18, 19, 20, 60] (wM g ad2 M) (wA g ad ad2 ao k x y q M o) rfl rfl (by decide) (by decide) (by decide) rfl (by decide) rfl rfl hl.1 (Nat.le_of_ble_eq_true rfl) ⟨Nat.le_of_ble_eq_true rfl, Nat.le_of_ble_eq_true rfl⟩ d_La_law_432 ⟨by show 61 + t + 1 ≤ 601024; omega, by show 8756 + 6 * t + 6 ≤ 7293034; omega⟩ (fun H locs hP hD hS => ?_)
      refine lv_istore (lv' := [(5, .int 1), (4, .int (nI (6 * t))), (0, .ref b), (1, .ref (ad 0)), (2, .ref (ad2 0)), (3, .ref ao)]) hx hb d_La_law_435 hl (by decide) rfl (fun ls hl => ?_)
      refine lv_aload_n hx hb d_La_law_437 rfl (lv_at hl 4 rfl) ?_
      refine lv_aload_n hx hb d_La_law_438 rfl (lv_at hl 2 rfl) ?_
      refine lv_iload hx hb d_La_law_439 (lv_at hl 1 rfl) ?_
      refine lv_iconst (v := 1) hx hb d_La_law_441 (by decide) ?_
      refine lv_iadd hx hb d_La_law_442 ?_
      rw [ix1]
      refine va_sld hx hb hX hbl hbA hS (vp_in_nI (show 6 * t + 1 < L by omega) (by omega)) d_La_law_443 ?_
      rw [nI_clamp (show 6 * t + 1 < 2 ^ 31 by omega), e1]
      refine lv_aload_n hx hb d_La_law_444 rfl (lv_at hl 2 rfl) ?_
      refine lv_iload hx hb d_La_law_445 (lv_at hl 1 rfl) ?_
      refine lv_iconst (v := 2) hx hb d_La_law_447 (by decide) ?_
      refine lv_iadd hx hb d_La_law_448 ?_
      rw [ix2]
      refine va_sld hx hb hX hbl hbA hS (vp_in_nI (show 6 * t + 2 < L by omega) (by omega)) d_La_law_449 ?_
      rw [nI_clamp (show 6 * t + 2 < 2 ^ 31 by omega), e2]
      refine lv_aload_n hx hb d_La_law_450 rfl (lv_at hl 2 rfl) ?_
      refine lv_iload hx hb d_La_law_451 (lv_at hl 1 rfl) ?_
      refine lv_iconst (v := 3) hx hb d_La_law_453 (by decide) ?_
      refine lv_iadd hx hb d_La_law_454 ?_
      rw [ix3]
      refine va_sld hx hb hX hbl hbA hS (vp_in_nI (show 6 * t + 3 < L by omega) (by omega)) d_La_law_455 ?_
      rw [nI_clamp (show 6 * t + 3 < 2 ^ 31 by omega), e3]
      refine lv_if_eq (tgt := 463) hx hb d_La_law_456 (by decide) (fun c456_19 => ?_) (fun c456_19 => ?_)
      · exact absurd c456_19 c423_1
      refine lv_iconst (v := 1) hx hb d_La_law_459 (by decide) ?_
      refine lv_goto (tgt := 464) hx hb d_La_law_460 (by decide) ?_
      refine cvI C v_La_89 [.int a1, .int a2, .int 1] [] (c_Mo_go_1 l g ad2 M a1 a2 1 v) hP hD hS [39, 40, 41, 42, 43, 44, 45, 46, 47, 48, 49, 50, 51, 52, 53, 54, 55, 56, 57, 58, 59] [0, 1, 2, 3, 4, 5, 6, 7, 8, 9, 10, 11, 12, 13, 14, 15, 16, 17, 18, 19, 20, 21, 22, 23, 24, 25, 26, 27, 28, 29, 30, 31, 32, 33, 34, 35, 36, 37, 38, 60] [0, 1, 2, 3, 4, 5, 6, 7, 8, 9, 10, 11, 12, 13, 14, 15, 16, 17, 18, 19, 20, 21, 22, 23, 24, 25, 26, 27, 28, 29, 30, 31, 32, 33, 34, 35, 36, 37, 38, 40, 41, 42, 43, 44, 45, 46, 47, 48, 49, 50, 51, 52, 53, 54, 55, 56, 57, 58, 59, 60, 39] (wL g ad ao k x y q o) (wA g ad ad2 ao k x y q (upd M.1 0 1, M.2) o) rfl rfl (by decide) (by decide) (by decide) rfl (by decide) 0 rfl rfl rfl rfl hl.1 (Nat.le_of_ble_eq_true rfl) ⟨Nat.le_of_ble_eq_true rfl, Nat.le_of_ble_eq_true rfl⟩ d_La_law_464 ⟨by show 61 + t + 1 + 0 ≤ 601024; omega, by show 8756 + 6 * t + 6 + 0 ≤ 7293034; omega⟩ (fun H locs hP hD hS => ?_)
      refine lv_istore (lv' := [(6, .int 0), (5, .int 1), (4, .int (nI (6 * t))), (0, .ref b), (1, .ref (ad 0)), (2, .ref (ad2 0)), (3, .ref ao)]) hx hb d_La_law_467 hl (by decide) rfl (fun ls hl => ?_)
      refine lv_aload_n hx hb d_La_law_469 rfl (lv_at hl 5 rfl) ?_
      refine cvI C v_La_71 [] [] (c_Mo_thrown l g ad2 (upd M.1 0 1, M.2)) hP hD hS [39, 40, 41, 42, 43, 44, 45, 46, 47, 48, 49, 50, 51, 52, 53, 54, 55, 56, 57, 58, 59] [0, 1, 2, 3, 4, 5, 6, 7, 8, 9, 10, 11, 12, 13, 14, 15, 16, 17, 18, 19, 20, 21, 22, 23, 24, 25, 26, 27, 28, 29, 30, 31, 32, 33, 34, 35, 36, 37, 38, 60] [0, 1, 2, 3, 4, 5, 6, 7, 8, 9, 10, 11, 12, 13, 14, 15, 16, 17, 18, 19, 20, 21, 22, 23, 24, 25, 26, 27, 28, 29, 30, 31, 32, 33, 34, 35, 36, 37, 38, 40, 41, 42, 43, 44, 45, 46, 47, 48, 49, 50, 51, 52, 53, 54, 55, 56, 57, 58, 59, 60, 39] (wL g ad ao k x y q o) (wA g ad ad2 ao k x y q (upd M.1 0 1, M.2) o) rfl rfl (by decide) (by decide) (by decide) rfl (by decide) 0 rfl rfl rfl rfl hl.1 (Nat.le_of_ble_eq_true rfl) ⟨Nat.le_of_ble_eq_true rfl, Nat.le_of_ble_eq_true rfl⟩ d_La_law_470 ⟨by show 61 + t + 1 + 0 ≤ 601024; omega, by show 8756 + 6 * t + 6 + 0 ≤ 7293034; omega⟩ (fun H locs hP hD hS => ?_)
      refine lv_iload hx hb d_La_law_473 (lv_at hl 1 rfl) ?_
      refine lv_icmp_eq (tgt := 480) hx hb d_La_law_475 (by decide) (fun c475_20 => ?_) (fun c475_20 => ?_)
      rotate_left
      · exact absurd thr1 c475_20
      refine lv_iload hx hb d_La_law_480 (lv_at hl 1 rfl) ?_
      refine lv_if_ne (tgt := 497) hx hb d_La_law_482 (by decide) (fun c482_21 => ?_) (fun c482_21 => ?_)
      rotate_left
      · exact absurd c482_21 (by decide)
      refine lv_goto (tgt := 1069) hx hb d_La_law_497 (by decide) ?_
      exact hk k x y q (upd M.1 0 1, M.2) o n np mm H locs ls (h.thr 1) hP hD hS (lv_sub hl [2, 3, 4, 5, 6] rfl)
set_option maxHeartbeats 4000000 in
set_option maxRecDepth 100000 in
theorem law_told {l : Launch} {g : Glob} {p : Program} {e : Env} {s : State} {m : MethodId} {below : List Frame} {meth : Method} {c : Code} {A : Nat → Prop} {Q : State → Prop} {b L : Nat} {xs : Nat → Int32} (hfl : l.flags = pinnedFlags ++ [noTraceFlag]) (C : Cx g R_law b_La_law 7 A p s m #[Value.ref b] c) (hX : va_X b L xs s s.heap) (hbl : b < s.heap.size) (hbA : ¬ A b) {ad ad2 : Nat → Nat} {ao t : Nat} (hL : L ≤ 3072) (ht : 6 * t + 6 ≤ L) {k : CFG} {x y : RS} {q : PLS} {M : MS} {o : Nat → Int64} {n np : Nat} {mm : Nat → Nat} (h : Rel k x y q M n np mm) {H : Heap} {locs : List Loc} {ls : Array Slot} (hP : va_P g.1 classes (wA g ad ad2 ao k x y q M o) H) (hD : va_D A (wA g ad ad2 ao k x y q M o)) (hS : va_S A s.heap H locs) (hl : lv_has ls 7 [(4, .int (nI (6 * t))), (0, .ref b), (1, .ref (ad 0)), (2, .ref (ad2 0)), (3, .ref ao)]) (a1 a2 : Int32) (e1 : xs (6 * t + 1) = a1) (e2 : xs (6 * t + 2) = a2)
    (hk : ∀ (k : CFG) (x y : RS) (q : PLS) (M : MS) (o : Nat → Int64) (n np : Nat) (mm : Nat → Nat) (H : Heap) (locs : List Loc) (ls : Array Slot), Rel k x y q M n np mm → va_P g.1 classes (wA g ad ad2 ao k x y q M o) H → va_D A (wA g ad ad2 ao k x y q M o) → va_S A s.heap H locs → lv_has ls 7 [(4, .int (nI (6 * t))), (0, .ref b), (1, .ref (ad 0)), (2, .ref (ad2 0)), (3, .ref ao)] → W p l e room_1 s m #[Value.ref b] below meth c H locs (61 + t + 1) (8756 + 6 * t + 6) Q (F0 m 1069 ls [])) :
    W p l e room_1 s m #[Value.ref b] below meth c H locs (61 + t) (8756 + 6 * t) Q (F0 m 500 ls []) := by
  obtain ⟨hx, hb, hml, hown, hw, hE, hA⟩ := id C
  refine lv_aload_n hx hb d_La_law_500 rfl (lv_at hl 2 rfl) ?_
  refine lv_aload_n hx hb d_La_law_501 rfl (lv_at hl 1 rfl) ?_
  refine lv_iload hx hb d_La_law_502 (lv_at hl 0 rfl) ?_
  refine lv_iconst (v := 1) hx hb d_La_law_504 (by decide) ?_
  refine lv_iadd hx hb d_La_law_505 ?_
  rw [ix1]
  refine va_sld hx hb hX hbl hbA hS (vp_in_nI (show 6 * t + 1 < L by omega) (by omega)) d_La_law_506 ?_
  rw [nI_clamp (show 6 * t + 1 < 2 ^ 31 by omega), e1]
  refine lv_aload_n hx hb d_La_law_507 rfl (lv_at hl 1 rfl) ?_
  refine lv_iload hx hb d_La_law_508 (lv_at hl 0 rfl) ?_
  refine lv_iconst (v := 2) hx hb d_La_law_510 (by decide) ?_
  refine lv_iadd hx hb d_La_law_511 ?_
  rw [ix2]
  refine va_sld hx hb hX hbl hbA hS (vp_in_nI (show 6 * t + 2 < L by omega) (by omega)) d_La_law_512 ?_
  rw [nI_clamp (show 6 * t + 2 < 2 ^ 31 by omega), e2]
  refine lv_aload_n hx hb d_La_law_513 rfl (lv_at hl 4 rfl) ?_
  have hkm : k.2.1 0 = M.1 2 := h.kn.trans h.mn.symm
  by_cases v : (inI a1 0 (k.2.1 0 - 1) = 1 ∧ inI a2 0 4 = 1)
  · obtain ⟨v0, v1⟩ := v
    obtain ⟨b9, hb9, rfl⟩ := in0n h.n3 h.kn v0
    obtain ⟨w9, hw9, rfl⟩ := in04 v1
    have hb3 : b9 < 3 := by have := h.n3; omega
    refine ckJ C v_La_90 [.ref (ad 0), .int (nI b9), .int (nI w9), .ref ao] [] (c_La_told_0 l g ad ao k x y q o b9 w9 hb3 hw9 v0 v1) hP hD hS [0, 1, 2, 3, 4, 5, 6, 7, 8, 9, 10, 11, 12, 13, 14, 15, 16, 17, 18, 19, 20, 21, 22, 23, 24, 25, 26, 27, 28, 29, 30, 31, 32, 33, 34, 35, 36, 37, 38, 60] [39, 40, 41, 42, 43, 44, 45, 46, 47, 48, 49, 50, 51, 52, 53, 54, 55, 56, 57, 58, 59] [21, 22, 23, 24, 25, 26, 27, 28, 29, 30, 31, 32, 33, 34, 35, 36, 37, 38, 39, 40, 41, 42, 43, 44, 45, 46, 47, 48, 49, 50, 51, 52, 53, 54, 55, 56, 57, 58, 59, 0, 1, 2, 3, 4, 5, 6, 7, 8, 9, 10, 11, 12, 13, 14, 15, 16, 17, 18, 19, 20, 60] (wM g ad2 M) (wA g ad ad2 ao k x y q M (vp_updL o 0 (toldF x b9 (nI w9)).toInt64)) rfl rfl (by decide) (by decide) (by decide) rfl (by decide) rfl rfl hl.1 (Nat.le_of_ble_eq_true rfl) ⟨Nat.le_of_ble_eq_true rfl, Nat.le_of_ble_eq_true rfl⟩ d_La_law_514 ⟨by show 61 + t + 1 ≤ 601024; omega, by show 8756 + 6 * t + 6 ≤ 7293034; omega⟩ (fun H locs hP hD hS => ?_)
    refine lv_istore (lv' := [(5, .int 0), (4, .int (nI (6 * t))), (0, .ref b), (1, .ref (ad 0)), (2, .ref (ad2 0)), (3, .ref ao)]) hx hb d_La_law_517 hl (by decide) rfl (fun ls hl => ?_)
    refine lv_aload_n hx hb d_La_law_519 rfl (lv_at hl 4 rfl) ?_
    refine lv_aload_n hx hb d_La_law_520 rfl (lv_at hl 2 rfl) ?_
    refine lv_iload hx hb d_La_law_521 (lv_at hl 1 rfl) ?_
    refine lv_iconst (v := 1) hx hb d_La_law_523 (by decide) ?_
    refine lv_iadd hx hb d_La_law_524 ?_
    rw [ix1]
    refine va_sld hx hb hX hbl hbA hS (vp_in_nI (show 6 * t + 1 < L by omega) (by omega)) d_La_law_525 ?_
    rw [nI_clamp (show 6 * t + 1 < 2 ^ 31 by omega), e1]
    refine lv_aload_n hx hb d_La_law_526 rfl (lv_at hl 2 rfl) ?_
    refine lv_iload hx hb d_La_law_527 (lv_at hl 1 rfl) ?_
    refine lv_iconst (v := 2) hx hb d_La_law_529 (by decide) ?_
    refine lv_iadd hx hb d_La_law_530 ?_
    rw [ix2]
    refine va_sld hx hb hX hbl hbA hS (vp_in_nI (show 6 * t + 2 < L by omega) (by omega)) d_La_law_531 ?_
    rw [nI_clamp (show 6 * t + 2 < 2 ^ 31 by omega), e2]
    refine cvI C v_La_92 [.int (nI b9), .int (nI w9)] [] (c_Mo_told_0 l g ad2 M b9 hb3 (nI w9) (hkm ▸ v0) v1) hP hD hS [39, 40, 41, 42, 43, 44, 45, 46, 47, 48, 49, 50, 51, 52, 53, 54, 55, 56, 57, 58, 59] [0, 1, 2, 3, 4, 5, 6, 7, 8, 9, 10, 11, 12, 13, 14, 15, 16, 17, 18, 19, 20, 21, 22, 23, 24, 25, 26, 27, 28, 29, 30, 31, 32, 33, 34, 35, 36, 37, 38, 60] [0, 1, 2, 3, 4, 5, 6, 7, 8, 9, 10, 11, 12, 13, 14, 15, 16, 17, 18, 19, 20, 21, 22, 23, 24, 25, 26, 27, 28, 29, 30, 31, 32, 33, 34, 35, 36, 37, 38, 40, 41, 42, 43, 44, 45, 46, 47, 48, 49, 50, 51, 52, 53, 54, 55, 56, 57, 58, 59, 60, 39] (wL g ad ao k x y q (vp_updL o 0 (toldF x b9 (nI w9)).toInt64)) (wA g ad ad2 ao k x y q (upd M.1 0 0, M.2) (vp_updL o 0 (toldF x b9 (nI w9)).toInt64)) rfl rfl (by decide) (by decide) (by decide) rfl (by decide) 0 rfl rfl rfl rfl hl.1 (Nat.le_of_ble_eq_true rfl) ⟨Nat.le_of_ble_eq_true rfl, Nat.le_of_ble_eq_true rfl⟩ d_La_law_532 ⟨by show 61 + t + 1 + 0 ≤ 601024; omega, by show 8756 + 6 * t + 6 + 0 ≤ 7293034; omega⟩ (fun H locs hP hD hS => ?_)
    refine lv_istore (lv' := [(6, .int (toldM M b9 (nI w9))), (5, .int 0), (4, .int (nI (6 * t))), (0, .ref b), (1, .ref (ad 0)), (2, .ref (ad2 0)), (3, .ref ao)]) hx hb d_La_law_535 hl (by decide) rfl (fun ls hl => ?_)
    refine lv_aload_n hx hb d_La_law_537 rfl (lv_at hl 5 rfl) ?_
    refine cvI C v_La_71 [] [] (c_Mo_thrown l g ad2 (upd M.1 0 0, M.2)) hP hD hS [39, 40, 41, 42, 43, 44, 45, 46, 47, 48, 49, 50, 51, 52, 53, 54, 55, 56, 57, 58, 59] [0, 1, 2, 3, 4, 5, 6, 7, 8, 9, 10, 11, 12, 13, 14, 15, 16, 17, 18, 19, 20, 21, 22, 23, 24, 25, 26, 27, 28, 29, 30, 31, 32, 33, 34, 35, 36, 37, 38, 60] [0, 1, 2, 3, 4, 5, 6, 7, 8, 9, 10, 11, 12, 13, 14, 15, 16, 17, 18, 19, 20, 21, 22, 23, 24, 25, 26, 27, 28, 29, 30, 31, 32, 33, 34, 35, 36, 37, 38, 40, 41, 42, 43, 44, 45, 46, 47, 48, 49, 50, 51, 52, 53, 54, 55, 56, 57, 58, 59, 60, 39] (wL g ad ao k x y q (vp_updL o 0 (toldF x b9 (nI w9)).toInt64)) (wA g ad ad2 ao k x y q (upd M.1 0 0, M.2) (vp_updL o 0 (toldF x b9 (nI w9)).toInt64)) rfl rfl (by decide) (by decide) (by decide) rfl (by decide) 0 rfl rfl rfl rfl hl.1 (Nat.le_of_ble_eq_true rfl) ⟨Nat.le_of_ble_eq_true rfl, Nat.le_of_ble_eq_true rfl⟩ d_La_law_538 ⟨by show 61 + t + 1 + 0 ≤ 601024; omega, by show 8756 + 6 * t + 6 + 0 ≤ 7293034; omega⟩ (fun H locs hP hD hS => ?_)
    refine lv_iload hx hb d_La_law_541 (lv_at hl 1 rfl) ?_
    refine lv_icmp_eq (tgt := 548) hx hb d_La_law_543 (by decide) (fun c543_1 => ?_) (fun c543_1 => ?_)
    rotate_left
    · exact absurd thr1 c543_1
    refine lv_iload hx hb d_La_law_548 (lv_at hl 1 rfl) ?_
    refine lv_if_ne (tgt := 565) hx hb d_La_law_550 (by decide) (fun c550_2 => ?_) (fun c550_2 => ?_)
    · exact absurd c550_2 (fun z => z rfl)
    refine lv_aload_n hx hb d_La_law_553 rfl (lv_at hl 6 rfl) ?_
    refine lv_iconst (v := 0) hx hb d_La_law_554 (by decide) ?_
    refine va_lald hx hb hE.1 hP 60 1 rfl rfl (by unfold vp_in; decide) d_La_law_555 ?_
    rw [show (0 : Int32).toNatClampNeg = 0 from by decide]
    refine lv_iload hx hb d_La_law_556 (lv_at hl 0 rfl) ?_
    refine lv_i2l hx hb d_La_law_558 rfl ?_
    refine W.lcmp hx hb d_La_law_559 ?_
    refine lv_if_eq (tgt := 565) hx hb d_La_law_560 (by decide) (fun c560_3 => ?_) (fun c560_3 => ?_)
    rotate_left
    · exact absurd (show lg_cmp _ _ = 0 by rw [lg_cmp_eq]; exact congrArg Int32.toInt64 (h.told hb9 hw9)) c560_3
    refine lv_goto (tgt := 1069) hx hb d_La_law_565 (by decide) ?_
    exact hk k x y q (upd M.1 0 0, M.2) (vp_updL o 0 (toldF x b9 (nI w9)).toInt64) n np mm H locs ls (h.thr 0) hP hD hS (lv_sub hl [2, 3, 4, 5, 6] rfl)
  · refine ckJ C v_La_90 [.ref (ad 0), .int a1, .int a2, .ref ao] [] (c_La_told_1 l g hfl ad ao k x y q o a1 a2 v) hP hD hS [0, 1, 2, 3, 4, 5, 6, 7, 8, 9, 10, 11, 12, 13, 14, 15, 16, 17, 18, 19, 20, 21, 22, 23, 24, 25, 26, 27, 28, 29, 30, 31, 32, 33, 34, 35, 36, 37, 38, 60] [39, 40, 41, 42, 43, 44, 45, 46, 47, 48, 49, 50, 51, 52, 53, 54, 55, 56, 57, 58, 59] [21, 22, 23, 24, 25, 26, 27, 28, 29, 30, 31, 32, 33, 34, 35, 36, 37, 38, 39, 40, 41, 42, 43, 44, 45, 46, 47, 48, 49, 50, 51, 52, 53, 54, 55, 56, 57, 58, 59, 0, 1, 2, 3, 4, 5, 6, 7, 8, 9, 10, 11, 12, 13, 14, 15, 16, 17, 18, 19, 20, 60] (wM g ad2 M) (wA g ad ad2 ao k x y q M o) rfl rfl (by decide) (by decide) (by decide) rfl (by decide) rfl rfl hl.1 (Nat.le_of_ble_eq_true rfl) ⟨Nat.le_of_ble_eq_true rfl, Nat.le_of_ble_eq_true rfl⟩ d_La_law_514 ⟨by show 61 + t + 1 ≤ 601024; omega, by show 8756 + 6 * t + 6 ≤ 7293034; omega⟩ (fun H locs hP hD hS => ?_)
    refine lv_istore (lv' := [(5, .int 1), (4, .int (nI (6 * t))), (0, .ref b), (1, .ref (ad 0)), (2, .ref (ad2 0)), (3, .ref ao)]) hx hb d_La_law_517 hl (by decide) rfl (fun ls hl => ?_)
    refine lv_aload_n hx hb d_La_law_519 rfl (lv_at hl 4 rfl) ?_
    refine lv_aload_n hx hb d_La_law_520 rfl (lv_at hl 2 rfl) ?_
    refine lv_iload hx hb d_La_law_521 (lv_at hl 1 rfl) ?_
    refine lv_iconst (v := 1) hx hb d_La_law_523 (by decide) ?_
    refine lv_iadd hx hb d_La_law_524 ?_
    rw [ix1]
    refine va_sld hx hb hX hbl hbA hS (vp_in_nI (show 6 * t + 1 < L by omega) (by omega)) d_La_law_525 ?_
    rw [nI_clamp (show 6 * t + 1 < 2 ^ 31 by omega), e1]
    refine lv_aload_n hx hb d_La_law_526 rfl (lv_at hl 2 rfl) ?_
    refine lv_iload hx hb d_La_law_527 (lv_at hl 1 rfl) ?_
    refine lv_iconst (v := 2) hx hb d_La_law_529 (by decide) ?_
    refine lv_iadd hx hb d_La_law_530 ?_
    rw [ix2]
    refine va_sld hx hb hX hbl hbA hS (vp_in_nI (show 6 * t + 2 < L by omega) (by omega)) d_La_law_531 ?_
    rw [nI_clamp (show 6 * t + 2 < 2 ^ 31 by omega), e2]
    refine cvI C v_La_92 [.int a1, .int a2] [] (c_Mo_told_1 l g ad2 M a1 a2 (hkm ▸ v)) hP hD hS [39, 40, 41, 42, 43, 44, 45, 46, 47, 48, 49, 50, 51, 52, 53, 54, 55, 56, 57, 58, 59] [0, 1, 2, 3, 4, 5, 6, 7, 8, 9, 10, 11, 12, 13, 14, 15, 16, 17, 18, 19, 20, 21, 22, 23, 24, 25, 26, 27, 28, 29, 30, 31, 32, 33, 34, 35, 36, 37, 38, 60] [0, 1, 2, 3, 4, 5, 6, 7, 8, 9, 10, 11, 12, 13, 14, 15, 16, 17, 18, 19, 20, 21, 22, 23, 24, 25, 26, 27, 28, 29, 30, 31, 32, 33, 34, 35, 36, 37, 38, 40, 41, 42, 43, 44, 45, 46, 47, 48, 49, 50, 51, 52, 53, 54, 55, 56, 57, 58, 59, 60, 39] (wL g ad ao k x y q o) (wA g ad ad2 ao k x y q (upd M.1 0 1, M.2) o) rfl rfl (by decide) (by decide) (by decide) rfl (by decide) 0 rfl rfl rfl rfl hl.1 (Nat.le_of_ble_eq_true rfl) ⟨Nat.le_of_ble_eq_true rfl, Nat.le_of_ble_eq_true rfl⟩ d_La_law_532 ⟨by show 61 + t + 1 + 0 ≤ 601024; omega, by show 8756 + 6 * t + 6 + 0 ≤ 7293034; omega⟩ (fun H locs hP hD hS => ?_)
    refine lv_istore (lv' := [(6, .int 0), (5, .int 1), (4, .int (nI (6 * t))), (0, .ref b), (1, .ref (ad 0)), (2, .ref (ad2 0)), (3, .ref ao)]) hx hb d_La_law_535 hl (by decide) rfl (fun ls hl => ?_)
    refine lv_aload_n hx hb d_La_law_537 rfl (lv_at hl 5 rfl) ?_
    refine cvI C v_La_71 [] [] (c_Mo_thrown l g ad2 (upd M.1 0 1, M.2)) hP hD hS [39, 40, 41, 42, 43, 44, 45, 46, 47, 48, 49, 50, 51, 52, 53, 54, 55, 56, 57, 58, 59] [0, 1, 2, 3, 4, 5, 6, 7, 8, 9, 10, 11, 12, 13, 14, 15, 16, 17, 18, 19, 20, 21, 22, 23, 24, 25, 26, 27, 28, 29, 30, 31, 32, 33, 34, 35, 36, 37, 38, 60] [0, 1, 2, 3, 4, 5, 6, 7, 8, 9, 10, 11, 12, 13, 14, 15, 16, 17, 18, 19, 20, 21, 22, 23, 24, 25, 26, 27, 28, 29, 30, 31, 32, 33, 34, 35, 36, 37, 38, 40, 41, 42, 43, 44, 45, 46, 47, 48, 49, 50, 51, 52, 53, 54, 55, 56, 57, 58, 59, 60, 39] (wL g ad ao k x y q o) (wA g ad ad2 ao k x y q (upd M.1 0 1, M.2) o) rfl rfl (by decide) (by decide) (by decide) rfl (by decide) 0 rfl rfl rfl rfl hl.1 (Nat.le_of_ble_eq_true rfl) ⟨Nat.le_of_ble_eq_true rfl, Nat.le_of_ble_eq_true rfl⟩ d_La_law_538 ⟨by show 61 + t + 1 + 0 ≤ 601024; omega, by show 8756 + 6 * t + 6 + 0 ≤ 7293034; omega⟩ (fun H locs hP hD hS => ?_)
    refine lv_iload hx hb d_La_law_541 (lv_at hl 1 rfl) ?_
    refine lv_icmp_eq (tgt := 548) hx hb d_La_law_543 (by decide) (fun c543_4 => ?_) (fun c543_4 => ?_)
    rotate_left
    · exact absurd thr1 c543_4
    refine lv_iload hx hb d_La_law_548 (lv_at hl 1 rfl) ?_
    refine lv_if_ne (tgt := 565) hx hb d_La_law_550 (by decide) (fun c550_5 => ?_) (fun c550_5 => ?_)
    rotate_left
    · exact absurd c550_5 (by decide)
    refine lv_goto (tgt := 1069) hx hb d_La_law_565 (by decide) ?_
    exact hk k x y q (upd M.1 0 1, M.2) o n np mm H locs ls (h.thr 1) hP hD hS (lv_sub hl [2, 3, 4, 5, 6] rfl)
set_option maxHeartbeats 4000000 in
set_option maxRecDepth 100000 in
theorem law_corner {l : Launch} {g : Glob} {p : Program} {e : Env} {s : State} {m : MethodId} {below : List Frame} {meth : Method} {c : Code} {A : Nat → Prop} {Q : State → Prop} {b L : Nat} {xs : Nat → Int32} (hfl : l.flags = pinnedFlags ++ [noTraceFlag]) (C : Cx g R_law b_La_law 7 A p s m #[Value.ref b] c) (hX : va_X b L xs s s.heap) (hbl : b < s.heap.size) (hbA : ¬ A b) {ad ad2 : Nat → Nat} {ao t : Nat} (hL : L ≤ 3072) (ht : 6 * t + 6 ≤ L) {k : CFG} {x y : RS} {q : PLS} {M : MS} {o : Nat → Int64} {n np : Nat} {mm : Nat → Nat} (h : Rel k x y q M n np mm) {H : Heap} {locs : List Loc} {ls : Array Slot} (hP : va_P g.1 classes (wA g ad ad2 ao k x y q M o) H) (hD : va_D A (wA g ad ad2 ao k x y q M o)) (hS : va_S A s.heap H locs) (hl : lv_has ls 7 [(4, .int (nI (6 * t))), (0, .ref b), (1, .ref (ad 0)), (2, .ref (ad2 0)), (3, .ref ao)]) (a1 a2 a3 : Int32) (e1 : xs (6 * t + 1) = a1) (e2 : xs (6 * t + 2) = a2) (e3 : xs (6 * t + 3) = a3)
    (hk : ∀ (k : CFG) (x y : RS) (q : PLS) (M : MS) (o : Nat → Int64) (n np : Nat) (mm : Nat → Nat) (H : Heap) (locs : List Loc) (ls : Array Slot), Rel k x y q M n np mm → va_P g.1 classes (wA g ad ad2 ao k x y q M o) H → va_D A (wA g ad ad2 ao k x y q M o) → va_S A s.heap H locs → lv_has ls 7 [(4, .int (nI (6 * t))), (0, .ref b), (1, .ref (ad 0)), (2, .ref (ad2 0)), (3, .ref ao)] → W p l e room_1 s m #[Value.ref b] below meth c H locs (61 + t + 1) (8756 + 6 * t + 6) Q (F0 m 1069 ls [])) :
    W p l e room_1 s m #[Value.ref b] below meth c H locs (61 + t) (8756 + 6 * t) Q (F0 m 568 ls []) := by
  obtain ⟨hx, hb, hml, hown, hw, hE, hA⟩ := id C
  refine lv_aload_n hx hb d_La_law_568 rfl (lv_at hl 2 rfl) ?_
  refine lv_aload_n hx hb d_La_law_569 rfl (lv_at hl 1 rfl) ?_
  refine lv_iload hx hb d_La_law_570 (lv_at hl 0 rfl) ?_
  refine lv_iconst (v := 1) hx hb d_La_law_572 (by decide) ?_
  refine lv_iadd hx hb d_La_law_573 ?_
  rw [ix1]
  refine va_sld hx hb hX hbl hbA hS (vp_in_nI (show 6 * t + 1 < L by omega) (by omega)) d_La_law_574 ?_
  rw [nI_clamp (show 6 * t + 1 < 2 ^ 31 by omega), e1]
  refine lv_aload_n hx hb d_La_law_575 rfl (lv_at hl 1 rfl) ?_
  refine lv_iload hx hb d_La_law_576 (lv_at hl 0 rfl) ?_
  refine lv_iconst (v := 2) hx hb d_La_law_578 (by decide) ?_
  refine lv_iadd hx hb d_La_law_579 ?_
  rw [ix2]
  refine va_sld hx hb hX hbl hbA hS (vp_in_nI (show 6 * t + 2 < L by omega) (by omega)) d_La_law_580 ?_
  rw [nI_clamp (show 6 * t + 2 < 2 ^ 31 by omega), e2]
  refine lv_aload_n hx hb d_La_law_581 rfl (lv_at hl 1 rfl) ?_
  refine lv_iload hx hb d_La_law_582 (lv_at hl 0 rfl) ?_
  refine lv_iconst (v := 3) hx hb d_La_law_584 (by decide) ?_
  refine lv_iadd hx hb d_La_law_585 ?_
  rw [ix3]
  refine va_sld hx hb hX hbl hbA hS (vp_in_nI (show 6 * t + 3 < L by omega) (by omega)) d_La_law_586 ?_
  rw [nI_clamp (show 6 * t + 3 < 2 ^ 31 by omega), e3]
  refine lv_aload_n hx hb d_La_law_587 rfl (lv_at hl 4 rfl) ?_
  have hkm : k.2.1 0 = M.1 2 := h.kn.trans h.mn.symm
  by_cases v : (inI a1 0 (k.2.1 0 - 1) = 1 ∧ inI a2 0 3 = 1 ∧ inI a3 0 1 = 1)
  · obtain ⟨v0, v1, v2⟩ := v
    obtain ⟨b9, hb9, rfl⟩ := in0n h.n3 h.kn v0
    have hb3 : b9 < 3 := by have := h.n3; omega
    refine ckJ C v_La_93 [.ref (ad 0), .int (nI b9), .int a2, .int a3, .ref ao] [] (c_La_corner_0 l g ad ao k x y q o b9 hb3 a2 a3 v0 v1 v2) hP hD hS [0, 1, 2, 3, 4, 5, 6, 7, 8, 9, 10, 11, 12, 13, 14, 15, 16, 17, 18, 19, 20, 21, 22, 23, 24, 25, 26, 27, 28, 29, 30, 31, 32, 33, 34, 35, 36, 37, 38, 60] [39, 40, 41, 42, 43, 44, 45, 46, 47, 48, 49, 50, 51, 52, 53, 54, 55, 56, 57, 58, 59] [21, 22, 23, 24, 25, 26, 27, 28, 29, 30, 31, 32, 33, 34, 35, 36, 37, 38, 39, 40, 41, 42, 43, 44, 45, 46, 47, 48, 49, 50, 51, 52, 53, 54, 55, 56, 57, 58, 59, 0, 1, 2, 3, 4, 5, 6, 7, 8, 9, 10, 11, 12, 13, 14, 15, 16, 17, 18, 19, 20, 60] (wM g ad2 M) (wA g ad ad2 ao k x y q M (vp_updL o 0 (cornerF k x b9 a2 a3).toInt64)) rfl rfl (by decide) (by decide) (by decide) rfl (by decide) rfl rfl hl.1 (Nat.le_of_ble_eq_true rfl) ⟨Nat.le_of_ble_eq_true rfl, Nat.le_of_ble_eq_true rfl⟩ d_La_law_588 ⟨by show 61 + t + 1 ≤ 601024; omega, by show 8756 + 6 * t + 6 ≤ 7293034; omega⟩ (fun H locs hP hD hS => ?_)
    refine lv_istore (lv' := [(5, .int 0), (4, .int (nI (6 * t))), (0, .ref b), (1, .ref (ad 0)), (2, .ref (ad2 0)), (3, .ref ao)]) hx hb d_La_law_591 hl (by decide) rfl (fun ls hl => ?_)
    refine lv_aload_n hx hb d_La_law_593 rfl (lv_at hl 4 rfl) ?_
    refine lv_aload_n hx hb d_La_law_594 rfl (lv_at hl 2 rfl) ?_
    refine lv_iload hx hb d_La_law_595 (lv_at hl 1 rfl) ?_
    refine lv_iconst (v := 1) hx hb d_La_law_597 (by decide) ?_
    refine lv_iadd hx hb d_La_law_598 ?_
    rw [ix1]
    refine va_sld hx hb hX hbl hbA hS (vp_in_nI (show 6 * t + 1 < L by omega) (by omega)) d_La_law_599 ?_
    rw [nI_clamp (show 6 * t + 1 < 2 ^ 31 by omega), e1]
    refine lv_aload_n hx hb d_La_law_600 rfl (lv_at hl 2 rfl) ?_
    refine lv_iload hx hb d_La_law_601 (lv_at hl 1 rfl) ?_
    refine lv_iconst (v := 2) hx hb d_La_law_603 (by decide) ?_
    refine lv_iadd hx hb d_La_law_604 ?_
    rw [ix2]
    refine va_sld hx hb hX hbl hbA hS (vp_in_nI (show 6 * t + 2 < L by omega) (by omega)) d_La_law_605 ?_
    rw [nI_clamp (show 6 * t + 2 < 2 ^ 31 by omega), e2]
    refine lv_aload_n hx hb d_La_law_606 rfl (lv_at hl 2 rfl) ?_
    refine lv_iload hx hb d_La_law_607 (lv_at hl 1 rfl) ?_
    refine lv_iconst (v := 3) hx hb d_La_law_609 (by decide) ?_
    refine lv_iadd hx hb d_La_law_610 ?_
    rw [ix3]
    refine va_sld hx hb hX hbl hbA hS (vp_in_nI (show 6 * t + 3 < L by omega) (by omega)) d_La_law_611 ?_
    rw [nI_clamp (show 6 * t + 3 < 2 ^ 31 by omega), e3]
    refine cvI C v_La_96 [.int (nI b9), .int a2, .int a3] [] (c_Mo_corner_0 l g ad2 M h.C.1 b9 hb3 a2 a3 (hkm ▸ v0) v1 v2) hP hD hS [39, 40, 41, 42, 43, 44, 45, 46, 47, 48, 49, 50, 51, 52, 53, 54, 55, 56, 57, 58, 59] [0, 1, 2, 3, 4, 5, 6, 7, 8, 9, 10, 11, 12, 13, 14, 15, 16, 17, 18, 19, 20, 21, 22, 23, 24, 25, 26, 27, 28, 29, 30, 31, 32, 33, 34, 35, 36, 37, 38, 60] [0, 1, 2, 3, 4, 5, 6, 7, 8, 9, 10, 11, 12, 13, 14, 15, 16, 17, 18, 19, 20, 21, 22, 23, 24, 25, 26, 27, 28, 29, 30, 31, 32, 33, 34, 35, 36, 37, 38, 40, 41, 42, 43, 44, 45, 46, 47, 48, 49, 50, 51, 52, 53, 54, 55, 56, 57, 58, 59, 60, 39] (wL g ad ao k x y q (vp_updL o 0 (cornerF k x b9 a2 a3).toInt64)) (wA g ad ad2 ao k x y q (upd M.1 0 0, M.2) (vp_updL o 0 (cornerF k x b9 a2 a3).toInt64)) rfl rfl (by decide) (by decide) (by decide) rfl (by decide) 0 rfl rfl rfl rfl hl.1 (Nat.le_of_ble_eq_true rfl) ⟨Nat.le_of_ble_eq_true rfl, Nat.le_of_ble_eq_true rfl⟩ d_La_law_612 ⟨by show 61 + t + 1 + 0 ≤ 601024; omega, by show 8756 + 6 * t + 6 + 0 ≤ 7293034; omega⟩ (fun H locs hP hD hS => ?_)
    refine lv_istore (lv' := [(6, .int (cornerM M b9 a2 a3)), (5, .int 0), (4, .int (nI (6 * t))), (0, .ref b), (1, .ref (ad 0)), (2, .ref (ad2 0)), (3, .ref ao)]) hx hb d_La_law_615 hl (by decide) rfl (fun ls hl => ?_)
    refine lv_aload_n hx hb d_La_law_617 rfl (lv_at hl 5 rfl) ?_
    refine cvI C v_La_71 [] [] (c_Mo_thrown l g ad2 (upd M.1 0 0, M.2)) hP hD hS [39, 40, 41, 42, 43, 44, 45, 46, 47, 48, 49, 50, 51, 52, 53, 54, 55, 56, 57, 58, 59] [0, 1, 2, 3, 4, 5, 6, 7, 8, 9, 10, 11, 12, 13, 14, 15, 16, 17, 18, 19, 20, 21, 22, 23, 24, 25, 26, 27, 28, 29, 30, 31, 32, 33, 34, 35, 36, 37, 38, 60] [0, 1, 2, 3, 4, 5, 6, 7, 8, 9, 10, 11, 12, 13, 14, 15, 16, 17, 18, 19, 20, 21, 22, 23, 24, 25, 26, 27, 28, 29, 30, 31, 32, 33, 34, 35, 36, 37, 38, 40, 41, 42, 43, 44, 45, 46, 47, 48, 49, 50, 51, 52, 53, 54, 55, 56, 57, 58, 59, 60, 39] (wL g ad ao k x y q (vp_updL o 0 (cornerF k x b9 a2 a3).toInt64)) (wA g ad ad2 ao k x y q (upd M.1 0 0, M.2) (vp_updL o 0 (cornerF k x b9 a2 a3).toInt64)) rfl rfl (by decide) (by decide) (by decide) rfl (by decide) 0 rfl rfl rfl rfl hl.1 (Nat.le_of_ble_eq_true rfl) ⟨Nat.le_of_ble_eq_true rfl, Nat.le_of_ble_eq_true rfl⟩ d_La_law_618 ⟨by show 61 + t + 1 + 0 ≤ 601024; omega, by show 8756 + 6 * t + 6 + 0 ≤ 7293034; omega⟩ (fun H locs hP hD hS => ?_)
    refine lv_iload hx hb d_La_law_621 (lv_at hl 1 rfl) ?_
    refine lv_icmp_eq (tgt := 628) hx hb d_La_law_623 (by decide) (fun c623_1 => ?_) (fun c623_1 => ?_)
    rotate_left
    · exact absurd thr1 c623_1
    refine lv_iload hx hb d_La_law_628 (lv_at hl 1 rfl) ?_
    refine lv_if_ne (tgt := 645) hx hb d_La_law_630 (by decide) (fun c630_2 => ?_) (fun c630_2 => ?_)
    · exact absurd c630_2 (fun z => z rfl)
    refine lv_aload_n hx hb d_La_law_633 rfl (lv_at hl 6 rfl) ?_
    refine lv_iconst (v := 0) hx hb d_La_law_634 (by decide) ?_
    refine va_lald hx hb hE.1 hP 60 1 rfl rfl (by unfold vp_in; decide) d_La_law_635 ?_
    rw [show (0 : Int32).toNatClampNeg = 0 from by decide]
    refine lv_iload hx hb d_La_law_636 (lv_at hl 0 rfl) ?_
    refine lv_i2l hx hb d_La_law_638 rfl ?_
    refine W.lcmp hx hb d_La_law_639 ?_
    refine lv_if_eq (tgt := 645) hx hb d_La_law_640 (by decide) (fun c640_3 => ?_) (fun c640_3 => ?_)
    rotate_left
    · exact absurd (show lg_cmp _ _ = 0 by rw [lg_cmp_eq]; exact congrArg Int32.toInt64 (h.corner hb9 a2 a3)) c640_3
    refine lv_goto (tgt := 1069) hx hb d_La_law_645 (by decide) ?_
    exact hk k x y q (upd M.1 0 0, M.2) (vp_updL o 0 (cornerF k x b9 a2 a3).toInt64) n np mm H locs ls (h.thr 0) hP hD hS (lv_sub hl [2, 3, 4, 5, 6] rfl)
  · refine ckJ C v_La_93 [.ref (ad 0), .int a1, .int a2, .int a3, .ref ao] [] (c_La_corner_1 l g hfl ad ao k x y q o a1 a2 a3 v) hP hD hS [0, 1, 2, 3, 4, 5, 6, 7, 8, 9, 10, 11, 12, 13, 14, 15, 16, 17, 18, 19, 20, 21, 22, 23, 24, 25, 26, 27, 28, 29, 30, 31, 32, 33, 34, 35, 36, 37, 38, 60] [39, 40, 41, 42, 43, 44, 45, 46, 47, 48, 49, 50, 51, 52, 53, 54, 55, 56, 57, 58, 59] [21, 22, 23, 24, 25, 26, 27, 28, 29, 30, 31, 32, 33, 34, 35, 36, 37, 38, 39, 40, 41, 42, 43, 44, 45, 46, 47, 48, 49, 50, 51, 52, 53, 54, 55, 56, 57, 58, 59, 0, 1, 2, 3, 4, 5, 6, 7, 8, 9, 10, 11, 12, 13, 14, 15, 16, 17, 18, 19, 20, 60] (wM g ad2 M) (wA g ad ad2 ao k x y q M o) rfl rfl (by decide) (by decide) (by decide) rfl (by decide) rfl rfl hl.1 (Nat.le_of_ble_eq_true rfl) ⟨Nat.le_of_ble_eq_true rfl, Nat.le_of_ble_eq_true rfl⟩ d_La_law_588 ⟨by show 61 + t + 1 ≤ 601024; omega, by show 8756 + 6 * t + 6 ≤ 7293034; omega⟩ (fun H locs hP hD hS => ?_)
    refine lv_istore (lv' := [(5, .int 1), (4, .int (nI (6 * t))), (0, .ref b), (1, .ref (ad 0)), (2, .ref (ad2 0)), (3, .ref ao)]) hx hb d_La_law_591 hl (by decide) rfl (fun ls hl => ?_)
    refine lv_aload_n hx hb d_La_law_593 rfl (lv_at hl 4 rfl) ?_
    refine lv_aload_n hx hb d_La_law_594 rfl (lv_at hl 2 rfl) ?_
    refine lv_iload hx hb d_La_law_595 (lv_at hl 1 rfl) ?_
    refine lv_iconst (v := 1) hx hb d_La_law_597 (by decide) ?_
    refine lv_iadd hx hb d_La_law_598 ?_
    rw [ix1]
    refine va_sld hx hb hX hbl hbA hS (vp_in_nI (show 6 * t + 1 < L by omega) (by omega)) d_La_law_599 ?_
    rw [nI_clamp (show 6 * t + 1 < 2 ^ 31 by omega), e1]
    refine lv_aload_n hx hb d_La_law_600 rfl (lv_at hl 2 rfl) ?_
    refine lv_iload hx hb d_La_law_601 (lv_at hl 1 rfl) ?_
    refine lv_iconst (v := 2) hx hb d_La_law_603 (by decide) ?_
    refine lv_iadd hx hb d_La_law_604 ?_
    rw [ix2]
    refine va_sld hx hb hX hbl hbA hS (vp_in_nI (show 6 * t + 2 < L by omega) (by omega)) d_La_law_605 ?_
    rw [nI_clamp (show 6 * t + 2 < 2 ^ 31 by omega), e2]
    refine lv_aload_n hx hb d_La_law_606 rfl (lv_at hl 2 rfl) ?_
    refine lv_iload hx hb d_La_law_607 (lv_at hl 1 rfl) ?_
    refine lv_iconst (v := 3) hx hb d_La_law_609 (by decide) ?_
    refine lv_iadd hx hb d_La_law_610 ?_
    rw [ix3]
    refine va_sld hx hb hX hbl hbA hS (vp_in_nI (show 6 * t + 3 < L by omega) (by omega)) d_La_law_611 ?_
    rw [nI_clamp (show 6 * t + 3 < 2 ^ 31 by omega), e3]
    refine cvI C v_La_96 [.int a1, .int a2, .int a3] [] (c_Mo_corner_1 l g ad2 M a1 a2 a3 (hkm ▸ v)) hP hD hS [39, 40, 41, 42, 43, 44, 45, 46, 47, 48, 49, 50, 51, 52, 53, 54, 55, 56, 57, 58, 59] [0, 1, 2, 3, 4, 5, 6, 7, 8, 9, 10, 11, 12, 13, 14, 15, 16, 17, 18, 19, 20, 21, 22, 23, 24, 25, 26, 27, 28, 29, 30, 31, 32, 33, 34, 35, 36, 37, 38, 60] [0, 1, 2, 3, 4, 5, 6, 7, 8, 9, 10, 11, 12, 13, 14, 15, 16, 17, 18, 19, 20, 21, 22, 23, 24, 25, 26, 27, 28, 29, 30, 31, 32, 33, 34, 35, 36, 37, 38, 40, 41, 42, 43, 44, 45, 46, 47, 48, 49, 50, 51, 52, 53, 54, 55, 56, 57, 58, 59, 60, 39] (wL g ad ao k x y q o) (wA g ad ad2 ao k x y q (upd M.1 0 1, M.2) o) rfl rfl (by decide) (by decide) (by decide) rfl (by decide) 0 rfl rfl rfl rfl hl.1 (Nat.le_of_ble_eq_true rfl) ⟨Nat.le_of_ble_eq_true rfl, Nat.le_of_ble_eq_true rfl⟩ d_La_law_612 ⟨by show 61 + t + 1 + 0 ≤ 601024; omega, by show 8756 + 6 * t + 6 + 0 ≤ 7293034; omega⟩ (fun H locs hP hD hS => ?_)
    refine lv_istore (lv' := [(6, .int 0), (5, .int 1), (4, .int (nI (6 * t))), (0, .ref b), (1, .ref (ad 0)), (2, .ref (ad2 0)), (3, .ref ao)]) hx hb d_La_law_615 hl (by decide) rfl (fun ls hl => ?_)
    refine lv_aload_n hx hb d_La_law_617 rfl (lv_at hl 5 rfl) ?_
    refine cvI C v_La_71 [] [] (c_Mo_thrown l g ad2 (upd M.1 0 1, M.2)) hP hD hS [39, 40, 41, 42, 43, 44, 45, 46, 47, 48, 49, 50, 51, 52, 53, 54, 55, 56, 57, 58, 59] [0, 1, 2, 3, 4, 5, 6, 7, 8, 9, 10, 11, 12, 13, 14, 15, 16, 17, 18, 19, 20, 21, 22, 23, 24, 25, 26, 27, 28, 29, 30, 31, 32, 33, 34, 35, 36, 37, 38, 60] [0, 1, 2, 3, 4, 5, 6, 7, 8, 9, 10, 11, 12, 13, 14, 15, 16, 17, 18, 19, 20, 21, 22, 23, 24, 25, 26, 27, 28, 29, 30, 31, 32, 33, 34, 35, 36, 37, 38, 40, 41, 42, 43, 44, 45, 46, 47, 48, 49, 50, 51, 52, 53, 54, 55, 56, 57, 58, 59, 60, 39] (wL g ad ao k x y q o) (wA g ad ad2 ao k x y q (upd M.1 0 1, M.2) o) rfl rfl (by decide) (by decide) (by decide) rfl (by decide) 0 rfl rfl rfl rfl hl.1 (Nat.le_of_ble_eq_true rfl) ⟨Nat.le_of_ble_eq_true rfl, Nat.le_of_ble_eq_true rfl⟩ d_La_law_618 ⟨by show 61 + t + 1 + 0 ≤ 601024; omega, by show 8756 + 6 * t + 6 + 0 ≤ 7293034; omega⟩ (fun H locs hP hD hS => ?_)
    refine lv_iload hx hb d_La_law_621 (lv_at hl 1 rfl) ?_
    refine lv_icmp_eq (tgt := 628) hx hb d_La_law_623 (by decide) (fun c623_4 => ?_) (fun c623_4 => ?_)
    rotate_left
    · exact absurd thr1 c623_4
    refine lv_iload hx hb d_La_law_628 (lv_at hl 1 rfl) ?_
    refine lv_if_ne (tgt := 645) hx hb d_La_law_630 (by decide) (fun c630_5 => ?_) (fun c630_5 => ?_)
    rotate_left
    · exact absurd c630_5 (by decide)
    refine lv_goto (tgt := 1069) hx hb d_La_law_645 (by decide) ?_
    exact hk k x y q (upd M.1 0 1, M.2) o n np mm H locs ls (h.thr 1) hP hD hS (lv_sub hl [2, 3, 4, 5, 6] rfl)
set_option maxHeartbeats 4000000 in
set_option maxRecDepth 100000 in
theorem law_cell {l : Launch} {g : Glob} {p : Program} {e : Env} {s : State} {m : MethodId} {below : List Frame} {meth : Method} {c : Code} {A : Nat → Prop} {Q : State → Prop} {b L : Nat} {xs : Nat → Int32} (hfl : l.flags = pinnedFlags ++ [noTraceFlag]) (C : Cx g R_law b_La_law 7 A p s m #[Value.ref b] c) (hX : va_X b L xs s s.heap) (hbl : b < s.heap.size) (hbA : ¬ A b) {ad ad2 : Nat → Nat} {ao t : Nat} (hL : L ≤ 3072) (ht : 6 * t + 6 ≤ L) {k : CFG} {x y : RS} {q : PLS} {M : MS} {o : Nat → Int64} {n np : Nat} {mm : Nat → Nat} (h : Rel k x y q M n np mm) {H : Heap} {locs : List Loc} {ls : Array Slot} (hP : va_P g.1 classes (wA g ad ad2 ao k x y q M o) H) (hD : va_D A (wA g ad ad2 ao k x y q M o)) (hS : va_S A s.heap H locs) (hl : lv_has ls 7 [(4, .int (nI (6 * t))), (0, .ref b), (1, .ref (ad 0)), (2, .ref (ad2 0)), (3, .ref ao)]) (a1 a2 : Int32) (e1 : xs (6 * t + 1) = a1) (e2 : xs (6 * t + 2) = a2)
    (hk : ∀ (k : CFG) (x y : RS) (q : PLS) (M : MS) (o : Nat → Int64) (n np : Nat) (mm : Nat → Nat) (H : Heap) (locs : List Loc) (ls : Array Slot), Rel k x y q M n np mm → va_P g.1 classes (wA g ad ad2 ao k x y q M o) H → va_D A (wA g ad ad2 ao k x y q M o) → va_S A s.heap H locs → lv_has ls 7 [(4, .int (nI (6 * t))), (0, .ref b), (1, .ref (ad 0)), (2, .ref (ad2 0)), (3, .ref ao)] → W p l e room_1 s m #[Value.ref b] below meth c H locs (61 + t + 1) (8756 + 6 * t + 6) Q (F0 m 1069 ls [])) :
    W p l e room_1 s m #[Value.ref b] below meth c H locs (61 + t) (8756 + 6 * t) Q (F0 m 661 ls []) := by
  obtain ⟨hx, hb, hml, hown, hw, hE, hA⟩ := id C
  refine lv_aload_n hx hb d_La_law_661 rfl (lv_at hl 2 rfl) ?_
  refine lv_aload_n hx hb d_La_law_662 rfl (lv_at hl 1 rfl) ?_
  refine lv_iload hx hb d_La_law_663 (lv_at hl 0 rfl) ?_
  refine lv_iconst (v := 1) hx hb d_La_law_665 (by decide) ?_
  refine lv_iadd hx hb d_La_law_666 ?_
  rw [ix1]
  refine va_sld hx hb hX hbl hbA hS (vp_in_nI (show 6 * t + 1 < L by omega) (by omega)) d_La_law_667 ?_
  rw [nI_clamp (show 6 * t + 1 < 2 ^ 31 by omega), e1]
  refine lv_aload_n hx hb d_La_law_668 rfl (lv_at hl 1 rfl) ?_
  refine lv_iload hx hb d_La_law_669 (lv_at hl 0 rfl) ?_
  refine lv_iconst (v := 2) hx hb d_La_law_671 (by decide) ?_
  refine lv_iadd hx hb d_La_law_672 ?_
  rw [ix2]
  refine va_sld hx hb hX hbl hbA hS (vp_in_nI (show 6 * t + 2 < L by omega) (by omega)) d_La_law_673 ?_
  rw [nI_clamp (show 6 * t + 2 < 2 ^ 31 by omega), e2]
  refine lv_aload_n hx hb d_La_law_674 rfl (lv_at hl 4 rfl) ?_
  by_cases v : (inI a1 (-32) 31 = 1 ∧ inI a2 (-32) 31 = 1)
  · obtain ⟨v0, v1⟩ := v
    refine ckJ C v_La_101 [.ref (ad 0), .int a1, .int a2, .ref ao] [] (c_La_cell_0 l g ad ao k x y q o a1 a2 v0 v1) hP hD hS [0, 1, 2, 3, 4, 5, 6, 7, 8, 9, 10, 11, 12, 13, 14, 15, 16, 17, 18, 19, 20, 21, 22, 23, 24, 25, 26, 27, 28, 29, 30, 31, 32, 33, 34, 35, 36, 37, 38, 60] [39, 40, 41, 42, 43, 44, 45, 46, 47, 48, 49, 50, 51, 52, 53, 54, 55, 56, 57, 58, 59] [21, 22, 23, 24, 25, 26, 27, 28, 29, 30, 31, 32, 33, 34, 35, 36, 37, 38, 39, 40, 41, 42, 43, 44, 45, 46, 47, 48, 49, 50, 51, 52, 53, 54, 55, 56, 57, 58, 59, 0, 1, 2, 3, 4, 5, 6, 7, 8, 9, 10, 11, 12, 13, 14, 15, 16, 17, 18, 19, 20, 60] (wM g ad2 M) (wA g ad ad2 ao k x y q M (vp_updL o 0 (if hasI x.2.2.2 a1 a2 = 0 then 0 else 1))) rfl rfl (by decide) (by decide) (by decide) rfl (by decide) rfl rfl hl.1 (Nat.le_of_ble_eq_true rfl) ⟨Nat.le_of_ble_eq_true rfl, Nat.le_of_ble_eq_true rfl⟩ d_La_law_675 ⟨by show 61 + t + 1 ≤ 601024; omega, by show 8756 + 6 * t + 6 ≤ 7293034; omega⟩ (fun H locs hP hD hS => ?_)
    refine lv_istore (lv' := [(5, .int 0), (4, .int (nI (6 * t))), (0, .ref b), (1, .ref (ad 0)), (2, .ref (ad2 0)), (3, .ref ao)]) hx hb d_La_law_678 hl (by decide) rfl (fun ls hl => ?_)
    refine lv_aload_n hx hb d_La_law_680 rfl (lv_at hl 4 rfl) ?_
    refine lv_aload_n hx hb d_La_law_681 rfl (lv_at hl 2 rfl) ?_
    refine lv_iload hx hb d_La_law_682 (lv_at hl 1 rfl) ?_
    refine lv_iconst (v := 1) hx hb d_La_law_684 (by decide) ?_
    refine lv_iadd hx hb d_La_law_685 ?_
    rw [ix1]
    refine va_sld hx hb hX hbl hbA hS (vp_in_nI (show 6 * t + 1 < L by omega) (by omega)) d_La_law_686 ?_
    rw [nI_clamp (show 6 * t + 1 < 2 ^ 31 by omega), e1]
    refine lv_aload_n hx hb d_La_law_687 rfl (lv_at hl 2 rfl) ?_
    refine lv_iload hx hb d_La_law_688 (lv_at hl 1 rfl) ?_
    refine lv_iconst (v := 2) hx hb d_La_law_690 (by decide) ?_
    refine lv_iadd hx hb d_La_law_691 ?_
    rw [ix2]
    refine va_sld hx hb hX hbl hbA hS (vp_in_nI (show 6 * t + 2 < L by omega) (by omega)) d_La_law_692 ?_
    rw [nI_clamp (show 6 * t + 2 < 2 ^ 31 by omega), e2]
    refine cvI C v_La_103 [.int a1, .int a2] [] (c_Mo_cell_0 l g ad2 M a1 a2 v0 v1) hP hD hS [39, 40, 41, 42, 43, 44, 45, 46, 47, 48, 49, 50, 51, 52, 53, 54, 55, 56, 57, 58, 59] [0, 1, 2, 3, 4, 5, 6, 7, 8, 9, 10, 11, 12, 13, 14, 15, 16, 17, 18, 19, 20, 21, 22, 23, 24, 25, 26, 27, 28, 29, 30, 31, 32, 33, 34, 35, 36, 37, 38, 60] [0, 1, 2, 3, 4, 5, 6, 7, 8, 9, 10, 11, 12, 13, 14, 15, 16, 17, 18, 19, 20, 21, 22, 23, 24, 25, 26, 27, 28, 29, 30, 31, 32, 33, 34, 35, 36, 37, 38, 40, 41, 42, 43, 44, 45, 46, 47, 48, 49, 50, 51, 52, 53, 54, 55, 56, 57, 58, 59, 60, 39] (wL g ad ao k x y q (vp_updL o 0 (if hasI x.2.2.2 a1 a2 = 0 then 0 else 1))) (wA g ad ad2 ao k x y q (upd M.1 0 0, M.2) (vp_updL o 0 (if hasI x.2.2.2 a1 a2 = 0 then 0 else 1))) rfl rfl (by decide) (by decide) (by decide) rfl (by decide) 0 rfl rfl rfl rfl hl.1 (Nat.le_of_ble_eq_true rfl) ⟨Nat.le_of_ble_eq_true rfl, Nat.le_of_ble_eq_true rfl⟩ d_La_law_693 ⟨by show 61 + t + 1 + 0 ≤ 601024; omega, by show 8756 + 6 * t + 6 + 0 ≤ 7293034; omega⟩ (fun H locs hP hD hS => ?_)
    refine lv_istore (lv' := [(6, .int (cellM M a1 a2)), (5, .int 0), (4, .int (nI (6 * t))), (0, .ref b), (1, .ref (ad 0)), (2, .ref (ad2 0)), (3, .ref ao)]) hx hb d_La_law_696 hl (by decide) rfl (fun ls hl => ?_)
    refine lv_aload_n hx hb d_La_law_698 rfl (lv_at hl 5 rfl) ?_
    refine cvI C v_La_71 [] [] (c_Mo_thrown l g ad2 (upd M.1 0 0, M.2)) hP hD hS [39, 40, 41, 42, 43, 44, 45, 46, 47, 48, 49, 50, 51, 52, 53, 54, 55, 56, 57, 58, 59] [0, 1, 2, 3, 4, 5, 6, 7, 8, 9, 10, 11, 12, 13, 14, 15, 16, 17, 18, 19, 20, 21, 22, 23, 24, 25, 26, 27, 28, 29, 30, 31, 32, 33, 34, 35, 36, 37, 38, 60] [0, 1, 2, 3, 4, 5, 6, 7, 8, 9, 10, 11, 12, 13, 14, 15, 16, 17, 18, 19, 20, 21, 22, 23, 24, 25, 26, 27, 28, 29, 30, 31, 32, 33, 34, 35, 36, 37, 38, 40, 41, 42, 43, 44, 45, 46, 47, 48, 49, 50, 51, 52, 53, 54, 55, 56, 57, 58, 59, 60, 39] (wL g ad ao k x y q (vp_updL o 0 (if hasI x.2.2.2 a1 a2 = 0 then 0 else 1))) (wA g ad ad2 ao k x y q (upd M.1 0 0, M.2) (vp_updL o 0 (if hasI x.2.2.2 a1 a2 = 0 then 0 else 1))) rfl rfl (by decide) (by decide) (by decide) rfl (by decide) 0 rfl rfl rfl rfl hl.1 (Nat.le_of_ble_eq_true rfl) ⟨Nat.le_of_ble_eq_true rfl, Nat.le_of_ble_eq_true rfl⟩ d_La_law_699 ⟨by show 61 + t + 1 + 0 ≤ 601024; omega, by show 8756 + 6 * t + 6 + 0 ≤ 7293034; omega⟩ (fun H locs hP hD hS => ?_)
    refine lv_iload hx hb d_La_law_702 (lv_at hl 1 rfl) ?_
    refine lv_icmp_eq (tgt := 709) hx hb d_La_law_704 (by decide) (fun c704_1 => ?_) (fun c704_1 => ?_)
    rotate_left
    · exact absurd thr1 c704_1
    refine lv_iload hx hb d_La_law_709 (lv_at hl 1 rfl) ?_
    refine lv_if_ne (tgt := 733) hx hb d_La_law_711 (by decide) (fun c711_2 => ?_) (fun c711_2 => ?_)
    · exact absurd c711_2 (fun z => z rfl)
    refine lv_aload_n hx hb d_La_law_714 rfl (lv_at hl 6 rfl) ?_
    refine lv_iconst (v := 0) hx hb d_La_law_715 (by decide) ?_
    refine va_lald hx hb hE.1 hP 60 1 rfl rfl (by unfold vp_in; decide) d_La_law_716 ?_
    rw [show (0 : Int32).toNatClampNeg = 0 from by decide]
    refine lv_iload hx hb d_La_law_717 (lv_at hl 0 rfl) ?_
    refine lv_if_eq (tgt := 726) hx hb d_La_law_719 (by decide) (fun c719_3 => ?_) (fun c719_3 => ?_)
    · refine lv_lconst (v := 0) hx hb d_La_law_726 (by decide) ?_
      refine W.lcmp hx hb d_La_law_727 ?_
      refine lv_if_eq (tgt := 733) hx hb d_La_law_728 (by decide) (fun c728_4 => ?_) (fun c728_4 => ?_)
      rotate_left
      · exact absurd (show lg_cmp _ _ = 0 by rw [lg_cmp_eq]; exact if_pos ((h.cell v0 v1).trans c719_3)) c728_4
      refine lv_goto (tgt := 1069) hx hb d_La_law_733 (by decide) ?_
      exact hk k x y q (upd M.1 0 0, M.2) (vp_updL o 0 (if hasI x.2.2.2 a1 a2 = 0 then 0 else 1)) n np mm H locs ls (h.thr 0) hP hD hS (lv_sub hl [2, 3, 4, 5, 6] rfl)
    · refine lv_lconst (v := 1) hx hb d_La_law_722 (by decide) ?_
      refine lv_goto (tgt := 727) hx hb d_La_law_723 (by decide) ?_
      refine W.lcmp hx hb d_La_law_727 ?_
      refine lv_if_eq (tgt := 733) hx hb d_La_law_728 (by decide) (fun c728_5 => ?_) (fun c728_5 => ?_)
      rotate_left
      · exact absurd (show lg_cmp _ _ = 0 by rw [lg_cmp_eq]; exact if_neg (fun z => c719_3 ((h.cell v0 v1).symm.trans z))) c728_5
      refine lv_goto (tgt := 1069) hx hb d_La_law_733 (by decide) ?_
      exact hk k x y q (upd M.1 0 0, M.2) (vp_updL o 0 (if hasI x.2.2.2 a1 a2 = 0 then 0 else 1)) n np mm H locs ls (h.thr 0) hP hD hS (lv_sub hl [2, 3, 4, 5, 6] rfl)
  · refine ckJ C v_La_101 [.ref (ad 0), .int a1, .int a2, .ref ao] [] (c_La_cell_1 l g hfl ad ao k x y q o a1 a2 v) hP hD hS [0, 1, 2, 3, 4, 5, 6, 7, 8, 9, 10, 11, 12, 13, 14, 15, 16, 17, 18, 19, 20, 21, 22, 23, 24, 25, 26, 27, 28, 29, 30, 31, 32, 33, 34, 35, 36, 37, 38, 60] [39, 40, 41, 42, 43, 44, 45, 46, 47, 48, 49, 50, 51, 52, 53, 54, 55, 56, 57, 58, 59] [21, 22, 23, 24, 25, 26, 27, 28, 29, 30, 31, 32, 33, 34, 35, 36, 37, 38, 39, 40, 41, 42, 43, 44, 45, 46, 47, 48, 49, 50, 51, 52, 53, 54, 55, 56, 57, 58, 59, 0, 1, 2, 3, 4, 5, 6, 7, 8, 9, 10, 11, 12, 13, 14, 15, 16, 17, 18, 19, 20, 60] (wM g ad2 M) (wA g ad ad2 ao k x y q M o) rfl rfl (by decide) (by decide) (by decide) rfl (by decide) rfl rfl hl.1 (Nat.le_of_ble_eq_true rfl) ⟨Nat.le_of_ble_eq_true rfl, Nat.le_of_ble_eq_true rfl⟩ d_La_law_675 ⟨by show 61 + t + 1 ≤ 601024; omega, by show 8756 + 6 * t + 6 ≤ 7293034; omega⟩ (fun H locs hP hD hS => ?_)
    refine lv_istore (lv' := [(5, .int 1), (4, .int (nI (6 * t))), (0, .ref b), (1, .ref (ad 0)), (2, .ref (ad2 0)), (3, .ref ao)]) hx hb d_La_law_678 hl (by decide) rfl (fun ls hl => ?_)
    refine lv_aload_n hx hb d_La_law_680 rfl (lv_at hl 4 rfl) ?_
    refine lv_aload_n hx hb d_La_law_681 rfl (lv_at hl 2 rfl) ?_
    refine lv_iload hx hb d_La_law_682 (lv_at hl 1 rfl) ?_
    refine lv_iconst (v := 1) hx hb d_La_law_684 (by decide) ?_
    refine lv_iadd hx hb d_La_law_685 ?_
    rw [ix1]
    refine va_sld hx hb hX hbl hbA hS (vp_in_nI (show 6 * t + 1 < L by omega) (by omega)) d_La_law_686 ?_
    rw [nI_clamp (show 6 * t + 1 < 2 ^ 31 by omega), e1]
    refine lv_aload_n hx hb d_La_law_687 rfl (lv_at hl 2 rfl) ?_
    refine lv_iload hx hb d_La_law_688 (lv_at hl 1 rfl) ?_
    refine lv_iconst (v := 2) hx hb d_La_law_690 (by decide) ?_
    refine lv_iadd hx hb d_La_law_691 ?_
    rw [ix2]
    refine va_sld hx hb hX hbl hbA hS (vp_in_nI (show 6 * t + 2 < L by omega) (by omega)) d_La_law_692 ?_
    rw [nI_clamp (show 6 * t + 2 < 2 ^ 31 by omega), e2]
    refine cvI C v_La_103 [.int a1, .int a2] [] (c_Mo_cell_1 l g ad2 M a1 a2 v) hP hD hS [39, 40, 41, 42, 43, 44, 45, 46, 47, 48, 49, 50, 51, 52, 53, 54, 55, 56, 57, 58, 59] [0, 1, 2, 3, 4, 5, 6, 7, 8, 9, 10, 11, 12, 13, 14, 15, 16, 17, 18, 19, 20, 21, 22, 23, 24, 25, 26, 27, 28, 29, 30, 31, 32, 33, 34, 35, 36, 37, 38, 60] [0, 1, 2, 3, 4, 5, 6, 7, 8, 9, 10, 11, 12, 13, 14, 15, 16, 17, 18, 19, 20, 21, 22, 23, 24, 25, 26, 27, 28, 29, 30, 31, 32, 33, 34, 35, 36, 37, 38, 40, 41, 42, 43, 44, 45, 46, 47, 48, 49, 50, 51, 52, 53, 54, 55, 56, 57, 58, 59, 60, 39] (wL g ad ao k x y q o) (wA g ad ad2 ao k x y q (upd M.1 0 1, M.2) o) rfl rfl (by decide) (by decide) (by decide) rfl (by decide) 0 rfl rfl rfl rfl hl.1 (Nat.le_of_ble_eq_true rfl) ⟨Nat.le_of_ble_eq_true rfl, Nat.le_of_ble_eq_true rfl⟩ d_La_law_693 ⟨by show 61 + t + 1 + 0 ≤ 601024; omega, by show 8756 + 6 * t + 6 + 0 ≤ 7293034; omega⟩ (fun H locs hP hD hS => ?_)
    refine lv_istore (lv' := [(6, .int 0), (5, .int 1), (4, .int (nI (6 * t))), (0, .ref b), (1, .ref (ad 0)), (2, .ref (ad2 0)), (3, .ref ao)]) hx hb d_La_law_696 hl (by decide) rfl (fun ls hl => ?_)
    refine lv_aload_n hx hb d_La_law_698 rfl (lv_at hl 5 rfl) ?_
    refine cvI C v_La_71 [] [] (c_Mo_thrown l g ad2 (upd M.1 0 1, M.2)) hP hD hS [39, 40, 41, 42, 43, 44, 45, 46, 47, 48, 49, 50, 51, 52, 53, 54, 55, 56, 57, 58, 59] [0, 1, 2, 3, 4, 5, 6, 7, 8, 9, 10, 11, 12, 13, 14, 15, 16, 17, 18, 19, 20, 21, 22, 23, 24, 25, 26, 27, 28, 29, 30, 31, 32, 33, 34, 35, 36, 37, 38, 60] [0, 1, 2, 3, 4, 5, 6, 7, 8, 9, 10, 11, 12, 13, 14, 15, 16, 17, 18, 19, 20, 21, 22, 23, 24, 25, 26, 27, 28, 29, 30, 31, 32, 33, 34, 35, 36, 37, 38, 40, 41, 42, 43, 44, 45, 46, 47, 48, 49, 50, 51, 52, 53, 54, 55, 56, 57, 58, 59, 60, 39] (wL g ad ao k x y q o) (wA g ad ad2 ao k x y q (upd M.1 0 1, M.2) o) rfl rfl (by decide) (by decide) (by decide) rfl (by decide) 0 rfl rfl rfl rfl hl.1 (Nat.le_of_ble_eq_true rfl) ⟨Nat.le_of_ble_eq_true rfl, Nat.le_of_ble_eq_true rfl⟩ d_La_law_699 ⟨by show 61 + t + 1 + 0 ≤ 601024; omega, by show 8756 + 6 * t + 6 + 0 ≤ 7293034; omega⟩ (fun H locs hP hD hS => ?_)
    refine lv_iload hx hb d_La_law_702 (lv_at hl 1 rfl) ?_
    refine lv_icmp_eq (tgt := 709) hx hb d_La_law_704 (by decide) (fun c704_6 => ?_) (fun c704_6 => ?_)
    rotate_left
    · exact absurd thr1 c704_6
    refine lv_iload hx hb d_La_law_709 (lv_at hl 1 rfl) ?_
    refine lv_if_ne (tgt := 733) hx hb d_La_law_711 (by decide) (fun c711_7 => ?_) (fun c711_7 => ?_)
    rotate_left
    · exact absurd c711_7 (by decide)
    refine lv_goto (tgt := 1069) hx hb d_La_law_733 (by decide) ?_
    exact hk k x y q (upd M.1 0 1, M.2) o n np mm H locs ls (h.thr 1) hP hD hS (lv_sub hl [2, 3, 4, 5, 6] rfl)
set_option maxHeartbeats 4000000 in
set_option maxRecDepth 100000 in
theorem law_clash {l : Launch} {g : Glob} {p : Program} {e : Env} {s : State} {m : MethodId} {below : List Frame} {meth : Method} {c : Code} {A : Nat → Prop} {Q : State → Prop} {b L : Nat} {xs : Nat → Int32} (hfl : l.flags = pinnedFlags ++ [noTraceFlag]) (C : Cx g R_law b_La_law 7 A p s m #[Value.ref b] c) (hX : va_X b L xs s s.heap) (hbl : b < s.heap.size) (hbA : ¬ A b) {ad ad2 : Nat → Nat} {ao t : Nat} (hL : L ≤ 3072) (ht : 6 * t + 6 ≤ L) {k : CFG} {x y : RS} {q : PLS} {M : MS} {o : Nat → Int64} {n np : Nat} {mm : Nat → Nat} (h : Rel k x y q M n np mm) {H : Heap} {locs : List Loc} {ls : Array Slot} (hP : va_P g.1 classes (wA g ad ad2 ao k x y q M o) H) (hD : va_D A (wA g ad ad2 ao k x y q M o)) (hS : va_S A s.heap H locs) (hl : lv_has ls 7 [(4, .int (nI (6 * t))), (0, .ref b), (1, .ref (ad 0)), (2, .ref (ad2 0)), (3, .ref ao)]) (a1 : Int32) (e1 : xs (6 * t + 1) = a1)
    (hk : ∀ (k : CFG) (x y : RS) (q : PLS) (M : MS) (o : Nat → Int64) (n np : Nat) (mm : Nat → Nat) (H : Heap) (locs : List Loc) (ls : Array Slot), Rel k x y q M n np mm → va_P g.1 classes (wA g ad ad2 ao k x y q M o) H → va_D A (wA g ad ad2 ao k x y q M o) → va_S A s.heap H locs → lv_has ls 7 [(4, .int (nI (6 * t))), (0, .ref b), (1, .ref (ad 0)), (2, .ref (ad2 0)), (3, .ref ao)] → W p l e room_1 s m #[Value.ref b] below meth c H locs (61 + t + 1) (8756 + 6 * t + 6) Q (F0 m 1069 ls [])) :
    W p l e room_1 s m #[Value.ref b] below meth c H locs (61 + t) (8756 + 6 * t) Q (F0 m 736 ls []) := by
  obtain ⟨hx, hb, hml, hown, hw, hE, hA⟩ := id C
  refine lv_aload_n hx hb d_La_law_736 rfl (lv_at hl 2 rfl) ?_
  refine lv_aload_n hx hb d_La_law_737 rfl (lv_at hl 1 rfl) ?_
  refine lv_iload hx hb d_La_law_738 (lv_at hl 0 rfl) ?_
  refine lv_iconst (v := 1) hx hb d_La_law_740 (by decide) ?_
  refine lv_iadd hx hb d_La_law_741 ?_
  rw [ix1]
  refine va_sld hx hb hX hbl hbA hS (vp_in_nI (show 6 * t + 1 < L by omega) (by omega)) d_La_law_742 ?_
  rw [nI_clamp (show 6 * t + 1 < 2 ^ 31 by omega), e1]
  refine lv_aload_n hx hb d_La_law_743 rfl (lv_at hl 4 rfl) ?_
  by_cases v : inI a1 0 2 = 1
  · obtain ⟨w9, hw9, rfl⟩ := in02 v
    refine ckJ C v_La_104 [.ref (ad 0), .int (nI w9), .ref ao] [] (c_La_clash_0 l g ad ao k x y q o w9 hw9 v) hP hD hS [0, 1, 2, 3, 4, 5, 6, 7, 8, 9, 10, 11, 12, 13, 14, 15, 16, 17, 18, 19, 20, 21, 22, 23, 24, 25, 26, 27, 28, 29, 30, 31, 32, 33, 34, 35, 36, 37, 38, 60] [39, 40, 41, 42, 43, 44, 45, 46, 47, 48, 49, 50, 51, 52, 53, 54, 55, 56, 57, 58, 59] [21, 22, 23, 24, 25, 26, 27, 28, 29, 30, 31, 32, 33, 34, 35, 36, 37, 38, 39, 40, 41, 42, 43, 44, 45, 46, 47, 48, 49, 50, 51, 52, 53, 54, 55, 56, 57, 58, 59, 0, 1, 2, 3, 4, 5, 6, 7, 8, 9, 10, 11, 12, 13, 14, 15, 16, 17, 18, 19, 20, 60] (wM g ad2 M) (wA g ad ad2 ao k x y q M (vp_updL o 0 (clashF x (nI w9)).toInt64)) rfl rfl (by decide) (by decide) (by decide) rfl (by decide) rfl rfl hl.1 (Nat.le_of_ble_eq_true rfl) ⟨Nat.le_of_ble_eq_true rfl, Nat.le_of_ble_eq_true rfl⟩ d_La_law_744 ⟨by show 61 + t + 1 ≤ 601024; omega, by show 8756 + 6 * t + 6 ≤ 7293034; omega⟩ (fun H locs hP hD hS => ?_)
    refine lv_istore (lv' := [(5, .int 0), (4, .int (nI (6 * t))), (0, .ref b), (1, .ref (ad 0)), (2, .ref (ad2 0)), (3, .ref ao)]) hx hb d_La_law_747 hl (by decide) rfl (fun ls hl => ?_)
    refine lv_aload_n hx hb d_La_law_749 rfl (lv_at hl 4 rfl) ?_
    refine lv_aload_n hx hb d_La_law_750 rfl (lv_at hl 2 rfl) ?_
    refine lv_iload hx hb d_La_law_751 (lv_at hl 1 rfl) ?_
    refine lv_iconst (v := 1) hx hb d_La_law_753 (by decide) ?_
    refine lv_iadd hx hb d_La_law_754 ?_
    rw [ix1]
    refine va_sld hx hb hX hbl hbA hS (vp_in_nI (show 6 * t + 1 < L by omega) (by omega)) d_La_law_755 ?_
    rw [nI_clamp (show 6 * t + 1 < 2 ^ 31 by omega), e1]
    refine cvI C v_La_106 [.int (nI w9)] [] (c_Mo_clash_0 l g ad2 M (nI w9) v) hP hD hS [39, 40, 41, 42, 43, 44, 45, 46, 47, 48, 49, 50, 51, 52, 53, 54, 55, 56, 57, 58, 59] [0, 1, 2, 3, 4, 5, 6, 7, 8, 9, 10, 11, 12, 13, 14, 15, 16, 17, 18, 19, 20, 21, 22, 23, 24, 25, 26, 27, 28, 29, 30, 31, 32, 33, 34, 35, 36, 37, 38, 60] [0, 1, 2, 3, 4, 5, 6, 7, 8, 9, 10, 11, 12, 13, 14, 15, 16, 17, 18, 19, 20, 21, 22, 23, 24, 25, 26, 27, 28, 29, 30, 31, 32, 33, 34, 35, 36, 37, 38, 40, 41, 42, 43, 44, 45, 46, 47, 48, 49, 50, 51, 52, 53, 54, 55, 56, 57, 58, 59, 60, 39] (wL g ad ao k x y q (vp_updL o 0 (clashF x (nI w9)).toInt64)) (wA g ad ad2 ao k x y q (upd M.1 0 0, M.2) (vp_updL o 0 (clashF x (nI w9)).toInt64)) rfl rfl (by decide) (by decide) (by decide) rfl (by decide) 0 rfl rfl rfl rfl hl.1 (Nat.le_of_ble_eq_true rfl) ⟨Nat.le_of_ble_eq_true rfl, Nat.le_of_ble_eq_true rfl⟩ d_La_law_756 ⟨by show 61 + t + 1 + 0 ≤ 601024; omega, by show 8756 + 6 * t + 6 + 0 ≤ 7293034; omega⟩ (fun H locs hP hD hS => ?_)
    refine lv_istore (lv' := [(6, .int (clashM M (nI w9))), (5, .int 0), (4, .int (nI (6 * t))), (0, .ref b), (1, .ref (ad 0)), (2, .ref (ad2 0)), (3, .ref ao)]) hx hb d_La_law_759 hl (by decide) rfl (fun ls hl => ?_)
    refine lv_aload_n hx hb d_La_law_761 rfl (lv_at hl 5 rfl) ?_
    refine cvI C v_La_71 [] [] (c_Mo_thrown l g ad2 (upd M.1 0 0, M.2)) hP hD hS [39, 40, 41, 42, 43, 44, 45, 46, 47, 48, 49, 50, 51, 52, 53, 54, 55, 56, 57, 58, 59] [0, 1, 2, 3, 4, 5, 6, 7, 8, 9, 10, 11, 12, 13, 14, 15, 16, 17, 18, 19, 20, 21, 22, 23, 24, 25, 26, 27, 28, 29, 30, 31, 32, 33, 34, 35, 36, 37, 38, 60] [0, 1, 2, 3, 4, 5, 6, 7, 8, 9, 10, 11, 12, 13, 14, 15, 16, 17, 18, 19, 20, 21, 22, 23, 24, 25, 26, 27, 28, 29, 30, 31, 32, 33, 34, 35, 36, 37, 38, 40, 41, 42, 43, 44, 45, 46, 47, 48, 49, 50, 51, 52, 53, 54, 55, 56, 57, 58, 59, 60, 39] (wL g ad ao k x y q (vp_updL o 0 (clashF x (nI w9)).toInt64)) (wA g ad ad2 ao k x y q (upd M.1 0 0, M.2) (vp_updL o 0 (clashF x (nI w9)).toInt64)) rfl rfl (by decide) (by decide) (by decide) rfl (by decide) 0 rfl rfl rfl rfl hl.1 (Nat.le_of_ble_eq_true rfl) ⟨Nat.le_of_ble_eq_true rfl, Nat.le_of_ble_eq_true rfl⟩ d_La_law_762 ⟨by show 61 + t + 1 + 0 ≤ 601024; omega, by show 8756 + 6 * t + 6 + 0 ≤ 7293034; omega⟩ (fun H locs hP hD hS => ?_)
    refine lv_iload hx hb d_La_law_765 (lv_at hl 1 rfl) ?_
    refine lv_icmp_eq (tgt := 772) hx hb d_La_law_767 (by decide) (fun c767_1 => ?_) (fun c767_1 => ?_)
    rotate_left
    · exact absurd thr1 c767_1
    refine lv_iload hx hb d_La_law_772 (lv_at hl 1 rfl) ?_
    refine lv_if_ne (tgt := 789) hx hb d_La_law_774 (by decide) (fun c774_2 => ?_) (fun c774_2 => ?_)
    · exact absurd c774_2 (fun z => z rfl)
    refine lv_aload_n hx hb d_La_law_777 rfl (lv_at hl 6 rfl) ?_
    refine lv_iconst (v := 0) hx hb d_La_law_778 (by decide) ?_
    refine va_lald hx hb hE.1 hP 60 1 rfl rfl (by unfold vp_in; decide) d_La_law_779 ?_
    rw [show (0 : Int32).toNatClampNeg = 0 from by decide]
    refine lv_iload hx hb d_La_law_780 (lv_at hl 0 rfl) ?_
    refine lv_i2l hx hb d_La_law_782 rfl ?_
    refine W.lcmp hx hb d_La_law_783 ?_
    refine lv_if_eq (tgt := 789) hx hb d_La_law_784 (by decide) (fun c784_3 => ?_) (fun c784_3 => ?_)
    rotate_left
    · exact absurd (show lg_cmp _ _ = 0 by rw [lg_cmp_eq]; exact congrArg Int32.toInt64 (h.clash hw9)) c784_3
    refine lv_goto (tgt := 1069) hx hb d_La_law_789 (by decide) ?_
    exact hk k x y q (upd M.1 0 0, M.2) (vp_updL o 0 (clashF x (nI w9)).toInt64) n np mm H locs ls (h.thr 0) hP hD hS (lv_sub hl [2, 3, 4, 5, 6] rfl)
  · refine ckJ C v_La_104 [.ref (ad 0), .int a1, .ref ao] [] (c_La_clash_1 l g hfl ad ao k x y q o a1 v) hP hD hS [0, 1, 2, 3, 4, 5, 6, 7, 8, 9, 10, 11, 12, 13, 14, 15, 16, 17, 18, 19, 20, 21, 22, 23, 24, 25, 26, 27, 28, 29, 30, 31, 32, 33, 34, 35, 36, 37, 38, 60] [39, 40, 41, 42, 43, 44, 45, 46, 47, 48, 49, 50, 51, 52, 53, 54, 55, 56, 57, 58, 59] [21, 22, 23, 24, 25, 26, 27, 28, 29, 30, 31, 32, 33, 34, 35, 36, 37, 38, 39, 40, 41, 42, 43, 44, 45, 46, 47, 48, 49, 50, 51, 52, 53, 54, 55, 56, 57, 58, 59, 0, 1, 2, 3, 4, 5, 6, 7, 8, 9, 10, 11, 12, 13, 14, 15, 16, 17, 18, 19, 20, 60] (wM g ad2 M) (wA g ad ad2 ao k x y q M o) rfl rfl (by decide) (by decide) (by decide) rfl (by decide) rfl rfl hl.1 (Nat.le_of_ble_eq_true rfl) ⟨Nat.le_of_ble_eq_true rfl, Nat.le_of_ble_eq_true rfl⟩ d_La_law_744 ⟨by show 61 + t + 1 ≤ 601024; omega, by show 8756 + 6 * t + 6 ≤ 7293034; omega⟩ (fun H locs hP hD hS => ?_)
    refine lv_istore (lv' := [(5, .int 1), (4, .int (nI (6 * t))), (0, .ref b), (1, .ref (ad 0)), (2, .ref (ad2 0)), (3, .ref ao)]) hx hb d_La_law_747 hl (by decide) rfl (fun ls hl => ?_)
    refine lv_aload_n hx hb d_La_law_749 rfl (lv_at hl 4 rfl) ?_
    refine lv_aload_n hx hb d_La_law_750 rfl (lv_at hl 2 rfl) ?_
    refine lv_iload hx hb d_La_law_751 (lv_at hl 1 rfl) ?_
    refine lv_iconst (v := 1) hx hb d_La_law_753 (by decide) ?_
    refine lv_iadd hx hb d_La_law_754 ?_
    rw [ix1]
    refine va_sld hx hb hX hbl hbA hS (vp_in_nI (show 6 * t + 1 < L by omega) (by omega)) d_La_law_755 ?_
    rw [nI_clamp (show 6 * t + 1 < 2 ^ 31 by omega), e1]
    refine cvI C v_La_106 [.int a1] [] (c_Mo_clash_1 l g ad2 M a1 v) hP hD hS [39, 40, 41, 42, 43, 44, 45, 46, 47, 48, 49, 50, 51, 52, 53, 54, 55, 56, 57, 58, 59] [0, 1, 2, 3, 4, 5, 6, 7, 8, 9, 10, 11, 12, 13, 14, 15, 16, 17, 18, 19, 20, 21, 22, 23, 24, 25, 26, 27, 28, 29, 30, 31, 32, 33, 34, 35, 36, 37, 38, 60] [0, 1, 2, 3, 4, 5, 6, 7, 8, 9, 10, 11, 12, 13, 14, 15, 16, 17, 18, 19, 20, 21, 22, 23, 24, 25, 26, 27, 28, 29, 30, 31, 32, 33, 34, 35, 36, 37, 38, 40, 41, 42, 43, 44, 45, 46, 47, 48, 49, 50, 51, 52, 53, 54, 55, 56, 57, 58, 59, 60, 39] (wL g ad ao k x y q o) (wA g ad ad2 ao k x y q (upd M.1 0 1, M.2) o) rfl rfl (by decide) (by decide) (by decide) rfl (by decide) 0 rfl rfl rfl rfl hl.1 (Nat.le_of_ble_eq_true rfl) ⟨Nat.le_of_ble_eq_true rfl, Nat.le_of_ble_eq_true rfl⟩ d_La_law_756 ⟨by show 61 + t + 1 + 0 ≤ 601024; omega, by show 8756 + 6 * t + 6 + 0 ≤ 7293034; omega⟩ (fun H locs hP hD hS => ?_)
    refine lv_istore (lv' := [(6, .int 0), (5, .int 1), (4, .int (nI (6 * t))), (0, .ref b), (1, .ref (ad 0)), (2, .ref (ad2 0)), (3, .ref ao)]) hx hb d_La_law_759 hl (by decide) rfl (fun ls hl => ?_)
    refine lv_aload_n hx hb d_La_law_761 rfl (lv_at hl 5 rfl) ?_
    refine cvI C v_La_71 [] [] (c_Mo_thrown l g ad2 (upd M.1 0 1, M.2)) hP hD hS [39, 40, 41, 42, 43, 44, 45, 46, 47, 48, 49, 50, 51, 52, 53, 54, 55, 56, 57, 58, 59] [0, 1, 2, 3, 4, 5, 6, 7, 8, 9, 10, 11, 12, 13, 14, 15, 16, 17, 18, 19, 20, 21, 22, 23, 24, 25, 26, 27, 28, 29, 30, 31, 32, 33, 34, 35, 36, 37, 38, 60] [0, 1, 2, 3, 4, 5, 6, 7, 8, 9, 10, 11, 12, 13, 14, 15, 16, 17, 18, 19, 20, 21, 22, 23, 24, 25, 26, 27, 28, 29, 30, 31, 32, 33, 34, 35, 36, 37, 38, 40, 41, 42, 43, 44, 45, 46, 47, 48, 49, 50, 51, 52, 53, 54, 55, 56, 57, 58, 59, 60, 39] (wL g ad ao k x y q o) (wA g ad ad2 ao k x y q (upd M.1 0 1, M.2) o) rfl rfl (by decide) (by decide) (by decide) rfl (by decide) 0 rfl rfl rfl rfl hl.1 (Nat.le_of_ble_eq_true rfl) ⟨Nat.le_of_ble_eq_true rfl, Nat.le_of_ble_eq_true rfl⟩ d_La_law_762 ⟨by show 61 + t + 1 + 0 ≤ 601024; omega, by show 8756 + 6 * t + 6 + 0 ≤ 7293034; omega⟩ (fun H locs hP hD hS => ?_)
    refine lv_iload hx hb d_La_law_765 (lv_at hl 1 rfl) ?_
    refine lv_icmp_eq (tgt := 772) hx hb d_La_law_767 (by decide) (fun c767_4 => ?_) (fun c767_4 => ?_)
    rotate_left
    · exact absurd thr1 c767_4
    refine lv_iload hx hb d_La_law_772 (lv_at hl 1 rfl) ?_
    refine lv_if_ne (tgt := 789) hx hb d_La_law_774 (by decide) (fun c774_5 => ?_) (fun c774_5 => ?_)
    rotate_left
    · exact absurd c774_5 (by decide)
    refine lv_goto (tgt := 1069) hx hb d_La_law_789 (by decide) ?_
    exact hk k x y q (upd M.1 0 1, M.2) o n np mm H locs ls (h.thr 1) hP hD hS (lv_sub hl [2, 3, 4, 5, 6] rfl)
