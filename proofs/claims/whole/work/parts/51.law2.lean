theorem thrP {pl m : Nat} {p1 p2 p3 : Int32} {M : MS} : (partM pl m p1 p2 p3 M).1 0 = 0 := pk_us (f := M.1) (k := 0) (x := 0)
theorem thrC {pl : Nat} {M : MS} : (clearM pl M).1 0 = 0 := pk_us (f := M.1) (k := 0) (x := 0)
theorem ans_part {k : CFG} {x y : RS} {q : PLS} {M : MS} {n np : Nat} {mm : Nat → Nat} (h : Rel k x y q M n np mm) {pl : Nat} (hpl : pl < 4) : nI (mm pl) + 1 = M.2 9 pl + 1 := by rw [(h.2.1 pl hpl).2.1]
theorem n6 {m : Nat} (h : m ≤ 6) (h6 : ¬ m = 6) : ¬ nI m = 6 := by
  intro z
  have z2 := congrArg Int32.toInt z
  rw [nI_toInt (by omega), show (6 : Int32).toInt = 6 from rfl] at z2
  omega
theorem le0 {n : Nat} {d : Int32} (hn : n ≤ 3) (e : d = nI n) (h : n = 0) : d ≤ 0 := by
  subst h e
  decide
theorem nle0 {n : Nat} {d : Int32} (hn : n ≤ 3) (e : d = nI n) (h : ¬ n = 0) : ¬ d ≤ 0 := by
  subst e
  rcases (show n = 1 ∨ n = 2 ∨ n = 3 by omega) with rfl | rfl | rfl <;> decide
set_option maxHeartbeats 4000000 in
set_option maxRecDepth 100000 in
theorem law_part {l : Launch} {g : Glob} {p : Program} {e : Env} {s : State} {m : MethodId} {below : List Frame} {meth : Method} {c : Code} {A : Nat → Prop} {Q : State → Prop} {b L : Nat} {xs : Nat → Int32} (hfl : l.flags = pinnedFlags ++ [noTraceFlag]) (C : Cx g R_law b_La_law 7 A p s m #[Value.ref b] c) (hX : va_X b L xs s s.heap) (hbl : b < s.heap.size) (hbA : ¬ A b) {ad ad2 : Nat → Nat} {ao t : Nat} (hL : L ≤ 3072) (ht : 6 * t + 6 ≤ L) {k : CFG} {x y : RS} {q : PLS} {M : MS} {o : Nat → Int64} {n np : Nat} {mm : Nat → Nat} (h : Rel k x y q M n np mm) {H : Heap} {locs : List Loc} {ls : Array Slot} (hP : va_P g.1 classes (wA g ad ad2 ao k x y q M o) H) (hD : va_D A (wA g ad ad2 ao k x y q M o)) (hS : va_S A s.heap H locs) (hl : lv_has ls 7 [(4, .int (nI (6 * t))), (0, .ref b), (1, .ref (ad 0)), (2, .ref (ad2 0)), (3, .ref ao)]) (a1 a2 a3 a4 : Int32) (e1 : xs (6 * t + 1) = a1) (e2 : xs (6 * t + 2) = a2) (e3 : xs (6 * t + 3) = a3) (e4 : xs (6 * t + 4) = a4)
    (hk : ∀ (k : CFG) (x y : RS) (q : PLS) (M : MS) (o : Nat → Int64) (n np : Nat) (mm : Nat → Nat) (H : Heap) (locs : List Loc) (ls : Array Slot), Rel k x y q M n np mm → va_P g.1 classes (wA g ad ad2 ao k x y q M o) H → va_D A (wA g ad ad2 ao k x y q M o) → va_S A s.heap H locs → lv_has ls 7 [(4, .int (nI (6 * t))), (0, .ref b), (1, .ref (ad 0)), (2, .ref (ad2 0)), (3, .ref ao)] → W p l e room_1 s m #[Value.ref b] below meth c H locs (61 + t + 1) (8756 + 6 * t + 6) Q (F0 m 1069 ls [])) :
    W p l e room_1 s m #[Value.ref b] below meth c H locs (61 + t) (8756 + 6 * t) Q (F0 m 805 ls []) := by
  obtain ⟨hx, hb, hml, hown, hw, hE, hA⟩ := id C
  refine lv_aload_n hx hb d_La_law_805 rfl (lv_at hl 2 rfl) ?_
  refine lv_aload_n hx hb d_La_law_806 rfl (lv_at hl 1 rfl) ?_
  refine lv_iload hx hb d_La_law_807 (lv_at hl 0 rfl) ?_
  refine lv_iconst (v := 1) hx hb d_La_law_809 (by decide) ?_
  refine lv_iadd hx hb d_La_law_810 ?_
  rw [ix1]
  refine va_sld hx hb hX hbl hbA hS (vp_in_nI (show 6 * t + 1 < L by omega) (by omega)) d_La_law_811 ?_
  rw [nI_clamp (show 6 * t + 1 < 2 ^ 31 by omega), e1]
  refine lv_aload_n hx hb d_La_law_812 rfl (lv_at hl 1 rfl) ?_
  refine lv_iload hx hb d_La_law_813 (lv_at hl 0 rfl) ?_
  refine lv_iconst (v := 2) hx hb d_La_law_815 (by decide) ?_
  refine lv_iadd hx hb d_La_law_816 ?_
  rw [ix2]
  refine va_sld hx hb hX hbl hbA hS (vp_in_nI (show 6 * t + 2 < L by omega) (by omega)) d_La_law_817 ?_
  rw [nI_clamp (show 6 * t + 2 < 2 ^ 31 by omega), e2]
  refine lv_aload_n hx hb d_La_law_818 rfl (lv_at hl 1 rfl) ?_
  refine lv_iload hx hb d_La_law_819 (lv_at hl 0 rfl) ?_
  refine lv_iconst (v := 3) hx hb d_La_law_821 (by decide) ?_
  refine lv_iadd hx hb d_La_law_822 ?_
  rw [ix3]
  refine va_sld hx hb hX hbl hbA hS (vp_in_nI (show 6 * t + 3 < L by omega) (by omega)) d_La_law_823 ?_
  rw [nI_clamp (show 6 * t + 3 < 2 ^ 31 by omega), e3]
  refine lv_aload_n hx hb d_La_law_824 rfl (lv_at hl 1 rfl) ?_
  refine lv_iload hx hb d_La_law_825 (lv_at hl 0 rfl) ?_
  refine lv_iconst (v := 4) hx hb d_La_law_827 (by decide) ?_
  refine lv_iadd hx hb d_La_law_828 ?_
  rw [ix4]
  refine va_sld hx hb hX hbl hbA hS (vp_in_nI (show 6 * t + 4 < L by omega) (by omega)) d_La_law_829 ?_
  rw [nI_clamp (show 6 * t + 4 < 2 ^ 31 by omega), e4]
  refine lv_if_eq (tgt := 837) hx hb d_La_law_830 (by decide) (fun c830_1 => ?_) (fun c830_1 => ?_)
  · refine lv_iconst (v := 0) hx hb d_La_law_837 (by decide) ?_
    refine lv_aload_n hx hb d_La_law_838 rfl (lv_at hl 4 rfl) ?_
    by_cases v : (inI a1 0 3 = 1 ∧ inI a2 (-3) 3 = 1 ∧ inI a3 1 60 = 1)
    · obtain ⟨v0, v1, v2⟩ := v
      obtain ⟨pl, hpl, rfl⟩ := in03 v0
      by_cases hf : mm pl = 6
      · have hq6 : (q pl).2.2.2 = 6 := by rw [(h.2.1 pl hpl).1, hf]; rfl
        have hm6 : M.2 9 pl = 6 := by rw [(h.2.1 pl hpl).2.1, hf]; rfl
        refine ckJ C v_La_112 [.ref (ad 0), .int (nI pl), .int a2, .int a3, .int 0, .ref ao] [] (c_La_part_2 l g hfl ad ao k x y q o pl hpl a2 a3 0 v0 v1 v2 hq6) hP hD hS [0, 1, 2, 3, 4, 5, 6, 7, 8, 9, 10, 11, 12, 13, 14, 15, 16, 17, 18, 19, 20, 21, 22, 23, 24, 25, 26, 27, 28, 29, 30, 31, 32, 33, 34, 35, 36, 37, 38, 60] [39, 40, 41, 42, 43, 44, 45, 46, 47, 48, 49, 50, 51, 52, 53, 54, 55, 56, 57, 58, 59] [21, 22, 23, 24, 25, 26, 27, 28, 29, 30, 31, 32, 33, 34, 35, 36, 37, 38, 39, 40, 41, 42, 43, 44, 45, 46, 47, 48, 49, 50, 51, 52, 53, 54, 55, 56, 57, 58, 59, 0, 1, 2, 3, 4, 5, 6, 7, 8, 9, 10, 11, 12, 13, 14, 15, 16, 17, 18, 19, 20, 60] (wM g ad2 M) (wA g ad ad2 ao k x y q M o) rfl rfl (by decide) (by decide) (by decide) rfl (by decide) rfl rfl hl.1 (Nat.le_of_ble_eq_true rfl) ⟨Nat.le_of_ble_eq_true rfl, Nat.le_of_ble_eq_true rfl⟩ d_La_law_839 ⟨by show 61 + t + 1 ≤ 601024; omega, by show 8756 + 6 * t + 6 ≤ 7293034; omega⟩ (fun H locs hP hD hS => ?_)
        refine lv_istore (lv' := [(5, .int 2), (4, .int (nI (6 * t))), (0, .ref b), (1, .ref (ad 0)), (2, .ref (ad2 0)), (3, .ref ao)]) hx hb d_La_law_842 hl (by decide) rfl (fun ls hl => ?_)
        refine lv_aload_n hx hb d_La_law_844 rfl (lv_at hl 4 rfl) ?_
        refine lv_aload_n hx hb d_La_law_845 rfl (lv_at hl 2 rfl) ?_
        refine lv_iload hx hb d_La_law_846 (lv_at hl 1 rfl) ?_
        refine lv_iconst (v := 1) hx hb d_La_law_848 (by decide) ?_
        refine lv_iadd hx hb d_La_law_849 ?_
        rw [ix1]
        refine va_sld hx hb hX hbl hbA hS (vp_in_nI (show 6 * t + 1 < L by omega) (by omega)) d_La_law_850 ?_
        rw [nI_clamp (show 6 * t + 1 < 2 ^ 31 by omega), e1]
        refine lv_aload_n hx hb d_La_law_851 rfl (lv_at hl 2 rfl) ?_
        refine lv_iload hx hb d_La_law_852 (lv_at hl 1 rfl) ?_
        refine lv_iconst (v := 2) hx hb d_La_law_854 (by decide) ?_
        refine lv_iadd hx hb d_La_law_855 ?_
        rw [ix2]
        refine va_sld hx hb hX hbl hbA hS (vp_in_nI (show 6 * t + 2 < L by omega) (by omega)) d_La_law_856 ?_
        rw [nI_clamp (show 6 * t + 2 < 2 ^ 31 by omega), e2]
        refine lv_aload_n hx hb d_La_law_857 rfl (lv_at hl 2 rfl) ?_
        refine lv_iload hx hb d_La_law_858 (lv_at hl 1 rfl) ?_
        refine lv_iconst (v := 3) hx hb d_La_law_860 (by decide) ?_
        refine lv_iadd hx hb d_La_law_861 ?_
        rw [ix3]
        refine va_sld hx hb hX hbl hbA hS (vp_in_nI (show 6 * t + 3 < L by omega) (by omega)) d_La_law_862 ?_
        rw [nI_clamp (show 6 * t + 3 < 2 ^ 31 by omega), e3]
        refine lv_aload_n hx hb d_La_law_863 rfl (lv_at hl 2 rfl) ?_
        refine lv_iload hx hb d_La_law_864 (lv_at hl 1 rfl) ?_
        refine lv_iconst (v := 4) hx hb d_La_law_866 (by decide) ?_
        refine lv_iadd hx hb d_La_law_867 ?_
        rw [ix4]
        refine va_sld hx hb hX hbl hbA hS (vp_in_nI (show 6 * t + 4 < L by omega) (by omega)) d_La_law_868 ?_
        rw [nI_clamp (show 6 * t + 4 < 2 ^ 31 by omega), e4]
        refine lv_if_eq (tgt := 876) hx hb d_La_law_869 (by decide) (fun c869_2 => ?_) (fun c869_2 => ?_)
        rotate_left
        · exact absurd c830_1 c869_2
        refine lv_iconst (v := 0) hx hb d_La_law_876 (by decide) ?_
        refine cvI C v_La_115 [.int (nI pl), .int a2, .int a3, .int 0] [] (c_Mo_part_2 l g ad2 M pl hpl a2 a3 0 v0 v1 v2 hm6) hP hD hS [39, 40, 41, 42, 43, 44, 45, 46, 47, 48, 49, 50, 51, 52, 53, 54, 55, 56, 57, 58, 59] [0, 1, 2, 3, 4, 5, 6, 7, 8, 9, 10, 11, 12, 13, 14, 15, 16, 17, 18, 19, 20, 21, 22, 23, 24, 25, 26, 27, 28, 29, 30, 31, 32, 33, 34, 35, 36, 37, 38, 60] [0, 1, 2, 3, 4, 5, 6, 7, 8, 9, 10, 11, 12, 13, 14, 15, 16, 17, 18, 19, 20, 21, 22, 23, 24, 25, 26, 27, 28, 29, 30, 31, 32, 33, 34, 35, 36, 37, 38, 40, 41, 42, 43, 44, 45, 46, 47, 48, 49, 50, 51, 52, 53, 54, 55, 56, 57, 58, 59, 60, 39] (wL g ad ao k x y q o) (wA g ad ad2 ao k x y q (upd M.1 0 2, M.2) o) rfl rfl (by decide) (by decide) (by decide) rfl (by decide) 0 rfl rfl rfl rfl hl.1 (Nat.le_of_ble_eq_true rfl) ⟨Nat.le_of_ble_eq_true rfl, Nat.le_of_ble_eq_true rfl⟩ d_La_law_877 ⟨by show 61 + t + 1 + 0 ≤ 601024; omega, by show 8756 + 6 * t + 6 + 0 ≤ 7293034; omega⟩ (fun H locs hP hD hS => ?_)
        refine lv_istore (lv' := [(6, .int 0), (5, .int 2), (4, .int (nI (6 * t))), (0, .ref b), (1, .ref (ad 0)), (2, .ref (ad2 0)), (3, .ref ao)]) hx hb d_La_law_880 hl (by decide) rfl (fun ls hl => ?_)
        refine lv_aload_n hx hb d_La_law_882 rfl (lv_at hl 5 rfl) ?_
        refine cvI C v_La_71 [] [] (c_Mo_thrown l g ad2 (upd M.1 0 2, M.2)) hP hD hS [39, 40, 41, 42, 43, 44, 45, 46, 47, 48, 49, 50, 51, 52, 53, 54, 55, 56, 57, 58, 59] [0, 1, 2, 3, 4, 5, 6, 7, 8, 9, 10, 11, 12, 13, 14, 15, 16, 17, 18, 19, 20, 21, 22, 23, 24, 25, 26, 27, 28, 29, 30, 31, 32, 33, 34, 35, 36, 37, 38, 60] [0, 1, 2, 3, 4, 5, 6, 7, 8, 9, 10, 11, 12, 13, 14, 15, 16, 17, 18, 19, 20, 21, 22, 23, 24, 25, 26, 27, 28, 29, 30, 31, 32, 33, 34, 35, 36, 37, 38, 40, 41, 42, 43, 44, 45, 46, 47, 48, 49, 50, 51, 52, 53, 54, 55, 56, 57, 58, 59, 60, 39] (wL g ad ao k x y q o) (wA g ad ad2 ao k x y q (upd M.1 0 2, M.2) o) rfl rfl (by decide) (by decide) (by decide) rfl (by decide) 0 rfl rfl rfl rfl hl.1 (Nat.le_of_ble_eq_true rfl) ⟨Nat.le_of_ble_eq_true rfl, Nat.le_of_ble_eq_true rfl⟩ d_La_law_883 ⟨by show 61 + t + 1 + 0 ≤ 601024; omega, by show 8756 + 6 * t + 6 + 0 ≤ 7293034; omega⟩ (fun H locs hP hD hS => ?_)
        refine lv_iload hx hb d_La_law_886 (lv_at hl 1 rfl) ?_
        refine lv_icmp_eq (tgt := 893) hx hb d_La_law_888 (by decide) (fun c888_3 => ?_) (fun c888_3 => ?_)
        rotate_left
        · exact absurd thr1 c888_3
        refine lv_iload hx hb d_La_law_893 (lv_at hl 1 rfl) ?_
        refine lv_if_ne (tgt := 910) hx hb d_La_law_895 (by decide) (fun c895_4 => ?_) (fun c895_4 => ?_)
        rotate_left
        · exact absurd c895_4 (by decide)
        refine lv_goto (tgt := 1069) hx hb d_La_law_910 (by decide) ?_
        exact hk k x y q (upd M.1 0 2, M.2) o n np mm H locs ls (h.thr 2) hP hD hS (lv_sub hl [2, 3, 4, 5, 6] rfl)
      · have h6 : mm pl < 6 := by have := (h.2.1 pl hpl).2.2.1; omega
        have hm6 : ¬ M.2 9 pl = 6 := by rw [(h.2.1 pl hpl).2.1]; exact n6 (h.2.1 pl hpl).2.2.1 hf
        refine ckJ C v_La_112 [.ref (ad 0), .int (nI pl), .int a2, .int a3, .int 0, .ref ao] [] (c_La_part_0 l g ad ao k x y q o pl hpl a2 a3 0 v0 v1 v2 (mm pl) (h.2.1 pl hpl).1 h6 (Or.inl rfl)) hP hD hS [0, 1, 2, 3, 4, 5, 6, 7, 8, 9, 10, 11, 12, 13, 14, 15, 16, 17, 18, 19, 20, 21, 22, 23, 24, 25, 26, 27, 28, 29, 30, 31, 32, 33, 34, 35, 36, 37, 38, 60] [39, 40, 41, 42, 43, 44, 45, 46, 47, 48, 49, 50, 51, 52, 53, 54, 55, 56, 57, 58, 59] [21, 22, 23, 24, 25, 26, 27, 28, 29, 30, 31, 32, 33, 34, 35, 36, 37, 38, 39, 40, 41, 42, 43, 44, 45, 46, 47, 48, 49, 50, 51, 52, 53, 54, 55, 56, 57, 58, 59, 0, 1, 2, 3, 4, 5, 6, 7, 8, 9, 10, 11, 12, 13, 14, 15, 16, 17, 18, 19, 20, 60] (wM g ad2 M) (wA g ad ad2 ao k x y (upQ q pl (addP (q pl) (mm pl) a2 a3 0)) M (vp_updL o 0 (nI (mm pl) + 1).toInt64)) rfl rfl (by decide) (by decide) (by decide) rfl (by decide) rfl rfl hl.1 (Nat.le_of_ble_eq_true rfl) ⟨Nat.le_of_ble_eq_true rfl, Nat.le_of_ble_eq_true rfl⟩ d_La_law_839 ⟨by show 61 + t + 1 ≤ 601024; omega, by show 8756 + 6 * t + 6 ≤ 7293034; omega⟩ (fun H locs hP hD hS => ?_)
        refine lv_istore (lv' := [(5, .int 0), (4, .int (nI (6 * t))), (0, .ref b), (1, .ref (ad 0)), (2, .ref (ad2 0)), (3, .ref ao)]) hx hb d_La_law_842 hl (by decide) rfl (fun ls hl => ?_)
        refine lv_aload_n hx hb d_La_law_844 rfl (lv_at hl 4 rfl) ?_
        refine lv_aload_n hx hb d_La_law_845 rfl (lv_at hl 2 rfl) ?_
        refine lv_iload hx hb d_La_law_846 (lv_at hl 1 rfl) ?_
        refine lv_iconst (v := 1) hx hb d_La_law_848 (by decide) ?_
        refine lv_iadd hx hb d_La_law_849 ?_
        rw [ix1]
        refine va_sld hx hb hX hbl hbA hS (vp_in_nI (show 6 * t + 1 < L by omega) (by omega)) d_La_law_850 ?_
        rw [nI_clamp (show 6 * t + 1 < 2 ^ 31 by omega), e1]
        refine lv_aload_n hx hb d_La_law_851 rfl (lv_at hl 2 rfl) ?_
        refine lv_iload hx hb d_La_law_852 (lv_at hl 1 rfl) ?_
        refine lv_iconst (v := 2) hx hb d_La_law_854 (by decide) ?_
        refine lv_iadd hx hb d_La_law_855 ?_
        rw [ix2]
        refine va_sld hx hb hX hbl hbA hS (vp_in_nI (show 6 * t + 2 < L by omega) (by omega)) d_La_law_856 ?_
        rw [nI_clamp (show 6 * t + 2 < 2 ^ 31 by omega), e2]
        refine lv_aload_n hx hb d_La_law_857 rfl (lv_at hl 2 rfl) ?_
        refine lv_iload hx hb d_La_law_858 (lv_at hl 1 rfl) ?_
        refine lv_iconst (v := 3) hx hb d_La_law_860 (by decide) ?_
        refine lv_iadd hx hb d_La_law_861 ?_
        rw [ix3]
        refine va_sld hx hb hX hbl hbA hS (vp_in_nI (show 6 * t + 3 < L by omega) (by omega)) d_La_law_862 ?_
        rw [nI_clamp (show 6 * t + 3 < 2 ^ 31 by omega), e3]
        refine lv_aload_n hx hb d_La_law_863 rfl (lv_at hl 2 rfl) ?_
        refine lv_iload hx hb d_La_law_864 (lv_at hl 1 rfl) ?_
        refine lv_iconst (v := 4) hx hb d_La_law_866 (by decide) ?_
        refine lv_iadd hx hb d_La_law_867 ?_
        rw [ix4]
        refine va_sld hx hb hX hbl hbA hS (vp_in_nI (show 6 * t + 4 < L by omega) (by omega)) d_La_law_868 ?_
        rw [nI_clamp (show 6 * t + 4 < 2 ^ 31 by omega), e4]
        refine lv_if_eq (tgt := 876) hx hb d_La_law_869 (by decide) (fun c869_5 => ?_) (fun c869_5 => ?_)
        rotate_left
        · exact absurd c830_1 c869_5
        refine lv_iconst (v := 0) hx hb d_La_law_876 (by decide) ?_
        refine cvI C v_La_115 [.int (nI pl), .int a2, .int a3, .int 0] [] (c_Mo_part_0 l g ad2 M pl (mm pl) hpl (h.2.1 pl hpl).2.1 h6 a2 a3 0 (Or.inl rfl) v0 v1 v2 hm6) hP hD hS [39, 40, 41, 42, 43, 44, 45, 46, 47, 48, 49, 50, 51, 52, 53, 54, 55, 56, 57, 58, 59] [0, 1, 2, 3, 4, 5, 6, 7, 8, 9, 10, 11, 12, 13, 14, 15, 16, 17, 18, 19, 20, 21, 22, 23, 24, 25, 26, 27, 28, 29, 30, 31, 32, 33, 34, 35, 36, 37, 38, 60] [0, 1, 2, 3, 4, 5, 6, 7, 8, 9, 10, 11, 12, 13, 14, 15, 16, 17, 18, 19, 20, 21, 22, 23, 24, 25, 26, 27, 28, 29, 30, 31, 32, 33, 34, 35, 36, 37, 38, 40, 41, 42, 43, 44, 45, 46, 47, 48, 49, 50, 51, 52, 53, 54, 55, 56, 57, 58, 59, 60, 39] (wL g ad ao k x y (upQ q pl (addP (q pl) (mm pl) a2 a3 0)) (vp_updL o 0 (nI (mm pl) + 1).toInt64)) (wA g ad ad2 ao k x y (upQ q pl (addP (q pl) (mm pl) a2 a3 0)) (partM pl (mm pl) a2 a3 0 M) (vp_updL o 0 (nI (mm pl) + 1).toInt64)) rfl rfl (by decide) (by decide) (by decide) rfl (by decide) 0 rfl rfl rfl rfl hl.1 (Nat.le_of_ble_eq_true rfl) ⟨Nat.le_of_ble_eq_true rfl, Nat.le_of_ble_eq_true rfl⟩ d_La_law_877 ⟨by show 61 + t + 1 + 0 ≤ 601024; omega, by show 8756 + 6 * t + 6 + 0 ≤ 7293034; omega⟩ (fun H locs hP hD hS => ?_)
        refine lv_istore (lv' := [(6, .int (M.2 9 pl + 1)), (5, .int 0), (4, .int (nI (6 * t))), (0, .ref b), (1, .ref (ad 0)), (2, .ref (ad2 0)), (3, .ref ao)]) hx hb d_La_law_880 hl (by decide) rfl (fun ls hl => ?_)
        refine lv_aload_n hx hb d_La_law_882 rfl (lv_at hl 5 rfl) ?_
        refine cvI C v_La_71 [] [] (c_Mo_thrown l g ad2 (partM pl (mm pl) a2 a3 0 M)) hP hD hS [39, 40, 41, 42, 43, 44, 45, 46, 47, 48, 49, 50, 51, 52, 53, 54, 55, 56, 57, 58, 59] [0, 1, 2, 3, 4, 5, 6, 7, 8, 9, 10, 11, 12, 13, 14, 15, 16, 17, 18, 19, 20, 21, 22, 23, 24, 25, 26, 27, 28, 29, 30, 31, 32, 33, 34, 35, 36, 37, 38, 60] [0, 1, 2, 3, 4, 5, 6, 7, 8, 9, 10, 11, 12, 13, 14, 15, 16, 17, 18, 19, 20, 21, 22, 23, 24, 25, 26, 27, 28, 29, 30, 31, 32, 33, 34, 35, 36, 37, 38, 40, 41, 42, 43, 44, 45, 46, 47, 48, 49, 50, 51, 52, 53, 54, 55, 56, 57, 58, 59, 60, 39] (wL g ad ao k x y (upQ q pl (addP (q pl) (mm pl) a2 a3 0)) (vp_updL o 0 (nI (mm pl) + 1).toInt64)) (wA g ad ad2 ao k x y (upQ q pl (addP (q pl) (mm pl) a2 a3 0)) (partM pl (mm pl) a2 a3 0 M) (vp_updL o 0 (nI (mm pl) + 1).toInt64)) rfl rfl (by decide) (by decide) (by decide) rfl (by decide) 0 rfl rfl rfl rfl hl.1 (Nat.le_of_ble_eq_true rfl) ⟨Nat.le_of_ble_eq_true rfl, Nat.le_of_ble_eq_true rfl⟩ d_La_law_883 ⟨by show 61 + t + 1 + 0 ≤ 601024; omega, by show 8756 + 6 * t + 6 + 0 ≤ 7293034; omega⟩ (fun H locs hP hD hS => ?_)
        refine lv_iload hx hb d_La_law_886 (lv_at hl 1 rfl) ?_
        refine lv_icmp_eq (tgt := 893) hx hb d_La_law_888 (by decide) (fun c888_6 => ?_) (fun c888_6 => ?_)
        rotate_left
        · exact absurd thrP c888_6
        refine lv_iload hx hb d_La_law_893 (lv_at hl 1 rfl) ?_
        refine lv_if_ne (tgt := 910) hx hb d_La_law_895 (by decide) (fun c895_7 => ?_) (fun c895_7 => ?_)
        · exact absurd c895_7 (fun z => z rfl)
        refine lv_aload_n hx hb d_La_law_898 rfl (lv_at hl 6 rfl) ?_
        refine lv_iconst (v := 0) hx hb d_La_law_899 (by decide) ?_
        refine va_lald hx hb hE.1 hP 60 1 rfl rfl (by unfold vp_in; decide) d_La_law_900 ?_
        rw [show (0 : Int32).toNatClampNeg = 0 from by decide]
        refine lv_iload hx hb d_La_law_901 (lv_at hl 0 rfl) ?_
        refine lv_i2l hx hb d_La_law_903 rfl ?_
        refine W.lcmp hx hb d_La_law_904 ?_
        refine lv_if_eq (tgt := 910) hx hb d_La_law_905 (by decide) (fun c905_8 => ?_) (fun c905_8 => ?_)
        rotate_left
        · exact absurd (show lg_cmp _ _ = 0 by rw [lg_cmp_eq]; exact congrArg Int32.toInt64 (ans_part h hpl)) c905_8
        refine lv_goto (tgt := 1069) hx hb d_La_law_910 (by decide) ?_
        exact hk k x y (upQ q pl (addP (q pl) (mm pl) a2 a3 0)) (partM pl (mm pl) a2 a3 0 M) (vp_updL o 0 (nI (mm pl) + 1).toInt64) n np (fun j => if j = pl then mm pl + 1 else mm j) H locs ls (h.part hpl h6 a2 v2 0) hP hD hS (lv_sub hl [2, 3, 4, 5, 6] rfl)
    · refine ckJ C v_La_112 [.ref (ad 0), .int a1, .int a2, .int a3, .int 0, .ref ao] [] (c_La_part_1 l g hfl ad ao k x y q o a1 a2 a3 0 v) hP hD hS [0, 1, 2, 3, 4, 5, 6, 7, 8, 9, 10, 11, 12, 13, 14, 15, 16, 17, 18, 19, 20, 21, 22, 23, 24, 25, 26, 27, 28, 29, 30, 31, 32, 33, 34, 35, 36, 37, 38, 60] [39, 40, 41, 42, 43, 44, 45, 46, 47, 48, 49, 50, 51, 52, 53, 54, 55, 56, 57, 58, 59] [21, 22, 23, 24, 25, 26, 27, 28, 29, 30, 31, 32, 33, 34, 35, 36, 37, 38, 39, 40, 41, 42, 43, 44, 45, 46, 47, 48, 49, 50, 51, 52, 53, 54, 55, 56, 57, 58, 59, 0, 1, 2, 3, 4, 5, 6, 7, 8, 9, 10, 11, 12, 13, 14, 15, 16, 17, 18, 19, 20, 60] (wM g ad2 M) (wA g ad ad2 ao k x y q M o) rfl rfl (by decide) (by decide) (by decide) rfl (by decide) rfl rfl hl.1 (Nat.le_of_ble_eq_true rfl) ⟨Nat.le_of_ble_eq_true rfl, Nat.le_of_ble_eq_true rfl⟩ d_La_law_839 ⟨by show 61 + t + 1 ≤ 601024; omega, by show 8756 + 6 * t + 6 ≤ 7293034; omega⟩ (fun H locs hP hD hS => ?_)
      refine lv_istore (lv' := [(5, .int 1), (4, .int (nI (6 * t))), (0, .ref b), (1, .ref (ad 0)), (2, .ref (ad2 0)), (3, .ref ao)]) hx hb d_La_law_842 hl (by decide) rfl (fun ls hl => ?_)
      refine lv_aload_n hx hb d_La_law_844 rfl (lv_at hl 4 rfl) ?_
      refine lv_aload_n hx hb d_La_law_845 rfl (lv_at hl 2 rfl) ?_
      refine lv_iload hx hb d_La_law_846 (lv_at hl 1 rfl) ?_
      refine lv_iconst (v := 1) hx hb d_La_law_848 (by decide) ?_
      refine lv_iadd hx hb d_La_law_849 ?_
      rw [ix1]
      refine va_sld hx hb hX hbl hbA hS (vp_in_nI (show 6 * t + 1 < L by omega) (by omega)) d_La_law_850 ?_
      rw [nI_clamp (show 6 * t + 1 < 2 ^ 31 by omega), e1]
      refine lv_aload_n hx hb d_La_law_851 rfl (lv_at hl 2 rfl) ?_
      refine lv_iload hx hb d_La_law_852 (lv_at hl 1 rfl) ?_
      refine lv_iconst (v := 2) hx hb d_La_law_854 (by decide) ?_
      refine lv_iadd hx hb d_La_law_855 ?_
      rw [ix2]
      refine va_sld hx hb hX hbl hbA hS (vp_in_nI (show 6 * t + 2 < L by omega) (by omega)) d_La_law_856 ?_
      rw [nI_clamp (show 6 * t + 2 < 2 ^ 31 by omega), e2]
      refine lv_aload_n hx hb d_La_law_857 rfl (lv_at hl 2 rfl) ?_
      refine lv_iload hx hb d_La_law_858 (lv_at hl 1 rfl) ?_
      refine lv_iconst (v := 3) hx hb d_La_law_860 (by decide) ?_
      refine lv_iadd hx hb d_La_law_861 ?_
      rw [ix3]
      refine va_sld hx hb hX hbl hbA hS (vp_in_nI (show 6 * t + 3 < L by omega) (by omega)) d_La_law_862 ?_
      rw [nI_clamp (show 6 * t + 3 < 2 ^ 31 by omega), e3]
      refine lv_aload_n hx hb d_La_law_863 rfl (lv_at hl 2 rfl) ?_
      refine lv_iload hx hb d_La_law_864 (lv_at hl 1 rfl) ?_
      refine lv_iconst (v := 4) hx hb d_La_law_866 (by decide) ?_
      refine lv_iadd hx hb d_La_law_867 ?_
      rw [ix4]
      refine va_sld hx hb hX hbl hbA hS (vp_in_nI (show 6 * t + 4 < L by omega) (by omega)) d_La_law_868 ?_
      rw [nI_clamp (show 6 * t + 4 < 2 ^ 31 by omega), e4]
      refine lv_if_eq (tgt := 876) hx hb d_La_law_869 (by decide) (fun c869_9 => ?_) (fun c869_9 => ?_)
      rotate_left
      · exact absurd c830_1 c869_9
      refine lv_iconst (v := 0) hx hb d_La_law_876 (by decide) ?_
      refine cvI C v_La_115 [.int a1, .int a2, .int a3, .int 0] [] (c_Mo_part_1 l g ad2 M a1 a2 a3 0 v) hP hD hS [39, 40, 41, 42, 43, 44, 45, 46, 47, 48, 49, 50, 51, 52, 53, 54, 55, 56, 57, 58, 59] [0, 1, 2, 3, 4, 5, 6, 7, 8, 9, 10, 11, 12, 13, 14, 15, 16, 17, 18, 19, 20, 21, 22, 23, 24, 25, 26, 27, 28, 29, 30, 31, 32, 33, 34, 35, 36, 37, 38, 60] [0, 1, 2, 3, 4, 5, 6, 7, 8, 9, 10, 11, 12, 13, 14, 15, 16, 17, 18, 19, 20, 21, 22, 23, 24, 25, 26, 27, 28, 29, 30, 31, 32, 33, 34, 35, 36, 37, 38, 40, 41, 42, 43, 44, 45, 46, 47, 48, 49, 50, 51, 52, 53, 54, 55, 56, 57, 58, 59, 60, 39] (wL g ad ao k x y q o) (wA g ad ad2 ao k x y q (upd M.1 0 1, M.2) o) rfl rfl (by decide) (by decide) (by decide) rfl (by decide) 0 rfl rfl rfl rfl hl.1 (Nat.le_of_ble_eq_true rfl) ⟨Nat.le_of_ble_eq_true rfl, Nat.le_of_ble_eq_true rfl⟩ d_La_law_877 ⟨by show 61 + t + 1 + 0 ≤ 601024; omega, by show 8756 + 6 * t + 6 + 0 ≤ 7293034; omega⟩ (fun H locs hP hD hS => ?_)
      refine lv_istore (lv' := [(6, .int 0), (5, .int 1), (4, .int (nI (6 * t))), (0, .ref b), (1, .ref (ad 0)), (2, .ref (ad2 0)), (3, .ref ao)]) hx hb d_La_law_880 hl (by decide) rfl (fun ls hl => ?_)
      refine lv_aload_n hx hb d_La_law_882 rfl (lv_at hl 5 rfl) ?_
      refine cvI C v_La_71 [] [] (c_Mo_thrown l g ad2 (upd M.1 0 1, M.2)) hP hD hS [39, 40, 41, 42, 43, 44, 45, 46, 47, 48, 49, 50, 51, 52, 53, 54, 55, 56, 57, 58, 59] [0, 1, 2, 3, 4, 5, 6, 7, 8, 9, 10, 11, 12, 13, 14, 15, 16, 17, 18, 19, 20, 21, 22, 23, 24, 25, 26, 27, 28, 29, 30, 31, 32, 33, 34, 35, 36, 37, 38, 60] [0, 1, 2, 3, 4, 5, 6, 7, 8, 9, 10, 11, 12, 13, 14, 15, 16, 17, 18, 19, 20, 21, 22, 23, 24, 25, 26, 27, 28, 29, 30, 31, 32, 33, 34, 35, 36, 37, 38, 40, 41, 42, 43, 44, 45, 46, 47, 48, 49, 50, 51, 52, 53, 54, 55, 56, 57, 58, 59, 60, 39] (wL g ad ao k x y q o) (wA g ad ad2 ao k x y q (upd M.1 0 1, M.2) o) rfl rfl (by decide) (by decide) (by decide) rfl (by decide) 0 rfl rfl rfl rfl hl.1 (Nat.le_of_ble_eq_true rfl) ⟨Nat.le_of_ble_eq_true rfl, Nat.le_of_ble_eq_true rfl⟩ d_La_law_883 ⟨by show 61 + t + 1 + 0 ≤ 601024; omega, by show 8756 + 6 * t + 6 + 0 ≤ 7293034; omega⟩ (fun H locs hP hD hS => ?_)
      refine lv_iload hx hb d_La_law_886 (lv_at hl 1 rfl) ?_
      refine lv_icmp_eq (tgt := 893) hx hb d_La_law_888 (by decide) (fun c888_10 => ?_) (fun c888_10 => ?_)
      rotate_left
      · exact absurd thr1 c888_10
      refine lv_iload hx hb d_La_law_893 (lv_at hl 1 rfl) ?_
      refine lv_if_ne (tgt := 910) hx hb d_La_law_895 (by decide) (fun c895_11 => ?_) (fun c895_11 => ?_)
      rotate_left
      · exact absurd c895_11 (by decide)
      refine lv_goto (tgt := 1069) hx hb d_La_law_910 (by decide) ?_
      exact hk k x y q (upd M.1 0 1, M.2) o n np mm H locs ls (h.thr 1) hP hD hS (lv_sub hl [2, 3, 4, 5, 6] rfl)
  · refine lv_iconst (v := 1) hx hb d_La_law_833 (by decide) ?_
    refine lv_goto (tgt := 838) hx hb d_La_law_834 (by decide) ?_
    refine lv_aload_n hx hb d_La_law_838 rfl (lv_at hl 4 rfl) ?_
    by_cases v : (inI a1 0 3 = 1 ∧ inI a2 (-3) 3 = 1 ∧ inI a3 1 60 = 1)
    · obtain ⟨v0, v1, v2⟩ := v
      obtain ⟨pl, hpl, rfl⟩ := in03 v0
      by_cases hf : mm pl = 6
      · have hq6 : (q pl).2.2.2 = 6 := by rw [(h.2.1 pl hpl).1, hf]; rfl
        have hm6 : M.2 9 pl = 6 := by rw [(h.2.1 pl hpl).2.1, hf]; rfl
        refine ckJ C v_La_112 [.ref (ad 0), .int (nI pl), .int a2, .int a3, .int 1, .ref ao] [] (c_La_part_2 l g hfl ad ao k x y q o pl hpl a2 a3 1 v0 v1 v2 hq6) hP hD hS [0, 1, 2, 3, 4, 5, 6, 7, 8, 9, 10, 11, 12, 13, 14, 15, 16, 17, 18, 19, 20, 21, 22, 23, 24, 25, 26, 27, 28, 29, 30, 31, 32, 33, 34, 35, 36, 37, 38, 60] [39, 40, 41, 42, 43, 44, 45, 46, 47, 48, 49, 50, 51, 52, 53, 54, 55, 56, 57, 58, 59] [21, 22, 23, 24, 25, 26, 27, 28, 29, 30, 31, 32, 33, 34, 35, 36, 37, 38, 39, 40, 41, 42, 43, 44, 45, 46, 47, 48, 49, 50, 51, 52, 53, 54, 55, 56, 57, 58, 59, 0, 1, 2, 3, 4, 5, 6, 7, 8, 9, 10, 11, 12, 13, 14, 15, 16, 17, 18, 19, 20, 60] (wM g ad2 M) (wA g ad ad2 ao k x y q M o) rfl rfl (by decide) (by decide) (by decide) rfl (by decide) rfl rfl hl.1 (Nat.le_of_ble_eq_true rfl) ⟨Nat.le_of_ble_eq_true rfl, Nat.le_of_ble_eq_true rfl⟩ d_La_law_839 ⟨by show 61 + t + 1 ≤ 601024; omega, by show 8756 + 6 * t + 6 ≤ 7293034; omega⟩ (fun H locs hP hD hS => ?_)
        refine lv_istore (lv' := [(5, .int 2), (4, .int (nI (6 * t))), (0, .ref b), (1, .ref (ad 0)), (2, .ref (ad2 0)), (3, .ref ao)]) hx hb d_La_law_842 hl (by decide) rfl (fun ls hl => ?_)
        refine lv_aload_n hx hb d_La_law_844 rfl (lv_at hl 4 rfl) ?_
        refine lv_aload_n hx hb d_La_law_845 rfl (lv_at hl 2 rfl) ?_
        refine lv_iload hx hb d_La_law_846 (lv_at hl 1 rfl) ?_
        refine lv_iconst (v := 1) hx hb d_La_law_848 (by decide) ?_
        refine lv_iadd hx hb d_La_law_849 ?_
        rw [ix1]
        refine va_sld hx hb hX hbl hbA hS (vp_in_nI (show 6 * t + 1 < L by omega) (by omega)) d_La_law_850 ?_
        rw [nI_clamp (show 6 * t + 1 < 2 ^ 31 by omega), e1]
        refine lv_aload_n hx hb d_La_law_851 rfl (lv_at hl 2 rfl) ?_
        refine lv_iload hx hb d_La_law_852 (lv_at hl 1 rfl) ?_
        refine lv_iconst (v := 2) hx hb d_La_law_854 (by decide) ?_
        refine lv_iadd hx hb d_La_law_855 ?_
        rw [ix2]
        refine va_sld hx hb hX hbl hbA hS (vp_in_nI (show 6 * t + 2 < L by omega) (by omega)) d_La_law_856 ?_
        rw [nI_clamp (show 6 * t + 2 < 2 ^ 31 by omega), e2]
        refine lv_aload_n hx hb d_La_law_857 rfl (lv_at hl 2 rfl) ?_
        refine lv_iload hx hb d_La_law_858 (lv_at hl 1 rfl) ?_
        refine lv_iconst (v := 3) hx hb d_La_law_860 (by decide) ?_
        refine lv_iadd hx hb d_La_law_861 ?_
        rw [ix3]
        refine va_sld hx hb hX hbl hbA hS (vp_in_nI (show 6 * t + 3 < L by omega) (by omega)) d_La_law_862 ?_
        rw [nI_clamp (show 6 * t + 3 < 2 ^ 31 by omega), e3]
        refine lv_aload_n hx hb d_La_law_863 rfl (lv_at hl 2 rfl) ?_
        refine lv_iload hx hb d_La_law_864 (lv_at hl 1 rfl) ?_
        refine lv_iconst (v := 4) hx hb d_La_law_866 (by decide) ?_
        refine lv_iadd hx hb d_La_law_867 ?_
        rw [ix4]
        refine va_sld hx hb hX hbl hbA hS (vp_in_nI (show 6 * t + 4 < L by omega) (by omega)) d_La_law_868 ?_
        rw [nI_clamp (show 6 * t + 4 < 2 ^ 31 by omega), e4]
        refine lv_if_eq (tgt := 876) hx hb d_La_law_869 (by decide) (fun c869_12 => ?_) (fun c869_12 => ?_)
        · exact absurd c869_12 c830_1
        refine lv_iconst (v := 1) hx hb d_La_law_872 (by decide) ?_
        refine lv_goto (tgt := 877) hx hb d_La_law_873 (by decide) ?_
        refine cvI C v_La_115 [.int (nI pl), .int a2, .int a3, .int 1] [] (c_Mo_part_2 l g ad2 M pl hpl a2 a3 1 v0 v1 v2 hm6) hP hD hS [39, 40, 41, 42, 43, 44, 45, 46, 47, 48, 49, 50, 51, 52, 53, 54, 55, 56, 57, 58, 59] [0, 1, 2, 3, 4, 5, 6, 7, 8, 9, 10, 11, 12, 13, 14, 15, 16, 17, 18, 19, 20, 21, 22, 23, 24, 25, 26, 27, 28, 29, 30, 31, 32, 33, 34, 35, 36, 37, 38, 60] [0, 1, 2, 3, 4, 5, 6, 7, 8, 9, 10, 11, 12, 13, 14, 15, 16, 17, 18, 19, 20, 21, 22, 23, 24, 25, 26, 27, 28, 29, 30, 31, 32, 33, 34, 35, 36, 37, 38, 40, 41, 42, 43, 44, 45, 46, 47, 48, 49, 50, 51, 52, 53, 54, 55, 56, 57, 58, 59, 60, 39] (wL g ad ao k x y q o) (wA g ad ad2 ao k x y q (upd M.1 0 2, M.2) o) rfl rfl (by decide) (by decide) (by decide) rfl (by decide) 0 rfl rfl rfl rfl hl.1 (Nat.le_of_ble_eq_true rfl) ⟨Nat.le_of_ble_eq_true rfl, Nat.le_of_ble_eq_true rfl⟩ d_La_law_877 ⟨by show 61 + t + 1 + 0 ≤ 601024; omega, by show 8756 + 6 * t + 6 + 0 ≤ 7293034; omega⟩ (fun H locs hP hD hS => ?_)
        refine lv_istore (lv' := [(6, .int 0), (5, .int 2), (4, .int (nI (6 * t))), (0, .ref b), (1, .ref (ad 0)), (2, .ref (ad2 0)), (3, .ref ao)]) hx hb d_La_law_880 hl (by decide) rfl (fun ls hl => ?_)
        refine lv_aload_n hx hb d_La_law_882 rfl (lv_at hl 5 rfl) ?_
        refine cvI C v_La_71 [] [] (c_Mo_thrown l g ad2 (upd M.1 0 2, M.2)) hP hD hS [39, 40, 41, 42, 43, 44, 45, 46, 47, 48, 49, 50, 51, 52, 53, 54, 55, 56, 57, 58, 59] [0, 1, 2, 3, 4, 5, 6, 7, 8, 9, 10, 11, 12, 13, 14, 15, 16, 17, 18, 19, 20, 21, 22, 23, 24, 25, 26, 27, 28, 29, 30, 31, 32, 33, 34, 35, 36, 37, 38, 60] [0, 1, 2, 3, 4, 5, 6, 7, 8, 9, 10, 11, 12, 13, 14, 15, 16, 17, 18, 19, 20, 21, 22, 23, 24, 25, 26, 27, 28, 29, 30, 31, 32, 33, 34, 35, 36, 37, 38, 40, 41, 42, 43, 44, 45, 46, 47, 48, 49, 50, 51, 52, 53, 54, 55, 56, 57, 58, 59, 60, 39] (wL g ad ao k x y q o) (wA g ad ad2 ao k x y q (upd M.1 0 2, M.2) o) rfl rfl (by decide) (by decide) (by decide) rfl (by decide) 0 rfl rfl rfl rfl hl.1 (Nat.le_of_ble_eq_true rfl) ⟨Nat.le_of_ble_eq_true rfl, Nat.le_of_ble_eq_true rfl⟩ d_La_law_883 ⟨by show 61 + t + 1 + 0 ≤ 601024; omega, by show 8756 + 6 * t + 6 + 0 ≤ 7293034; omega⟩ (fun H locs hP hD hS => ?_)
        refine lv_iload hx hb d_La_law_886 (lv_at hl 1 rfl) ?_
        refine lv_icmp_eq (tgt := 893) hx hb d_La_law_888 (by decide) (fun c888_13 => ?_) (fun c888_13 => ?_)
        rotate_left
        · exact absurd thr1 c888_13
        refine lv_iload hx hb d_La_law_893 (lv_at hl 1 rfl) ?_
        refine lv_if_ne (tgt := 910) hx hb d_La_law_895 (by decide) (fun c895_14 => ?_) (fun c895_14 => ?_)
        rotate_left
        · exact absurd c895_14 (by decide)
        refine lv_goto (tgt := 1069) hx hb d_La_law_910 (by decide) ?_
        exact hk k x y q (upd M.1 0 2, M.2) o n np mm H locs ls (h.thr 2) hP hD hS (lv_sub hl [2, 3, 4, 5, 6] rfl)
      · have h6 : mm pl < 6 := by have := (h.2.1 pl hpl).2.2.1; omega
        have hm6 : ¬ M.2 9 pl = 6 := by rw [(h.2.1 pl hpl).2.1]; exact n6 (h.2.1 pl hpl).2.2.1 hf
        refine ckJ C v_La_112 [.ref (ad 0), .int (nI pl), .int a2, .int a3, .int 1, .ref ao] [] (c_La_part_0 l g ad ao k x y q o pl hpl a2 a3 1 v0 v1 v2 (mm pl) (h.2.1 pl hpl).1 h6 (Or.inr rfl)) hP hD hS [0, 1, 2, 3, 4, 5, 6, 7, 8, 9, 10, 11, 12, 13, 14, 15, 16, 17, 18, 19, 20, 21, 22, 23, 24, 25, 26, 27, 28, 29, 30, 31, 32, 33, 34, 35, 36, 37, 38, 60] [39, 40, 41, 42, 43, 44, 45, 46, 47, 48, 49, 50, 51, 52, 53, 54, 55, 56, 57, 58, 59] [21, 22, 23, 24, 25, 26, 27, 28, 29, 30, 31, 32, 33, 34, 35, 36, 37, 38, 39, 40, 41, 42, 43, 44, 45, 46, 47, 48, 49, 50, 51, 52, 53, 54, 55, 56, 57, 58, 59, 0, 1, 2, 3, 4, 5, 6, 7, 8, 9, 10, 11, 12, 13, 14, 15, 16, 17, 18, 19, 20, 60] (wM g ad2 M) (wA g ad ad2 ao k x y (upQ q pl (addP (q pl) (mm pl) a2 a3 1)) M (vp_updL o 0 (nI (mm pl) + 1).toInt64)) rfl rfl (by decide) (by decide) (by decide) rfl (by decide) rfl rfl hl.1 (Nat.le_of_ble_eq_true rfl) ⟨Nat.le_of_ble_eq_true rfl, Nat.le_of_ble_eq_true rfl⟩ d_La_law_839 ⟨by show 61 + t + 1 ≤ 601024; omega, by show 8756 + 6 * t + 6 ≤ 7293034; omega⟩ (fun H locs hP hD hS => ?_)
        refine lv_istore (lv' := [(5, .int 0), (4, .int (nI (6 * t))), (0, .ref b), (1, .ref (ad 0)), (2, .ref (ad2 0)), (3, .ref ao)]) hx hb d_La_law_842 hl (by decide) rfl (fun ls hl => ?_)
        refine lv_aload_n hx hb d_La_law_844 rfl (lv_at hl 4 rfl) ?_
        refine lv_aload_n hx hb d_La_law_845 rfl (lv_at hl 2 rfl) ?_
        refine lv_iload hx hb d_La_law_846 (lv_at hl 1 rfl) ?_
        refine lv_iconst (v := 1) hx hb d_La_law_848 (by decide) ?_
        refine lv_iadd hx hb d_La_law_849 ?_
        rw [ix1]
        refine va_sld hx hb hX hbl hbA hS (vp_in_nI (show 6 * t + 1 < L by omega) (by omega)) d_La_law_850 ?_
        rw [nI_clamp (show 6 * t + 1 < 2 ^ 31 by omega), e1]
        refine lv_aload_n hx hb d_La_law_851 rfl (lv_at hl 2 rfl) ?_
        refine lv_iload hx hb d_La_law_852 (lv_at hl 1 rfl) ?_
        refine lv_iconst (v := 2) hx hb d_La_law_854 (by decide) ?_
        refine lv_iadd hx hb d_La_law_855 ?_
        rw [ix2]
        refine va_sld hx hb hX hbl hbA hS (vp_in_nI (show 6 * t + 2 < L by omega) (by omega)) d_La_law_856 ?_
        rw [nI_clamp (show 6 * t + 2 < 2 ^ 31 by omega), e2]
        refine lv_aload_n hx hb d_La_law_857 rfl (lv_at hl 2 rfl) ?_
        refine lv_iload hx hb d_La_law_858 (lv_at hl 1 rfl) ?_
        refine lv_iconst (v := 3) hx hb d_La_law_860 (by decide) ?_
        refine lv_iadd hx hb d_La_law_861 ?_
        rw [ix3]
        refine va_sld hx hb hX hbl hbA hS (vp_in_nI (show 6 * t + 3 < L by omega) (by omega)) d_La_law_862 ?_
        rw [nI_clamp (show 6 * t + 3 < 2 ^ 31 by omega), e3]
        refine lv_aload_n hx hb d_La_law_863 rfl (lv_at hl 2 rfl) ?_
        refine lv_iload hx hb d_La_law_864 (lv_at hl 1 rfl) ?_
        refine lv_iconst (v := 4) hx hb d_La_law_866 (by decide) ?_
        refine lv_iadd hx hb d_La_law_867 ?_
        rw [ix4]
        refine va_sld hx hb hX hbl hbA hS (vp_in_nI (show 6 * t + 4 < L by omega) (by omega)) d_La_law_868 ?_
        rw [nI_clamp (show 6 * t + 4 < 2 ^ 31 by omega), e4]
        refine lv_if_eq (tgt := 876) hx hb d_La_law_869 (by decide) (fun c869_15 => ?_) (fun c869_15 => ?_)
        · exact absurd c869_15 c830_1
        refine lv_iconst (v := 1) hx hb d_La_law_872 (by decide) ?_
        refine lv_goto (tgt := 877) hx hb d_La_law_873 (by decide) ?_
        refine cvI C v_La_115 [.int (nI pl), .int a2, .int a3, .int 1] [] (c_Mo_part_0 l g ad2 M pl (mm pl) hpl (h.2.1 pl hpl).2.1 h6 a2 a3 1 (Or.inr rfl) v0 v1 v2 hm6) hP hD hS [39, 40, 41, 42, 43, 44, 45, 46, 47, 48, 49, 50, 51, 52, 53, 54, 55, 56, 57, 58, 59] [0, 1, 2, 3, 4, 5, 6, 7, 8, 9, 10, 11, 12, 13, 14, 15, 16, 17, 18, 19, 20, 21, 22, 23, 24, 25, 26, 27, 28, 29, 30, 31, 32, 33, 34, 35, 36, 37, 38, 60] [0, 1, 2, 3, 4, 5, 6, 7, 8, 9, 10, 11, 12, 13, 14, 15, 16, 17, 18, 19, 20, 21, 22, 23, 24, 25, 26, 27, 28, 29, 30, 31, 32, 33, 34, 35, 36, 37, 38, 40, 41, 42, 43, 44, 45, 46, 47, 48, 49, 50, 51, 52, 53, 54, 55, 56, 57, 58, 59, 60, 39] (wL g ad ao k x y (upQ q pl (addP (q pl) (mm pl) a2 a3 1)) (vp_updL o 0 (nI (mm pl) + 1).toInt64)) (wA g ad ad2 ao k x y (upQ q pl (addP (q pl) (mm pl) a2 a3 1)) (partM pl (mm pl) a2 a3 1 M) (vp_updL o 0 (nI (mm pl) + 1).toInt64)) rfl rfl (by decide) (by decide) (by decide) rfl (by decide) 0 rfl rfl rfl rfl hl.1 (Nat.le_of_ble_eq_true rfl) ⟨Nat.le_of_ble_eq_true rfl, Nat.le_of_ble_eq_true rfl⟩ d_La_law_877 ⟨by show 61 + t + 1 + 0 ≤ 601024; omega, by show 8756 + 6 * t + 6 + 0 ≤ 7293034; omega⟩ (fun H locs hP hD hS => ?_)
        refine lv_istore (lv' := [(6, .int (M.2 9 pl + 1)), (5, .int 0), (4, .int (nI (6 * t))), (0, .ref b), (1, .ref (ad 0)), (2, .ref (ad2 0)), (3, .ref ao)]) hx hb d_La_law_880 hl (by decide) rfl (fun ls hl => ?_)
        refine lv_aload_n hx hb d_La_law_882 rfl (lv_at hl 5 rfl) ?_
        refine cvI C v_La_71 [] [] (c_Mo_thrown l g ad2 (partM pl (mm pl) a2 a3 1 M)) hP hD hS [39, 40, 41, 42, 43, 44, 45, 46, 47, 48, 49, 50, 51, 52, 53, 54, 55, 56, 57, 58, 59] [0, 1, 2, 3, 4, 5, 6, 7, 8, 9, 10, 11, 12, 13, 14, 15, 16, 17, 18, 19, 20, 21, 22, 23, 24, 25, 26, 27, 28, 29, 30, 31, 32, 33, 34, 35, 36, 37, 38, 60] [0, 1, 2, 3, 4, 5, 6, 7, 8, 9, 10, 11, 12, 13, 14, 15, 16, 17, 18, 19, 20, 21, 22, 23, 24, 25, 26, 27, 28, 29, 30, 31, 32, 33, 34, 35, 36, 37, 38, 40, 41, 42, 43, 44, 45, 46, 47, 48, 49, 50, 51, 52, 53, 54, 55, 56, 57, 58, 59, 60, 39] (wL g ad ao k x y (upQ q pl (addP (q pl) (mm pl) a2 a3 1)) (vp_updL o 0 (nI (mm pl) + 1).toInt64)) (wA g ad ad2 ao k x y (upQ q pl (addP (q pl) (mm pl) a2 a3 1)) (partM pl (mm pl) a2 a3 1 M) (vp_updL o 0 (nI (mm pl) + 1).toInt64)) rfl rfl (by decide) (by decide) (by decide) rfl (by decide) 0 rfl rfl rfl rfl hl.1 (Nat.le_of_ble_eq_true rfl) ⟨Nat.le_of_ble_eq_true rfl, Nat.le_of_ble_eq_true rfl⟩ d_La_law_883 ⟨by show 61 + t + 1 + 0 ≤ 601024; omega, by show 8756 + 6 * t + 6 + 0 ≤ 7293034; omega⟩ (fun H locs hP hD hS => ?_)
        refine lv_iload hx hb d_La_law_886 (lv_at hl 1 rfl) ?_
        refine lv_icmp_eq (tgt := 893) hx hb d_La_law_888 (by decide) (fun c888_16 => ?_) (fun c888_16 => ?_)
        rotate_left
        · exact absurd thrP c888_16
        refine lv_iload hx hb d_La_law_893 (lv_at hl 1 rfl) ?_
        refine lv_if_ne (tgt := 910) hx hb d_La_law_895 (by decide) (fun c895_17 => ?_) (fun c895_17 => ?_)
        · exact absurd c895_17 (fun z => z rfl)
        refine lv_aload_n hx hb d_La_law_898 rfl (lv_at hl 6 rfl) ?_
        refine lv_iconst (v := 0) hx hb d_La_law_899 (by decide) ?_
        refine va_lald hx hb hE.1 hP 60 1 rfl rfl (by unfold vp_in; decide) d_La_law_900 ?_
        rw [show (0 : Int32).toNatClampNeg = 0 from by decide]
        refine lv_iload hx hb d_La_law_901 (lv_at hl 0 rfl) ?_
        refine lv_i2l hx hb d_La_law_903 rfl ?_
        refine W.lcmp hx hb d_La_law_904 ?_
        refine lv_if_eq (tgt := 910) hx hb d_La_law_905 (by decide) (fun c905_18 => ?_) (fun c905_18 => ?_)
        rotate_left
        · exact absurd (show lg_cmp _ _ = 0 by rw [lg_cmp_eq]; exact congrArg Int32.toInt64 (ans_part h hpl)) c905_18
        refine lv_goto (tgt := 1069) hx hb d_La_law_910 (by decide) ?_
        exact hk k x y (upQ q pl (addP (q pl) (mm pl) a2 a3 1)) (partM pl (mm pl) a2 a3 1 M) (vp_updL o 0 (nI (mm pl) + 1).toInt64) n np (fun j => if j = pl then mm pl + 1 else mm j) H locs ls (h.part hpl h6 a2 v2 1) hP hD hS (lv_sub hl [2, 3, 4, 5, 6] rfl)
    · refine ckJ C v_La_112 [.ref (ad 0), .int a1, .int a2, .int a3, .int 1, .ref ao] [] (c_La_part_1 l g hfl ad ao k x y q o a1 a2 a3 1 v) hP hD hS [0, 1, 2, 3, 4, 5, 6, 7, 8, 9, 10, 11, 12, 13, 14, 15, 16, 17, 18, 19, 20, 21, 22, 23, 24, 25, 26, 27, 28, 29, 30, 31, 32, 33, 34, 35, 36, 37, 38, 60] [39, 40, 41, 42, 43, 44, 45, 46, 47, 48, 49, 50, 51, 52, 53, 54, 55, 56, 57, 58, 59] [21, 22, 23, 24, 25, 26, 27, 28, 29, 30, 31, 32, 33, 34, 35, 36, 37, 38, 39, 40, 41, 42, 43, 44, 45, 46, 47, 48, 49, 50, 51, 52, 53, 54, 55, 56, 57, 58, 59, 0, 1, 2, 3, 4, 5, 6, 7, 8, 9, 10, 11, 12, 13, 14, 15, 16, 17, 18, 19, 20, 60] (wM g ad2 M) (wA g ad ad2 ao k x y q M o) rfl rfl (by decide) (by decide) (by decide) rfl (by decide) rfl rfl hl.1 (Nat.le_of_ble_eq_true rfl) ⟨Nat.le_of_ble_eq_true rfl, Nat.le_of_ble_eq_true rfl⟩ d_La_law_839 ⟨by show 61 + t + 1 ≤ 601024; omega, by show 8756 + 6 * t + 6 ≤ 7293034; omega⟩ (fun H locs hP hD hS => ?_)
      refine lv_istore (lv' := [(5, .int 1), (4, .int (nI (6 * t))), (0, .ref b), (1, .ref (ad 0)), (2, .ref (ad2 0)), (3, .ref ao)]) hx hb d_La_law_842 hl (by decide) rfl (fun ls hl => ?_)
      refine lv_aload_n hx hb d_La_law_844 rfl (lv_at hl 4 rfl) ?_
      refine lv_aload_n hx hb d_La_law_845 rfl (lv_at hl 2 rfl) ?_
      refine lv_iload hx hb d_La_law_846 (lv_at hl 1 rfl) ?_
      refine lv_iconst (v := 1) hx hb d_La_law_848 (by decide) ?_
      refine lv_iadd hx hb d_La_law_849 ?_
      rw [ix1]
      refine va_sld hx hb hX hbl hbA hS (vp_in_nI (show 6 * t + 1 < L by omega) (by omega)) d_La_law_850 ?_
      rw [nI_clamp (show 6 * t + 1 < 2 ^ 31 by omega), e1]
      refine lv_aload_n hx hb d_La_law_851 rfl (lv_at hl 2 rfl) ?_
      refine lv_iload hx hb d_La_law_852 (lv_at hl 1 rfl) ?_
      refine lv_iconst (v := 2) hx hb d_La_law_854 (by decide) ?_
      refine lv_iadd hx hb d_La_law_855 ?_
      rw [ix2]
      refine va_sld hx hb hX hbl hbA hS (vp_in_nI (show 6 * t + 2 < L by omega) (by omega)) d_La_law_856 ?_
      rw [nI_clamp (show 6 * t + 2 < 2 ^ 31 by omega), e2]
      refine lv_aload_n hx hb d_La_law_857 rfl (lv_at hl 2 rfl) ?_
      refine lv_iload hx hb d_La_law_858 (lv_at hl 1 rfl) ?_
      refine lv_iconst (v := 3) hx hb d_La_law_860 (by decide) ?_
      refine lv_iadd hx hb d_La_law_861 ?_
      rw [ix3]
      refine va_sld hx hb hX hbl hbA hS (vp_in_nI (show 6 * t + 3 < L by omega) (by omega)) d_La_law_862 ?_
      rw [nI_clamp (show 6 * t + 3 < 2 ^ 31 by omega), e3]
      refine lv_aload_n hx hb d_La_law_863 rfl (lv_at hl 2 rfl) ?_
      refine lv_iload hx hb d_La_law_864 (lv_at hl 1 rfl) ?_
      refine lv_iconst (v := 4) hx hb d_La_law_866 (by decide) ?_
      refine lv_iadd hx hb d_La_law_867 ?_
      rw [ix4]
      refine va_sld hx hb hX hbl hbA hS (vp_in_nI (show 6 * t + 4 < L by omega) (by omega)) d_La_law_868 ?_
      rw [nI_clamp (show 6 * t + 4 < 2 ^ 31 by omega), e4]
      refine lv_if_eq (tgt := 876) hx hb d_La_law_869 (by decide) (fun c869_19 => ?_) (fun c869_19 => ?_)
      · exact absurd c869_19 c830_1
      refine lv_iconst (v := 1) hx hb d_La_law_872 (by decide) ?_
      refine lv_goto (tgt := 877) hx hb d_La_law_873 (by decide) ?_
      refine cvI C v_La_115 [.int a1, .int a2, .int a3, .int 1] [] (c_Mo_part_1 l g ad2 M a1 a2 a3 1 v) hP hD hS [39, 40, 41, 42, 43, 44, 45, 46, 47, 48, 49, 50, 51, 52, 53, 54, 55, 56, 57, 58, 59] [0, 1, 2, 3, 4, 5, 6, 7, 8, 9, 10, 11, 12, 13, 14, 15, 16, 17, 18, 19, 20, 21, 22, 23, 24, 25, 26, 27, 28, 29, 30, 31, 32, 33, 34, 35, 36, 37, 38, 60] [0, 1, 2, 3, 4, 5, 6, 7, 8, 9, 10, 11, 12, 13, 14, 15, 16, 17, 18, 19, 20, 21, 22, 23, 24, 25, 26, 27, 28, 29, 30, 31, 32, 33, 34, 35, 36, 37, 38, 40, 41, 42, 43, 44, 45, 46, 47, 48, 49, 50, 51, 52, 53, 54, 55, 56, 57, 58, 59, 60, 39] (wL g ad ao k x y q o) (wA g ad ad2 ao k x y q (upd M.1 0 1, M.2) o) rfl rfl (by decide) (by decide) (by decide) rfl (by decide) 0 rfl rfl rfl rfl hl.1 (Nat.le_of_ble_eq_true rfl) ⟨Nat.le_of_ble_eq_true rfl, Nat.le_of_ble_eq_true rfl⟩ d_La_law_877 ⟨by show 61 + t + 1 + 0 ≤ 601024; omega, by show 8756 + 6 * t + 6 + 0 ≤ 7293034; omega⟩ (fun H locs hP hD hS => ?_)
      refine lv_istore (lv' := [(6, .int 0), (5, .int 1), (4, .int (nI (6 * t))), (0, .ref b), (1, .ref (ad 0)), (2, .ref (ad2 0)), (3, .ref ao)]) hx hb d_La_law_880 hl (by decide) rfl (fun ls hl => ?_)
      refine lv_aload_n hx hb d_La_law_882 rfl (lv_at hl 5 rfl) ?_
      refine cvI C v_La_71 [] [] (c_Mo_thrown l g ad2 (upd M.1 0 1, M.2)) hP hD hS [39, 40, 41, 42, 43, 44, 45, 46, 47, 48, 49, 50, 51, 52, 53, 54, 55, 56, 57, 58, 59] [0, 1, 2, 3, 4, 5, 6, 7, 8, 9, 10, 11, 12, 13, 14, 15, 16, 17, 18, 19, 20, 21, 22, 23, 24, 25, 26, 27, 28, 29, 30, 31, 32, 33, 34, 35, 36, 37, 38, 60] [0, 1, 2, 3, 4, 5, 6, 7, 8, 9, 10, 11, 12, 13, 14, 15, 16, 17, 18, 19, 20, 21, 22, 23, 24, 25, 26, 27, 28, 29, 30, 31, 32, 33, 34, 35, 36, 37, 38, 40, 41, 42, 43, 44, 45, 46, 47, 48, 49, 50, 51, 52, 53, 54, 55, 56, 57, 58, 59, 60, 39] (wL g ad ao k x y q o) (wA g ad ad2 ao k x y q (upd M.1 0 1, M.2) o) rfl rfl (by decide) (by decide) (by decide) rfl (by decide) 0 rfl rfl rfl rfl hl.1 (Nat.le_of_ble_eq_true rfl) ⟨Nat.le_of_ble_eq_true rfl, Nat.le_of_ble_eq_true rfl⟩ d_La_law_883 ⟨by show 61 + t + 1 + 0 ≤ 601024; omega, by show 8756 + 6 * t + 6 + 0 ≤ 7293034; omega⟩ (fun H locs hP hD hS => ?_)
      refine lv_iload hx hb d_La_law_886 (lv_at hl 1 rfl) ?_
      refine lv_icmp_eq (tgt := 893) hx hb d_La_law_888 (by decide) (fun c888_20 => ?_) (fun c888_20 => ?_)
      rotate_left
      · exact absurd thr1 c888_20
      refine lv_iload hx hb d_La_law_893 (lv_at hl 1 rfl) ?_
      refine lv_if_ne (tgt := 910) hx hb d_La_law_895 (by decide) (fun c895_21 => ?_) (fun c895_21 => ?_)
      rotate_left
      · exact absurd c895_21 (by decide)
      refine lv_goto (tgt := 1069) hx hb d_La_law_910 (by decide) ?_
      exact hk k x y q (upd M.1 0 1, M.2) o n np mm H locs ls (h.thr 1) hP hD hS (lv_sub hl [2, 3, 4, 5, 6] rfl)
set_option maxHeartbeats 4000000 in
set_option maxRecDepth 100000 in
theorem law_clear {l : Launch} {g : Glob} {p : Program} {e : Env} {s : State} {m : MethodId} {below : List Frame} {meth : Method} {c : Code} {A : Nat → Prop} {Q : State → Prop} {b L : Nat} {xs : Nat → Int32} (hfl : l.flags = pinnedFlags ++ [noTraceFlag]) (C : Cx g R_law b_La_law 7 A p s m #[Value.ref b] c) (hX : va_X b L xs s s.heap) (hbl : b < s.heap.size) (hbA : ¬ A b) {ad ad2 : Nat → Nat} {ao t : Nat} (hL : L ≤ 3072) (ht : 6 * t + 6 ≤ L) {k : CFG} {x y : RS} {q : PLS} {M : MS} {o : Nat → Int64} {n np : Nat} {mm : Nat → Nat} (h : Rel k x y q M n np mm) {H : Heap} {locs : List Loc} {ls : Array Slot} (hP : va_P g.1 classes (wA g ad ad2 ao k x y q M o) H) (hD : va_D A (wA g ad ad2 ao k x y q M o)) (hS : va_S A s.heap H locs) (hl : lv_has ls 7 [(4, .int (nI (6 * t))), (0, .ref b), (1, .ref (ad 0)), (2, .ref (ad2 0)), (3, .ref ao)]) (a1 : Int32) (e1 : xs (6 * t + 1) = a1)
    (hk : ∀ (k : CFG) (x y : RS) (q : PLS) (M : MS) (o : Nat → Int64) (n np : Nat) (mm : Nat → Nat) (H : Heap) (locs : List Loc) (ls : Array Slot), Rel k x y q M n np mm → va_P g.1 classes (wA g ad ad2 ao k x y q M o) H → va_D A (wA g ad ad2 ao k x y q M o) → va_S A s.heap H locs → lv_has ls 7 [(4, .int (nI (6 * t))), (0, .ref b), (1, .ref (ad 0)), (2, .ref (ad2 0)), (3, .ref ao)] → W p l e room_1 s m #[Value.ref b] below meth c H locs (61 + t + 1) (8756 + 6 * t + 6) Q (F0 m 1069 ls [])) :
    W p l e room_1 s m #[Value.ref b] below meth c H locs (61 + t) (8756 + 6 * t) Q (F0 m 913 ls []) := by
  obtain ⟨hx, hb, hml, hown, hw, hE, hA⟩ := id C
  refine lv_aload_n hx hb d_La_law_913 rfl (lv_at hl 2 rfl) ?_
  refine lv_aload_n hx hb d_La_law_914 rfl (lv_at hl 1 rfl) ?_
  refine lv_iload hx hb d_La_law_915 (lv_at hl 0 rfl) ?_
  refine lv_iconst (v := 1) hx hb d_La_law_917 (by decide) ?_
  refine lv_iadd hx hb d_La_law_918 ?_
  rw [ix1]
  refine va_sld hx hb hX hbl hbA hS (vp_in_nI (show 6 * t + 1 < L by omega) (by omega)) d_La_law_919 ?_
  rw [nI_clamp (show 6 * t + 1 < 2 ^ 31 by omega), e1]
  refine lv_aload_n hx hb d_La_law_920 rfl (lv_at hl 4 rfl) ?_
  by_cases v : inI a1 0 3 = 1
  · obtain ⟨pl, hpl, rfl⟩ := in03 v
    refine ckJ C v_La_116 [.ref (ad 0), .int (nI pl), .ref ao] [] (c_La_clear_0 l g ad ao k x y q o pl hpl v) hP hD hS [0, 1, 2, 3, 4, 5, 6, 7, 8, 9, 10, 11, 12, 13, 14, 15, 16, 17, 18, 19, 20, 21, 22, 23, 24, 25, 26, 27, 28, 29, 30, 31, 32, 33, 34, 35, 36, 37, 38, 60] [39, 40, 41, 42, 43, 44, 45, 46, 47, 48, 49, 50, 51, 52, 53, 54, 55, 56, 57, 58, 59] [21, 22, 23, 24, 25, 26, 27, 28, 29, 30, 31, 32, 33, 34, 35, 36, 37, 38, 39, 40, 41, 42, 43, 44, 45, 46, 47, 48, 49, 50, 51, 52, 53, 54, 55, 56, 57, 58, 59, 0, 1, 2, 3, 4, 5, 6, 7, 8, 9, 10, 11, 12, 13, 14, 15, 16, 17, 18, 19, 20, 60] (wM g ad2 M) (wA g ad ad2 ao k x y (upQ q pl (clrP (q pl))) M (vp_updL o 0 ((q pl).2.2.2).toInt64)) rfl rfl (by decide) (by decide) (by decide) rfl (by decide) rfl rfl hl.1 (Nat.le_of_ble_eq_true rfl) ⟨Nat.le_of_ble_eq_true rfl, Nat.le_of_ble_eq_true rfl⟩ d_La_law_921 ⟨by show 61 + t + 1 ≤ 601024; omega, by show 8756 + 6 * t + 6 ≤ 7293034; omega⟩ (fun H locs hP hD hS => ?_)
    refine lv_istore (lv' := [(5, .int 0), (4, .int (nI (6 * t))), (0, .ref b), (1, .ref (ad 0)), (2, .ref (ad2 0)), (3, .ref ao)]) hx hb d_La_law_924 hl (by decide) rfl (fun ls hl => ?_)
    refine lv_aload_n hx hb d_La_law_926 rfl (lv_at hl 4 rfl) ?_
    refine lv_aload_n hx hb d_La_law_927 rfl (lv_at hl 2 rfl) ?_
    refine lv_iload hx hb d_La_law_928 (lv_at hl 1 rfl) ?_
    refine lv_iconst (v := 1) hx hb d_La_law_930 (by decide) ?_
    refine lv_iadd hx hb d_La_law_931 ?_
    rw [ix1]
    refine va_sld hx hb hX hbl hbA hS (vp_in_nI (show 6 * t + 1 < L by omega) (by omega)) d_La_law_932 ?_
    rw [nI_clamp (show 6 * t + 1 < 2 ^ 31 by omega), e1]
    refine cvI C v_La_118 [.int (nI pl)] [] (c_Mo_clear_0 l g ad2 M pl hpl v) hP hD hS [39, 40, 41, 42, 43, 44, 45, 46, 47, 48, 49, 50, 51, 52, 53, 54, 55, 56, 57, 58, 59] [0, 1, 2, 3, 4, 5, 6, 7, 8, 9, 10, 11, 12, 13, 14, 15, 16, 17, 18, 19, 20, 21, 22, 23, 24, 25, 26, 27, 28, 29, 30, 31, 32, 33, 34, 35, 36, 37, 38, 60] [0, 1, 2, 3, 4, 5, 6, 7, 8, 9, 10, 11, 12, 13, 14, 15, 16, 17, 18, 19, 20, 21, 22, 23, 24, 25, 26, 27, 28, 29, 30, 31, 32, 33, 34, 35, 36, 37, 38, 40, 41, 42, 43, 44, 45, 46, 47, 48, 49, 50, 51, 52, 53, 54, 55, 56, 57, 58, 59, 60, 39] (wL g ad ao k x y (upQ q pl (clrP (q pl))) (vp_updL o 0 ((q pl).2.2.2).toInt64)) (wA g ad ad2 ao k x y (upQ q pl (clrP (q pl))) (clearM pl M) (vp_updL o 0 ((q pl).2.2.2).toInt64)) rfl rfl (by decide) (by decide) (by decide) rfl (by decide) 0 rfl rfl rfl rfl hl.1 (Nat.le_of_ble_eq_true rfl) ⟨Nat.le_of_ble_eq_true rfl, Nat.le_of_ble_eq_true rfl⟩ d_La_law_933 ⟨by show 61 + t + 1 + 0 ≤ 601024; omega, by show 8756 + 6 * t + 6 + 0 ≤ 7293034; omega⟩ (fun H locs hP hD hS => ?_)
    refine lv_istore (lv' := [(6, .int (M.2 9 pl)), (5, .int 0), (4, .int (nI (6 * t))), (0, .ref b), (1, .ref (ad 0)), (2, .ref (ad2 0)), (3, .ref ao)]) hx hb d_La_law_936 hl (by decide) rfl (fun ls hl => ?_)
    refine lv_aload_n hx hb d_La_law_938 rfl (lv_at hl 5 rfl) ?_
    refine cvI C v_La_71 [] [] (c_Mo_thrown l g ad2 (clearM pl M)) hP hD hS [39, 40, 41, 42, 43, 44, 45, 46, 47, 48, 49, 50, 51, 52, 53, 54, 55, 56, 57, 58, 59] [0, 1, 2, 3, 4, 5, 6, 7, 8, 9, 10, 11, 12, 13, 14, 15, 16, 17, 18, 19, 20, 21, 22, 23, 24, 25, 26, 27, 28, 29, 30, 31, 32, 33, 34, 35, 36, 37, 38, 60] [0, 1, 2, 3, 4, 5, 6, 7, 8, 9, 10, 11, 12, 13, 14, 15, 16, 17, 18, 19, 20, 21, 22, 23, 24, 25, 26, 27, 28, 29, 30, 31, 32, 33, 34, 35, 36, 37, 38, 40, 41, 42, 43, 44, 45, 46, 47, 48, 49, 50, 51, 52, 53, 54, 55, 56, 57, 58, 59, 60, 39] (wL g ad ao k x y (upQ q pl (clrP (q pl))) (vp_updL o 0 ((q pl).2.2.2).toInt64)) (wA g ad ad2 ao k x y (upQ q pl (clrP (q pl))) (clearM pl M) (vp_updL o 0 ((q pl).2.2.2).toInt64)) rfl rfl (by decide) (by decide) (by decide) rfl (by decide) 0 rfl rfl rfl rfl hl.1 (Nat.le_of_ble_eq_true rfl) ⟨Nat.le_of_ble_eq_true rfl, Nat.le_of_ble_eq_true rfl⟩ d_La_law_939 ⟨by show 61 + t + 1 + 0 ≤ 601024; omega, by show 8756 + 6 * t + 6 + 0 ≤ 7293034; omega⟩ (fun H locs hP hD hS => ?_)
    refine lv_iload hx hb d_La_law_942 (lv_at hl 1 rfl) ?_
    refine lv_icmp_eq (tgt := 949) hx hb d_La_law_944 (by decide) (fun c944_1 => ?_) (fun c944_1 => ?_)
    rotate_left
    · exact absurd thrC c944_1
    refine lv_iload hx hb d_La_law_949 (lv_at hl 1 rfl) ?_
    refine lv_if_ne (tgt := 966) hx hb d_La_law_951 (by decide) (fun c951_2 => ?_) (fun c951_2 => ?_)
    · exact absurd c951_2 (fun z => z rfl)
    refine lv_aload_n hx hb d_La_law_954 rfl (lv_at hl 6 rfl) ?_
    refine lv_iconst (v := 0) hx hb d_La_law_955 (by decide) ?_
    refine va_lald hx hb hE.1 hP 60 1 rfl rfl (by unfold vp_in; decide) d_La_law_956 ?_
    rw [show (0 : Int32).toNatClampNeg = 0 from by decide]
    refine lv_iload hx hb d_La_law_957 (lv_at hl 0 rfl) ?_
    refine lv_i2l hx hb d_La_law_959 rfl ?_
    refine W.lcmp hx hb d_La_law_960 ?_
    refine lv_if_eq (tgt := 966) hx hb d_La_law_961 (by decide) (fun c961_3 => ?_) (fun c961_3 => ?_)
    rotate_left
    · exact absurd (show lg_cmp _ _ = 0 by rw [lg_cmp_eq]; exact congrArg Int32.toInt64 ((h.2.1 pl hpl).1.trans (h.2.1 pl hpl).2.1.symm)) c961_3
    refine lv_goto (tgt := 1069) hx hb d_La_law_966 (by decide) ?_
    exact hk k x y (upQ q pl (clrP (q pl))) (clearM pl M) (vp_updL o 0 ((q pl).2.2.2).toInt64) n np (fun j => if j = pl then 0 else mm j) H locs ls (h.clear hpl) hP hD hS (lv_sub hl [2, 3, 4, 5, 6] rfl)
  · refine ckJ C v_La_116 [.ref (ad 0), .int a1, .ref ao] [] (c_La_clear_1 l g hfl ad ao k x y q o a1 v) hP hD hS [0, 1, 2, 3, 4, 5, 6, 7, 8, 9, 10, 11, 12, 13, 14, 15, 16, 17, 18, 19, 20, 21, 22, 23, 24, 25, 26, 27, 28, 29, 30, 31, 32, 33, 34, 35, 36, 37, 38, 60] [39, 40, 41, 42, 43, 44, 45, 46, 47, 48, 49, 50, 51, 52, 53, 54, 55, 56, 57, 58, 59] [21, 22, 23, 24, 25, 26, 27, 28, 29, 30, 31, 32, 33, 34, 35, 36, 37, 38, 39, 40, 41, 42, 43, 44, 45, 46, 47, 48, 49, 50, 51, 52, 53, 54, 55, 56, 57, 58, 59, 0, 1, 2, 3, 4, 5, 6, 7, 8, 9, 10, 11, 12, 13, 14, 15, 16, 17, 18, 19, 20, 60] (wM g ad2 M) (wA g ad ad2 ao k x y q M o) rfl rfl (by decide) (by decide) (by decide) rfl (by decide) rfl rfl hl.1 (Nat.le_of_ble_eq_true rfl) ⟨Nat.le_of_ble_eq_true rfl, Nat.le_of_ble_eq_true rfl⟩ d_La_law_921 ⟨by show 61 + t + 1 ≤ 601024; omega, by show 8756 + 6 * t + 6 ≤ 7293034; omega⟩ (fun H locs hP hD hS => ?_)
    refine lv_istore (lv' := [(5, .int 1), (4, .int (nI (6 * t))), (0, .ref b), (1, .ref (ad 0)), (2, .ref (ad2 0)), (3, .ref ao)]) hx hb d_La_law_924 hl (by decide) rfl (fun ls hl => ?_)
    refine lv_aload_n hx hb d_La_law_926 rfl (lv_at hl 4 rfl) ?_
    refine lv_aload_n hx hb d_La_law_927 rfl (lv_at hl 2 rfl) ?_
    refine lv_iload hx hb d_La_law_928 (lv_at hl 1 rfl) ?_
    refine lv_iconst (v := 1) hx hb d_La_law_930 (by decide) ?_
    refine lv_iadd hx hb d_La_law_931 ?_
    rw [ix1]
    refine va_sld hx hb hX hbl hbA hS (vp_in_nI (show 6 * t + 1 < L by omega) (by omega)) d_La_law_932 ?_
    rw [nI_clamp (show 6 * t + 1 < 2 ^ 31 by omega), e1]
    refine cvI C v_La_118 [.int a1] [] (c_Mo_clear_1 l g ad2 M a1 v) hP hD hS [39, 40, 41, 42, 43, 44, 45, 46, 47, 48, 49, 50, 51, 52, 53, 54, 55, 56, 57, 58, 59] [0, 1, 2, 3, 4, 5, 6, 7, 8, 9, 10, 11, 12, 13, 14, 15, 16, 17, 18, 19, 20, 21, 22, 23, 24, 25, 26, 27, 28, 29, 30, 31, 32, 33, 34, 35, 36, 37, 38, 60] [0, 1, 2, 3, 4, 5, 6, 7, 8, 9, 10, 11, 12, 13, 14, 15, 16, 17, 18, 19, 20, 21, 22, 23, 24, 25, 26, 27, 28, 29, 30, 31, 32, 33, 34, 35, 36, 37, 38, 40, 41, 42, 43, 44, 45, 46, 47, 48, 49, 50, 51, 52, 53, 54, 55, 56, 57, 58, 59, 60, 39] (wL g ad ao k x y q o) (wA g ad ad2 ao k x y q (upd M.1 0 1, M.2) o) rfl rfl (by decide) (by decide) (by decide) rfl (by decide) 0 rfl rfl rfl rfl hl.1 (Nat.le_of_ble_eq_true rfl) ⟨Nat.le_of_ble_eq_true rfl, Nat.le_of_ble_eq_true rfl⟩ d_La_law_933 ⟨by show 61 + t + 1 + 0 ≤ 601024; omega, by show 8756 + 6 * t + 6 + 0 ≤ 7293034; omega⟩ (fun H locs hP hD hS => ?_)
    refine lv_istore (lv' := [(6, .int 0), (5, .int 1), (4, .int (nI (6 * t))), (0, .ref b), (1, .ref (ad 0)), (2, .ref (ad2 0)), (3, .ref ao)]) hx hb d_La_law_936 hl (by decide) rfl (fun ls hl => ?_)
    refine lv_aload_n hx hb d_La_law_938 rfl (lv_at hl 5 rfl) ?_
    refine cvI C v_La_71 [] [] (c_Mo_thrown l g ad2 (upd M.1 0 1, M.2)) hP hD hS [39, 40, 41, 42, 43, 44, 45, 46, 47, 48, 49, 50, 51, 52, 53, 54, 55, 56, 57, 58, 59] [0, 1, 2, 3, 4, 5, 6, 7, 8, 9, 10, 11, 12, 13, 14, 15, 16, 17, 18, 19, 20, 21, 22, 23, 24, 25, 26, 27, 28, 29, 30, 31, 32, 33, 34, 35, 36, 37, 38, 60] [0, 1, 2, 3, 4, 5, 6, 7, 8, 9, 10, 11, 12, 13, 14, 15, 16, 17, 18, 19, 20, 21, 22, 23, 24, 25, 26, 27, 28, 29, 30, 31, 32, 33, 34, 35, 36, 37, 38, 40, 41, 42, 43, 44, 45, 46, 47, 48, 49, 50, 51, 52, 53, 54, 55, 56, 57, 58, 59, 60, 39] (wL g ad ao k x y q o) (wA g ad ad2 ao k x y q (upd M.1 0 1, M.2) o) rfl rfl (by decide) (by decide) (by decide) rfl (by decide) 0 rfl rfl rfl rfl hl.1 (Nat.le_of_ble_eq_true rfl) ⟨Nat.le_of_ble_eq_true rfl, Nat.le_of_ble_eq_true rfl⟩ d_La_law_939 ⟨by show 61 + t + 1 + 0 ≤ 601024; omega, by show 8756 + 6 * t + 6 + 0 ≤ 7293034; omega⟩ (fun H locs hP hD hS => ?_)
    refine lv_iload hx hb d_La_law_942 (lv_at hl 1 rfl) ?_
    refine lv_icmp_eq (tgt := 949) hx hb d_La_law_944 (by decide) (fun c944_4 => ?_) (fun c944_4 => ?_)
    rotate_left
    · exact absurd thr1 c944_4
    refine lv_iload hx hb d_La_law_949 (lv_at hl 1 rfl) ?_
    refine lv_if_ne (tgt := 966) hx hb d_La_law_951 (by decide) (fun c951_5 => ?_) (fun c951_5 => ?_)
    rotate_left
    · exact absurd c951_5 (by decide)
    refine lv_goto (tgt := 1069) hx hb d_La_law_966 (by decide) ?_
    exact hk k x y q (upd M.1 0 1, M.2) o n np mm H locs ls (h.thr 1) hP hD hS (lv_sub hl [2, 3, 4, 5, 6] rfl)
set_option maxHeartbeats 4000000 in
set_option maxRecDepth 100000 in
theorem law_best {l : Launch} {g : Glob} {p : Program} {e : Env} {s : State} {m : MethodId} {below : List Frame} {meth : Method} {c : Code} {A : Nat → Prop} {Q : State → Prop} {b L : Nat} {xs : Nat → Int32} (hfl : l.flags = pinnedFlags ++ [noTraceFlag]) (C : Cx g R_law b_La_law 7 A p s m #[Value.ref b] c) (hX : va_X b L xs s s.heap) (hbl : b < s.heap.size) (hbA : ¬ A b) {ad ad2 : Nat → Nat} {ao t : Nat} (hL : L ≤ 3072) (ht : 6 * t + 6 ≤ L) {k : CFG} {x y : RS} {q : PLS} {M : MS} {o : Nat → Int64} {n np : Nat} {mm : Nat → Nat} (h : Rel k x y q M n np mm) {H : Heap} {locs : List Loc} {ls : Array Slot} (hP : va_P g.1 classes (wA g ad ad2 ao k x y q M o) H) (hD : va_D A (wA g ad ad2 ao k x y q M o)) (hS : va_S A s.heap H locs) (hl : lv_has ls 7 [(4, .int (nI (6 * t))), (0, .ref b), (1, .ref (ad 0)), (2, .ref (ad2 0)), (3, .ref ao)])
    (hk : ∀ (k : CFG) (x y : RS) (q : PLS) (M : MS) (o : Nat → Int64) (n np : Nat) (mm : Nat → Nat) (H : Heap) (locs : List Loc) (ls : Array Slot), Rel k x y q M n np mm → va_P g.1 classes (wA g ad ad2 ao k x y q M o) H → va_D A (wA g ad ad2 ao k x y q M o) → va_S A s.heap H locs → lv_has ls 7 [(4, .int (nI (6 * t))), (0, .ref b), (1, .ref (ad 0)), (2, .ref (ad2 0)), (3, .ref ao)] → W p l e room_1 s m #[Value.ref b] below meth c H locs (61 + t + 1) (8756 + 6 * t + 6) Q (F0 m 1069 ls [])) :
    W p l e room_1 s m #[Value.ref b] below meth c H locs (61 + t) (8756 + 6 * t) Q (F0 m 969 ls []) := by
  obtain ⟨hx, hb, hml, hown, hw, hE, hA⟩ := id C
  refine lv_aload_n hx hb d_La_law_969 rfl (lv_at hl 2 rfl) ?_
  refine lv_aload_n hx hb d_La_law_970 rfl (lv_at hl 4 rfl) ?_
  by_cases hf : n = 0
  · refine ckJ C v_La_119 [.ref (ad 0), .ref ao] [] (c_La_best_2 l g hfl ad ao k x y q o (h.kz.1.mpr hf)) hP hD hS [0, 1, 2, 3, 4, 5, 6, 7, 8, 9, 10, 11, 12, 13, 14, 15, 16, 17, 18, 19, 20, 21, 22, 23, 24, 25, 26, 27, 28, 29, 30, 31, 32, 33, 34, 35, 36, 37, 38, 60] [39, 40, 41, 42, 43, 44, 45, 46, 47, 48, 49, 50, 51, 52, 53, 54, 55, 56, 57, 58, 59] [21, 22, 23, 24, 25, 26, 27, 28, 29, 30, 31, 32, 33, 34, 35, 36, 37, 38, 39, 40, 41, 42, 43, 44, 45, 46, 47, 48, 49, 50, 51, 52, 53, 54, 55, 56, 57, 58, 59, 0, 1, 2, 3, 4, 5, 6, 7, 8, 9, 10, 11, 12, 13, 14, 15, 16, 17, 18, 19, 20, 60] (wM g ad2 M) (wA g ad ad2 ao k x y q M o) rfl rfl (by decide) (by decide) (by decide) rfl (by decide) rfl rfl hl.1 (Nat.le_of_ble_eq_true rfl) ⟨Nat.le_of_ble_eq_true rfl, Nat.le_of_ble_eq_true rfl⟩ d_La_law_971 ⟨by show 61 + t + 1 ≤ 601024; omega, by show 8756 + 6 * t + 6 ≤ 7293034; omega⟩ (fun H locs hP hD hS => ?_)
    refine lv_istore (lv' := [(5, .int 1), (4, .int (nI (6 * t))), (0, .ref b), (1, .ref (ad 0)), (2, .ref (ad2 0)), (3, .ref ao)]) hx hb d_La_law_974 hl (by decide) rfl (fun ls hl => ?_)
    refine lv_aload_n hx hb d_La_law_976 rfl (lv_at hl 4 rfl) ?_
    refine cvI C v_La_122 [] [] (c_Mo_best_1 l g ad2 M (le0 h.n3 h.mn hf)) hP hD hS [39, 40, 41, 42, 43, 44, 45, 46, 47, 48, 49, 50, 51, 52, 53, 54, 55, 56, 57, 58, 59] [0, 1, 2, 3, 4, 5, 6, 7, 8, 9, 10, 11, 12, 13, 14, 15, 16, 17, 18, 19, 20, 21, 22, 23, 24, 25, 26, 27, 28, 29, 30, 31, 32, 33, 34, 35, 36, 37, 38, 60] [0, 1, 2, 3, 4, 5, 6, 7, 8, 9, 10, 11, 12, 13, 14, 15, 16, 17, 18, 19, 20, 21, 22, 23, 24, 25, 26, 27, 28, 29, 30, 31, 32, 33, 34, 35, 36, 37, 38, 40, 41, 42, 43, 44, 45, 46, 47, 48, 49, 50, 51, 52, 53, 54, 55, 56, 57, 58, 59, 60, 39] (wL g ad ao k x y q o) (wA g ad ad2 ao k x y q (upd M.1 0 1, M.2) o) rfl rfl (by decide) (by decide) (by decide) rfl (by decide) 0 rfl rfl rfl rfl hl.1 (Nat.le_of_ble_eq_true rfl) ⟨Nat.le_of_ble_eq_true rfl, Nat.le_of_ble_eq_true rfl⟩ d_La_law_977 ⟨by show 61 + t + 1 + 0 ≤ 601024; omega, by show 8756 + 6 * t + 6 + 0 ≤ 7293034; omega⟩ (fun H locs hP hD hS => ?_)
    refine lv_istore (lv' := [(6, .int 0), (5, .int 1), (4, .int (nI (6 * t))), (0, .ref b), (1, .ref (ad 0)), (2, .ref (ad2 0)), (3, .ref ao)]) hx hb d_La_law_980 hl (by decide) rfl (fun ls hl => ?_)
    refine lv_aload_n hx hb d_La_law_982 rfl (lv_at hl 5 rfl) ?_
    refine cvI C v_La_71 [] [] (c_Mo_thrown l g ad2 (upd M.1 0 1, M.2)) hP hD hS [39, 40, 41, 42, 43, 44, 45, 46, 47, 48, 49, 50, 51, 52, 53, 54, 55, 56, 57, 58, 59] [0, 1, 2, 3, 4, 5, 6, 7, 8, 9, 10, 11, 12, 13, 14, 15, 16, 17, 18, 19, 20, 21, 22, 23, 24, 25, 26, 27, 28, 29, 30, 31, 32, 33, 34, 35, 36, 37, 38, 60] [0, 1, 2, 3, 4, 5, 6, 7, 8, 9, 10, 11, 12, 13, 14, 15, 16, 17, 18, 19, 20, 21, 22, 23, 24, 25, 26, 27, 28, 29, 30, 31, 32, 33, 34, 35, 36, 37, 38, 40, 41, 42, 43, 44, 45, 46, 47, 48, 49, 50, 51, 52, 53, 54, 55, 56, 57, 58, 59, 60, 39] (wL g ad ao k x y q o) (wA g ad ad2 ao k x y q (upd M.1 0 1, M.2) o) rfl rfl (by decide) (by decide) (by decide) rfl (by decide) 0 rfl rfl rfl rfl hl.1 (Nat.le_of_ble_eq_true rfl) ⟨Nat.le_of_ble_eq_true rfl, Nat.le_of_ble_eq_true rfl⟩ d_La_law_983 ⟨by show 61 + t + 1 + 0 ≤ 601024; omega, by show 8756 + 6 * t + 6 + 0 ≤ 7293034; omega⟩ (fun H locs hP hD hS => ?_)
    refine lv_iload hx hb d_La_law_986 (lv_at hl 1 rfl) ?_
    refine lv_icmp_eq (tgt := 993) hx hb d_La_law_988 (by decide) (fun c988_1 => ?_) (fun c988_1 => ?_)
    rotate_left
    · exact absurd thr1 c988_1
    refine lv_iload hx hb d_La_law_993 (lv_at hl 1 rfl) ?_
    refine lv_if_ne (tgt := 1010) hx hb d_La_law_995 (by decide) (fun c995_2 => ?_) (fun c995_2 => ?_)
    rotate_left
    · exact absurd c995_2 (by decide)
    refine lv_goto (tgt := 1069) hx hb d_La_law_1010 (by decide) ?_
    exact hk k x y q (upd M.1 0 1, M.2) o n np mm H locs ls (h.thr 1) hP hD hS (lv_sub hl [2, 3, 4, 5, 6] rfl)
  · refine ckJ C v_La_119 [.ref (ad 0), .ref ao] [] (c_La_best_0 l g ad ao k x y q o n h.kn h.n3 np h.kp h.p20 mm h.Q (fun z => hf (h.kz.1.mp z))) hP hD hS [0, 1, 2, 3, 4, 5, 6, 7, 8, 9, 10, 11, 12, 13, 14, 15, 16, 17, 18, 19, 20, 21, 22, 23, 24, 25, 26, 27, 28, 29, 30, 31, 32, 33, 34, 35, 36, 37, 38, 60] [39, 40, 41, 42, 43, 44, 45, 46, 47, 48, 49, 50, 51, 52, 53, 54, 55, 56, 57, 58, 59] [21, 22, 23, 24, 25, 26, 27, 28, 29, 30, 31, 32, 33, 34, 35, 36, 37, 38, 39, 40, 41, 42, 43, 44, 45, 46, 47, 48, 49, 50, 51, 52, 53, 54, 55, 56, 57, 58, 59, 0, 1, 2, 3, 4, 5, 6, 7, 8, 9, 10, 11, 12, 13, 14, 15, 16, 17, 18, 19, 20, 60] (wM g ad2 M) (wA g ad ad2 ao k x ((bestF k n np q mm y).2.2) q M (vp_updL o 0 ((bestF k n np q mm y).1).toInt64)) rfl rfl (by decide) (by decide) (by decide) rfl (by decide) rfl rfl hl.1 (Nat.le_of_ble_eq_true rfl) ⟨Nat.le_of_ble_eq_true rfl, Nat.le_of_ble_eq_true rfl⟩ d_La_law_971 ⟨by show 61 + t + 1 ≤ 601024; omega, by show 8756 + 6 * t + 6 ≤ 7293034; omega⟩ (fun H locs hP hD hS => ?_)
    refine lv_istore (lv' := [(5, .int 0), (4, .int (nI (6 * t))), (0, .ref b), (1, .ref (ad 0)), (2, .ref (ad2 0)), (3, .ref ao)]) hx hb d_La_law_974 hl (by decide) rfl (fun ls hl => ?_)
    refine lv_aload_n hx hb d_La_law_976 rfl (lv_at hl 4 rfl) ?_
    refine cvI C v_La_122 [] [] (c_Mo_best_0 l g ad2 M n np h.C h.n3 h.p20 mm h.P h.z (nle0 h.n3 h.mn hf)) hP hD hS [39, 40, 41, 42, 43, 44, 45, 46, 47, 48, 49, 50, 51, 52, 53, 54, 55, 56, 57, 58, 59] [0, 1, 2, 3, 4, 5, 6, 7, 8, 9, 10, 11, 12, 13, 14, 15, 16, 17, 18, 19, 20, 21, 22, 23, 24, 25, 26, 27, 28, 29, 30, 31, 32, 33, 34, 35, 36, 37, 38, 60] [0, 1, 2, 3, 4, 5, 6, 7, 8, 9, 10, 11, 12, 13, 14, 15, 16, 17, 18, 19, 20, 21, 22, 23, 24, 25, 26, 27, 28, 29, 30, 31, 32, 33, 34, 35, 36, 37, 38, 40, 41, 42, 43, 44, 45, 46, 47, 48, 49, 50, 51, 52, 53, 54, 55, 56, 57, 58, 59, 60, 39] (wL g ad ao k x ((bestF k n np q mm y).2.2) q (vp_updL o 0 ((bestF k n np q mm y).1).toInt64)) (wA g ad ad2 ao k x ((bestF k n np q mm y).2.2) q (putM (bestM n np mm M).2.2) (vp_updL o 0 ((bestF k n np q mm y).1).toInt64)) rfl rfl (by decide) (by decide) (by decide) rfl (by decide) 0 rfl rfl rfl rfl hl.1 (Nat.le_of_ble_eq_true rfl) ⟨Nat.le_of_ble_eq_true rfl, Nat.le_of_ble_eq_true rfl⟩ d_La_law_977 ⟨by show 61 + t + 1 + 0 ≤ 601024; omega, by show 8756 + 6 * t + 6 + 0 ≤ 7293034; omega⟩ (fun H locs hP hD hS => ?_)
    refine lv_istore (lv' := [(6, .int ((bestM n np mm M).1)), (5, .int 0), (4, .int (nI (6 * t))), (0, .ref b), (1, .ref (ad 0)), (2, .ref (ad2 0)), (3, .ref ao)]) hx hb d_La_law_980 hl (by decide) rfl (fun ls hl => ?_)
    refine lv_aload_n hx hb d_La_law_982 rfl (lv_at hl 5 rfl) ?_
    refine cvI C v_La_71 [] [] (c_Mo_thrown l g ad2 (putM (bestM n np mm M).2.2)) hP hD hS [39, 40, 41, 42, 43, 44, 45, 46, 47, 48, 49, 50, 51, 52, 53, 54, 55, 56, 57, 58, 59] [0, 1, 2, 3, 4, 5, 6, 7, 8, 9, 10, 11, 12, 13, 14, 15, 16, 17, 18, 19, 20, 21, 22, 23, 24, 25, 26, 27, 28, 29, 30, 31, 32, 33, 34, 35, 36, 37, 38, 60] [0, 1, 2, 3, 4, 5, 6, 7, 8, 9, 10, 11, 12, 13, 14, 15, 16, 17, 18, 19, 20, 21, 22, 23, 24, 25, 26, 27, 28, 29, 30, 31, 32, 33, 34, 35, 36, 37, 38, 40, 41, 42, 43, 44, 45, 46, 47, 48, 49, 50, 51, 52, 53, 54, 55, 56, 57, 58, 59, 60, 39] (wL g ad ao k x ((bestF k n np q mm y).2.2) q (vp_updL o 0 ((bestF k n np q mm y).1).toInt64)) (wA g ad ad2 ao k x ((bestF k n np q mm y).2.2) q (putM (bestM n np mm M).2.2) (vp_updL o 0 ((bestF k n np q mm y).1).toInt64)) rfl rfl (by decide) (by decide) (by decide) rfl (by decide) 0 rfl rfl rfl rfl hl.1 (Nat.le_of_ble_eq_true rfl) ⟨Nat.le_of_ble_eq_true rfl, Nat.le_of_ble_eq_true rfl⟩ d_La_law_983 ⟨by show 61 + t + 1 + 0 ≤ 601024; omega, by show 8756 + 6 * t + 6 + 0 ≤ 7293034; omega⟩ (fun H locs hP hD hS => ?_)
    refine lv_iload hx hb d_La_law_986 (lv_at hl 1 rfl) ?_
    refine lv_icmp_eq (tgt := 993) hx hb d_La_law_988 (by decide) (fun c988_3 => ?_) (fun c988_3 => ?_)
    rotate_left
    · exact absurd thr_best c988_3
    refine lv_iload hx hb d_La_law_993 (lv_at hl 1 rfl) ?_
    refine lv_if_ne (tgt := 1010) hx hb d_La_law_995 (by decide) (fun c995_4 => ?_) (fun c995_4 => ?_)
    · exact absurd c995_4 (fun z => z rfl)
    refine lv_aload_n hx hb d_La_law_998 rfl (lv_at hl 6 rfl) ?_
    refine lv_iconst (v := 0) hx hb d_La_law_999 (by decide) ?_
    refine va_lald hx hb hE.1 hP 60 1 rfl rfl (by unfold vp_in; decide) d_La_law_1000 ?_
    rw [show (0 : Int32).toNatClampNeg = 0 from by decide]
    refine lv_iload hx hb d_La_law_1001 (lv_at hl 0 rfl) ?_
    refine lv_i2l hx hb d_La_law_1003 rfl ?_
    refine W.lcmp hx hb d_La_law_1004 ?_
    refine lv_if_eq (tgt := 1010) hx hb d_La_law_1005 (by decide) (fun c1005_5 => ?_) (fun c1005_5 => ?_)
    rotate_left
    · exact absurd (show lg_cmp _ _ = 0 by rw [lg_cmp_eq]; exact congrArg Int32.toInt64 h.best.2) c1005_5
    refine lv_goto (tgt := 1069) hx hb d_La_law_1010 (by decide) ?_
    exact hk k x ((bestF k n np q mm y).2.2) q (putM (bestM n np mm M).2.2) (vp_updL o 0 ((bestF k n np q mm y).1).toInt64) n np mm H locs ls h.best.1 hP hD hS (lv_sub hl [2, 3, 4, 5, 6] rfl)
set_option maxHeartbeats 4000000 in
set_option maxRecDepth 100000 in
theorem law_sweeps {l : Launch} {g : Glob} {p : Program} {e : Env} {s : State} {m : MethodId} {below : List Frame} {meth : Method} {c : Code} {A : Nat → Prop} {Q : State → Prop} {b L : Nat} {xs : Nat → Int32} (hfl : l.flags = pinnedFlags ++ [noTraceFlag]) (C : Cx g R_law b_La_law 7 A p s m #[Value.ref b] c) (hX : va_X b L xs s s.heap) (hbl : b < s.heap.size) (hbA : ¬ A b) {ad ad2 : Nat → Nat} {ao t : Nat} (hL : L ≤ 3072) (ht : 6 * t + 6 ≤ L) {k : CFG} {x y : RS} {q : PLS} {M : MS} {o : Nat → Int64} {n np : Nat} {mm : Nat → Nat} (h : Rel k x y q M n np mm) {H : Heap} {locs : List Loc} {ls : Array Slot} (hP : va_P g.1 classes (wA g ad ad2 ao k x y q M o) H) (hD : va_D A (wA g ad ad2 ao k x y q M o)) (hS : va_S A s.heap H locs) (hl : lv_has ls 7 [(4, .int (nI (6 * t))), (0, .ref b), (1, .ref (ad 0)), (2, .ref (ad2 0)), (3, .ref ao)]) (a1 : Int32) (e1 : xs (6 * t + 1) = a1)
    (hk : ∀ (k : CFG) (x y : RS) (q : PLS) (M : MS) (o : Nat → Int64) (n np : Nat) (mm : Nat → Nat) (H : Heap) (locs : List Loc) (ls : Array Slot), Rel k x y q M n np mm → va_P g.1 classes (wA g ad ad2 ao k x y q M o) H → va_D A (wA g ad ad2 ao k x y q M o) → va_S A s.heap H locs → lv_has ls 7 [(4, .int (nI (6 * t))), (0, .ref b), (1, .ref (ad 0)), (2, .ref (ad2 0)), (3, .ref ao)] → W p l e room_1 s m #[Value.ref b] below meth c H locs (61 + t + 1) (8756 + 6 * t + 6) Q (F0 m 1069 ls [])) :
    W p l e room_1 s m #[Value.ref b] below meth c H locs (61 + t) (8756 + 6 * t) Q (F0 m 1013 ls []) := by
  obtain ⟨hx, hb, hml, hown, hw, hE, hA⟩ := id C
  refine lv_aload_n hx hb d_La_law_1013 rfl (lv_at hl 2 rfl) ?_
  refine lv_aload_n hx hb d_La_law_1014 rfl (lv_at hl 1 rfl) ?_
  refine lv_iload hx hb d_La_law_1015 (lv_at hl 0 rfl) ?_
  refine lv_iconst (v := 1) hx hb d_La_law_1017 (by decide) ?_
  refine lv_iadd hx hb d_La_law_1018 ?_
  rw [ix1]
  refine va_sld hx hb hX hbl hbA hS (vp_in_nI (show 6 * t + 1 < L by omega) (by omega)) d_La_law_1019 ?_
  rw [nI_clamp (show 6 * t + 1 < 2 ^ 31 by omega), e1]
  refine lv_aload_n hx hb d_La_law_1020 rfl (lv_at hl 4 rfl) ?_
  by_cases v : inI a1 0 3 = 1
  · by_cases hf : n = 0
    · refine ckJ C v_La_123 [.ref (ad 0), .int a1, .ref ao] [] (c_La_sweeps_2 l g hfl ad ao k x y q o a1 v (h.kz.1.mpr hf)) hP hD hS [0, 1, 2, 3, 4, 5, 6, 7, 8, 9, 10, 11, 12, 13, 14, 15, 16, 17, 18, 19, 20, 21, 22, 23, 24, 25, 26, 27, 28, 29, 30, 31, 32, 33, 34, 35, 36, 37, 38, 60] [39, 40, 41, 42, 43, 44, 45, 46, 47, 48, 49, 50, 51, 52, 53, 54, 55, 56, 57, 58, 59] [21, 22, 23, 24, 25, 26, 27, 28, 29, 30, 31, 32, 33, 34, 35, 36, 37, 38, 39, 40, 41, 42, 43, 44, 45, 46, 47, 48, 49, 50, 51, 52, 53, 54, 55, 56, 57, 58, 59, 0, 1, 2, 3, 4, 5, 6, 7, 8, 9, 10, 11, 12, 13, 14, 15, 16, 17, 18, 19, 20, 60] (wM g ad2 M) (wA g ad ad2 ao k x y q M o) rfl rfl (by decide) (by decide) (by decide) rfl (by decide) rfl rfl hl.1 (Nat.le_of_ble_eq_true rfl) ⟨Nat.le_of_ble_eq_true rfl, Nat.le_of_ble_eq_true rfl⟩ d_La_law_1021 ⟨by show 61 + t + 1 ≤ 601024; omega, by show 8756 + 6 * t + 6 ≤ 7293034; omega⟩ (fun H locs hP hD hS => ?_)
      refine lv_istore (lv' := [(5, .int 2), (4, .int (nI (6 * t))), (0, .ref b), (1, .ref (ad 0)), (2, .ref (ad2 0)), (3, .ref ao)]) hx hb d_La_law_1024 hl (by decide) rfl (fun ls hl => ?_)
      refine lv_aload_n hx hb d_La_law_1026 rfl (lv_at hl 4 rfl) ?_
      refine lv_aload_n hx hb d_La_law_1027 rfl (lv_at hl 2 rfl) ?_
      refine lv_iload hx hb d_La_law_1028 (lv_at hl 1 rfl) ?_
      refine lv_iconst (v := 1) hx hb d_La_law_1030 (by decide) ?_
      refine lv_iadd hx hb d_La_law_1031 ?_
      rw [ix1]
      refine va_sld hx hb hX hbl hbA hS (vp_in_nI (show 6 * t + 1 < L by omega) (by omega)) d_La_law_1032 ?_
      rw [nI_clamp (show 6 * t + 1 < 2 ^ 31 by omega), e1]
      refine cvI C v_La_125 [.int a1] [] (c_Mo_sweeps_2 l g ad2 M a1 v (h.kz.2.mpr hf)) hP hD hS [39, 40, 41, 42, 43, 44, 45, 46, 47, 48, 49, 50, 51, 52, 53, 54, 55, 56, 57, 58, 59] [0, 1, 2, 3, 4, 5, 6, 7, 8, 9, 10, 11, 12, 13, 14, 15, 16, 17, 18, 19, 20, 21, 22, 23, 24, 25, 26, 27, 28, 29, 30, 31, 32, 33, 34, 35, 36, 37, 38, 60] [0, 1, 2, 3, 4, 5, 6, 7, 8, 9, 10, 11, 12, 13, 14, 15, 16, 17, 18, 19, 20, 21, 22, 23, 24, 25, 26, 27, 28, 29, 30, 31, 32, 33, 34, 35, 36, 37, 38, 40, 41, 42, 43, 44, 45, 46, 47, 48, 49, 50, 51, 52, 53, 54, 55, 56, 57, 58, 59, 60, 39] (wL g ad ao k x y q o) (wA g ad ad2 ao k x y q (upd M.1 0 2, M.2) o) rfl rfl (by decide) (by decide) (by decide) rfl (by decide) 0 rfl rfl rfl rfl hl.1 (Nat.le_of_ble_eq_true rfl) ⟨Nat.le_of_ble_eq_true rfl, Nat.le_of_ble_eq_true rfl⟩ d_La_law_1033 ⟨by show 61 + t + 1 + 0 ≤ 601024; omega, by show 8756 + 6 * t + 6 + 0 ≤ 7293034; omega⟩ (fun H locs hP hD hS => ?_)
      refine lv_istore (lv' := [(6, .int 0), (5, .int 2), (4, .int (nI (6 * t))), (0, .ref b), (1, .ref (ad 0)), (2, .ref (ad2 0)), (3, .ref ao)]) hx hb d_La_law_1036 hl (by decide) rfl (fun ls hl => ?_)
      refine lv_aload_n hx hb d_La_law_1038 rfl (lv_at hl 5 rfl) ?_
      refine cvI C v_La_71 [] [] (c_Mo_thrown l g ad2 (upd M.1 0 2, M.2)) hP hD hS [39, 40, 41, 42, 43, 44, 45, 46, 47, 48, 49, 50, 51, 52, 53, 54, 55, 56, 57, 58, 59] [0, 1, 2, 3, 4, 5, 6, 7, 8, 9, 10, 11, 12, 13, 14, 15, 16, 17, 18, 19, 20, 21, 22, 23, 24, 25, 26, 27, 28, 29, 30, 31, 32, 33, 34, 35, 36, 37, 38, 60] [0, 1, 2, 3, 4, 5, 6, 7, 8, 9, 10, 11, 12, 13, 14, 15, 16, 17, 18, 19, 20, 21, 22, 23, 24, 25, 26, 27, 28, 29, 30, 31, 32, 33, 34, 35, 36, 37, 38, 40, 41, 42, 43, 44, 45, 46, 47, 48, 49, 50, 51, 52, 53, 54, 55, 56, 57, 58, 59, 60, 39] (wL g ad ao k x y q o) (wA g ad ad2 ao k x y q (upd M.1 0 2, M.2) o) rfl rfl (by decide) (by decide) (by decide) rfl (by decide) 0 rfl rfl rfl rfl hl.1 (Nat.le_of_ble_eq_true rfl) ⟨Nat.le_of_ble_eq_true rfl, Nat.le_of_ble_eq_true rfl⟩ d_La_law_1039 ⟨by show 61 + t + 1 + 0 ≤ 601024; omega, by show 8756 + 6 * t + 6 + 0 ≤ 7293034; omega⟩ (fun H locs hP hD hS => ?_)
      refine lv_iload hx hb d_La_law_1042 (lv_at hl 1 rfl) ?_
      refine lv_icmp_eq (tgt := 1049) hx hb d_La_law_1044 (by decide) (fun c1044_1 => ?_) (fun c1044_1 => ?_)
      rotate_left
      · exact absurd thr1 c1044_1
      refine lv_iload hx hb d_La_law_1049 (lv_at hl 1 rfl) ?_
      refine lv_if_ne (tgt := 1066) hx hb d_La_law_1051 (by decide) (fun c1051_2 => ?_) (fun c1051_2 => ?_)
      rotate_left
      · exact absurd c1051_2 (by decide)
      refine lv_goto (tgt := 1069) hx hb d_La_law_1066 (by decide) ?_
      exact hk k x y q (upd M.1 0 2, M.2) o n np mm H locs ls (h.thr 2) hP hD hS (lv_sub hl [2, 3, 4, 5, 6] rfl)
    · obtain ⟨pl, hpl, rfl⟩ := in03 v
      refine ckJ C v_La_123 [.ref (ad 0), .int (nI pl), .ref ao] [] (c_La_sweeps_0 l g ad ao k x y q o n h.kn h.n3 np h.kp h.p20 pl hpl v (fun z => hf (h.kz.1.mp z)) (mm pl) (h.Q pl hpl).1 (h.Q pl hpl).2.1 (h.Q pl hpl).2.2) hP hD hS [0, 1, 2, 3, 4, 5, 6, 7, 8, 9, 10, 11, 12, 13, 14, 15, 16, 17, 18, 19, 20, 21, 22, 23, 24, 25, 26, 27, 28, 29, 30, 31, 32, 33, 34, 35, 36, 37, 38, 60] [39, 40, 41, 42, 43, 44, 45, 46, 47, 48, 49, 50, 51, 52, 53, 54, 55, 56, 57, 58, 59] [21, 22, 23, 24, 25, 26, 27, 28, 29, 30, 31, 32, 33, 34, 35, 36, 37, 38, 39, 40, 41, 42, 43, 44, 45, 46, 47, 48, 49, 50, 51, 52, 53, 54, 55, 56, 57, 58, 59, 0, 1, 2, 3, 4, 5, 6, 7, 8, 9, 10, 11, 12, 13, 14, 15, 16, 17, 18, 19, 20, 60] (wM g ad2 M) (wA g ad ad2 ao k x (followF k n np (q pl) (mm pl) y) q M (vp_updL o 0 ((followF k n np (q pl) (mm pl) y).2.2.1).toInt64)) rfl rfl (by decide) (by decide) (by decide) rfl (by decide) rfl rfl hl.1 (Nat.le_of_ble_eq_true rfl) ⟨Nat.le_of_ble_eq_true rfl, Nat.le_of_ble_eq_true rfl⟩ d_La_law_1021 ⟨by show 61 + t + 1 ≤ 601024; omega, by show 8756 + 6 * t + 6 ≤ 7293034; omega⟩ (fun H locs hP hD hS => ?_)
      refine lv_istore (lv' := [(5, .int 0), (4, .int (nI (6 * t))), (0, .ref b), (1, .ref (ad 0)), (2, .ref (ad2 0)), (3, .ref ao)]) hx hb d_La_law_1024 hl (by decide) rfl (fun ls hl => ?_)
      refine lv_aload_n hx hb d_La_law_1026 rfl (lv_at hl 4 rfl) ?_
      refine lv_aload_n hx hb d_La_law_1027 rfl (lv_at hl 2 rfl) ?_
      refine lv_iload hx hb d_La_law_1028 (lv_at hl 1 rfl) ?_
      refine lv_iconst (v := 1) hx hb d_La_law_1030 (by decide) ?_
      refine lv_iadd hx hb d_La_law_1031 ?_
      rw [ix1]
      refine va_sld hx hb hX hbl hbA hS (vp_in_nI (show 6 * t + 1 < L by omega) (by omega)) d_La_law_1032 ?_
      rw [nI_clamp (show 6 * t + 1 < 2 ^ 31 by omega), e1]
      refine cvI C v_La_125 [.int (nI pl)] [] (c_Mo_sweeps_0 l g ad2 M n np h.C h.n3 h.p20 mm h.P h.z pl hpl v (fun z => hf (h.kz.2.mp z))) hP hD hS [39, 40, 41, 42, 43, 44, 45, 46, 47, 48, 49, 50, 51, 52, 53, 54, 55, 56, 57, 58, 59] [0, 1, 2, 3, 4, 5, 6, 7, 8, 9, 10, 11, 12, 13, 14, 15, 16, 17, 18, 19, 20, 21, 22, 23, 24, 25, 26, 27, 28, 29, 30, 31, 32, 33, 34, 35, 36, 37, 38, 60] [0, 1, 2, 3, 4, 5, 6, 7, 8, 9, 10, 11, 12, 13, 14, 15, 16, 17, 18, 19, 20, 21, 22, 23, 24, 25, 26, 27, 28, 29, 30, 31, 32, 33, 34, 35, 36, 37, 38, 40, 41, 42, 43, 44, 45, 46, 47, 48, 49, 50, 51, 52, 53, 54, 55, 56, 57, 58, 59, 60, 39] (wL g ad ao k x (followF k n np (q pl) (mm pl) y) q (vp_updL o 0 ((followF k n np (q pl) (mm pl) y).2.2.1).toInt64)) (wA g ad ad2 ao k x (followF k n np (q pl) (mm pl) y) q (putM (goPlanM n np (keepM (upd M.1 0 0, M.2)).2 pl (mm pl) (keepM (upd M.1 0 0, M.2)))) (vp_updL o 0 ((followF k n np (q pl) (mm pl) y).2.2.1).toInt64)) rfl rfl (by decide) (by decide) (by decide) rfl (by decide) 0 rfl rfl rfl rfl hl.1 (Nat.le_of_ble_eq_true rfl) ⟨Nat.le_of_ble_eq_true rfl, Nat.le_of_ble_eq_true rfl⟩ d_La_law_1033 ⟨by show 61 + t + 1 + 0 ≤ 601024; omega, by show 8756 + 6 * t + 6 + 0 ≤ 7293034; omega⟩ (fun H locs hP hD hS => ?_)
      refine lv_istore (lv' := [(6, .int ((goPlanM n np (keepM (upd M.1 0 0, M.2)).2 pl (mm pl) (keepM (upd M.1 0 0, M.2))).1 29)), (5, .int 0), (4, .int (nI (6 * t))), (0, .ref b), (1, .ref (ad 0)), (2, .ref (ad2 0)), (3, .ref ao)]) hx hb d_La_law_1036 hl (by decide) rfl (fun ls hl => ?_)
      refine lv_aload_n hx hb d_La_law_1038 rfl (lv_at hl 5 rfl) ?_
      refine cvI C v_La_71 [] [] (c_Mo_thrown l g ad2 (putM (goPlanM n np (keepM (upd M.1 0 0, M.2)).2 pl (mm pl) (keepM (upd M.1 0 0, M.2))))) hP hD hS [39, 40, 41, 42, 43, 44, 45, 46, 47, 48, 49, 50, 51, 52, 53, 54, 55, 56, 57, 58, 59] [0, 1, 2, 3, 4, 5, 6, 7, 8, 9, 10, 11, 12, 13, 14, 15, 16, 17, 18, 19, 20, 21, 22, 23, 24, 25, 26, 27, 28, 29, 30, 31, 32, 33, 34, 35, 36, 37, 38, 60] [0, 1, 2, 3, 4, 5, 6, 7, 8, 9, 10, 11, 12, 13, 14, 15, 16, 17, 18, 19, 20, 21, 22, 23, 24, 25, 26, 27, 28, 29, 30, 31, 32, 33, 34, 35, 36, 37, 38, 40, 41, 42, 43, 44, 45, 46, 47, 48, 49, 50, 51, 52, 53, 54, 55, 56, 57, 58, 59, 60, 39] (wL g ad ao k x (followF k n np (q pl) (mm pl) y) q (vp_updL o 0 ((followF k n np (q pl) (mm pl) y).2.2.1).toInt64)) (wA g ad ad2 ao k x (followF k n np (q pl) (mm pl) y) q (putM (goPlanM n np (keepM (upd M.1 0 0, M.2)).2 pl (mm pl) (keepM (upd M.1 0 0, M.2)))) (vp_updL o 0 ((followF k n np (q pl) (mm pl) y).2.2.1).toInt64)) rfl rfl (by decide) (by decide) (by decide) rfl (by decide) 0 rfl rfl rfl rfl hl.1 (Nat.le_of_ble_eq_true rfl) ⟨Nat.le_of_ble_eq_true rfl, Nat.le_of_ble_eq_true rfl⟩ d_La_law_1039 ⟨by show 61 + t + 1 + 0 ≤ 601024; omega, by show 8756 + 6 * t + 6 + 0 ≤ 7293034; omega⟩ (fun H locs hP hD hS => ?_)
      refine lv_iload hx hb d_La_law_1042 (lv_at hl 1 rfl) ?_
      refine lv_icmp_eq (tgt := 1049) hx hb d_La_law_1044 (by decide) (fun c1044_3 => ?_) (fun c1044_3 => ?_)
      rotate_left
      · exact absurd thr_sweeps c1044_3
      refine lv_iload hx hb d_La_law_1049 (lv_at hl 1 rfl) ?_
      refine lv_if_ne (tgt := 1066) hx hb d_La_law_1051 (by decide) (fun c1051_4 => ?_) (fun c1051_4 => ?_)
      · exact absurd c1051_4 (fun z => z rfl)
      refine lv_aload_n hx hb d_La_law_1054 rfl (lv_at hl 6 rfl) ?_
      refine lv_iconst (v := 0) hx hb d_La_law_1055 (by decide) ?_
      refine va_lald hx hb hE.1 hP 60 1 rfl rfl (by unfold vp_in; decide) d_La_law_1056 ?_
      rw [show (0 : Int32).toNatClampNeg = 0 from by decide]
      refine lv_iload hx hb d_La_law_1057 (lv_at hl 0 rfl) ?_
      refine lv_i2l hx hb d_La_law_1059 rfl ?_
      refine W.lcmp hx hb d_La_law_1060 ?_
      refine lv_if_eq (tgt := 1066) hx hb d_La_law_1061 (by decide) (fun c1061_5 => ?_) (fun c1061_5 => ?_)
      rotate_left
      · exact absurd (show lg_cmp _ _ = 0 by rw [lg_cmp_eq]; exact congrArg Int32.toInt64 (h.sweeps hpl).2) c1061_5
      refine lv_goto (tgt := 1069) hx hb d_La_law_1066 (by decide) ?_
      exact hk k x (followF k n np (q pl) (mm pl) y) q (putM (goPlanM n np (keepM (upd M.1 0 0, M.2)).2 pl (mm pl) (keepM (upd M.1 0 0, M.2)))) (vp_updL o 0 ((followF k n np (q pl) (mm pl) y).2.2.1).toInt64) n np mm H locs ls ((h.sweeps hpl).1) hP hD hS (lv_sub hl [2, 3, 4, 5, 6] rfl)
  · refine ckJ C v_La_123 [.ref (ad 0), .int a1, .ref ao] [] (c_La_sweeps_1 l g hfl ad ao k x y q o a1 v) hP hD hS [0, 1, 2, 3, 4, 5, 6, 7, 8, 9, 10, 11, 12, 13, 14, 15, 16, 17, 18, 19, 20, 21, 22, 23, 24, 25, 26, 27, 28, 29, 30, 31, 32, 33, 34, 35, 36, 37, 38, 60] [39, 40, 41, 42, 43, 44, 45, 46, 47, 48, 49, 50, 51, 52, 53, 54, 55, 56, 57, 58, 59] [21, 22, 23, 24, 25, 26, 27, 28, 29, 30, 31, 32, 33, 34, 35, 36, 37, 38, 39, 40, 41, 42, 43, 44, 45, 46, 47, 48, 49, 50, 51, 52, 53, 54, 55, 56, 57, 58, 59, 0, 1, 2, 3, 4, 5, 6, 7, 8, 9, 10, 11, 12, 13, 14, 15, 16, 17, 18, 19, 20, 60] (wM g ad2 M) (wA g ad ad2 ao k x y q M o) rfl rfl (by decide) (by decide) (by decide) rfl (by decide) rfl rfl hl.1 (Nat.le_of_ble_eq_true rfl) ⟨Nat.le_of_ble_eq_true rfl, Nat.le_of_ble_eq_true rfl⟩ d_La_law_1021 ⟨by show 61 + t + 1 ≤ 601024; omega, by show 8756 + 6 * t + 6 ≤ 7293034; omega⟩ (fun H locs hP hD hS => ?_)
    refine lv_istore (lv' := [(5, .int 1), (4, .int (nI (6 * t))), (0, .ref b), (1, .ref (ad 0)), (2, .ref (ad2 0)), (3, .ref ao)]) hx hb d_La_law_1024 hl (by decide) rfl (fun ls hl => ?_)
    refine lv_aload_n hx hb d_La_law_1026 rfl (lv_at hl 4 rfl) ?_
    refine lv_aload_n hx hb d_La_law_1027 rfl (lv_at hl 2 rfl) ?_
    refine lv_iload hx hb d_La_law_1028 (lv_at hl 1 rfl) ?_
    refine lv_iconst (v := 1) hx hb d_La_law_1030 (by decide) ?_
    refine lv_iadd hx hb d_La_law_1031 ?_
    rw [ix1]
    refine va_sld hx hb hX hbl hbA hS (vp_in_nI (show 6 * t + 1 < L by omega) (by omega)) d_La_law_1032 ?_
    rw [nI_clamp (show 6 * t + 1 < 2 ^ 31 by omega), e1]
    refine cvI C v_La_125 [.int a1] [] (c_Mo_sweeps_1 l g ad2 M a1 v) hP hD hS [39, 40, 41, 42, 43, 44, 45, 46, 47, 48, 49, 50, 51, 52, 53, 54, 55, 56, 57, 58, 59] [0, 1, 2, 3, 4, 5, 6, 7, 8, 9, 10, 11, 12, 13, 14, 15, 16, 17, 18, 19, 20, 21, 22, 23, 24, 25, 26, 27, 28, 29, 30, 31, 32, 33, 34, 35, 36, 37, 38, 60] [0, 1, 2, 3, 4, 5, 6, 7, 8, 9, 10, 11, 12, 13, 14, 15, 16, 17, 18, 19, 20, 21, 22, 23, 24, 25, 26, 27, 28, 29, 30, 31, 32, 33, 34, 35, 36, 37, 38, 40, 41, 42, 43, 44, 45, 46, 47, 48, 49, 50, 51, 52, 53, 54, 55, 56, 57, 58, 59, 60, 39] (wL g ad ao k x y q o) (wA g ad ad2 ao k x y q (upd M.1 0 1, M.2) o) rfl rfl (by decide) (by decide) (by decide) rfl (by decide) 0 rfl rfl rfl rfl hl.1 (Nat.le_of_ble_eq_true rfl) ⟨Nat.le_of_ble_eq_true rfl, Nat.le_of_ble_eq_true rfl⟩ d_La_law_1033 ⟨by show 61 + t + 1 + 0 ≤ 601024; omega, by show 8756 + 6 * t + 6 + 0 ≤ 7293034; omega⟩ (fun H locs hP hD hS => ?_)
    refine lv_istore (lv' := [(6, .int 0), (5, .int 1), (4, .int (nI (6 * t))), (0, .ref b), (1, .ref (ad 0)), (2, .ref (ad2 0)), (3, .ref ao)]) hx hb d_La_law_1036 hl (by decide) rfl (fun ls hl => ?_)
    refine lv_aload_n hx hb d_La_law_1038 rfl (lv_at hl 5 rfl) ?_
    refine cvI C v_La_71 [] [] (c_Mo_thrown l g ad2 (upd M.1 0 1, M.2)) hP hD hS [39, 40, 41, 42, 43, 44, 45, 46, 47, 48, 49, 50, 51, 52, 53, 54, 55, 56, 57, 58, 59] [0, 1, 2, 3, 4, 5, 6, 7, 8, 9, 10, 11, 12, 13, 14, 15, 16, 17, 18, 19, 20, 21, 22, 23, 24, 25, 26, 27, 28, 29, 30, 31, 32, 33, 34, 35, 36, 37, 38, 60] [0, 1, 2, 3, 4, 5, 6, 7, 8, 9, 10, 11, 12, 13, 14, 15, 16, 17, 18, 19, 20, 21, 22, 23, 24, 25, 26, 27, 28, 29, 30, 31, 32, 33, 34, 35, 36, 37, 38, 40, 41, 42, 43, 44, 45, 46, 47, 48, 49, 50, 51, 52, 53, 54, 55, 56, 57, 58, 59, 60, 39] (wL g ad ao k x y q o) (wA g ad ad2 ao k x y q (upd M.1 0 1, M.2) o) rfl rfl (by decide) (by decide) (by decide) rfl (by decide) 0 rfl rfl rfl rfl hl.1 (Nat.le_of_ble_eq_true rfl) ⟨Nat.le_of_ble_eq_true rfl, Nat.le_of_ble_eq_true rfl⟩ d_La_law_1039 ⟨by show 61 + t + 1 + 0 ≤ 601024; omega, by show 8756 + 6 * t + 6 + 0 ≤ 7293034; omega⟩ (fun H locs hP hD hS => ?_)
    refine lv_iload hx hb d_La_law_1042 (lv_at hl 1 rfl) ?_
    refine lv_icmp_eq (tgt := 1049) hx hb d_La_law_1044 (by decide) (fun c1044_6 => ?_) (fun c1044_6 => ?_)
    rotate_left
    · exact absurd thr1 c1044_6
    refine lv_iload hx hb d_La_law_1049 (lv_at hl 1 rfl) ?_
    refine lv_if_ne (tgt := 1066) hx hb d_La_law_1051 (by decide) (fun c1051_7 => ?_) (fun c1051_7 => ?_)
    rotate_left
    · exact absurd c1051_7 (by decide)
    refine lv_goto (tgt := 1069) hx hb d_La_law_1066 (by decide) ?_
    exact hk k x y q (upd M.1 0 1, M.2) o n np mm H locs ls (h.thr 1) hP hD hS (lv_sub hl [2, 3, 4, 5, 6] rfl)
set_option maxHeartbeats 4000000 in
set_option maxRecDepth 100000 in
theorem law_swept {l : Launch} {g : Glob} {p : Program} {e : Env} {s : State} {m : MethodId} {below : List Frame} {meth : Method} {c : Code} {A : Nat → Prop} {Q : State → Prop} {b L : Nat} {xs : Nat → Int32} (hfl : l.flags = pinnedFlags ++ [noTraceFlag]) (C : Cx g R_law b_La_law 7 A p s m #[Value.ref b] c) (hX : va_X b L xs s s.heap) (hbl : b < s.heap.size) (hbA : ¬ A b) {ad ad2 : Nat → Nat} {ao t : Nat} (hL : L ≤ 3072) (ht : 6 * t + 6 ≤ L) {k : CFG} {x y : RS} {q : PLS} {M : MS} {o : Nat → Int64} {n np : Nat} {mm : Nat → Nat} (h : Rel k x y q M n np mm) {H : Heap} {locs : List Loc} {ls : Array Slot} (hP : va_P g.1 classes (wA g ad ad2 ao k x y q M o) H) (hD : va_D A (wA g ad ad2 ao k x y q M o)) (hS : va_S A s.heap H locs) (hl : lv_has ls 7 [(4, .int (nI (6 * t))), (0, .ref b), (1, .ref (ad 0)), (2, .ref (ad2 0)), (3, .ref ao)])
    (hk : ∀ (k : CFG) (x y : RS) (q : PLS) (M : MS) (o : Nat → Int64) (n np : Nat) (mm : Nat → Nat) (H : Heap) (locs : List Loc) (ls : Array Slot), Rel k x y q M n np mm → va_P g.1 classes (wA g ad ad2 ao k x y q M o) H → va_D A (wA g ad ad2 ao k x y q M o) → va_S A s.heap H locs → lv_has ls 7 [(4, .int (nI (6 * t))), (0, .ref b), (1, .ref (ad 0)), (2, .ref (ad2 0)), (3, .ref ao)] → W p l e room_1 s m #[Value.ref b] below meth c H locs (61 + t + 1) (8756 + 6 * t + 6) Q (F0 m 1069 ls [])) :
    W p l e room_1 s m #[Value.ref b] below meth c H locs (61 + t) (8756 + 6 * t) Q (F0 m 648 ls []) := by
  obtain ⟨hx, hb, hml, hown, hw, hE, hA⟩ := id C
  refine lv_aload_n hx hb d_La_law_648 rfl (lv_at hl 2 rfl) ?_
  refine cvI C v_La_97 [] [] (c_SP_swept l g ad k x y q) hP hD hS [0, 1, 2, 3, 4, 5, 6, 7, 8, 9, 10, 11, 12, 13, 14, 15, 16, 17, 18, 19, 20, 21, 22, 23, 24, 25, 26, 27, 28, 29, 30, 31, 32, 33, 34, 35, 36, 37, 38] [39, 40, 41, 42, 43, 44, 45, 46, 47, 48, 49, 50, 51, 52, 53, 54, 55, 56, 57, 58, 59, 60] [22, 23, 24, 25, 26, 27, 28, 29, 30, 31, 32, 33, 34, 35, 36, 37, 38, 39, 40, 41, 42, 43, 44, 45, 46, 47, 48, 49, 50, 51, 52, 53, 54, 55, 56, 57, 58, 59, 60, 0, 1, 2, 3, 4, 5, 6, 7, 8, 9, 10, 11, 12, 13, 14, 15, 16, 17, 18, 19, 20, 21] (wM g ad2 M ++ [qLongs ao (g.2.1 1) 1 o]) (wA g ad ad2 ao k x y q M o) rfl rfl (by decide) (by decide) (by decide) rfl (by decide) 0 rfl rfl rfl rfl hl.1 (Nat.le_of_ble_eq_true rfl) ⟨Nat.le_of_ble_eq_true rfl, Nat.le_of_ble_eq_true rfl⟩ d_La_law_649 ⟨by show 61 + t + 0 ≤ 601024; omega, by show 8756 + 6 * t + 0 ≤ 7293034; omega⟩ (fun H locs hP hD hS => ?_)
  refine lv_aload_n hx hb d_La_law_652 rfl (lv_at hl 3 rfl) ?_
  refine cvI C v_La_100 [] [.int x.2.2.1] (c_Mo_swept l g ad2 M) hP hD hS [39, 40, 41, 42, 43, 44, 45, 46, 47, 48, 49, 50, 51, 52, 53, 54, 55, 56, 57, 58, 59] [0, 1, 2, 3, 4, 5, 6, 7, 8, 9, 10, 11, 12, 13, 14, 15, 16, 17, 18, 19, 20, 21, 22, 23, 24, 25, 26, 27, 28, 29, 30, 31, 32, 33, 34, 35, 36, 37, 38, 60] [0, 1, 2, 3, 4, 5, 6, 7, 8, 9, 10, 11, 12, 13, 14, 15, 16, 17, 18, 19, 20, 21, 22, 23, 24, 25, 26, 27, 28, 29, 30, 31, 32, 33, 34, 35, 36, 37, 38, 40, 41, 42, 43, 44, 45, 46, 47, 48, 49, 50, 51, 52, 53, 54, 55, 56, 57, 58, 59, 60, 39] (wL g ad ao k x y q o) (wA g ad ad2 ao k x y q (upd M.1 0 0, M.2) o) rfl rfl (by decide) (by decide) (by decide) rfl (by decide) 0 rfl rfl rfl rfl hl.1 (Nat.le_of_ble_eq_true rfl) ⟨Nat.le_of_ble_eq_true rfl, Nat.le_of_ble_eq_true rfl⟩ d_La_law_653 ⟨by show 61 + t + 0 ≤ 601024; omega, by show 8756 + 6 * t + 0 ≤ 7293034; omega⟩ (fun H locs hP hD hS => ?_)
  refine lv_icmp_eq (tgt := 1069) hx hb d_La_law_656 (by decide) (fun c656_1 => ?_) (fun c656_1 => ?_)
  rotate_left
  · exact absurd h.cnt c656_1
  refine W_more (Nat.le_add_right (61 + t) 1) (Nat.le_add_right (8756 + 6 * t) 6) ?_
  exact hk k x y q (upd M.1 0 0, M.2) o n np mm H locs ls (h.thr 0) hP hD hS hl
set_option maxHeartbeats 4000000 in
set_option maxRecDepth 100000 in
theorem law_stuck {l : Launch} {g : Glob} {p : Program} {e : Env} {s : State} {m : MethodId} {below : List Frame} {meth : Method} {c : Code} {A : Nat → Prop} {Q : State → Prop} {b L : Nat} {xs : Nat → Int32} (hfl : l.flags = pinnedFlags ++ [noTraceFlag]) (C : Cx g R_law b_La_law 7 A p s m #[Value.ref b] c) (hX : va_X b L xs s s.heap) (hbl : b < s.heap.size) (hbA : ¬ A b) {ad ad2 : Nat → Nat} {ao t : Nat} (hL : L ≤ 3072) (ht : 6 * t + 6 ≤ L) {k : CFG} {x y : RS} {q : PLS} {M : MS} {o : Nat → Int64} {n np : Nat} {mm : Nat → Nat} (h : Rel k x y q M n np mm) {H : Heap} {locs : List Loc} {ls : Array Slot} (hP : va_P g.1 classes (wA g ad ad2 ao k x y q M o) H) (hD : va_D A (wA g ad ad2 ao k x y q M o)) (hS : va_S A s.heap H locs) (hl : lv_has ls 7 [(4, .int (nI (6 * t))), (0, .ref b), (1, .ref (ad 0)), (2, .ref (ad2 0)), (3, .ref ao)])
    (hk : ∀ (k : CFG) (x y : RS) (q : PLS) (M : MS) (o : Nat → Int64) (n np : Nat) (mm : Nat → Nat) (H : Heap) (locs : List Loc) (ls : Array Slot), Rel k x y q M n np mm → va_P g.1 classes (wA g ad ad2 ao k x y q M o) H → va_D A (wA g ad ad2 ao k x y q M o) → va_S A s.heap H locs → lv_has ls 7 [(4, .int (nI (6 * t))), (0, .ref b), (1, .ref (ad 0)), (2, .ref (ad2 0)), (3, .ref ao)] → W p l e room_1 s m #[Value.ref b] below meth c H locs (61 + t + 1) (8756 + 6 * t + 6) Q (F0 m 1069 ls [])) :
    W p l e room_1 s m #[Value.ref b] below meth c H locs (61 + t) (8756 + 6 * t) Q (F0 m 792 ls []) := by
  obtain ⟨hx, hb, hml, hown, hw, hE, hA⟩ := id C
  refine lv_aload_n hx hb d_La_law_792 rfl (lv_at hl 2 rfl) ?_
  refine cvI C v_La_107 [] [] (c_SP_isStuck l g ad k x y q (by rw [h.stk]; exact h.s01)) hP hD hS [0, 1, 2, 3, 4, 5, 6, 7, 8, 9, 10, 11, 12, 13, 14, 15, 16, 17, 18, 19, 20, 21, 22, 23, 24, 25, 26, 27, 28, 29, 30, 31, 32, 33, 34, 35, 36, 37, 38] [39, 40, 41, 42, 43, 44, 45, 46, 47, 48, 49, 50, 51, 52, 53, 54, 55, 56, 57, 58, 59, 60] [22, 23, 24, 25, 26, 27, 28, 29, 30, 31, 32, 33, 34, 35, 36, 37, 38, 39, 40, 41, 42, 43, 44, 45, 46, 47, 48, 49, 50, 51, 52, 53, 54, 55, 56, 57, 58, 59, 60, 0, 1, 2, 3, 4, 5, 6, 7, 8, 9, 10, 11, 12, 13, 14, 15, 16, 17, 18, 19, 20, 21] (wM g ad2 M ++ [qLongs ao (g.2.1 1) 1 o]) (wA g ad ad2 ao k x y q M o) rfl rfl (by decide) (by decide) (by decide) rfl (by decide) 0 rfl rfl rfl rfl hl.1 (Nat.le_of_ble_eq_true rfl) ⟨Nat.le_of_ble_eq_true rfl, Nat.le_of_ble_eq_true rfl⟩ d_La_law_793 ⟨by show 61 + t + 0 ≤ 601024; omega, by show 8756 + 6 * t + 0 ≤ 7293034; omega⟩ (fun H locs hP hD hS => ?_)
  refine lv_aload_n hx hb d_La_law_796 rfl (lv_at hl 3 rfl) ?_
  refine cvI C v_La_111 [] [.int (x.2.1 1)] (c_Mo_isStuck l g ad2 M h.s01) hP hD hS [39, 40, 41, 42, 43, 44, 45, 46, 47, 48, 49, 50, 51, 52, 53, 54, 55, 56, 57, 58, 59] [0, 1, 2, 3, 4, 5, 6, 7, 8, 9, 10, 11, 12, 13, 14, 15, 16, 17, 18, 19, 20, 21, 22, 23, 24, 25, 26, 27, 28, 29, 30, 31, 32, 33, 34, 35, 36, 37, 38, 60] [0, 1, 2, 3, 4, 5, 6, 7, 8, 9, 10, 11, 12, 13, 14, 15, 16, 17, 18, 19, 20, 21, 22, 23, 24, 25, 26, 27, 28, 29, 30, 31, 32, 33, 34, 35, 36, 37, 38, 40, 41, 42, 43, 44, 45, 46, 47, 48, 49, 50, 51, 52, 53, 54, 55, 56, 57, 58, 59, 60, 39] (wL g ad ao k x y q o) (wA g ad ad2 ao k x y q (upd M.1 0 0, M.2) o) rfl rfl (by decide) (by decide) (by decide) rfl (by decide) 0 rfl rfl rfl rfl hl.1 (Nat.le_of_ble_eq_true rfl) ⟨Nat.le_of_ble_eq_true rfl, Nat.le_of_ble_eq_true rfl⟩ d_La_law_797 ⟨by show 61 + t + 0 ≤ 601024; omega, by show 8756 + 6 * t + 0 ≤ 7293034; omega⟩ (fun H locs hP hD hS => ?_)
  refine lv_icmp_eq (tgt := 1069) hx hb d_La_law_800 (by decide) (fun c800_1 => ?_) (fun c800_1 => ?_)
  rotate_left
  · exact absurd h.stk c800_1
  refine W_more (Nat.le_add_right (61 + t) 1) (Nat.le_add_right (8756 + 6 * t) 6) ?_
  exact hk k x y q (upd M.1 0 0, M.2) o n np mm H locs ls (h.thr 0) hP hD hS hl
set_option maxHeartbeats 4000000 in
set_option maxRecDepth 100000 in
theorem law_loop {l : Launch} {g : Glob} {p : Program} {e : Env} {s : State} {m : MethodId} {below : List Frame} {meth : Method} {c : Code} {A : Nat → Prop} {b L : Nat} {xs : Nat → Int32} (hfl : l.flags = pinnedFlags ++ [noTraceFlag]) (C : Cx g R_law b_La_law 7 A p s m #[Value.ref b] c) (hX : va_X b L xs s s.heap) (hbl : b < s.heap.size) (hbA : ¬ A b) {ad ad2 : Nat → Nat} {ao : Nat} (hL : L ≤ 3072) (hlocks : meth.locks = false) (hr : meth.sig.returnType = ret) (hA0 : ∀ z, A z → s.heap.size ≤ z) :
    ∀ (j t : Nat) (k : CFG) (x y : RS) (q : PLS) (M : MS) (o : Nat → Int64) (n np : Nat) (mm : Nat → Nat) (H : Heap) (locs : List Loc) (ls : Array Slot), 6 * t ≤ L → L < 6 * (t + j) → Rel k x y q M n np mm → va_P g.1 classes (wA g ad ad2 ao k x y q M o) H → va_D A (wA g ad ad2 ao k x y q M o) → va_S A s.heap H locs → lv_has ls 7 [(4, .int (nI (6 * t))), (0, .ref b), (1, .ref (ad 0)), (2, .ref (ad2 0)), (3, .ref ao)] → W p l e room_1 s m #[Value.ref b] below meth c H locs (61 + t) (8756 + 6 * t) (lw_Z below #[Value.ref b] s) (F0 m 23 ls []) := by
  obtain ⟨hx, hb, hml, hown, hw, hE, hA⟩ := id C
  intro j
  induction j with
  | zero =>
    intro t k x y q M o n np mm H locs ls h6 hj
    exact absurd trivial (by omega)
  | succ j ih =>
    intro t k x y q M o n np mm H locs ls h6 hj h hP hD hS hl
    refine lv_iload hx hb d_La_law_23 (lv_at hl 0 rfl) ?_
    refine lv_aload_n hx hb d_La_law_25 rfl (lv_at hl 1 rfl) ?_
    refine va_slen hx hb hX hbl hbA hS d_La_law_26 ?_
    refine lv_bipush (v := 6) hx hb d_La_law_27 (by decide) ?_
    refine lv_isub hx hb d_La_law_29 ?_
    refine lv_icmp_gt (tgt := 1075) hx hb d_La_law_30 (by decide) (fun c30_1 => ?_) (fun c30_1 => ?_)
    · refine va_forget (fun z hz => hA0 _ (hS.2.2 z hz)) ?_
      refine W_more (cells' := 601024) (slots' := 7293034) (by omega) (by omega) ?_
      refine lv_iconst (v := 1) hx hb d_La_law_1075 (by decide) ?_
      exact lw_ret hx hb hr hlocks d_La_law_1076
    · have ht : 6 * t + 6 ≤ L := more6 hL h6 c30_1
      have hk : ∀ (k : CFG) (x y : RS) (q : PLS) (M : MS) (o : Nat → Int64) (n np : Nat) (mm : Nat → Nat) (H : Heap) (locs : List Loc) (ls : Array Slot), Rel k x y q M n np mm → va_P g.1 classes (wA g ad ad2 ao k x y q M o) H → va_D A (wA g ad ad2 ao k x y q M o) → va_S A s.heap H locs → lv_has ls 7 [(4, .int (nI (6 * t))), (0, .ref b), (1, .ref (ad 0)), (2, .ref (ad2 0)), (3, .ref ao)] → W p l e room_1 s m #[Value.ref b] below meth c H locs (61 + t + 1) (8756 + 6 * t + 6) (lw_Z below #[Value.ref b] s) (F0 m 1069 ls []) := by
        intro k x y q M o n np mm H locs ls h hP hD hS hl
        refine lv_iinc (v := (nI (6 * (t + 1)))) (lv' := [(4, .int (nI (6 * (t + 1)))), (0, .ref b), (1, .ref (ad 0)), (2, .ref (ad2 0)), (3, .ref ao)]) hx hb d_La_law_1069 hl (k := 0) rfl ix6 (by decide) rfl (fun ls hl => ?_)
        refine lv_goto (tgt := 23) hx hb d_La_law_1072 (by decide) ?_
        exact ih (t + 1) k x y q M o n np mm H locs ls (by omega) (by omega) h hP hD hS hl
      refine lv_aload_n hx hb d_La_law_33 rfl (lv_at hl 1 rfl) ?_
      refine lv_iload hx hb d_La_law_34 (lv_at hl 0 rfl) ?_
      refine va_sld hx hb hX hbl hbA hS (vp_in_nI (show 6 * t < L by omega) (by omega)) d_La_law_36 ?_
      rw [nI_clamp (show 6 * t < 2 ^ 31 by omega)]
      refine lv_bipush (v := 15) hx hb d_La_law_37 (by decide) ?_
      refine lv_iand hx hb d_La_law_39 ?_
      obtain ⟨w, hw16, ew⟩ := in15 (xs (6 * t))
      rw [ew]
      rcases (show w = 0 ∨ w = 1 ∨ w = 2 ∨ w = 3 ∨ w = 4 ∨ w = 5 ∨ w = 6 ∨ w = 7 ∨ w = 8 ∨ w = 9 ∨ w = 10 ∨ w = 11 ∨ w = 12 ∨ w = 13 ∨ w = 14 ∨ w = 15 by omega) with rfl | rfl | rfl | rfl | rfl | rfl | rfl | rfl | rfl | rfl | rfl | rfl | rfl | rfl | rfl | rfl
      · refine lv_tableIn (x := nI 0) (off := 76) (tgt := 116) hx hb d_La_law_40 (by decide) (by decide) rfl (by decide) ?_
        exact law_body hfl C hX hbl hbA hL ht h hP hD hS hl _ _ _ _ _ rfl rfl rfl rfl rfl hk
      · refine lv_tableIn (x := nI 1) (off := 180) (tgt := 220) hx hb d_La_law_40 (by decide) (by decide) rfl (by decide) ?_
        exact law_start hfl C hX hbl hbA hL ht h hP hD hS hl _ _ _ rfl rfl rfl hk
      · refine lv_tableIn (x := nI 2) (off := 240) (tgt := 280) hx hb d_La_law_40 (by decide) (by decide) rfl (by decide) ?_
        exact law_step hfl C hX hbl hbA hL ht h hP hD hS hl _ rfl hk
      · refine lv_tableIn (x := nI 3) (off := 296) (tgt := 336) hx hb d_La_law_40 (by decide) (by decide) rfl (by decide) ?_
        exact law_pole hfl C hX hbl hbA hL ht h hP hD hS hl _ _ rfl rfl hk
      · refine lv_tableIn (x := nI 4) (off := 364) (tgt := 404) hx hb d_La_law_40 (by decide) (by decide) rfl (by decide) ?_
        exact law_go hfl C hX hbl hbA hL ht h hP hD hS hl _ _ _ rfl rfl rfl hk
      · refine lv_tableIn (x := nI 5) (off := 460) (tgt := 500) hx hb d_La_law_40 (by decide) (by decide) rfl (by decide) ?_
        exact law_told hfl C hX hbl hbA hL ht h hP hD hS hl _ _ rfl rfl hk
      · refine lv_tableIn (x := nI 6) (off := 528) (tgt := 568) hx hb d_La_law_40 (by decide) (by decide) rfl (by decide) ?_
        exact law_corner hfl C hX hbl hbA hL ht h hP hD hS hl _ _ _ rfl rfl rfl hk
      · refine lv_tableIn (x := nI 7) (off := 608) (tgt := 648) hx hb d_La_law_40 (by decide) (by decide) rfl (by decide) ?_
        exact law_swept hfl C hX hbl hbA hL ht h hP hD hS hl hk
      · refine lv_tableIn (x := nI 8) (off := 621) (tgt := 661) hx hb d_La_law_40 (by decide) (by decide) rfl (by decide) ?_
        exact law_cell hfl C hX hbl hbA hL ht h hP hD hS hl _ _ rfl rfl hk
      · refine lv_tableIn (x := nI 9) (off := 696) (tgt := 736) hx hb d_La_law_40 (by decide) (by decide) rfl (by decide) ?_
        exact law_clash hfl C hX hbl hbA hL ht h hP hD hS hl _ rfl hk
      · refine lv_tableIn (x := nI 10) (off := 752) (tgt := 792) hx hb d_La_law_40 (by decide) (by decide) rfl (by decide) ?_
        exact law_stuck hfl C hX hbl hbA hL ht h hP hD hS hl hk
      · refine lv_tableIn (x := nI 11) (off := 765) (tgt := 805) hx hb d_La_law_40 (by decide) (by decide) rfl (by decide) ?_
        exact law_part hfl C hX hbl hbA hL ht h hP hD hS hl _ _ _ _ rfl rfl rfl rfl hk
      · refine lv_tableIn (x := nI 12) (off := 873) (tgt := 913) hx hb d_La_law_40 (by decide) (by decide) rfl (by decide) ?_
        exact law_clear hfl C hX hbl hbA hL ht h hP hD hS hl _ rfl hk
      · refine lv_tableIn (x := nI 13) (off := 929) (tgt := 969) hx hb d_La_law_40 (by decide) (by decide) rfl (by decide) ?_
        exact law_best hfl C hX hbl hbA hL ht h hP hD hS hl hk
      · refine lv_tableIn (x := nI 14) (off := 973) (tgt := 1013) hx hb d_La_law_40 (by decide) (by decide) rfl (by decide) ?_
        exact law_sweeps hfl C hX hbl hbA hL ht h hP hD hS hl _ rfl hk
      · refine lv_tableOut (x := nI 15) (tgt := 1069) hx hb d_La_law_40 (by decide) (by decide) ?_
        refine W_more (Nat.le_add_right (61 + t) 1) (Nat.le_add_right (8756 + 6 * t) 6) ?_
        exact hk k x y q M o n np mm H locs ls h hP hD hS hl
