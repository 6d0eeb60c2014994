/-! beginning and moving, the reference's way -/
def clr (f : Nat → Int32) (n : Nat) : Nat → Int32 := fun j => if j < n then 0 else f j
theorem clr_0 (f : Nat → Int32) : clr f 0 = f := by funext j; simp [clr]
theorem clr_s (f : Nat → Int32) (n : Nat) : upd (clr f n) n 0 = clr f (n + 1) := by
  funext j
  by_cases h : j = n
  · subst h
    simp [upd, clr]
  · simp only [upd, clr, if_neg h]
    by_cases h2 : j < n
    · rw [if_pos h2, if_pos (by omega)]
    · rw [if_neg h2, if_neg (by omega)]
def bgS (s : Nat → Int32) : Nat → Int32 := upd (upd (upd (upd (upd (upd s 24 0) 25 0) 26 (-1)) 27 (-1)) 28 (-1)) 29 0
def bgA0 (s : Nat → Int32) (a : St2) : St2 := u2 (u2 (u1 a 18 (clr (a 18) 4096)) 13 0 (4096 * s 8)) 14 0 (4096 * s 9)
def bgA1 (s : Nat → Int32) (b : Nat) (a : St2) : St2 := u2 (u2 (u2 a 15 b (s 10)) 16 b 0) 17 b 0
def bgB (n b : Nat) (x : MS) : MS := (x.1, if 0 < b then (if b < n then hangA b (bgA1 x.1 b x.2) else bgA1 x.1 b x.2) else bgA1 x.1 b x.2)
def begM (n np : Nat) (x : MS) : MS := itF (lookB np) n 0 (itF (bgB n) 3 0 (bgS x.1, bgA0 x.1 x.2))
theorem u2_row {σ : St2} {k b n : Nat} {v : Int32} (h : n ≠ k) : u2 σ k b v n = σ n := by
  funext j
  exact u2_k h
theorem bgA1_k {s : Nat → Int32} {b : Nat} {a : St2} {k : Nat} (h1 : k ≠ 15) (h2 : k ≠ 16) (h3 : k ≠ 17) : bgA1 s b a k = a k := by
  unfold bgA1
  rw [u2_row h3, u2_row h2, u2_row h1]
theorem hangA_k {b : Nat} {a : St2} {k : Nat} (h1 : k ≠ 13) (h2 : k ≠ 14) : hangA b a k = a k := by
  unfold hangA
  rw [u2_row h2, u2_row h1]
theorem bgB_k {n b : Nat} {x : MS} {k : Nat} (h1 : k ≠ 15) (h2 : k ≠ 16) (h3 : k ≠ 17) (h4 : k ≠ 13) (h5 : k ≠ 14) : (bgB n b x).2 k = x.2 k := by
  unfold bgB
  dsimp only
  split
  · split
    · rw [hangA_k h4 h5, bgA1_k h1 h2 h3]
    · rw [bgA1_k h1 h2 h3]
  · rw [bgA1_k h1 h2 h3]
/-- the reference's numbers while it runs -/
def InvB (n np : Nat) (x : MS) : Prop := (∀ i, i < 17 → x.2 1 i = cosT i) ∧ x.1 2 = nI n ∧ x.1 12 = nI np ∧ ¬ x.1 24 = -1
theorem bgB_inv {n np b : Nat} {x : MS} (h : InvL n np x) : InvL n np (bgB n b x) := by
  obtain ⟨h1, h2, h3, h4⟩ := h
  refine ⟨fun i hi => ?_, h2, h3, h4⟩
  rw [bgB_k (by decide) (by decide) (by decide) (by decide) (by decide)]
  exact h1 i hi
theorem le0_of {b : Nat} (hb : b ≤ 3) (c : nI b ≤ 0) : ¬ 0 < b := by
  have := (nI_leI (a := b) (b := 0) (by omega) (by omega)).mp c
  omega
theorem pos0_of {b : Nat} (c : ¬ nI b ≤ 0) : 0 < b := by
  rcases Nat.eq_zero_or_pos b with q | q
  · exact absurd (by rw [q]; decide) c
  · exact q
def sizI (v : Int32) : Int32 := if 0 ≤ v then v else -v
def mvA0 (s : Nat → Int32) (turn way : Int32) (a : St2) : St2 := u2 (u2 (u2 a 13 0 (a 13 0 + way * s 11 * dX (a 15 0))) 14 0 (a 14 0 + way * s 11 * dY (a 15 0))) 15 0 ((a 15 0 + way * turn) &&& 63)
def mvR (s : Nat → Int32) (way : Int32) (b : Nat) (a : St2) : Int32 := a 16 b + way * askF (poM a) b * s 11
def mvA1 (s : Nat → Int32) (way : Int32) (b : Nat) (a : St2) : St2 := u2 (u2 (u2 a 16 b (mvR s way b a)) 15 b ((a 15 b + mvR s way b a / a 2 b) &&& 63)) 16 b (mvR s way b a - mvR s way b a / a 2 b * a 2 b)
def mvB (way : Int32) (b : Nat) (x : MS) : MS := (x.1, hangA b (mvA1 x.1 way b x.2))
def msB (b : Nat) (x : MS) : MS := (upd x.1 25 (if x.1 25 = 0 then (if sizI (askF (poM x.2) b) ≤ 24 then 0 else 1) else 1), u2 x.2 17 b (if sizI (askF (poM x.2) b) ≤ x.2 17 b then x.2 17 b else sizI (askF (poM x.2) b)))
def mdM (x : MS) : MS := (upd x.1 24 (x.1 24 + 1), x.2)
def moveM (n np : Nat) (turn way : Int32) (x : MS) : MS := itF (lookB np) n 0 (itF msB n 1 (mdM (itF (mvB way) n 1 (x.1, mvA0 x.1 turn way x.2))))

set_option maxHeartbeats 4000000 in
set_option maxRecDepth 100000 in
theorem c_Mo_beginAnew (l : Launch) (g : Glob) (ad : Nat → Nat) (x : MS) (n np : Nat) (hc : ∀ i, i < 17 → x.2 1 i = cosT i) (hn : x.1 2 = nI n) (hp : x.1 12 = nI np) (h3 : n ≤ 3) (h20 : np ≤ 20) : CV l g y_Mo_beginAnew b_Mo_beginAnew 2 4 106 [.ref (ad 0)] (wM g ad x) (wM g ad (begM n np x)) := by
  refine CV.of (by decide +kernel) (Nat.le_of_ble_eq_true rfl) ?_
  intro p e s m below meth c A Q ls C hP hD hl hret hS
  obtain ⟨hx, hb, hml, hown, hw, hE, hA⟩ := id C
  have hl : lv_has ls 2 [(0, .ref (ad 0))] := hl
  unfold begM at hret
  generalize h9 : itF (lookB np) n 0 (itF (bgB n) 3 0 (bgS x.1, bgA0 x.1 x.2)) = x9 at hret
  refine lv_aload_n hx hb d_Mo_beginAnew_0 rfl (lv_at hl 0 rfl) ?_
  refine lv_iconst (v := 0) hx hb d_Mo_beginAnew_1 (by decide) ?_
  refine put_ms C 24 (ty := .int) q_574 rfl (by decide) rfl (by decide +kernel) rfl rfl wM_s24 hP hD hS d_Mo_beginAnew_2 (fun H locs hP hD hS => ?_)
  refine lv_aload_n hx hb d_Mo_beginAnew_5 rfl (lv_at hl 0 rfl) ?_
  refine lv_iconst (v := 0) hx hb d_Mo_beginAnew_6 (by decide) ?_
  refine put_ms C 25 (ty := .boolean) q_575 rfl (by decide) rfl (by decide +kernel) rfl rfl wM_s25 hP hD hS d_Mo_beginAnew_7 (fun H locs hP hD hS => ?_)
  refine lv_aload_n hx hb d_Mo_beginAnew_10 rfl (lv_at hl 0 rfl) ?_
  refine lv_iconst (v := (-1)) hx hb d_Mo_beginAnew_11 (by decide) ?_
  refine put_ms C 26 (ty := .int) q_576 rfl (by decide) rfl (by decide +kernel) rfl rfl wM_s26 hP hD hS d_Mo_beginAnew_12 (fun H locs hP hD hS => ?_)
  refine lv_aload_n hx hb d_Mo_beginAnew_15 rfl (lv_at hl 0 rfl) ?_
  refine lv_iconst (v := (-1)) hx hb d_Mo_beginAnew_16 (by decide) ?_
  refine put_ms C 27 (ty := .int) q_577 rfl (by decide) rfl (by decide +kernel) rfl rfl wM_s27 hP hD hS d_Mo_beginAnew_17 (fun H locs hP hD hS => ?_)
  refine lv_aload_n hx hb d_Mo_beginAnew_20 rfl (lv_at hl 0 rfl) ?_
  refine lv_iconst (v := (-1)) hx hb d_Mo_beginAnew_21 (by decide) ?_
  refine put_ms C 28 (ty := .int) q_578 rfl (by decide) rfl (by decide +kernel) rfl rfl wM_s28 hP hD hS d_Mo_beginAnew_22 (fun H locs hP hD hS => ?_)
  refine lv_aload_n hx hb d_Mo_beginAnew_25 rfl (lv_at hl 0 rfl) ?_
  refine lv_iconst (v := 0) hx hb d_Mo_beginAnew_26 (by decide) ?_
  refine put_ms C 29 (ty := .int) q_579 rfl (by decide) rfl (by decide +kernel) rfl rfl wM_s29 hP hD hS d_Mo_beginAnew_27 (fun H locs hP hD hS => ?_)
  refine lv_iconst (v := 0) hx hb d_Mo_beginAnew_30 (by decide) ?_
  refine lv_istore_n (lv' := [(1, .int 0), (0, .ref (ad 0))]) hx hb d_Mo_beginAnew_31 rfl hl (by decide) rfl (fun ls hl => ?_)
  obtain ⟨s0, a0⟩ := x
  dsimp only at hc hn hp
  generalize hs1 : (upd (upd (upd (upd (upd (upd s0 24 0) 25 0) 26 (-1)) 27 (-1)) 28 (-1)) 29 0) = s1 at hP hD
  have K : ∀ (H : Heap) (locs : List Loc) (ls : Array Slot), va_P g.1 classes (wM g ad (s1, u1 a0 18 (clr (a0 18) 4096))) H → va_D A (wM g ad (s1, u1 a0 18 (clr (a0 18) 4096))) → va_S A s.heap H locs → lv_has ls 2 [(0, .ref (ad 0))] → W p l e { frames := 4, cells := 0, slots := 0, locals := 106 } s m ([.ref (ad 0)] : List Value).toArray below meth c H locs 0 0 Q (F0 m 52 ls []) := by
    intro H locs ls hP hD hS hl
    refine lv_aload_n hx hb d_Mo_beginAnew_52 rfl (lv_at hl 0 rfl) ?_
    refine get_ms (x := (s1, (u1 a0 18 (clr (a0 18) 4096)))) C 19 q_569 rfl (by decide) (.ref (ad 13)) rfl hP d_Mo_beginAnew_53 ?_
    refine lv_iconst (v := 0) hx hb d_Mo_beginAnew_56 (by decide) ?_
    refine lv_sipush (v := 4096) hx hb d_Mo_beginAnew_57 (by decide) ?_
    refine lv_aload_n hx hb d_Mo_beginAnew_60 rfl (lv_at hl 0 rfl) ?_
    refine get_mi (x := (s1, (u1 a0 18 (clr (a0 18) 4096)))) C 8 q_558 rfl (by decide) rfl (s1 8) rfl hP d_Mo_beginAnew_61 ?_
    refine lv_imul hx hb d_Mo_beginAnew_64 ?_
    refine put_ma C 13 3 rfl (by unfold vp_in; decide) 0 (show (0 : Int32).toNatClampNeg = 0 from by decide) wM_a13 hP hD hS d_Mo_beginAnew_65 (fun H locs hP hD hS => ?_)
    refine lv_aload_n hx hb d_Mo_beginAnew_66 rfl (lv_at hl 0 rfl) ?_
    refine get_ms (x := (s1, (u2 (u1 a0 18 (clr (a0 18) 4096)) 13 0 (4096 * (s1 8))))) C 20 q_570 rfl (by decide) (.ref (ad 14)) rfl hP d_Mo_beginAnew_67 ?_
    refine lv_iconst (v := 0) hx hb d_Mo_beginAnew_70 (by decide) ?_
    refine lv_sipush (v := 4096) hx hb d_Mo_beginAnew_71 (by decide) ?_
    refine lv_aload_n hx hb d_Mo_beginAnew_74 rfl (lv_at hl 0 rfl) ?_
    refine get_mi (x := (s1, (u2 (u1 a0 18 (clr (a0 18) 4096)) 13 0 (4096 * (s1 8))))) C 9 q_559 rfl (by decide) rfl (s1 9) rfl hP d_Mo_beginAnew_75 ?_
    refine lv_imul hx hb d_Mo_beginAnew_78 ?_
    refine put_ma C 14 3 rfl (by unfold vp_in; decide) 0 (show (0 : Int32).toNatClampNeg = 0 from by decide) wM_a14 hP hD hS d_Mo_beginAnew_79 (fun H locs hP hD hS => ?_)
    refine lv_iconst (v := 0) hx hb d_Mo_beginAnew_80 (by decide) ?_
    refine lv_istore_n (lv' := [(1, .int 0), (0, .ref (ad 0))]) hx hb d_Mo_beginAnew_81 rfl hl (by decide) rfl (fun ls hl => ?_)
    have hs : s1 8 = s0 8 ∧ s1 9 = s0 9 := by rw [← hs1]; exact ⟨rfl, rfl⟩
    rw [hs.1, hs.2] at hP hD
    have hI : InvL n np (s1, bgA0 s0 a0) := ⟨hc, by rw [← hs1]; exact hn, by rw [← hs1]; exact hp, by rw [← hs1]; exact (by decide : ¬ (0 : Int32) = -1)⟩
    have hx9 : itF (lookB np) n 0 (itF (bgB n) 3 0 (s1, bgA0 s0 a0)) = x9 := by rw [← hs1]; exact h9
    generalize hx8 : itF (bgB n) 3 0 (s1, bgA0 s0 a0) = x8 at hx9
    have lb : ∀ (t : Nat) (b : Nat) (x : MS) (H : Heap) (locs : List Loc) (ls : Array Slot), b ≤ 3 → 3 < b + t → InvL n np x → itF (bgB n) 3 b x = x8 → va_P g.1 classes (wM g ad x) H → va_D A (wM g ad x) → va_S A s.heap H locs → lv_has ls 2 [(1, .int (nI b)), (0, .ref (ad 0))] → W p l e { frames := 4, cells := 0, slots := 0, locals := 106 } s m ([.ref (ad 0)] : List Value).toArray below meth c H locs 0 0 Q (F0 m 82 ls []) := by
      intro t
      induction t with
      | zero =>
        intro b x H locs ls hb3n ht hI h8 hP hD hS hl
        exact absurd trivial (by omega)
      | succ t ih =>
        intro b x H locs ls hb3n ht hI h8 hP hD hS hl
        obtain ⟨hc, hn, hp, hm⟩ := id hI
        refine lv_iload_n hx hb d_Mo_beginAnew_82 rfl (lv_at hl 0 rfl) ?_
        refine lv_iconst (v := 3) hx hb d_Mo_beginAnew_83 (by decide) ?_
        refine lv_icmp_ge (tgt := 134) hx hb d_Mo_beginAnew_84 (by decide) (fun c84_1 => ?_) (fun c84_1 => ?_)
        · have hge := ge_of_le' (a := 3) (n := 3) 3 rfl (Nat.le_refl _) (by decide) (by omega) c84_1
          have h8 := (itF_end hge).symm.trans h8
          subst h8
          have hI9 := hI
          refine lv_aload_n hx hb d_Mo_beginAnew_134 rfl (lv_at hl 1 rfl) ?_
          refine cvV C v_Mo_142 [] [] (c_Mo_look l g ad x n np hI9 h3 h20) hP hD hS [0, 1, 2, 3, 4, 5, 6, 7, 8, 9, 10, 11, 12, 13, 14, 15, 16, 17, 18, 19, 20] [] [0, 1, 2, 3, 4, 5, 6, 7, 8, 9, 10, 11, 12, 13, 14, 15, 16, 17, 18, 19, 20] [] (wM g ad (itF (lookB np) n 0 x)) rfl rfl (by decide) (by decide) (by decide) rfl (by decide) 0 rfl rfl rfl rfl hl.1 (Nat.le_of_ble_eq_true rfl) ⟨Nat.le_of_ble_eq_true rfl, Nat.le_of_ble_eq_true rfl⟩ d_Mo_beginAnew_135 ⟨Nat.zero_le _, Nat.zero_le _⟩ (fun H locs hP hD hS => ?_)
          exact hret _ _ _ _ _ (by rw [← hx9]) hP hD hS d_Mo_beginAnew_138
        · have hb3 := lt_of_nle' (a := 3) (n := 3) 3 rfl (Nat.le_refl _) (by decide) (by omega) c84_1
          refine lv_aload_n hx hb d_Mo_beginAnew_87 rfl (lv_at hl 1 rfl) ?_
          refine get_ms (x := x) C 21 q_571 rfl (by decide) (.ref (ad 15)) rfl hP d_Mo_beginAnew_88 ?_
          refine lv_iload_n hx hb d_Mo_beginAnew_91 rfl (lv_at hl 0 rfl) ?_
          refine lv_aload_n hx hb d_Mo_beginAnew_92 rfl (lv_at hl 1 rfl) ?_
          refine get_mi (x := x) C 10 q_560 rfl (by decide) rfl (x.1 10) rfl hP d_Mo_beginAnew_93 ?_
          refine put_ma C 15 3 rfl (vp_in_nI hb3 (by omega)) b (nI_clamp (by omega)) wM_a15 hP hD hS d_Mo_beginAnew_96 (fun H locs hP hD hS => ?_)
          refine lv_aload_n hx hb d_Mo_beginAnew_97 rfl (lv_at hl 1 rfl) ?_
          refine get_ms (x := (x.1, (u2 x.2 15 b (x.1 10)))) C 22 q_572 rfl (by decide) (.ref (ad 16)) rfl hP d_Mo_beginAnew_98 ?_
          refine lv_iload_n hx hb d_Mo_beginAnew_101 rfl (lv_at hl 0 rfl) ?_
          refine lv_iconst (v := 0) hx hb d_Mo_beginAnew_102 (by decide) ?_
          refine put_ma C 16 3 rfl (vp_in_nI hb3 (by omega)) b (nI_clamp (by omega)) wM_a16 hP hD hS d_Mo_beginAnew_103 (fun H locs hP hD hS => ?_)
          refine lv_aload_n hx hb d_Mo_beginAnew_104 rfl (lv_at hl 1 rfl) ?_
          refine get_ms (x := (x.1, (u2 (u2 x.2 15 b (x.1 10)) 16 b 0))) C 23 q_573 rfl (by decide) (.ref (ad 17)) rfl hP d_Mo_beginAnew_105 ?_
          refine lv_iload_n hx hb d_Mo_beginAnew_108 rfl (lv_at hl 0 rfl) ?_
          refine lv_iconst (v := 0) hx hb d_Mo_beginAnew_109 (by decide) ?_
          refine put_ma C 17 3 rfl (vp_in_nI hb3 (by omega)) b (nI_clamp (by omega)) wM_a17 hP hD hS d_Mo_beginAnew_110 (fun H locs hP hD hS => ?_)
          refine lv_iload_n hx hb d_Mo_beginAnew_111 rfl (lv_at hl 0 rfl) ?_
          refine lv_if_le (tgt := 128) hx hb d_Mo_beginAnew_112 (by decide) (fun c112_2 => ?_) (fun c112_2 => ?_)
          · refine lv_iinc (v := (nI (b + 1))) (lv' := [(1, .int (nI (b + 1))), (0, .ref (ad 0))]) hx hb d_Mo_beginAnew_128 hl (k := 0) rfl (nI_1 b) (by decide) rfl (fun ls hl => ?_)
            refine lv_goto (tgt := 82) hx hb d_Mo_beginAnew_131 (by decide) ?_
            have e1 : bgB n b x = (x.1, (u2 (u2 (u2 x.2 15 b (x.1 10)) 16 b 0) 17 b 0)) := (by unfold bgB; rw [if_neg (le0_of (by omega) c112_2)]; rfl)
            exact ih (b + 1) (x.1, (u2 (u2 (u2 x.2 15 b (x.1 10)) 16 b 0) 17 b 0)) _ _ _ (by omega) (by omega) (e1 ▸ bgB_inv hI) (it_back hb3 h8 e1) hP hD hS (lv_sub hl [0, 1] rfl)
          · have hb1 := pos0_of c112_2
            refine lv_iload_n hx hb d_Mo_beginAnew_115 rfl (lv_at hl 0 rfl) ?_
            refine lv_aload_n hx hb d_Mo_beginAnew_116 rfl (lv_at hl 1 rfl) ?_
            refine get_mi (x := (x.1, (u2 (u2 (u2 x.2 15 b (x.1 10)) 16 b 0) 17 b 0))) C 2 q_552 rfl (by decide) rfl (x.1 2) rfl hP d_Mo_beginAnew_117 ?_
            refine lv_icmp_ge (tgt := 128) hx hb d_Mo_beginAnew_120 (by decide) (fun c120_3 => ?_) (fun c120_3 => ?_)
            · refine lv_iinc (v := (nI (b + 1))) (lv' := [(1, .int (nI (b + 1))), (0, .ref (ad 0))]) hx hb d_Mo_beginAnew_128 hl (k := 0) rfl (nI_1 b) (by decide) rfl (fun ls hl => ?_)
              refine lv_goto (tgt := 82) hx hb d_Mo_beginAnew_131 (by decide) ?_
              have e1 : bgB n b x = (x.1, (u2 (u2 (u2 x.2 15 b (x.1 10)) 16 b 0) 17 b 0)) := (by unfold bgB; rw [if_pos hb1, if_neg (by rw [hn] at c120_3; exact Nat.not_lt.mpr ((nI_leI (by omega) (by omega)).mp c120_3))]; rfl)
              exact ih (b + 1) (x.1, (u2 (u2 (u2 x.2 15 b (x.1 10)) 16 b 0) 17 b 0)) _ _ _ (by omega) (by omega) (e1 ▸ bgB_inv hI) (it_back hb3 h8 e1) hP hD hS (lv_sub hl [0, 1] rfl)
            · have hbn : b < n := by
                rcases Nat.lt_or_ge b n with q | q
                · exact q
                · exact absurd (by rw [hn]; exact nI_le q (by omega)) c120_3
              refine lv_aload_n hx hb d_Mo_beginAnew_123 rfl (lv_at hl 1 rfl) ?_
              refine lv_iload_n hx hb d_Mo_beginAnew_124 rfl (lv_at hl 0 rfl) ?_
              refine cvV C v_Mo_138 [.int (nI b)] [] (c_Mo_hang l g ad (x.1, (u2 (u2 (u2 x.2 15 b (x.1 10)) 16 b 0) 17 b 0)) (fun i hi => (u2_k (σ := (u2 (u2 x.2 15 b (x.1 10)) 16 b 0)) (k := 17) (b := b) (x := 0) (i := 1) (j := i) (by decide)).trans ((fun i hi => (u2_k (σ := (u2 x.2 15 b (x.1 10))) (k := 16) (b := b) (x := 0) (i := 1) (j := i) (by decide)).trans ((fun i hi => (u2_k (σ := x.2) (k := 15) (b := b) (x := (x.1 10)) (i := 1) (j := i) (by decide)).trans (hc i hi)) i hi)) i hi)) b hb3 hb1) hP hD hS [0, 1, 2, 3, 4, 5, 6, 7, 8, 9, 10, 11, 12, 13, 14, 15, 16, 17, 18, 19, 20] [] [0, 1, 2, 3, 4, 5, 6, 7, 8, 9, 10, 11, 12, 13, 14, 15, 16, 17, 18, 19, 20] [] (wM g ad (x.1, (hangA b (u2 (u2 (u2 x.2 15 b (x.1 10)) 16 b 0) 17 b 0)))) rfl rfl (by decide) (by decide) (by decide) rfl (by decide) 0 rfl rfl rfl rfl hl.1 (Nat.le_of_ble_eq_true rfl) ⟨Nat.le_of_ble_eq_true rfl, Nat.le_of_ble_eq_true rfl⟩ d_Mo_beginAnew_125 ⟨Nat.zero_le _, Nat.zero_le _⟩ (fun H locs hP hD hS => ?_)
              refine lv_iinc (v := (nI (b + 1))) (lv' := [(1, .int (nI (b + 1))), (0, .ref (ad 0))]) hx hb d_Mo_beginAnew_128 hl (k := 0) rfl (nI_1 b) (by decide) rfl (fun ls hl => ?_)
              refine lv_goto (tgt := 82) hx hb d_Mo_beginAnew_131 (by decide) ?_
              have e1 : bgB n b x = (x.1, (hangA b (u2 (u2 (u2 x.2 15 b (x.1 10)) 16 b 0) 17 b 0))) := (by unfold bgB; rw [if_pos hb1, if_pos hbn]; rfl)
              exact ih (b + 1) (x.1, (hangA b (u2 (u2 (u2 x.2 15 b (x.1 10)) 16 b 0) 17 b 0))) _ _ _ (by omega) (by omega) (e1 ▸ bgB_inv hI) (it_back hb3 h8 e1) hP hD hS (lv_sub hl [0, 1] rfl)
    exact lb 4 0 (s1, bgA0 s0 a0) _ _ _ (by omega) (by omega) hI hx8 hP hD hS (lv_sub hl [0, 1] rfl)
  have lz : ∀ (t : Nat) (q : Nat) (H : Heap) (locs : List Loc) (ls : Array Slot), q ≤ 4096 → 4096 < q + t → va_P g.1 classes (wM g ad (s1, u1 a0 18 (clr (a0 18) q))) H → va_D A (wM g ad (s1, u1 a0 18 (clr (a0 18) q))) → va_S A s.heap H locs → lv_has ls 2 [(1, .int (nI q)), (0, .ref (ad 0))] → W p l e { frames := 4, cells := 0, slots := 0, locals := 106 } s m ([.ref (ad 0)] : List Value).toArray below meth c H locs 0 0 Q (F0 m 32 ls []) := by
    intro t
    induction t with
    | zero =>
      intro q H locs ls hq ht hP hD hS hl
      exact absurd trivial (by omega)
    | succ t ih =>
      intro q H locs ls hq ht hP hD hS hl
      refine lv_iload_n hx hb d_Mo_beginAnew_32 rfl (lv_at hl 0 rfl) ?_
      refine lv_sipush (v := 4096) hx hb d_Mo_beginAnew_33 (by decide) ?_
      refine lv_icmp_ge (tgt := 52) hx hb d_Mo_beginAnew_36 (by decide) (fun c36_4 => ?_) (fun c36_4 => ?_)
      · have hge := ge_of_le' (a := 4096) (n := 4096) 4096 rfl (Nat.le_refl _) (by decide) (by omega) c36_4
        have : q = 4096 := by omega
        subst this
        exact K _ _ _ hP hD hS (lv_sub hl [1] rfl)
      · have hlq := lt_of_nle' (a := 4096) (n := 4096) 4096 rfl (Nat.le_refl _) (by decide) (by omega) c36_4
        refine lv_aload_n hx hb d_Mo_beginAnew_39 rfl (lv_at hl 1 rfl) ?_
        refine get_ms (x := (s1, (u1 a0 18 (clr (a0 18) q)))) C 30 q_580 rfl (by decide) (.ref (ad 18)) rfl hP d_Mo_beginAnew_40 ?_
        refine lv_iload_n hx hb d_Mo_beginAnew_43 rfl (lv_at hl 0 rfl) ?_
        refine lv_iconst (v := 0) hx hb d_Mo_beginAnew_44 (by decide) ?_
        refine put_mz C 18 4096 rfl (vp_in_nI hlq (by omega)) q (nI_clamp (by omega)) rfl wM_a18 hP hD hS d_Mo_beginAnew_45 (fun H locs hP hD hS => ?_)
        refine lv_iinc (v := (nI (q + 1))) (lv' := [(1, .int (nI (q + 1))), (0, .ref (ad 0))]) hx hb d_Mo_beginAnew_46 hl (k := 0) rfl (nI_1 q) (by decide) rfl (fun ls hl => ?_)
        refine lv_goto (tgt := 32) hx hb d_Mo_beginAnew_49 (by decide) ?_
        rw [u2_u1, clr_s] at hP hD
        exact ih (q + 1) _ _ _ (by omega) (by omega) hP hD hS (lv_sub hl [0, 1] rfl)
  have hP : va_P g.1 classes (wM g ad (s1, u1 a0 18 (clr (a0 18) 0))) H := by rw [clr_0, u1_id]; exact hP
  have hD : va_D A (wM g ad (s1, u1 a0 18 (clr (a0 18) 0))) := by rw [clr_0, u1_id]; exact hD
  exact lz 4097 0 _ _ _ (by omega) (by omega) hP hD hS (lv_sub hl [0, 1] rfl)
