/-! laying aside and putting back; plans -/
def kpA (b : Nat) (a : St2) : St2 := u2 (u2 (u2 (u2 (u2 a 19 b (a 13 b)) 19 (3 + b) (a 14 b)) 19 (6 + b) (a 15 b)) 19 (9 + b) (a 16 b)) 19 (12 + b) (a 17 b)
def kp1 (s : Nat → Int32) (a : St2) : St2 := u2 (u2 (u2 (u2 (u2 a 19 15 (s 24)) 19 16 (s 26)) 19 17 (s 27)) 19 18 (s 28)) 19 19 (if s 25 = 0 then 0 else 1)
def cpyZ (f g : Nat → Int32) (n : Nat) : Nat → Int32 := fun j => if j < n then f j else g j
theorem cpyZ_0 (f g : Nat → Int32) : cpyZ f g 0 = g := by funext j; simp [cpyZ]
theorem cpyZ_s (f g : Nat → Int32) (n : Nat) : upd (cpyZ f g n) n (f n) = cpyZ f g (n + 1) := by
  funext j
  by_cases h : j = n
  · subst h
    simp [upd, cpyZ]
  · simp only [upd, cpyZ, if_neg h]
    by_cases h2 : j < n
    · rw [if_pos h2, if_pos (by omega)]
    · rw [if_neg h2, if_neg (by omega)]
def keepM (x : MS) : MS := (x.1, u1 (kp1 x.1 (itF kpA 3 0 x.2)) 20 (cpyZ ((kp1 x.1 (itF kpA 3 0 x.2)) 18) ((kp1 x.1 (itF kpA 3 0 x.2)) 20) 4096))
def pbA (b : Nat) (a : St2) : St2 := u2 (u2 (u2 (u2 (u2 a 13 b (a 19 b)) 14 b (a 19 (3 + b))) 15 b (a 19 (6 + b))) 16 b (a 19 (9 + b))) 17 b (a 19 (12 + b))
def pbS (s : Nat → Int32) (a : St2) : Nat → Int32 := upd (upd (upd (upd (upd s 24 (a 19 15)) 26 (a 19 16)) 27 (a 19 17)) 28 (a 19 18)) 25 (if a 19 19 = 1 then 1 else 0)
def cntZ (f : Nat → Int32) : Nat → Int32
  | 0 => 0
  | k + 1 => if f k = 0 then cntZ f k else cntZ f k + 1
def putM (x : MS) : MS := (upd (pbS x.1 (itF pbA 3 0 x.2)) 29 (cntZ (itF pbA 3 0 x.2 20) 4096), u1 (itF pbA 3 0 x.2) 18 (cpyZ (itF pbA 3 0 x.2 20) (itF pbA 3 0 x.2 18) 4096))
theorem kpA_k {b : Nat} {a : St2} {k : Nat} (h : k ≠ 19) : kpA b a k = a k := by
  unfold kpA
  rw [u2_row h, u2_row h, u2_row h, u2_row h, u2_row h]
theorem kp1_k {s : Nat → Int32} {a : St2} {k : Nat} (h : k ≠ 19) : kp1 s a k = a k := by
  unfold kp1
  rw [u2_row h, u2_row h, u2_row h, u2_row h, u2_row h]
theorem kpI_k {n i : Nat} {a : St2} {k : Nat} (h : k ≠ 19) : itF kpA n i a k = a k := itF_all (P := fun y : St2 => y k = a k) (fun i y hy => (kpA_k h).trans hy) rfl
theorem pbA_k {b : Nat} {a : St2} {k : Nat} (h : k < 13 ∨ 17 < k) : pbA b a k = a k := by
  unfold pbA
  rw [u2_row (by omega), u2_row (by omega), u2_row (by omega), u2_row (by omega), u2_row (by omega)]
theorem pbI_k {n i : Nat} {a : St2} {k : Nat} (h : k < 13 ∨ 17 < k) : itF pbA n i a k = a k := itF_all (P := fun y : St2 => y k = a k) (fun i y hy => (pbA_k h).trans hy) rfl

set_option maxHeartbeats 4000000 in
set_option maxRecDepth 100000 in
theorem c_Mo_keepAside (l : Launch) (g : Glob) (ad : Nat → Nat) (x : MS) (hz : ∀ j, j < 4096 → x.2 18 j = 0 ∨ x.2 18 j = 1) : CV l g y_Mo_keepAside b_Mo_keepAside 2 0 0 [.ref (ad 0)] (wM g ad x) (wM g ad (keepM x)) := by
  refine CV.of (by decide +kernel) (Nat.le_of_ble_eq_true rfl) ?_
  intro p e s m below meth c A Q ls C hP hD hl hret hS
  obtain ⟨hx, hb, hml, hown, hw, hE, hA⟩ := id C
  have hl : lv_has ls 2 [(0, .ref (ad 0))] := hl
  unfold keepM at hret
  refine lv_iconst (v := 0) hx hb d_Mo_keepAside_0 (by decide) ?_
  refine lv_istore_n (lv' := [(1, .int 0), (0, .ref (ad 0))]) hx hb d_Mo_keepAside_1 rfl hl (by decide) rfl (fun ls hl => ?_)
  obtain ⟨s0, a0⟩ := x
  dsimp only at hret hz
  generalize ha8 : itF kpA 3 0 a0 = a8 at hret
  have lb : ∀ (t : Nat) (b : Nat) (a : St2) (H : Heap) (locs : List Loc) (ls : Array Slot), b ≤ 3 → 3 < b + t → itF kpA 3 b a = a8 → va_P g.1 classes (wM g ad (s0, a)) H → va_D A (wM g ad (s0, a)) → va_S A s.heap H locs → lv_has ls 2 [(1, .int (nI b)), (0, .ref (ad 0))] → W p l e { frames := 0, cells := 0, slots := 0, locals := 0 } s m ([.ref (ad 0)] : List Value).toArray below meth c H locs 0 0 Q (F0 m 2 ls []) := by
    intro t
    induction t with
    | zero =>
      intro b a H locs ls hb3n ht h8 hP hD hS hl
      exact absurd trivial (by omega)
    | succ t ih =>
      intro b a H locs ls hb3n ht h8 hP hD hS hl
      refine lv_iload_n hx hb d_Mo_keepAside_2 rfl (lv_at hl 0 rfl) ?_
      refine lv_iconst (v := 3) hx hb d_Mo_keepAside_3 (by decide) ?_
      refine lv_icmp_ge (tgt := 84) hx hb d_Mo_keepAside_4 (by decide) (fun c4_1 => ?_) (fun c4_1 => ?_)
      · have hge := ge_of_le' (a := 3) (n := 3) 3 rfl (Nat.le_refl _) (by decide) (by omega) c4_1
        have h8 := (itF_end hge).symm.trans h8
        subst h8
        refine lv_aload_n hx hb d_Mo_keepAside_84 rfl (lv_at hl 1 rfl) ?_
        refine get_ms (x := (s0, a)) C 31 q_581 rfl (by decide) (.ref (ad 19)) rfl hP d_Mo_keepAside_85 ?_
        refine lv_bipush (v := 15) hx hb d_Mo_keepAside_88 (by decide) ?_
        refine lv_aload_n hx hb d_Mo_keepAside_90 rfl (lv_at hl 1 rfl) ?_
        refine get_mi (x := (s0, a)) C 24 q_574 rfl (by decide) rfl (s0 24) rfl hP d_Mo_keepAside_91 ?_
        refine put_ma C 19 20 rfl (by unfold vp_in; decide) 15 (show (15 : Int32).toNatClampNeg = 15 from by decide) wM_a19 hP hD hS d_Mo_keepAside_94 (fun H locs hP hD hS => ?_)
        refine lv_aload_n hx hb d_Mo_keepAside_95 rfl (lv_at hl 1 rfl) ?_
        refine get_ms (x := (s0, (u2 a 19 15 (s0 24)))) C 31 q_581 rfl (by decide) (.ref (ad 19)) rfl hP d_Mo_keepAside_96 ?_
        refine lv_bipush (v := 16) hx hb d_Mo_keepAside_99 (by decide) ?_
        refine lv_aload_n hx hb d_Mo_keepAside_101 rfl (lv_at hl 1 rfl) ?_
        refine get_mi (x := (s0, (u2 a 19 15 (s0 24)))) C 26 q_576 rfl (by decide) rfl (s0 26) rfl hP d_Mo_keepAside_102 ?_
        refine put_ma C 19 20 rfl (by unfold vp_in; decide) 16 (show (16 : Int32).toNatClampNeg = 16 from by decide) wM_a19 hP hD hS d_Mo_keepAside_105 (fun H locs hP hD hS => ?_)
        refine lv_aload_n hx hb d_Mo_keepAside_106 rfl (lv_at hl 1 rfl) ?_
        refine get_ms (x := (s0, (u2 (u2 a 19 15 (s0 24)) 19 16 (s0 26)))) C 31 q_581 rfl (by decide) (.ref (ad 19)) rfl hP d_Mo_keepAside_107 ?_
        refine lv_bipush (v := 17) hx hb d_Mo_keepAside_110 (by decide) ?_
        refine lv_aload_n hx hb d_Mo_keepAside_112 rfl (lv_at hl 1 rfl) ?_
        refine get_mi (x := (s0, (u2 (u2 a 19 15 (s0 24)) 19 16 (s0 26)))) C 27 q_577 rfl (by decide) rfl (s0 27) rfl hP d_Mo_keepAside_113 ?_
        refine put_ma C 19 20 rfl (by unfold vp_in; decide) 17 (show (17 : Int32).toNatClampNeg = 17 from by decide) wM_a19 hP hD hS d_Mo_keepAside_116 (fun H locs hP hD hS => ?_)
        refine lv_aload_n hx hb d_Mo_keepAside_117 rfl (lv_at hl 1 rfl) ?_
        refine get_ms (x := (s0, (u2 (u2 (u2 a 19 15 (s0 24)) 19 16 (s0 26)) 19 17 (s0 27)))) C 31 q_581 rfl (by decide) (.ref (ad 19)) rfl hP d_Mo_keepAside_118 ?_
        refine lv_bipush (v := 18) hx hb d_Mo_keepAside_121 (by decide) ?_
        refine lv_aload_n hx hb d_Mo_keepAside_123 rfl (lv_at hl 1 rfl) ?_
        refine get_mi (x := (s0, (u2 (u2 (u2 a 19 15 (s0 24)) 19 16 (s0 26)) 19 17 (s0 27)))) C 28 q_578 rfl (by decide) rfl (s0 28) rfl hP d_Mo_keepAside_124 ?_
        refine put_ma C 19 20 rfl (by unfold vp_in; decide) 18 (show (18 : Int32).toNatClampNeg = 18 from by decide) wM_a19 hP hD hS d_Mo_keepAside_127 (fun H locs hP hD hS => ?_)
        refine lv_aload_n hx hb d_Mo_keepAside_128 rfl (lv_at hl 1 rfl) ?_
        refine get_ms (x := (s0, (u2 (u2 (u2 (u2 a 19 15 (s0 24)) 19 16 (s0 26)) 19 17 (s0 27)) 19 18 (s0 28)))) C 31 q_581 rfl (by decide) (.ref (ad 19)) rfl hP d_Mo_keepAside_129 ?_
        refine lv_bipush (v := 19) hx hb d_Mo_keepAside_132 (by decide) ?_
        have J146 : ∀ (sk : Int32), sk = (if s0 25 = 0 then 0 else 1) → W p l e { frames := 0, cells := 0, slots := 0, locals := 0 } s m ([.ref (ad 0)] : List Value).toArray below meth c H locs 0 0 Q (F0 m 146 ls [.int sk, .int 19, .ref (ad 19)]) := by
          intro sk esk
          refine put_ma C 19 20 rfl (by unfold vp_in; decide) 19 (show (19 : Int32).toNatClampNeg = 19 from by decide) wM_a19 hP hD hS d_Mo_keepAside_146 (fun H locs hP hD hS => ?_)
          refine lv_iconst (v := 0) hx hb d_Mo_keepAside_147 (by decide) ?_
          refine lv_istore_n (lv' := [(1, .int 0), (0, .ref (ad 0))]) hx hb d_Mo_keepAside_148 rfl hl (by decide) rfl (fun ls hl => ?_)
          have hP : va_P g.1 classes (wM g ad (s0, kp1 s0 a)) H := by rw [esk] at hP; exact hP
          have hD : va_D A (wM g ad (s0, kp1 s0 a)) := by rw [esk] at hD; exact hD
          have hz8 : ∀ j, j < 4096 → kp1 s0 a 18 j = 0 ∨ kp1 s0 a 18 j = 1 := by rw [kp1_k (by decide), ← ha8, kpI_k (by decide)]; exact hz
          generalize kp1 s0 a = a1 at hP hD hret hz8
          have lz : ∀ (t2 : Nat) (q : Nat) (H : Heap) (locs : List Loc) (ls : Array Slot), q ≤ 4096 → 4096 < q + t2 → va_P g.1 classes (wM g ad (s0, u1 a1 20 (cpyZ (a1 18) (a1 20) q))) H → va_D A (wM g ad (s0, u1 a1 20 (cpyZ (a1 18) (a1 20) q))) → va_S A s.heap H locs → lv_has ls 2 [(1, .int (nI q)), (0, .ref (ad 0))] → W p l e { frames := 0, cells := 0, slots := 0, locals := 0 } s m ([.ref (ad 0)] : List Value).toArray below meth c H locs 0 0 Q (F0 m 149 ls []) := by
            intro t2
            induction t2 with
            | zero =>
              intro q H locs ls hq ht2 hP hD hS hl
              exact absurd trivial (by omega)
            | succ t2 ih =>
              intro q H locs ls hq ht2 hP hD hS hl
              refine lv_iload_n hx hb d_Mo_keepAside_149 rfl (lv_at hl 0 rfl) ?_
              refine lv_sipush (v := 4096) hx hb d_Mo_keepAside_150 (by decide) ?_
              refine lv_icmp_ge (tgt := 174) hx hb d_Mo_keepAside_153 (by decide) (fun c153_2 => ?_) (fun c153_2 => ?_)
              · have hge := ge_of_le' (a := 4096) (n := 4096) 4096 rfl (Nat.le_refl _) (by decide) (by omega) c153_2
                have hq9 : q = 4096 := by omega
                subst hq9
                exact hret _ _ _ _ _ rfl hP hD hS d_Mo_keepAside_174
              · have hlq := lt_of_nle' (a := 4096) (n := 4096) 4096 rfl (Nat.le_refl _) (by decide) (by omega) c153_2
                refine lv_aload_n hx hb d_Mo_keepAside_156 rfl (lv_at hl 1 rfl) ?_
                refine get_ms (x := (s0, (u1 a1 20 (cpyZ (a1 18) (a1 20) q)))) C 32 q_582 rfl (by decide) (.ref (ad 20)) rfl hP d_Mo_keepAside_157 ?_
                refine lv_iload_n hx hb d_Mo_keepAside_160 rfl (lv_at hl 0 rfl) ?_
                refine lv_aload_n hx hb d_Mo_keepAside_161 rfl (lv_at hl 1 rfl) ?_
                refine get_ms (x := (s0, (u1 a1 20 (cpyZ (a1 18) (a1 20) q)))) C 30 q_580 rfl (by decide) (.ref (ad 18)) rfl hP d_Mo_keepAside_162 ?_
                refine lv_iload_n hx hb d_Mo_keepAside_165 rfl (lv_at hl 0 rfl) ?_
                refine get_mz (x := (s0, (u1 a1 20 (cpyZ (a1 18) (a1 20) q)))) C 18 4096 rfl (vp_in_nI hlq (by omega)) (a1 18 q) ((congrArg ((u1 a1 20 (cpyZ (a1 18) (a1 20) q)) 18) (nI_clamp (by omega))).trans (congrFun (u1_k (a := a1) (k := 20) (f := (cpyZ (a1 18) (a1 20) q)) (n := 18) (by decide)) q)) hP d_Mo_keepAside_166 ?_
                refine put_mz C 20 4096 rfl (vp_in_nI hlq (by omega)) q (nI_clamp (by omega)) (vpn01 (hz8 q hlq)) wM_a20 hP hD hS d_Mo_keepAside_167 (fun H locs hP hD hS => ?_)
                refine lv_iinc (v := (nI (q + 1))) (lv' := [(1, .int (nI (q + 1))), (0, .ref (ad 0))]) hx hb d_Mo_keepAside_168 hl (k := 0) rfl (nI_1 q) (by decide) rfl (fun ls hl => ?_)
                refine lv_goto (tgt := 149) hx hb d_Mo_keepAside_171 (by decide) ?_
                rw [u2_u1, cpyZ_s] at hP hD
                exact ih (q + 1) _ _ _ (by omega) (by omega) hP hD hS (lv_sub hl [0, 1] rfl)
          have hP : va_P g.1 classes (wM g ad (s0, u1 a1 20 (cpyZ (a1 18) (a1 20) 0))) H := by rw [cpyZ_0, u1_id]; exact hP
          have hD : va_D A (wM g ad (s0, u1 a1 20 (cpyZ (a1 18) (a1 20) 0))) := by rw [cpyZ_0, u1_id]; exact hD
          exact lz 4097 0 _ _ _ (by omega) (by omega) hP hD hS (lv_sub hl [0, 1] rfl)
        refine lv_aload_n hx hb d_Mo_keepAside_134 rfl (lv_at hl 1 rfl) ?_
        refine get_mi (x := (s0, (u2 (u2 (u2 (u2 a 19 15 (s0 24)) 19 16 (s0 26)) 19 17 (s0 27)) 19 18 (s0 28)))) C 25 q_575 rfl (by decide) rfl (s0 25) rfl hP d_Mo_keepAside_135 ?_
        refine lv_if_eq (tgt := 145) hx hb d_Mo_keepAside_138 (by decide) (fun c138_3 => ?_) (fun c138_3 => ?_)
        · refine lv_iconst (v := 0) hx hb d_Mo_keepAside_145 (by decide) ?_
          exact J146 _ ((if_pos c138_3).symm)
        · refine lv_iconst (v := 1) hx hb d_Mo_keepAside_141 (by decide) ?_
          refine lv_goto (tgt := 146) hx hb d_Mo_keepAside_142 (by decide) ?_
          exact J146 _ ((if_neg c138_3).symm)
      · have hb3 := lt_of_nle' (a := 3) (n := 3) 3 rfl (Nat.le_refl _) (by decide) (by omega) c4_1
        refine lv_aload_n hx hb d_Mo_keepAside_7 rfl (lv_at hl 1 rfl) ?_
        refine get_ms (x := (s0, a)) C 31 q_581 rfl (by decide) (.ref (ad 19)) rfl hP d_Mo_keepAside_8 ?_
        refine lv_iload_n hx hb d_Mo_keepAside_11 rfl (lv_at hl 0 rfl) ?_
        refine lv_aload_n hx hb d_Mo_keepAside_12 rfl (lv_at hl 1 rfl) ?_
        refine get_ms (x := (s0, a)) C 19 q_569 rfl (by decide) (.ref (ad 13)) rfl hP d_Mo_keepAside_13 ?_
        refine lv_iload_n hx hb d_Mo_keepAside_16 rfl (lv_at hl 0 rfl) ?_
        refine get_ma (x := (s0, a)) C 13 3 rfl (vp_in_nI hb3 (by omega)) (a 13 b) ((congrArg (a 13) (nI_clamp (by omega))).trans rfl) hP d_Mo_keepAside_17 ?_
        refine put_ma C 19 20 rfl (vp_in_nI (show b < 20 by omega) (by omega)) b (nI_clamp (by omega)) wM_a19 hP hD hS d_Mo_keepAside_18 (fun H locs hP hD hS => ?_)
        refine lv_aload_n hx hb d_Mo_keepAside_19 rfl (lv_at hl 1 rfl) ?_
        refine get_ms (x := (s0, (u2 a 19 b (a 13 b)))) C 31 q_581 rfl (by decide) (.ref (ad 19)) rfl hP d_Mo_keepAside_20 ?_
        refine lv_iconst (v := 3) hx hb d_Mo_keepAside_23 (by decide) ?_
        refine lv_iload_n hx hb d_Mo_keepAside_24 rfl (lv_at hl 0 rfl) ?_
        refine lv_iadd hx hb d_Mo_keepAside_25 ?_
        refine lv_aload_n hx hb d_Mo_keepAside_26 rfl (lv_at hl 1 rfl) ?_
        refine get_ms (x := (s0, (u2 a 19 b (a 13 b)))) C 20 q_570 rfl (by decide) (.ref (ad 14)) rfl hP d_Mo_keepAside_27 ?_
        refine lv_iload_n hx hb d_Mo_keepAside_30 rfl (lv_at hl 0 rfl) ?_
        refine get_ma (x := (s0, (u2 a 19 b (a 13 b)))) C 14 3 rfl (vp_in_nI hb3 (by omega)) (a 14 b) ((congrArg ((u2 a 19 b (a 13 b)) 14) (nI_clamp (by omega))).trans (u2_k (σ := a) (k := 19) (b := b) (x := (a 13 b)) (i := 14) (j := b) (by decide))) hP d_Mo_keepAside_31 ?_
        refine put_ma C 19 20 rfl (inN (nI_add 3 b) (show 3 + b < 20 by omega) (by omega)) (3 + b) (clN (nI_add 3 b) (by omega)) wM_a19 hP hD hS d_Mo_keepAside_32 (fun H locs hP hD hS => ?_)
        refine lv_aload_n hx hb d_Mo_keepAside_33 rfl (lv_at hl 1 rfl) ?_
        refine get_ms (x := (s0, (u2 (u2 a 19 b (a 13 b)) 19 (3 + b) (a 14 b)))) C 31 q_581 rfl (by decide) (.ref (ad 19)) rfl hP d_Mo_keepAside_34 ?_
        refine lv_bipush (v := 6) hx hb d_Mo_keepAside_37 (by decide) ?_
        refine lv_iload_n hx hb d_Mo_keepAside_39 rfl (lv_at hl 0 rfl) ?_
        refine lv_iadd hx hb d_Mo_keepAside_40 ?_
        refine lv_aload_n hx hb d_Mo_keepAside_41 rfl (lv_at hl 1 rfl) ?_
        refine get_ms (x := (s0, (u2 (u2 a 19 b (a 13 b)) 19 (3 + b) (a 14 b)))) C 21 q_571 rfl (by decide) (.ref (ad 15)) rfl hP d_Mo_keepAside_42 ?_
        refine lv_iload_n hx hb d_Mo_keepAside_45 rfl (lv_at hl 0 rfl) ?_
        refine get_ma (x := (s0, (u2 (u2 a 19 b (a 13 b)) 19 (3 + b) (a 14 b)))) C 15 3 rfl (vp_in_nI hb3 (by omega)) (a 15 b) ((congrArg ((u2 (u2 a 19 b (a 13 b)) 19 (3 + b) (a 14 b)) 15) (nI_clamp (by omega))).trans ((u2_k (σ := (u2 a 19 b (a 13 b))) (k := 19) (b := (3 + b)) (x := (a 14 b)) (i := 15) (j := b) (by decide)).trans (u2_k (σ := a) (k := 19) (b := b) (x := (a 13 b)) (i := 15) (j := b) (by decide)))) hP d_Mo_keepAside_46 ?_
        refine put_ma C 19 20 rfl (inN (nI_add 6 b) (show 6 + b < 20 by omega) (by omega)) (6 + b) (clN (nI_add 6 b) (by omega)) wM_a19 hP hD hS d_Mo_keepAside_47 (fun H locs hP hD hS => ?_)
        refine lv_aload_n hx hb d_Mo_keepAside_48 rfl (lv_at hl 1 rfl) ?_
        refine get_ms (x := (s0, (u2 (u2 (u2 a 19 b (a 13 b)) 19 (3 + b) (a 14 b)) 19 (6 + b) (a 15 b)))) C 31 q_581 rfl (by decide) (.ref (ad 19)) rfl hP d_Mo_keepAside_49 ?_
        refine lv_bipush (v := 9) hx hb d_Mo_keepAside_52 (by decide) ?_
        refine lv_iload_n hx hb d_Mo_keepAside_54 rfl (lv_at hl 0 rfl) ?_
        refine lv_iadd hx hb d_Mo_keepAside_55 ?_
        refine lv_aload_n hx hb d_Mo_keepAside_56 rfl (lv_at hl 1 rfl) ?_
        refine get_ms (x := (s0, (u2 (u2 (u2 a 19 b (a 13 b)) 19 (3 + b) (a 14 b)) 19 (6 + b) (a 15 b)))) C 22 q_572 rfl (by decide) (.ref (ad 16)) rfl hP d_Mo_keepAside_57 ?_
        refine lv_iload_n hx hb d_Mo_keepAside_60 rfl (lv_at hl 0 rfl) ?_
        refine get_ma (x := (s0, (u2 (u2 (u2 a 19 b (a 13 b)) 19 (3 + b) (a 14 b)) 19 (6 + b) (a 15 b)))) C 16 3 rfl (vp_in_nI hb3 (by omega)) (a 16 b) ((congrArg ((u2 (u2 (u2 a 19 b (a 13 b)) 19 (3 + b) (a 14 b)) 19 (6 + b) (a 15 b)) 16) (nI_clamp (by omega))).trans ((u2_k (σ := (u2 (u2 a 19 b (a 13 b)) 19 (3 + b) (a 14 b))) (k := 19) (b := (6 + b)) (x := (a 15 b)) (i := 16) (j := b) (by decide)).trans ((u2_k (σ := (u2 a 19 b (a 13 b))) (k := 19) (b := (3 + b)) (x := (a 14 b)) (i := 16) (j := b) (by decide)).trans (u2_k (σ := a) (k := 19) (b := b) (x := (a 13 b)) (i := 16) (j := b) (by decide))))) hP d_Mo_keepAside_61 ?_
        refine put_ma C 19 20 rfl (inN (nI_add 9 b) (show 9 + b < 20 by omega) (by omega)) (9 + b) (clN (nI_add 9 b) (by omega)) wM_a19 hP hD hS d_Mo_keepAside_62 (fun H locs hP hD hS => ?_)
        refine lv_aload_n hx hb d_Mo_keepAside_63 rfl (lv_at hl 1 rfl) ?_
        refine get_ms (x := (s0, (u2 (u2 (u2 (u2 a 19 b (a 13 b)) 19 (3 + b) (a 14 b)) 19 (6 + b) (a 15 b)) 19 (9 + b) (a 16 b)))) C 31 q_581 rfl (by decide) (.ref (ad 19)) rfl hP d_Mo_keepAside_64 ?_
        refine lv_bipush (v := 12) hx hb d_Mo_keepAside_67 (by decide) ?_
        refine lv_iload_n hx hb d_Mo_keepAside_69 rfl (lv_at hl 0 rfl) ?_
        refine lv_iadd hx hb d_Mo_keepAside_70 ?_
        refine lv_aload_n hx hb d_Mo_keepAside_71 rfl (lv_at hl 1 rfl) ?_
        refine get_ms (x := (s0, (u2 (u2 (u2 (u2 a 19 b (a 13 b)) 19 (3 + b) (a 14 b)) 19 (6 + b) (a 15 b)) 19 (9 + b) (a 16 b)))) C 23 q_573 rfl (by decide) (.ref (ad 17)) rfl hP d_Mo_keepAside_72 ?_
        refine lv_iload_n hx hb d_Mo_keepAside_75 rfl (lv_at hl 0 rfl) ?_
        refine get_ma (x := (s0, (u2 (u2 (u2 (u2 a 19 b (a 13 b)) 19 (3 + b) (a 14 b)) 19 (6 + b) (a 15 b)) 19 (9 + b) (a 16 b)))) C 17 3 rfl (vp_in_nI hb3 (by omega)) (a 17 b) ((congrArg ((u2 (u2 (u2 (u2 a 19 b (a 13 b)) 19 (3 + b) (a 14 b)) 19 (6 + b) (a 15 b)) 19 (9 + b) (a 16 b)) 17) (nI_clamp (by omega))).trans ((u2_k (σ := (u2 (u2 (u2 a 19 b (a 13 b)) 19 (3 + b) (a 14 b)) 19 (6 + b) (a 15 b))) (k := 19) (b := (9 + b)) (x := (a 16 b)) (i := 17) (j := b) (by decide)).trans ((u2_k (σ := (u2 (u2 a 19 b (a 13 b)) 19 (3 + b) (a 14 b))) (k := 19) (b := (6 + b)) (x := (a 15 b)) (i := 17) (j := b) (by decide)).trans ((u2_k (σ := (u2 a 19 b (a 13 b))) (k := 19) (b := (3 + b)) (x := (a 14 b)) (i := 17) (j := b) (by decide)).trans (u2_k (σ := a) (k := 19) (b := b) (x := (a 13 b)) (i := 17) (j := b) (by decide)))))) hP d_Mo_keepAside_76 ?_
        refine put_ma C 19 20 rfl (inN (nI_add 12 b) (show 12 + b < 20 by omega) (by omega)) (12 + b) (clN (nI_add 12 b) (by omega)) wM_a19 hP hD hS d_Mo_keepAside_77 (fun H locs hP hD hS => ?_)
        refine lv_iinc (v := (nI (b + 1))) (lv' := [(1, .int (nI (b + 1))), (0, .ref (ad 0))]) hx hb d_Mo_keepAside_78 hl (k := 0) rfl (nI_1 b) (by decide) rfl (fun ls hl => ?_)
        refine lv_goto (tgt := 2) hx hb d_Mo_keepAside_81 (by decide) ?_
        exact ih (b + 1) (kpA b a) _ _ _ (by omega) (by omega) (it_back hb3 h8 rfl) hP hD hS (lv_sub hl [0, 1] rfl)
  exact lb 4 0 a0 _ _ _ (by omega) (by omega) ha8 hP hD hS (lv_sub hl [0, 1] rfl)
set_option maxHeartbeats 4000000 in
set_option maxRecDepth 100000 in
theorem c_Mo_putBack (l : Launch) (g : Glob) (ad : Nat → Nat) (x : MS) (hz : ∀ j, j < 4096 → x.2 20 j = 0 ∨ x.2 20 j = 1) : CV l g y_Mo_putBack b_Mo_putBack 2 0 0 [.ref (ad 0)] (wM g ad x) (wM g ad (putM x)) := by
  refine CV.of (by decide +kernel) (Nat.le_of_ble_eq_true rfl) ?_
  intro p e s m below meth c A Q ls C hP hD hl hret hS
  obtain ⟨hx, hb, hml, hown, hw, hE, hA⟩ := id C
  have hl : lv_has ls 2 [(0, .ref (ad 0))] := hl
  unfold putM at hret
  refine lv_iconst (v := 0) hx hb d_Mo_putBack_0 (by decide) ?_
  refine lv_istore_n (lv' := [(1, .int 0), (0, .ref (ad 0))]) hx hb d_Mo_putBack_1 rfl hl (by decide) rfl (fun ls hl => ?_)
  obtain ⟨s0, a0⟩ := x
  dsimp only at hret hz
  generalize ha8 : itF pbA 3 0 a0 = a8 at hret
  have lb : ∀ (t : Nat) (b : Nat) (a : St2) (H : Heap) (locs : List Loc) (ls : Array Slot), b ≤ 3 → 3 < b + t → itF pbA 3 b a = a8 → va_P g.1 classes (wM g ad (s0, a)) H → va_D A (wM g ad (s0, a)) → va_S A s.heap H locs → lv_has ls 2 [(1, .int (nI b)), (0, .ref (ad 0))] → W p l e { frames := 0, cells := 0, slots := 0, locals := 0 } s m ([.ref (ad 0)] : List Value).toArray below meth c H locs 0 0 Q (F0 m 2 ls []) := by
    intro t
    induction t with
    | zero =>
      intro b a H locs ls hb3n ht h8 hP hD hS hl
      exact absurd trivial (by omega)
    | succ t ih =>
      intro b a H locs ls hb3n ht h8 hP hD hS hl
      refine lv_iload_n hx hb d_Mo_putBack_2 rfl (lv_at hl 0 rfl) ?_
      refine lv_iconst (v := 3) hx hb d_Mo_putBack_3 (by decide) ?_
      refine lv_icmp_ge (tgt := 84) hx hb d_Mo_putBack_4 (by decide) (fun c4_1 => ?_) (fun c4_1 => ?_)
      · have hge := ge_of_le' (a := 3) (n := 3) 3 rfl (Nat.le_refl _) (by decide) (by omega) c4_1
        have h8 := (itF_end hge).symm.trans h8
        subst h8
        refine lv_aload_n hx hb d_Mo_putBack_84 rfl (lv_at hl 1 rfl) ?_
        refine lv_aload_n hx hb d_Mo_putBack_85 rfl (lv_at hl 1 rfl) ?_
        refine get_ms (x := (s0, a)) C 31 q_581 rfl (by decide) (.ref (ad 19)) rfl hP d_Mo_putBack_86 ?_
        refine lv_bipush (v := 15) hx hb d_Mo_putBack_89 (by decide) ?_
        refine get_ma (x := (s0, a)) C 19 20 rfl (by unfold vp_in; decide) (a 19 15) ((congrArg (a 19) (show (15 : Int32).toNatClampNeg = 15 from by decide)).trans rfl) hP d_Mo_putBack_91 ?_
        refine put_ms C 24 (ty := .int) q_574 rfl (by decide) rfl (by decide +kernel) rfl rfl wM_s24 hP hD hS d_Mo_putBack_92 (fun H locs hP hD hS => ?_)
        refine lv_aload_n hx hb d_Mo_putBack_95 rfl (lv_at hl 1 rfl) ?_
        refine lv_aload_n hx hb d_Mo_putBack_96 rfl (lv_at hl 1 rfl) ?_
        refine get_ms (x := ((upd s0 24 (a 19 15)), a)) C 31 q_581 rfl (by decide) (.ref (ad 19)) rfl hP d_Mo_putBack_97 ?_
        refine lv_bipush (v := 16) hx hb d_Mo_putBack_100 (by decide) ?_
        refine get_ma (x := ((upd s0 24 (a 19 15)), a)) C 19 20 rfl (by unfold vp_in; decide) (a 19 16) ((congrArg (a 19) (show (16 : Int32).toNatClampNeg = 16 from by decide)).trans rfl) hP d_Mo_putBack_102 ?_
        refine put_ms C 26 (ty := .int) q_576 rfl (by decide) rfl (by decide +kernel) rfl rfl wM_s26 hP hD hS d_Mo_putBack_103 (fun H locs hP hD hS => ?_)
        refine lv_aload_n hx hb d_Mo_putBack_106 rfl (lv_at hl 1 rfl) ?_
        refine lv_aload_n hx hb d_Mo_putBack_107 rfl (lv_at hl 1 rfl) ?_
        refine get_ms (x := ((upd (upd s0 24 (a 19 15)) 26 (a 19 16)), a)) C 31 q_581 rfl (by decide) (.ref (ad 19)) rfl hP d_Mo_putBack_108 ?_
        refine lv_bipush (v := 17) hx hb d_Mo_putBack_111 (by decide) ?_
        refine get_ma (x := ((upd (upd s0 24 (a 19 15)) 26 (a 19 16)), a)) C 19 20 rfl (by unfold vp_in; decide) (a 19 17) ((congrArg (a 19) (show (17 : Int32).toNatClampNeg = 17 from by decide)).trans rfl) hP d_Mo_putBack_113 ?_
        refine put_ms C 27 (ty := .int) q_577 rfl (by decide) rfl (by decide +kernel) rfl rfl wM_s27 hP hD hS d_Mo_putBack_114 (fun H locs hP hD hS => ?_)
        refine lv_aload_n hx hb d_Mo_putBack_117 rfl (lv_at hl 1 rfl) ?_
        refine lv_aload_n hx hb d_Mo_putBack_118 rfl (lv_at hl 1 rfl) ?_
        refine get_ms (x := ((upd (upd (upd s0 24 (a 19 15)) 26 (a 19 16)) 27 (a 19 17)), a)) C 31 q_581 rfl (by decide) (.ref (ad 19)) rfl hP d_Mo_putBack_119 ?_
        refine lv_bipush (v := 18) hx hb d_Mo_putBack_122 (by decide) ?_
        refine get_ma (x := ((upd (upd (upd s0 24 (a 19 15)) 26 (a 19 16)) 27 (a 19 17)), a)) C 19 20 rfl (by unfold vp_in; decide) (a 19 18) ((congrArg (a 19) (show (18 : Int32).toNatClampNeg = 18 from by decide)).trans rfl) hP d_Mo_putBack_124 ?_
        refine put_ms C 28 (ty := .int) q_578 rfl (by decide) rfl (by decide +kernel) rfl rfl wM_s28 hP hD hS d_Mo_putBack_125 (fun H locs hP hD hS => ?_)
        refine lv_aload_n hx hb d_Mo_putBack_128 rfl (lv_at hl 1 rfl) ?_
        have J145 : ∀ (sk : Int32), sk = (if a 19 19 = 1 then 1 else 0) → W p l e { frames := 0, cells := 0, slots := 0, locals := 0 } s m ([.ref (ad 0)] : List Value).toArray below meth c H locs 0 0 Q (F0 m 145 ls [.int sk, .ref (ad 0)]) := by
          intro sk esk
          refine put_ms C 25 (ty := .boolean) q_575 rfl (by decide) rfl (by decide +kernel) (nar01 (by rw [esk]; split <;> simp)) (fit01 (by rw [esk]; split <;> simp)) wM_s25 hP hD hS d_Mo_putBack_145 (fun H locs hP hD hS => ?_)
          refine lv_aload_n hx hb d_Mo_putBack_148 rfl (lv_at hl 1 rfl) ?_
          refine lv_iconst (v := 0) hx hb d_Mo_putBack_149 (by decide) ?_
          refine put_ms C 29 (ty := .int) q_579 rfl (by decide) rfl (by decide +kernel) rfl rfl wM_s29 hP hD hS d_Mo_putBack_150 (fun H locs hP hD hS => ?_)
          refine lv_iconst (v := 0) hx hb d_Mo_putBack_153 (by decide) ?_
          refine lv_istore_n (lv' := [(1, .int 0), (0, .ref (ad 0))]) hx hb d_Mo_putBack_154 rfl hl (by decide) rfl (fun ls hl => ?_)
          have hP : va_P g.1 classes (wM g ad (upd (pbS s0 a) 29 0, a)) H := by rw [esk] at hP; exact hP
          have hD : va_D A (wM g ad (upd (pbS s0 a) 29 0, a)) := by rw [esk] at hD; exact hD
          have hz8 : ∀ j, j < 4096 → a 20 j = 0 ∨ a 20 j = 1 := by rw [← ha8, pbI_k (by decide)]; exact hz
          generalize pbS s0 a = s1 at hP hD hret
          have lz : ∀ (t2 : Nat) (q : Nat) (H : Heap) (locs : List Loc) (ls : Array Slot), q ≤ 4096 → 4096 < q + t2 → va_P g.1 classes (wM g ad (upd s1 29 (cntZ (a 20) q), u1 a 18 (cpyZ (a 20) (a 18) q))) H → va_D A (wM g ad (upd s1 29 (cntZ (a 20) q), u1 a 18 (cpyZ (a 20) (a 18) q))) → va_S A s.heap H locs → lv_has ls 2 [(1, .int (nI q)), (0, .ref (ad 0))] → W p l e { frames := 0, cells := 0, slots := 0, locals := 0 } s m ([.ref (ad 0)] : List Value).toArray below meth c H locs 0 0 Q (F0 m 155 ls []) := by
            intro t2
            induction t2 with
            | zero =>
              intro q H locs ls hq ht2 hP hD hS hl
              exact absurd trivial (by omega)
            | succ t2 ih =>
              intro q H locs ls hq ht2 hP hD hS hl
              refine lv_iload_n hx hb d_Mo_putBack_155 rfl (lv_at hl 0 rfl) ?_
              refine lv_sipush (v := 4096) hx hb d_Mo_putBack_156 (by decide) ?_
              refine lv_icmp_ge (tgt := 206) hx hb d_Mo_putBack_159 (by decide) (fun c159_2 => ?_) (fun c159_2 => ?_)
              · have hge := ge_of_le' (a := 4096) (n := 4096) 4096 rfl (Nat.le_refl _) (by decide) (by omega) c159_2
                have hq9 : q = 4096 := by omega
                subst hq9
                exact hret _ _ _ _ _ rfl hP hD hS d_Mo_putBack_206
              · have hlq := lt_of_nle' (a := 4096) (n := 4096) 4096 rfl (Nat.le_refl _) (by decide) (by omega) c159_2
                refine lv_aload_n hx hb d_Mo_putBack_162 rfl (lv_at hl 1 rfl) ?_
                refine get_ms (x := ((upd s1 29 (cntZ (a 20) q)), (u1 a 18 (cpyZ (a 20) (a 18) q)))) C 30 q_580 rfl (by decide) (.ref (ad 18)) rfl hP d_Mo_putBack_163 ?_
                refine lv_iload_n hx hb d_Mo_putBack_166 rfl (lv_at hl 0 rfl) ?_
                refine lv_aload_n hx hb d_Mo_putBack_167 rfl (lv_at hl 1 rfl) ?_
                refine get_ms (x := ((upd s1 29 (cntZ (a 20) q)), (u1 a 18 (cpyZ (a 20) (a 18) q)))) C 32 q_582 rfl (by decide) (.ref (ad 20)) rfl hP d_Mo_putBack_168 ?_
                refine lv_iload_n hx hb d_Mo_putBack_171 rfl (lv_at hl 0 rfl) ?_
                refine get_mz (x := ((upd s1 29 (cntZ (a 20) q)), (u1 a 18 (cpyZ (a 20) (a 18) q)))) C 20 4096 rfl (vp_in_nI hlq (by omega)) (a 20 q) ((congrArg ((u1 a 18 (cpyZ (a 20) (a 18) q)) 20) (nI_clamp (by omega))).trans (congrFun (u1_k (a := a) (k := 18) (f := (cpyZ (a 20) (a 18) q)) (n := 20) (by decide)) q)) hP d_Mo_putBack_172 ?_
                refine put_mz C 18 4096 rfl (vp_in_nI hlq (by omega)) q (nI_clamp (by omega)) (vpn01 (hz8 q hlq)) wM_a18 hP hD hS d_Mo_putBack_173 (fun H locs hP hD hS => ?_)
                refine lv_aload_n hx hb d_Mo_putBack_174 rfl (lv_at hl 1 rfl) ?_
                rw [u2_u1, cpyZ_s] at hP hD
                have hqv : cpyZ (a 20) (a 18) (q + 1) q = a 20 q := if_pos (Nat.lt_succ_self q)
                have J197 : ∀ (cn : Int32), cn = cntZ (a 20) (q + 1) → W p l e { frames := 0, cells := 0, slots := 0, locals := 0 } s m ([.ref (ad 0)] : List Value).toArray below meth c H locs 0 0 Q (F0 m 197 ls [.int cn, .ref (ad 0)]) := by
                  intro cn ecn
                  refine put_ms C 29 (ty := .int) q_579 rfl (by decide) rfl (by decide +kernel) rfl rfl wM_s29 hP hD hS d_Mo_putBack_197 (fun H locs hP hD hS => ?_)
                  refine lv_iinc (v := (nI (q + 1))) (lv' := [(1, .int (nI (q + 1))), (0, .ref (ad 0))]) hx hb d_Mo_putBack_200 hl (k := 0) rfl (nI_1 q) (by decide) rfl (fun ls hl => ?_)
                  refine lv_goto (tgt := 155) hx hb d_Mo_putBack_203 (by decide) ?_
                  rw [upd_upd, ecn] at hP hD
                  exact ih (q + 1) _ _ _ (by omega) (by omega) hP hD hS (lv_sub hl [0, 1] rfl)
                refine lv_aload_n hx hb d_Mo_putBack_175 rfl (lv_at hl 1 rfl) ?_
                refine get_ms (x := ((upd s1 29 (cntZ (a 20) q)), (u1 a 18 (cpyZ (a 20) (a 18) (q + 1))))) C 30 q_580 rfl (by decide) (.ref (ad 18)) rfl hP d_Mo_putBack_176 ?_
                refine lv_iload_n hx hb d_Mo_putBack_179 rfl (lv_at hl 0 rfl) ?_
                refine get_mz (x := ((upd s1 29 (cntZ (a 20) q)), (u1 a 18 (cpyZ (a 20) (a 18) (q + 1))))) C 18 4096 rfl (vp_in_nI hlq (by omega)) ((cpyZ (a 20) (a 18) (q + 1)) q) ((congrArg ((u1 a 18 (cpyZ (a 20) (a 18) (q + 1))) 18) (nI_clamp (by omega))).trans (congrFun (u1_s (a := a) (k := 18) (f := (cpyZ (a 20) (a 18) (q + 1)))) q)) hP d_Mo_putBack_180 ?_
                refine lv_if_eq (tgt := 193) hx hb d_Mo_putBack_181 (by decide) (fun c181_3 => ?_) (fun c181_3 => ?_)
                · refine lv_aload_n hx hb d_Mo_putBack_193 rfl (lv_at hl 1 rfl) ?_
                  refine get_mi (x := ((upd s1 29 (cntZ (a 20) q)), (u1 a 18 (cpyZ (a 20) (a 18) (q + 1))))) C 29 q_579 rfl (by decide) rfl (cntZ (a 20) q) (pk_us (f := s1) (k := 29) (x := (cntZ (a 20) q))) hP d_Mo_putBack_194 ?_
                  exact J197 _ ((if_pos (show a 20 q = 0 from hqv ▸ c181_3)).symm)
                · refine lv_aload_n hx hb d_Mo_putBack_184 rfl (lv_at hl 1 rfl) ?_
                  refine get_mi (x := ((upd s1 29 (cntZ (a 20) q)), (u1 a 18 (cpyZ (a 20) (a 18) (q + 1))))) C 29 q_579 rfl (by decide) rfl (cntZ (a 20) q) (pk_us (f := s1) (k := 29) (x := (cntZ (a 20) q))) hP d_Mo_putBack_185 ?_
                  refine lv_iconst (v := 1) hx hb d_Mo_putBack_188 (by decide) ?_
                  refine lv_iadd hx hb d_Mo_putBack_189 ?_
                  refine lv_goto (tgt := 197) hx hb d_Mo_putBack_190 (by decide) ?_
                  exact J197 _ ((if_neg (show ¬ a 20 q = 0 from hqv ▸ c181_3)).symm)
          have hP : va_P g.1 classes (wM g ad (upd s1 29 (cntZ (a 20) 0), u1 a 18 (cpyZ (a 20) (a 18) 0))) H := by rw [cpyZ_0, u1_id]; exact hP
          have hD : va_D A (wM g ad (upd s1 29 (cntZ (a 20) 0), u1 a 18 (cpyZ (a 20) (a 18) 0))) := by rw [cpyZ_0, u1_id]; exact hD
          exact lz 4097 0 _ _ _ (by omega) (by omega) hP hD hS (lv_sub hl [0, 1] rfl)
        refine lv_aload_n hx hb d_Mo_putBack_129 rfl (lv_at hl 1 rfl) ?_
        refine get_ms (x := ((upd (upd (upd (upd s0 24 (a 19 15)) 26 (a 19 16)) 27 (a 19 17)) 28 (a 19 18)), a)) C 31 q_581 rfl (by decide) (.ref (ad 19)) rfl hP d_Mo_putBack_130 ?_
        refine lv_bipush (v := 19) hx hb d_Mo_putBack_133 (by decide) ?_
        refine get_ma (x := ((upd (upd (upd (upd s0 24 (a 19 15)) 26 (a 19 16)) 27 (a 19 17)) 28 (a 19 18)), a)) C 19 20 rfl (by unfold vp_in; decide) (a 19 19) ((congrArg (a 19) (show (19 : Int32).toNatClampNeg = 19 from by decide)).trans rfl) hP d_Mo_putBack_135 ?_
        refine lv_iconst (v := 1) hx hb d_Mo_putBack_136 (by decide) ?_
        refine lv_icmp_ne (tgt := 144) hx hb d_Mo_putBack_137 (by decide) (fun c137_4 => ?_) (fun c137_4 => ?_)
        · refine lv_iconst (v := 0) hx hb d_Mo_putBack_144 (by decide) ?_
          exact J145 _ ((if_neg c137_4).symm)
        · refine lv_iconst (v := 1) hx hb d_Mo_putBack_140 (by decide) ?_
          refine lv_goto (tgt := 145) hx hb d_Mo_putBack_141 (by decide) ?_
          exact J145 _ ((if_pos c137_4).symm)
      · have hb3 := lt_of_nle' (a := 3) (n := 3) 3 rfl (Nat.le_refl _) (by decide) (by omega) c4_1
        refine lv_aload_n hx hb d_Mo_putBack_7 rfl (lv_at hl 1 rfl) ?_
        refine get_ms (x := (s0, a)) C 19 q_569 rfl (by decide) (.ref (ad 13)) rfl hP d_Mo_putBack_8 ?_
        refine lv_iload_n hx hb d_Mo_putBack_11 rfl (lv_at hl 0 rfl) ?_
        refine lv_aload_n hx hb d_Mo_putBack_12 rfl (lv_at hl 1 rfl) ?_
        refine get_ms (x := (s0, a)) C 31 q_581 rfl (by decide) (.ref (ad 19)) rfl hP d_Mo_putBack_13 ?_
        refine lv_iload_n hx hb d_Mo_putBack_16 rfl (lv_at hl 0 rfl) ?_
        refine get_ma (x := (s0, a)) C 19 20 rfl (vp_in_nI (show b < 20 by omega) (by omega)) (a 19 b) ((congrArg (a 19) (nI_clamp (by omega))).trans rfl) hP d_Mo_putBack_17 ?_
        refine put_ma C 13 3 rfl (vp_in_nI hb3 (by omega)) b (nI_clamp (by omega)) wM_a13 hP hD hS d_Mo_putBack_18 (fun H locs hP hD hS => ?_)
        refine lv_aload_n hx hb d_Mo_putBack_19 rfl (lv_at hl 1 rfl) ?_
        refine get_ms (x := (s0, (u2 a 13 b (a 19 b)))) C 20 q_570 rfl (by decide) (.ref (ad 14)) rfl hP d_Mo_putBack_20 ?_
        refine lv_iload_n hx hb d_Mo_putBack_23 rfl (lv_at hl 0 rfl) ?_
        refine lv_aload_n hx hb d_Mo_putBack_24 rfl (lv_at hl 1 rfl) ?_
        refine get_ms (x := (s0, (u2 a 13 b (a 19 b)))) C 31 q_581 rfl (by decide) (.ref (ad 19)) rfl hP d_Mo_putBack_25 ?_
        refine lv_iconst (v := 3) hx hb d_Mo_putBack_28 (by decide) ?_
        refine lv_iload_n hx hb d_Mo_putBack_29 rfl (lv_at hl 0 rfl) ?_
        refine lv_iadd hx hb d_Mo_putBack_30 ?_
        refine get_ma (x := (s0, (u2 a 13 b (a 19 b)))) C 19 20 rfl (inN (nI_add 3 b) (show 3 + b < 20 by omega) (by omega)) (a 19 (3 + b)) ((congrArg ((u2 a 13 b (a 19 b)) 19) (clN (nI_add 3 b) (by omega))).trans (u2_k (σ := a) (k := 13) (b := b) (x := (a 19 b)) (i := 19) (j := (3 + b)) (by decide))) hP d_Mo_putBack_31 ?_
        refine put_ma C 14 3 rfl (vp_in_nI hb3 (by omega)) b (nI_clamp (by omega)) wM_a14 hP hD hS d_Mo_putBack_32 (fun H locs hP hD hS => ?_)
        refine lv_aload_n hx hb d_Mo_putBack_33 rfl (lv_at hl 1 rfl) ?_
        refine get_ms (x := (s0, (u2 (u2 a 13 b (a 19 b)) 14 b (a 19 (3 + b))))) C 21 q_571 rfl (by decide) (.ref (ad 15)) rfl hP d_Mo_putBack_34 ?_
        refine lv_iload_n hx hb d_Mo_putBack_37 rfl (lv_at hl 0 rfl) ?_
        refine lv_aload_n hx hb d_Mo_putBack_38 rfl (lv_at hl 1 rfl) ?_
        refine get_ms (x := (s0, (u2 (u2 a 13 b (a 19 b)) 14 b (a 19 (3 + b))))) C 31 q_581 rfl (by decide) (.ref (ad 19)) rfl hP d_Mo_putBack_39 ?_
        refine lv_bipush (v := 6) hx hb d_Mo_putBack_42 (by decide) ?_
        refine lv_iload_n hx hb d_Mo_putBack_44 rfl (lv_at hl 0 rfl) ?_
        refine lv_iadd hx hb d_Mo_putBack_45 ?_
        refine get_ma (x := (s0, (u2 (u2 a 13 b (a 19 b)) 14 b (a 19 (3 + b))))) C 19 20 rfl (inN (nI_add 6 b) (show 6 + b < 20 by omega) (by omega)) (a 19 (6 + b)) ((congrArg ((u2 (u2 a 13 b (a 19 b)) 14 b (a 19 (3 + b))) 19) (clN (nI_add 6 b) (by omega))).trans ((u2_k (σ := (u2 a 13 b (a 19 b))) (k := 14) (b := b) (x := (a 19 (3 + b))) (i := 19) (j := (6 + b)) (by decide)).trans (u2_k (σ := a) (k := 13) (b := b) (x := (a 19 b)) (i := 19) (j := (6 + b)) (by decide)))) hP d_Mo_putBack_46 ?_
        refine put_ma C 15 3 rfl (vp_in_nI hb3 (by omega)) b (nI_clamp (by omega)) wM_a15 hP hD hS d_Mo_putBack_47 (fun H locs hP hD hS => ?_)
        refine lv_aload_n hx hb d_Mo_putBack_48 rfl (lv_at hl 1 rfl) ?_
        refine get_ms (x := (s0, (u2 (u2 (u2 a 13 b (a 19 b)) 14 b (a 19 (3 + b))) 15 b (a 19 (6 + b))))) C 22 q_572 rfl (by decide) (.ref (ad 16)) rfl hP d_Mo_putBack_49 ?_
        refine lv_iload_n hx hb d_Mo_putBack_52 rfl (lv_at hl 0 rfl) ?_
        refine lv_aload_n hx hb d_Mo_putBack_53 rfl (lv_at hl 1 rfl) ?_
        refine get_ms (x := (s0, (u2 (u2 (u2 a 13 b (a 19 b)) 14 b (a 19 (3 + b))) 15 b (a 19 (6 + b))))) C 31 q_581 rfl (by decide) (.ref (ad 19)) rfl hP d_Mo_putBack_54 ?_
        refine lv_bipush (v := 9) hx hb d_Mo_putBack_57 (by decide) ?_
        refine lv_iload_n hx hb d_Mo_putBack_59 rfl (lv_at hl 0 rfl) ?_
        refine lv_iadd hx hb d_Mo_putBack_60 ?_
        refine get_ma (x := (s0, (u2 (u2 (u2 a 13 b (a 19 b)) 14 b (a 19 (3 + b))) 15 b (a 19 (6 + b))))) C 19 20 rfl (inN (nI_add 9 b) (show 9 + b < 20 by omega) (by omega)) (a 19 (9 + b)) ((congrArg ((u2 (u2 (u2 a 13 b (a 19 b)) 14 b (a 19 (3 + b))) 15 b (a 19 (6 + b))) 19) (clN (nI_add 9 b) (by omega))).trans ((u2_k (σ := (u2 (u2 a 13 b (a 19 b)) 14 b (a 19 (3 + b)))) (k := 15) (b := b) (x := (a 19 (6 + b))) (i := 19) (j := (9 + b)) (by decide)).trans ((u2_k (σ := (u2 a 13 b (a 19 b))) (k := 14) (b := b) (x := (a 19 (3 + b))) (i := 19) (j := (9 + b)) (by decide)).trans (u2_k (σ := a) (k := 13) (b := b) (x := (a 19 b)) (i := 19) (j := (9 + b)) (by decide))))) hP d_Mo_putBack_61 ?_
        refine put_ma C 16 3 rfl (vp_in_nI hb3 (by omega)) b (nI_clamp (by omega)) wM_a16 hP hD hS d_Mo_putBack_62 (fun H locs hP hD hS => ?_)
        refine lv_aload_n hx hb d_Mo_putBack_63 rfl (lv_at hl 1 rfl) ?_
        refine get_ms (x := (s0, (u2 (u2 (u2 (u2 a 13 b (a 19 b)) 14 b (a 19 (3 + b))) 15 b (a 19 (6 + b))) 16 b (a 19 (9 + b))))) C 23 q_573 rfl (by decide) (.ref (ad 17)) rfl hP d_Mo_putBack_64 ?_
        refine lv_iload_n hx hb d_Mo_putBack_67 rfl (lv_at hl 0 rfl) ?_
        refine lv_aload_n hx hb d_Mo_putBack_68 rfl (lv_at hl 1 rfl) ?_
        refine get_ms (x := (s0, (u2 (u2 (u2 (u2 a 13 b (a 19 b)) 14 b (a 19 (3 + b))) 15 b (a 19 (6 + b))) 16 b (a 19 (9 + b))))) C 31 q_581 rfl (by decide) (.ref (ad 19)) rfl hP d_Mo_putBack_69 ?_
        refine lv_bipush (v := 12) hx hb d_Mo_putBack_72 (by decide) ?_
        refine lv_iload_n hx hb d_Mo_putBack_74 rfl (lv_at hl 0 rfl) ?_
        refine lv_iadd hx hb d_Mo_putBack_75 ?_
        refine get_ma (x := (s0, (u2 (u2 (u2 (u2 a 13 b (a 19 b)) 14 b (a 19 (3 + b))) 15 b (a 19 (6 + b))) 16 b (a 19 (9 + b))))) C 19 20 rfl (inN (nI_add 12 b) (show 12 + b < 20 by omega) (by omega)) (a 19 (12 + b)) ((congrArg ((u2 (u2 (u2 (u2 a 13 b (a 19 b)) 14 b (a 19 (3 + b))) 15 b (a 19 (6 + b))) 16 b (a 19 (9 + b))) 19) (clN (nI_add 12 b) (by omega))).trans ((u2_k (σ := (u2 (u2 (u2 a 13 b (a 19 b)) 14 b (a 19 (3 + b))) 15 b (a 19 (6 + b)))) (k := 16) (b := b) (x := (a 19 (9 + b))) (i := 19) (j := (12 + b)) (by decide)).trans ((u2_k (σ := (u2 (u2 a 13 b (a 19 b)) 14 b (a 19 (3 + b)))) (k := 15) (b := b) (x := (a 19 (6 + b))) (i := 19) (j := (12 + b)) (by decide)).trans ((u2_k (σ := (u2 a 13 b (a 19 b))) (k := 14) (b := b) (x := (a 19 (3 + b))) (i := 19) (j := (12 + b)) (by decide)).trans (u2_k (σ := a) (k := 13) (b := b) (x := (a 19 b)) (i := 19) (j := (12 + b)) (by decide)))))) hP d_Mo_putBack_76 ?_
        refine put_ma C 17 3 rfl (vp_in_nI hb3 (by omega)) b (nI_clamp (by omega)) wM_a17 hP hD hS d_Mo_putBack_77 (fun H locs hP hD hS => ?_)
        refine lv_iinc (v := (nI (b + 1))) (lv' := [(1, .int (nI (b + 1))), (0, .ref (ad 0))]) hx hb d_Mo_putBack_78 hl (k := 0) rfl (nI_1 b) (by decide) rfl (fun ls hl => ?_)
        refine lv_goto (tgt := 2) hx hb d_Mo_putBack_81 (by decide) ?_
        exact ih (b + 1) (pbA b a) _ _ _ (by omega) (by omega) (it_back hb3 h8 rfl) hP hD hS (lv_sub hl [0, 1] rfl)
  exact lb 4 0 a0 _ _ _ (by omega) (by omega) ha8 hP hD hS (lv_sub hl [0, 1] rfl)
