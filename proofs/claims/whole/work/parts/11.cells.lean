/-! a body's rectangle; rows of cells -/
def insI (sh : St2) (b : Nat) (x y : Int64) : Int32 := if x < (-(sh 3 b)).toInt64 * 16777216 then 0 else if (sh 2 b).toInt64 * 16777216 < x then 0 else if y < (-(sh 4 b)).toInt64 * 16777216 then 0 else if (sh 4 b).toInt64 * 16777216 < y then 0 else 1
theorem insI_01 (sh : St2) (b : Nat) (x y : Int64) : insI sh b x y = 0 ∨ insI sh b x y = 1 := by
  unfold insI
  repeat' split
  all_goals simp
theorem nar01 {v : Int32} (h : v = 0 ∨ v = 1) : narrow .boolean (.int v) = .int v := by
  rcases h with rfl | rfl <;> rfl
def dirsIn (len rest : Int32) : Int32 := if 1 ≤ len then rest / len else 0
theorem len_ne {x : Int32} (h : 1 ≤ x) : ¬ x = 0 := fun q => by rw [q] at h; exact absurd h (by decide)
def bitI (i : Int32) : Int64 := 1 <<< ((i &&& 63).toInt64 &&& 63)
def hasI (rows : Nat → Int64) (i j : Int32) : Int32 := if rows (j &&& 63).toNatClampNeg &&& bitI i = 0 then 0 else 1
theorem hasI_01 (rows : Nat → Int64) (i j : Int32) : hasI rows i j = 0 ∨ hasI rows i j = 1 := by
  unfold hasI
  split <;> simp
abbrev CC : Type := Int32 × (Nat → Int64)
def markF (i j : Int32) (x : CC) : CC := if x.2 (j &&& 63).toNatClampNeg &&& bitI i = 0 then (x.1 + 1, vp_updL x.2 (j &&& 63).toNatClampNeg (x.2 (j &&& 63).toNatClampNeg ||| bitI i)) else x
def wC (g : Glob) (a0 a1 : Nat) (x : CC) : va_W := [(a0, .inr (1, [.ref a1, .int x.1])), qLongs a1 (g.2.1 1) 64 x.2]
theorem P_longs {D : va_G} {cl : List vw_C} {a n : Nat} {c : ClassId} {f f' : Nat → Int64} {H : Heap} (h : va_P D cl [qLongs a c n f] H) (hf : ∀ j, j < n → f j = f' j) : va_P D cl [qLongs a c n f'] H := by
  intro k q hq
  have h0 := h 0 _ rfl
  match k, hq with
  | 0, hq =>
    cases hq
    show H[a]? = some (arrV c n (fun j => .long (f' j)))
    have h1 : H[a]? = some (arrV c n (fun j => .long (f j))) := h0
    rw [h1]
    unfold arrV
    congr 2
    congr 1
    funext j
    show Value.long (f j.val) = Value.long (f' j.val)
    rw [hf j.val j.isLt]
  | k + 1, hq => simp at hq
theorem D_same {A : Nat → Prop} {a : Nat} {e e' : va_E} (h : va_D A [(a, e)]) : va_D A [(a, e')] := h.set (p := 0) rfl
theorem fill_step {f : Nat → Int64} {i : Nat} {v : Int64} (hi : i < 64) (hf : ∀ q, q < i → f q = v) : ∀ q, q < i + 1 → vp_updL f (nI i).toNatClampNeg v q = v := by
  intro q hq
  rw [nI_clamp (by omega)]
  by_cases e : q = i
  · rw [e, pk_uLs]
  · rw [pk_uLn e]
    exact hf q (by omega)
theorem lmax {x y : Int64} : ¬ y ≤ x ↔ x < y := by rw [Int64.not_le]

set_option maxHeartbeats 4000000 in
set_option maxRecDepth 100000 in
theorem c_Sh_holds (l : Launch) (g : Glob) (a : Nat) (sh : St2) (b : Nat) (x y : Int64) : CI l g y_Sh_holds b_Sh_holds 5 (some .boolean) 0 0 [.ref a, .long x, .long y] ([(a, .inr (6, [.int (sh 0 b), .int (sh 1 b), .int (sh 2 b), .int (sh 3 b), .int (sh 4 b)]))]) (insI sh b x y) ([qShape a sh b]) := by
  refine CI.of .boolean rfl (nar01 (insI_01 _ _ _ _)) (by decide +kernel) (Nat.le_of_ble_eq_true rfl) ?_
  intro p e s m below meth c A Q ls C hP hD hl hret hS
  obtain ⟨hx, hb, hml, hown, hw, hE, hA⟩ := id C
  have hl : lv_has ls 5 [(0, .ref a), (1, .long x), (3, .long y)] := hl
  refine lv_lload_n hx hb d_Sh_holds_0 rfl (lv_at hl 1 rfl) ?_
  refine lv_aload_n hx hb d_Sh_holds_1 rfl (lv_at hl 0 rfl) ?_
  refine va_get (D := g.1) (ci := 6) (v := .int (sh 3 b)) (C := R_Sh) (T := F_Sh) (N := 5) hx hb hw i_Sh hown hE.1 hP 0 rfl rfl 3 (by decide) (hw _ q_46) (fun _ h9 => h9) rfl d_Sh_holds_2 ?_
  refine lv_ineg hx hb d_Sh_holds_5 ?_
  refine lv_i2l hx hb d_Sh_holds_6 rfl ?_
  refine lv_ldc2 (v := 16777216) hx hb hown (hw _ q_389) d_Sh_holds_7 ?_
  refine lv_lmul hx hb d_Sh_holds_10 ?_
  refine W.lcmp hx hb d_Sh_holds_11 ?_
  refine lv_if_lt (tgt := 62) hx hb d_Sh_holds_12 (by decide) (fun c12_1 => ?_) (fun c12_1 => ?_)
  · rw [lg_cmp_lt] at c12_1
    refine lv_iconst (v := 0) hx hb d_Sh_holds_62 (by decide) ?_
    exact hret _ _ _ _ _ _ (by simp [insI, *]) (rfl) hP hD hS d_Sh_holds_63
  · rw [lg_cmp_lt] at c12_1
    refine lv_lload_n hx hb d_Sh_holds_15 rfl (lv_at hl 1 rfl) ?_
    refine lv_aload_n hx hb d_Sh_holds_16 rfl (lv_at hl 0 rfl) ?_
    refine va_get (D := g.1) (ci := 6) (v := .int (sh 2 b)) (C := R_Sh) (T := F_Sh) (N := 5) hx hb hw i_Sh hown hE.1 hP 0 rfl rfl 2 (by decide) (hw _ q_43) (fun _ h9 => h9) rfl d_Sh_holds_17 ?_
    refine lv_i2l hx hb d_Sh_holds_20 rfl ?_
    refine lv_ldc2 (v := 16777216) hx hb hown (hw _ q_389) d_Sh_holds_21 ?_
    refine lv_lmul hx hb d_Sh_holds_24 ?_
    refine W.lcmp hx hb d_Sh_holds_25 ?_
    refine lv_if_gt (tgt := 62) hx hb d_Sh_holds_26 (by decide) (fun c26_2 => ?_) (fun c26_2 => ?_)
    · rw [lg_cmp_gt] at c26_2
      refine lv_iconst (v := 0) hx hb d_Sh_holds_62 (by decide) ?_
      exact hret _ _ _ _ _ _ (by simp [insI, *]) (rfl) hP hD hS d_Sh_holds_63
    · rw [lg_cmp_gt] at c26_2
      refine lv_lload_n hx hb d_Sh_holds_29 rfl (lv_at hl 2 rfl) ?_
      refine lv_aload_n hx hb d_Sh_holds_30 rfl (lv_at hl 0 rfl) ?_
      refine va_get (D := g.1) (ci := 6) (v := .int (sh 4 b)) (C := R_Sh) (T := F_Sh) (N := 5) hx hb hw i_Sh hown hE.1 hP 0 rfl rfl 4 (by decide) (hw _ q_49) (fun _ h9 => h9) rfl d_Sh_holds_31 ?_
      refine lv_ineg hx hb d_Sh_holds_34 ?_
      refine lv_i2l hx hb d_Sh_holds_35 rfl ?_
      refine lv_ldc2 (v := 16777216) hx hb hown (hw _ q_389) d_Sh_holds_36 ?_
      refine lv_lmul hx hb d_Sh_holds_39 ?_
      refine W.lcmp hx hb d_Sh_holds_40 ?_
      refine lv_if_lt (tgt := 62) hx hb d_Sh_holds_41 (by decide) (fun c41_3 => ?_) (fun c41_3 => ?_)
      · rw [lg_cmp_lt] at c41_3
        refine lv_iconst (v := 0) hx hb d_Sh_holds_62 (by decide) ?_
        exact hret _ _ _ _ _ _ (by simp [insI, *]) (rfl) hP hD hS d_Sh_holds_63
      · rw [lg_cmp_lt] at c41_3
        refine lv_lload_n hx hb d_Sh_holds_44 rfl (lv_at hl 2 rfl) ?_
        refine lv_aload_n hx hb d_Sh_holds_45 rfl (lv_at hl 0 rfl) ?_
        refine va_get (D := g.1) (ci := 6) (v := .int (sh 4 b)) (C := R_Sh) (T := F_Sh) (N := 5) hx hb hw i_Sh hown hE.1 hP 0 rfl rfl 4 (by decide) (hw _ q_49) (fun _ h9 => h9) rfl d_Sh_holds_46 ?_
        refine lv_i2l hx hb d_Sh_holds_49 rfl ?_
        refine lv_ldc2 (v := 16777216) hx hb hown (hw _ q_389) d_Sh_holds_50 ?_
        refine lv_lmul hx hb d_Sh_holds_53 ?_
        refine W.lcmp hx hb d_Sh_holds_54 ?_
        refine lv_if_gt (tgt := 62) hx hb d_Sh_holds_55 (by decide) (fun c55_4 => ?_) (fun c55_4 => ?_)
        · rw [lg_cmp_gt] at c55_4
          refine lv_iconst (v := 0) hx hb d_Sh_holds_62 (by decide) ?_
          exact hret _ _ _ _ _ _ (by simp [insI, *]) (rfl) hP hD hS d_Sh_holds_63
        · rw [lg_cmp_gt] at c55_4
          refine lv_iconst (v := 1) hx hb d_Sh_holds_58 (by decide) ?_
          refine lv_goto (tgt := 63) hx hb d_Sh_holds_59 (by decide) ?_
          exact hret _ _ _ _ _ _ (by simp [insI, *]) (rfl) hP hD hS d_Sh_holds_63
set_option maxHeartbeats 4000000 in
set_option maxRecDepth 100000 in
theorem c_Sh_directionsIn (l : Launch) (g : Glob) (a : Nat) (sh : St2) (b : Nat) (x : Int32) : CI l g y_Sh_directionsIn b_Sh_directionsIn 2 (some .int) 0 0 [.ref a, .int x] ([(a, .inr (6, [.int (sh 0 b), .int (sh 1 b), .int (sh 2 b), .int (sh 3 b), .int (sh 4 b)]))]) (dirsIn (sh 0 b) x) ([qShape a sh b]) := by
  refine CI.of .int rfl rfl (by decide +kernel) (Nat.le_of_ble_eq_true rfl) ?_
  intro p e s m below meth c A Q ls C hP hD hl hret hS
  obtain ⟨hx, hb, hml, hown, hw, hE, hA⟩ := id C
  have hl : lv_has ls 2 [(0, .ref a), (1, .int x)] := hl
  refine lv_aload_n hx hb d_Sh_directionsIn_0 rfl (lv_at hl 0 rfl) ?_
  refine va_get (D := g.1) (ci := 6) (v := .int (sh 0 b)) (C := R_Sh) (T := F_Sh) (N := 5) hx hb hw i_Sh hown hE.1 hP 0 rfl rfl 0 (by decide) (hw _ q_38) (fun _ h9 => h9) rfl d_Sh_directionsIn_1 ?_
  refine lv_iconst (v := 1) hx hb d_Sh_directionsIn_4 (by decide) ?_
  refine lv_icmp_ge (tgt := 12) hx hb d_Sh_directionsIn_5 (by decide) (fun c5_1 => ?_) (fun c5_1 => ?_)
  · refine lv_iload_n hx hb d_Sh_directionsIn_12 rfl (lv_at hl 1 rfl) ?_
    refine lv_aload_n hx hb d_Sh_directionsIn_13 rfl (lv_at hl 0 rfl) ?_
    refine va_get (D := g.1) (ci := 6) (v := .int (sh 0 b)) (C := R_Sh) (T := F_Sh) (N := 5) hx hb hw i_Sh hown hE.1 hP 0 rfl rfl 0 (by decide) (hw _ q_38) (fun _ h9 => h9) rfl d_Sh_directionsIn_14 ?_
    refine lv_idiv hx hb d_Sh_directionsIn_17 (len_ne c5_1) ?_
    exact hret _ _ _ _ _ _ (by simp [dirsIn, *]) (rfl) hP hD hS d_Sh_directionsIn_18
  · refine lv_iconst (v := 0) hx hb d_Sh_directionsIn_8 (by decide) ?_
    refine lv_goto (tgt := 18) hx hb d_Sh_directionsIn_9 (by decide) ?_
    exact hret _ _ _ _ _ _ (by simp [dirsIn, *]) (rfl) hP hD hS d_Sh_directionsIn_18
set_option maxHeartbeats 4000000 in
set_option maxRecDepth 100000 in
theorem c_Ce_has (l : Launch) (g : Glob) (a0 a1 : Nat) (x : CC) (i j : Int32) : CI l g y_Ce_has b_Ce_has 5 (some .boolean) 0 0 [.ref a0, .int i, .int j] (wC g a0 a1 x) (hasI x.2 i j) (wC g a0 a1 x) := by
  refine CI.of .boolean rfl (nar01 (hasI_01 _ _ _)) (by decide +kernel) (Nat.le_of_ble_eq_true rfl) ?_
  intro p e s m below meth c A Q ls C hP hD hl hret hS
  obtain ⟨hx, hb, hml, hown, hw, hE, hA⟩ := id C
  have hl : lv_has ls 5 [(0, .ref a0), (1, .int i), (2, .int j)] := hl
  refine lv_lconst (v := 1) hx hb d_Ce_has_0 (by decide) ?_
  refine lv_iload_n hx hb d_Ce_has_1 rfl (lv_at hl 1 rfl) ?_
  refine lv_bipush (v := 63) hx hb d_Ce_has_2 (by decide) ?_
  refine lv_iand hx hb d_Ce_has_4 ?_
  refine lv_lshl hx hb d_Ce_has_5 rfl ?_
  refine lv_lstore_n (lv' := [(3, .long (1 <<< ((i &&& 63).toInt64 &&& 63))), (0, .ref a0), (1, .int i), (2, .int j)]) hx hb d_Ce_has_6 rfl hl (by decide) rfl (fun ls hl => ?_)
  refine lv_aload_n hx hb d_Ce_has_7 rfl (lv_at hl 1 rfl) ?_
  refine va_get (D := g.1) (ci := 1) (v := .ref a1) (C := R_Ce) (T := F_Ce) (N := 2) hx hb hw i_Ce hown hE.1 hP 0 rfl rfl 0 (by decide) (hw _ q_147) (fun _ h9 => h9) rfl d_Ce_has_8 ?_
  refine lv_iload_n hx hb d_Ce_has_11 rfl (lv_at hl 3 rfl) ?_
  refine lv_bipush (v := 63) hx hb d_Ce_has_12 (by decide) ?_
  refine lv_iand hx hb d_Ce_has_14 ?_
  refine va_lald hx hb hE.1 hP 1 1 rfl rfl (in63 _) d_Ce_has_15 ?_
  refine lv_lload_n hx hb d_Ce_has_16 rfl (lv_at hl 0 rfl) ?_
  refine lv_land hx hb d_Ce_has_17 ?_
  refine lv_lconst (v := 0) hx hb d_Ce_has_18 (by decide) ?_
  refine W.lcmp hx hb d_Ce_has_19 ?_
  refine lv_if_eq (tgt := 27) hx hb d_Ce_has_20 (by decide) (fun c20_1 => ?_) (fun c20_1 => ?_)
  · rw [lg_cmp_eq] at c20_1
    refine lv_iconst (v := 0) hx hb d_Ce_has_27 (by decide) ?_
    exact hret _ _ _ _ _ _ ((if_pos c20_1).symm) rfl hP hD hS d_Ce_has_28
  · rw [lg_cmp_eq] at c20_1
    refine lv_iconst (v := 1) hx hb d_Ce_has_23 (by decide) ?_
    refine lv_goto (tgt := 28) hx hb d_Ce_has_24 (by decide) ?_
    exact hret _ _ _ _ _ _ ((if_neg c20_1).symm) rfl hP hD hS d_Ce_has_28
set_option maxHeartbeats 4000000 in
set_option maxRecDepth 100000 in
theorem c_Ce_mark (l : Launch) (g : Glob) (a0 a1 : Nat) (x : CC) (i j : Int32) : CV l g y_Ce_mark b_Ce_mark 6 0 0 [.ref a0, .int i, .int j] (wC g a0 a1 x) (wC g a0 a1 (markF i j x)) := by
  refine CV.of (by decide +kernel) (Nat.le_of_ble_eq_true rfl) ?_
  intro p e s m below meth c A Q ls C hP hD hl hret hS
  obtain ⟨hx, hb, hml, hown, hw, hE, hA⟩ := id C
  have hl : lv_has ls 6 [(0, .ref a0), (1, .int i), (2, .int j)] := hl
  refine lv_iload_n hx hb d_Ce_mark_0 rfl (lv_at hl 2 rfl) ?_
  refine lv_bipush (v := 63) hx hb d_Ce_mark_1 (by decide) ?_
  refine lv_iand hx hb d_Ce_mark_3 ?_
  refine lv_istore_n (lv' := [(3, .int (j &&& 63)), (0, .ref a0), (1, .int i), (2, .int j)]) hx hb d_Ce_mark_4 rfl hl (by decide) rfl (fun ls hl => ?_)
  refine lv_lconst (v := 1) hx hb d_Ce_mark_5 (by decide) ?_
  refine lv_iload_n hx hb d_Ce_mark_6 rfl (lv_at hl 2 rfl) ?_
  refine lv_bipush (v := 63) hx hb d_Ce_mark_7 (by decide) ?_
  refine lv_iand hx hb d_Ce_mark_9 ?_
  refine lv_lshl hx hb d_Ce_mark_10 rfl ?_
  refine lv_lstore (lv' := [(4, .long (1 <<< ((i &&& 63).toInt64 &&& 63))), (3, .int (j &&& 63)), (0, .ref a0), (1, .int i), (2, .int j)]) hx hb d_Ce_mark_11 hl (by decide) rfl (fun ls hl => ?_)
  refine lv_aload_n hx hb d_Ce_mark_13 rfl (lv_at hl 2 rfl) ?_
  refine va_get (D := g.1) (ci := 1) (v := .ref a1) (C := R_Ce) (T := F_Ce) (N := 2) hx hb hw i_Ce hown hE.1 hP 0 rfl rfl 0 (by decide) (hw _ q_147) (fun _ h9 => h9) rfl d_Ce_mark_14 ?_
  refine lv_iload_n hx hb d_Ce_mark_17 rfl (lv_at hl 1 rfl) ?_
  refine va_lald hx hb hE.1 hP 1 1 rfl rfl (in63 _) d_Ce_mark_18 ?_
  refine lv_lload hx hb d_Ce_mark_19 (lv_at hl 0 rfl) ?_
  refine lv_land hx hb d_Ce_mark_21 ?_
  refine lv_lconst (v := 0) hx hb d_Ce_mark_22 (by decide) ?_
  refine W.lcmp hx hb d_Ce_mark_23 ?_
  refine lv_if_ne (tgt := 48) hx hb d_Ce_mark_24 (by decide) (fun c24_1 => ?_) (fun c24_1 => ?_)
  · rw [lg_cmp_eq] at c24_1
    exact hret _ _ _ _ _ (congrArg (wC g a0 a1) (if_neg c24_1).symm) hP hD hS d_Ce_mark_48
  · rw [lg_cmp_eq] at c24_1
    refine lv_aload_n hx hb d_Ce_mark_27 rfl (lv_at hl 2 rfl) ?_
    refine va_get (D := g.1) (ci := 1) (v := .ref a1) (C := R_Ce) (T := F_Ce) (N := 2) hx hb hw i_Ce hown hE.1 hP 0 rfl rfl 0 (by decide) (hw _ q_147) (fun _ h9 => h9) rfl d_Ce_mark_28 ?_
    refine lv_iload_n hx hb d_Ce_mark_31 rfl (lv_at hl 1 rfl) ?_
    refine lv_dup2_11 hx hb d_Ce_mark_32 rfl rfl ?_
    refine va_lald hx hb hE.1 hP 1 1 rfl rfl (in63 _) d_Ce_mark_33 ?_
    refine lv_lload hx hb d_Ce_mark_34 (lv_at hl 0 rfl) ?_
    refine lv_lor hx hb d_Ce_mark_36 ?_
    refine va_last hx hb hE.1 hP hD hS 1 1 rfl rfl (in63 _) d_Ce_mark_37 (fun H locs hP hD hS => ?_)
    have hP : va_P g.1 classes ([(a0, .inr (1, [.ref a1, .int x.1])), (a1, .inl (g.2.1 1, 64, .inr (.inl (vp_updL x.2 ((j &&& 63).toNatClampNeg) ((x.2 ((j &&& 63).toNatClampNeg)) ||| (1 <<< ((i &&& 63).toInt64 &&& 63)))))))]) H := hP
    have hD : va_D A ([(a0, .inr (1, [.ref a1, .int x.1])), (a1, .inl (g.2.1 1, 64, .inr (.inl (vp_updL x.2 ((j &&& 63).toNatClampNeg) ((x.2 ((j &&& 63).toNatClampNeg)) ||| (1 <<< ((i &&& 63).toInt64 &&& 63)))))))]) := hD
    refine lv_aload_n hx hb d_Ce_mark_38 rfl (lv_at hl 2 rfl) ?_
    refine lv_dup hx hb d_Ce_mark_39 rfl ?_
    refine va_get (D := g.1) (ci := 1) (v := .int x.1) (C := R_Ce) (T := F_Ce) (N := 2) hx hb hw i_Ce hown hE.1 hP 0 rfl rfl 1 (by decide) (hw _ q_148) (fun _ h9 => h9) rfl d_Ce_mark_40 ?_
    refine lv_iconst (v := 1) hx hb d_Ce_mark_43 (by decide) ?_
    refine lv_iadd hx hb d_Ce_mark_44 ?_
    refine va_put (D := g.1) (ci := 1) (v := .int (x.1 + 1)) (ty := .int) (C := R_Ce) (T := F_Ce) (N := 2) hx hb hw i_Ce t_Ce t_Ce_ok n_Ce hown hE.1 hP hD hS 0 rfl rfl 1 (by decide) (hw _ q_148) (fun _ h9 => h9) rfl (by decide +kernel) rfl rfl (Nat.le_of_ble_eq_true rfl) d_Ce_mark_45 (fun H locs hP hD hS => ?_)
    have hP : va_P g.1 classes ([(a0, .inr (1, [.ref a1, .int (x.1 + 1)])), (a1, .inl (g.2.1 1, 64, .inr (.inl (vp_updL x.2 ((j &&& 63).toNatClampNeg) ((x.2 ((j &&& 63).toNatClampNeg)) ||| (1 <<< ((i &&& 63).toInt64 &&& 63)))))))]) H := hP
    have hD : va_D A ([(a0, .inr (1, [.ref a1, .int (x.1 + 1)])), (a1, .inl (g.2.1 1, 64, .inr (.inl (vp_updL x.2 ((j &&& 63).toNatClampNeg) ((x.2 ((j &&& 63).toNatClampNeg)) ||| (1 <<< ((i &&& 63).toInt64 &&& 63)))))))]) := hD
    exact hret _ _ _ _ _ (congrArg (wC g a0 a1) (if_pos c24_1).symm) hP hD hS d_Ce_mark_48
set_option maxHeartbeats 4000000 in
set_option maxRecDepth 100000 in
theorem c_Ar_fill (l : Launch) (g : Glob) (a : Nat) (v : Int64) (f : Nat → Int64) : CV l g y_Ar_fill b_Ar_fill 5 0 0 [.ref a, .long v] ([(a, .inl (g.2.1 1, 64, .inr (.inl f)))]) ([qLongs a (g.2.1 1) 64 (fun _ => v)]) := by
  refine CV.of (by decide +kernel) (Nat.le_of_ble_eq_true rfl) ?_
  intro p e s m below meth c A Q ls C hP hD hl hret hS
  obtain ⟨hx, hb, hml, hown, hw, hE, hA⟩ := id C
  have hl : lv_has ls 5 [(0, .ref a), (1, .long v)] := hl
  refine lv_iconst (v := 0) hx hb d_Ar_fill_0 (by decide) ?_
  refine lv_istore_n (lv' := [(3, .int 0), (0, .ref a), (1, .long v)]) hx hb d_Ar_fill_1 rfl hl (by decide) rfl (fun ls hl => ?_)
  refine lv_aload_n hx hb d_Ar_fill_2 rfl (lv_at hl 1 rfl) ?_
  refine va_alen (v := 64) hx hb hE.1 hP 0 1 rfl rfl rfl d_Ar_fill_3 ?_
  refine lv_istore (lv' := [(4, .int 64), (3, .int 0), (0, .ref a), (1, .long v)]) hx hb d_Ar_fill_4 hl (by decide) rfl (fun ls hl => ?_)
  have lp : ∀ (j : Nat) (i : Nat) (f : Nat → Int64) (H : Heap) (locs : List Loc) (ls : Array Slot), i ≤ 64 → 64 < i + j → (∀ q, q < i → f q = v) → va_P g.1 classes ([(a, .inl (g.2.1 1, 64, .inr (.inl f)))]) H → va_D A ([(a, .inl (g.2.1 1, 64, .inr (.inl f)))]) → va_S A s.heap H locs → lv_has ls 5 [(3, .int (nI i)), (0, .ref a), (1, .long v), (4, .int 64)] → W p l e { frames := 0, cells := 0, slots := 0, locals := 0 } s m ([.ref a, .long v] : List Value).toArray below meth c H locs 0 0 Q (F0 m 6 ls []) := by
    intro j
    induction j with
    | zero =>
      intro i f H locs ls hi hj hf hP hD hS hl
      exact absurd trivial (by omega)
    | succ j ih =>
      intro i f H locs ls hi hj hf hP hD hS hl
      refine lv_iload_n hx hb d_Ar_fill_6 rfl (lv_at hl 0 rfl) ?_
      refine lv_iload hx hb d_Ar_fill_7 (lv_at hl 3 rfl) ?_
      refine lv_icmp_ge (tgt := 22) hx hb d_Ar_fill_9 (by decide) (fun c9_1 => ?_) (fun c9_1 => ?_)
      · have hge : 64 ≤ i := (nI_leI (a := 64) (by decide) (by omega)).mp c9_1
        exact hret _ _ _ _ _ rfl (P_longs hP (fun q hq => hf q (by omega))) (D_same hD) hS d_Ar_fill_22
      · have hlt : i < 64 := by
          rcases Nat.lt_or_ge i 64 with q | q
          · exact q
          · exact absurd (nI_le (a := 64) q (by omega)) c9_1
        refine lv_aload_n hx hb d_Ar_fill_12 rfl (lv_at hl 1 rfl) ?_
        refine lv_iload_n hx hb d_Ar_fill_13 rfl (lv_at hl 0 rfl) ?_
        refine lv_lload_n hx hb d_Ar_fill_14 rfl (lv_at hl 2 rfl) ?_
        refine va_last hx hb hE.1 hP hD hS 0 1 rfl rfl (vp_in_nI hlt (by omega)) d_Ar_fill_15 (fun H locs hP hD hS => ?_)
        have hP : va_P g.1 classes ([(a, .inl (g.2.1 1, 64, .inr (.inl (vp_updL f ((nI i).toNatClampNeg) v))))]) H := hP
        have hD : va_D A ([(a, .inl (g.2.1 1, 64, .inr (.inl (vp_updL f ((nI i).toNatClampNeg) v))))]) := hD
        refine lv_iinc (v := (nI (i + 1))) (lv' := [(3, .int (nI (i + 1))), (0, .ref a), (1, .long v), (4, .int 64)]) hx hb d_Ar_fill_16 hl (k := 0) rfl (nI_1 i) (by decide) rfl (fun ls hl => ?_)
        refine lv_goto (tgt := 6) hx hb d_Ar_fill_19 (by decide) ?_
        exact ih (i + 1) _ _ _ _ (by omega) (by omega) (fill_step hlt hf) hP hD hS hl
  exact lp 65 0 f _ _ _ (by omega) (by omega) (fun q h => absurd h (Nat.not_lt_zero q)) hP hD hS (lv_sub hl [1, 2, 3, 0] rfl)
