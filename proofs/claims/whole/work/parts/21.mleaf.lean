def inI (a b c : Int32) : Int32 := if a < b then 0 else if c < a then 0 else 1
theorem inI_01 (a b c : Int32) : inI a b c = 0 ∨ inI a b c = 1 := by
  unfold inI
  repeat' split
  all_goals simp
def downI (a b : Int32) : Int32 := if a / b * b ≤ a then a / b else a / b - 1
def withI (v : Int32) : Int32 := if -32 ≤ v then (if v ≤ 31 then v else 31) else -32
def cellI (p : Int32) : Int32 := downI (downI p 4096) 8
def cosL : List Int32 := [4096, 4076, 4017, 3920, 3784, 3612, 3406, 3166, 2896, 2598, 2276, 1931, 1567, 1189, 799, 401, 0]
def cosT (j : Nat) : Int32 := cosL.getD j 0
theorem dxc : ∀ j, j < 64 → dxT j = (if j ≤ 16 then cosT j else if j ≤ 32 then -(cosT (32 - j)) else if j ≤ 48 then -(cosT (j - 32)) else cosT (64 - j)) := by decide
theorem dX_j {h : Int32} {j : Nat} (e : h &&& 63 = nI j) (hj : j < 64) : dX h = dxT j := by
  unfold dX
  rw [e, nI_clamp (by omega)]
theorem dX_1 {h : Int32} {j : Nat} {f : Nat → Int32} (e : h &&& 63 = nI j) (hj : j < 64) (hc : ∀ i, i < 17 → f i = cosT i) (h1 : j ≤ 16) : f j = dX h := by
  rw [dX_j e hj, dxc j hj, if_pos h1, hc j (by omega)]
theorem dX_2 {h : Int32} {j : Nat} {f : Nat → Int32} (e : h &&& 63 = nI j) (hj : j < 64) (hc : ∀ i, i < 17 → f i = cosT i) (h1 : 16 < j) (h2 : j ≤ 32) : -(f (32 - j)) = dX h := by
  rw [dX_j e hj, dxc j hj, if_neg (by omega), if_pos h2, hc _ (by omega)]
theorem dX_3 {h : Int32} {j : Nat} {f : Nat → Int32} (e : h &&& 63 = nI j) (hj : j < 64) (hc : ∀ i, i < 17 → f i = cosT i) (h2 : 32 < j) (h3 : j ≤ 48) : -(f (j - 32)) = dX h := by
  rw [dX_j e hj, dxc j hj, if_neg (by omega), if_neg (by omega), if_pos h3, hc _ (by omega)]
theorem dX_4 {h : Int32} {j : Nat} {f : Nat → Int32} (e : h &&& 63 = nI j) (hj : j < 64) (hc : ∀ i, i < 17 → f i = cosT i) (h3 : 48 < j) : f (64 - j) = dX h := by
  rw [dX_j e hj, dxc j hj, if_neg (by omega), if_neg (by omega), if_neg (by omega), hc _ (by omega)]
theorem ltN {a j : Nat} (hj : j < 64) (ha : a < 64) (c : nI a < nI j) : a < j := (nI_ltI (by omega) (by omega)).mp c
theorem nltN {a j : Nat} (hj : j < 64) (ha : a < 64) (c : ¬ nI a < nI j) : j ≤ a := by
  rcases Nat.lt_or_ge a j with q | q
  · exact absurd ((nI_ltI (by omega) (by omega)).mpr q) c
  · exact q
theorem and48 (h : Int32) : (h + 48) &&& 63 = (h - 16) &&& 63 := by
  rw [pk_and (h + 48) 6 (by decide), pk_and (h - 16) 6 (by decide)]
  congr 1
  have e1 : (h + 48).toBitVec.toNat = (h.toBitVec.toNat + 48) % 2 ^ 32 := by
    rw [Int32.toBitVec_add, BitVec.toNat_add]
    rfl
  have e2 : (h - 16).toBitVec.toNat = (2 ^ 32 - 16 + h.toBitVec.toNat) % 2 ^ 32 := by
    rw [Int32.toBitVec_sub, BitVec.toNat_sub]
    rfl
  rw [e1, e2]
  omega
theorem dX48 (h : Int32) : dX (h + 48) = dY h := by
  unfold dX dY
  rw [and48]
theorem sub_nI {a j : Nat} (h : j ≤ a) : nI a - nI j = nI (a - j) := pk_sub h
theorem cl_sub {a j : Nat} (h : j ≤ a) (ha : a < 2 ^ 31) : (nI a - nI j).toNatClampNeg = a - j := by rw [sub_nI h, nI_clamp (by omega)]
theorem in_sub {a j N : Nat} (h : j ≤ a) (ha : a - j < N) (hN : N < 2 ^ 31) : vp_in (nI a - nI j) N := by rw [sub_nI h]; exact vp_in_nI ha hN
def poM (a : St2) : St2 := fun k b => a (13 + k) b
def shM (a : St2) : St2 := fun k b => a (2 + k) b
def hangA (b : Nat) (a : St2) : St2 := u2 (u2 a 13 b (a 13 (b - 1) - a 3 (b - 1) * dX (a 15 (b - 1)) - a 2 b * dX (a 15 b))) 14 b (a 14 (b - 1) - a 3 (b - 1) * dY (a 15 (b - 1)) - a 2 b * dY (a 15 b))
def covM (a : St2) (b : Nat) (px py : Int32) : Int32 := insI (shM a) b (((px - a 13 b).toInt64 * (dX (a 15 b)).toInt64) + ((py - a 14 b).toInt64 * (dY (a 15 b)).toInt64)) (((py - a 14 b).toInt64 * (dX (a 15 b)).toInt64) - ((px - a 13 b).toInt64 * (dY (a 15 b)).toInt64))
theorem askF_s {po : St2} {b : Nat} (h : ¬ nI b = 0) (hb : b < 3) : askI (po 2 (b - 1)) (po 2 b) = askF po b := by
  unfold askF
  rw [if_neg (fun q => h (by rw [q]; rfl))]
theorem askF_z {po : St2} {b : Nat} (h : nI b = 0) (hb : b < 3) : 0 = askF po b := by
  unfold askF
  rw [if_pos ((nI_eq (a := b) (b := 0) (by omega) (by omega)).mp h)]
theorem pos_b {b : Nat} (h : ¬ nI b = 0) : 1 ≤ b := by
  rcases Nat.eq_zero_or_pos b with q | q
  · exact absurd (by rw [q]; rfl) h
  · exact q

set_option maxHeartbeats 4000000 in
set_option maxRecDepth 100000 in
theorem c_Mo_in (l : Launch) (g : Glob) (a b c9 : Int32) : CI l g y_Mo_in b_Mo_in 3 (some .boolean) 0 0 [.int a, .int b, .int c9] [] (inI a b c9) [] := by
  refine CI.of .boolean rfl (nar01 (inI_01 _ _ _)) (by decide +kernel) (Nat.le_of_ble_eq_true rfl) ?_
  intro p e s m below meth c A Q ls C hP hD hl hret hS
  obtain ⟨hx, hb, hml, hown, hw, hE, hA⟩ := id C
  have hl : lv_has ls 3 [(0, .int a), (1, .int b), (2, .int c9)] := hl
  refine lv_iload_n hx hb d_Mo_in_0 rfl (lv_at hl 0 rfl) ?_
  refine lv_iload_n hx hb d_Mo_in_1 rfl (lv_at hl 1 rfl) ?_
  refine lv_icmp_lt (tgt := 14) hx hb d_Mo_in_2 (by decide) (fun c2_1 => ?_) (fun c2_1 => ?_)
  · refine lv_iconst (v := 0) hx hb d_Mo_in_14 (by decide) ?_
    exact hret _ _ _ _ _ _ ((if_pos c2_1).symm) rfl hP hD hS d_Mo_in_15
  · refine lv_iload_n hx hb d_Mo_in_5 rfl (lv_at hl 0 rfl) ?_
    refine lv_iload_n hx hb d_Mo_in_6 rfl (lv_at hl 2 rfl) ?_
    refine lv_icmp_gt (tgt := 14) hx hb d_Mo_in_7 (by decide) (fun c7_2 => ?_) (fun c7_2 => ?_)
    · refine lv_iconst (v := 0) hx hb d_Mo_in_14 (by decide) ?_
      exact hret _ _ _ _ _ _ (((if_neg c2_1).trans (if_pos c7_2)).symm) rfl hP hD hS d_Mo_in_15
    · refine lv_iconst (v := 1) hx hb d_Mo_in_10 (by decide) ?_
      refine lv_goto (tgt := 15) hx hb d_Mo_in_11 (by decide) ?_
      exact hret _ _ _ _ _ _ (((if_neg c2_1).trans (if_neg c7_2)).symm) rfl hP hD hS d_Mo_in_15
set_option maxHeartbeats 4000000 in
set_option maxRecDepth 100000 in
theorem c_Mo_wrapped (l : Launch) (g : Glob) (a : Int32) : CI l g y_Mo_wrapped b_Mo_wrapped 1 (some .int) 0 0 [.int a] [] (((a + 32) &&& 63) - 32) [] := by
  refine CI.of .int rfl rfl (by decide +kernel) (Nat.le_of_ble_eq_true rfl) ?_
  intro p e s m below meth c A Q ls C hP hD hl hret hS
  obtain ⟨hx, hb, hml, hown, hw, hE, hA⟩ := id C
  have hl : lv_has ls 1 [(0, .int a)] := hl
  refine lv_iload_n hx hb d_Mo_wrapped_0 rfl (lv_at hl 0 rfl) ?_
  refine lv_bipush (v := 32) hx hb d_Mo_wrapped_1 (by decide) ?_
  refine lv_iadd hx hb d_Mo_wrapped_3 ?_
  refine lv_bipush (v := 63) hx hb d_Mo_wrapped_4 (by decide) ?_
  refine lv_iand hx hb d_Mo_wrapped_6 ?_
  refine lv_bipush (v := 32) hx hb d_Mo_wrapped_7 (by decide) ?_
  refine lv_isub hx hb d_Mo_wrapped_9 ?_
  exact hret _ _ _ _ _ _ rfl rfl hP hD hS d_Mo_wrapped_10
set_option maxHeartbeats 4000000 in
set_option maxRecDepth 100000 in
theorem c_Mo_down (l : Launch) (g : Glob) (a b : Int32) (h0 : ¬ b = 0) : CI l g y_Mo_down b_Mo_down 3 (some .int) 0 0 [.int a, .int b] [] (downI a b) [] := by
  refine CI.of .int rfl rfl (by decide +kernel) (Nat.le_of_ble_eq_true rfl) ?_
  intro p e s m below meth c A Q ls C hP hD hl hret hS
  obtain ⟨hx, hb, hml, hown, hw, hE, hA⟩ := id C
  have hl : lv_has ls 3 [(0, .int a), (1, .int b)] := hl
  refine lv_iload_n hx hb d_Mo_down_0 rfl (lv_at hl 0 rfl) ?_
  refine lv_iload_n hx hb d_Mo_down_1 rfl (lv_at hl 1 rfl) ?_
  refine lv_idiv hx hb d_Mo_down_2 h0 ?_
  refine lv_istore_n (lv' := [(2, .int (a / b)), (0, .int a), (1, .int b)]) hx hb d_Mo_down_3 rfl hl (by decide) rfl (fun ls hl => ?_)
  refine lv_iload_n hx hb d_Mo_down_4 rfl (lv_at hl 0 rfl) ?_
  refine lv_iload_n hx hb d_Mo_down_5 rfl (lv_at hl 2 rfl) ?_
  refine lv_imul hx hb d_Mo_down_6 ?_
  refine lv_iload_n hx hb d_Mo_down_7 rfl (lv_at hl 1 rfl) ?_
  refine lv_icmp_le (tgt := 17) hx hb d_Mo_down_8 (by decide) (fun c8_1 => ?_) (fun c8_1 => ?_)
  · refine lv_iload_n hx hb d_Mo_down_17 rfl (lv_at hl 0 rfl) ?_
    exact hret _ _ _ _ _ _ ((if_pos c8_1).symm) rfl hP hD hS d_Mo_down_18
  · refine lv_iload_n hx hb d_Mo_down_11 rfl (lv_at hl 0 rfl) ?_
    refine lv_iconst (v := 1) hx hb d_Mo_down_12 (by decide) ?_
    refine lv_isub hx hb d_Mo_down_13 ?_
    refine lv_goto (tgt := 18) hx hb d_Mo_down_14 (by decide) ?_
    exact hret _ _ _ _ _ _ ((if_neg c8_1).symm) rfl hP hD hS d_Mo_down_18
set_option maxHeartbeats 4000000 in
set_option maxRecDepth 100000 in
theorem c_Mo_cellOf (l : Launch) (g : Glob) (a : Int32) : CI l g y_Mo_cellOf b_Mo_cellOf 2 (some .int) 1 22 [.int a] [] (cellI a) [] := by
  refine CI.of .int rfl rfl (by decide +kernel) (Nat.le_of_ble_eq_true rfl) ?_
  intro p e s m below meth c A Q ls C hP hD hl hret hS
  obtain ⟨hx, hb, hml, hown, hw, hE, hA⟩ := id C
  have hl : lv_has ls 2 [(0, .int a)] := hl
  refine lv_iload_n hx hb d_Mo_cellOf_0 rfl (lv_at hl 0 rfl) ?_
  refine lv_sipush (v := 4096) hx hb d_Mo_cellOf_1 (by decide) ?_
  refine csI C v_Mo_102 [.int a, .int 4096] [] (c_Mo_down l g a 4096 (by decide)) hP hS rfl rfl hl.1 (Nat.le_of_ble_eq_true rfl) ⟨Nat.le_of_ble_eq_true rfl, Nat.le_of_ble_eq_true rfl⟩ d_Mo_cellOf_4 ⟨Nat.zero_le _, Nat.zero_le _⟩ (fun H locs hP hS => ?_)
  refine lv_istore_n (lv' := [(1, .int (downI a 4096)), (0, .int a)]) hx hb d_Mo_cellOf_7 rfl hl (by decide) rfl (fun ls hl => ?_)
  refine lv_iload_n hx hb d_Mo_cellOf_8 rfl (lv_at hl 0 rfl) ?_
  refine lv_bipush (v := 8) hx hb d_Mo_cellOf_9 (by decide) ?_
  refine csI C v_Mo_102 [.int (downI a 4096), .int 8] [] (c_Mo_down l g (downI a 4096) 8 (by decide)) hP hS rfl rfl hl.1 (Nat.le_of_ble_eq_true rfl) ⟨Nat.le_of_ble_eq_true rfl, Nat.le_of_ble_eq_true rfl⟩ d_Mo_cellOf_11 ⟨Nat.zero_le _, Nat.zero_le _⟩ (fun H locs hP hS => ?_)
  exact hret _ _ _ _ _ _ rfl rfl hP hD hS d_Mo_cellOf_14
set_option maxHeartbeats 4000000 in
set_option maxRecDepth 100000 in
theorem c_Mo_within (l : Launch) (g : Glob) (a : Int32) : CI l g y_Mo_within b_Mo_within 1 (some .int) 0 0 [.int a] [] (withI a) [] := by
  refine CI.of .int rfl rfl (by decide +kernel) (Nat.le_of_ble_eq_true rfl) ?_
  intro p e s m below meth c A Q ls C hP hD hl hret hS
  obtain ⟨hx, hb, hml, hown, hw, hE, hA⟩ := id C
  have hl : lv_has ls 1 [(0, .int a)] := hl
  refine lv_iload_n hx hb d_Mo_within_0 rfl (lv_at hl 0 rfl) ?_
  refine lv_bipush (v := (-32)) hx hb d_Mo_within_1 (by decide) ?_
  refine lv_icmp_ge (tgt := 11) hx hb d_Mo_within_3 (by decide) (fun c3_1 => ?_) (fun c3_1 => ?_)
  · refine lv_iload_n hx hb d_Mo_within_11 rfl (lv_at hl 0 rfl) ?_
    refine lv_bipush (v := 31) hx hb d_Mo_within_12 (by decide) ?_
    refine lv_icmp_le (tgt := 22) hx hb d_Mo_within_14 (by decide) (fun c14_2 => ?_) (fun c14_2 => ?_)
    · refine lv_iload_n hx hb d_Mo_within_22 rfl (lv_at hl 0 rfl) ?_
      exact hret _ _ _ _ _ _ (((if_pos c3_1).trans (if_pos c14_2)).symm) rfl hP hD hS d_Mo_within_23
    · refine lv_bipush (v := 31) hx hb d_Mo_within_17 (by decide) ?_
      refine lv_goto (tgt := 23) hx hb d_Mo_within_19 (by decide) ?_
      exact hret _ _ _ _ _ _ (((if_pos c3_1).trans (if_neg c14_2)).symm) rfl hP hD hS d_Mo_within_23
  · refine lv_bipush (v := (-32)) hx hb d_Mo_within_6 (by decide) ?_
    refine lv_goto (tgt := 23) hx hb d_Mo_within_8 (by decide) ?_
    exact hret _ _ _ _ _ _ ((if_neg c3_1).symm) rfl hP hD hS d_Mo_within_23
set_option maxHeartbeats 4000000 in
set_option maxRecDepth 100000 in
theorem c_Mo_dx (l : Launch) (g : Glob) (ad : Nat → Nat) (x : MS) (hc : ∀ i, i < 17 → x.2 1 i = cosT i) (h : Int32) : CI l g y_Mo_dx b_Mo_dx 3 (some .int) 0 0 [.ref (ad 0), .int h] (wM g ad x) (dX h) (wM g ad x) := by
  refine CI.of .int rfl rfl (by decide +kernel) (Nat.le_of_ble_eq_true rfl) ?_
  intro p e s m below meth c A Q ls C hP hD hl hret hS
  obtain ⟨hx, hb, hml, hown, hw, hE, hA⟩ := id C
  have hl : lv_has ls 3 [(0, .ref (ad 0)), (1, .int h)] := hl
  refine lv_iload_n hx hb d_Mo_dx_0 rfl (lv_at hl 1 rfl) ?_
  refine lv_bipush (v := 63) hx hb d_Mo_dx_1 (by decide) ?_
  refine lv_iand hx hb d_Mo_dx_3 ?_
  refine lv_istore_n (lv' := [(2, .int (h &&& 63)), (0, .ref (ad 0)), (1, .int h)]) hx hb d_Mo_dx_4 rfl hl (by decide) rfl (fun ls hl => ?_)
  obtain ⟨j, hj, ej⟩ := pk_andE h (m := 63) 6 (by decide)
  have hj : j < 64 := hj
  have hl : lv_has ls 3 [(2, .int (nI j)), (0, .ref (ad 0)), (1, .int h)] := by rw [← ej]; exact hl
  refine lv_iload_n hx hb d_Mo_dx_5 rfl (lv_at hl 0 rfl) ?_
  refine lv_bipush (v := 16) hx hb d_Mo_dx_6 (by decide) ?_
  refine lv_icmp_gt (tgt := 18) hx hb d_Mo_dx_8 (by decide) (fun c8_1 => ?_) (fun c8_1 => ?_)
  · have n1 := ltN (a := 16) hj (by decide) c8_1
    refine lv_iload_n hx hb d_Mo_dx_18 rfl (lv_at hl 0 rfl) ?_
    refine lv_bipush (v := 32) hx hb d_Mo_dx_19 (by decide) ?_
    refine lv_icmp_gt (tgt := 35) hx hb d_Mo_dx_21 (by decide) (fun c21_2 => ?_) (fun c21_2 => ?_)
    · have n2 := ltN (a := 32) hj (by decide) c21_2
      refine lv_iload_n hx hb d_Mo_dx_35 rfl (lv_at hl 0 rfl) ?_
      refine lv_bipush (v := 48) hx hb d_Mo_dx_36 (by decide) ?_
      refine lv_icmp_gt (tgt := 54) hx hb d_Mo_dx_38 (by decide) (fun c38_3 => ?_) (fun c38_3 => ?_)
      · have n3 := ltN (a := 48) hj (by decide) c38_3
        refine lv_aload_n hx hb d_Mo_dx_54 rfl (lv_at hl 1 rfl) ?_
        refine get_ms (x := x) C 1 q_551 rfl (by decide) (.ref (ad 1)) rfl hP d_Mo_dx_55 ?_
        refine lv_bipush (v := 64) hx hb d_Mo_dx_58 (by decide) ?_
        refine lv_iload_n hx hb d_Mo_dx_60 rfl (lv_at hl 0 rfl) ?_
        refine lv_isub hx hb d_Mo_dx_61 ?_
        refine get_ma (x := x) C 1 17 rfl (in_sub (a := 64) (by omega) (by omega) (by omega)) (x.2 1 (64 - j)) ((congrArg (x.2 1) (cl_sub (a := 64) (by omega) (by omega))).trans rfl) hP d_Mo_dx_62 ?_
        exact hret _ _ _ _ _ _ (dX_4 ej hj hc n3) rfl hP hD hS d_Mo_dx_63
      · have n3 := nltN (a := 48) hj (by decide) c38_3
        refine lv_aload_n hx hb d_Mo_dx_41 rfl (lv_at hl 1 rfl) ?_
        refine get_ms (x := x) C 1 q_551 rfl (by decide) (.ref (ad 1)) rfl hP d_Mo_dx_42 ?_
        refine lv_iload_n hx hb d_Mo_dx_45 rfl (lv_at hl 0 rfl) ?_
        refine lv_bipush (v := 32) hx hb d_Mo_dx_46 (by decide) ?_
        refine lv_isub hx hb d_Mo_dx_48 ?_
        refine get_ma (x := x) C 1 17 rfl (in_sub (j := 32) (by omega) (by omega) (by omega)) (x.2 1 (j - 32)) ((congrArg (x.2 1) (cl_sub (j := 32) (by omega) (by omega))).trans rfl) hP d_Mo_dx_49 ?_
        refine lv_ineg hx hb d_Mo_dx_50 ?_
        refine lv_goto (tgt := 63) hx hb d_Mo_dx_51 (by decide) ?_
        exact hret _ _ _ _ _ _ (dX_3 ej hj hc n2 n3) rfl hP hD hS d_Mo_dx_63
    · have n2 := nltN (a := 32) hj (by decide) c21_2
      refine lv_aload_n hx hb d_Mo_dx_24 rfl (lv_at hl 1 rfl) ?_
      refine get_ms (x := x) C 1 q_551 rfl (by decide) (.ref (ad 1)) rfl hP d_Mo_dx_25 ?_
      refine lv_bipush (v := 32) hx hb d_Mo_dx_28 (by decide) ?_
      refine lv_iload_n hx hb d_Mo_dx_30 rfl (lv_at hl 0 rfl) ?_
      refine lv_isub hx hb d_Mo_dx_31 ?_
      refine get_ma (x := x) C 1 17 rfl (in_sub (a := 32) (by omega) (by omega) (by omega)) (x.2 1 (32 - j)) ((congrArg (x.2 1) (cl_sub (a := 32) (by omega) (by omega))).trans rfl) hP d_Mo_dx_32 ?_
      refine lv_ineg hx hb d_Mo_dx_33 ?_
      exact hret _ _ _ _ _ _ (dX_2 ej hj hc n1 n2) rfl hP hD hS d_Mo_dx_34
  · have n1 := nltN (a := 16) hj (by decide) c8_1
    refine lv_aload_n hx hb d_Mo_dx_11 rfl (lv_at hl 1 rfl) ?_
    refine get_ms (x := x) C 1 q_551 rfl (by decide) (.ref (ad 1)) rfl hP d_Mo_dx_12 ?_
    refine lv_iload_n hx hb d_Mo_dx_15 rfl (lv_at hl 0 rfl) ?_
    refine get_ma (x := x) C 1 17 rfl (vp_in_nI (by omega) (by omega)) (x.2 1 j) ((congrArg (x.2 1) (nI_clamp (by omega))).trans rfl) hP d_Mo_dx_16 ?_
    exact hret _ _ _ _ _ _ (dX_1 ej hj hc n1) rfl hP hD hS d_Mo_dx_17
set_option maxHeartbeats 4000000 in
set_option maxRecDepth 100000 in
theorem c_Mo_dy (l : Launch) (g : Glob) (ad : Nat → Nat) (x : MS) (hc : ∀ i, i < 17 → x.2 1 i = cosT i) (h : Int32) : CI l g y_Mo_dy b_Mo_dy 2 (some .int) 1 22 [.ref (ad 0), .int h] (wM g ad x) (dY h) (wM g ad x) := by
  refine CI.of .int rfl rfl (by decide +kernel) (Nat.le_of_ble_eq_true rfl) ?_
  intro p e s m below meth c A Q ls C hP hD hl hret hS
  obtain ⟨hx, hb, hml, hown, hw, hE, hA⟩ := id C
  have hl : lv_has ls 2 [(0, .ref (ad 0)), (1, .int h)] := hl
  refine lv_aload_n hx hb d_Mo_dy_0 rfl (lv_at hl 0 rfl) ?_
  refine lv_iload_n hx hb d_Mo_dy_1 rfl (lv_at hl 1 rfl) ?_
  refine lv_bipush (v := 48) hx hb d_Mo_dy_2 (by decide) ?_
  refine lv_iadd hx hb d_Mo_dy_4 ?_
  refine cvI C v_Mo_90 [.int (h + 48)] [] (c_Mo_dx l g ad x hc (h + 48)) hP hD hS [0, 1, 2, 3, 4, 5, 6, 7, 8, 9, 10, 11, 12, 13, 14, 15, 16, 17, 18, 19, 20] [] [0, 1, 2, 3, 4, 5, 6, 7, 8, 9, 10, 11, 12, 13, 14, 15, 16, 17, 18, 19, 20] [] (wM g ad x) rfl rfl (by decide) (by decide) (by decide) rfl (by decide) 0 rfl rfl rfl rfl hl.1 (Nat.le_of_ble_eq_true rfl) ⟨Nat.le_of_ble_eq_true rfl, Nat.le_of_ble_eq_true rfl⟩ d_Mo_dy_5 ⟨Nat.zero_le _, Nat.zero_le _⟩ (fun H locs hP hD hS => ?_)
  exact hret _ _ _ _ _ _ (dX48 h) (rfl) hP hD hS d_Mo_dy_8
set_option maxHeartbeats 4000000 in
set_option maxRecDepth 100000 in
theorem c_Mo_askewOf (l : Launch) (g : Glob) (ad : Nat → Nat) (x : MS) (b : Nat) (hb3 : b < 3) : CI l g y_Mo_askewOf b_Mo_askewOf 2 (some .int) 1 20 [.ref (ad 0), .int (nI b)] (wM g ad x) (askF (poM x.2) b) (wM g ad x) := by
  refine CI.of .int rfl rfl (by decide +kernel) (Nat.le_of_ble_eq_true rfl) ?_
  intro p e s m below meth c A Q ls C hP hD hl hret hS
  obtain ⟨hx, hb, hml, hown, hw, hE, hA⟩ := id C
  have hl : lv_has ls 2 [(0, .ref (ad 0)), (1, .int (nI b))] := hl
  refine lv_iload_n hx hb d_Mo_askewOf_0 rfl (lv_at hl 1 rfl) ?_
  refine lv_if_ne (tgt := 8) hx hb d_Mo_askewOf_1 (by decide) (fun c1_1 => ?_) (fun c1_1 => ?_)
  · have hb1 := pos_b c1_1
    refine lv_aload_n hx hb d_Mo_askewOf_8 rfl (lv_at hl 0 rfl) ?_
    refine get_ms (x := x) C 21 q_571 rfl (by decide) (.ref (ad 15)) rfl hP d_Mo_askewOf_9 ?_
    refine lv_iload_n hx hb d_Mo_askewOf_12 rfl (lv_at hl 1 rfl) ?_
    refine lv_iconst (v := 1) hx hb d_Mo_askewOf_13 (by decide) ?_
    refine lv_isub hx hb d_Mo_askewOf_14 ?_
    refine get_ma (x := x) C 15 3 rfl (in_sub (j := 1) hb1 (by omega) (by omega)) (x.2 15 (b - 1)) ((congrArg (x.2 15) (cl_sub (j := 1) hb1 (by omega))).trans rfl) hP d_Mo_askewOf_15 ?_
    refine lv_aload_n hx hb d_Mo_askewOf_16 rfl (lv_at hl 0 rfl) ?_
    refine get_ms (x := x) C 21 q_571 rfl (by decide) (.ref (ad 15)) rfl hP d_Mo_askewOf_17 ?_
    refine lv_iload_n hx hb d_Mo_askewOf_20 rfl (lv_at hl 1 rfl) ?_
    refine get_ma (x := x) C 15 3 rfl (vp_in_nI hb3 (by omega)) (x.2 15 b) ((congrArg (x.2 15) (nI_clamp (by omega))).trans rfl) hP d_Mo_askewOf_21 ?_
    refine lv_isub hx hb d_Mo_askewOf_22 ?_
    refine csI C v_Mo_94 [.int ((x.2 15 (b - 1)) - (x.2 15 b))] [] (c_Mo_wrapped l g ((x.2 15 (b - 1)) - (x.2 15 b))) hP hS rfl rfl hl.1 (Nat.le_of_ble_eq_true rfl) ⟨Nat.le_of_ble_eq_true rfl, Nat.le_of_ble_eq_true rfl⟩ d_Mo_askewOf_23 ⟨Nat.zero_le _, Nat.zero_le _⟩ (fun H locs hP hS => ?_)
    exact hret _ _ _ _ _ _ (askF_s (po := poM x.2) c1_1 hb3) rfl hP hD hS d_Mo_askewOf_26
  · refine lv_iconst (v := 0) hx hb d_Mo_askewOf_4 (by decide) ?_
    refine lv_goto (tgt := 26) hx hb d_Mo_askewOf_5 (by decide) ?_
    exact hret _ _ _ _ _ _ (askF_z (po := poM x.2) c1_1 hb3) rfl hP hD hS d_Mo_askewOf_26
set_option maxHeartbeats 4000000 in
set_option maxRecDepth 100000 in
theorem c_Mo_hang (l : Launch) (g : Glob) (ad : Nat → Nat) (x : MS) (hc : ∀ i, i < 17 → x.2 1 i = cosT i) (b : Nat) (hb3 : b < 3) (hb1 : 1 ≤ b) : CV l g y_Mo_hang b_Mo_hang 3 2 43 [.ref (ad 0), .int (nI b)] (wM g ad x) (wM g ad (x.1, hangA b x.2)) := by
  refine CV.of (by decide +kernel) (Nat.le_of_ble_eq_true rfl) ?_
  intro p e s m below meth c A Q ls C hP hD hl hret hS
  obtain ⟨hx, hb, hml, hown, hw, hE, hA⟩ := id C
  have hl : lv_has ls 3 [(0, .ref (ad 0)), (1, .int (nI b))] := hl
  refine lv_aload_n hx hb d_Mo_hang_0 rfl (lv_at hl 0 rfl) ?_
  refine get_ms (x := x) C 21 q_571 rfl (by decide) (.ref (ad 15)) rfl hP d_Mo_hang_1 ?_
  refine lv_iload_n hx hb d_Mo_hang_4 rfl (lv_at hl 1 rfl) ?_
  refine lv_iconst (v := 1) hx hb d_Mo_hang_5 (by decide) ?_
  refine lv_isub hx hb d_Mo_hang_6 ?_
  refine get_ma (x := x) C 15 3 rfl (in_sub (j := 1) hb1 (by omega) (by omega)) (x.2 15 (b - 1)) ((congrArg (x.2 15) (cl_sub (j := 1) hb1 (by omega))).trans rfl) hP d_Mo_hang_7 ?_
  refine lv_istore_n (lv' := [(2, .int (x.2 15 (b - 1))), (0, .ref (ad 0)), (1, .int (nI b))]) hx hb d_Mo_hang_8 rfl hl (by decide) rfl (fun ls hl => ?_)
  refine lv_aload_n hx hb d_Mo_hang_9 rfl (lv_at hl 1 rfl) ?_
  refine get_ms (x := x) C 19 q_569 rfl (by decide) (.ref (ad 13)) rfl hP d_Mo_hang_10 ?_
  refine lv_iload_n hx hb d_Mo_hang_13 rfl (lv_at hl 2 rfl) ?_
  refine lv_aload_n hx hb d_Mo_hang_14 rfl (lv_at hl 1 rfl) ?_
  refine get_ms (x := x) C 19 q_569 rfl (by decide) (.ref (ad 13)) rfl hP d_Mo_hang_15 ?_
  refine lv_iload_n hx hb d_Mo_hang_18 rfl (lv_at hl 2 rfl) ?_
  refine lv_iconst (v := 1) hx hb d_Mo_hang_19 (by decide) ?_
  refine lv_isub hx hb d_Mo_hang_20 ?_
  refine get_ma (x := x) C 13 3 rfl (in_sub (j := 1) hb1 (by omega) (by omega)) (x.2 13 (b - 1)) ((congrArg (x.2 13) (cl_sub (j := 1) hb1 (by omega))).trans rfl) hP d_Mo_hang_21 ?_
  refine lv_aload_n hx hb d_Mo_hang_22 rfl (lv_at hl 1 rfl) ?_
  refine get_ms (x := x) C 4 q_554 rfl (by decide) (.ref (ad 3)) rfl hP d_Mo_hang_23 ?_
  refine lv_iload_n hx hb d_Mo_hang_26 rfl (lv_at hl 2 rfl) ?_
  refine lv_iconst (v := 1) hx hb d_Mo_hang_27 (by decide) ?_
  refine lv_isub hx hb d_Mo_hang_28 ?_
  refine get_ma (x := x) C 3 3 rfl (in_sub (j := 1) hb1 (by omega) (by omega)) (x.2 3 (b - 1)) ((congrArg (x.2 3) (cl_sub (j := 1) hb1 (by omega))).trans rfl) hP d_Mo_hang_29 ?_
  refine lv_aload_n hx hb d_Mo_hang_30 rfl (lv_at hl 1 rfl) ?_
  refine lv_iload_n hx hb d_Mo_hang_31 rfl (lv_at hl 0 rfl) ?_
  refine cvI C v_Mo_90 [.int (x.2 15 (b - 1))] [.int (x.2 3 (b - 1)), .int (x.2 13 (b - 1)), .int (nI b), .ref (ad 13)] (c_Mo_dx l g ad x hc (x.2 15 (b - 1))) hP hD hS [0, 1, 2, 3, 4, 5, 6, 7, 8, 9, 10, 11, 12, 13, 14, 15, 16, 17, 18, 19, 20] [] [0, 1, 2, 3, 4, 5, 6, 7, 8, 9, 10, 11, 12, 13, 14, 15, 16, 17, 18, 19, 20] [] (wM g ad x) rfl rfl (by decide) (by decide) (by decide) rfl (by decide) 0 rfl rfl rfl rfl hl.1 (Nat.le_of_ble_eq_true rfl) ⟨Nat.le_of_ble_eq_true rfl, Nat.le_of_ble_eq_true rfl⟩ d_Mo_hang_32 ⟨Nat.zero_le _, Nat.zero_le _⟩ (fun H locs hP hD hS => ?_)
  refine lv_imul hx hb d_Mo_hang_35 ?_
  refine lv_isub hx hb d_Mo_hang_36 ?_
  refine lv_aload_n hx hb d_Mo_hang_37 rfl (lv_at hl 1 rfl) ?_
  refine get_ms (x := x) C 3 q_553 rfl (by decide) (.ref (ad 2)) rfl hP d_Mo_hang_38 ?_
  refine lv_iload_n hx hb d_Mo_hang_41 rfl (lv_at hl 2 rfl) ?_
  refine get_ma (x := x) C 2 3 rfl (vp_in_nI hb3 (by omega)) (x.2 2 b) ((congrArg (x.2 2) (nI_clamp (by omega))).trans rfl) hP d_Mo_hang_42 ?_
  refine lv_aload_n hx hb d_Mo_hang_43 rfl (lv_at hl 1 rfl) ?_
  refine lv_aload_n hx hb d_Mo_hang_44 rfl (lv_at hl 1 rfl) ?_
  refine get_ms (x := x) C 21 q_571 rfl (by decide) (.ref (ad 15)) rfl hP d_Mo_hang_45 ?_
  refine lv_iload_n hx hb d_Mo_hang_48 rfl (lv_at hl 2 rfl) ?_
  refine get_ma (x := x) C 15 3 rfl (vp_in_nI hb3 (by omega)) (x.2 15 b) ((congrArg (x.2 15) (nI_clamp (by omega))).trans rfl) hP d_Mo_hang_49 ?_
  refine cvI C v_Mo_90 [.int (x.2 15 b)] [.int (x.2 2 b), .int ((x.2 13 (b - 1)) - ((x.2 3 (b - 1)) * (dX (x.2 15 (b - 1))))), .int (nI b), .ref (ad 13)] (c_Mo_dx l g ad x hc (x.2 15 b)) hP hD hS [0, 1, 2, 3, 4, 5, 6, 7, 8, 9, 10, 11, 12, 13, 14, 15, 16, 17, 18, 19, 20] [] [0, 1, 2, 3, 4, 5, 6, 7, 8, 9, 10, 11, 12, 13, 14, 15, 16, 17, 18, 19, 20] [] (wM g ad x) rfl rfl (by decide) (by decide) (by decide) rfl (by decide) 0 rfl rfl rfl rfl hl.1 (Nat.le_of_ble_eq_true rfl) ⟨Nat.le_of_ble_eq_true rfl, Nat.le_of_ble_eq_true rfl⟩ d_Mo_hang_50 ⟨Nat.zero_le _, Nat.zero_le _⟩ (fun H locs hP hD hS => ?_)
  refine lv_imul hx hb d_Mo_hang_53 ?_
  refine lv_isub hx hb d_Mo_hang_54 ?_
  refine put_ma C 13 3 rfl (vp_in_nI hb3 (by omega)) b (nI_clamp (by omega)) wM_a13 hP hD hS d_Mo_hang_55 (fun H locs hP hD hS => ?_)
  refine lv_aload_n hx hb d_Mo_hang_56 rfl (lv_at hl 1 rfl) ?_
  refine get_ms (x := (x.1, (u2 x.2 13 b (((x.2 13 (b - 1)) - ((x.2 3 (b - 1)) * (dX (x.2 15 (b - 1))))) - ((x.2 2 b) * (dX (x.2 15 b))))))) C 20 q_570 rfl (by decide) (.ref (ad 14)) rfl hP d_Mo_hang_57 ?_
  refine lv_iload_n hx hb d_Mo_hang_60 rfl (lv_at hl 2 rfl) ?_
  refine lv_aload_n hx hb d_Mo_hang_61 rfl (lv_at hl 1 rfl) ?_
  refine get_ms (x := (x.1, (u2 x.2 13 b (((x.2 13 (b - 1)) - ((x.2 3 (b - 1)) * (dX (x.2 15 (b - 1))))) - ((x.2 2 b) * (dX (x.2 15 b))))))) C 20 q_570 rfl (by decide) (.ref (ad 14)) rfl hP d_Mo_hang_62 ?_
  refine lv_iload_n hx hb d_Mo_hang_65 rfl (lv_at hl 2 rfl) ?_
  refine lv_iconst (v := 1) hx hb d_Mo_hang_66 (by decide) ?_
  refine lv_isub hx hb d_Mo_hang_67 ?_
  refine get_ma (x := (x.1, (u2 x.2 13 b (((x.2 13 (b - 1)) - ((x.2 3 (b - 1)) * (dX (x.2 15 (b - 1))))) - ((x.2 2 b) * (dX (x.2 15 b))))))) C 14 3 rfl (in_sub (j := 1) hb1 (by omega) (by omega)) (x.2 14 (b - 1)) ((congrArg ((u2 x.2 13 b (((x.2 13 (b - 1)) - ((x.2 3 (b - 1)) * (dX (x.2 15 (b - 1))))) - ((x.2 2 b) * (dX (x.2 15 b))))) 14) (cl_sub (j := 1) hb1 (by omega))).trans (u2_k (σ := x.2) (k := 13) (b := b) (x := (((x.2 13 (b - 1)) - ((x.2 3 (b - 1)) * (dX (x.2 15 (b - 1))))) - ((x.2 2 b) * (dX (x.2 15 b))))) (i := 14) (j := (b - 1)) (by decide))) hP d_Mo_hang_68 ?_
  refine lv_aload_n hx hb d_Mo_hang_69 rfl (lv_at hl 1 rfl) ?_
  refine get_ms (x := (x.1, (u2 x.2 13 b (((x.2 13 (b - 1)) - ((x.2 3 (b - 1)) * (dX (x.2 15 (b - 1))))) - ((x.2 2 b) * (dX (x.2 15 b))))))) C 4 q_554 rfl (by decide) (.ref (ad 3)) rfl hP d_Mo_hang_70 ?_
  refine lv_iload_n hx hb d_Mo_hang_73 rfl (lv_at hl 2 rfl) ?_
  refine lv_iconst (v := 1) hx hb d_Mo_hang_74 (by decide) ?_
  refine lv_isub hx hb d_Mo_hang_75 ?_
  refine get_ma (x := (x.1, (u2 x.2 13 b (((x.2 13 (b - 1)) - ((x.2 3 (b - 1)) * (dX (x.2 15 (b - 1))))) - ((x.2 2 b) * (dX (x.2 15 b))))))) C 3 3 rfl (in_sub (j := 1) hb1 (by omega) (by omega)) (x.2 3 (b - 1)) ((congrArg ((u2 x.2 13 b (((x.2 13 (b - 1)) - ((x.2 3 (b - 1)) * (dX (x.2 15 (b - 1))))) - ((x.2 2 b) * (dX (x.2 15 b))))) 3) (cl_sub (j := 1) hb1 (by omega))).trans (u2_k (σ := x.2) (k := 13) (b := b) (x := (((x.2 13 (b - 1)) - ((x.2 3 (b - 1)) * (dX (x.2 15 (b - 1))))) - ((x.2 2 b) * (dX (x.2 15 b))))) (i := 3) (j := (b - 1)) (by decide))) hP d_Mo_hang_76 ?_
  refine lv_aload_n hx hb d_Mo_hang_77 rfl (lv_at hl 1 rfl) ?_
  refine lv_iload_n hx hb d_Mo_hang_78 rfl (lv_at hl 0 rfl) ?_
  refine cvI C v_Mo_97 [.int (x.2 15 (b - 1))] [.int (x.2 3 (b - 1)), .int (x.2 14 (b - 1)), .int (nI b), .ref (ad 14)] (c_Mo_dy l g ad (x.1, (u2 x.2 13 b (((x.2 13 (b - 1)) - ((x.2 3 (b - 1)) * (dX (x.2 15 (b - 1))))) - ((x.2 2 b) * (dX (x.2 15 b)))))) (fun i hi => (u2_k (σ := x.2) (k := 13) (b := b) (x := (((x.2 13 (b - 1)) - ((x.2 3 (b - 1)) * (dX (x.2 15 (b - 1))))) - ((x.2 2 b) * (dX (x.2 15 b))))) (i := 1) (j := i) (by decide)).trans (hc i hi)) (x.2 15 (b - 1))) hP hD hS [0, 1, 2, 3, 4, 5, 6, 7, 8, 9, 10, 11, 12, 13, 14, 15, 16, 17, 18, 19, 20] [] [0, 1, 2, 3, 4, 5, 6, 7, 8, 9, 10, 11, 12, 13, 14, 15, 16, 17, 18, 19, 20] [] (wM g ad (x.1, (u2 x.2 13 b (((x.2 13 (b - 1)) - ((x.2 3 (b - 1)) * (dX (x.2 15 (b - 1))))) - ((x.2 2 b) * (dX (x.2 15 b))))))) rfl rfl (by decide) (by decide) (by decide) rfl (by decide) 0 rfl rfl rfl rfl hl.1 (Nat.le_of_ble_eq_true rfl) ⟨Nat.le_of_ble_eq_true rfl, Nat.le_of_ble_eq_true rfl⟩ d_Mo_hang_79 ⟨Nat.zero_le _, Nat.zero_le _⟩ (fun H locs hP hD hS => ?_)
  refine lv_imul hx hb d_Mo_hang_82 ?_
  refine lv_isub hx hb d_Mo_hang_83 ?_
  refine lv_aload_n hx hb d_Mo_hang_84 rfl (lv_at hl 1 rfl) ?_
  refine get_ms (x := (x.1, (u2 x.2 13 b (((x.2 13 (b - 1)) - ((x.2 3 (b - 1)) * (dX (x.2 15 (b - 1))))) - ((x.2 2 b) * (dX (x.2 15 b))))))) C 3 q_553 rfl (by decide) (.ref (ad 2)) rfl hP d_Mo_hang_85 ?_
  refine lv_iload_n hx hb d_Mo_hang_88 rfl (lv_at hl 2 rfl) ?_
  refine get_ma (x := (x.1, (u2 x.2 13 b (((x.2 13 (b - 1)) - ((x.2 3 (b - 1)) * (dX (x.2 15 (b - 1))))) - ((x.2 2 b) * (dX (x.2 15 b))))))) C 2 3 rfl (vp_in_nI hb3 (by omega)) (x.2 2 b) ((congrArg ((u2 x.2 13 b (((x.2 13 (b - 1)) - ((x.2 3 (b - 1)) * (dX (x.2 15 (b - 1))))) - ((x.2 2 b) * (dX (x.2 15 b))))) 2) (nI_clamp (by omega))).trans (u2_k (σ := x.2) (k := 13) (b := b) (x := (((x.2 13 (b - 1)) - ((x.2 3 (b - 1)) * (dX (x.2 15 (b - 1))))) - ((x.2 2 b) * (dX (x.2 15 b))))) (i := 2) (j := b) (by decide))) hP d_Mo_hang_89 ?_
  refine lv_aload_n hx hb d_Mo_hang_90 rfl (lv_at hl 1 rfl) ?_
  refine lv_aload_n hx hb d_Mo_hang_91 rfl (lv_at hl 1 rfl) ?_
  refine get_ms (x := (x.1, (u2 x.2 13 b (((x.2 13 (b - 1)) - ((x.2 3 (b - 1)) * (dX (x.2 15 (b - 1))))) - ((x.2 2 b) * (dX (x.2 15 b))))))) C 21 q_571 rfl (by decide) (.ref (ad 15)) rfl hP d_Mo_hang_92 ?_
  refine lv_iload_n hx hb d_Mo_hang_95 rfl (lv_at hl 2 rfl) ?_
  refine get_ma (x := (x.1, (u2 x.2 13 b (((x.2 13 (b - 1)) - ((x.2 3 (b - 1)) * (dX (x.2 15 (b - 1))))) - ((x.2 2 b) * (dX (x.2 15 b))))))) C 15 3 rfl (vp_in_nI hb3 (by omega)) (x.2 15 b) ((congrArg ((u2 x.2 13 b (((x.2 13 (b - 1)) - ((x.2 3 (b - 1)) * (dX (x.2 15 (b - 1))))) - ((x.2 2 b) * (dX (x.2 15 b))))) 15) (nI_clamp (by omega))).trans (u2_k (σ := x.2) (k := 13) (b := b) (x := (((x.2 13 (b - 1)) - ((x.2 3 (b - 1)) * (dX (x.2 15 (b - 1))))) - ((x.2 2 b) * (dX (x.2 15 b))))) (i := 15) (j := b) (by decide))) hP d_Mo_hang_96 ?_
  refine cvI C v_Mo_97 [.int (x.2 15 b)] [.int (x.2 2 b), .int ((x.2 14 (b - 1)) - ((x.2 3 (b - 1)) * (dY (x.2 15 (b - 1))))), .int (nI b), .ref (ad 14)] (c_Mo_dy l g ad (x.1, (u2 x.2 13 b (((x.2 13 (b - 1)) - ((x.2 3 (b - 1)) * (dX (x.2 15 (b - 1))))) - ((x.2 2 b) * (dX (x.2 15 b)))))) (fun i hi => (u2_k (σ := x.2) (k := 13) (b := b) (x := (((x.2 13 (b - 1)) - ((x.2 3 (b - 1)) * (dX (x.2 15 (b - 1))))) - ((x.2 2 b) * (dX (x.2 15 b))))) (i := 1) (j := i) (by decide)).trans (hc i hi)) (x.2 15 b)) hP hD hS [0, 1, 2, 3, 4, 5, 6, 7, 8, 9, 10, 11, 12, 13, 14, 15, 16, 17, 18, 19, 20] [] [0, 1, 2, 3, 4, 5, 6, 7, 8, 9, 10, 11, 12, 13, 14, 15, 16, 17, 18, 19, 20] [] (wM g ad (x.1, (u2 x.2 13 b (((x.2 13 (b - 1)) - ((x.2 3 (b - 1)) * (dX (x.2 15 (b - 1))))) - ((x.2 2 b) * (dX (x.2 15 b))))))) rfl rfl (by decide) (by decide) (by decide) rfl (by decide) 0 rfl rfl rfl rfl hl.1 (Nat.le_of_ble_eq_true rfl) ⟨Nat.le_of_ble_eq_true rfl, Nat.le_of_ble_eq_true rfl⟩ d_Mo_hang_97 ⟨Nat.zero_le _, Nat.zero_le _⟩ (fun H locs hP hD hS => ?_)
  refine lv_imul hx hb d_Mo_hang_100 ?_
  refine lv_isub hx hb d_Mo_hang_101 ?_
  refine put_ma C 14 3 rfl (vp_in_nI hb3 (by omega)) b (nI_clamp (by omega)) wM_a14 hP hD hS d_Mo_hang_102 (fun H locs hP hD hS => ?_)
  exact hret _ _ _ _ _ rfl hP hD hS d_Mo_hang_103
set_option maxHeartbeats 4000000 in
set_option maxRecDepth 100000 in
theorem c_Mo_covers (l : Launch) (g : Glob) (ad : Nat → Nat) (x : MS) (hc : ∀ i, i < 17 → x.2 1 i = cosT i) (b : Nat) (hb3 : b < 3) (px py : Int32) : CI l g y_Mo_covers b_Mo_covers 16 (some .boolean) 2 43 [.ref (ad 0), .int (nI b), .int px, .int py] (wM g ad x) (covM x.2 b px py) (wM g ad x) := by
  refine CI.of .boolean rfl (nar01 (insI_01 _ _ _ _)) (by decide +kernel) (Nat.le_of_ble_eq_true rfl) ?_
  intro p e s m below meth c A Q ls C hP hD hl hret hS
  obtain ⟨hx, hb, hml, hown, hw, hE, hA⟩ := id C
  have hl : lv_has ls 16 [(0, .ref (ad 0)), (1, .int (nI b)), (2, .int px), (3, .int py)] := hl
  refine lv_iload_n hx hb d_Mo_covers_0 rfl (lv_at hl 2 rfl) ?_
  refine lv_aload_n hx hb d_Mo_covers_1 rfl (lv_at hl 0 rfl) ?_
  refine get_ms (x := x) C 19 q_569 rfl (by decide) (.ref (ad 13)) rfl hP d_Mo_covers_2 ?_
  refine lv_iload_n hx hb d_Mo_covers_5 rfl (lv_at hl 1 rfl) ?_
  refine get_ma (x := x) C 13 3 rfl (vp_in_nI hb3 (by omega)) (x.2 13 b) ((congrArg (x.2 13) (nI_clamp (by omega))).trans rfl) hP d_Mo_covers_6 ?_
  refine lv_isub hx hb d_Mo_covers_7 ?_
  refine lv_i2l hx hb d_Mo_covers_8 rfl ?_
  refine lv_lstore (lv' := [(4, .long ((px - (x.2 13 b)).toInt64)), (0, .ref (ad 0)), (1, .int (nI b)), (2, .int px), (3, .int py)]) hx hb d_Mo_covers_9 hl (by decide) rfl (fun ls hl => ?_)
  refine lv_iload_n hx hb d_Mo_covers_11 rfl (lv_at hl 4 rfl) ?_
  refine lv_aload_n hx hb d_Mo_covers_12 rfl (lv_at hl 1 rfl) ?_
  refine get_ms (x := x) C 20 q_570 rfl (by decide) (.ref (ad 14)) rfl hP d_Mo_covers_13 ?_
  refine lv_iload_n hx hb d_Mo_covers_16 rfl (lv_at hl 2 rfl) ?_
  refine get_ma (x := x) C 14 3 rfl (vp_in_nI hb3 (by omega)) (x.2 14 b) ((congrArg (x.2 14) (nI_clamp (by omega))).trans rfl) hP d_Mo_covers_17 ?_
  refine lv_isub hx hb d_Mo_covers_18 ?_
  refine lv_i2l hx hb d_Mo_covers_19 rfl ?_
  refine lv_lstore (lv' := [(6, .long ((py - (x.2 14 b)).toInt64)), (4, .long ((px - (x.2 13 b)).toInt64)), (0, .ref (ad 0)), (1, .int (nI b)), (2, .int px), (3, .int py)]) hx hb d_Mo_covers_20 hl (by decide) rfl (fun ls hl => ?_)
  refine lv_aload_n hx hb d_Mo_covers_22 rfl (lv_at hl 2 rfl) ?_
  refine lv_aload_n hx hb d_Mo_covers_23 rfl (lv_at hl 2 rfl) ?_
  refine get_ms (x := x) C 21 q_571 rfl (by decide) (.ref (ad 15)) rfl hP d_Mo_covers_24 ?_
  refine lv_iload_n hx hb d_Mo_covers_27 rfl (lv_at hl 3 rfl) ?_
  refine get_ma (x := x) C 15 3 rfl (vp_in_nI hb3 (by omega)) (x.2 15 b) ((congrArg (x.2 15) (nI_clamp (by omega))).trans rfl) hP d_Mo_covers_28 ?_
  refine cvI C v_Mo_90 [.int (x.2 15 b)] [] (c_Mo_dx l g ad x hc (x.2 15 b)) hP hD hS [0, 1, 2, 3, 4, 5, 6, 7, 8, 9, 10, 11, 12, 13, 14, 15, 16, 17, 18, 19, 20] [] [0, 1, 2, 3, 4, 5, 6, 7, 8, 9, 10, 11, 12, 13, 14, 15, 16, 17, 18, 19, 20] [] (wM g ad x) rfl rfl (by decide) (by decide) (by decide) rfl (by decide) 0 rfl rfl rfl rfl hl.1 (Nat.le_of_ble_eq_true rfl) ⟨Nat.le_of_ble_eq_true rfl, Nat.le_of_ble_eq_true rfl⟩ d_Mo_covers_29 ⟨Nat.zero_le _, Nat.zero_le _⟩ (fun H locs hP hD hS => ?_)
  refine lv_i2l hx hb d_Mo_covers_32 rfl ?_
  refine lv_lstore (lv' := [(8, .long ((dX (x.2 15 b)).toInt64)), (6, .long ((py - (x.2 14 b)).toInt64)), (4, .long ((px - (x.2 13 b)).toInt64)), (0, .ref (ad 0)), (1, .int (nI b)), (2, .int px), (3, .int py)]) hx hb d_Mo_covers_33 hl (by decide) rfl (fun ls hl => ?_)
  refine lv_aload_n hx hb d_Mo_covers_35 rfl (lv_at hl 3 rfl) ?_
  refine lv_aload_n hx hb d_Mo_covers_36 rfl (lv_at hl 3 rfl) ?_
  refine get_ms (x := x) C 21 q_571 rfl (by decide) (.ref (ad 15)) rfl hP d_Mo_covers_37 ?_
  refine lv_iload_n hx hb d_Mo_covers_40 rfl (lv_at hl 4 rfl) ?_
  refine get_ma (x := x) C 15 3 rfl (vp_in_nI hb3 (by omega)) (x.2 15 b) ((congrArg (x.2 15) (nI_clamp (by omega))).trans rfl) hP d_Mo_covers_41 ?_
  refine cvI C v_Mo_97 [.int (x.2 15 b)] [] (c_Mo_dy l g ad x hc (x.2 15 b)) hP hD hS [0, 1, 2, 3, 4, 5, 6, 7, 8, 9, 10, 11, 12, 13, 14, 15, 16, 17, 18, 19, 20] [] [0, 1, 2, 3, 4, 5, 6, 7, 8, 9, 10, 11, 12, 13, 14, 15, 16, 17, 18, 19, 20] [] (wM g ad x) rfl rfl (by decide) (by decide) (by decide) rfl (by decide) 0 rfl rfl rfl rfl hl.1 (Nat.le_of_ble_eq_true rfl) ⟨Nat.le_of_ble_eq_true rfl, Nat.le_of_ble_eq_true rfl⟩ d_Mo_covers_42 ⟨Nat.zero_le _, Nat.zero_le _⟩ (fun H locs hP hD hS => ?_)
  refine lv_i2l hx hb d_Mo_covers_45 rfl ?_
  refine lv_lstore (lv' := [(10, .long ((dY (x.2 15 b)).toInt64)), (8, .long ((dX (x.2 15 b)).toInt64)), (6, .long ((py - (x.2 14 b)).toInt64)), (4, .long ((px - (x.2 13 b)).toInt64)), (0, .ref (ad 0)), (1, .int (nI b)), (2, .int px), (3, .int py)]) hx hb d_Mo_covers_46 hl (by decide) rfl (fun ls hl => ?_)
  refine lv_lload hx hb d_Mo_covers_48 (lv_at hl 3 rfl) ?_
  refine lv_lload hx hb d_Mo_covers_50 (lv_at hl 1 rfl) ?_
  refine lv_lmul hx hb d_Mo_covers_52 ?_
  refine lv_lload hx hb d_Mo_covers_53 (lv_at hl 2 rfl) ?_
  refine lv_lload hx hb d_Mo_covers_55 (lv_at hl 0 rfl) ?_
  refine lv_lmul hx hb d_Mo_covers_57 ?_
  refine lv_ladd hx hb d_Mo_covers_58 ?_
  refine lv_lstore (lv' := [(12, .long ((((px - (x.2 13 b)).toInt64) * ((dX (x.2 15 b)).toInt64)) + (((py - (x.2 14 b)).toInt64) * ((dY (x.2 15 b)).toInt64)))), (10, .long ((dY (x.2 15 b)).toInt64)), (8, .long ((dX (x.2 15 b)).toInt64)), (6, .long ((py - (x.2 14 b)).toInt64)), (4, .long ((px - (x.2 13 b)).toInt64)), (0, .ref (ad 0)), (1, .int (nI b)), (2, .int px), (3, .int py)]) hx hb d_Mo_covers_59 hl (by decide) rfl (fun ls hl => ?_)
  refine lv_lload hx hb d_Mo_covers_61 (lv_at hl 3 rfl) ?_
  refine lv_lload hx hb d_Mo_covers_63 (lv_at hl 2 rfl) ?_
  refine lv_lmul hx hb d_Mo_covers_65 ?_
  refine lv_lload hx hb d_Mo_covers_66 (lv_at hl 4 rfl) ?_
  refine lv_lload hx hb d_Mo_covers_68 (lv_at hl 1 rfl) ?_
  refine lv_lmul hx hb d_Mo_covers_70 ?_
  refine lv_lsub hx hb d_Mo_covers_71 ?_
  refine lv_lstore (lv' := [(14, .long ((((py - (x.2 14 b)).toInt64) * ((dX (x.2 15 b)).toInt64)) - (((px - (x.2 13 b)).toInt64) * ((dY (x.2 15 b)).toInt64)))), (12, .long ((((px - (x.2 13 b)).toInt64) * ((dX (x.2 15 b)).toInt64)) + (((py - (x.2 14 b)).toInt64) * ((dY (x.2 15 b)).toInt64)))), (10, .long ((dY (x.2 15 b)).toInt64)), (8, .long ((dX (x.2 15 b)).toInt64)), (6, .long ((py - (x.2 14 b)).toInt64)), (4, .long ((px - (x.2 13 b)).toInt64)), (0, .ref (ad 0)), (1, .int (nI b)), (2, .int px), (3, .int py)]) hx hb d_Mo_covers_72 hl (by decide) rfl (fun ls hl => ?_)
  refine lv_lload hx hb d_Mo_covers_74 (lv_at hl 1 rfl) ?_
  refine lv_aload_n hx hb d_Mo_covers_76 rfl (lv_at hl 6 rfl) ?_
  refine get_ms (x := x) C 6 q_556 rfl (by decide) (.ref (ad 5)) rfl hP d_Mo_covers_77 ?_
  refine lv_iload_n hx hb d_Mo_covers_80 rfl (lv_at hl 7 rfl) ?_
  refine get_ma (x := x) C 5 3 rfl (vp_in_nI hb3 (by omega)) (x.2 5 b) ((congrArg (x.2 5) (nI_clamp (by omega))).trans rfl) hP d_Mo_covers_81 ?_
  refine lv_ineg hx hb d_Mo_covers_82 ?_
  refine lv_i2l hx hb d_Mo_covers_83 rfl ?_
  refine lv_ldc2 (v := 16777216) hx hb hown (hw _ q_694) d_Mo_covers_84 ?_
  refine lv_lmul hx hb d_Mo_covers_87 ?_
  refine W.lcmp hx hb d_Mo_covers_88 ?_
  refine lv_if_lt (tgt := 148) hx hb d_Mo_covers_89 (by decide) (fun c89_1 => ?_) (fun c89_1 => ?_)
  · rw [lg_cmp_lt] at c89_1
    refine lv_iconst (v := 0) hx hb d_Mo_covers_148 (by decide) ?_
    exact hret _ _ _ _ _ _ ((if_pos c89_1).symm) rfl hP hD hS d_Mo_covers_149
  · rw [lg_cmp_lt] at c89_1
    refine lv_lload hx hb d_Mo_covers_92 (lv_at hl 1 rfl) ?_
    refine lv_aload_n hx hb d_Mo_covers_94 rfl (lv_at hl 6 rfl) ?_
    refine get_ms (x := x) C 5 q_555 rfl (by decide) (.ref (ad 4)) rfl hP d_Mo_covers_95 ?_
    refine lv_iload_n hx hb d_Mo_covers_98 rfl (lv_at hl 7 rfl) ?_
    refine get_ma (x := x) C 4 3 rfl (vp_in_nI hb3 (by omega)) (x.2 4 b) ((congrArg (x.2 4) (nI_clamp (by omega))).trans rfl) hP d_Mo_covers_99 ?_
    refine lv_i2l hx hb d_Mo_covers_100 rfl ?_
    refine lv_ldc2 (v := 16777216) hx hb hown (hw _ q_694) d_Mo_covers_101 ?_
    refine lv_lmul hx hb d_Mo_covers_104 ?_
    refine W.lcmp hx hb d_Mo_covers_105 ?_
    refine lv_if_gt (tgt := 148) hx hb d_Mo_covers_106 (by decide) (fun c106_2 => ?_) (fun c106_2 => ?_)
    · rw [lg_cmp_gt] at c106_2
      refine lv_iconst (v := 0) hx hb d_Mo_covers_148 (by decide) ?_
      exact hret _ _ _ _ _ _ (((if_neg c89_1).trans (if_pos c106_2)).symm) rfl hP hD hS d_Mo_covers_149
    · rw [lg_cmp_gt] at c106_2
      refine lv_lload hx hb d_Mo_covers_109 (lv_at hl 0 rfl) ?_
      refine lv_aload_n hx hb d_Mo_covers_111 rfl (lv_at hl 6 rfl) ?_
      refine get_ms (x := x) C 7 q_557 rfl (by decide) (.ref (ad 6)) rfl hP d_Mo_covers_112 ?_
      refine lv_iload_n hx hb d_Mo_covers_115 rfl (lv_at hl 7 rfl) ?_
      refine get_ma (x := x) C 6 3 rfl (vp_in_nI hb3 (by omega)) (x.2 6 b) ((congrArg (x.2 6) (nI_clamp (by omega))).trans rfl) hP d_Mo_covers_116 ?_
      refine lv_ineg hx hb d_Mo_covers_117 ?_
      refine lv_i2l hx hb d_Mo_covers_118 rfl ?_
      refine lv_ldc2 (v := 16777216) hx hb hown (hw _ q_694) d_Mo_covers_119 ?_
      refine lv_lmul hx hb d_Mo_covers_122 ?_
      refine W.lcmp hx hb d_Mo_covers_123 ?_
      refine lv_if_lt (tgt := 148) hx hb d_Mo_covers_124 (by decide) (fun c124_3 => ?_) (fun c124_3 => ?_)
      · rw [lg_cmp_lt] at c124_3
        refine lv_iconst (v := 0) hx hb d_Mo_covers_148 (by decide) ?_
        exact hret _ _ _ _ _ _ (((if_neg c89_1).trans ((if_neg c106_2).trans (if_pos c124_3))).symm) rfl hP hD hS d_Mo_covers_149
      · rw [lg_cmp_lt] at c124_3
        refine lv_lload hx hb d_Mo_covers_127 (lv_at hl 0 rfl) ?_
        refine lv_aload_n hx hb d_Mo_covers_129 rfl (lv_at hl 6 rfl) ?_
        refine get_ms (x := x) C 7 q_557 rfl (by decide) (.ref (ad 6)) rfl hP d_Mo_covers_130 ?_
        refine lv_iload_n hx hb d_Mo_covers_133 rfl (lv_at hl 7 rfl) ?_
        refine get_ma (x := x) C 6 3 rfl (vp_in_nI hb3 (by omega)) (x.2 6 b) ((congrArg (x.2 6) (nI_clamp (by omega))).trans rfl) hP d_Mo_covers_134 ?_
        refine lv_i2l hx hb d_Mo_covers_135 rfl ?_
        refine lv_ldc2 (v := 16777216) hx hb hown (hw _ q_694) d_Mo_covers_136 ?_
        refine lv_lmul hx hb d_Mo_covers_139 ?_
        refine W.lcmp hx hb d_Mo_covers_140 ?_
        refine lv_if_gt (tgt := 148) hx hb d_Mo_covers_141 (by decide) (fun c141_4 => ?_) (fun c141_4 => ?_)
        · rw [lg_cmp_gt] at c141_4
          refine lv_iconst (v := 0) hx hb d_Mo_covers_148 (by decide) ?_
          exact hret _ _ _ _ _ _ (((if_neg c89_1).trans ((if_neg c106_2).trans ((if_neg c124_3).trans (if_pos c141_4)))).symm) rfl hP hD hS d_Mo_covers_149
        · rw [lg_cmp_gt] at c141_4
          refine lv_iconst (v := 1) hx hb d_Mo_covers_144 (by decide) ?_
          refine lv_goto (tgt := 149) hx hb d_Mo_covers_145 (by decide) ?_
          exact hret _ _ _ _ _ _ (((if_neg c89_1).trans ((if_neg c106_2).trans ((if_neg c124_3).trans (if_neg c141_4)))).symm) rfl hP hD hS d_Mo_covers_149
