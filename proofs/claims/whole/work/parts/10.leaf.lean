set_option maxHeartbeats 4000000 in
set_option maxRecDepth 100000 in
theorem c_Di_round (l : Launch) (g : Glob) (a : Int32) : CI l g y_Di_round b_Di_round 1 (some .int) 0 0 [.int a] [] (a &&& 63) [] := by
  refine CI.of .int rfl rfl (by decide +kernel) (Nat.le_of_ble_eq_true rfl) ?_
  intro p e s m below meth c A Q ls C hP hD hl hret hS
  obtain ⟨hx, hb, hml, hown, hw, hE, hA⟩ := id C
  have hl : lv_has ls 1 [(0, .int a)] := hl
  refine lv_iload_n hx hb d_Di_round_0 rfl (lv_at hl 0 rfl) ?_
  refine lv_bipush (v := 63) hx hb d_Di_round_1 (by decide) ?_
  refine lv_iand hx hb d_Di_round_3 ?_
  exact hret _ _ _ _ _ _ rfl rfl hP hD hS d_Di_round_4
set_option maxHeartbeats 4000000 in
set_option maxRecDepth 100000 in
theorem c_Di_dx (l : Launch) (g : Glob) (a : Int32) : CI l g y_Di_dx b_Di_dx 1 (some .int) 0 0 [.int a] [] (dX a) [] := by
  refine CI.of .int rfl rfl (by decide +kernel) (Nat.le_of_ble_eq_true rfl) ?_
  intro p e s m below meth c A Q ls C hP hD hl hret hS
  obtain ⟨hx, hb, hml, hown, hw, hE, hA⟩ := id C
  have hl : lv_has ls 1 [(0, .int a)] := hl
  refine va_gets hx hb hE.2.1 hS hown (hw _ q_348) (fun _ h9 => h9) d_Di_dx_0 ?_
  refine lv_iload_n hx hb d_Di_dx_3 rfl (lv_at hl 0 rfl) ?_
  refine lv_bipush (v := 63) hx hb d_Di_dx_4 (by decide) ?_
  refine lv_iand hx hb d_Di_dx_6 ?_
  refine va_ti (v := .int (dxT (a &&& 63).toNatClampNeg)) hx hb hE.2.2.1 hS (in63 _) rfl d_Di_dx_7 ?_
  exact hret _ _ _ _ _ _ rfl rfl hP hD hS d_Di_dx_8
set_option maxHeartbeats 4000000 in
set_option maxRecDepth 100000 in
theorem c_Di_dy (l : Launch) (g : Glob) (a : Int32) : CI l g y_Di_dy b_Di_dy 1 (some .int) 0 0 [.int a] [] (dY a) [] := by
  refine CI.of .int rfl rfl (by decide +kernel) (Nat.le_of_ble_eq_true rfl) ?_
  intro p e s m below meth c A Q ls C hP hD hl hret hS
  obtain ⟨hx, hb, hml, hown, hw, hE, hA⟩ := id C
  have hl : lv_has ls 1 [(0, .int a)] := hl
  refine va_gets hx hb hE.2.1 hS hown (hw _ q_348) (fun _ h9 => h9) d_Di_dy_0 ?_
  refine lv_iload_n hx hb d_Di_dy_3 rfl (lv_at hl 0 rfl) ?_
  refine lv_bipush (v := 16) hx hb d_Di_dy_4 (by decide) ?_
  refine lv_isub hx hb d_Di_dy_6 ?_
  refine lv_bipush (v := 63) hx hb d_Di_dy_7 (by decide) ?_
  refine lv_iand hx hb d_Di_dy_9 ?_
  refine va_ti (v := .int (dxT ((a - 16) &&& 63).toNatClampNeg)) hx hb hE.2.2.1 hS (in63 _) rfl d_Di_dy_10 ?_
  exact hret _ _ _ _ _ _ rfl rfl hP hD hS d_Di_dy_11
set_option maxHeartbeats 4000000 in
set_option maxRecDepth 100000 in
theorem c_Di_askew (l : Launch) (g : Glob) (a b : Int32) : CI l g y_Di_askew b_Di_askew 2 (some .int) 0 0 [.int a, .int b] [] (askI a b) [] := by
  refine CI.of .int rfl rfl (by decide +kernel) (Nat.le_of_ble_eq_true rfl) ?_
  intro p e s m below meth c A Q ls C hP hD hl hret hS
  obtain ⟨hx, hb, hml, hown, hw, hE, hA⟩ := id C
  have hl : lv_has ls 2 [(0, .int a), (1, .int b)] := hl
  refine lv_iload_n hx hb d_Di_askew_0 rfl (lv_at hl 0 rfl) ?_
  refine lv_iload_n hx hb d_Di_askew_1 rfl (lv_at hl 1 rfl) ?_
  refine lv_isub hx hb d_Di_askew_2 ?_
  refine lv_bipush (v := 32) hx hb d_Di_askew_3 (by decide) ?_
  refine lv_iadd hx hb d_Di_askew_5 ?_
  refine lv_bipush (v := 63) hx hb d_Di_askew_6 (by decide) ?_
  refine lv_iand hx hb d_Di_askew_8 ?_
  refine lv_bipush (v := 32) hx hb d_Di_askew_9 (by decide) ?_
  refine lv_isub hx hb d_Di_askew_11 ?_
  exact hret _ _ _ _ _ _ rfl rfl hP hD hS d_Di_askew_12
set_option maxHeartbeats 4000000 in
set_option maxRecDepth 100000 in
theorem c_Ma_floorDiv (l : Launch) (g : Glob) (a b : Int32) (h0 : ¬ b = 0) : CI l g y_Ma_floorDiv b_Ma_floorDiv 3 (some .int) 0 0 [.int a, .int b] [] (fdivI a b) [] := by
  refine CI.of .int rfl rfl (by decide +kernel) (Nat.le_of_ble_eq_true rfl) ?_
  intro p e s m below meth c A Q ls C hP hD hl hret hS
  obtain ⟨hx, hb, hml, hown, hw, hE, hA⟩ := id C
  have hl : lv_has ls 3 [(0, .int a), (1, .int b)] := hl
  refine lv_iload_n hx hb d_Ma_floorDiv_0 rfl (lv_at hl 0 rfl) ?_
  refine lv_iload_n hx hb d_Ma_floorDiv_1 rfl (lv_at hl 1 rfl) ?_
  refine lv_idiv hx hb d_Ma_floorDiv_2 h0 ?_
  refine lv_istore_n (lv' := [(2, .int (a / b)), (0, .int a), (1, .int b)]) hx hb d_Ma_floorDiv_3 rfl hl (by decide) rfl (fun ls hl => ?_)
  refine lv_iload_n hx hb d_Ma_floorDiv_4 rfl (lv_at hl 1 rfl) ?_
  refine lv_iload_n hx hb d_Ma_floorDiv_5 rfl (lv_at hl 2 rfl) ?_
  refine lv_ixor hx hb d_Ma_floorDiv_6 ?_
  refine lv_if_ge (tgt := 21) hx hb d_Ma_floorDiv_7 (by decide) (fun c7_1 => ?_) (fun c7_1 => ?_)
  · refine lv_iload_n hx hb d_Ma_floorDiv_21 rfl (lv_at hl 0 rfl) ?_
    exact hret _ _ _ _ _ _ (by simp [fdivI, *]) rfl hP hD hS d_Ma_floorDiv_22
  · refine lv_iload_n hx hb d_Ma_floorDiv_10 rfl (lv_at hl 0 rfl) ?_
    refine lv_iload_n hx hb d_Ma_floorDiv_11 rfl (lv_at hl 2 rfl) ?_
    refine lv_imul hx hb d_Ma_floorDiv_12 ?_
    refine lv_iload_n hx hb d_Ma_floorDiv_13 rfl (lv_at hl 1 rfl) ?_
    refine lv_icmp_eq (tgt := 21) hx hb d_Ma_floorDiv_14 (by decide) (fun c14_2 => ?_) (fun c14_2 => ?_)
    · refine lv_iload_n hx hb d_Ma_floorDiv_21 rfl (lv_at hl 0 rfl) ?_
      exact hret _ _ _ _ _ _ (by simp [fdivI, *]) rfl hP hD hS d_Ma_floorDiv_22
    · refine lv_iload_n hx hb d_Ma_floorDiv_17 rfl (lv_at hl 0 rfl) ?_
      refine lv_iconst (v := 1) hx hb d_Ma_floorDiv_18 (by decide) ?_
      refine lv_isub hx hb d_Ma_floorDiv_19 ?_
      exact hret _ _ _ _ _ _ (by simp [fdivI, *]) rfl hP hD hS d_Ma_floorDiv_20
set_option maxHeartbeats 4000000 in
set_option maxRecDepth 100000 in
theorem c_Ce_middleOf (l : Launch) (g : Glob) (a : Int32) : CI l g y_Ce_middleOf b_Ce_middleOf 1 (some .int) 0 0 [.int a] [] (midI a) [] := by
  refine CI.of .int rfl rfl (by decide +kernel) (Nat.le_of_ble_eq_true rfl) ?_
  intro p e s m below meth c A Q ls C hP hD hl hret hS
  obtain ⟨hx, hb, hml, hown, hw, hE, hA⟩ := id C
  have hl : lv_has ls 1 [(0, .int a)] := hl
  refine lv_iload_n hx hb d_Ce_middleOf_0 rfl (lv_at hl 0 rfl) ?_
  refine lv_ldc (v := 32768) hx hb hown (hw _ q_372) d_Ce_middleOf_1 ?_
  refine lv_imul hx hb d_Ce_middleOf_3 ?_
  refine lv_sipush (v := 16384) hx hb d_Ce_middleOf_4 (by decide) ?_
  refine lv_iadd hx hb d_Ce_middleOf_7 ?_
  exact hret _ _ _ _ _ _ rfl rfl hP hD hS d_Ce_middleOf_8
set_option maxHeartbeats 4000000 in
set_option maxRecDepth 100000 in
theorem c_Ce_firstFrom (l : Launch) (g : Glob) (a : Int32) : CI l g y_Ce_firstFrom b_Ce_firstFrom 1 (some .int) 1 22 [.int a] [] (firI a) [] := by
  refine CI.of .int rfl rfl (by decide +kernel) (Nat.le_of_ble_eq_true rfl) ?_
  intro p e s m below meth c A Q ls C hP hD hl hret hS
  obtain ⟨hx, hb, hml, hown, hw, hE, hA⟩ := id C
  have hl : lv_has ls 1 [(0, .int a)] := hl
  refine lv_bipush (v := (-32)) hx hb d_Ce_firstFrom_0 (by decide) ?_
  refine lv_iload_n hx hb d_Ce_firstFrom_2 rfl (lv_at hl 0 rfl) ?_
  refine lv_sipush (v := 16384) hx hb d_Ce_firstFrom_3 (by decide) ?_
  refine lv_isub hx hb d_Ce_firstFrom_6 ?_
  refine lv_ldc (v := 32768) hx hb hown (hw _ q_372) d_Ce_firstFrom_7 ?_
  refine lv_iadd hx hb d_Ce_firstFrom_9 ?_
  refine lv_iconst (v := 1) hx hb d_Ce_firstFrom_10 (by decide) ?_
  refine lv_isub hx hb d_Ce_firstFrom_11 ?_
  refine lv_ldc (v := 32768) hx hb hown (hw _ q_372) d_Ce_firstFrom_12 ?_
  refine csI C v_Ce_88 [.int (((a - 16384) + 32768) - 1), .int 32768] [.int (-32)] (c_Ma_floorDiv l g (((a - 16384) + 32768) - 1) 32768 (by decide)) hP hS rfl rfl hl.1 (Nat.le_of_ble_eq_true rfl) ⟨Nat.le_of_ble_eq_true rfl, Nat.le_of_ble_eq_true rfl⟩ d_Ce_firstFrom_14 ⟨Nat.zero_le _, Nat.zero_le _⟩ (fun H locs hP hS => ?_)
  refine va_mmax hx hb (hml.trans hl.1.symm) hown (hw _ q_376) (hw _ q_377) (hw _ q_16) (hw _ q_378) (Nat.le_of_ble_eq_true rfl) (Nat.le_of_ble_eq_true rfl) (Nat.zero_le _) (Nat.zero_le _) d_Ce_firstFrom_17 ?_
  exact hret _ _ _ _ _ _ rfl rfl hP hD hS d_Ce_firstFrom_20
set_option maxHeartbeats 4000000 in
set_option maxRecDepth 100000 in
theorem c_Ce_lastUpTo (l : Launch) (g : Glob) (a : Int32) : CI l g y_Ce_lastUpTo b_Ce_lastUpTo 1 (some .int) 1 22 [.int a] [] (lasI a) [] := by
  refine CI.of .int rfl rfl (by decide +kernel) (Nat.le_of_ble_eq_true rfl) ?_
  intro p e s m below meth c A Q ls C hP hD hl hret hS
  obtain ⟨hx, hb, hml, hown, hw, hE, hA⟩ := id C
  have hl : lv_has ls 1 [(0, .int a)] := hl
  refine lv_bipush (v := 31) hx hb d_Ce_lastUpTo_0 (by decide) ?_
  refine lv_iload_n hx hb d_Ce_lastUpTo_2 rfl (lv_at hl 0 rfl) ?_
  refine lv_sipush (v := 16384) hx hb d_Ce_lastUpTo_3 (by decide) ?_
  refine lv_isub hx hb d_Ce_lastUpTo_6 ?_
  refine lv_ldc (v := 32768) hx hb hown (hw _ q_372) d_Ce_lastUpTo_7 ?_
  refine csI C v_Ce_88 [.int (a - 16384), .int 32768] [.int 31] (c_Ma_floorDiv l g (a - 16384) 32768 (by decide)) hP hS rfl rfl hl.1 (Nat.le_of_ble_eq_true rfl) ⟨Nat.le_of_ble_eq_true rfl, Nat.le_of_ble_eq_true rfl⟩ d_Ce_lastUpTo_9 ⟨Nat.zero_le _, Nat.zero_le _⟩ (fun H locs hP hS => ?_)
  refine va_mmin hx hb (hml.trans hl.1.symm) hown (hw _ q_366) (hw _ q_367) (hw _ q_16) (hw _ q_368) (Nat.le_of_ble_eq_true rfl) (Nat.le_of_ble_eq_true rfl) (Nat.zero_le _) (Nat.zero_le _) d_Ce_lastUpTo_12 ?_
  exact hret _ _ _ _ _ _ rfl rfl hP hD hS d_Ce_lastUpTo_15
