/-! a cell whose middle a body covers lies in both boxes -/
theorem dxT_D : ∀ j, j < 64 → 16771216 ≤ (dxT j).toInt * (dxT j).toInt + (dxT ((j + 48) % 64)).toInt * (dxT ((j + 48) % 64)).toInt ∧ (dxT j).toInt * (dxT j).toInt + (dxT ((j + 48) % 64)).toInt * (dxT ((j + 48) % 64)).toInt ≤ 16783216 := by decide
theorem h16 (h : Int32) : ((h - 16) &&& 63).toNatClampNeg = ((h &&& 63).toNatClampNeg + 48) % 64 := by
  have e1 := pk_and h (m := 63) 6 (by decide)
  have e2 := pk_and (h - 16) (m := 63) 6 (by decide)
  have l1 : h.toBitVec.toNat % 2 ^ 6 < 64 := Nat.mod_lt _ (by decide)
  have l2 : (h - 16).toBitVec.toNat % 2 ^ 6 < 64 := Nat.mod_lt _ (by decide)
  rw [e1, e2, nI_clamp (by omega), nI_clamp (by omega)]
  have e3 : (h - 16).toBitVec.toNat = (2 ^ 32 - 16 + h.toBitVec.toNat) % 2 ^ 32 := by
    rw [Int32.toBitVec_sub, BitVec.toNat_sub]
    rfl
  rw [e3]
  omega
theorem dXY_D (h : Int32) : 16771216 ≤ (dX h).toInt * (dX h).toInt + (dY h).toInt * (dY h).toInt ∧ (dX h).toInt * (dX h).toInt + (dY h).toInt * (dY h).toInt ≤ 16783216 := by
  unfold dX dY
  rw [h16]
  exact dxT_D _ (Nat.not_le.mp fun q => in63 h (Or.inr q))
theorem mulx {x A D D0 : Int} (hx : x ≤ -A) (hA : 0 ≤ A) (hD : D0 ≤ D) (hD0 : 0 ≤ D0) : x * D ≤ -(A * D0) := by
  have h1 : x * D ≤ -A * D := mul_le_r hx (by omega)
  have h2 : A * D0 ≤ A * D := mul_le_l hD hA
  rw [Int.neg_mul] at h1
  omega
/-- the heart: how far a covered middle may lie off -/
theorem farX {X D al ac c s m K : Int} (hX : X * D = al * c - ac * s) (hm : 16777216 * m ≤ al * c) (hK : ac * s ≤ 16777216 * K) (h1 : m ≤ 0) (h2 : -245760 ≤ m) (h3 : 0 ≤ K) (h4 : K ≤ 81920) (hD : 16771216 ≤ D) : m - K - 4096 ≤ X := by
  apply Int.not_lt.mp
  intro q
  have h5 := mulx (x := X) (A := K - m + 4097) (D := D) (D0 := 16771216) (by omega) (by omega) hD (by omega)
  omega
theorem absI_t {v : Int32} (h : -4096 ≤ v.toInt) (h2 : v.toInt ≤ 4096) : (absI v).toInt = if 0 ≤ v.toInt then v.toInt else -v.toInt := by
  have e0 : (0 : Int32).toInt = 0 := rfl
  unfold absI
  by_cases c : 0 ≤ v.toInt
  · rw [if_pos (i32_le.mpr (by rw [e0]; exact c)), if_pos c]
  · rw [if_neg (fun q => c (by have := i32_le.mp q; rw [e0] at this; exact this)), if_neg c, ti_sub (by omega) (by omega)]
    omega
theorem minI_t {a b : Int32} : (minI a b).toInt = min a.toInt b.toInt := by
  unfold minI
  by_cases c : b < a
  · rw [if_pos c]
    have := i32_lt.mp c
    omega
  · rw [if_neg c]
    have : ¬ b.toInt < a.toInt := fun q => c (i32_lt.mpr q)
    omega
theorem maxI_t {a b : Int32} : (maxI a b).toInt = max a.toInt b.toInt := by
  unfold maxI
  by_cases c : a < b
  · rw [if_pos c]
    have := i32_lt.mp c
    omega
  · rw [if_neg c]
    have : ¬ a.toInt < b.toInt := fun q => c (i32_lt.mpr q)
    omega
theorem sgn_xor {x : Int32} : 0 ≤ x ^^^ 32768 ↔ 0 ≤ x.toInt := by
  rw [i32_le, show (0 : Int32).toInt = 0 from rfl]
  show 0 ≤ (x ^^^ 32768).toBitVec.toInt ↔ 0 ≤ x.toBitVec.toInt
  have e : ∀ v : BitVec 32, 0 ≤ v.toInt ↔ v.msb = false := fun v => by
    rw [BitVec.msb_eq_toInt]
    simp
  rw [e, e, Int32.toBitVec_xor, BitVec.msb_xor]
  rw [show (32768 : Int32).toBitVec.msb = false from by decide, Bool.xor_false]
theorem div_t {x : Int32} {d : Int32} (hd : 2 ≤ d.toInt) : (x / d).toInt = x.toInt.tdiv d.toInt := by
  rw [Int32.toInt_div]
  have h1 := Int32.le_toInt x
  have h2 := Int32.toInt_lt x
  have h3 : (x.toInt.tdiv d.toInt).natAbs ≤ x.toInt.natAbs := by
    rw [Int.natAbs_tdiv]
    exact Nat.div_le_self _ _
  by_cases e : x.toInt = -2147483648
  · rw [e]
    have h4 : ((-2147483648 : Int).tdiv d.toInt).natAbs ≤ 1073741824 := by
      rw [Int.natAbs_tdiv]
      exact Nat.le_trans (Nat.div_le_div_left (show 2 ≤ d.toInt.natAbs by omega) (by decide)) (by decide)
    exact bm32 (by omega) (by omega)
  · exact bm32 (by omega) (by omega)
theorem tm_np {x d : Int} (h : x ≤ 0) : x.tmod d ≤ 0 := by
  have h1 := Int.tmod_nonneg d (a := -x) (by omega)
  rw [Int.neg_tmod] at h1
  omega
theorem tm_gt {x d : Int} (hd : 0 < d) : -d < x.tmod d := by
  have h1 := Int.tmod_lt_of_pos (-x) hd
  rw [Int.neg_tmod] at h1
  omega
theorem tdiv_fl {x d : Int} (hd : 0 < d) : x / d = if x.tdiv d * d ≤ x then x.tdiv d else x.tdiv d - 1 := by
  have hm := Int.tmod_add_mul_tdiv x d
  have hl := Int.tmod_lt_of_pos x hd
  rcases Int.le_total 0 x with h | h
  · rw [Int.tdiv_eq_ediv_of_nonneg h]
    rw [if_pos (Int.ediv_mul_le x (by omega))]
  · have hs : x.tmod d ≤ 0 := tm_np h
    have hs2 : -d < x.tmod d := tm_gt hd
    rw [Int.mul_comm] at hm
    by_cases e : x.tdiv d * d ≤ x
    · rw [if_pos e]
      have : x.tmod d = 0 := by omega
      have e2 : x = x.tdiv d * d := by omega
      rw [Int.ediv_eq_iff_of_pos hd]
      omega
    · rw [if_neg e]
      rw [Int.ediv_eq_iff_of_pos hd, Int.sub_mul]
      omega
theorem fdivI_t {x : Int32} : (fdivI x 32768).toInt = x.toInt / 32768 := by
  have e8 : (32768 : Int32).toInt = 32768 := rfl
  have hd : (x / 32768).toInt = x.toInt.tdiv 32768 := div_t (d := 32768) (by decide)
  have hx1 := Int32.le_toInt x
  have hx2 := Int32.toInt_lt x
  have hf := tdiv_fl (x := x.toInt) (d := 32768) (by decide)
  have hq : -65536 ≤ x.toInt.tdiv 32768 ∧ x.toInt.tdiv 32768 ≤ 65536 := by
    have hn : (x.toInt.tdiv 32768).natAbs ≤ 65536 := by
      rw [Int.natAbs_tdiv]
      exact Nat.le_trans (Nat.div_le_div_right (show x.toInt.natAbs ≤ 2147483648 by omega)) (by decide)
    omega
  have hm : (x / 32768 * 32768).toInt = x.toInt.tdiv 32768 * 32768 := by
    rw [Int32.toInt_mul, hd, e8]
    have hm2 := Int.tmod_add_mul_tdiv x.toInt 32768
    have hl1 := Int.tmod_lt_of_pos x.toInt (b := 32768) (by decide)
    have hl2 := tm_gt (x := x.toInt) (d := 32768) (by decide)
    rcases Int.le_total 0 x.toInt with h | h
    · have := Int.tmod_nonneg 32768 h
      exact bm32 (by omega) (by omega)
    · have := tm_np (d := 32768) (x := x.toInt) h
      exact bm32 (by omega) (by omega)
  unfold fdivI
  by_cases c : 0 ≤ x ^^^ 32768
  · rw [if_pos c, hd]
    exact (Int.tdiv_eq_ediv_of_nonneg (sgn_xor.mp c)).symm ▸ rfl
  · rw [if_neg c]
    have hn : ¬ 0 ≤ x.toInt := fun q => c (sgn_xor.mpr q)
    have hm2 := Int.tmod_add_mul_tdiv x.toInt 32768
    have ht := tm_np (d := 32768) (x := x.toInt) (by omega)
    by_cases e : x / 32768 * 32768 = x
    · rw [if_pos e, hd, hf, if_pos]
      rw [← hm, e]
      exact Int.le_refl _
    · rw [if_neg e, ti_sub (by rw [hd]; show _ ≤ _ - (1 : Int); omega) (by rw [hd]; show _ - (1 : Int) < _; omega), hd, hf, if_neg]
      · rfl
      · intro q
        apply e
        apply Int32.toInt_inj.mp
        rw [hm]
        omega
theorem downI_t {x d : Int32} (hd : d = 4096 ∨ d = 8) : (downI x d).toInt = x.toInt / d.toInt := by
  have h2 : 8 ≤ d.toInt ∧ d.toInt ≤ 4096 := by rcases hd with rfl | rfl <;> decide
  have hdv : (x / d).toInt = x.toInt.tdiv d.toInt := div_t (by omega)
  have hx1 := Int32.le_toInt x
  have hx2 := Int32.toInt_lt x
  have hf := tdiv_fl (x := x.toInt) (d := d.toInt) (by omega)
  have hm2 := Int.tmod_add_mul_tdiv x.toInt d.toInt
  rw [Int.mul_comm] at hm2
  have hl1 := Int.tmod_lt_of_pos x.toInt (b := d.toInt) (by omega)
  have hl2 := tm_gt (x := x.toInt) (d := d.toInt) (by omega)
  have hq : -268435456 ≤ x.toInt.tdiv d.toInt ∧ x.toInt.tdiv d.toInt ≤ 268435456 := by
    have hn : (x.toInt.tdiv d.toInt).natAbs ≤ 268435456 := by
      rw [Int.natAbs_tdiv]
      refine Nat.le_trans (Nat.div_le_div_right (show x.toInt.natAbs ≤ 2147483648 by omega)) ?_
      exact Nat.le_trans (Nat.div_le_div_left (show 8 ≤ d.toInt.natAbs by omega) (by decide)) (by decide)
    omega
  have hm : (x / d * d).toInt = x.toInt.tdiv d.toInt * d.toInt := by
    rw [Int32.toInt_mul, hdv]
    rcases Int.le_total 0 x.toInt with h | h
    · have := Int.tmod_nonneg d.toInt h
      exact bm32 (by omega) (by omega)
    · have := tm_np (d := d.toInt) (x := x.toInt) h
      exact bm32 (by omega) (by omega)
  unfold downI
  by_cases c : x / d * d ≤ x
  · rw [if_pos c, hdv, hf, if_pos]
    rw [← hm]
    exact i32_le.mp c
  · rw [if_neg c, ti_sub (by rw [hdv]; show _ ≤ _ - (1 : Int); omega) (by rw [hdv]; show _ - (1 : Int) < _; omega), hdv, hf, if_neg]
    · rfl
    · intro q
      exact c (i32_le.mpr (by rw [hm]; exact q))
theorem cellI_t {p : Int32} : (cellI p).toInt = p.toInt / 32768 := by
  unfold cellI
  rw [downI_t (Or.inr rfl), downI_t (Or.inl rfl), show (8 : Int32).toInt = 8 from rfl, show (4096 : Int32).toInt = 4096 from rfl]
  omega
theorem withI_t {v : Int32} : (withI v).toInt = if -32 ≤ v.toInt then (if v.toInt ≤ 31 then v.toInt else 31) else -32 := by
  have e1 : (-32 : Int32).toInt = -32 := rfl
  have e2 : (31 : Int32).toInt = 31 := rfl
  unfold withI
  by_cases c : -32 ≤ v
  · have c1 := i32_le.mp c
    rw [e1] at c1
    rw [if_pos c, if_pos c1]
    by_cases d : v ≤ 31
    · have d1 := i32_le.mp d
      rw [e2] at d1
      rw [if_pos d, if_pos d1]
    · have d1 : ¬ v.toInt ≤ 31 := fun q => d (i32_le.mpr (by rw [e2]; exact q))
      rw [if_neg d, if_neg d1]
      rfl
  · have c1 : ¬ -32 ≤ v.toInt := fun q => c (i32_le.mpr (by rw [e1]; exact q))
    rw [if_neg c, if_neg c1]
    rfl
