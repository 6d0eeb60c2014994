/-! the machine's numbers as integers, where nothing wraps -/
theorem bm32 {x : Int} (h1 : -2147483648 ≤ x) (h2 : x < 2147483648) : Int.bmod x (2 ^ 32) = x := by
  have e : ((2 ^ 32 : Nat) : Int) = 4294967296 := rfl
  simp only [Int.bmod, e]
  split <;> omega
theorem bm64 {x : Int} (h1 : -9223372036854775808 ≤ x) (h2 : x < 9223372036854775808) : Int.bmod x (2 ^ 64) = x := by
  have e : ((2 ^ 64 : Nat) : Int) = 18446744073709551616 := rfl
  simp only [Int.bmod, e]
  split <;> omega
theorem ti_add {a b : Int32} (h1 : -2147483648 ≤ a.toInt + b.toInt) (h2 : a.toInt + b.toInt < 2147483648) : (a + b).toInt = a.toInt + b.toInt := by rw [Int32.toInt_add, bm32 h1 h2]
theorem ti_sub {a b : Int32} (h1 : -2147483648 ≤ a.toInt - b.toInt) (h2 : a.toInt - b.toInt < 2147483648) : (a - b).toInt = a.toInt - b.toInt := by rw [Int32.toInt_sub, bm32 h1 h2]
theorem ti_mul {a b : Int32} (h1 : -2147483648 ≤ a.toInt * b.toInt) (h2 : a.toInt * b.toInt < 2147483648) : (a * b).toInt = a.toInt * b.toInt := by rw [Int32.toInt_mul, bm32 h1 h2]
theorem ti_neg {a : Int32} (h1 : -2147483648 < a.toInt) : (-a).toInt = -a.toInt := by
  rw [Int32.toInt_neg, bm32]
  · have := Int32.toInt_lt a
    omega
  · omega
theorem tl_add {a b : Int64} (h1 : -9223372036854775808 ≤ a.toInt + b.toInt) (h2 : a.toInt + b.toInt < 9223372036854775808) : (a + b).toInt = a.toInt + b.toInt := by rw [Int64.toInt_add, bm64 h1 h2]
theorem tl_sub {a b : Int64} (h1 : -9223372036854775808 ≤ a.toInt - b.toInt) (h2 : a.toInt - b.toInt < 9223372036854775808) : (a - b).toInt = a.toInt - b.toInt := by rw [Int64.toInt_sub, bm64 h1 h2]
theorem tl_mul {a b : Int64} (h1 : -9223372036854775808 ≤ a.toInt * b.toInt) (h2 : a.toInt * b.toInt < 9223372036854775808) : (a * b).toInt = a.toInt * b.toInt := by rw [Int64.toInt_mul, bm64 h1 h2]
theorem tl_of (a : Int32) : a.toInt64.toInt = a.toInt := Int32.toInt_toInt64 a
theorem i64_lt {a b : Int64} : a < b ↔ a.toInt < b.toInt := Int64.lt_iff_toInt_lt
theorem abs_mul {a b A B : Int} (h1 : -A ≤ a) (h2 : a ≤ A) (h3 : -B ≤ b) (h4 : b ≤ B) : -(A * B) ≤ a * b ∧ a * b ≤ A * B := by
  have hA : 0 ≤ A := by omega
  have hB : 0 ≤ B := by omega
  have h : a.natAbs ≤ A.natAbs := by omega
  have h' : b.natAbs ≤ B.natAbs := by omega
  have hm : (a * b).natAbs ≤ (A * B).natAbs := by
    rw [Int.natAbs_mul, Int.natAbs_mul]
    exact Nat.mul_le_mul h h'
  have hp : 0 ≤ A * B := Int.mul_nonneg hA hB
  omega
theorem mul_le_r {a b d : Int} (h : a ≤ b) (hd : 0 ≤ d) : a * d ≤ b * d := Int.mul_le_mul_of_nonneg_right h hd
theorem mul_le_l {a b d : Int} (h : a ≤ b) (hd : 0 ≤ d) : d * a ≤ d * b := Int.mul_le_mul_of_nonneg_left h hd
/-- a value between two ends, times a number: between the products -/
theorem mul_btw {x a b d : Int} (h1 : a ≤ x) (h2 : x ≤ b) : min (a * d) (b * d) ≤ x * d ∧ x * d ≤ max (a * d) (b * d) := by
  rcases Int.le_total 0 d with hd | hd
  · have e1 := mul_le_r h1 hd
    have e2 := mul_le_r h2 hd
    omega
  · have e1 := Int.mul_le_mul_of_nonpos_right h1 hd
    have e2 := Int.mul_le_mul_of_nonpos_right h2 hd
    omega
theorem dxT_b : ∀ j, j < 64 → -4096 ≤ (dxT j).toInt ∧ (dxT j).toInt ≤ 4096 := by decide
theorem dX_b (h : Int32) : -4096 ≤ (dX h).toInt ∧ (dX h).toInt ≤ 4096 := by
  unfold dX
  exact dxT_b _ (Nat.not_le.mp fun q => in63 h (Or.inr q))
theorem dY_b (h : Int32) : -4096 ≤ (dY h).toInt ∧ (dY h).toInt ≤ 4096 := by
  unfold dY
  exact dxT_b _ (Nat.not_le.mp fun q => in63 (h - 16) (Or.inr q))
theorem and63N (h : Int32) : ∃ j : Nat, j < 64 ∧ h &&& 63 = nI j := by
  have h1 : vp_in (h &&& 63) 64 := in63 h
  have h0 : ¬ (h &&& 63) < 0 := fun z => h1 (Or.inl z)
  have h2 : ¬ 64 ≤ (h &&& 63).toNatClampNeg := fun z => h1 (Or.inr z)
  exact ⟨(h &&& 63).toNatClampNeg, by omega, clampI h0⟩
theorem in15 (v : Int32) : ∃ j : Nat, j < 16 ∧ v &&& 15 = nI j := by
  have h : vp_in (v &&& 15) 16 := pk_andIn v 4 (by decide) (by decide)
  have h0 : ¬ (v &&& 15) < 0 := fun z => h (Or.inl z)
  have h1 : ¬ 16 ≤ (v &&& 15).toNatClampNeg := fun z => h (Or.inr z)
  exact ⟨(v &&& 15).toNatClampNeg, by omega, clampI h0⟩
theorem more6 {L t : Nat} (hL : L ≤ 3072) (ht : 6 * t ≤ L) (c : ¬ nI L - 6 < nI (6 * t)) : 6 * t + 6 ≤ L := by
  have e6 : (6 : Int32).toInt = 6 := rfl
  have eL : (nI L).toInt = L := nI_toInt (by omega)
  rw [i32_lt, nI_toInt (by omega), ti_sub (by omega) (by omega), eL, e6] at c
  omega
