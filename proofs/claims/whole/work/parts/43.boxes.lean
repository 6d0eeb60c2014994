theorem farG {X D al ac c s f k h : Int} (hX : X * D = al * c - ac * s) (hD : 16771216 ≤ D) (f0 : 0 ≤ f) (f1 : f ≤ 60) (k0 : 0 ≤ k) (k1 : k ≤ 60) (h0 : 0 ≤ h) (h1 : h ≤ 20) (c0 : -4096 ≤ c) (c1 : c ≤ 4096) (s0 : -4096 ≤ s) (s1 : s ≤ 4096) (a0 : -(k * 16777216) ≤ al) (a1 : al ≤ f * 16777216) (b0 : -(h * 16777216) ≤ ac) (b1 : ac ≤ h * 16777216) : min (f * c) (-k * c) - h * max s (-s) - 4096 ≤ X := by
  have e1 : -(k * 16777216) * c = -(16777216 * (k * c)) := by rw [Int.neg_mul, Int.mul_right_comm, Int.mul_comm (k * c)]
  have e2 : f * 16777216 * c = 16777216 * (f * c) := by rw [Int.mul_right_comm, Int.mul_comm (f * c)]
  have e3 : -(h * 16777216) * s = -(16777216 * (h * s)) := by rw [Int.neg_mul, Int.mul_right_comm, Int.mul_comm (h * s)]
  have e4 : h * 16777216 * s = 16777216 * (h * s) := by rw [Int.mul_right_comm, Int.mul_comm (h * s)]
  have g1 := mul_btw (d := c) a0 a1
  have g2 := mul_btw (d := s) b0 b1
  rw [e1, e2] at g1
  rw [e3, e4] at g2
  have e5 : -k * c = -(k * c) := Int.neg_mul k c
  have q1 := abs_mul (a := f) (b := c) (A := 60) (B := 4096) (by omega) (by omega) c0 c1
  have q2 := abs_mul (a := k) (b := c) (A := 60) (B := 4096) (by omega) (by omega) c0 c1
  have q3 := abs_mul (a := h) (b := s) (A := 20) (B := 4096) (by omega) (by omega) s0 s1
  have q4 : min (f * c) (-(k * c)) ≤ 0 := by
    rcases Int.le_total 0 c with z | z
    · have := Int.mul_nonneg k0 z
      omega
    · have := Int.mul_nonpos_of_nonneg_of_nonpos f0 z
      omega
  have q5 : h * max s (-s) = max (h * s) (-(h * s)) := by
    rcases Int.le_total 0 s with z | z
    · have := Int.mul_nonneg h0 z
      rw [show max s (-s) = s by omega]
      omega
    · have := Int.mul_nonpos_of_nonneg_of_nonpos h0 z
      rw [show max s (-s) = -s by omega, Int.mul_neg]
      omega
  rw [e5, q5]
  exact farX hX (by omega) (by omega) q4 (by omega) (by omega) (by omega) hD
theorem mx_c {a b : Int} (h : a = b) : max (-32 : Int32).toInt (a / 32768) = max (-32) (b / 32768) := by
  subst h
  rfl
theorem mn_c {a b : Int} (h : a = b) : min (31 : Int32).toInt (a / 32768) = min 31 (b / 32768) := by
  subst h
  rfl
theorem lo_t {p f k h c s : Int32} (hp : Btw p (-400000000) 400000000) (hf : Btw f 0 60) (hk : Btw k 0 60) (hh : Btw h 0 20) (hc : Btw c (-4096) 4096) (hs : Btw s (-4096) 4096) : (firI (p + minI (f * c) (-k * c) - (h * absI s + 4096))).toInt = max (-32) ((p.toInt + min (f.toInt * c.toInt) (-k.toInt * c.toInt) - h.toInt * max s.toInt (-s.toInt) + 12287) / 32768) ∧ (lasI (p + maxI (f * c) (-k * c) + (h * absI s + 4096))).toInt = min 31 ((p.toInt + max (f.toInt * c.toInt) (-k.toInt * c.toInt) + h.toInt * max s.toInt (-s.toInt) - 12288) / 32768) := by
  have q1 := abs_mul (a := f.toInt) (b := c.toInt) (A := 60) (B := 4096) (by have := hf.1; omega) hf.2 hc.1 hc.2
  have ek : (-k).toInt = -k.toInt := ti_neg (by have := hk.1; omega)
  have q2 := abs_mul (a := -k.toInt) (b := c.toInt) (A := 60) (B := 4096) (by have := hk.2; omega) (by have := hk.1; omega) hc.1 hc.2
  have ea : (absI s).toInt = max s.toInt (-s.toInt) := by
    rw [absI_t hs.1 hs.2]
    split <;> omega
  have q3 := abs_mul (a := h.toInt) (b := max s.toInt (-s.toInt)) (A := 20) (B := 4096) (by have := hh.1; omega) hh.2 (by have := hs.1; have := hs.2; omega) (by have := hs.1; have := hs.2; omega)
  have e1 : (f * c).toInt = f.toInt * c.toInt := ti_mul (by omega) (by omega)
  have e2 : (-k * c).toInt = -k.toInt * c.toInt := by rw [ti_mul (by rw [ek]; omega) (by rw [ek]; omega), ek]
  have e3 : (h * absI s).toInt = h.toInt * max s.toInt (-s.toInt) := by rw [ti_mul (by rw [ea]; omega) (by rw [ea]; omega), ea]
  have c1 : (4096 : Int32).toInt = 4096 := rfl
  have c2 : (16384 : Int32).toInt = 16384 := rfl
  have c3 : (32768 : Int32).toInt = 32768 := rfl
  have c4 : (1 : Int32).toInt = 1 := rfl
  have e4 : (h * absI s + 4096).toInt = h.toInt * max s.toInt (-s.toInt) + 4096 := by rw [ti_add (by rw [e3, c1]; omega) (by rw [e3, c1]; omega), e3, c1]
  have p1 := hp.1
  have p2 := hp.2
  constructor
  · have e5 : (minI (f * c) (-k * c)).toInt = min (f.toInt * c.toInt) (-k.toInt * c.toInt) := by rw [minI_t, e1, e2]
    have e6 : (p + minI (f * c) (-k * c)).toInt = p.toInt + min (f.toInt * c.toInt) (-k.toInt * c.toInt) := by rw [ti_add (by rw [e5]; omega) (by rw [e5]; omega), e5]
    have e7 : (p + minI (f * c) (-k * c) - (h * absI s + 4096)).toInt = p.toInt + min (f.toInt * c.toInt) (-k.toInt * c.toInt) - (h.toInt * max s.toInt (-s.toInt) + 4096) := by rw [ti_sub (by rw [e6, e4]; omega) (by rw [e6, e4]; omega), e6, e4]
    unfold firI
    rw [maxI_t, fdivI_t]
    have e8 : ∀ v : Int32, -450000000 ≤ v.toInt → v.toInt ≤ 450000000 → (v - 16384 + 32768 - 1).toInt = v.toInt + 16383 := fun v v1 v2 => by
      have g1 : (v - 16384).toInt = v.toInt - 16384 := by rw [ti_sub (by rw [c2]; omega) (by rw [c2]; omega), c2]
      have g2 : (v - 16384 + 32768).toInt = v.toInt - 16384 + 32768 := by rw [ti_add (by rw [g1, c3]; omega) (by rw [g1, c3]; omega), g1, c3]
      rw [ti_sub (by rw [g2, c4]; omega) (by rw [g2, c4]; omega), g2, c4]
      omega
    rw [e8 _ (by rw [e7]; omega) (by rw [e7]; omega), e7]
    exact mx_c (by omega)
  · have e5 : (maxI (f * c) (-k * c)).toInt = max (f.toInt * c.toInt) (-k.toInt * c.toInt) := by rw [maxI_t, e1, e2]
    have e6 : (p + maxI (f * c) (-k * c)).toInt = p.toInt + max (f.toInt * c.toInt) (-k.toInt * c.toInt) := by rw [ti_add (by rw [e5]; omega) (by rw [e5]; omega), e5]
    have e7 : (p + maxI (f * c) (-k * c) + (h * absI s + 4096)).toInt = p.toInt + max (f.toInt * c.toInt) (-k.toInt * c.toInt) + (h.toInt * max s.toInt (-s.toInt) + 4096) := by rw [ti_add (by rw [e6, e4]; omega) (by rw [e6, e4]; omega), e6, e4]
    unfold lasI
    rw [minI_t, fdivI_t, ti_sub (by rw [e7, c2]; omega) (by rw [e7, c2]; omega), e7, c2]
    exact mn_c (by omega)
/-- a body's rectangle holds a cell's middle -/
def inC (sh po : St2) (b : Nat) (i j : Int32) : Int32 := insI sh b ((midI i - po 0 b).toInt64 * (dX (po 2 b)).toInt64 + (midI j - po 1 b).toInt64 * (dY (po 2 b)).toInt64) ((midI j - po 1 b).toInt64 * (dX (po 2 b)).toInt64 - (midI i - po 0 b).toInt64 * (dY (po 2 b)).toInt64)
theorem mid_t {i p : Int32} (hp : Btw p (-400000000) 400000000) (h1 : -32 ≤ i.toInt) (h2 : i.toInt ≤ 32) : (midI i - p).toInt = 32768 * i.toInt + 16384 - p.toInt := by
  have p1 := hp.1
  have p2 := hp.2
  have c2 : (16384 : Int32).toInt = 16384 := rfl
  have c3 : (32768 : Int32).toInt = 32768 := rfl
  unfold midI
  have g1 : (i * 32768).toInt = i.toInt * 32768 := by rw [ti_mul (by rw [c3]; omega) (by rw [c3]; omega), c3]
  have g2 : (i * 32768 + 16384).toInt = i.toInt * 32768 + 16384 := by rw [ti_add (by rw [g1, c2]; omega) (by rw [g1, c2]; omega), g1, c2]
  rw [ti_sub (by rw [g2]; omega) (by rw [g2]; omega), g2]
  omega
theorem insI_1 {sh : St2} {b : Nat} {x y : Int64} (h : ¬ insI sh b x y = 0) (h2 : Btw (sh 2 b) 0 60) (h3 : Btw (sh 3 b) 0 60) (h4 : Btw (sh 4 b) 1 20) : (-((sh 3 b).toInt * 16777216) ≤ x.toInt ∧ x.toInt ≤ (sh 2 b).toInt * 16777216) ∧ -((sh 4 b).toInt * 16777216) ≤ y.toInt ∧ y.toInt ≤ (sh 4 b).toInt * 16777216 := by
  have c0 : (16777216 : Int64).toInt = 16777216 := rfl
  have e1 : ∀ v : Int32, Btw v 0 60 → (v.toInt64 * 16777216).toInt = v.toInt * 16777216 ∧ ((-v).toInt64 * 16777216).toInt = -(v.toInt * 16777216) := fun v hv => by
    have v1 := hv.1
    have v2 := hv.2
    have en : (-v).toInt = -v.toInt := ti_neg (by omega)
    constructor
    · rw [tl_mul (by rw [tl_of, c0]; omega) (by rw [tl_of, c0]; omega), tl_of, c0]
    · rw [tl_mul (by rw [tl_of, c0, en]; omega) (by rw [tl_of, c0, en]; omega), tl_of, c0, en]
      omega
  have h4' : Btw (sh 4 b) 0 60 := ⟨by have := h4.1; omega, by have := h4.2; omega⟩
  unfold insI at h
  by_cases a1 : x < (-(sh 3 b)).toInt64 * 16777216
  · rw [if_pos a1] at h
    exact absurd rfl h
  rw [if_neg a1] at h
  by_cases a2 : (sh 2 b).toInt64 * 16777216 < x
  · rw [if_pos a2] at h
    exact absurd rfl h
  rw [if_neg a2] at h
  by_cases a3 : y < (-(sh 4 b)).toInt64 * 16777216
  · rw [if_pos a3] at h
    exact absurd rfl h
  rw [if_neg a3] at h
  by_cases a4 : (sh 4 b).toInt64 * 16777216 < y
  · rw [if_pos a4] at h
    exact absurd rfl h
  rw [i64_lt, (e1 _ h3).2] at a1
  rw [i64_lt, (e1 _ h2).1] at a2
  rw [i64_lt, (e1 _ h4').2] at a3
  rw [i64_lt, (e1 _ h4').1] at a4
  omega
theorem inC_far {sh po : St2} {b : Nat} {i j : Int32} (h : ¬ inC sh po b i j = 0) (h2 : Btw (sh 2 b) 0 60) (h3 : Btw (sh 3 b) 0 60) (h4 : Btw (sh 4 b) 1 20) (p0 : Btw (po 0 b) (-400000000) 400000000) (p1 : Btw (po 1 b) (-400000000) 400000000) (i1 : -32 ≤ i.toInt) (i2 : i.toInt ≤ 31) (j1 : -32 ≤ j.toInt) (j2 : j.toInt ≤ 31) {c s f k w : Int} (ec : (dX (po 2 b)).toInt = c) (es : (dY (po 2 b)).toInt = s) (ef : (sh 2 b).toInt = f) (ek : (sh 3 b).toInt = k) (ew : (sh 4 b).toInt = w) : (min (f * c) (-k * c) - w * max s (-s) - 4096 ≤ 32768 * i.toInt + 16384 - (po 0 b).toInt ∧ 32768 * i.toInt + 16384 - (po 0 b).toInt ≤ max (f * c) (-k * c) + w * max s (-s) + 4096) ∧ min (f * s) (-k * s) - w * max c (-c) - 4096 ≤ 32768 * j.toInt + 16384 - (po 1 b).toInt ∧ 32768 * j.toInt + 16384 - (po 1 b).toInt ≤ max (f * s) (-k * s) + w * max c (-c) + 4096 := by
  obtain ⟨⟨a1, a2⟩, a3, a4⟩ := insI_1 h h2 h3 h4
  have cb := dX_b (po 2 b)
  have sb := dY_b (po 2 b)
  have D := (dXY_D (po 2 b)).1
  rw [ec] at cb D
  rw [es] at sb D
  have eX := mid_t (p := po 0 b) p0 i1 (by omega)
  have eY := mid_t (p := po 1 b) p1 j1 (by omega)
  obtain ⟨X, hX⟩ : ∃ X, 32768 * i.toInt + 16384 - (po 0 b).toInt = X := ⟨_, rfl⟩
  obtain ⟨Y, hY⟩ : ∃ Y, 32768 * j.toInt + 16384 - (po 1 b).toInt = Y := ⟨_, rfl⟩
  rw [hX] at eX
  rw [hY] at eY
  have Xb : -402000000 ≤ X ∧ X ≤ 402000000 := by
    have := p0.1
    have := p0.2
    omega
  have Yb : -402000000 ≤ Y ∧ Y ≤ 402000000 := by
    have := p1.1
    have := p1.2
    omega
  have m1 := abs_mul (a := X) (b := c) (A := 402000000) (B := 4096) (by omega) (by omega) cb.1 cb.2
  have m2 := abs_mul (a := Y) (b := s) (A := 402000000) (B := 4096) (by omega) (by omega) sb.1 sb.2
  have m3 := abs_mul (a := Y) (b := c) (A := 402000000) (B := 4096) (by omega) (by omega) cb.1 cb.2
  have m4 := abs_mul (a := X) (b := s) (A := 402000000) (B := 4096) (by omega) (by omega) sb.1 sb.2
  have t1 : ((midI i - po 0 b).toInt64 * (dX (po 2 b)).toInt64).toInt = X * c := by rw [tl_mul (by rw [tl_of, tl_of, eX, ec]; omega) (by rw [tl_of, tl_of, eX, ec]; omega), tl_of, tl_of, eX, ec]
  have t2 : ((midI j - po 1 b).toInt64 * (dY (po 2 b)).toInt64).toInt = Y * s := by rw [tl_mul (by rw [tl_of, tl_of, eY, es]; omega) (by rw [tl_of, tl_of, eY, es]; omega), tl_of, tl_of, eY, es]
  have t3 : ((midI j - po 1 b).toInt64 * (dX (po 2 b)).toInt64).toInt = Y * c := by rw [tl_mul (by rw [tl_of, tl_of, eY, ec]; omega) (by rw [tl_of, tl_of, eY, ec]; omega), tl_of, tl_of, eY, ec]
  have t4 : ((midI i - po 0 b).toInt64 * (dY (po 2 b)).toInt64).toInt = X * s := by rw [tl_mul (by rw [tl_of, tl_of, eX, es]; omega) (by rw [tl_of, tl_of, eX, es]; omega), tl_of, tl_of, eX, es]
  rw [tl_add (by rw [t1, t2]; omega) (by rw [t1, t2]; omega), t1, t2] at a1 a2
  rw [tl_sub (by rw [t3, t4]; omega) (by rw [t3, t4]; omega), t3, t4] at a3 a4
  rw [hX, hY]
  rw [ef] at a2
  rw [ek] at a1
  rw [ew] at a3 a4
  have fb := h2
  have kb := h3
  have wb := h4
  unfold Btw at fb kb wb
  rw [ef] at fb
  rw [ek] at kb
  rw [ew] at wb
  have r1 : X * (c * c + s * s) = (X * c + Y * s) * c - (Y * c - X * s) * s := by grind
  have r2 : -X * (c * c + s * s) = (X * c + Y * s) * -c - (Y * c - X * s) * -s := by grind
  have r3 : Y * (c * c + s * s) = (X * c + Y * s) * s - (Y * c - X * s) * -c := by grind
  have r4 : -Y * (c * c + s * s) = (X * c + Y * s) * -s - (Y * c - X * s) * c := by grind
  have s1 := farG r1 D fb.1 fb.2 kb.1 kb.2 (by omega) wb.2 cb.1 cb.2 sb.1 sb.2 a1 a2 a3 a4
  have s2 := farG r2 D fb.1 fb.2 kb.1 kb.2 (by omega) wb.2 (by omega) (by omega) (by omega) (by omega) a1 a2 a3 a4
  have s3 := farG r3 D fb.1 fb.2 kb.1 kb.2 (by omega) wb.2 sb.1 sb.2 (by omega) (by omega) a1 a2 a3 a4
  have s4 := farG r4 D fb.1 fb.2 kb.1 kb.2 (by omega) wb.2 (by omega) (by omega) cb.1 cb.2 a1 a2 a3 a4
  rw [Int.neg_neg, Int.mul_neg, Int.mul_neg, Int.max_comm (-s)] at s2
  rw [Int.neg_neg, Int.max_comm (-c)] at s3
  rw [Int.mul_neg, Int.mul_neg] at s4
  refine ⟨⟨s1, ?_⟩, s3, ?_⟩
  · omega
  · omega
