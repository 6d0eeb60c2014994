/-! both ways of covering mark the same cells -/
def ShB (sh : St2) (b : Nat) : Prop := Btw (sh 2 b) 0 60 ∧ Btw (sh 3 b) 0 60 ∧ Btw (sh 4 b) 1 20
def PoB (po : St2) (b : Nat) : Prop := Btw (po 0 b) (-400000000) 400000000 ∧ Btw (po 1 b) (-400000000) 400000000
def TZ (sh po : St2) (b z : Nat) : Bool := decide (¬ inC sh po b (zi z) (zj z) = 0)
theorem TZ_iff {sh po : St2} {b z : Nat} : TZ sh po b z = true ↔ ¬ inC sh po b (zi z) (zj z) = 0 := by
  unfold TZ
  rw [decide_eq_true_iff]
theorem n32_t {a : Nat} (h : a < 100000) : (nI a - 32).toInt = (a : Int) - 32 := by
  have e : (32 : Int32).toInt = 32 := rfl
  rw [ti_sub (by rw [nI_toInt (by omega), e]; omega) (by rw [nI_toInt (by omega), e]; omega), nI_toInt (by omega), e]
theorem n32_s (a : Nat) : nI a - 32 + 1 = nI (a + 1) - 32 := by
  rw [nI_succ]
  grind
theorem i_of {i : Int32} (h : -32 ≤ i.toInt) (h2 : i.toInt ≤ 70000) : i = nI (i.toInt + 32).toNat - 32 := by
  apply Int32.toInt_inj.mp
  rw [n32_t (by omega)]
  omega
theorem zi_t {z : Nat} (h : z < 4096) : (zi z).toInt = ((z / 64 : Nat) : Int) - 32 := n32_t (by omega)
theorem zj_t {z : Nat} (h : z < 4096) : (zj z).toInt = ((z % 64 : Nat) : Int) - 32 := n32_t (by omega)
theorem box_C {sh po : St2} {b z : Nat} (h : ShB sh b) (hp : PoB po b) (hz : z < 4096) (hT : TZ sh po b z = true) : ((fiI sh po b).toInt ≤ (zi z).toInt ∧ (zi z).toInt ≤ (liI sh po b).toInt) ∧ (fjI sh po b).toInt ≤ (zj z).toInt ∧ (zj z).toInt ≤ (ljI sh po b).toInt := by
  have e1 := zi_t hz
  have e2 := zj_t hz
  have h4 : Btw (sh 4 b) 0 20 := ⟨by have := h.2.2.1; omega, h.2.2.2⟩
  have cb : Btw (dX (po 2 b)) (-4096) 4096 := dX_b _
  have sb : Btw (dY (po 2 b)) (-4096) 4096 := dY_b _
  have g := inC_far (TZ_iff.mp hT) h.1 h.2.1 h.2.2 hp.1 hp.2 (by omega) (by omega) (by omega) (by omega) rfl rfl rfl rfl rfl
  have l1 := lo_t hp.1 h.1 h.2.1 h4 cb sb
  have l2 := lo_t hp.2 h.1 h.2.1 h4 sb cb
  unfold fiI liI fjI ljI
  rw [l1.1, l1.2, l2.1, l2.2]
  obtain ⟨⟨g1, g2⟩, g3, g4⟩ := g
  generalize min ((sh 2 b).toInt * (dX (po 2 b)).toInt) (-(sh 3 b).toInt * (dX (po 2 b)).toInt) = m1 at *
  generalize max ((sh 2 b).toInt * (dX (po 2 b)).toInt) (-(sh 3 b).toInt * (dX (po 2 b)).toInt) = m2 at *
  generalize min ((sh 2 b).toInt * (dY (po 2 b)).toInt) (-(sh 3 b).toInt * (dY (po 2 b)).toInt) = m3 at *
  generalize max ((sh 2 b).toInt * (dY (po 2 b)).toInt) (-(sh 3 b).toInt * (dY (po 2 b)).toInt) = m4 at *
  generalize (sh 4 b).toInt * max (dY (po 2 b)).toInt (-(dY (po 2 b)).toInt) = m5 at *
  generalize (sh 4 b).toInt * max (dX (po 2 b)).toInt (-(dX (po 2 b)).toInt) = m6 at *
  clear l1 l2 cb sb h4 hT h hp
  refine ⟨⟨?_, ?_⟩, ?_, ?_⟩ <;> omega
theorem frI_t {p : Int32} : (frI p).toInt = max (-32) (min 31 (p.toInt / 32768 - 10)) ∧ (toI p).toInt = max (-32) (min 31 (p.toInt / 32768 + 10)) := by
  have h1 := Int32.le_toInt p
  have h2 := Int32.toInt_lt p
  have e : (10 : Int32).toInt = 10 := rfl
  have c := cellI_t (p := p)
  unfold frI toI
  rw [withI_t, withI_t, ti_sub (by rw [c, e]; omega) (by rw [c, e]; omega), ti_add (by rw [c, e]; omega) (by rw [c, e]; omega), c, e]
  constructor <;> (repeat' split) <;> omega
theorem box_M {sh po : St2} {b z : Nat} (h : ShB sh b) (hp : PoB po b) (hz : z < 4096) (hT : TZ sh po b z = true) : ((frI (po 0 b)).toInt ≤ (zi z).toInt ∧ (zi z).toInt ≤ (toI (po 0 b)).toInt) ∧ (frI (po 1 b)).toInt ≤ (zj z).toInt ∧ (zj z).toInt ≤ (toI (po 1 b)).toInt := by
  have e1 := zi_t hz
  have e2 := zj_t hz
  have cb := dX_b (po 2 b)
  have sb := dY_b (po 2 b)
  have g := inC_far (TZ_iff.mp hT) h.1 h.2.1 h.2.2 hp.1 hp.2 (by omega) (by omega) (by omega) (by omega) rfl rfl rfl rfl rfl
  have f1 := h.1.1
  have f2 := h.1.2
  have k1 := h.2.1.1
  have k2 := h.2.1.2
  have w1 := h.2.2.1
  have w2 := h.2.2.2
  have q1 := abs_mul (a := (sh 2 b).toInt) (b := (dX (po 2 b)).toInt) (A := 60) (B := 4096) (by omega) (by omega) cb.1 cb.2
  have q2 := abs_mul (a := -(sh 3 b).toInt) (b := (dX (po 2 b)).toInt) (A := 60) (B := 4096) (by omega) (by omega) cb.1 cb.2
  have q3 := abs_mul (a := (sh 2 b).toInt) (b := (dY (po 2 b)).toInt) (A := 60) (B := 4096) (by omega) (by omega) sb.1 sb.2
  have q4 := abs_mul (a := -(sh 3 b).toInt) (b := (dY (po 2 b)).toInt) (A := 60) (B := 4096) (by omega) (by omega) sb.1 sb.2
  have q5 := abs_mul (a := (sh 4 b).toInt) (b := max (dX (po 2 b)).toInt (-(dX (po 2 b)).toInt)) (A := 20) (B := 4096) (by omega) (by omega) (by omega) (by omega)
  have q6 := abs_mul (a := (sh 4 b).toInt) (b := max (dY (po 2 b)).toInt (-(dY (po 2 b)).toInt)) (A := 20) (B := 4096) (by omega) (by omega) (by omega) (by omega)
  rw [(frI_t (p := po 0 b)).1, (frI_t (p := po 0 b)).2, (frI_t (p := po 1 b)).1, (frI_t (p := po 1 b)).2]
  obtain ⟨⟨g1, g2⟩, g3, g4⟩ := g
  have r1 : -331776 ≤ 32768 * (zi z).toInt + 16384 - (po 0 b).toInt := by omega
  have r2 : 32768 * (zi z).toInt + 16384 - (po 0 b).toInt ≤ 331776 := by omega
  have r3 : -331776 ≤ 32768 * (zj z).toInt + 16384 - (po 1 b).toInt := by omega
  have r4 : 32768 * (zj z).toInt + 16384 - (po 1 b).toInt ≤ 331776 := by omega
  clear q1 q2 q3 q4 q5 q6 g1 g2 g3 g4 cb sb f1 f2 k1 k2 w1 w2 h hp hT
  refine ⟨⟨?_, ?_⟩, ?_, ?_⟩ <;> omega
theorem itr_inv {α : Type} {f : α → α} : ∀ {n : Nat} {P : Nat → α → Prop} {x : α}, P 0 x → (∀ t y, t < n → P t y → P (t + 1) (f y)) → P n (itr f n x)
  | 0, _, _, h, _ => h
  | n + 1, P, x, h, hs => by
    rw [itr_s]
    exact itr_inv (n := n) (P := fun t => P (t + 1)) (hs 0 x (by omega) h) (fun t y ht hy => hs (t + 1) y (by omega) hy)
theorem mid_s {i p : Int32} (hp : Btw p (-400000000) 400000000) (h1 : -32 ≤ i.toInt) (h2 : i.toInt ≤ 31) : (midI (i + 1) - p).toInt64 = (midI i - p).toInt64 + 32768 := by
  have e1 : (i + 1).toInt = i.toInt + 1 := succ_toInt h1 h2
  have e2 := mid_t hp h1 (by omega)
  have e3 := mid_t (i := i + 1) hp (by omega) (by omega)
  have c : (32768 : Int64).toInt = 32768 := rfl
  have p1 := hp.1
  have p2 := hp.2
  apply Int64.toInt_inj.mp
  rw [tl_add (by rw [tl_of, e2, c]; omega) (by rw [tl_of, e2, c]; omega), tl_of, tl_of, e2, e3, c, e1]
  omega
/-- one row of the class's box -/
theorem covI_C {sh po : St2} {b a0 jn n : Nat} {v : Int64} {Z : Nat → Bool} {x : CC} (hp : PoB po b) (hj : jn < 64) (hv : v = (midI (nI jn - 32) - po 1 b).toInt64) (hn : ∀ t, t < n → a0 + t < 64) (hZ : CelC Z x) : CelC (fun z => Z z || (TZ sh po b z && decide (z % 64 = jn ∧ a0 ≤ z / 64 ∧ z / 64 < a0 + n))) (covI sh b (dX (po 2 b)) (dY (po 2 b)) (nI jn - 32) n (nI a0 - 32) ((midI (nI a0 - 32) - po 0 b).toInt64 * (dX (po 2 b)).toInt64 + v * (dY (po 2 b)).toInt64) (v * (dX (po 2 b)).toInt64 - (midI (nI a0 - 32) - po 0 b).toInt64 * (dY (po 2 b)).toInt64) x) := by
  unfold covI
  refine (itr_inv (P := fun t (q : Int32 × Int64 × Int64 × CC) => q.1 = nI (a0 + t) - 32 ∧ q.2.1 = (midI q.1 - po 0 b).toInt64 * (dX (po 2 b)).toInt64 + v * (dY (po 2 b)).toInt64 ∧ q.2.2.1 = v * (dX (po 2 b)).toInt64 - (midI q.1 - po 0 b).toInt64 * (dY (po 2 b)).toInt64 ∧ CelC (fun z => Z z || (TZ sh po b z && decide (z % 64 = jn ∧ a0 ≤ z / 64 ∧ z / 64 < a0 + t))) q.2.2.2) ?_ ?_).2.2.2
  · refine ⟨rfl, rfl, rfl, hZ.ext (fun z _ => ?_)⟩
    have : ¬ (z % 64 = jn ∧ a0 ≤ z / 64 ∧ z / 64 < a0 + 0) := by omega
    rw [decide_eq_false this, Bool.and_false, Bool.or_false]
  · intro t q ht hq
    obtain ⟨q1, q2, q3, q4⟩ := hq
    have ha := hn t ht
    have hi := n32_t (a := a0 + t) (by omega)
    have hm := mid_s (i := q.1) hp.1 (by rw [q1]; omega) (by rw [q1]; omega)
    have hw : 64 * (a0 + t) + jn < 4096 := by omega
    have ew1 : zi (64 * (a0 + t) + jn) = q.1 := (zi_of hj).trans q1.symm
    have ew2 : zj (64 * (a0 + t) + jn) = nI jn - 32 := zj_of hj
    have eI : insI sh b q.2.1 q.2.2.1 = inC sh po b (zi (64 * (a0 + t) + jn)) (zj (64 * (a0 + t) + jn)) := by
      unfold inC
      rw [ew1, ew2, q2, q3, hv]
    unfold stepI
    dsimp only
    refine ⟨?_, ?_, ?_, ?_⟩
    · rw [q1, n32_s]
      rfl
    · rw [hm, q2]
      grind
    · rw [hm, q3]
      grind
    · rw [eI]
      by_cases c : inC sh po b (zi (64 * (a0 + t) + jn)) (zj (64 * (a0 + t) + jn)) = 0
      · rw [if_pos c]
        refine q4.ext (fun z hz => ?_)
        by_cases e : z = 64 * (a0 + t) + jn
        · have hT : TZ sh po b z = false := by
            rw [e]
            unfold TZ
            simp [c]
          simp [hT]
        · have : (z % 64 = jn ∧ a0 ≤ z / 64 ∧ z / 64 < a0 + t) ↔ (z % 64 = jn ∧ a0 ≤ z / 64 ∧ z / 64 < a0 + (t + 1)) := by omega
          rw [decide_eq_decide.mpr this]
      · rw [if_neg c, ← ew1, ← ew2]
        refine (markF_C q4 hw).ext (fun z hz => ?_)
        by_cases e : z = 64 * (a0 + t) + jn
        · have hT : TZ sh po b z = true := by
            rw [e]
            exact TZ_iff.mpr c
          have h2 : z % 64 = jn ∧ a0 ≤ z / 64 ∧ z / 64 < a0 + (t + 1) := by omega
          rw [decide_eq_true h2, decide_eq_true e, hT]
          simp
        · have : (z % 64 = jn ∧ a0 ≤ z / 64 ∧ z / 64 < a0 + t) ↔ (z % 64 = jn ∧ a0 ≤ z / 64 ∧ z / 64 < a0 + (t + 1)) := by omega
          rw [decide_eq_decide.mpr this, decide_eq_false e, Bool.or_false]
theorem covJ_C {sh po : St2} {b a0 b0 ni n : Nat} {Z : Nat → Bool} {x : CC} (hp : PoB po b) (hi : ∀ t, t < ni → a0 + t < 64) (hn : ∀ t, t < n → b0 + t < 64) (hZ : CelC Z x) : CelC (fun z => Z z || (TZ sh po b z && decide ((a0 ≤ z / 64 ∧ z / 64 < a0 + ni) ∧ b0 ≤ z % 64 ∧ z % 64 < b0 + n))) (covJ sh po b (dX (po 2 b)) (dY (po 2 b)) (nI a0 - 32) ni (midI (nI a0 - 32) - po 0 b).toInt64 n (nI b0 - 32) x) := by
  unfold covJ
  refine (itr_inv (P := fun t (q : Int32 × CC) => q.1 = nI (b0 + t) - 32 ∧ CelC (fun z => Z z || (TZ sh po b z && decide ((a0 ≤ z / 64 ∧ z / 64 < a0 + ni) ∧ b0 ≤ z % 64 ∧ z % 64 < b0 + t))) q.2) ?_ ?_).2
  · refine ⟨rfl, hZ.ext (fun z _ => ?_)⟩
    have : ¬ ((a0 ≤ z / 64 ∧ z / 64 < a0 + ni) ∧ b0 ≤ z % 64 ∧ z % 64 < b0 + 0) := by omega
    rw [decide_eq_false this, Bool.and_false, Bool.or_false]
  · intro t q ht hq
    obtain ⟨q1, q2⟩ := hq
    unfold stepJ
    dsimp only
    refine ⟨by rw [q1, n32_s]; rfl, ?_⟩
    rw [q1]
    refine (covI_C hp (hn t ht) rfl hi q2).ext (fun z hz => ?_)
    have h3 : ((a0 ≤ z / 64 ∧ z / 64 < a0 + ni) ∧ b0 ≤ z % 64 ∧ z % 64 < b0 + (t + 1)) ↔ (((a0 ≤ z / 64 ∧ z / 64 < a0 + ni) ∧ b0 ≤ z % 64 ∧ z % 64 < b0 + t) ∨ (z % 64 = b0 + t ∧ a0 ≤ z / 64 ∧ z / 64 < a0 + ni)) := by omega
    rw [decide_eq_decide.mpr h3, Bool.decide_or]
    cases Z z <;> cases TZ sh po b z <;> simp
theorem cov_ext {Z T : Nat → Bool} {z : Nat} {p : Prop} [Decidable p] (h : T z = true → p) : (Z z || (T z && decide p)) = (Z z || T z) := by
  cases hT : T z
  · simp
  · simp [h hT]
/-- the class's cover -/
theorem coverF_C {sh po : St2} {b : Nat} {Z : Nat → Bool} {x : CC} (h : ShB sh b) (hp : PoB po b) (hZ : CelC Z x) : CelC (fun z => Z z || TZ sh po b z) (coverF sh po b x) := by
  have l : ∀ p : Int32, -32 ≤ (firI p).toInt ∧ (firI p).toInt ≤ 70000 := fun p => by
    refine ⟨firI_ge p, ?_⟩
    have h2 := Int32.toInt_lt (p - 16384 + 32768 - 1)
    unfold firI
    rw [maxI_t, fdivI_t, show (-32 : Int32).toInt = -32 from rfl]
    omega
  have u : ∀ p : Int32, (lasI p).toInt ≤ 31 := lasI_le
  have i1 : -32 ≤ (fiI sh po b).toInt ∧ (fiI sh po b).toInt ≤ 70000 := l _
  have j1 : -32 ≤ (fjI sh po b).toInt ∧ (fjI sh po b).toInt ≤ 70000 := l _
  have i2 : (liI sh po b).toInt ≤ 31 := u _
  have j2 : (ljI sh po b).toInt ≤ 31 := u _
  have bx := fun z hz hT => box_C (z := z) h hp hz hT
  unfold coverF
  generalize fiI sh po b = fi at *
  generalize fjI sh po b = fj at *
  generalize liI sh po b = li at *
  generalize ljI sh po b = lj at *
  have ei := i_of i1.1 i1.2
  have ej := i_of j1.1 j1.2
  have g := covJ_C (sh := sh) (a0 := (fi.toInt + 32).toNat) (b0 := (fj.toInt + 32).toNat) (ni := cntI fi li) (n := cntI fj lj) hp (fun t ht => by unfold cntI at ht; omega) (fun t ht => by unfold cntI at ht; omega) hZ
  rw [← ei, ← ej] at g
  refine g.ext (fun z hz => ?_)
  refine cov_ext (T := TZ sh po b) (fun hT => ?_)
  have b1 := bx z hz hT
  rw [zi_t hz, zj_t hz] at b1
  unfold cntI
  omega
/-- the reference's cover -/
theorem covM_in {a : St2} {b : Nat} {i j : Int32} : covM a b (4096 * ((8 * i) + 4)) (4096 * ((8 * j) + 4)) = inC (shM a) (poM a) b i j := by
  have e : ∀ i : Int32, 4096 * ((8 * i) + 4) = midI i := fun i => by
    unfold midI
    grind
  rw [e, e]
  rfl
theorem rowM_C {a : St2} {b an b0 n : Nat} {Z : Nat → Bool} {q : CM} (ha : an < 64) (hn : ∀ t, t < n → b0 + t < 64) (hZ : CelM Z q) : CelM (fun z => Z z || (TZ (shM a) (poM a) b z && decide (z / 64 = an ∧ b0 ≤ z % 64 ∧ z % 64 < b0 + n))) (rowM a b (nI an - 32) n (nI b0 - 32) q) := by
  unfold rowM
  refine (itr_inv (P := fun t (r : Int32 × CM) => r.1 = nI (b0 + t) - 32 ∧ CelM (fun z => Z z || (TZ (shM a) (poM a) b z && decide (z / 64 = an ∧ b0 ≤ z % 64 ∧ z % 64 < b0 + t))) r.2) ?_ ?_).2
  · refine ⟨rfl, hZ.ext (fun z _ => ?_)⟩
    have : ¬ (z / 64 = an ∧ b0 ≤ z % 64 ∧ z % 64 < b0 + 0) := by omega
    rw [decide_eq_false this, Bool.and_false, Bool.or_false]
  · intro t r ht hr
    obtain ⟨r1, r2⟩ := hr
    have hb := hn t ht
    have hw : 64 * an + (b0 + t) < 4096 := by omega
    unfold stepMj
    dsimp only
    refine ⟨by rw [r1, n32_s]; rfl, ?_⟩
    have g := mkM_C (a := a) (b := b) (T := TZ (shM a) (poM a) b (64 * an + (b0 + t))) r2 hw (TZ_iff.trans (by rw [covM_in]))
    rw [zi_of hb, zj_of hb, ← r1] at g
    refine g.ext (fun z hz => ?_)
    by_cases e : z = 64 * an + (b0 + t)
    · have h2 : z / 64 = an ∧ b0 ≤ z % 64 ∧ z % 64 < b0 + (t + 1) := by omega
      have h3 : ¬ (z / 64 = an ∧ b0 ≤ z % 64 ∧ z % 64 < b0 + t) := by omega
      rw [decide_eq_true h2, decide_eq_false h3, decide_eq_true e, ← e]
      simp
    · have h2 : (z / 64 = an ∧ b0 ≤ z % 64 ∧ z % 64 < b0 + t) ↔ (z / 64 = an ∧ b0 ≤ z % 64 ∧ z % 64 < b0 + (t + 1)) := by omega
      rw [decide_eq_decide.mpr h2, decide_eq_false e, Bool.and_false, Bool.or_false]
theorem gridM_C {a : St2} {b a0 b0 nj n : Nat} {Z : Nat → Bool} {q : CM} (hj : ∀ t, t < nj → b0 + t < 64) (hn : ∀ t, t < n → a0 + t < 64) (hZ : CelM Z q) : CelM (fun z => Z z || (TZ (shM a) (poM a) b z && decide ((a0 ≤ z / 64 ∧ z / 64 < a0 + n) ∧ b0 ≤ z % 64 ∧ z % 64 < b0 + nj))) (gridM a b nj (nI b0 - 32) n (nI a0 - 32) q) := by
  unfold gridM
  refine (itr_inv (P := fun t (r : Int32 × CM) => r.1 = nI (a0 + t) - 32 ∧ CelM (fun z => Z z || (TZ (shM a) (poM a) b z && decide ((a0 ≤ z / 64 ∧ z / 64 < a0 + t) ∧ b0 ≤ z % 64 ∧ z % 64 < b0 + nj))) r.2) ?_ ?_).2
  · refine ⟨rfl, hZ.ext (fun z _ => ?_)⟩
    have : ¬ ((a0 ≤ z / 64 ∧ z / 64 < a0 + 0) ∧ b0 ≤ z % 64 ∧ z % 64 < b0 + nj) := by omega
    rw [decide_eq_false this, Bool.and_false, Bool.or_false]
  · intro t r ht hr
    obtain ⟨r1, r2⟩ := hr
    unfold stepMi
    dsimp only
    refine ⟨by rw [r1, n32_s]; rfl, ?_⟩
    rw [r1]
    refine (rowM_C (hn t ht) hj r2).ext (fun z hz => ?_)
    have h3 : ((a0 ≤ z / 64 ∧ z / 64 < a0 + (t + 1)) ∧ b0 ≤ z % 64 ∧ z % 64 < b0 + nj) ↔ (((a0 ≤ z / 64 ∧ z / 64 < a0 + t) ∧ b0 ≤ z % 64 ∧ z % 64 < b0 + nj) ∨ (z / 64 = a0 + t ∧ b0 ≤ z % 64 ∧ z % 64 < b0 + nj)) := by omega
    rw [decide_eq_decide.mpr h3, Bool.decide_or]
    cases Z z <;> cases TZ (shM a) (poM a) b z <;> simp
theorem gridF_C {a : St2} {b : Nat} {Z : Nat → Bool} {q : CM} (h : ShB (shM a) b) (hp : PoB (poM a) b) (hZ : CelM Z q) : CelM (fun z => Z z || TZ (shM a) (poM a) b z) (gridF a b q) := by
  have l : ∀ p : Int32, (-32 ≤ (frI p).toInt ∧ (frI p).toInt ≤ 31) ∧ (toI p).toInt ≤ 31 := fun p => by
    rw [frI_t.1, frI_t.2]
    omega
  have i1 := l (a 13 b)
  have j1 := l (a 14 b)
  have bx := fun z hz hT => box_M (z := z) h hp hz hT
  have e13 : poM a 0 b = a 13 b := rfl
  have e14 : poM a 1 b = a 14 b := rfl
  unfold gridF
  rw [e13, e14] at bx
  generalize frI (a 13 b) = fi at *
  generalize frI (a 14 b) = fj at *
  generalize toI (a 13 b) = li at *
  generalize toI (a 14 b) = lj at *
  have ei := i_of i1.1.1 (by omega)
  have ej := i_of j1.1.1 (by omega)
  have g := gridM_C (a := a) (b := b) (a0 := (fi.toInt + 32).toNat) (b0 := (fj.toInt + 32).toNat) (nj := cntI fj lj) (n := cntI fi li) (fun t ht => by unfold cntI at ht; omega) (fun t ht => by unfold cntI at ht; omega) hZ
  rw [← ei, ← ej] at g
  refine g.ext (fun z hz => ?_)
  refine cov_ext (T := TZ (shM a) (poM a) b) (fun hT => ?_)
  have b1 := bx z hz hT
  rw [zi_t hz, zj_t hz] at b1
  unfold cntI
  omega
theorem TZ_eq {sh po sh' po' : St2} {b : Nat} (h2 : sh 2 b = sh' 2 b) (h3 : sh 3 b = sh' 3 b) (h4 : sh 4 b = sh' 4 b) (p0 : po 0 b = po' 0 b) (p1 : po 1 b = po' 1 b) (p2 : po 2 b = po' 2 b) {z : Nat} : TZ sh po b z = TZ sh' po' b z := by
  unfold TZ inC insI
  rw [h2, h3, h4, p0, p1, p2]
