/-! sets of cells: bits and counts -/
theorem card_ext {Z Z' : Nat → Bool} : ∀ {n : Nat}, (∀ z, z < n → Z z = Z' z) → card Z n = card Z' n
  | 0, _ => rfl
  | n + 1, h => by
    have h1 := card_ext (n := n) (fun z hz => h z (by omega))
    have h2 := h n (by omega)
    unfold card
    rw [h1, h2]
theorem card_le {Z : Nat → Bool} : ∀ {n : Nat}, card Z n ≤ n
  | 0 => Nat.le_refl 0
  | n + 1 => by
    have h1 := card_le (Z := Z) (n := n)
    unfold card
    split <;> omega
theorem card_add {Z : Nat → Bool} {w : Nat} (hw : Z w = false) : ∀ {n : Nat}, w < n → card (fun z => Z z || decide (z = w)) n = card Z n + 1
  | 0, h => absurd h (by omega)
  | n + 1, h => by
    by_cases e : n = w
    · have h1 : card (fun z => Z z || decide (z = w)) n = card Z n := card_ext (fun z hz => by
        have : ¬ z = w := by omega
        simp [this])
      unfold card
      rw [h1, e]
      simp [hw]
    · have h1 := card_add (Z := Z) (w := w) hw (n := n) (by omega)
      unfold card
      rw [h1]
      simp only [e, decide_false, Bool.or_false]
      split <;> omega
theorem CelC.ext {Z Z' : Nat → Bool} {x : CC} (h : CelC Z x) (e : ∀ z, z < 4096 → Z z = Z' z) : CelC Z' x := by
  refine ⟨fun z hz => ?_, ?_⟩
  · rw [← e z hz]
    exact h.1 z hz
  · rw [← card_ext e]
    exact h.2
theorem CelM.ext {Z Z' : Nat → Bool} {x : CM} (h : CelM Z x) (e : ∀ z, z < 4096 → Z z = Z' z) : CelM Z' x := by
  refine ⟨fun z hz => ?_, ?_⟩
  · rw [← e z hz]
    exact h.1 z hz
  · rw [← card_ext e]
    exact h.2
theorem bitI_T : ∀ a, a < 64 → (bitI (nI a - 32)).toBitVec = BitVec.twoPow 64 ((a + 32) % 64) := by decide
theorem row_T : ∀ a, a < 64 → ((nI a - 32) &&& 63).toNatClampNeg = (a + 32) % 64 := by decide
theorem and_bit {r : Int64} {a : Nat} (h : a < 64) : r &&& bitI (nI a - 32) = 0 ↔ r.toBitVec.getLsbD ((a + 32) % 64) = false := by
  rw [← Int64.toBitVec_inj, Int64.toBitVec_and, bitI_T a h, BitVec.and_twoPow]
  have hk : (a + 32) % 64 < 64 := Nat.mod_lt _ (by decide)
  cases hb : r.toBitVec.getLsbD ((a + 32) % 64)
  · simp
  · simp only [if_true]
    constructor
    · intro q
      have q2 := congrArg (fun v : BitVec 64 => v.getLsbD ((a + 32) % 64)) q
      simp [BitVec.getLsbD_twoPow, hk] at q2
    · intro q
      cases q
theorem or_bit {r : Int64} {a b : Nat} (ha : a < 64) (hb : b < 64) : (r ||| bitI (nI a - 32)).toBitVec.getLsbD ((b + 32) % 64) = (r.toBitVec.getLsbD ((b + 32) % 64) || decide (b = a)) := by
  have hk : (b + 32) % 64 < 64 := Nat.mod_lt _ (by decide)
  rw [Int64.toBitVec_or, bitI_T a ha, BitVec.getLsbD_or, BitVec.getLsbD_twoPow]
  congr 1
  by_cases e : b = a
  · subst e
    simp [hk]
  · have : ¬ (a + 32) % 64 = (b + 32) % 64 := by omega
    simp [e, this]
theorem hasI_b {rows : Nat → Int64} {a b : Nat} (ha : a < 64) (hb : b < 64) : (¬ hasI rows (nI a - 32) (nI b - 32) = 0) ↔ (rows ((b + 32) % 64)).toBitVec.getLsbD ((a + 32) % 64) = true := by
  unfold hasI
  rw [row_T b hb]
  have h := and_bit (r := rows ((b + 32) % 64)) ha
  by_cases e : rows ((b + 32) % 64) &&& bitI (nI a - 32) = 0
  · rw [if_pos e, h.mp e]
    simp
  · rw [if_neg e]
    have : ¬ (rows ((b + 32) % 64)).toBitVec.getLsbD ((a + 32) % 64) = false := fun q => e (h.mpr q)
    simpa using this
theorem zi_of {a b : Nat} (hb : b < 64) : zi (64 * a + b) = nI a - 32 := by
  unfold zi
  rw [show (64 * a + b) / 64 = a by omega]
theorem zj_of {a b : Nat} (hb : b < 64) : zj (64 * a + b) = nI b - 32 := by
  unfold zj
  rw [show (64 * a + b) % 64 = b by omega]
theorem hasI_z {rows : Nat → Int64} {z : Nat} (hz : z < 4096) : (¬ hasI rows (zi z) (zj z) = 0) ↔ (rows ((z % 64 + 32) % 64)).toBitVec.getLsbD ((z / 64 + 32) % 64) = true := hasI_b (by omega) (by omega)
theorem bool_iff {a b : Bool} (h : a = true ↔ b = true) : a = b := by
  cases a <;> cases b <;> simp_all
/-- marking one cell, the class's way -/
theorem markF_C {Z : Nat → Bool} {x : CC} {w : Nat} (h : CelC Z x) (hw : w < 4096) : CelC (fun z => Z z || decide (z = w)) (markF (zi w) (zj w) x) := by
  have hq := (h.1 w hw).trans (hasI_z (rows := x.2) hw)
  have hb := and_bit (r := x.2 ((w % 64 + 32) % 64)) (a := w / 64) (by omega)
  unfold markF
  rw [show ((zj w) &&& 63).toNatClampNeg = (w % 64 + 32) % 64 from row_T _ (by omega)]
  by_cases e : x.2 ((w % 64 + 32) % 64) &&& bitI (zi w) = 0
  · rw [if_pos e]
    have e2 := hb.mp e
    have hZ : Z w = false := by
      cases hz : Z w
      · rfl
      · rw [hq.mp hz] at e2
        cases e2
    refine ⟨fun z hz => ?_, ?_⟩
    · dsimp only
      rw [hasI_z hz]
      have h1 := (h.1 z hz).trans (hasI_z (rows := x.2) hz)
      by_cases er : (z % 64 + 32) % 64 = (w % 64 + 32) % 64
      · rw [er, pk_uLs, show bitI (zi w) = bitI (nI (w / 64) - 32) from rfl, or_bit (by omega) (by omega)]
        rw [er] at h1
        have h3 : decide (z = w) = decide (z / 64 = w / 64) := by
          apply decide_eq_decide.mpr
          constructor
          · intro q; rw [q]
          · intro q; omega
        rw [h3, Bool.or_eq_true, Bool.or_eq_true, h1]
      · rw [pk_uLn er]
        have : ¬ z = w := fun q => er (by rw [q])
        simp only [this, decide_false, Bool.or_false]
        exact h1
    · dsimp only
      rw [card_add hZ hw, h.2, nI_1]
  · rw [if_neg e]
    have e2 : Z w = true := by
      rw [hq]
      cases hz : (x.2 ((w % 64 + 32) % 64)).toBitVec.getLsbD ((w / 64 + 32) % 64)
      · exact absurd (hb.mpr hz) e
      · rfl
    exact h.ext (fun z hz => by
      by_cases q : z = w
      · rw [q]
        simp [e2]
      · simp [q])
theorem atI_T {a b : Nat} (ha : a < 64) (hb : b < 64) : (atI (nI a - 32) (nI b - 32)).toNatClampNeg = 64 * a + b := by
  have e1 : atI (nI a - 32) (nI b - 32) = nI (64 * a + b) := by
    unfold atI
    rw [Int32.sub_add_cancel, show ((64 : Int32) * nI a) = nI (64 * a) from pk_mul 64 a, Int32.add_assoc, Int32.sub_add_cancel, nI_add]
  rw [e1, nI_clamp (by omega)]
/-- marking one cell, the reference's way -/
theorem mkM_C {Z : Nat → Bool} {q : CM} {a : St2} {b w : Nat} (h : CelM Z q) (hw : w < 4096) {T : Bool} (hT : T = true ↔ ¬ covM a b (4096 * ((8 * zi w) + 4)) (4096 * ((8 * zj w) + 4)) = 0) : CelM (fun z => Z z || (T && decide (z = w))) (mkM a b (zi w) (zj w) q) := by
  have e0 : (atI (zi w) (zj w)).toNatClampNeg = w := (atI_T (by omega) (by omega)).trans (by omega)
  unfold mkM
  rw [e0]
  by_cases e : q.2 w = 0
  · rw [if_pos e]
    have hZ : Z w = false := by
      have h1 := h.1 w hw
      cases hz : Z w
      · rfl
      · rw [hz, e] at h1
        exact absurd h1 (by decide)
    by_cases c : covM a b (4096 * ((8 * zi w) + 4)) (4096 * ((8 * zj w) + 4)) = 0
    · rw [if_pos c]
      have : T = false := by
        cases hT2 : T
        · rfl
        · exact absurd c (hT.mp hT2)
      exact h.ext (fun z _ => by simp [this])
    · rw [if_neg c]
      have hT1 := hT.mpr c
      refine ⟨fun z hz => ?_, ?_⟩
      · dsimp only
        by_cases ez : z = w
        · rw [ez, pk_us]
          simp [hT1]
        · rw [pk_un ez, h.1 z hz]
          simp [ez]
      · dsimp only
        rw [h.2, nI_1, hT1]
        simp only [Bool.true_and]
        rw [card_add hZ hw]
  · rw [if_neg e]
    have hZ : Z w = true := by
      have h1 := h.1 w hw
      cases hz : Z w
      · rw [hz] at h1
        exact absurd h1 e
      · rfl
    exact h.ext (fun z _ => by
      by_cases ez : z = w
      · rw [ez]
        simp [hZ]
      · simp [ez])
