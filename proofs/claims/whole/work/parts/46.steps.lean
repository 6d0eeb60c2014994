/-! bodies that hang one behind the other; beginning; a step -/
def Hung (n : Nat) (p0 p1 hd l h : Nat → Int32) : Prop := ∀ b, 1 ≤ b → b < n → p0 b = p0 (b - 1) - h (b - 1) * dX (hd (b - 1)) - l b * dX (hd b) ∧ p1 b = p1 (b - 1) - h (b - 1) * dY (hd (b - 1)) - l b * dY (hd b)
theorem Hung.eq {n : Nat} {p0 p1 hd l h p0' p1' hd' l' h' : Nat → Int32} (g : Hung n p0 p1 hd l h) (g' : Hung n p0' p1' hd' l' h') (e0 : p0 0 = p0' 0) (e1 : p1 0 = p1' 0) (e : ∀ b, b < n → hd b = hd' b ∧ l b = l' b ∧ h b = h' b) : ∀ b, b < n → p0 b = p0' b ∧ p1 b = p1' b := by
  intro b
  induction b with
  | zero => intro _; exact ⟨e0, e1⟩
  | succ b ih =>
    intro hb
    have i1 := ih (by omega)
    have a := g (b + 1) (by omega) hb
    have a' := g' (b + 1) (by omega) hb
    have c1 := e (b + 1) hb
    have c2 := e b (by omega)
    rw [Nat.add_sub_cancel] at a a'
    rw [a.1, a.2, a'.1, a'.2, i1.1, i1.2, c1.1, c1.2.1, c2.1, c2.2.2]
    exact ⟨rfl, rfl⟩
theorem hang_b {p h l c d : Int32} {B : Int} (hp : Btw p (-(4096 * B)) (4096 * B)) (hB : B ≤ 90000) (hh : Btw h 0 200) (hl : Btw l 1 200) (hc : Btw c (-4096) 4096) (hd : Btw d (-4096) 4096) : Btw (p - h * c - l * d) (-(4096 * (B + 400))) (4096 * (B + 400)) := by
  obtain ⟨p1, p2⟩ := hp
  obtain ⟨h1, h2⟩ := hh
  obtain ⟨l1, l2⟩ := hl
  have m1 := abs_mul (a := h.toInt) (b := c.toInt) (A := 200) (B := 4096) (by omega) h2 hc.1 hc.2
  have m2 := abs_mul (a := l.toInt) (b := d.toInt) (A := 200) (B := 4096) (by omega) l2 hd.1 hd.2
  have e1 : (h * c).toInt = h.toInt * c.toInt := ti_mul (by omega) (by omega)
  have e2 : (l * d).toInt = l.toInt * d.toInt := ti_mul (by omega) (by omega)
  have e3 : (p - h * c).toInt = p.toInt - h.toInt * c.toInt := by rw [ti_sub (by rw [e1]; omega) (by rw [e1]; omega), e1]
  unfold Btw
  rw [ti_sub (by rw [e2, e3]; omega) (by rw [e2, e3]; omega), e2, e3]
  omega
theorem Hung.far {n : Nat} {p0 p1 hd l h : Nat → Int32} {m : Int} (g : Hung n p0 p1 hd l h) (hm : m ≤ 4000) (e0 : Btw (p0 0) (-(4096 * (1000 + 20 * m))) (4096 * (1000 + 20 * m))) (e1 : Btw (p1 0) (-(4096 * (1000 + 20 * m))) (4096 * (1000 + 20 * m))) (hl : ∀ b, b < n → Btw (l b) 1 200 ∧ Btw (h b) 0 200) (hn : n ≤ 3) : ∀ b, b < n → Btw (p0 b) (-(4096 * (1000 + 20 * m + 400 * (b : Int)))) (4096 * (1000 + 20 * m + 400 * (b : Int))) ∧ Btw (p1 b) (-(4096 * (1000 + 20 * m + 400 * (b : Int)))) (4096 * (1000 + 20 * m + 400 * (b : Int))) := by
  intro b
  induction b with
  | zero =>
    intro _
    rw [show 1000 + 20 * m + 400 * ((0 : Nat) : Int) = 1000 + 20 * m by omega]
    exact ⟨e0, e1⟩
  | succ b ih =>
    intro hb
    have i1 := ih (by omega)
    have a := g (b + 1) (by omega) hb
    rw [Nat.add_sub_cancel] at a
    rw [a.1, a.2, show 1000 + 20 * m + 400 * ((b + 1 : Nat) : Int) = 1000 + 20 * m + 400 * (b : Int) + 400 by omega]
    have c1 := hl (b + 1) hb
    have c2 := hl b (by omega)
    exact ⟨hang_b i1.1 (by omega) c2.2 c1.1 (dX_b _) (dX_b _), hang_b i1.2 (by omega) c2.2 c1.1 (dY_b _) (dY_b _)⟩
/-- the class hangs its bodies -/
theorem pl_C {k : CFG} {n : Nat} {x : RS} : Hung n ((itF (plF k) n 1 x).1 0) ((itF (plF k) n 1 x).1 1) ((itF (plF k) n 1 x).1 2) (k.1 0) (k.1 1) ∧ (∀ f c, 2 ≤ f → (itF (plF k) n 1 x).1 f c = x.1 f c) ∧ (itF (plF k) n 1 x).1 0 0 = x.1 0 0 ∧ (itF (plF k) n 1 x).1 1 0 = x.1 1 0 ∧ (itF (plF k) n 1 x).2 = x.2 := by
  by_cases hn : 1 ≤ n
  · refine (itF_inv (f := plF k) (n := n) (i := 1) (x := x) (P := fun i (y : RS) => 1 ≤ i ∧ Hung i (y.1 0) (y.1 1) (y.1 2) (k.1 0) (k.1 1) ∧ (∀ f c, 2 ≤ f → y.1 f c = x.1 f c) ∧ y.1 0 0 = x.1 0 0 ∧ y.1 1 0 = x.1 1 0 ∧ y.2 = x.2) ?_ hn ?_).2
    · intro i y hi ⟨h1, h2, h3, h4, h5, h6⟩
      have r : ∀ f c, c ≠ i → (plF k i y).1 f c = y.1 f c := fun f c hc => by
        unfold plF
        dsimp only
        rw [u2_b hc, u2_b hc]
      have r2 : ∀ f c, 2 ≤ f → (plF k i y).1 f c = y.1 f c := fun f c hf => by
        unfold plF
        dsimp only
        rw [u2_k (by omega), u2_k (by omega)]
      refine ⟨by omega, ?_, ?_, ?_, ?_, ?_⟩
      · intro b b1 b2
        by_cases e : b = i
        · subst e
          rw [r 0 (b - 1) (by omega), r 1 (b - 1) (by omega), r2 2 _ (by decide), r2 2 _ (by decide)]
          unfold plF
          dsimp only
          rw [u2_k (by decide), u2_s, u2_s]
          exact ⟨rfl, rfl⟩
        · rw [r 0 b e, r 1 b e, r 0 (b - 1) (by omega), r 1 (b - 1) (by omega), r2 2 _ (by decide), r2 2 _ (by decide)]
          exact h2 b b1 (by omega)
      · intro f c hf
        rw [r2 f c hf]
        exact h3 f c hf
      · rw [r 0 0 (by omega)]
        exact h4
      · rw [r 1 0 (by omega)]
        exact h5
      · exact h6
    · refine ⟨Nat.le_refl 1, fun b b1 b2 => absurd b1 (by omega), fun _ _ _ => rfl, rfl, rfl, rfl⟩
  · rw [itF_end (by omega)]
    exact ⟨fun b b1 b2 => absurd b1 (by omega), fun _ _ _ => rfl, rfl, rfl, rfl⟩
/-- the reference hangs a body whose heading has just been set -/
theorem hung_step {a a' : St2} {i : Nat} (h : Hung i (a 13) (a 14) (a 15) (a 2) (a 3)) (h1 : 1 ≤ i) (ha : ∀ k c, c ≠ i → a' k c = a k c) (h2 : a' 2 = a 2) (h3 : a' 3 = a 3) : Hung (i + 1) (hangA i a' 13) (hangA i a' 14) (hangA i a' 15) (hangA i a' 2) (hangA i a' 3) := by
  have r : ∀ f c, c ≠ i → hangA i a' f c = a' f c := fun f c hc => by
    unfold hangA
    rw [u2_b hc, u2_b hc]
  rw [hangA_k (k := 15) (by decide) (by decide), hangA_k (k := 2) (by decide) (by decide), hangA_k (k := 3) (by decide) (by decide)]
  intro b b1 b2
  by_cases e : b = i
  · subst e
    rw [r 13 (b - 1) (by omega), r 14 (b - 1) (by omega)]
    unfold hangA
    rw [u2_k (by decide), u2_s, u2_s]
    exact ⟨rfl, rfl⟩
  · rw [r 13 b e, r 14 b e, r 13 (b - 1) (by omega), r 14 (b - 1) (by omega), ha 13 b e, ha 14 b e, ha 13 (b - 1) (by omega), ha 14 (b - 1) (by omega), ha 15 b e, ha 15 (b - 1) (by omega), h2, h3]
    exact h b b1 (by omega)
theorem cel0_C : CelC (fun _ => false) (0, fun _ => 0) := by
  have hc : ∀ n, card (fun _ => false) n = 0 := fun n => by
    induction n with
    | zero => rfl
    | succ n ih =>
      unfold card
      rw [ih]
      rfl
  refine ⟨fun z hz => ?_, by rw [hc]; rfl⟩
  rw [hasI_z hz]
  have e : (0 : Int64).toBitVec = 0#64 := rfl
  dsimp only
  rw [e]
  simp
theorem cel0_M {f : Nat → Int32} : CelM (fun _ => false) (0, clr f 4096) := by
  refine ⟨fun z hz => ?_, cel0_C.2⟩
  show clr f 4096 z = _
  unfold clr
  rw [if_pos hz]
  rfl
/-- headings, remainders and worst angles -/
def HdR (n : Nat) (x : RS) (a : St2) : Prop := ∀ c, c < n → x.1 2 c = a 15 c ∧ x.1 3 c = a 16 c ∧ x.1 4 c = a 17 c
theorem PsR_of {n : Nat} {x : RS} {M : MS} (h : HdR n x M.2) (hp : ∀ b, b < n → x.1 0 b = M.2 13 b ∧ x.1 1 b = M.2 14 b) : PsR n x M := by
  intro b hb f hf
  have h1 := h b hb
  have h2 := hp b hb
  exact lt5 (P := fun f => x.1 f b = M.2 (13 + f) b) h2.1 h2.2 h1.1 h1.2.1 h1.2.2 hf
/-- the class's headings as it begins -/
theorem bgF_C {k : CFG} {n : Nat} {x : RS} : (∀ c, c < n → (itF (bgF k) n 0 x).1 2 c = k.2.1 4 ∧ (itF (bgF k) n 0 x).1 3 c = 0 ∧ (itF (bgF k) n 0 x).1 4 c = 0) ∧ (itF (bgF k) n 0 x).2 = x.2 := by
  refine itF_inv (f := bgF k) (n := n) (i := 0) (x := x) (P := fun i (y : RS) => (∀ c, c < i → y.1 2 c = k.2.1 4 ∧ y.1 3 c = 0 ∧ y.1 4 c = 0) ∧ y.2 = x.2) ?_ (Nat.zero_le n) ⟨fun c hc => absurd hc (by omega), rfl⟩
  intro i y hi ⟨h1, h2⟩
  refine ⟨fun c hc => ?_, h2⟩
  unfold bgF
  dsimp only
  by_cases e : c = i
  · subst e
    refine ⟨?_, ?_, ?_⟩
    · rw [u2_k (by decide), u2_k (by decide), u2_s]
    · rw [u2_k (by decide), u2_s]
    · rw [u2_s]
  · rw [u2_b e, u2_b e, u2_b e, u2_b e, u2_b e, u2_b e, u2_b e, u2_b e, u2_b e]
    exact h1 c (by omega)
theorem bgA1_b {s : Nat → Int32} {b : Nat} {a : St2} : ∀ k c, c ≠ b → bgA1 s b a k c = a k c := fun k c hc => by
  unfold bgA1
  rw [u2_b hc, u2_b hc, u2_b hc]
/-- the reference's bodies as it begins -/
theorem bgB_M {n : Nat} {M : MS} (hn : n ≤ 3) : (itF (bgB n) 3 0 (bgS M.1, bgA0 M.1 M.2)).1 = bgS M.1 ∧ (∀ c, c < 3 → (itF (bgB n) 3 0 (bgS M.1, bgA0 M.1 M.2)).2 15 c = M.1 10 ∧ (itF (bgB n) 3 0 (bgS M.1, bgA0 M.1 M.2)).2 16 c = 0 ∧ (itF (bgB n) 3 0 (bgS M.1, bgA0 M.1 M.2)).2 17 c = 0) ∧ Hung n ((itF (bgB n) 3 0 (bgS M.1, bgA0 M.1 M.2)).2 13) ((itF (bgB n) 3 0 (bgS M.1, bgA0 M.1 M.2)).2 14) ((itF (bgB n) 3 0 (bgS M.1, bgA0 M.1 M.2)).2 15) ((itF (bgB n) 3 0 (bgS M.1, bgA0 M.1 M.2)).2 2) ((itF (bgB n) 3 0 (bgS M.1, bgA0 M.1 M.2)).2 3) ∧ (itF (bgB n) 3 0 (bgS M.1, bgA0 M.1 M.2)).2 13 0 = 4096 * M.1 8 ∧ (itF (bgB n) 3 0 (bgS M.1, bgA0 M.1 M.2)).2 14 0 = 4096 * M.1 9 ∧ (itF (bgB n) 3 0 (bgS M.1, bgA0 M.1 M.2)).2 18 = clr (M.2 18) 4096 := by
  have e10 : bgS M.1 10 = M.1 10 := bgS_k (by decide)
  have g := itF_inv (f := bgB n) (n := 3) (i := 0) (x := (bgS M.1, bgA0 M.1 M.2)) (P := fun i (y : MS) => y.1 = bgS M.1 ∧ (∀ c, c < i → y.2 15 c = M.1 10 ∧ y.2 16 c = 0 ∧ y.2 17 c = 0) ∧ Hung (min i n) (y.2 13) (y.2 14) (y.2 15) (y.2 2) (y.2 3) ∧ y.2 13 0 = 4096 * M.1 8 ∧ y.2 14 0 = 4096 * M.1 9 ∧ y.2 18 = clr (M.2 18) 4096) ?_ (by decide) ?_
  · rw [show min 3 n = n by omega] at g
    exact g
  · intro i y hi ⟨h1, h2, h3, h4, h5, h6⟩
    have q1 : ∀ c, c < i + 1 → bgA1 y.1 i y.2 15 c = M.1 10 ∧ bgA1 y.1 i y.2 16 c = 0 ∧ bgA1 y.1 i y.2 17 c = 0 := fun c hc => by
      by_cases e : c = i
      · subst e
        unfold bgA1
        refine ⟨?_, ?_, ?_⟩
        · rw [u2_k (by decide), u2_k (by decide), u2_s, h1]
          exact e10
        · rw [u2_k (by decide), u2_s]
        · rw [u2_s]
      · rw [bgA1_b _ _ e, bgA1_b _ _ e, bgA1_b _ _ e]
        exact h2 c (by omega)
    have k2 : bgA1 y.1 i y.2 2 = y.2 2 := bgA1_k (by decide) (by decide) (by decide)
    have k3 : bgA1 y.1 i y.2 3 = y.2 3 := bgA1_k (by decide) (by decide) (by decide)
    have k13 : bgA1 y.1 i y.2 13 = y.2 13 := bgA1_k (by decide) (by decide) (by decide)
    have k14 : bgA1 y.1 i y.2 14 = y.2 14 := bgA1_k (by decide) (by decide) (by decide)
    have k18 : bgA1 y.1 i y.2 18 = y.2 18 := bgA1_k (by decide) (by decide) (by decide)
    unfold bgB
    dsimp only
    by_cases c1 : 0 < i
    · rw [if_pos c1]
      by_cases c2 : i < n
      · rw [if_pos c2]
        refine ⟨h1, ?_, ?_, ?_, ?_, ?_⟩
        · rw [hangA_k (by decide) (by decide), hangA_k (by decide) (by decide), hangA_k (by decide) (by decide)]
          exact q1
        · rw [show min (i + 1) n = i + 1 by omega]
          rw [show min i n = i by omega] at h3
          exact hung_step h3 c1 bgA1_b k2 k3
        · unfold hangA
          rw [u2_b (by omega), u2_b (by omega), k13]
          exact h4
        · unfold hangA
          rw [u2_b (by omega), u2_b (by omega), k14]
          exact h5
        · rw [hangA_k (by decide) (by decide), k18]
          exact h6
      · rw [if_neg c2]
        refine ⟨h1, q1, ?_, by rw [k13]; exact h4, by rw [k14]; exact h5, by rw [k18]; exact h6⟩
        rw [k13, k14, k2, k3]
        intro b b1 b2
        rw [bgA1_b _ _ (show b ≠ i by omega), bgA1_b _ _ (show b - 1 ≠ i by omega)]
        exact h3 b b1 (by omega)
    · rw [if_neg c1]
      refine ⟨h1, q1, fun b b1 b2 => absurd b1 (by omega), by rw [k13]; exact h4, by rw [k14]; exact h5, by rw [k18]; exact h6⟩
  · refine ⟨rfl, fun c hc => absurd hc (by omega), fun b b1 b2 => absurd b1 (by omega), ?_, ?_, ?_⟩
    · show bgA0 M.1 M.2 13 0 = _
      unfold bgA0
      rw [u2_k (by decide), u2_s]
    · show bgA0 M.1 M.2 14 0 = _
      unfold bgA0
      rw [u2_s]
    · show bgA0 M.1 M.2 18 = _
      unfold bgA0
      rw [u2_row (by decide), u2_row (by decide), u1_s]
theorem st4096 {v : Int32} (h : Btw v (-1000) 1000) : Btw (4096 * v) (-(4096 * (1000 + 20 * 0))) (4096 * (1000 + 20 * 0)) := by
  obtain ⟨h1, h2⟩ := h
  have e : (4096 : Int32).toInt = 4096 := rfl
  unfold Btw
  rw [ti_mul (by rw [e]; omega) (by rw [e]; omega), e]
  omega
/-- a run begun -/
theorem beg_R {k : CFG} {M : MS} {n np : Nat} {x : RS} (hC : CfR k M n np) : RnR n (begF k n np x) (begM n np M) := by
  have hC0 := hC
  obtain ⟨n3, _, _, _, _, hS, ⟨t2, t3, t4, t5, t6, t7, t8⟩, _⟩ := hC0
  obtain ⟨b1, b2⟩ := bgF_C (k := k) (n := n) (x := bg0 x)
  obtain ⟨m1, m2, m3, m4, m5, m6⟩ := bgB_M (M := M) n3
  obtain ⟨p1, p2, p3, p4, p5⟩ := pl_C (k := k) (n := n) (x := bg1 k (itF (bgF k) n 0 (bg0 x)))
  have K : Kp M (itF (bgB n) 3 0 (bgS M.1, bgA0 M.1 M.2)) := Kp.tr (y := (bgS M.1, bgA0 M.1 M.2)) ⟨fun k hk => bgA0_k (by omega) (by omega) (by omega), fun f hf => bgS_k hf⟩ (itF_Kp (fun i y => bgB_Kp y))
  have hC1 := hC.kp K
  have h24 := begM_24 (n := n) (np := np) (x := M)
  unfold begF begG
  unfold begM at h24 ⊢
  generalize hY : itF (bgB n) 3 0 (bgS M.1, bgA0 M.1 M.2) = Y at *
  generalize hX0 : itF (bgF k) n 0 (bg0 x) = X0 at *
  generalize hX : itF (plF k) n 1 (bg1 k X0) = X at *
  have hb2 : ∀ f c, 2 ≤ f → (bg1 k X0).1 f c = X0.1 f c := fun f c hf => by
    unfold bg1
    dsimp only
    rw [u2_k (by omega), u2_k (by omega)]
  have q0 : X.1 0 0 = Y.2 13 0 := by
    rw [p3, m4]
    unfold bg1
    dsimp only
    rw [u2_k (by decide), u2_s, t2, Int32.mul_comm]
  have q1 : X.1 1 0 = Y.2 14 0 := by
    rw [p4, m5]
    unfold bg1
    dsimp only
    rw [u2_s, t3, Int32.mul_comm]
  have hd : HdR n X Y.2 := fun c hc => by
    have a1 := b1 c hc
    have a2 := m2 c (by omega)
    rw [p2 2 c (by decide), p2 3 c (by decide), p2 4 c (by decide), hb2 2 c (by decide), hb2 3 c (by decide), hb2 4 c (by decide), a1.1, a1.2.1, a1.2.2, a2.1, a2.2.1, a2.2.2, t4]
    exact ⟨rfl, rfl, rfl⟩
  have hs : ∀ b, b < n → X.1 2 b = Y.2 15 b ∧ k.1 0 b = Y.2 2 b ∧ k.1 1 b = Y.2 3 b := fun b hb => ⟨(hd b hb).1, (hC1.2.2.2.2.2.1 b hb).1 0 (by decide), (hC1.2.2.2.2.2.1 b hb).1 1 (by decide)⟩
  have hpe := p1.eq m3 q0 q1 hs
  have hx2 : X.2 = (bg0 x).2 := by
    rw [p5]
    exact b2
  have hR : RR n X Y 0 := by
    refine ⟨PsR_of hd hpe, ?_, ?_, fun _ => false, ?_, ?_⟩
    · unfold NmR
      rw [hx2, m1]
      unfold bg0 bgS
      dsimp only
      refine ⟨?_, ?_, ?_, ?_, ?_, ?_, ?_⟩
      · rw [pk_un (by decide), pk_un (by decide), pk_un (by decide), pk_un (by decide), pk_us, pk_un (by decide), pk_un (by decide), pk_un (by decide), pk_un (by decide), pk_un (by decide), pk_us]
      · rw [pk_un (by decide), pk_un (by decide), pk_un (by decide), pk_us, pk_un (by decide), pk_un (by decide), pk_un (by decide), pk_un (by decide), pk_us]
      · rw [pk_un (by decide), pk_un (by decide), pk_us, pk_un (by decide), pk_un (by decide), pk_un (by decide), pk_us]
      · rw [pk_un (by decide), pk_us, pk_un (by decide), pk_un (by decide), pk_us]
      · rw [pk_us, pk_un (by decide), pk_us]
      · rw [pk_un (by decide), pk_un (by decide), pk_un (by decide), pk_un (by decide), pk_us]
        exact Or.inl rfl
      · rw [pk_un (by decide), pk_un (by decide), pk_un (by decide), pk_un (by decide), pk_un (by decide), pk_us]
        exact ⟨by decide, by decide⟩
    · refine m3.far (by decide) ?_ ?_ (fun b hb => ?_) n3
      · rw [m4]
        exact st4096 t6
      · rw [m5]
        exact st4096 t7
      · have := hC1.2.2.2.2.2.1 b hb
        exact ⟨this.2.1, this.2.2.1⟩
    · rw [hx2]
      exact cel0_C
    · have e29 : Y.1 29 = 0 := by
        rw [m1]
        unfold bgS
        rw [pk_us]
      rw [e29, m6]
      exact cel0_M
  have g := looks_R hC1 hR (by decide) (by decide)
  refine ⟨g.1, g.2.1, ?_, g.2.2.2⟩
  rw [h24]
  exact g.2.2.1
