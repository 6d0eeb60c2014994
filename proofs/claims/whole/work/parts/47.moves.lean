/-! a step of the class and a step of the reference; runs, plans -/
theorem absI_siz {v : Int32} : absI v = sizI v := by
  unfold absI sizI
  rw [Int32.zero_sub]
theorem max_siz {a b : Int32} : maxI a b = if b ≤ a then a else b := by
  unfold maxI
  by_cases c : a < b
  · have : ¬ b ≤ a := fun q => by
      rw [i32_le] at q
      rw [i32_lt] at c
      omega
    rw [if_pos c, if_neg this]
  · have : b ≤ a := by
      rw [i32_lt] at c
      rw [i32_le]
      omega
    rw [if_neg c, if_pos this]
/-- measuring one body -/
theorem ms_R {n b : Nat} {x : RS} {M : MS} {m : Int} (h : RR n x M m) (h1 : 1 ≤ b) (hb : b < n) : RR n (msF b x) (msB b M) m := by
  obtain ⟨hP, ⟨n1, n2, n3, n4, n5, n6, n7⟩, hF, hZ⟩ := h
  have ea : askF x.1 b = askF (poM M.2) b := by
    have e1 : x.1 2 b = poM M.2 2 b := hP b hb 2 (by decide)
    have e2 : x.1 2 (b - 1) = poM M.2 2 (b - 1) := hP (b - 1) (by omega) 2 (by decide)
    unfold askF
    rw [e1, e2]
  have e4 : x.1 4 b = M.2 17 b := hP b hb 4 (by decide)
  have s25 : (msB b M).1 25 = (if M.1 25 = 0 then (if sizI (askF (poM M.2) b) ≤ 24 then 0 else 1) else 1) := by
    unfold msB
    dsimp only
    rw [pk_us]
  refine ⟨?_, ⟨?_, ?_, ?_, ?_, ?_, ?_, ?_⟩, ?_, ?_⟩
  · intro c hc f hf
    unfold msF msB
    dsimp only
    by_cases e : f = 4
    · subst e
      by_cases e2 : c = b
      · subst e2
        rw [u2_s, show (13 + 4 : Nat) = 17 from rfl, u2_s, ea, absI_siz, max_siz, e4]
      · rw [u2_b e2, u2_b e2]
        exact hP c hc 4 hf
    · rw [u2_k e, u2_k (show 13 + f ≠ 17 by omega)]
      exact hP c hc f hf
  · rw [msB_s (by decide)]
    unfold msF
    dsimp only
    split
    · exact n1
    · rw [pk_un (by decide)]
      exact n1
  · rw [s25, ← ea, ← absI_siz]
    unfold msF
    dsimp only
    by_cases c : absI (askF x.1 b) ≤ 24
    · rw [if_pos c, if_pos c, n2]
      rcases n6 with q | q
      · rw [q]
        rfl
      · rw [q]
        rfl
    · rw [if_neg c, if_neg c, pk_us]
      split <;> rfl
  · rw [msB_s (by decide)]
    unfold msF
    dsimp only
    split
    · exact n3
    · rw [pk_un (by decide)]
      exact n3
  · rw [msB_s (by decide)]
    unfold msF
    dsimp only
    split
    · exact n4
    · rw [pk_un (by decide)]
      exact n4
  · rw [msB_s (by decide)]
    unfold msF
    dsimp only
    split
    · exact n5
    · rw [pk_un (by decide)]
      exact n5
  · rw [s25]
    exact stk01
  · rw [msB_s (by decide)]
    exact n7
  · unfold FaR
    rw [msB_a (by decide), msB_a (by decide)]
    exact hF
  · rw [msB_s (by decide), msB_a (by decide)]
    exact hZ
theorem mss_R {n : Nat} {x : RS} {M : MS} {m : Int} (h : RR n x M m) : RR n (itF msF n 1 x) (itF msB n 1 M) m := by
  have g := itF_rel1 (n := n) (f := msF) (g := msB) (x := x) (y := M) (R := fun (x : RS) (M : MS) => RR n x M m) (fun b x M h1 hb h => ms_R h h1 hb) h
  exact g
theorem mvA1_b {s : Nat → Int32} {way : Int32} {b : Nat} {a : St2} : ∀ k c, c ≠ b → mvA1 s way b a k c = a k c := fun k c hc => by
  unfold mvA1
  rw [u2_b hc, u2_b hc, u2_b hc]
/-- swinging one body -/
theorem sw_R {k : CFG} {n b : Nat} {x : RS} {s : Nat → Int32} {a : St2} {sg : Int32} (h : HdR n x a) (h1 : 1 ≤ b) (hb : b < n) (hs : k.2.1 5 = s 11) (hl : k.1 0 b = a 2 b) (hl1 : Btw (a 2 b) 1 200) : HdR n (swF k (sg * k.2.1 5) b x) (mvA1 s sg b a) := by
  have c0 := h b hb
  have c1 := h (b - 1) (by omega)
  have ea : askF x.1 b = askF (poM a) b := by
    have e1 : x.1 2 b = poM a 2 b := c0.1
    have e2 : x.1 2 (b - 1) = poM a 2 (b - 1) := c1.1
    unfold askF
    rw [e1, e2]
  have er : swR k (sg * k.2.1 5) b x.1 = mvR s sg b a := by
    unfold swR mvR
    rw [ea, hs, c0.2.1]
    grind
  have ed : dirsIn (k.1 0 b) (swR k (sg * k.2.1 5) b x.1) = mvR s sg b a / a 2 b := by
    unfold dirsIn
    rw [er, hl, if_pos]
    rw [i32_le]
    exact hl1.1
  intro c hc
  unfold swF
  dsimp only
  rw [ed, er, hl]
  by_cases e : c = b
  · subst e
    unfold mvA1
    refine ⟨?_, ?_, ?_⟩
    · rw [u2_k (by decide), u2_s, u2_k (by decide), u2_s, c0.1]
    · rw [u2_s, u2_s]
    · rw [u2_k (by decide), u2_k (by decide), u2_k (by decide), u2_k (by decide), u2_k (by decide)]
      exact c0.2.2
  · rw [u2_b e, u2_b e, u2_b e, u2_b e, u2_b e, u2_b e, mvA1_b _ _ e, mvA1_b _ _ e, mvA1_b _ _ e]
    exact h c hc
theorem HdR.hang {n b : Nat} {x : RS} {a : St2} (h : HdR n x a) : HdR n x (hangA b a) := by
  intro c hc
  rw [hangA_k (by decide) (by decide), hangA_k (by decide) (by decide), hangA_k (by decide) (by decide)]
  exact h c hc
/-- all bodies of the reference moved: they hang, and the foremost is where it was put -/
theorem mvB_M {n : Nat} {sg : Int32} {Y : MS} : Hung n ((itF (mvB sg) n 1 Y).2 13) ((itF (mvB sg) n 1 Y).2 14) ((itF (mvB sg) n 1 Y).2 15) ((itF (mvB sg) n 1 Y).2 2) ((itF (mvB sg) n 1 Y).2 3) ∧ (itF (mvB sg) n 1 Y).2 13 0 = Y.2 13 0 ∧ (itF (mvB sg) n 1 Y).2 14 0 = Y.2 14 0 ∧ (itF (mvB sg) n 1 Y).2 18 = Y.2 18 ∧ (itF (mvB sg) n 1 Y).1 = Y.1 := by
  by_cases hn : 1 ≤ n
  · refine (itF_inv (f := mvB sg) (n := n) (i := 1) (x := Y) (P := fun i (y : MS) => 1 ≤ i ∧ Hung i (y.2 13) (y.2 14) (y.2 15) (y.2 2) (y.2 3) ∧ y.2 13 0 = Y.2 13 0 ∧ y.2 14 0 = Y.2 14 0 ∧ y.2 18 = Y.2 18 ∧ y.1 = Y.1) ?_ hn ?_).2
    · intro i y hi ⟨h1, h2, h3, h4, h5, h6⟩
      refine ⟨by omega, ?_, ?_, ?_, ?_, ?_⟩
      · exact hung_step h2 h1 mvA1_b (mvA1_k (by decide) (by decide)) (mvA1_k (by decide) (by decide))
      · unfold mvB
        dsimp only
        unfold hangA
        rw [u2_b (by omega), u2_b (by omega), mvA1_k (by decide) (by decide)]
        exact h3
      · unfold mvB
        dsimp only
        unfold hangA
        rw [u2_b (by omega), u2_b (by omega), mvA1_k (by decide) (by decide)]
        exact h4
      · rw [mvB_k (by decide) (by decide) (by decide) (by decide)]
        exact h5
      · exact h6
    · exact ⟨Nat.le_refl 1, fun b b1 b2 => absurd b1 (by omega), rfl, rfl, rfl, rfl⟩
  · rw [itF_end (by omega)]
    exact ⟨fun b b1 b2 => absurd b1 (by omega), rfl, rfl, rfl, rfl⟩
theorem swF_C {k : CFG} {way : Int32} {n : Nat} {x : RS} : (∀ f c, f < 2 → (itF (swF k way) n 1 x).1 f c = x.1 f c) ∧ (itF (swF k way) n 1 x).2 = x.2 := by
  refine itF_all (P := fun y : RS => (∀ f c, f < 2 → y.1 f c = x.1 f c) ∧ y.2 = x.2) ?_ ⟨fun _ _ _ => rfl, rfl⟩
  intro i y ⟨h1, h2⟩
  refine ⟨fun f c hf => ?_, h2⟩
  unfold swF
  dsimp only
  rw [u2_k (by omega), u2_k (by omega)]
  exact h1 f c hf
theorem fwd_b {p st c sg : Int32} {m : Int} (hp : Btw p (-(4096 * (1000 + 20 * m))) (4096 * (1000 + 20 * m))) (hm : m ≤ 4000) (hs : Btw st 1 20) (hc : Btw c (-4096) 4096) (hg : sg = 1 ∨ sg = -1) : Btw (p + sg * st * c) (-(4096 * (1000 + 20 * (m + 1)))) (4096 * (1000 + 20 * (m + 1))) := by
  obtain ⟨p1, p2⟩ := hp
  obtain ⟨s1, s2⟩ := hs
  have g : sg.toInt = 1 ∨ sg.toInt = -1 := by
    rcases hg with rfl | rfl
    · exact Or.inl rfl
    · exact Or.inr rfl
  have e1 : (sg * st).toInt = sg.toInt * st.toInt := by
    rcases g with q | q
    · exact ti_mul (by rw [q]; omega) (by rw [q]; omega)
    · exact ti_mul (by rw [q]; omega) (by rw [q]; omega)
  have b1 : -20 ≤ (sg * st).toInt ∧ (sg * st).toInt ≤ 20 := by
    rw [e1]
    rcases g with q | q
    · rw [q]
      omega
    · rw [q]
      omega
  have m1 := abs_mul (a := (sg * st).toInt) (b := c.toInt) (A := 20) (B := 4096) b1.1 b1.2 hc.1 hc.2
  have e2 : (sg * st * c).toInt = (sg * st).toInt * c.toInt := ti_mul (by omega) (by omega)
  unfold Btw
  rw [ti_add (by rw [e2]; omega) (by rw [e2]; omega), e2]
  omega
/-- one step -/
theorem step_R {k : CFG} {M : MS} {n np : Nat} {x : RS} {turn sg : Int32} (hC : CfR k M n np) (h : RnR n x M) (h4 : (M.1 24).toInt < 4000) (hg : sg = 1 ∨ sg = -1) : RnR n (stpF k n np (sg * turn) (sg * k.2.1 5) x) (moveM n np turn sg M) := by
  have hC0 := hC
  obtain ⟨n3, _, _, _, _, hS, ⟨t2, t3, t4, t5, t6, t7, t8⟩, _⟩ := hC0
  obtain ⟨hP, hN, hF, hZ⟩ := h
  obtain ⟨n1, n2, n3', n4, n5, n6, n7⟩ := hN
  have k24 := (moveM_keep (n := n) (np := np) (turn := turn) (way := sg) (x := M)).2.2.2.2
  have e24 : (M.1 24 + 1).toInt = (M.1 24).toInt + 1 := by
    have := n7.1
    have c1 : (1 : Int32).toInt = 1 := rfl
    rw [ti_add (by rw [c1]; omega) (by rw [c1]; omega), c1]
  -- the foremost body
  have hd0 : HdR n (mv0 (sg * turn) (sg * k.2.1 5) x) (mvA0 M.1 turn sg M.2) := fun c hc => by
    have a2 : x.1 2 c = M.2 15 c := hP c hc 2 (by decide)
    have a3 : x.1 3 c = M.2 16 c := hP c hc 3 (by decide)
    have a4 : x.1 4 c = M.2 17 c := hP c hc 4 (by decide)
    unfold mv0 mvA0
    dsimp only
    refine ⟨?_, ?_, ?_⟩
    · by_cases e : c = 0
      · subst e
        rw [u2_s, u2_s, a2]
      · rw [u2_b e, u2_b e, u2_b e, u2_b e, u2_b e, u2_b e]
        exact a2
    · rw [u2_k (by decide), u2_k (by decide), u2_k (by decide), u2_k (by decide), u2_k (by decide), u2_k (by decide)]
      exact a3
    · rw [u2_k (by decide), u2_k (by decide), u2_k (by decide), u2_k (by decide), u2_k (by decide), u2_k (by decide)]
      exact a4
  -- swinging
  have hd1 : HdR n (itF (swF k (sg * k.2.1 5)) n 1 (mv0 (sg * turn) (sg * k.2.1 5) x)) (itF (mvB sg) n 1 (M.1, mvA0 M.1 turn sg M.2)).2 := by
    have g := itF_rel1 (n := n) (f := swF k (sg * k.2.1 5)) (g := mvB sg) (x := mv0 (sg * turn) (sg * k.2.1 5) x) (y := (M.1, mvA0 M.1 turn sg M.2)) (R := fun (x : RS) (Y : MS) => HdR n x Y.2 ∧ Y.1 = M.1 ∧ Y.2 2 = M.2 2) (fun b x Y h1 hb hR => by
      obtain ⟨r1, r2, r3⟩ := hR
      have sb := hS b hb
      have e2 : k.1 0 b = Y.2 2 b := by
        rw [r3]
        exact sb.1 0 (by decide)
      refine ⟨?_, r2, ?_⟩
      · exact HdR.hang (sw_R r1 h1 hb (by rw [r2]; exact t5) e2 (by rw [r3]; exact sb.2.1))
      · rw [mvB_k (by decide) (by decide) (by decide) (by decide)]
        exact r3) ⟨hd0, rfl, mvA0_k (s := M.1) (turn := turn) (way := sg) (a := M.2) (k := 2) (by decide) (by decide) (by decide)⟩
    exact g.1
  obtain ⟨w1, w2⟩ := swF_C (k := k) (way := sg * k.2.1 5) (n := n) (x := mv0 (sg * turn) (sg * k.2.1 5) x)
  obtain ⟨m1, m2, m3, m4, m5⟩ := mvB_M (n := n) (sg := sg) (Y := (M.1, mvA0 M.1 turn sg M.2))
  obtain ⟨p1, p2, p3, p4, p5⟩ := pl_C (k := k) (n := n) (x := itF (swF k (sg * k.2.1 5)) n 1 (mv0 (sg * turn) (sg * k.2.1 5) x))
  have K : Kp M (itF (mvB sg) n 1 (M.1, mvA0 M.1 turn sg M.2)) := Kp.tr (y := (M.1, mvA0 M.1 turn sg M.2)) ⟨fun k hk => mvA0_k (by omega) (by omega) (by omega), fun f hf => rfl⟩ (itF_Kp (fun i y => mvB_Kp y))
  have hC1 := hC.kp K
  unfold stpF moveF mvG
  unfold moveM at k24 ⊢
  generalize hY : itF (mvB sg) n 1 (M.1, mvA0 M.1 turn sg M.2) = Y at *
  generalize hX0 : itF (swF k (sg * k.2.1 5)) n 1 (mv0 (sg * turn) (sg * k.2.1 5) x) = X0 at *
  generalize hX : itF (plF k) n 1 X0 = X at *
  have hx2 : X.2 = x.2 := by
    rw [p5, w2]
    rfl
  have hY1 : Y.1 = M.1 := m5
  have y13 : Y.2 13 0 = M.2 13 0 + sg * M.1 11 * dX (M.2 15 0) := by
    rw [m2]
    show mvA0 M.1 turn sg M.2 13 0 = _
    unfold mvA0
    rw [u2_k (by decide), u2_k (by decide), u2_s]
  have y14 : Y.2 14 0 = M.2 14 0 + sg * M.1 11 * dY (M.2 15 0) := by
    rw [m3]
    show mvA0 M.1 turn sg M.2 14 0 = _
    unfold mvA0
    rw [u2_k (by decide), u2_s]
  have hd : HdR n X Y.2 := fun c hc => by
    rw [p2 2 c (by decide), p2 3 c (by decide), p2 4 c (by decide)]
    exact hd1 c hc
  have hs : ∀ b, b < n → X.1 2 b = Y.2 15 b ∧ k.1 0 b = Y.2 2 b ∧ k.1 1 b = Y.2 3 b := fun b hb => ⟨(hd b hb).1, (hC1.2.2.2.2.2.1 b hb).1 0 (by decide), (hC1.2.2.2.2.2.1 b hb).1 1 (by decide)⟩
  have hpe : ∀ b, b < n → X.1 0 b = Y.2 13 b ∧ X.1 1 b = Y.2 14 b := by
    by_cases z : 0 < n
    · have a0 : x.1 0 0 = M.2 13 0 := hP 0 z 0 (by decide)
      have a1 : x.1 1 0 = M.2 14 0 := hP 0 z 1 (by decide)
      have a2 : x.1 2 0 = M.2 15 0 := hP 0 z 2 (by decide)
      refine p1.eq m1 ?_ ?_ hs
      · rw [p3, w1 0 0 (by decide), y13]
        unfold mv0
        dsimp only
        rw [u2_k (by decide), u2_k (by decide), u2_s, a0, a2, t5]
      · rw [p4, w1 1 0 (by decide), y14]
        unfold mv0
        dsimp only
        rw [u2_k (by decide), u2_s, a1, a2, t5]
    · intro b hb
      exact absurd hb (by omega)
  have hfar : FaR n Y ((M.1 24).toInt + 1) := by
    by_cases z : 0 < n
    · have f0 := hF 0 z
      rw [show 1000 + 20 * (M.1 24).toInt + 400 * ((0 : Nat) : Int) = 1000 + 20 * (M.1 24).toInt by omega] at f0
      refine m1.far (by omega) ?_ ?_ (fun b hb => ?_) n3
      · rw [y13]
        exact fwd_b f0.1 (by omega) t8 (dX_b _) hg
      · rw [y14]
        exact fwd_b f0.2 (by omega) t8 (dY_b _) hg
      · have := hC1.2.2.2.2.2.1 b hb
        exact ⟨this.2.1, this.2.2.1⟩
    · intro b hb
      exact absurd hb (by omega)
  have hR : RR n (mk1 X) (mdM Y) ((M.1 24).toInt + 1) := by
    refine ⟨PsR_of (M := mdM Y) hd hpe, ?_, hfar, ?_⟩
    · unfold NmR mk1 mdM
      dsimp only
      rw [hx2, hY1, pk_us, pk_us, pk_un (by decide), pk_un (by decide), pk_un (by decide), pk_un (by decide), pk_un (by decide), pk_un (by decide), pk_un (by decide), pk_un (by decide)]
      refine ⟨by rw [n1], n2, n3', n4, n5, n6, ?_⟩
      unfold Btw
      rw [e24]
      have := n7.1
      omega
    · obtain ⟨Z, z1, z2⟩ := hZ
      refine ⟨Z, ?_, ?_⟩
      · show CelC Z X.2.2
        rw [hx2]
        exact z1
      · rw [mdM_s (by decide), hY1]
        show CelM Z (M.1 29, Y.2 18)
        rw [m4]
        show CelM Z (M.1 29, mvA0 M.1 turn sg M.2 18)
        rw [mvA0_k (by decide) (by decide) (by decide)]
        exact z2
  have g1 := mss_R hR
  have K2 : Kp Y (itF msB n 1 (mdM Y)) := (mdM_Kp Y).tr (itF_Kp (fun i y => msB_Kp y))
  have g := looks_R (hC1.kp K2) g1 (by have := n7.1; omega) (by omega)
  refine ⟨g.1, g.2.1, ?_, g.2.2.2⟩
  rw [k24, e24]
  exact g.2.2.1
theorem stop_R {n : Nat} {x : RS} {M : MS} (h : RnR n x M) : stopR x = stopM M := by
  obtain ⟨_, ⟨n1, n2, _⟩, _⟩ := h
  unfold stopR stopM
  rw [n1, n2]
theorem while_R {k : CFG} {n np : Nat} {turn sg : Int32} (hg : sg = 1 ∨ sg = -1) : ∀ (N : Nat) (x : RS) (M : MS), CfR k M n np → RnR n x M → RnR n (whileF stopR (stpF k n np (sg * turn) (sg * k.2.1 5)) N x) (whileF stopM (moveM n np turn sg) N M) := by
  intro N
  induction N with
  | zero => intro x M _ h; exact h
  | succ N ih =>
    intro x M hC h
    have e := stop_R h
    unfold whileF
    rw [e]
    by_cases c : stopM M = true
    · rw [if_pos c, if_pos c]
      exact h
    · rw [if_neg c, if_neg c]
      have c' : stopM M = false := by
        cases q : stopM M
        · rfl
        · exact absurd q c
      exact ih _ _ (hC.kp (moveM_Kp M)) (step_R hC h (stopM_lt c') hg)
theorem sgn_R (fw : Int32) : sgnI fw = 1 ∨ sgnI fw = -1 := by
  unfold sgnI
  split
  · exact Or.inr rfl
  · exact Or.inl rfl
theorem walk_R {k : CFG} {M : MS} {n np : Nat} {x : RS} {turn : Int32} {N : Nat} {fw : Int32} (hC : CfR k M n np) (h : RnR n x M) : RnR n (walkF k n np turn N fw x) (goM n np turn N fw M) := while_R (sgn_R fw) N x M hC h
theorem plan_R {k : CFG} {M : MS} {n np : Nat} {x : RS} {q : PLN} {a : St2} {pl m : Nat} (hC : CfR k M n np) (hq : ∀ i, i < m → q.1 i = a 10 (6 * pl + i) ∧ q.2.1 i = a 11 (6 * pl + i) ∧ q.2.2.1 i = a 12 (6 * pl + i)) : RnR n (followF k n np q m x) (goPlanM n np a pl m M) := by
  unfold followF goPlanM
  have g := itF_rel0 (n := m) (f := partF k n np q) (g := gpF n np a pl) (x := begF k n np x) (y := begM n np M) (R := fun (x : RS) (M : MS) => CfR k M n np ∧ RnR n x M) (fun i x M hi hR => by
    have e := hq i hi
    unfold partF gpF
    rw [e.1, e.2.1, e.2.2]
    exact ⟨hR.1.kp (goM_Kp M), walk_R hR.1 hR.2⟩) ⟨hC.kp (begM_Kp M), beg_R hC⟩
  exact g.2
