/-! plans tried aside: what is kept comes back -/
theorem lt15 {P : Nat → Nat → Prop} (h0 : ∀ f, f < 5 → P f 0) (h1 : ∀ f, f < 5 → P f 1) (h2 : ∀ f, f < 5 → P f 2) {f b : Nat} (hf : f < 5) (hb : b < 3) : P f b := by
  match b, hb with
  | 0, _ => exact h0 f hf
  | 1, _ => exact h1 f hf
  | 2, _ => exact h2 f hf
theorem it3 {α : Type} {f : Nat → α → α} {x : α} : itF f 3 0 x = f 2 (f 1 (f 0 x)) := rfl
theorem kpA_new {a : St2} {b : Nat} (hb : b < 3) : ∀ f, f < 5 → kpA b a 19 (3 * f + b) = a (13 + f) b := by
  intro f hf
  have c0 : 19 ≠ 13 := by decide
  unfold kpA
  refine lt5 (P := fun f => u2 (u2 (u2 (u2 (u2 a 19 b (a 13 b)) 19 (3 + b) (a 14 b)) 19 (6 + b) (a 15 b)) 19 (9 + b) (a 16 b)) 19 (12 + b) (a 17 b) 19 (3 * f + b) = a (13 + f) b) ?_ ?_ ?_ ?_ ?_ hf
  · rw [u2_b (by omega), u2_b (by omega), u2_b (by omega), u2_b (by omega), show 3 * 0 + b = b by omega, u2_s]
  · rw [u2_b (by omega), u2_b (by omega), u2_b (by omega), show 3 * 1 + b = 3 + b by omega, u2_s]
  · rw [u2_b (by omega), u2_b (by omega), show 3 * 2 + b = 6 + b by omega, u2_s]
  · rw [u2_b (by omega), show 3 * 3 + b = 9 + b by omega, u2_s]
  · rw [show 3 * 4 + b = 12 + b by omega, u2_s]
theorem kpA_old {a : St2} {b c f : Nat} (hb : b < 3) (hc : c < 3) (hbc : c ≠ b) : kpA b a 19 (3 * f + c) = a 19 (3 * f + c) := by
  unfold kpA
  rw [u2_b (by omega), u2_b (by omega), u2_b (by omega), u2_b (by omega), u2_b (by omega)]
theorem kp3 {a : St2} {f b : Nat} (hf : f < 5) (hb : b < 3) : itF kpA 3 0 a 19 (3 * f + b) = a (13 + f) b := by
  rw [it3]
  refine lt15 (P := fun f b => kpA 2 (kpA 1 (kpA 0 a)) 19 (3 * f + b) = a (13 + f) b) ?_ ?_ ?_ hf hb
  · intro f hf
    rw [kpA_old (by decide) (by decide) (by decide), kpA_old (by decide) (by decide) (by decide), kpA_new (by decide) f hf]
  · intro f hf
    rw [kpA_old (by decide) (by decide) (by decide), kpA_new (by decide) f hf, kpA_k (by omega)]
  · intro f hf
    rw [kpA_new (by decide) f hf, kpA_k (by omega), kpA_k (by omega)]
/-- what is kept -/
theorem keep_19 {M : MS} : (∀ f b, f < 5 → b < 3 → (keepM M).2 19 (3 * f + b) = M.2 (13 + f) b) ∧ (keepM M).2 19 15 = M.1 24 ∧ (keepM M).2 19 16 = M.1 26 ∧ (keepM M).2 19 17 = M.1 27 ∧ (keepM M).2 19 18 = M.1 28 ∧ (keepM M).2 19 19 = (if M.1 25 = 0 then 0 else 1) ∧ ∀ j, j < 4096 → (keepM M).2 20 j = M.2 18 j := by
  unfold keepM
  dsimp only
  refine ⟨fun f b hf hb => ?_, ?_, ?_, ?_, ?_, ?_, fun j hj => ?_⟩
  · rw [u1_k (by decide)]
    unfold kp1
    rw [u2_b (by omega), u2_b (by omega), u2_b (by omega), u2_b (by omega), u2_b (by omega)]
    exact kp3 hf hb
  · rw [u1_k (by decide)]
    unfold kp1
    rw [u2_b (by decide), u2_b (by decide), u2_b (by decide), u2_b (by decide), u2_s]
  · rw [u1_k (by decide)]
    unfold kp1
    rw [u2_b (by decide), u2_b (by decide), u2_b (by decide), u2_s]
  · rw [u1_k (by decide)]
    unfold kp1
    rw [u2_b (by decide), u2_b (by decide), u2_s]
  · rw [u1_k (by decide)]
    unfold kp1
    rw [u2_b (by decide), u2_s]
  · rw [u1_k (by decide)]
    unfold kp1
    rw [u2_s]
  · rw [u1_s]
    unfold cpyZ
    rw [if_pos hj, kp1_k (by decide), kpI_k (by decide)]
theorem pbA_new {a : St2} {b : Nat} : ∀ f, f < 5 → pbA b a (13 + f) b = a 19 (3 * f + b) := by
  intro f hf
  unfold pbA
  refine lt5 (P := fun f => u2 (u2 (u2 (u2 (u2 a 13 b (a 19 b)) 14 b (a 19 (3 + b))) 15 b (a 19 (6 + b))) 16 b (a 19 (9 + b))) 17 b (a 19 (12 + b)) (13 + f) b = a 19 (3 * f + b)) ?_ ?_ ?_ ?_ ?_ hf
  · rw [u2_k (by decide), u2_k (by decide), u2_k (by decide), u2_k (by decide), u2_s, show 3 * 0 + b = b by omega]
  · rw [u2_k (by decide), u2_k (by decide), u2_k (by decide), u2_s, show 3 * 1 + b = 3 + b by omega]
  · rw [u2_k (by decide), u2_k (by decide), u2_s, show 3 * 2 + b = 6 + b by omega]
  · rw [u2_k (by decide), u2_s, show 3 * 3 + b = 9 + b by omega]
  · rw [u2_s, show 3 * 4 + b = 12 + b by omega]
theorem pbA_old {a : St2} {b c k : Nat} (hbc : c ≠ b) : pbA b a k c = a k c := by
  unfold pbA
  rw [u2_b hbc, u2_b hbc, u2_b hbc, u2_b hbc, u2_b hbc]
theorem pb3 {a : St2} {f b : Nat} (hf : f < 5) (hb : b < 3) : itF pbA 3 0 a (13 + f) b = a 19 (3 * f + b) := by
  rw [it3]
  refine lt15 (P := fun f b => pbA 2 (pbA 1 (pbA 0 a)) (13 + f) b = a 19 (3 * f + b)) ?_ ?_ ?_ hf hb
  · intro f hf
    rw [pbA_old (by decide), pbA_old (by decide), pbA_new f hf]
  · intro f hf
    rw [pbA_old (by decide), pbA_new f hf, pbA_k (by decide)]
  · intro f hf
    rw [pbA_new f hf, pbA_k (by decide), pbA_k (by decide)]
theorem cntZ_card {f : Nat → Int32} {Z : Nat → Bool} : ∀ n, (∀ z, z < n → f z = if Z z = true then 1 else 0) → cntZ f n = nI (card Z n)
  | 0, _ => nI_0.symm
  | n + 1, h => by
    have h1 := cntZ_card n (fun z hz => h z (by omega))
    have h2 := h n (by omega)
    unfold cntZ card
    rw [h1, h2]
    cases hz : Z n
    · rfl
    · rw [if_neg (by decide), if_pos rfl, nI_1]
/-- put back after anything that keeps what was kept -/
theorem put_R {n : Nat} {x : RS} {M G : MS} (h : RnR n x M) (hn : n ≤ 3) (K : Kp (keepM M) G) : RnR n x (putM G) := by
  obtain ⟨hP, ⟨n1, n2, n3, n4, n5, n6, n7⟩, hF, Z, z1, z2⟩ := h
  obtain ⟨k1, k2, k3, k4, k5, k6, k7⟩ := keep_19 (M := M)
  have g19 : G.2 19 = (keepM M).2 19 := K.1 19 (by omega)
  have g20 : G.2 20 = (keepM M).2 20 := K.1 20 (by omega)
  have a19 : itF pbA 3 0 G.2 19 = G.2 19 := pbI_k (by omega)
  have a20 : itF pbA 3 0 G.2 20 = G.2 20 := pbI_k (by omega)
  have rp : ∀ f b, f < 5 → b < 3 → (putM G).2 (13 + f) b = M.2 (13 + f) b := fun f b hf hb => by
    unfold putM
    dsimp only
    rw [u1_k (by omega), pb3 hf hb, g19]
    exact k1 f b hf hb
  have s24 : (putM G).1 24 = M.1 24 := by
    unfold putM pbS
    dsimp only
    rw [pk_un (by decide), pk_un (by decide), pk_un (by decide), pk_un (by decide), pk_un (by decide), pk_us, a19, g19, k2]
  have s26 : (putM G).1 26 = M.1 26 := by
    unfold putM pbS
    dsimp only
    rw [pk_un (by decide), pk_un (by decide), pk_un (by decide), pk_un (by decide), pk_us, a19, g19, k3]
  have s27 : (putM G).1 27 = M.1 27 := by
    unfold putM pbS
    dsimp only
    rw [pk_un (by decide), pk_un (by decide), pk_un (by decide), pk_us, a19, g19, k4]
  have s28 : (putM G).1 28 = M.1 28 := by
    unfold putM pbS
    dsimp only
    rw [pk_un (by decide), pk_un (by decide), pk_us, a19, g19, k5]
  have s25 : (putM G).1 25 = M.1 25 := by
    unfold putM pbS
    dsimp only
    rw [pk_un (by decide), pk_us, a19, g19, k6]
    rcases n6 with q | q
    · rw [q]
      rfl
    · rw [q]
      rfl
  have hz20 : ∀ z, z < 4096 → itF pbA 3 0 G.2 20 z = if Z z = true then 1 else 0 := fun z hz => by
    rw [a20, g20, k7 z hz]
    exact z2.1 z hz
  refine ⟨?_, ?_, ?_, Z, z1, ?_⟩
  · intro b hb f hf
    rw [rp f b hf (by omega)]
    exact hP b hb f hf
  · unfold NmR
    rw [s24, s25, s26, s27, s28]
    exact ⟨n1, n2, n3, n4, n5, n6, n7⟩
  · intro b hb
    have r13 : (putM G).2 13 b = M.2 13 b := rp 0 b (by decide) (by omega)
    have r14 : (putM G).2 14 b = M.2 14 b := rp 1 b (by decide) (by omega)
    rw [s24, r13, r14]
    exact hF b hb
  · have e29 : (putM G).1 29 = nI (card Z 4096) := by
      unfold putM
      dsimp only
      rw [pk_us]
      exact cntZ_card 4096 hz20
    refine ⟨fun z hz => ?_, e29⟩
    have e18 : (putM G).2 18 z = itF pbA 3 0 G.2 20 z := by
      unfold putM
      dsimp only
      rw [u1_s]
      unfold cpyZ
      rw [if_pos hz]
    dsimp only
    rw [e18]
    exact hz20 z hz
theorem put_k {G : MS} : (∀ k, k < 13 → (putM G).2 k = G.2 k) ∧ ∀ f, f < 24 → (putM G).1 f = G.1 f := by
  refine ⟨fun k hk => ?_, fun f hf => ?_⟩
  · unfold putM
    dsimp only
    rw [u1_k (by omega), pbI_k (by omega)]
  · unfold putM pbS
    dsimp only
    rw [pk_un (by omega), pk_un (by omega), pk_un (by omega), pk_un (by omega), pk_un (by omega), pk_un (by omega)]
/-- all of it comes back -/
theorem rel_put {k : CFG} {x y y' : RS} {q : PLS} {M G : MS} {n np : Nat} {mm : Nat → Nat} (h : Rel k x y q M n np mm) (K : Kp (keepM (upd M.1 0 0, M.2)) G) : Rel k x y' q (putM G) n np mm := by
  have h0 := h.thr 0
  have hk : ∀ k, k < 13 → (putM G).2 k = M.2 k := fun k hk => by
    rw [put_k.1 k hk, K.1 k (Or.inl hk), keepM_k (by omega)]
  have hs : ∀ f, 1 ≤ f → f < 24 → (putM G).1 f = M.1 f := fun f h1 h2 => by
    rw [put_k.2 f h2, K.2 f h2]
    show upd M.1 0 0 f = M.1 f
    rw [pk_un (by omega)]
  exact ⟨h.1.k2 hk hs, h.2.1.k2 hk, put_R h0.2.2 h.n3 K⟩
theorem keep_Cf {k : CFG} {x y : RS} {q : PLS} {M : MS} {n np : Nat} {mm : Nat → Nat} (h : Rel k x y q M n np mm) : CfR k (keepM (upd M.1 0 0, M.2)) n np := (h.thr 0).1.k2 (fun k hk => keepM_k (by omega)) (fun _ _ _ => rfl)
theorem RnR.cnt {n : Nat} {x : RS} {M : MS} (h : RnR n x M) : x.2.2.1 = M.1 29 := by
  obtain ⟨Z, z1, z2⟩ := h.2.2.2
  exact z1.2.trans z2.2.symm
theorem Rel.sweeps {k : CFG} {x y : RS} {q : PLS} {M : MS} {n np : Nat} {mm : Nat → Nat} (h : Rel k x y q M n np mm) {pl : Nat} (hpl : pl < 4) : Rel k x (followF k n np (q pl) (mm pl) y) q (putM (goPlanM n np (keepM (upd M.1 0 0, M.2)).2 pl (mm pl) (keepM (upd M.1 0 0, M.2)))) n np mm ∧ (followF k n np (q pl) (mm pl) y).2.2.1 = (goPlanM n np (keepM (upd M.1 0 0, M.2)).2 pl (mm pl) (keepM (upd M.1 0 0, M.2))).1 29 := by
  refine ⟨rel_put h (goPlanM_Kp _), ?_⟩
  refine RnR.cnt (n := n) (plan_R (keep_Cf h) (fun i hi => ?_))
  have e := (h.2.1 pl hpl).2.2.2 i hi
  rw [keepM_k (by decide), keepM_k (by decide), keepM_k (by decide)]
  exact ⟨e.1, e.2.1, e.2.2.1⟩
theorem fault_R {n : Nat} {x : RS} {M : MS} (h : RnR n x M) : faultI x = if M.1 25 = 0 then (if M.1 26 = -1 then 1 else 0) else 0 := by
  obtain ⟨_, ⟨_, n2, n3, _⟩, _⟩ := h
  unfold faultI
  rw [n2, n3]
theorem best_step {k : CFG} {n np : Nat} {q : PLS} {mm : Nat → Nat} {a : St2} {p : Nat} {z : BF} {Z : BS} (hC : CfR k Z.2.2 n np) (e1 : z.1 = Z.1) (e2 : z.2.1 = Z.2.1) (hq : ∀ i, i < mm p → (q p).1 i = a 10 (6 * p + i) ∧ (q p).2.1 i = a 11 (6 * p + i) ∧ (q p).2.2.1 i = a 12 (6 * p + i)) : (bstF k n np q mm p z).1 = (bestB n np a mm p Z).1 ∧ (bstF k n np q mm p z).2.1 = (bestB n np a mm p Z).2.1 := by
  have g := plan_R (x := z.2.2) (q := q p) (pl := p) (m := mm p) hC hq
  have gf := fault_R g
  have gc := g.cnt
  unfold bstF bestB
  generalize followF k n np (q p) (mm p) z.2.2 = F at *
  generalize goPlanM n np a p (mm p) Z.2.2 = G at *
  rw [gf, gc, e1, e2]
  by_cases c1 : G.1 25 = 0
  · rw [if_pos c1, if_pos c1]
    by_cases c2 : G.1 26 = -1
    · rw [if_pos c2, if_pos c2, if_neg (by decide)]
      by_cases c3 : Z.1 = -1
      · rw [if_pos c3, if_pos c3]
        exact ⟨rfl, rfl⟩
      · rw [if_neg c3, if_neg c3]
        by_cases c4 : Z.2.1 ≤ G.1 29
        · rw [if_pos c4, if_pos c4]
          exact ⟨rfl, rfl⟩
        · rw [if_neg c4, if_neg c4]
          exact ⟨rfl, rfl⟩
    · rw [if_neg c2, if_neg c2, if_pos rfl]
      exact ⟨rfl, rfl⟩
  · rw [if_neg c1, if_neg c1, if_pos rfl]
    exact ⟨rfl, rfl⟩
theorem Rel.best {k : CFG} {x y : RS} {q : PLS} {M : MS} {n np : Nat} {mm : Nat → Nat} (h : Rel k x y q M n np mm) : Rel k x (bestF k n np q mm y).2.2 q (putM (bestM n np mm M).2.2) n np mm ∧ (bestF k n np q mm y).1 = (bestM n np mm M).1 := by
  unfold bestF bestM
  have hC := keep_Cf h
  have g := itF_rel0 (n := 4) (f := bstF k n np q mm) (g := bestB n np M.2 mm) (x := ((-1, 0, y) : BF)) (y := ((-1, 0, keepM (upd M.1 0 0, M.2)) : BS)) (R := fun (z : BF) (Z : BS) => z.1 = Z.1 ∧ z.2.1 = Z.2.1 ∧ CfR k Z.2.2 n np ∧ Kp (keepM (upd M.1 0 0, M.2)) Z.2.2) (fun p z Z hp hR => by
    obtain ⟨r1, r2, r3, r4⟩ := hR
    have s := best_step (a := M.2) (mm := mm) (p := p) (q := q) r3 r1 r2 (fun i hi => by
      have e := (h.2.1 p hp).2.2.2 i hi
      exact ⟨e.1, e.2.1, e.2.2.1⟩)
    refine ⟨s.1, s.2, ?_, ?_⟩
    · rw [bestB_0]
      exact r3.kp (goPlanM_Kp _)
    · rw [bestB_0]
      exact r4.tr (goPlanM_Kp _)) ⟨rfl, rfl, hC, Kp.rf _⟩
  exact ⟨rel_put h g.2.2.2, g.1⟩
