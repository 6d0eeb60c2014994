/-! what every call keeps -/
theorem CfR.k2 {k : CFG} {M M' : MS} {n np : Nat} (h : CfR k M n np) (a : ∀ k, k < 13 → M'.2 k = M.2 k) (s : ∀ f, 1 ≤ f → f < 24 → M'.1 f = M.1 f) : CfR k M' n np := by
  obtain ⟨h1, h2, h3, h4, ⟨i1, i2, i3, i4⟩, h6, h7, h8⟩ := h
  refine ⟨h1, h2, h3, h4, ?_, ?_, ?_, ?_⟩
  · unfold InvC
    rw [a 1 (by decide), a 2 (by decide), s 2 (by decide) (by decide), s 12 (by decide) (by decide)]
    exact ⟨i1, i2, i3, i4⟩
  · intro b hb
    have := h6 b hb
    rw [a 2 (by omega), a 3 (by omega), a 4 (by omega), a 5 (by omega), a 6 (by omega)]
    refine ⟨fun f hf => ?_, this.2⟩
    rw [a (2 + f) (by omega)]
    exact this.1 f hf
  · unfold StR
    rw [s 8 (by omega) (by omega), s 9 (by omega) (by omega), s 10 (by omega) (by omega), s 11 (by omega) (by omega)]
    exact h7
  · intro p hp
    rw [a 7 (by omega), a 8 (by omega)]
    exact h8 p hp
theorem PlR.k2 {q : PLS} {M M' : MS} {mm : Nat → Nat} (h : PlR q M mm) (a : ∀ k, k < 13 → M'.2 k = M.2 k) : PlR q M' mm := by
  intro pl hpl
  rw [a 9 (by omega), a 10 (by omega), a 11 (by omega), a 12 (by omega)]
  exact h pl hpl
theorem RnR.k2 {n : Nat} {x : RS} {M M' : MS} (h : RnR n x M) (a : ∀ k, 13 ≤ k → k < 19 → M'.2 k = M.2 k) (s : ∀ f, 24 ≤ f → f < 30 → M'.1 f = M.1 f) : RnR n x M' := by
  obtain ⟨h1, h2, h3, h4⟩ := h
  refine ⟨?_, ?_, ?_, ?_⟩
  · intro b hb f hf
    rw [a (13 + f) (by omega) (by omega)]
    exact h1 b hb f hf
  · unfold NmR
    rw [s 24 (by omega) (by omega), s 25 (by omega) (by omega), s 26 (by omega) (by omega), s 27 (by omega) (by omega), s 28 (by omega) (by omega)]
    exact h2
  · unfold FaR
    rw [s 24 (by omega) (by omega), a 13 (by omega) (by omega), a 14 (by omega) (by omega)]
    exact h3
  · rw [s 29 (by omega) (by omega), a 18 (by omega) (by omega)]
    exact h4
theorem Rel.thr {k : CFG} {x y : RS} {q : PLS} {M : MS} {n np : Nat} {mm : Nat → Nat} (h : Rel k x y q M n np mm) (v : Int32) : Rel k x y q (upd M.1 0 v, M.2) n np mm := ⟨h.1.k2 (fun _ _ => rfl) (fun f h1 _ => pk_un (by omega)), h.2.1.k2 (fun _ _ => rfl), h.2.2.k2 (fun _ _ _ => rfl) (fun f h1 _ => pk_un (by omega))⟩
theorem Rel.go {k : CFG} {x y : RS} {q : PLS} {M : MS} {n np : Nat} {mm : Nat → Nat} (h : Rel k x y q M n np mm) (p0 : Int32) (N : Nat) (p2 : Int32) : Rel k (walkF k n np p0 N p2 x) y q (goM n np p0 N p2 (upd M.1 0 0, M.2)) n np mm := by
  have h0 := h.thr 0
  exact ⟨h0.1.kp (goM_Kp _), h0.2.1.kp (goM_Kp _), walk_R h0.1 h0.2.2⟩
/-- a changed setting, begun anew -/
theorem rel_beg {k k' : CFG} {x y : RS} {q : PLS} {M M' : MS} {n n' np np' : Nat} {mm : Nat → Nat} (h : Rel k x y q M n np mm) (hC : CfR k' M' n' np') (a : ∀ k, 9 ≤ k → k < 13 → M'.2 k = M.2 k) : Rel k' (begF k' n' np' x) y q (begM n' np' M') n' np' mm := by
  refine ⟨hC.kp (begM_Kp M'), ?_, beg_R hC⟩
  refine PlR.kp ?_ (begM_Kp M')
  intro pl hpl
  rw [a 9 (by omega) (by omega), a 10 (by omega) (by omega), a 11 (by omega) (by omega), a 12 (by omega) (by omega)]
  exact h.2.1 pl hpl
theorem in_btw {p b c : Int32} {B C : Int} (h : inI p b c = 1) (hb : b.toInt = B) (hc : c.toInt = C) : Btw p B C := by
  have := inI_b h
  rw [hb, hc] at this
  exact this
theorem Rel.start {k : CFG} {x y : RS} {q : PLS} {M : MS} {n np : Nat} {mm : Nat → Nat} (h : Rel k x y q M n np mm) {p0 p1 p2 : Int32} (v0 : inI p0 (-1000) 1000 = 1) (v1 : inI p1 (-1000) 1000 = 1) (_ : inI p2 0 63 = 1) : Rel (startK k p0 p1 p2) (begF (startK k p0 p1 p2) n np x) y q (startM n np p0 p1 p2 M) n np mm := by
  unfold startM
  refine rel_beg h ?_ (fun _ _ _ => rfl)
  obtain ⟨h1, h2, h3, h4, ⟨i1, i2, i3, i4⟩, h6, ⟨t2, t3, t4, t5, t6, t7, t8⟩, h8⟩ := h.1
  refine ⟨h1, h2, ?_, ?_, ⟨i1, ?_, ?_, i4⟩, h6, ⟨?_, ?_, ?_, ?_, ?_, ?_, ?_⟩, h8⟩
  · rw [startK_lo (by decide)]; exact h3
  · rw [startK_lo (by decide)]; exact h4
  · dsimp only; rw [pk_un (by decide), pk_un (by decide), pk_un (by decide), pk_un (by decide)]; exact i2
  · dsimp only; rw [pk_un (by decide), pk_un (by decide), pk_un (by decide), pk_un (by decide)]; exact i3
  · unfold startK; dsimp only; rw [pk_un (by decide), pk_un (by decide), pk_us, pk_un (by decide), pk_un (by decide), pk_us]
  · unfold startK; dsimp only; rw [pk_un (by decide), pk_us, pk_un (by decide), pk_us]
  · unfold startK; dsimp only; rw [pk_us, pk_us]
  · unfold startK; dsimp only; rw [pk_un (by decide), pk_un (by decide), pk_un (by decide), pk_un (by decide), pk_un (by decide), pk_un (by decide), pk_un (by decide)]; exact t5
  · dsimp only; rw [pk_un (by decide), pk_un (by decide), pk_us]; exact in_btw v0 rfl rfl
  · dsimp only; rw [pk_un (by decide), pk_us]; exact in_btw v1 rfl rfl
  · dsimp only; rw [pk_un (by decide), pk_un (by decide), pk_un (by decide), pk_un (by decide)]; exact t8
theorem Rel.step {k : CFG} {x y : RS} {q : PLS} {M : MS} {n np : Nat} {mm : Nat → Nat} (h : Rel k x y q M n np mm) {p0 : Int32} (v0 : inI p0 1 20 = 1) : Rel (stepK k p0) (begF (stepK k p0) n np x) y q (stepM n np p0 M) n np mm := by
  unfold stepM
  refine rel_beg h ?_ (fun _ _ _ => rfl)
  obtain ⟨h1, h2, h3, h4, ⟨i1, i2, i3, i4⟩, h6, ⟨t2, t3, t4, t5, t6, t7, t8⟩, h8⟩ := h.1
  refine ⟨h1, h2, ?_, ?_, ⟨i1, ?_, ?_, i4⟩, h6, ⟨?_, ?_, ?_, ?_, ?_, ?_, ?_⟩, h8⟩
  · rw [stepK_lo (by decide)]; exact h3
  · rw [stepK_lo (by decide)]; exact h4
  · dsimp only; rw [pk_un (by decide), pk_un (by decide)]; exact i2
  · dsimp only; rw [pk_un (by decide), pk_un (by decide)]; exact i3
  · unfold stepK; dsimp only; rw [pk_un (by decide), pk_un (by decide), pk_un (by decide)]; exact t2
  · unfold stepK; dsimp only; rw [pk_un (by decide), pk_un (by decide), pk_un (by decide)]; exact t3
  · unfold stepK; dsimp only; rw [pk_un (by decide), pk_un (by decide), pk_un (by decide)]; exact t4
  · unfold stepK; dsimp only; rw [pk_us, pk_us]
  · dsimp only; rw [pk_un (by decide), pk_un (by decide)]; exact t6
  · dsimp only; rw [pk_un (by decide), pk_un (by decide)]; exact t7
  · dsimp only; rw [pk_us]; exact in_btw v0 rfl rfl
theorem Rel.body {k : CFG} {x y : RS} {q : PLS} {M : MS} {n np : Nat} {mm : Nat → Nat} (h : Rel k x y q M n np mm) (hn3 : n < 3) {p0 p1 p2 p3 p4 : Int32} (v0 : inI p0 1 200 = 1) (v1 : inI p1 0 200 = 1) (v2 : inI p2 0 60 = 1) (v3 : inI p3 0 60 = 1) (v4 : inI p4 1 20 = 1) : Rel (bodyK k n p0 p1 p2 p3 p4) (begF (bodyK k n p0 p1 p2 p3 p4) (n + 1) np x) y q (bodyM n np p0 p1 p2 p3 p4 M) (n + 1) np mm := by
  unfold bodyM
  have hrow : ∀ k, (k < 2 ∨ 6 < k) → bodyA n p0 p1 p2 p3 p4 M.2 k = M.2 k := fun k hk => by
    unfold bodyA
    rw [u2_row (by omega), u2_row (by omega), u2_row (by omega), u2_row (by omega), u2_row (by omega)]
  refine rel_beg h ?_ (fun k h1 h2 => hrow k (by omega))
  obtain ⟨h1, h2, h3, h4, ⟨i1, i2, i3, i4⟩, h6, ⟨t2, t3, t4, t5, t6, t7, t8⟩, h8⟩ := h.1
  have w0 : Btw p0 1 200 := in_btw v0 rfl rfl
  have hS : ShR (n + 1) (bodyK k n p0 p1 p2 p3 p4) (upd (upd M.1 0 0) 2 (M.1 2 + 1), bodyA n p0 p1 p2 p3 p4 M.2) := by
    intro b hb
    unfold bodyK
    dsimp only
    by_cases e : b = n
    · subst e
      have r2 : bodyA b p0 p1 p2 p3 p4 M.2 2 b = p0 := by
        unfold bodyA
        rw [u2_k (by decide), u2_k (by decide), u2_k (by decide), u2_k (by decide), u2_s]
      have r3 : bodyA b p0 p1 p2 p3 p4 M.2 3 b = p1 := by
        unfold bodyA
        rw [u2_k (by decide), u2_k (by decide), u2_k (by decide), u2_s]
      have r4 : bodyA b p0 p1 p2 p3 p4 M.2 4 b = p2 := by
        unfold bodyA
        rw [u2_k (by decide), u2_k (by decide), u2_s]
      have r5 : bodyA b p0 p1 p2 p3 p4 M.2 5 b = p3 := by
        unfold bodyA
        rw [u2_k (by decide), u2_s]
      have r6 : bodyA b p0 p1 p2 p3 p4 M.2 6 b = p4 := by
        unfold bodyA
        rw [u2_s]
      refine ⟨fun f hf => ?_, ?_⟩
      · refine lt5 (P := fun f => shF k.1 b p0 p1 p2 p3 p4 f b = bodyA b p0 p1 p2 p3 p4 M.2 (2 + f) b) ?_ ?_ ?_ ?_ ?_ hf
        · rw [r2]
          unfold shF
          rw [u2_k (by decide), u2_k (by decide), u2_k (by decide), u2_k (by decide), u2_s]
        · rw [r3]
          unfold shF
          rw [u2_k (by decide), u2_k (by decide), u2_k (by decide), u2_s]
        · rw [r4]
          unfold shF
          rw [u2_k (by decide), u2_k (by decide), u2_s]
        · rw [r5]
          unfold shF
          rw [u2_k (by decide), u2_s]
        · rw [r6]
          unfold shF
          rw [u2_s]
      · rw [r2, r3, r4, r5, r6]
        exact ⟨w0, in_btw v1 rfl rfl, in_btw v2 rfl rfl, in_btw v3 rfl rfl, in_btw v4 rfl rfl⟩
    · have old := h6 b (by omega)
      have ra : ∀ k, bodyA n p0 p1 p2 p3 p4 M.2 k b = M.2 k b := fun k => by
        unfold bodyA
        rw [u2_b e, u2_b e, u2_b e, u2_b e, u2_b e]
      refine ⟨fun f hf => ?_, ?_⟩
      · rw [ra]
        unfold shF
        rw [u2_b e, u2_b e, u2_b e, u2_b e, u2_b e]
        exact old.1 f hf
      · rw [ra, ra, ra, ra, ra]
        exact old.2
  refine ⟨by omega, h2, bodyK_0, ?_, ⟨?_, ?_, ?_, ?_⟩, hS, ⟨?_, ?_, ?_, ?_, ?_, ?_, ?_⟩, ?_⟩
  · rw [bodyK_lo (by decide)]; exact h4
  · intro i hi
    dsimp only
    rw [hrow 1 (by omega)]
    exact i1 i hi
  · dsimp only
    rw [pk_us, i2, nI_1]
  · dsimp only; rw [pk_un (by decide), pk_un (by decide)]; exact i3
  · intro b hb q
    have := (hS b hb).2.1.1
    dsimp only at q this
    rw [q] at this
    exact absurd this (by decide)
  · rw [bodyK_lo (by decide)]; dsimp only; rw [pk_un (by decide), pk_un (by decide)]; exact t2
  · rw [bodyK_lo (by decide)]; dsimp only; rw [pk_un (by decide), pk_un (by decide)]; exact t3
  · rw [bodyK_lo (by decide)]; dsimp only; rw [pk_un (by decide), pk_un (by decide)]; exact t4
  · rw [bodyK_lo (by decide)]; dsimp only; rw [pk_un (by decide), pk_un (by decide)]; exact t5
  · dsimp only; rw [pk_un (by decide), pk_un (by decide)]; exact t6
  · dsimp only; rw [pk_un (by decide), pk_un (by decide)]; exact t7
  · dsimp only; rw [pk_un (by decide), pk_un (by decide)]; exact t8
  · intro p hp
    dsimp only
    rw [hrow 7 (by omega), hrow 8 (by omega)]
    exact h8 p hp
theorem Rel.pole {k : CFG} {x y : RS} {q : PLS} {M : MS} {n np : Nat} {mm : Nat → Nat} (h : Rel k x y q M n np mm) (h20 : np < 20) {p0 p1 : Int32} (_ : inI p0 (-1000) 1000 = 1) (_ : inI p1 (-1000) 1000 = 1) : Rel (poleK k np p0 p1) x y q (poleM np p0 p1 M) n (np + 1) mm := by
  have hrow : ∀ k, k ≠ 7 → k ≠ 8 → (poleM np p0 p1 M).2 k = M.2 k := fun k h1 h2 => by
    unfold poleM
    dsimp only
    rw [u2_row h2, u2_row h1]
  have hs : ∀ f, f ≠ 0 → f ≠ 12 → (poleM np p0 p1 M).1 f = M.1 f := fun f h1 h2 => by
    unfold poleM
    dsimp only
    rw [pk_un h2, pk_un h1]
  have hk : ∀ i, i ≠ 1 → (poleK k np p0 p1).2.1 i = k.2.1 i := fun i hi => by
    unfold poleK
    dsimp only
    rw [pk_un hi]
  refine ⟨?_, ?_, h.2.2.k2 (fun k h1 h2 => hrow k (by omega) (by omega)) (fun f h1 h2 => hs f (by omega) (by omega))⟩
  · obtain ⟨h1, h2, h3, h4, ⟨i1, i2, i3, i4⟩, h6, ⟨t2, t3, t4, t5, t6, t7, t8⟩, h8⟩ := h.1
    refine ⟨h1, by omega, ?_, ?_, ⟨?_, ?_, ?_, ?_⟩, ?_, ⟨?_, ?_, ?_, ?_, ?_, ?_, ?_⟩, ?_⟩
    · rw [hk 0 (by decide)]; exact h3
    · unfold poleK; dsimp only; rw [pk_us, nI_1]
    · rw [hrow 1 (by decide) (by decide)]; exact i1
    · rw [hs 2 (by decide) (by decide)]; exact i2
    · unfold poleM; dsimp only; rw [pk_us, i3, nI_1]
    · rw [hrow 2 (by decide) (by decide)]; exact i4
    · intro b hb
      have old := h6 b hb
      rw [hrow 2 (by decide) (by decide), hrow 3 (by decide) (by decide), hrow 4 (by decide) (by decide), hrow 5 (by decide) (by decide), hrow 6 (by decide) (by decide)]
      refine ⟨fun f hf => ?_, old.2⟩
      rw [hrow (2 + f) (by omega) (by omega)]
      exact old.1 f hf
    · rw [hk 2 (by decide), hs 8 (by decide) (by decide)]; exact t2
    · rw [hk 3 (by decide), hs 9 (by decide) (by decide)]; exact t3
    · rw [hk 4 (by decide), hs 10 (by decide) (by decide)]; exact t4
    · rw [hk 5 (by decide), hs 11 (by decide) (by decide)]; exact t5
    · rw [hs 8 (by decide) (by decide)]; exact t6
    · rw [hs 9 (by decide) (by decide)]; exact t7
    · rw [hs 11 (by decide) (by decide)]; exact t8
    · intro p hp
      unfold poleK poleM
      dsimp only
      by_cases e : p = np
      · subst e
        rw [pk_us, pk_us, u2_k (by decide), u2_s, u2_s, Int32.mul_comm p0, Int32.mul_comm p1]
        exact ⟨rfl, rfl⟩
      · rw [pk_un e, pk_un e, u2_b e, u2_b e, u2_b e, u2_b e]
        exact h8 p (by omega)
  · intro pl hpl
    rw [hrow 9 (by omega) (by omega), hrow 10 (by omega) (by omega), hrow 11 (by omega) (by omega), hrow 12 (by omega) (by omega)]
    exact h.2.1 pl hpl
theorem Rel.part {k : CFG} {x y : RS} {q : PLS} {M : MS} {n np : Nat} {mm : Nat → Nat} (h : Rel k x y q M n np mm) {pl : Nat} (hpl : pl < 4) (h6 : mm pl < 6) (p1 : Int32) {p2 : Int32} (v2 : inI p2 1 60 = 1) (p3 : Int32) : Rel k x y (upQ q pl (addP (q pl) (mm pl) p1 p2 p3)) (partM pl (mm pl) p1 p2 p3 M) n np (fun j => if j = pl then mm pl + 1 else mm j) := by
  have hrow : ∀ k, (k < 9 ∨ 12 < k) → (partM pl (mm pl) p1 p2 p3 M).2 k = M.2 k := fun k hk => by
    unfold partM
    dsimp only
    rw [u2_row (by omega), u2_row (by omega), u2_row (by omega), u2_row (by omega)]
  have hs : ∀ f, f ≠ 0 → (partM pl (mm pl) p1 p2 p3 M).1 f = M.1 f := fun f h1 => by
    unfold partM
    dsimp only
    rw [pk_un h1]
  refine ⟨?_, ?_, h.2.2.k2 (fun k h1 h2 => hrow k (by omega)) (fun f h1 h2 => hs f (by omega))⟩
  · obtain ⟨h1, h2, h3, h4, ⟨i1, i2, i3, i4⟩, h6', h7, h8⟩ := h.1
    refine ⟨h1, h2, h3, h4, ⟨?_, ?_, ?_, ?_⟩, ?_, ?_, ?_⟩
    · rw [hrow 1 (by decide)]; exact i1
    · rw [hs 2 (by decide)]; exact i2
    · rw [hs 12 (by decide)]; exact i3
    · rw [hrow 2 (by decide)]; exact i4
    · intro b hb
      have old := h6' b hb
      rw [hrow 2 (by decide), hrow 3 (by decide), hrow 4 (by decide), hrow 5 (by decide), hrow 6 (by decide)]
      refine ⟨fun f hf => ?_, old.2⟩
      rw [hrow (2 + f) (by omega)]
      exact old.1 f hf
    · unfold StR
      rw [hs 8 (by decide), hs 9 (by decide), hs 10 (by decide), hs 11 (by decide)]
      exact h7
    · intro p hp
      rw [hrow 7 (by decide), hrow 8 (by decide)]
      exact h8 p hp
  · intro j hj
    have old := h.2.1 j hj
    have o1 := h.2.1 pl hpl
    have r9 : ∀ j, (partM pl (mm pl) p1 p2 p3 M).2 9 j = if j = pl then M.2 9 pl + 1 else M.2 9 j := fun j => by
      unfold partM
      dsimp only
      by_cases e : j = pl
      · subst e
        rw [u2_s, if_pos rfl]
      · rw [u2_b e, u2_k (by decide), u2_k (by decide), u2_k (by decide), if_neg e]
    have r10 : ∀ i, (partM pl (mm pl) p1 p2 p3 M).2 10 i = if i = 6 * pl + mm pl then p1 else M.2 10 i := fun i => by
      unfold partM
      dsimp only
      by_cases e : i = 6 * pl + mm pl
      · subst e
        rw [u2_k (by decide), u2_k (by decide), u2_k (by decide), u2_s, if_pos rfl]
      · rw [u2_k (by decide), u2_k (by decide), u2_k (by decide), u2_b e, if_neg e]
    have r11 : ∀ i, (partM pl (mm pl) p1 p2 p3 M).2 11 i = if i = 6 * pl + mm pl then p2 else M.2 11 i := fun i => by
      unfold partM
      dsimp only
      by_cases e : i = 6 * pl + mm pl
      · subst e
        rw [u2_k (by decide), u2_k (by decide), u2_s, if_pos rfl]
      · rw [u2_k (by decide), u2_k (by decide), u2_b e, u2_k (by decide), if_neg e]
    have r12 : ∀ i, (partM pl (mm pl) p1 p2 p3 M).2 12 i = if i = 6 * pl + mm pl then p3 else M.2 12 i := fun i => by
      unfold partM
      dsimp only
      by_cases e : i = 6 * pl + mm pl
      · subst e
        rw [u2_k (by decide), u2_s, if_pos rfl]
      · rw [u2_k (by decide), u2_b e, u2_k (by decide), u2_k (by decide), if_neg e]
    by_cases e : j = pl
    · subst e
      have eq : upQ q j (addP (q j) (mm j) p1 p2 p3) j = addP (q j) (mm j) p1 p2 p3 := by
        unfold upQ
        rw [if_pos rfl]
      rw [eq, r9]
      simp only [if_true]
      refine ⟨?_, ?_, by omega, fun i hi => ?_⟩
      · unfold addP
        dsimp only
        rw [nI_1]
      · rw [o1.2.1, nI_1]
      · rw [r10, r11, r12]
        unfold addP
        dsimp only
        by_cases ei : i = mm j
        · subst ei
          rw [pk_us, pk_us, pk_us, if_pos rfl, if_pos rfl, if_pos rfl]
          exact ⟨rfl, rfl, rfl, in_btw v2 rfl rfl⟩
        · have en : ¬ 6 * j + i = 6 * j + mm j := by omega
          rw [pk_un ei, pk_un ei, pk_un ei, if_neg en, if_neg en, if_neg en]
          exact old.2.2.2 i (by omega)
    · have eq : upQ q pl (addP (q pl) (mm pl) p1 p2 p3) j = q j := by
        unfold upQ
        rw [if_neg e]
      rw [eq, r9, if_neg e]
      simp only [if_neg e]
      refine ⟨old.1, old.2.1, old.2.2.1, fun i hi => ?_⟩
      have en : ¬ 6 * j + i = 6 * pl + mm pl := by
        have := old.2.2.1
        omega
      rw [r10, r11, r12, if_neg en, if_neg en, if_neg en]
      exact old.2.2.2 i hi
theorem Rel.clear {k : CFG} {x y : RS} {q : PLS} {M : MS} {n np : Nat} {mm : Nat → Nat} (h : Rel k x y q M n np mm) {pl : Nat} (_ : pl < 4) : Rel k x y (upQ q pl (clrP (q pl))) (clearM pl M) n np (fun j => if j = pl then 0 else mm j) := by
  have hrow : ∀ k, k ≠ 9 → (clearM pl M).2 k = M.2 k := fun k hk => by
    unfold clearM
    dsimp only
    rw [u2_row hk]
  have hs : ∀ f, f ≠ 0 → (clearM pl M).1 f = M.1 f := fun f h1 => by
    unfold clearM
    dsimp only
    rw [pk_un h1]
  refine ⟨?_, ?_, h.2.2.k2 (fun k h1 h2 => hrow k (by omega)) (fun f h1 h2 => hs f (by omega))⟩
  · obtain ⟨h1, h2, h3, h4, ⟨i1, i2, i3, i4⟩, h6', h7, h8⟩ := h.1
    refine ⟨h1, h2, h3, h4, ⟨?_, ?_, ?_, ?_⟩, ?_, ?_, ?_⟩
    · rw [hrow 1 (by decide)]; exact i1
    · rw [hs 2 (by decide)]; exact i2
    · rw [hs 12 (by decide)]; exact i3
    · rw [hrow 2 (by decide)]; exact i4
    · intro b hb
      have old := h6' b hb
      rw [hrow 2 (by decide), hrow 3 (by decide), hrow 4 (by decide), hrow 5 (by decide), hrow 6 (by decide)]
      refine ⟨fun f hf => ?_, old.2⟩
      rw [hrow (2 + f) (by omega)]
      exact old.1 f hf
    · unfold StR
      rw [hs 8 (by decide), hs 9 (by decide), hs 10 (by decide), hs 11 (by decide)]
      exact h7
    · intro p hp
      rw [hrow 7 (by decide), hrow 8 (by decide)]
      exact h8 p hp
  · intro j hj
    have old := h.2.1 j hj
    rw [hrow 10 (by decide), hrow 11 (by decide), hrow 12 (by decide)]
    by_cases e : j = pl
    · subst e
      have eq : upQ q j (clrP (q j)) j = clrP (q j) := by
        unfold upQ
        rw [if_pos rfl]
      have r9 : (clearM j M).2 9 j = 0 := by
        unfold clearM
        dsimp only
        rw [u2_s]
      rw [eq, r9]
      simp only [if_true]
      exact ⟨nI_0.symm, nI_0.symm, by omega, fun i hi => absurd hi (by omega)⟩
    · have eq : upQ q pl (clrP (q pl)) j = q j := by
        unfold upQ
        rw [if_neg e]
      have r9 : (clearM pl M).2 9 j = M.2 9 j := by
        unfold clearM
        dsimp only
        rw [u2_b e]
      rw [eq, r9]
      simp only [if_neg e]
      exact old
theorem Rel.clash {k : CFG} {x y : RS} {q : PLS} {M : MS} {n np : Nat} {mm : Nat → Nat} (h : Rel k x y q M n np mm) {w : Nat} (_ : w < 3) : clashF x (nI w) = clashM M (nI w) := by
  obtain ⟨n1, n2, n3, n4, n5, _⟩ := h.2.2.2.1
  unfold clashF clashM
  rw [n3, n4, n5]
theorem Rel.corner {k : CFG} {x y : RS} {q : PLS} {M : MS} {n np : Nat} {mm : Nat → Nat} (h : Rel k x y q M n np mm) {b : Nat} (hb : b < n) (p1 p2 : Int32) : cornerF k x b p1 p2 = cornerM M b p1 p2 := by
  have e0 : x.1 0 b = M.2 13 b := h.2.2.1 b hb 0 (by decide)
  have e1 : x.1 1 b = M.2 14 b := h.2.2.1 b hb 1 (by decide)
  have e2 : x.1 2 b = M.2 15 b := h.2.2.1 b hb 2 (by decide)
  have sb := h.1.2.2.2.2.2.1 b hb
  have s2 : k.1 2 b = M.2 4 b := sb.1 2 (by decide)
  have s3 : k.1 3 b = M.2 5 b := sb.1 3 (by decide)
  have s4 : k.1 4 b = M.2 6 b := sb.1 4 (by decide)
  have ea : alF k b p1 = alM M b p1 := by
    unfold alF alM
    rw [s2, s3]
    by_cases c : 1 < p1
    · have c' : 2 ≤ p1 := by
        rw [i32_le]
        have := i32_lt.mp c
        have g1 : (1 : Int32).toInt = 1 := rfl
        have g2 : (2 : Int32).toInt = 2 := rfl
        omega
      rw [if_pos c, if_pos c']
    · have c' : ¬ 2 ≤ p1 := fun z => c (by
        rw [i32_lt]
        have := i32_le.mp z
        have g1 : (1 : Int32).toInt = 1 := rfl
        have g2 : (2 : Int32).toInt = 2 := rfl
        omega)
      rw [if_neg c, if_neg c']
  have ec : acF k b p1 = acM M b p1 := by
    unfold acF acM
    rw [s4]
  unfold cornerF cornerM
  rw [ea, ec, e0, e1, e2]
theorem Rel.told {k : CFG} {x y : RS} {q : PLS} {M : MS} {n np : Nat} {mm : Nat → Nat} (h : Rel k x y q M n np mm) {b w : Nat} (hb : b < n) (hw : w < 5) : toldF x b (nI w) = toldM M b (nI w) := by
  have e0 : x.1 0 b = M.2 13 b := h.2.2.1 b hb 0 (by decide)
  have e1 : x.1 1 b = M.2 14 b := h.2.2.1 b hb 1 (by decide)
  have e2 : x.1 2 b = M.2 15 b := h.2.2.1 b hb 2 (by decide)
  have e4 : x.1 4 b = M.2 17 b := h.2.2.1 b hb 4 (by decide)
  have ea : askF x.1 b = askF (poM M.2) b := by
    unfold askF
    by_cases z : b = 0
    · rw [if_pos z, if_pos z]
    · have e3 : x.1 2 (b - 1) = poM M.2 2 (b - 1) := h.2.2.1 (b - 1) (by omega) 2 (by decide)
      have e2' : x.1 2 b = poM M.2 2 b := e2
      rw [e2', e3]
  unfold toldF toldM
  rw [e0, e1, e2, e4, ea]
  refine lt5 (P := fun w => (if nI w = 0 then M.2 13 b else if nI w = 1 then M.2 14 b else if nI w = 2 then M.2 15 b else if nI w = 3 then askF (poM M.2) b else M.2 17 b) = if 2 ≤ nI w then (if nI w = 2 then M.2 15 b else if nI w = 3 then askF (poM M.2) b else M.2 17 b) else if nI w = 0 then M.2 13 b else M.2 14 b) ?_ ?_ ?_ ?_ ?_ hw
  · rw [if_pos (by decide), if_neg (by decide), if_pos (by decide)]
  · rw [if_neg (by decide), if_pos (by decide), if_neg (by decide), if_neg (by decide)]
  · rw [if_neg (by decide), if_neg (by decide), if_pos (by decide), if_pos (by decide)]
  · rw [if_neg (by decide), if_neg (by decide), if_neg (by decide), if_pos (by decide), if_pos (by decide)]
  · rw [if_neg (by decide), if_neg (by decide), if_neg (by decide), if_neg (by decide), if_pos (by decide)]
theorem Rel.cell {k : CFG} {x y : RS} {q : PLS} {M : MS} {n np : Nat} {mm : Nat → Nat} (h : Rel k x y q M n np mm) {p0 p1 : Int32} (v0 : inI p0 (-32) 31 = 1) (v1 : inI p1 (-32) 31 = 1) : hasI x.2.2.2 p0 p1 = cellM M p0 p1 := by
  obtain ⟨Z, z1, z2⟩ := h.2.2.2.2.2
  have b0 : Btw p0 (-32) 31 := in_btw v0 rfl rfl
  have b1 : Btw p1 (-32) 31 := in_btw v1 rfl rfl
  obtain ⟨l0, u0⟩ := b0
  obtain ⟨l1, u1'⟩ := b1
  have e0 := i_of l0 (by omega)
  have e1 := i_of l1 (by omega)
  have a0 : (p0.toInt + 32).toNat < 64 := by omega
  have a1 : (p1.toInt + 32).toNat < 64 := by omega
  generalize (p0.toInt + 32).toNat = a at *
  generalize (p1.toInt + 32).toNat = c at *
  have hz : 64 * a + c < 4096 := by omega
  have g1 := z1.1 (64 * a + c) hz
  have g2 := z2.1 (64 * a + c) hz
  rw [zi_of a1, zj_of a1, ← e0, ← e1] at g1
  unfold cellM
  rw [e0, e1, atI_T a0 a1, ← e0, ← e1]
  dsimp only at g1 g2
  rw [g2]
  have h01 := hasI_01 x.2.2.2 p0 p1
  cases hZ : Z (64 * a + c)
  · rw [hZ] at g1
    have : hasI x.2.2.2 p0 p1 = 0 := by
      rcases h01 with w | w
      · exact w
      · exact absurd (g1.mpr (by rw [w]; decide)) (by decide)
    rw [this]
    rfl
  · have : hasI x.2.2.2 p0 p1 = 1 := by
      rcases h01 with w | w
      · exact absurd w (g1.mp hZ)
      · exact w
    rw [this]
    rfl
