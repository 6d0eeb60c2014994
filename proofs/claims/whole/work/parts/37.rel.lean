/-! how the class's state and the reference's belong together -/
/-- the cell of number z: row and column from -32 on -/
def zi (z : Nat) : Int32 := nI (z / 64) - 32
def zj (z : Nat) : Int32 := nI (z % 64) - 32
def card (Z : Nat → Bool) : Nat → Nat
  | 0 => 0
  | n + 1 => if Z n = true then card Z n + 1 else card Z n
/-- the class's cells hold the set Z -/
def CelC (Z : Nat → Bool) (x : CC) : Prop := (∀ z, z < 4096 → (Z z = true ↔ ¬ hasI x.2 (zi z) (zj z) = 0)) ∧ x.1 = nI (card Z 4096)
/-- the reference's cells hold the set Z -/
def CelM (Z : Nat → Bool) (q : CM) : Prop := (∀ z, z < 4096 → q.2 z = if Z z = true then 1 else 0) ∧ q.1 = nI (card Z 4096)
def Btw (v : Int32) (a b : Int) : Prop := a ≤ v.toInt ∧ v.toInt ≤ b
/-- shapes -/
def ShR (n : Nat) (k : CFG) (M : MS) : Prop := ∀ b, b < n → (∀ f, f < 5 → k.1 f b = M.2 (2 + f) b) ∧ Btw (M.2 2 b) 1 200 ∧ Btw (M.2 3 b) 0 200 ∧ Btw (M.2 4 b) 0 60 ∧ Btw (M.2 5 b) 0 60 ∧ Btw (M.2 6 b) 1 20
/-- start and step -/
def StR (k : CFG) (M : MS) : Prop := k.2.1 2 = M.1 8 ∧ k.2.1 3 = M.1 9 ∧ k.2.1 4 = M.1 10 ∧ k.2.1 5 = M.1 11 ∧ Btw (M.1 8) (-1000) 1000 ∧ Btw (M.1 9) (-1000) 1000 ∧ Btw (M.1 11) 1 20
def PoR (np : Nat) (k : CFG) (M : MS) : Prop := ∀ p, p < np → k.2.2.1 p = 4096 * M.2 7 p ∧ k.2.2.2 p = 4096 * M.2 8 p
def PlR (q : PLS) (M : MS) (mm : Nat → Nat) : Prop := ∀ pl, pl < 4 → (q pl).2.2.2 = nI (mm pl) ∧ M.2 9 pl = nI (mm pl) ∧ mm pl ≤ 6 ∧ ∀ i, i < mm pl → (q pl).1 i = M.2 10 (6 * pl + i) ∧ (q pl).2.1 i = M.2 11 (6 * pl + i) ∧ (q pl).2.2.1 i = M.2 12 (6 * pl + i) ∧ Btw (M.2 11 (6 * pl + i)) 1 60
/-- what holds of the setting -/
def CfR (k : CFG) (M : MS) (n np : Nat) : Prop := n ≤ 3 ∧ np ≤ 20 ∧ k.2.1 0 = nI n ∧ k.2.1 1 = nI np ∧ InvC n np M ∧ ShR n k M ∧ StR k M ∧ PoR np k M
/-- what holds of a run -/
def PsR (n : Nat) (x : RS) (M : MS) : Prop := ∀ b, b < n → ∀ f, f < 5 → x.1 f b = M.2 (13 + f) b
def NmR (x : RS) (M : MS) : Prop := x.2.1 0 = M.1 24 ∧ x.2.1 1 = M.1 25 ∧ x.2.1 2 = M.1 26 ∧ x.2.1 3 = M.1 27 ∧ x.2.1 4 = M.1 28 ∧ (M.1 25 = 0 ∨ M.1 25 = 1) ∧ Btw (M.1 24) 0 4000
/-- how far a body may be, a step's number being m -/
def FaR (n : Nat) (M : MS) (m : Int) : Prop := ∀ b, b < n → Btw (M.2 13 b) (-(4096 * (1000 + 20 * m + 400 * (b : Int)))) (4096 * (1000 + 20 * m + 400 * (b : Int))) ∧ Btw (M.2 14 b) (-(4096 * (1000 + 20 * m + 400 * (b : Int)))) (4096 * (1000 + 20 * m + 400 * (b : Int)))
def RnR (n : Nat) (x : RS) (M : MS) : Prop := PsR n x M ∧ NmR x M ∧ FaR n M (M.1 24).toInt ∧ ∃ Z, CelC Z x.2.2 ∧ CelM Z (M.1 29, M.2 18)
def Rel (k : CFG) (x y : RS) (q : PLS) (M : MS) (n np : Nat) (mm : Nat → Nat) : Prop := CfR k M n np ∧ PlR q M mm ∧ RnR n x M
theorem Rel.n3 {k : CFG} {x y : RS} {q : PLS} {M : MS} {n np : Nat} {mm : Nat → Nat} (h : Rel k x y q M n np mm) : n ≤ 3 := h.1.1
theorem Rel.p20 {k : CFG} {x y : RS} {q : PLS} {M : MS} {n np : Nat} {mm : Nat → Nat} (h : Rel k x y q M n np mm) : np ≤ 20 := h.1.2.1
theorem Rel.kn {k : CFG} {x y : RS} {q : PLS} {M : MS} {n np : Nat} {mm : Nat → Nat} (h : Rel k x y q M n np mm) : k.2.1 0 = nI n := h.1.2.2.1
theorem Rel.kp {k : CFG} {x y : RS} {q : PLS} {M : MS} {n np : Nat} {mm : Nat → Nat} (h : Rel k x y q M n np mm) : k.2.1 1 = nI np := h.1.2.2.2.1
theorem Rel.C {k : CFG} {x y : RS} {q : PLS} {M : MS} {n np : Nat} {mm : Nat → Nat} (h : Rel k x y q M n np mm) : InvC n np M := h.1.2.2.2.2.1
theorem Rel.mn {k : CFG} {x y : RS} {q : PLS} {M : MS} {n np : Nat} {mm : Nat → Nat} (h : Rel k x y q M n np mm) : M.1 2 = nI n := h.C.2.1
theorem Rel.mp {k : CFG} {x y : RS} {q : PLS} {M : MS} {n np : Nat} {mm : Nat → Nat} (h : Rel k x y q M n np mm) : M.1 12 = nI np := h.C.2.2.1
theorem Rel.G {k : CFG} {x y : RS} {q : PLS} {M : MS} {n np : Nat} {mm : Nat → Nat} (h : Rel k x y q M n np mm) : InvG n np M := ⟨h.C.1, h.C.2.1, h.C.2.2.1, h.2.2.2.1.2.2.2.2.2.2.1, h.C.2.2.2⟩
theorem Rel.st {k : CFG} {x y : RS} {q : PLS} {M : MS} {n np : Nat} {mm : Nat → Nat} (h : Rel k x y q M n np mm) : k.2.1 5 = M.1 11 := h.1.2.2.2.2.2.2.1.2.2.2.1
theorem Rel.made {k : CFG} {x y : RS} {q : PLS} {M : MS} {n np : Nat} {mm : Nat → Nat} (h : Rel k x y q M n np mm) : x.2.1 0 = M.1 24 := h.2.2.2.1.1
theorem Rel.stk {k : CFG} {x y : RS} {q : PLS} {M : MS} {n np : Nat} {mm : Nat → Nat} (h : Rel k x y q M n np mm) : x.2.1 1 = M.1 25 := h.2.2.2.1.2.1
theorem Rel.s01 {k : CFG} {x y : RS} {q : PLS} {M : MS} {n np : Nat} {mm : Nat → Nat} (h : Rel k x y q M n np mm) : M.1 25 = 0 ∨ M.1 25 = 1 := h.2.2.2.1.2.2.2.2.2.1
theorem Rel.cnt {k : CFG} {x y : RS} {q : PLS} {M : MS} {n np : Nat} {mm : Nat → Nat} (h : Rel k x y q M n np mm) : x.2.2.1 = M.1 29 := by
  obtain ⟨Z, h1, h2⟩ := h.2.2.2.2.2
  exact h1.2.trans h2.2.symm
theorem Rel.z {k : CFG} {x y : RS} {q : PLS} {M : MS} {n np : Nat} {mm : Nat → Nat} (h : Rel k x y q M n np mm) : ∀ j, j < 4096 → M.2 18 j = 0 ∨ M.2 18 j = 1 := by
  obtain ⟨Z, h1, h2⟩ := h.2.2.2.2.2
  intro j hj
  have h3 := h2.1 j hj
  dsimp only at h3
  rw [h3]
  split
  · exact Or.inr rfl
  · exact Or.inl rfl
theorem btw_nn {v : Int32} {b : Int} (h : Btw v 1 b) (hb : b ≤ 1000000) : (¬ v < 0) ∧ v.toNatClampNeg ≤ 1000000 := by
  have e0 : (0 : Int32).toInt = 0 := rfl
  refine ⟨fun q => ?_, ?_⟩
  · rw [i32_lt, e0] at q
    have := h.1
    omega
  · have h1 := h.2
    have e1 : v.toNatClampNeg = v.toInt.toNat := rfl
    rw [e1]
    omega
theorem Rel.P {k : CFG} {x y : RS} {q : PLS} {M : MS} {n np : Nat} {mm : Nat → Nat} (h : Rel k x y q M n np mm) : InvP M.2 mm := fun pl hpl => by
  obtain ⟨h1, h2, h3, h4⟩ := h.2.1 pl hpl
  exact ⟨h2, h3, fun i hi => btw_nn (h4 i hi).2.2.2 (by decide)⟩
theorem Rel.Q {k : CFG} {x y : RS} {q : PLS} {M : MS} {n np : Nat} {mm : Nat → Nat} (h : Rel k x y q M n np mm) : ∀ p, p < 4 → (q p).2.2.2 = nI (mm p) ∧ mm p ≤ 6 ∧ ∀ i, i < mm p → (¬ (q p).2.1 i < 0) ∧ ((q p).2.1 i).toNatClampNeg ≤ 1000000 := fun pl hpl => by
  obtain ⟨h1, h2, h3, h4⟩ := h.2.1 pl hpl
  exact ⟨h1, h3, fun i hi => by rw [(h4 i hi).2.1]; exact btw_nn (h4 i hi).2.2.2 (by decide)⟩
theorem Rel.kz {k : CFG} {x y : RS} {q : PLS} {M : MS} {n np : Nat} {mm : Nat → Nat} (h : Rel k x y q M n np mm) : (k.2.1 0 = 0 ↔ n = 0) ∧ (M.1 2 = 0 ↔ n = 0) := by
  rw [h.kn, h.mn]
  have e : ∀ n, n ≤ 3 → (nI n = 0 ↔ n = 0) := by decide
  exact ⟨e n h.n3, e n h.n3⟩
theorem thr_goM {n np : Nat} {p0 : Int32} {N : Nat} {p2 : Int32} {M : MS} : (goM n np p0 N p2 (upd M.1 0 0, M.2)).1 0 = 0 := (goM_Kp _).2 0 (by decide)
theorem thr_bodyM {n np : Nat} {p0 p1 p2 p3 p4 : Int32} {M : MS} : (bodyM n np p0 p1 p2 p3 p4 M).1 0 = 0 := by
  unfold bodyM
  rw [begM_s (by decide)]
  dsimp only
  rw [pk_un (by decide), pk_us]
theorem thr_startM {n np : Nat} {p0 p1 p2 : Int32} {M : MS} : (startM n np p0 p1 p2 M).1 0 = 0 := by
  unfold startM
  rw [begM_s (by decide)]
  dsimp only
  rw [pk_un (by decide), pk_un (by decide), pk_un (by decide), pk_us]
theorem thr_stepM {n np : Nat} {p0 : Int32} {M : MS} : (stepM n np p0 M).1 0 = 0 := by
  unfold stepM
  rw [begM_s (by decide)]
  dsimp only
  rw [pk_un (by decide), pk_us]
theorem thr_poleM {np : Nat} {p0 p1 : Int32} {M : MS} : (poleM np p0 p1 M).1 0 = 0 := by
  unfold poleM
  dsimp only
  rw [pk_un (by decide), pk_us]
theorem thr_putM {M : MS} : (putM M).1 0 = M.1 0 := by
  unfold putM pbS
  dsimp only
  rw [pk_un (by decide), pk_un (by decide), pk_un (by decide), pk_un (by decide), pk_un (by decide), pk_un (by decide)]
theorem thr_sweeps {n np : Nat} {a : St2} {pl m : Nat} {M : MS} : (putM (goPlanM n np a pl m (keepM (upd M.1 0 0, M.2)))).1 0 = 0 := by
  rw [thr_putM, (goPlanM_Kp _).2 0 (by decide)]
  rfl
theorem bestB_0 {n np : Nat} {a : St2} {mm : Nat → Nat} {p : Nat} {z : BS} : (bestB n np a mm p z).2.2 = goPlanM n np a p (mm p) z.2.2 := by
  unfold bestB
  repeat' split
  all_goals rfl
theorem thr_best {n np : Nat} {mm : Nat → Nat} {M : MS} : (putM (bestM n np mm M).2.2).1 0 = 0 := by
  rw [thr_putM]
  unfold bestM
  exact itF_all (P := fun z : BS => z.2.2.1 0 = 0) (fun i z hz => by rw [bestB_0, (goPlanM_Kp _).2 0 (by decide)]; exact hz) rfl
