/-! a run of the class and a run of the reference -/
theorem itF_rel {α β : Type} {f : Nat → α → α} {g : Nat → β → β} {R : Nat → α → β → Prop} {n : Nat} (hs : ∀ i x y, i < n → R i x y → R (i + 1) (f i x) (g i y)) : ∀ (j i : Nat) (x : α) (y : β), i + j = n → R i x y → R n (itF f n i x) (itF g n i y) := by
  intro j
  induction j with
  | zero =>
    intro i x y h hR
    rw [itF_end (by omega), itF_end (by omega), ← show i = n by omega]
    exact hR
  | succ j ih =>
    intro i x y h hR
    rw [itF_step (f := f) (x := x) (by omega), itF_step (f := g) (x := y) (by omega)]
    exact ih (i + 1) _ _ (by omega) (hs i x y (by omega) hR)
theorem itF_inv {α : Type} {f : Nat → α → α} {P : Nat → α → Prop} {n : Nat} (hs : ∀ i x, i < n → P i x → P (i + 1) (f i x)) {i : Nat} {x : α} (h : i ≤ n) (hP : P i x) : P n (itF f n i x) := itF_rel (f := f) (g := f) (R := fun i x _ => P i x) (fun i x _ hi hx => hs i x hi hx) (n - i) i x x (by omega) hP
/-- from 1 on; nothing is done where there are no bodies -/
theorem itF_inv1 {α : Type} {f : Nat → α → α} {P : α → Prop} {n : Nat} (hs : ∀ i x, 1 ≤ i → i < n → P x → P (f i x)) {x : α} (hP : P x) : P (itF f n 1 x) := by
  by_cases h : 1 ≤ n
  · exact (itF_inv (P := fun i x => 1 ≤ i ∧ P x) (fun i x hi hx => ⟨by omega, hs i x hx.1 hi hx.2⟩) h ⟨Nat.le_refl 1, hP⟩).2
  · rw [itF_end (by omega)]
    exact hP
theorem itF_rel1 {α β : Type} {f : Nat → α → α} {g : Nat → β → β} {R : α → β → Prop} {n : Nat} (hs : ∀ i x y, 1 ≤ i → i < n → R x y → R (f i x) (g i y)) {x : α} {y : β} (h : R x y) : R (itF f n 1 x) (itF g n 1 y) := by
  by_cases hn : 1 ≤ n
  · exact (itF_rel (R := fun i x y => 1 ≤ i ∧ R x y) (fun i x y hi hx => ⟨by omega, hs i x y hx.1 hi hx.2⟩) (n - 1) 1 x y (by omega) ⟨Nat.le_refl 1, h⟩).2
  · rw [itF_end (by omega), itF_end (by omega)]
    exact h
theorem itF_rel0 {α β : Type} {f : Nat → α → α} {g : Nat → β → β} {R : α → β → Prop} {n : Nat} (hs : ∀ i x y, i < n → R x y → R (f i x) (g i y)) {x : α} {y : β} (h : R x y) : R (itF f n 0 x) (itF g n 0 y) := itF_rel (R := fun _ x y => R x y) (fun i x y hi hx => hs i x y hi hx) n 0 x y (by omega) h
/-- what a run holds, but for the number of steps made -/
def RR (n : Nat) (x : RS) (M : MS) (m : Int) : Prop := PsR n x M ∧ NmR x M ∧ FaR n M m ∧ ∃ Z, CelC Z x.2.2 ∧ CelM Z (M.1 29, M.2 18)
theorem fh_ext {h h' : Nat → Int32} : ∀ {n p : Nat}, (∀ i, p ≤ i → i < p + n → h i = h' i) → firstHit h n p = firstHit h' n p
  | 0, _, _ => rfl
  | n + 1, p, e => by
    unfold firstHit
    rw [e p (by omega) (by omega), fh_ext (n := n) (p := p + 1) (fun i h1 h2 => e i (by omega) (by omega))]
theorem CfR.kp {k : CFG} {M M' : MS} {n np : Nat} (h : CfR k M n np) (K : Kp M M') : CfR k M' n np := by
  obtain ⟨h1, h2, h3, h4, h5, h6, h7, h8⟩ := h
  refine ⟨h1, h2, h3, h4, h5.kp K, ?_, ?_, ?_⟩
  · intro b hb
    have := h6 b hb
    rw [K.1 2 (by omega), K.1 3 (by omega), K.1 4 (by omega), K.1 5 (by omega), K.1 6 (by omega)]
    refine ⟨fun f hf => ?_, this.2⟩
    rw [K.1 (2 + f) (by omega)]
    exact this.1 f hf
  · unfold StR
    rw [K.2 8 (by omega), K.2 9 (by omega), K.2 10 (by omega), K.2 11 (by omega)]
    exact h7
  · intro p hp
    rw [K.1 7 (by omega), K.1 8 (by omega)]
    exact h8 p hp
theorem PlR.kp {q : PLS} {M M' : MS} {mm : Nat → Nat} (h : PlR q M mm) (K : Kp M M') : PlR q M' mm := by
  intro pl hpl
  rw [K.1 9 (by omega), K.1 10 (by omega), K.1 11 (by omega), K.1 12 (by omega)]
  exact h pl hpl
theorem FaR.po {n : Nat} {M : MS} {m : Int} (h : FaR n M m) (h0 : 0 ≤ m) (h1 : m ≤ 4000) (hn : n ≤ 3) {b : Nat} (hb : b < n) : PoB (poM M.2) b := by
  have g := h b hb
  unfold Btw at g
  refine ⟨⟨?_, ?_⟩, ?_, ?_⟩
  · show _ ≤ (M.2 13 b).toInt
    omega
  · show (M.2 13 b).toInt ≤ _
    omega
  · show _ ≤ (M.2 14 b).toInt
    omega
  · show (M.2 14 b).toInt ≤ _
    omega
theorem CelM.eta {Z : Nat → Bool} {q : CM} (h : CelM Z q) : CelM Z (q.1, q.2) := h
/-- looking round at one body -/
theorem look_R {k : CFG} {M : MS} {n np b : Nat} {x : RS} {m : Int} (hC : CfR k M n np) (h : RR n x M m) (h0 : 0 ≤ m) (h1 : m ≤ 4000) (hb : b < n) : RR n (lkF k np b x) (lookB np b M) m := by
  obtain ⟨hP, hN, hF, Z, hZ1, hZ2⟩ := h
  obtain ⟨n3, _, _, _, _, hS, hT, hO⟩ := hC
  have sb := hS b hb
  have hpo := hF.po h0 h1 n3 hb
  have e0 : x.1 0 b = poM M.2 0 b := hP b hb 0 (by decide)
  have e1 : x.1 1 b = poM M.2 1 b := hP b hb 1 (by decide)
  have e2 : x.1 2 b = poM M.2 2 b := hP b hb 2 (by decide)
  have s2 : k.1 2 b = shM M.2 2 b := sb.1 2 (by decide)
  have s3 : k.1 3 b = shM M.2 3 b := sb.1 3 (by decide)
  have s4 : k.1 4 b = shM M.2 4 b := sb.1 4 (by decide)
  have hsM : ShB (shM M.2) b := ⟨sb.2.2.2.1, sb.2.2.2.2.1, sb.2.2.2.2.2⟩
  have hsC : ShB k.1 b := by
    unfold ShB
    rw [s2, s3, s4]
    exact hsM
  have hpC : PoB x.1 b := by
    unfold PoB
    rw [e0, e1]
    exact hpo
  have c1 := coverF_C hsC hpC hZ1
  have c2 := gridF_C hsM hpo hZ2
  have c3 := c1.ext (Z' := fun z => Z z || TZ (shM M.2) (poM M.2) b z) (fun z _ => by rw [TZ_eq s2 s3 s4 e0 e1 e2])
  have hh : firstHit (hitF k x.1 b) np 0 = firstHit (hitM M.2 b) np 0 := fh_ext (fun p _ hp => by
    have o := hO p (by omega)
    unfold hitF hitM covM insI
    rw [o.1, o.2, e0, e1, e2, s2, s3, s4]
    rfl)
  have nm := hN
  obtain ⟨n1, n2, n3', n4, n5, n6, n7⟩ := hN
  have hnum : (lkF k np b x).1 = x.1 ∧ (lkF k np b x).2.2 = coverF k.1 x.1 b x.2.2 ∧ NmR (lkF k np b x) (lookB np b M) ∧ (lookB np b M).1 29 = (gridF M.2 b (M.1 29, M.2 18)).1 := by
    unfold lkF lookB
    by_cases c : x.2.1 2 = -1
    · have c' : M.1 26 = -1 := n3' ▸ c
      rw [if_pos c, if_pos c']
      unfold polF
      rw [show (cvF k b x).1 = x.1 from rfl, hh]
      cases ho : firstHit (hitM M.2 b) np 0 with
      | none =>
        refine ⟨?_, ?_, ?_, ?_⟩
        · first | unfold polR cvF; rfl | unfold cvF; rfl
        · first | unfold polR cvF; rfl | unfold cvF; rfl
        · unfold polR polS NmR
          dsimp only [cvF]
          rw [pk_un (by decide), pk_un (by decide), pk_un (by decide), pk_un (by decide), pk_un (by decide)]
          exact nm
        · unfold polS
          dsimp only
          rw [pk_us]
      | some p =>
        refine ⟨?_, ?_, ?_, ?_⟩
        · first | unfold polR cvF; rfl | unfold cvF; rfl
        · first | unfold polR cvF; rfl | unfold cvF; rfl
        · unfold polR polS NmR
          dsimp only [cvF]
          refine ⟨?_, ?_, ?_, ?_, ?_, ?_, ?_⟩
          · rw [pk_un (by decide), pk_un (by decide), pk_un (by decide), pk_un (by decide), pk_un (by decide), pk_un (by decide), pk_un (by decide)]
            exact n1
          · rw [pk_un (by decide), pk_un (by decide), pk_un (by decide), pk_un (by decide), pk_un (by decide), pk_un (by decide), pk_un (by decide)]
            exact n2
          · rw [pk_un (by decide), pk_un (by decide), pk_us, pk_un (by decide), pk_un (by decide), pk_us, pk_un (by decide)]
            exact n1
          · rw [pk_un (by decide), pk_us, pk_un (by decide), pk_us]
          · rw [pk_us, pk_us]
          · rw [pk_un (by decide), pk_un (by decide), pk_un (by decide), pk_un (by decide)]
            exact n6
          · rw [pk_un (by decide), pk_un (by decide), pk_un (by decide), pk_un (by decide)]
            exact n7
        · unfold polS
          dsimp only
          rw [pk_un (by decide), pk_un (by decide), pk_un (by decide), pk_us]
    · have c' : ¬ M.1 26 = -1 := fun q => c (n3'.trans q)
      rw [if_neg c, if_neg c']
      refine ⟨?_, ?_, ?_, ?_⟩
      · first | unfold polR cvF; rfl | unfold cvF; rfl
      · first | unfold polR cvF; rfl | unfold cvF; rfl
      · unfold NmR
        dsimp only [cvF]
        rw [pk_un (by decide), pk_un (by decide), pk_un (by decide), pk_un (by decide), pk_un (by decide)]
        exact nm
      · dsimp only
        rw [pk_us]
  obtain ⟨r1, r2, r3, r4⟩ := hnum
  refine ⟨?_, r3, ?_, fun z => Z z || TZ (shM M.2) (poM M.2) b z, ?_, ?_⟩
  · intro b' hb' f hf
    rw [r1, lookB_a (by omega)]
    exact hP b' hb' f hf
  · unfold FaR
    rw [lookB_a (by decide), lookB_a (by decide)]
    exact hF
  · rw [r2]
    exact c3
  · rw [r4]
    have e18 : (lookB np b M).2 18 = (gridF M.2 b (M.1 29, M.2 18)).2 := by
      unfold lookB
      dsimp only
      rw [u1_s]
    rw [e18]
    exact CelM.eta c2
theorem looks_R {k : CFG} {M : MS} {n np : Nat} {x : RS} {m : Int} (hC : CfR k M n np) (h : RR n x M m) (h0 : 0 ≤ m) (h1 : m ≤ 4000) : RR n (itF (lkF k np) n 0 x) (itF (lookB np) n 0 M) m := by
  have g := itF_rel0 (n := n) (f := lkF k np) (g := lookB np) (x := x) (y := M) (R := fun (x : RS) (M : MS) => CfR k M n np ∧ RR n x M m) (fun b x M hb h => ⟨CfR.kp h.1 (lookB_Kp M), look_R h.1 h.2 h0 h1 hb⟩) ⟨hC, h⟩
  exact g.2
