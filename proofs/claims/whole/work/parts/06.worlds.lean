/-! the words for the state: shapes and poses by (field, body), the setting's numbers, the run's numbers, the cells -/
abbrev St2 : Type := Nat → Nat → Int32
def u2 (σ : St2) (k b : Nat) (x : Int32) : St2 := fun i j => if i = k then (if j = b then x else σ i j) else σ i j
/-- shapes (length, hitch, front, rear, half); bodies, poles, startX, startY, startHeading, stepLength; poleX; poleY -/
abbrev CFG : Type := St2 × (Nat → Int32) × (Nat → Int32) × (Nat → Int32)
/-- poses (x, y, heading, rest, greatestAskew); made, stuck, clashStep, clashBody, clashPole; count; rows -/
abbrev RS : Type := St2 × (Nat → Int32) × Int32 × (Nat → Int64)
abbrev qShape (a : Nat) (sh : St2) (b : Nat) : Nat × va_E := (a, .inr (6, [.int (sh 0 b), .int (sh 1 b), .int (sh 2 b), .int (sh 3 b), .int (sh 4 b)]))
abbrev qPose (a : Nat) (po : St2) (b : Nat) : Nat × va_E := (a, .inr (3, [.int (po 0 b), .int (po 1 b), .int (po 2 b), .int (po 3 b), .int (po 4 b)]))
abbrev qRefs (a : Nat) (c : ClassId) (n : Nat) (f : List Nat) : Nat × va_E := (a, .inl (c, n, .inr (.inr (.inr (.inr (fun j => f[j]?))))))
abbrev qInts (a : Nat) (c : ClassId) (n : Nat) (f : Nat → Int32) : Nat × va_E := (a, .inl (c, n, .inl f))
abbrev qLongs (a : Nat) (c : ClassId) (n : Nat) (f : Nat → Int64) : Nat × va_E := (a, .inl (c, n, .inr (.inl f)))
def wR (g : Glob) (ad : Nat → Nat) (k : CFG) (x : RS) : va_W := [
  (ad 0, .inr (4, [.ref (ad 6), .ref (ad 10), .int (x.2.1 0), .int (x.2.1 1), .int (x.2.1 2), .int (x.2.1 3), .int (x.2.1 4), .ref (ad 1)])),
  (ad 1, .inr (5, [.ref (ad 2), .ref (ad 12), .ref (ad 13), .int (k.2.1 0), .int (k.2.1 1), .int (k.2.1 2), .int (k.2.1 3), .int (k.2.1 4), .int (k.2.1 5)])),
  qRefs (ad 2) (g.2.1 3) 3 [ad 3, ad 4, ad 5], qShape (ad 3) k.1 0, qShape (ad 4) k.1 1, qShape (ad 5) k.1 2,
  qRefs (ad 6) (g.2.1 4) 3 [ad 7, ad 8, ad 9], qPose (ad 7) x.1 0, qPose (ad 8) x.1 1, qPose (ad 9) x.1 2,
  (ad 10, .inr (1, [.ref (ad 11), .int x.2.2.1])), qLongs (ad 11) (g.2.1 1) 64 x.2.2.2, qInts (ad 12) (g.2.1 0) 20 k.2.2.1, qInts (ad 13) (g.2.1 0) 20 k.2.2.2]
theorem lt3 {P : Nat → Prop} (h0 : P 0) (h1 : P 1) (h2 : P 2) {i : Nat} (h : i < 3) : P i := by
  match i, h with
  | 0, _ => exact h0
  | 1, _ => exact h1
  | 2, _ => exact h2
theorem wR_sh {g : Glob} {ad : Nat → Nat} {k : CFG} {x : RS} {i : Nat} (h : i < 3) : (wR g ad k x)[3 + i]? = some (qShape (ad (3 + i)) k.1 i) := lt3 (P := fun i => (wR g ad k x)[3 + i]? = some (qShape (ad (3 + i)) k.1 i)) rfl rfl rfl h
theorem wR_po {g : Glob} {ad : Nat → Nat} {k : CFG} {x : RS} {i : Nat} (h : i < 3) : (wR g ad k x)[7 + i]? = some (qPose (ad (7 + i)) x.1 i) := lt3 (P := fun i => (wR g ad k x)[7 + i]? = some (qPose (ad (7 + i)) x.1 i)) rfl rfl rfl h
theorem wR_p0 {g : Glob} {ad : Nat → Nat} {k : CFG} {po : St2} {y : (Nat → Int32) × Int32 × (Nat → Int64)} {v : Int32} {i : Nat} (h : i < 3) : (wR g ad k (po, y)).set (7 + i) (ad (7 + i), .inr (3, [.int v, .int (po 1 i), .int (po 2 i), .int (po 3 i), .int (po 4 i)])) = wR g ad k (u2 po 0 i v, y) := lt3 (P := fun i => (wR g ad k (po, y)).set (7 + i) (ad (7 + i), .inr (3, [.int v, .int (po 1 i), .int (po 2 i), .int (po 3 i), .int (po 4 i)])) = wR g ad k (u2 po 0 i v, y)) rfl rfl rfl h
theorem wR_p1 {g : Glob} {ad : Nat → Nat} {k : CFG} {po : St2} {y : (Nat → Int32) × Int32 × (Nat → Int64)} {v : Int32} {i : Nat} (h : i < 3) : (wR g ad k (po, y)).set (7 + i) (ad (7 + i), .inr (3, [.int (po 0 i), .int v, .int (po 2 i), .int (po 3 i), .int (po 4 i)])) = wR g ad k (u2 po 1 i v, y) := lt3 (P := fun i => (wR g ad k (po, y)).set (7 + i) (ad (7 + i), .inr (3, [.int (po 0 i), .int v, .int (po 2 i), .int (po 3 i), .int (po 4 i)])) = wR g ad k (u2 po 1 i v, y)) rfl rfl rfl h
theorem wR_p2 {g : Glob} {ad : Nat → Nat} {k : CFG} {po : St2} {y : (Nat → Int32) × Int32 × (Nat → Int64)} {v : Int32} {i : Nat} (h : i < 3) : (wR g ad k (po, y)).set (7 + i) (ad (7 + i), .inr (3, [.int (po 0 i), .int (po 1 i), .int v, .int (po 3 i), .int (po 4 i)])) = wR g ad k (u2 po 2 i v, y) := lt3 (P := fun i => (wR g ad k (po, y)).set (7 + i) (ad (7 + i), .inr (3, [.int (po 0 i), .int (po 1 i), .int v, .int (po 3 i), .int (po 4 i)])) = wR g ad k (u2 po 2 i v, y)) rfl rfl rfl h
theorem wR_p3 {g : Glob} {ad : Nat → Nat} {k : CFG} {po : St2} {y : (Nat → Int32) × Int32 × (Nat → Int64)} {v : Int32} {i : Nat} (h : i < 3) : (wR g ad k (po, y)).set (7 + i) (ad (7 + i), .inr (3, [.int (po 0 i), .int (po 1 i), .int (po 2 i), .int v, .int (po 4 i)])) = wR g ad k (u2 po 3 i v, y) := lt3 (P := fun i => (wR g ad k (po, y)).set (7 + i) (ad (7 + i), .inr (3, [.int (po 0 i), .int (po 1 i), .int (po 2 i), .int v, .int (po 4 i)])) = wR g ad k (u2 po 3 i v, y)) rfl rfl rfl h
theorem wR_p4 {g : Glob} {ad : Nat → Nat} {k : CFG} {po : St2} {y : (Nat → Int32) × Int32 × (Nat → Int64)} {v : Int32} {i : Nat} (h : i < 3) : (wR g ad k (po, y)).set (7 + i) (ad (7 + i), .inr (3, [.int (po 0 i), .int (po 1 i), .int (po 2 i), .int (po 3 i), .int v])) = wR g ad k (u2 po 4 i v, y) := lt3 (P := fun i => (wR g ad k (po, y)).set (7 + i) (ad (7 + i), .inr (3, [.int (po 0 i), .int (po 1 i), .int (po 2 i), .int (po 3 i), .int v])) = wR g ad k (u2 po 4 i v, y)) rfl rfl rfl h
/-! loops as folds: from i up to n -/
def iterF {α : Type} (f : Nat → α → α) : Nat → Nat → α → α
  | 0, _, x => x
  | j + 1, i, x => iterF f j (i + 1) (f i x)
def itF {α : Type} (f : Nat → α → α) (n i : Nat) (x : α) : α := iterF f (n - i) i x
theorem itF_end {α : Type} {f : Nat → α → α} {n i : Nat} {x : α} (h : n ≤ i) : itF f n i x = x := by
  unfold itF
  rw [Nat.sub_eq_zero_of_le h]
  rfl
theorem itF_step {α : Type} {f : Nat → α → α} {n i : Nat} {x : α} (h : i < n) : itF f n i x = itF f n (i + 1) (f i x) := by
  unfold itF
  rw [show n - i = (n - (i + 1)) + 1 by omega]
  rfl
/-! directions and the like, on the machine's ints -/
def dX (h : Int32) : Int32 := dxT (h &&& 63).toNatClampNeg
def dY (h : Int32) : Int32 := dxT ((h - 16) &&& 63).toNatClampNeg
def askI (a b : Int32) : Int32 := ((a - b + 32) &&& 63) - 32
theorem in63 (x : Int32) : vp_in (x &&& 63) 64 := pk_andIn x 6 (by decide) (by decide)
def maxI (a b : Int32) : Int32 := if a < b then b else a
def minI (a b : Int32) : Int32 := if b < a then b else a
def absI (a : Int32) : Int32 := if 0 ≤ a then a else 0 - a
def fdivI (x y : Int32) : Int32 := if 0 ≤ x ^^^ y then x / y else if x / y * y = x then x / y else x / y - 1
def midI (i : Int32) : Int32 := i * 32768 + 16384
def firI (p : Int32) : Int32 := maxI (-32) (fdivI (p - 16384 + 32768 - 1) 32768)
def lasI (p : Int32) : Int32 := minI 31 (fdivI (p - 16384) 32768)
