theorem u2_s {σ : St2} {k b : Nat} {x : Int32} : u2 σ k b x k b = x := by simp [u2]
theorem u2_k {σ : St2} {k b i j : Nat} {x : Int32} (h : i ≠ k) : u2 σ k b x i j = σ i j := by simp [u2, h]
theorem u2_b {σ : St2} {k b i j : Nat} {x : Int32} (h : j ≠ b) : u2 σ k b x i j = σ i j := by simp [u2, h]
theorem lt5 {P : Nat → Prop} (h0 : P 0) (h1 : P 1) (h2 : P 2) (h3 : P 3) (h4 : P 4) {i : Nat} (h : i < 5) : P i := by
  match i, h with
  | 0, _ => exact h0
  | 1, _ => exact h1
  | 2, _ => exact h2
  | 3, _ => exact h3
  | 4, _ => exact h4
def poL (po : St2) (b : Nat) : List Value := [.int (po 0 b), .int (po 1 b), .int (po 2 b), .int (po 3 b), .int (po 4 b)]
theorem wR_get {g : Glob} {ad : Nat → Nat} {k : CFG} {x : RS} {b : Nat} (h : b < 3) : (wR g ad k x)[7 + b]? = some (ad (7 + b), .inr (3, poL x.1 b)) := lt3 (P := fun b => (wR g ad k x)[7 + b]? = some (ad (7 + b), .inr (3, poL x.1 b))) rfl rfl rfl h
theorem poL_get {po : St2} {b f : Nat} (h : f < 5) : (poL po b)[f]? = some (.int (po f b)) := lt5 (P := fun f => (poL po b)[f]? = some (.int (po f b))) rfl rfl rfl rfl rfl h
theorem wR_set {g : Glob} {ad : Nat → Nat} {k : CFG} {po : St2} {y : (Nat → Int32) × Int32 × (Nat → Int64)} {v : Int32} {f b : Nat} (hf : f < 5) (h : b < 3) : (wR g ad k (po, y)).set (7 + b) (ad (7 + b), .inr (3, (poL po b).set f (.int v))) = wR g ad k (u2 po f b v, y) :=
  lt5 (P := fun f => (wR g ad k (po, y)).set (7 + b) (ad (7 + b), .inr (3, (poL po b).set f (.int v))) = wR g ad k (u2 po f b v, y))
    (lt3 (P := fun b => (wR g ad k (po, y)).set (7 + b) (ad (7 + b), .inr (3, (poL po b).set 0 (.int v))) = wR g ad k (u2 po 0 b v, y)) rfl rfl rfl h)
    (lt3 (P := fun b => (wR g ad k (po, y)).set (7 + b) (ad (7 + b), .inr (3, (poL po b).set 1 (.int v))) = wR g ad k (u2 po 1 b v, y)) rfl rfl rfl h)
    (lt3 (P := fun b => (wR g ad k (po, y)).set (7 + b) (ad (7 + b), .inr (3, (poL po b).set 2 (.int v))) = wR g ad k (u2 po 2 b v, y)) rfl rfl rfl h)
    (lt3 (P := fun b => (wR g ad k (po, y)).set (7 + b) (ad (7 + b), .inr (3, (poL po b).set 3 (.int v))) = wR g ad k (u2 po 3 b v, y)) rfl rfl rfl h)
    (lt3 (P := fun b => (wR g ad k (po, y)).set (7 + b) (ad (7 + b), .inr (3, (poL po b).set 4 (.int v))) = wR g ad k (u2 po 4 b v, y)) rfl rfl rfl h) hf
theorem F_Po_f {f : Nat} (h : f < 5) : (F_Po f).1 = "SweptPaths$Pose" ∧ (F_Po f).2.2.1 = "I" ∧ (F_Po f).2.2.2 = false := lt5 (P := fun f => (F_Po f).1 = "SweptPaths$Pose" ∧ (F_Po f).2.2.1 = "I" ∧ (F_Po f).2.2.2 = false) ⟨rfl, rfl, rfl⟩ ⟨rfl, rfl, rfl⟩ ⟨rfl, rfl, rfl⟩ ⟨rfl, rfl, rfl⟩ ⟨rfl, rfl, rfl⟩ h
section POSE
variable {l : Launch} {g : Glob} {own : String} {cc : ByteArray} {nL : Nat} {A : Nat → Prop} {p : Program} {e : Env} {s : State} {m : MethodId} {args : Array Value} {below : List Frame} {meth : Method} {c : Code} {R : Room} {H : Heap} {locs : List Loc} {cells slots : Nat} {Q : State → Prop} {pc : Nat} {ls : Array Slot} {rest : List Value}
  {ad : Nat → Nat} {k : CFG} {x : RS} {po : St2} {y : (Nat → Int32) × Int32 × (Nat → Int64)} {idx a : Nat}
theorem get_po (C : Cx g own cc nL A p s m args c) (f b : Nat) (hf : f < 5) (h3 : b < 3) (ha : a = ad (7 + b)) (hl : Cond.fieldLink own idx "SweptPaths$Pose" (F_Po f).2.1 (F_Po f).2.2.1 ∈ W0) (hP : va_P g.1 classes (wR g ad k x) H) (v : Int32) (hv : x.1 f b = v) (hdg : decode cc pc = .ok (.getfield idx, 3))
    (kk : W p l e R s m args below meth c H locs cells slots Q (F0 m (pc + 3) ls (.int v :: rest))) : W p l e R s m args below meth c H locs cells slots Q (F0 m pc ls (.ref a :: rest)) := by
  obtain ⟨hx, hb, hml, hown, hw, hE, hA⟩ := C
  subst ha
  exact va_get (D := g.1) (ci := 3) (v := .int v) (C := R_Po) (T := F_Po) (N := 5) hx hb hw i_Po hown hE.1 hP (7 + b) (wR_get h3) rfl f hf (hw _ hl) (fun _ h9 => by rw [(F_Po_f hf).1] at h9; exact h9) (by rw [poL_get hf, hv]) hdg kk
theorem put_po (C : Cx g own cc nL A p s m args c) (f b : Nat) (hf : f < 5) (h3 : b < 3) (ha : a = ad (7 + b)) (hl : Cond.fieldLink own idx "SweptPaths$Pose" (F_Po f).2.1 (F_Po f).2.2.1 ∈ W0) (hP : va_P g.1 classes (wR g ad k (po, y)) H) (hD : va_D A (wR g ad k (po, y))) (hS : va_S A s.heap H locs) {v : Int32} (hdg : decode cc pc = .ok (.putfield idx, 3))
    (kk : ∀ (H : Heap) (locs : List Loc), va_P g.1 classes (wR g ad k (u2 po f b v, y)) H → va_D A (wR g ad k (u2 po f b v, y)) → va_S A s.heap H locs → W p l e R s m args below meth c H locs cells slots Q (F0 m (pc + 3) ls rest)) : W p l e R s m args below meth c H locs cells slots Q (F0 m pc ls (.int v :: .ref a :: rest)) := by
  obtain ⟨hx, hb, hml, hown, hw, hE, hA⟩ := C
  subst ha
  refine va_put (D := g.1) (ci := 3) (v := .int v) (ty := .int) (C := R_Po) (T := F_Po) (N := 5) hx hb hw i_Po t_Po t_Po_ok n_Po hown hE.1 hP hD hS (7 + b) (wR_get h3) rfl f hf (hw _ hl) (fun _ h9 => by rw [(F_Po_f hf).1] at h9; exact h9) (F_Po_f hf).2.2 (by rw [(F_Po_f hf).2.1]; decide +kernel) rfl rfl hf hdg (fun H locs hP hD hS => ?_)
  rw [show (po, y).1 = po from rfl, wR_set hf h3] at hP hD
  exact kk H locs hP hD hS
end POSE
