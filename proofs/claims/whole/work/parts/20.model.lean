/-! the reference: its numbers by their fields' places, its arrays by theirs -/
abbrev MS : Type := (Nat → Int32) × St2
def moL (ad : Nat → Nat) (s : Nat → Int32) : List Value := [.int (s 0), .ref (ad 1), .int (s 2), .ref (ad 2), .ref (ad 3), .ref (ad 4), .ref (ad 5), .ref (ad 6), .int (s 8), .int (s 9), .int (s 10), .int (s 11), .int (s 12), .ref (ad 7), .ref (ad 8), .ref (ad 9), .ref (ad 10), .ref (ad 11), .ref (ad 12), .ref (ad 13), .ref (ad 14), .ref (ad 15), .ref (ad 16), .ref (ad 17), .int (s 24), .int (s 25), .int (s 26), .int (s 27), .int (s 28), .int (s 29), .ref (ad 18), .ref (ad 19), .ref (ad 20)]
def wM (g : Glob) (ad : Nat → Nat) (x : MS) : va_W := [(ad 0, .inr (7, moL ad x.1)), (ad 1, .inl (g.2.1 0, 17, .inl (x.2 1))), (ad 2, .inl (g.2.1 0, 3, .inl (x.2 2))), (ad 3, .inl (g.2.1 0, 3, .inl (x.2 3))), (ad 4, .inl (g.2.1 0, 3, .inl (x.2 4))), (ad 5, .inl (g.2.1 0, 3, .inl (x.2 5))), (ad 6, .inl (g.2.1 0, 3, .inl (x.2 6))), (ad 7, .inl (g.2.1 0, 20, .inl (x.2 7))), (ad 8, .inl (g.2.1 0, 20, .inl (x.2 8))), (ad 9, .inl (g.2.1 0, 4, .inl (x.2 9))), (ad 10, .inl (g.2.1 0, 24, .inl (x.2 10))), (ad 11, .inl (g.2.1 0, 24, .inl (x.2 11))), (ad 12, .inl (g.2.1 2, 24, .inl (x.2 12))), (ad 13, .inl (g.2.1 0, 3, .inl (x.2 13))), (ad 14, .inl (g.2.1 0, 3, .inl (x.2 14))), (ad 15, .inl (g.2.1 0, 3, .inl (x.2 15))), (ad 16, .inl (g.2.1 0, 3, .inl (x.2 16))), (ad 17, .inl (g.2.1 0, 3, .inl (x.2 17))), (ad 18, .inl (g.2.1 2, 4096, .inl (x.2 18))), (ad 19, .inl (g.2.1 0, 20, .inl (x.2 19))), (ad 20, .inl (g.2.1 2, 4096, .inl (x.2 20)))]
theorem wM_s0 {g : Glob} {ad : Nat → Nat} {s : Nat → Int32} {a : St2} {v : Int32} : (wM g ad (s, a)).set 0 (ad 0, .inr (7, (moL ad s).set 0 (.int v))) = wM g ad (upd s 0 v, a) := rfl
theorem wM_s2 {g : Glob} {ad : Nat → Nat} {s : Nat → Int32} {a : St2} {v : Int32} : (wM g ad (s, a)).set 0 (ad 0, .inr (7, (moL ad s).set 2 (.int v))) = wM g ad (upd s 2 v, a) := rfl
theorem wM_s8 {g : Glob} {ad : Nat → Nat} {s : Nat → Int32} {a : St2} {v : Int32} : (wM g ad (s, a)).set 0 (ad 0, .inr (7, (moL ad s).set 8 (.int v))) = wM g ad (upd s 8 v, a) := rfl
theorem wM_s9 {g : Glob} {ad : Nat → Nat} {s : Nat → Int32} {a : St2} {v : Int32} : (wM g ad (s, a)).set 0 (ad 0, .inr (7, (moL ad s).set 9 (.int v))) = wM g ad (upd s 9 v, a) := rfl
theorem wM_s10 {g : Glob} {ad : Nat → Nat} {s : Nat → Int32} {a : St2} {v : Int32} : (wM g ad (s, a)).set 0 (ad 0, .inr (7, (moL ad s).set 10 (.int v))) = wM g ad (upd s 10 v, a) := rfl
theorem wM_s11 {g : Glob} {ad : Nat → Nat} {s : Nat → Int32} {a : St2} {v : Int32} : (wM g ad (s, a)).set 0 (ad 0, .inr (7, (moL ad s).set 11 (.int v))) = wM g ad (upd s 11 v, a) := rfl
theorem wM_s12 {g : Glob} {ad : Nat → Nat} {s : Nat → Int32} {a : St2} {v : Int32} : (wM g ad (s, a)).set 0 (ad 0, .inr (7, (moL ad s).set 12 (.int v))) = wM g ad (upd s 12 v, a) := rfl
theorem wM_s24 {g : Glob} {ad : Nat → Nat} {s : Nat → Int32} {a : St2} {v : Int32} : (wM g ad (s, a)).set 0 (ad 0, .inr (7, (moL ad s).set 24 (.int v))) = wM g ad (upd s 24 v, a) := rfl
theorem wM_s25 {g : Glob} {ad : Nat → Nat} {s : Nat → Int32} {a : St2} {v : Int32} : (wM g ad (s, a)).set 0 (ad 0, .inr (7, (moL ad s).set 25 (.int v))) = wM g ad (upd s 25 v, a) := rfl
theorem wM_s26 {g : Glob} {ad : Nat → Nat} {s : Nat → Int32} {a : St2} {v : Int32} : (wM g ad (s, a)).set 0 (ad 0, .inr (7, (moL ad s).set 26 (.int v))) = wM g ad (upd s 26 v, a) := rfl
theorem wM_s27 {g : Glob} {ad : Nat → Nat} {s : Nat → Int32} {a : St2} {v : Int32} : (wM g ad (s, a)).set 0 (ad 0, .inr (7, (moL ad s).set 27 (.int v))) = wM g ad (upd s 27 v, a) := rfl
theorem wM_s28 {g : Glob} {ad : Nat → Nat} {s : Nat → Int32} {a : St2} {v : Int32} : (wM g ad (s, a)).set 0 (ad 0, .inr (7, (moL ad s).set 28 (.int v))) = wM g ad (upd s 28 v, a) := rfl
theorem wM_s29 {g : Glob} {ad : Nat → Nat} {s : Nat → Int32} {a : St2} {v : Int32} : (wM g ad (s, a)).set 0 (ad 0, .inr (7, (moL ad s).set 29 (.int v))) = wM g ad (upd s 29 v, a) := rfl
theorem wM_a1 {g : Glob} {ad : Nat → Nat} {s : Nat → Int32} {a : St2} {i : Nat} {v : Int32} : (wM g ad (s, a)).set 1 (ad 1, .inl (g.2.1 0, 17, .inl (upd (a 1) i v))) = wM g ad (s, u2 a 1 i v) := rfl
theorem wM_a2 {g : Glob} {ad : Nat → Nat} {s : Nat → Int32} {a : St2} {i : Nat} {v : Int32} : (wM g ad (s, a)).set 2 (ad 2, .inl (g.2.1 0, 3, .inl (upd (a 2) i v))) = wM g ad (s, u2 a 2 i v) := rfl
theorem wM_a3 {g : Glob} {ad : Nat → Nat} {s : Nat → Int32} {a : St2} {i : Nat} {v : Int32} : (wM g ad (s, a)).set 3 (ad 3, .inl (g.2.1 0, 3, .inl (upd (a 3) i v))) = wM g ad (s, u2 a 3 i v) := rfl
theorem wM_a4 {g : Glob} {ad : Nat → Nat} {s : Nat → Int32} {a : St2} {i : Nat} {v : Int32} : (wM g ad (s, a)).set 4 (ad 4, .inl (g.2.1 0, 3, .inl (upd (a 4) i v))) = wM g ad (s, u2 a 4 i v) := rfl
theorem wM_a5 {g : Glob} {ad : Nat → Nat} {s : Nat → Int32} {a : St2} {i : Nat} {v : Int32} : (wM g ad (s, a)).set 5 (ad 5, .inl (g.2.1 0, 3, .inl (upd (a 5) i v))) = wM g ad (s, u2 a 5 i v) := rfl
theorem wM_a6 {g : Glob} {ad : Nat → Nat} {s : Nat → Int32} {a : St2} {i : Nat} {v : Int32} : (wM g ad (s, a)).set 6 (ad 6, .inl (g.2.1 0, 3, .inl (upd (a 6) i v))) = wM g ad (s, u2 a 6 i v) := rfl
theorem wM_a7 {g : Glob} {ad : Nat → Nat} {s : Nat → Int32} {a : St2} {i : Nat} {v : Int32} : (wM g ad (s, a)).set 7 (ad 7, .inl (g.2.1 0, 20, .inl (upd (a 7) i v))) = wM g ad (s, u2 a 7 i v) := rfl
theorem wM_a8 {g : Glob} {ad : Nat → Nat} {s : Nat → Int32} {a : St2} {i : Nat} {v : Int32} : (wM g ad (s, a)).set 8 (ad 8, .inl (g.2.1 0, 20, .inl (upd (a 8) i v))) = wM g ad (s, u2 a 8 i v) := rfl
theorem wM_a9 {g : Glob} {ad : Nat → Nat} {s : Nat → Int32} {a : St2} {i : Nat} {v : Int32} : (wM g ad (s, a)).set 9 (ad 9, .inl (g.2.1 0, 4, .inl (upd (a 9) i v))) = wM g ad (s, u2 a 9 i v) := rfl
theorem wM_a10 {g : Glob} {ad : Nat → Nat} {s : Nat → Int32} {a : St2} {i : Nat} {v : Int32} : (wM g ad (s, a)).set 10 (ad 10, .inl (g.2.1 0, 24, .inl (upd (a 10) i v))) = wM g ad (s, u2 a 10 i v) := rfl
theorem wM_a11 {g : Glob} {ad : Nat → Nat} {s : Nat → Int32} {a : St2} {i : Nat} {v : Int32} : (wM g ad (s, a)).set 11 (ad 11, .inl (g.2.1 0, 24, .inl (upd (a 11) i v))) = wM g ad (s, u2 a 11 i v) := rfl
theorem wM_a12 {g : Glob} {ad : Nat → Nat} {s : Nat → Int32} {a : St2} {i : Nat} {v : Int32} : (wM g ad (s, a)).set 12 (ad 12, .inl (g.2.1 2, 24, .inl (upd (a 12) i v))) = wM g ad (s, u2 a 12 i v) := rfl
theorem wM_a13 {g : Glob} {ad : Nat → Nat} {s : Nat → Int32} {a : St2} {i : Nat} {v : Int32} : (wM g ad (s, a)).set 13 (ad 13, .inl (g.2.1 0, 3, .inl (upd (a 13) i v))) = wM g ad (s, u2 a 13 i v) := rfl
theorem wM_a14 {g : Glob} {ad : Nat → Nat} {s : Nat → Int32} {a : St2} {i : Nat} {v : Int32} : (wM g ad (s, a)).set 14 (ad 14, .inl (g.2.1 0, 3, .inl (upd (a 14) i v))) = wM g ad (s, u2 a 14 i v) := rfl
theorem wM_a15 {g : Glob} {ad : Nat → Nat} {s : Nat → Int32} {a : St2} {i : Nat} {v : Int32} : (wM g ad (s, a)).set 15 (ad 15, .inl (g.2.1 0, 3, .inl (upd (a 15) i v))) = wM g ad (s, u2 a 15 i v) := rfl
theorem wM_a16 {g : Glob} {ad : Nat → Nat} {s : Nat → Int32} {a : St2} {i : Nat} {v : Int32} : (wM g ad (s, a)).set 16 (ad 16, .inl (g.2.1 0, 3, .inl (upd (a 16) i v))) = wM g ad (s, u2 a 16 i v) := rfl
theorem wM_a17 {g : Glob} {ad : Nat → Nat} {s : Nat → Int32} {a : St2} {i : Nat} {v : Int32} : (wM g ad (s, a)).set 17 (ad 17, .inl (g.2.1 0, 3, .inl (upd (a 17) i v))) = wM g ad (s, u2 a 17 i v) := rfl
theorem wM_a18 {g : Glob} {ad : Nat → Nat} {s : Nat → Int32} {a : St2} {i : Nat} {v : Int32} : (wM g ad (s, a)).set 18 (ad 18, .inl (g.2.1 2, 4096, .inl (upd (a 18) i v))) = wM g ad (s, u2 a 18 i v) := rfl
theorem wM_a19 {g : Glob} {ad : Nat → Nat} {s : Nat → Int32} {a : St2} {i : Nat} {v : Int32} : (wM g ad (s, a)).set 19 (ad 19, .inl (g.2.1 0, 20, .inl (upd (a 19) i v))) = wM g ad (s, u2 a 19 i v) := rfl
theorem wM_a20 {g : Glob} {ad : Nat → Nat} {s : Nat → Int32} {a : St2} {i : Nat} {v : Int32} : (wM g ad (s, a)).set 20 (ad 20, .inl (g.2.1 2, 4096, .inl (upd (a 20) i v))) = wM g ad (s, u2 a 20 i v) := rfl
section MODEL
variable {l : Launch} {g : Glob} {own : String} {cc : ByteArray} {nL : Nat} {A : Nat → Prop} {p : Program} {e : Env} {s : State} {m : MethodId} {args : Array Value} {below : List Frame} {meth : Method} {c : Code} {R : Room} {H : Heap} {locs : List Loc} {cells slots : Nat} {Q : State → Prop} {pc : Nat} {ls : Array Slot} {rest : List Value}
  {ad : Nat → Nat} {x : MS} {sc : Nat → Int32} {ar : St2} {idx : Nat}
/-- a number of the reference -/
theorem get_ms (C : Cx g own cc nL A p s m args c) (f : Nat) {ref : String} (hl : Cond.fieldLink own idx ref (F_Mo f).2.1 (F_Mo f).2.2.1 ∈ W0) (hr : ref = (F_Mo f).1) (hf : f < 33) (v : Value) (hv : (moL ad x.1)[f]? = some v) (hP : va_P g.1 classes (wM g ad x) H) (hdg : decode cc pc = .ok (.getfield idx, 3))
    (kk : W p l e R s m args below meth c H locs cells slots Q (F0 m (pc + 3) ls (v :: rest))) : W p l e R s m args below meth c H locs cells slots Q (F0 m pc ls (.ref (ad 0) :: rest)) := by
  obtain ⟨hx, hb, hml, hown, hw, hE, hA⟩ := C
  exact va_get (D := g.1) (ci := 7) (v := v) (C := R_Mo) (T := F_Mo) (N := 33) hx hb hw i_Mo hown hE.1 hP 0 rfl rfl f hf (hw _ hl) (fun _ h9 => by rw [hr]; exact h9) hv hdg kk
theorem get_mi (C : Cx g own cc nL A p s m args c) (f : Nat) {ref : String} (hl : Cond.fieldLink own idx ref (F_Mo f).2.1 (F_Mo f).2.2.1 ∈ W0) (hr : ref = (F_Mo f).1) (hf : f < 33) (h0 : (moL ad x.1)[f]? = some (.int (x.1 f))) (v : Int32) (hv : x.1 f = v) (hP : va_P g.1 classes (wM g ad x) H) (hdg : decode cc pc = .ok (.getfield idx, 3))
    (kk : W p l e R s m args below meth c H locs cells slots Q (F0 m (pc + 3) ls (.int v :: rest))) : W p l e R s m args below meth c H locs cells slots Q (F0 m pc ls (.ref (ad 0) :: rest)) := get_ms C f hl hr hf (.int v) (by rw [h0, hv]) hP hdg kk
theorem put_ms (C : Cx g own cc nL A p s m args c) (f : Nat) {ref : String} {ty : FieldType} (hl : Cond.fieldLink own idx ref (F_Mo f).2.1 (F_Mo f).2.2.1 ∈ W0) (hr : ref = (F_Mo f).1) (hf : f < 33) (hfin : (F_Mo f).2.2.2 = false) {v : Int32} (hty : parseFieldDescriptor (F_Mo f).2.2.1 = some ty) (hn : narrow ty (.int v) = .int v) (hfit : fits ty (.int v) = true)
    (hset : (wM g ad (sc, ar)).set 0 (ad 0, .inr (7, (moL ad sc).set f (.int v))) = wM g ad (upd sc f v, ar)) (hP : va_P g.1 classes (wM g ad (sc, ar)) H) (hD : va_D A (wM g ad (sc, ar))) (hS : va_S A s.heap H locs) (hdg : decode cc pc = .ok (.putfield idx, 3))
    (kk : ∀ (H : Heap) (locs : List Loc), va_P g.1 classes (wM g ad (upd sc f v, ar)) H → va_D A (wM g ad (upd sc f v, ar)) → va_S A s.heap H locs → W p l e R s m args below meth c H locs cells slots Q (F0 m (pc + 3) ls rest)) : W p l e R s m args below meth c H locs cells slots Q (F0 m pc ls (.int v :: .ref (ad 0) :: rest)) := by
  obtain ⟨hx, hb, hml, hown, hw, hE, hA⟩ := C
  refine va_put (D := g.1) (ci := 7) (v := .int v) (ty := ty) (fs := moL ad sc) (C := R_Mo) (T := F_Mo) (N := 33) hx hb hw i_Mo t_Mo t_Mo_ok n_Mo hown hE.1 hP hD hS 0 rfl rfl f hf (hw _ hl) (fun _ h9 => by rw [hr]; exact h9) hfin hty hn hfit hf hdg (fun H locs hP hD hS => ?_)
  rw [hset] at hP hD
  exact kk H locs hP hD hS
/-- a place of an int array -/
theorem get_ma (C : Cx g own cc nL A p s m args c) (n len : Nat) (hc : (wM g ad x)[n]? = some (ad n, .inl (g.2.1 0, len, .inl (x.2 n)))) {i : Int32} (hin : vp_in i len) (v : Int32) (hv : x.2 n i.toNatClampNeg = v) (hP : va_P g.1 classes (wM g ad x) H) (hdg : decode cc pc = .ok (.iaload, 1))
    (kk : W p l e R s m args below meth c H locs cells slots Q (F0 m (pc + 1) ls (.int v :: rest))) : W p l e R s m args below meth c H locs cells slots Q (F0 m pc ls (.int i :: .ref (ad n) :: rest)) := by
  obtain ⟨hx, hb, hml, hown, hw, hE, hA⟩ := C
  subst hv
  exact va_iald hx hb hE.1 hP n 0 hc rfl hin hdg kk
theorem get_mz (C : Cx g own cc nL A p s m args c) (n len : Nat) (hc : (wM g ad x)[n]? = some (ad n, .inl (g.2.1 2, len, .inl (x.2 n)))) {i : Int32} (hin : vp_in i len) (v : Int32) (hv : x.2 n i.toNatClampNeg = v) (hP : va_P g.1 classes (wM g ad x) H) (hdg : decode cc pc = .ok (.baload, 1))
    (kk : W p l e R s m args below meth c H locs cells slots Q (F0 m (pc + 1) ls (.int v :: rest))) : W p l e R s m args below meth c H locs cells slots Q (F0 m pc ls (.int i :: .ref (ad n) :: rest)) := by
  obtain ⟨hx, hb, hml, hown, hw, hE, hA⟩ := C
  subst hv
  exact va_zald hx hb hE.1 hP n 2 hc rfl hin hdg kk
theorem put_ma (C : Cx g own cc nL A p s m args c) (n len : Nat) (hc : (wM g ad (sc, ar))[n]? = some (ad n, .inl (g.2.1 0, len, .inl (ar n)))) {i v : Int32} (hin : vp_in i len) (j : Nat) (hj : i.toNatClampNeg = j) (hset : (wM g ad (sc, ar)).set n (ad n, .inl (g.2.1 0, len, .inl (upd (ar n) j v))) = wM g ad (sc, u2 ar n j v)) (hP : va_P g.1 classes (wM g ad (sc, ar)) H) (hD : va_D A (wM g ad (sc, ar))) (hS : va_S A s.heap H locs) (hdg : decode cc pc = .ok (.iastore, 1))
    (kk : ∀ (H : Heap) (locs : List Loc), va_P g.1 classes (wM g ad (sc, u2 ar n j v)) H → va_D A (wM g ad (sc, u2 ar n j v)) → va_S A s.heap H locs → W p l e R s m args below meth c H locs cells slots Q (F0 m (pc + 1) ls rest)) : W p l e R s m args below meth c H locs cells slots Q (F0 m pc ls (.int v :: .int i :: .ref (ad n) :: rest)) := by
  obtain ⟨hx, hb, hml, hown, hw, hE, hA⟩ := C
  subst hj
  refine va_iast hx hb hE.1 hP hD hS n 0 hc rfl hin hdg (fun H locs hP hD hS => ?_)
  rw [hset] at hP hD
  exact kk H locs hP hD hS
theorem put_mz (C : Cx g own cc nL A p s m args c) (n len : Nat) (hc : (wM g ad (sc, ar))[n]? = some (ad n, .inl (g.2.1 2, len, .inl (ar n)))) {i v : Int32} (hin : vp_in i len) (j : Nat) (hj : i.toNatClampNeg = j) (hv : vp_nar .boolean v = v) (hset : (wM g ad (sc, ar)).set n (ad n, .inl (g.2.1 2, len, .inl (upd (ar n) j v))) = wM g ad (sc, u2 ar n j v)) (hP : va_P g.1 classes (wM g ad (sc, ar)) H) (hD : va_D A (wM g ad (sc, ar))) (hS : va_S A s.heap H locs) (hdg : decode cc pc = .ok (.bastore, 1))
    (kk : ∀ (H : Heap) (locs : List Loc), va_P g.1 classes (wM g ad (sc, u2 ar n j v)) H → va_D A (wM g ad (sc, u2 ar n j v)) → va_S A s.heap H locs → W p l e R s m args below meth c H locs cells slots Q (F0 m (pc + 1) ls rest)) : W p l e R s m args below meth c H locs cells slots Q (F0 m pc ls (.int v :: .int i :: .ref (ad n) :: rest)) := by
  obtain ⟨hx, hb, hml, hown, hw, hE, hA⟩ := C
  subst hj
  refine va_zast hx hb hE.1 hP hD hS n 2 hc rfl hin hdg (fun H locs hP hD hS => ?_)
  rw [hv, hset] at hP hD
  exact kk H locs hP hD hS
end MODEL
