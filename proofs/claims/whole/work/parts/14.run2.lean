/-! poles, looking round, moving, beginning, walking, following -/
def hitF (k : CFG) (po : St2) (b p : Nat) : Int32 := insI k.1 b (((k.2.2.1 p - po 0 b).toInt64 * (dX (po 2 b)).toInt64) + ((k.2.2.2 p - po 1 b).toInt64 * (dY (po 2 b)).toInt64)) (((k.2.2.2 p - po 1 b).toInt64 * (dX (po 2 b)).toInt64) - ((k.2.2.1 p - po 0 b).toInt64 * (dY (po 2 b)).toInt64))
def firstHit (h : Nat → Int32) : Nat → Nat → Option Nat
  | 0, _ => none
  | n + 1, p => if h p = 0 then firstHit h n (p + 1) else some p
theorem fh_end {h : Nat → Int32} {n q : Nat} {o9 : Option Nat} (hq : n ≤ q) (h9 : firstHit h (n - q) q = o9) : o9 = none := by
  rw [Nat.sub_eq_zero_of_le hq] at h9
  exact h9.symm
theorem fh_back {h : Nat → Int32} {n q : Nat} {o9 : Option Nat} (hq : q < n) (h9 : firstHit h (n - q) q = o9) (c : h q = 0) : firstHit h (n - (q + 1)) (q + 1) = o9 := by
  rw [show n - q = (n - (q + 1)) + 1 by omega, firstHit, if_pos c] at h9
  exact h9
theorem fh_hit {h : Nat → Int32} {n q : Nat} {o9 : Option Nat} (hq : q < n) (h9 : firstHit h (n - q) q = o9) (c : ¬ h q = 0) : o9 = some q := by
  rw [show n - q = (n - (q + 1)) + 1 by omega, firstHit, if_neg c] at h9
  exact h9.symm
def polR (o : Option Nat) (b : Nat) (x : RS) : RS := match o with
  | none => x
  | some p => (x.1, upd (upd (upd x.2.1 2 (x.2.1 0)) 3 (nI b)) 4 (nI p), x.2.2)
def polF (k : CFG) (np b : Nat) (x : RS) : RS := polR (firstHit (hitF k x.1 b) np 0) b x
def cvF (k : CFG) (b : Nat) (x : RS) : RS := (x.1, x.2.1, coverF k.1 x.1 b x.2.2)
def lkF (k : CFG) (np b : Nat) (x : RS) : RS := if x.2.1 2 = -1 then polF k np b (cvF k b x) else cvF k b x
def mv0 (turn way : Int32) (x : RS) : RS := (u2 (u2 (u2 x.1 0 0 (x.1 0 0 + way * dX (x.1 2 0))) 1 0 (x.1 1 0 + way * dY (x.1 2 0))) 2 0 ((x.1 2 0 + turn) &&& 63), x.2)
def mk1 (x : RS) : RS := (x.1, upd x.2.1 0 (x.2.1 0 + 1), x.2.2)
def mvG (k : CFG) (n : Nat) (x : RS) : RS := mk1 (itF (plF k) n 1 x)
def moveF (k : CFG) (n : Nat) (turn way : Int32) (x : RS) : RS := mvG k n (itF (swF k way) n 1 (mv0 turn way x))
def bgF (k : CFG) (b : Nat) (x : RS) : RS := (u2 (u2 (u2 x.1 2 b (k.2.1 4)) 3 b 0) 4 b 0, x.2)
def bg0 (x : RS) : RS := (x.1, upd (upd (upd (upd (upd x.2.1 0 0) 1 0) 2 (-1)) 3 (-1)) 4 (-1), 0, fun _ => 0)
def bg1 (k : CFG) (x : RS) : RS := (u2 (u2 x.1 0 0 (k.2.1 2 * 4096)) 1 0 (k.2.1 3 * 4096), x.2)
def begG (k : CFG) (n np : Nat) (x : RS) : RS := itF (lkF k np) n 0 (itF (plF k) n 1 (bg1 k x))
def begF (k : CFG) (n np : Nat) (x : RS) : RS := begG k n np (itF (bgF k) n 0 (bg0 x))
/-- one step: move, measure, look round -/
def stpF (k : CFG) (n np : Nat) (turn way : Int32) (x : RS) : RS := itF (lkF k np) n 0 (itF msF n 1 (moveF k n turn way x))
def whileF {α : Type} (stop : α → Bool) (f : α → α) : Nat → α → α
  | 0, x => x
  | j + 1, x => if stop x = true then x else whileF stop f j (f x)
def stopR (x : RS) : Bool := !(x.2.1 1 == 0) || decide (4000 ≤ x.2.1 0)
theorem stop_t1 {x : RS} (c : ¬ x.2.1 1 = 0) : stopR x = true := by simp [stopR, c]
theorem stop_t2 {x : RS} (c : 4000 ≤ x.2.1 0) : stopR x = true := by simp [stopR, c]
theorem stop_f {x : RS} (c1 : x.2.1 1 = 0) (c2 : ¬ 4000 ≤ x.2.1 0) : stopR x = false := by simp [stopR, c1, c2]
def sgnI (fw : Int32) : Int32 := if fw = 0 then -1 else 1
def walkF (k : CFG) (n np : Nat) (turn : Int32) (N : Nat) (fw : Int32) (x : RS) : RS := whileF stopR (stpF k n np (sgnI fw * turn) (sgnI fw * k.2.1 5)) N x
theorem wh_end {α : Type} {stop : α → Bool} {f : α → α} {N q : Nat} {x x9 : α} (h : N ≤ q) (h9 : whileF stop f (N - q) x = x9) : x = x9 := by
  rw [Nat.sub_eq_zero_of_le h] at h9
  exact h9
theorem wh_stop {α : Type} {stop : α → Bool} {f : α → α} {N q : Nat} {x x9 : α} (c : stop x = true) (h9 : whileF stop f (N - q) x = x9) : x = x9 := by
  cases e : N - q with
  | zero => rw [e] at h9; exact h9
  | succ j => rw [e, whileF, if_pos c] at h9; exact h9
theorem wh_back {α : Type} {stop : α → Bool} {f : α → α} {N q : Nat} {x x9 x' : α} (h : q < N) (c : stop x = false) (h9 : whileF stop f (N - q) x = x9) (e : f x = x') : whileF stop f (N - (q + 1)) x' = x9 := by
  rw [show N - q = (N - (q + 1)) + 1 by omega, whileF, if_neg (by rw [c]; decide)] at h9
  rw [← e]
  exact h9
theorem lt_of_nle' {i n : Nat} {a : Int32} (M : Nat) (hn : a = nI n) (h3 : n ≤ M) (hM : M < 2 ^ 30) (hi : i ≤ n + 1) (c : ¬ a ≤ nI i) : i < n := by
  rcases Nat.lt_or_ge i n with q | q
  · exact q
  · exact absurd (by rw [hn]; exact nI_le q (by omega)) c
theorem ge_of_le' {i n : Nat} {a : Int32} (M : Nat) (hn : a = nI n) (h3 : n ≤ M) (hM : M < 2 ^ 30) (hi : i ≤ n + 1) (c : a ≤ nI i) : n ≤ i := by
  rw [hn] at c
  exact (nI_leI (by omega) (by omega)).mp c

set_option maxHeartbeats 4000000 in
set_option maxRecDepth 100000 in
theorem c_Ru_lookForPoles_0 (l : Launch) (g : Glob) (ad : Nat → Nat) (k : CFG) (x : RS) (np : Nat) (hp : k.2.1 1 = nI np) (h20 : np ≤ 20) : CV l g y_Ru_lookForPoles b_Ru_lookForPoles 13 1 24 [.ref (ad 0), .int 0] (wR g ad k x) (wR g ad k (polF k np 0 x)) := by
  refine CV.of (by decide +kernel) (Nat.le_of_ble_eq_true rfl) ?_
  intro p e s m below meth c A Q ls C hP hD hl hret hS
  obtain ⟨hx, hb, hml, hown, hw, hE, hA⟩ := id C
  have hl : lv_has ls 13 [(0, .ref (ad 0)), (1, .int 0)] := hl
  unfold polF at hret
  generalize h9 : firstHit (hitF k x.1 0) np 0 = o9 at hret
  refine lv_aload_n hx hb d_Ru_lookForPoles_0 rfl (lv_at hl 0 rfl) ?_
  refine va_get (D := g.1) (ci := 4) (v := .ref (ad 1)) (C := R_Ru) (T := F_Ru) (N := 8) hx hb hw i_Ru hown hE.1 hP 0 rfl rfl 7 (by decide) (hw _ q_170) (fun _ h9 => h9) rfl d_Ru_lookForPoles_1 ?_
  refine va_get (D := g.1) (ci := 5) (v := .ref (ad 2)) (C := R_Se) (T := F_Se) (N := 9) hx hb hw i_Se hown hE.1 hP 1 rfl rfl 0 (by decide) (hw _ q_65) (fun _ h9 => h9) rfl d_Ru_lookForPoles_4 ?_
  refine lv_iload_n hx hb d_Ru_lookForPoles_7 rfl (lv_at hl 1 rfl) ?_
  refine va_aldq hx hb hE.1 hP 2 3 rfl rfl (by unfold vp_in; decide) d_Ru_lookForPoles_8 ?_
  rw [show (0 : Int32).toNatClampNeg = 0 from by decide]
  refine lv_astore_n (lv' := [(2, .ref (ad (3 + 0))), (0, .ref (ad 0)), (1, .int 0)]) hx hb d_Ru_lookForPoles_9 rfl hl (by decide) rfl (fun ls hl => ?_)
  refine lv_aload_n hx hb d_Ru_lookForPoles_10 rfl (lv_at hl 1 rfl) ?_
  refine va_get (D := g.1) (ci := 4) (v := .ref (ad 6)) (C := R_Ru) (T := F_Ru) (N := 8) hx hb hw i_Ru hown hE.1 hP 0 rfl rfl 0 (by decide) (hw _ q_156) (fun _ h9 => h9) rfl d_Ru_lookForPoles_11 ?_
  refine lv_iload_n hx hb d_Ru_lookForPoles_14 rfl (lv_at hl 2 rfl) ?_
  refine va_aldq hx hb hE.1 hP 6 4 rfl rfl (by unfold vp_in; decide) d_Ru_lookForPoles_15 ?_
  rw [show (0 : Int32).toNatClampNeg = 0 from by decide]
  refine lv_astore_n (lv' := [(3, .ref (ad (7 + 0))), (2, .ref (ad (3 + 0))), (0, .ref (ad 0)), (1, .int 0)]) hx hb d_Ru_lookForPoles_16 rfl hl (by decide) rfl (fun ls hl => ?_)
  refine lv_aload_n hx hb d_Ru_lookForPoles_17 rfl (lv_at hl 0 rfl) ?_
  refine get_po C 2 0 (by decide) (by decide) rfl q_124 hP (x.1 2 0) rfl d_Ru_lookForPoles_18 ?_
  refine csI C v_Ru_123 [.int (x.1 2 0)] [] (c_Di_dx l g (x.1 2 0)) hP hS rfl rfl hl.1 (Nat.le_of_ble_eq_true rfl) ⟨Nat.le_of_ble_eq_true rfl, Nat.le_of_ble_eq_true rfl⟩ d_Ru_lookForPoles_21 ⟨Nat.zero_le _, Nat.zero_le _⟩ (fun H locs hP hS => ?_)
  refine lv_i2l hx hb d_Ru_lookForPoles_24 rfl ?_
  refine lv_lstore (lv' := [(4, .long ((dX (x.1 2 0)).toInt64)), (3, .ref (ad (7 + 0))), (2, .ref (ad (3 + 0))), (0, .ref (ad 0)), (1, .int 0)]) hx hb d_Ru_lookForPoles_25 hl (by decide) rfl (fun ls hl => ?_)
  refine lv_aload_n hx hb d_Ru_lookForPoles_27 rfl (lv_at hl 1 rfl) ?_
  refine get_po C 2 0 (by decide) (by decide) rfl q_124 hP (x.1 2 0) rfl d_Ru_lookForPoles_28 ?_
  refine csI C v_Ru_127 [.int (x.1 2 0)] [] (c_Di_dy l g (x.1 2 0)) hP hS rfl rfl hl.1 (Nat.le_of_ble_eq_true rfl) ⟨Nat.le_of_ble_eq_true rfl, Nat.le_of_ble_eq_true rfl⟩ d_Ru_lookForPoles_31 ⟨Nat.zero_le _, Nat.zero_le _⟩ (fun H locs hP hS => ?_)
  refine lv_i2l hx hb d_Ru_lookForPoles_34 rfl ?_
  refine lv_lstore (lv' := [(6, .long ((dY (x.1 2 0)).toInt64)), (4, .long ((dX (x.1 2 0)).toInt64)), (3, .ref (ad (7 + 0))), (2, .ref (ad (3 + 0))), (0, .ref (ad 0)), (1, .int 0)]) hx hb d_Ru_lookForPoles_35 hl (by decide) rfl (fun ls hl => ?_)
  refine lv_iconst (v := 0) hx hb d_Ru_lookForPoles_37 (by decide) ?_
  refine lv_istore (lv' := [(8, .int 0), (6, .long ((dY (x.1 2 0)).toInt64)), (4, .long ((dX (x.1 2 0)).toInt64)), (3, .ref (ad (7 + 0))), (2, .ref (ad (3 + 0))), (0, .ref (ad 0)), (1, .int 0)]) hx hb d_Ru_lookForPoles_38 hl (by decide) rfl (fun ls hl => ?_)
  have lp : ∀ (j : Nat) (q : Nat) (H : Heap) (locs : List Loc) (ls : Array Slot), q ≤ np → np < q + j → firstHit (hitF k x.1 0) (np - q) q = o9 → va_P g.1 classes (wR g ad k x) H → va_D A (wR g ad k x) → va_S A s.heap H locs → lv_has ls 13 [(8, .int (nI q)), (6, .long ((dY (x.1 2 0)).toInt64)), (4, .long ((dX (x.1 2 0)).toInt64)), (3, .ref (ad (7 + 0))), (2, .ref (ad (3 + 0))), (1, .int 0), (0, .ref (ad 0))] → W p l e { frames := 1, cells := 0, slots := 0, locals := 24 } s m ([.ref (ad 0), .int 0] : List Value).toArray below meth c H locs 0 0 Q (F0 m 40 ls []) := by
    intro j
    induction j with
    | zero =>
      intro q H locs ls hq hj h9 hP hD hS hl
      exact absurd trivial (by omega)
    | succ j ih =>
      intro q H locs ls hq hj h9 hP hD hS hl
      refine lv_iload hx hb d_Ru_lookForPoles_40 (lv_at hl 0 rfl) ?_
      refine lv_aload_n hx hb d_Ru_lookForPoles_42 rfl (lv_at hl 6 rfl) ?_
      refine va_get (D := g.1) (ci := 4) (v := .ref (ad 1)) (C := R_Ru) (T := F_Ru) (N := 8) hx hb hw i_Ru hown hE.1 hP 0 rfl rfl 7 (by decide) (hw _ q_170) (fun _ h9 => h9) rfl d_Ru_lookForPoles_43 ?_
      refine va_get (D := g.1) (ci := 5) (v := .int (k.2.1 1)) (C := R_Se) (T := F_Se) (N := 9) hx hb hw i_Se hown hE.1 hP 1 rfl rfl 4 (by decide) (hw _ q_75) (fun _ h9 => h9) rfl d_Ru_lookForPoles_46 ?_
      refine lv_icmp_ge (tgt := 143) hx hb d_Ru_lookForPoles_49 (by decide) (fun c49_1 => ?_) (fun c49_1 => ?_)
      · have h9 := fh_end (ge_of_le' 20 hp h20 (by decide) (by omega) c49_1) h9
        subst h9
        exact hret _ _ _ _ _ rfl hP hD hS d_Ru_lookForPoles_143
      · have hlt := lt_of_nle' 20 hp h20 (by decide) (by omega) c49_1
        refine lv_aload_n hx hb d_Ru_lookForPoles_52 rfl (lv_at hl 6 rfl) ?_
        refine va_get (D := g.1) (ci := 4) (v := .ref (ad 1)) (C := R_Ru) (T := F_Ru) (N := 8) hx hb hw i_Ru hown hE.1 hP 0 rfl rfl 7 (by decide) (hw _ q_170) (fun _ h9 => h9) rfl d_Ru_lookForPoles_53 ?_
        refine va_get (D := g.1) (ci := 5) (v := .ref (ad 12)) (C := R_Se) (T := F_Se) (N := 9) hx hb hw i_Se hown hE.1 hP 1 rfl rfl 1 (by decide) (hw _ q_68) (fun _ h9 => h9) rfl d_Ru_lookForPoles_56 ?_
        refine lv_iload hx hb d_Ru_lookForPoles_59 (lv_at hl 0 rfl) ?_
        refine va_iald hx hb hE.1 hP 12 0 rfl rfl (vp_in_nI (show q < 20 by omega) (by omega)) d_Ru_lookForPoles_61 ?_
        rw [nI_clamp (by omega)]
        refine lv_aload_n hx hb d_Ru_lookForPoles_62 rfl (lv_at hl 3 rfl) ?_
        refine get_po C 0 0 (by decide) (by decide) rfl q_118 hP (x.1 0 0) rfl d_Ru_lookForPoles_63 ?_
        refine lv_isub hx hb d_Ru_lookForPoles_66 ?_
        refine lv_i2l hx hb d_Ru_lookForPoles_67 rfl ?_
        refine lv_lstore (lv' := [(9, .long (((k.2.2.1 q) - (x.1 0 0)).toInt64)), (8, .int (nI q)), (6, .long ((dY (x.1 2 0)).toInt64)), (4, .long ((dX (x.1 2 0)).toInt64)), (3, .ref (ad (7 + 0))), (2, .ref (ad (3 + 0))), (1, .int 0), (0, .ref (ad 0))]) hx hb d_Ru_lookForPoles_68 hl (by decide) rfl (fun ls hl => ?_)
        refine lv_aload_n hx hb d_Ru_lookForPoles_70 rfl (lv_at hl 7 rfl) ?_
        refine va_get (D := g.1) (ci := 4) (v := .ref (ad 1)) (C := R_Ru) (T := F_Ru) (N := 8) hx hb hw i_Ru hown hE.1 hP 0 rfl rfl 7 (by decide) (hw _ q_170) (fun _ h9 => h9) rfl d_Ru_lookForPoles_71 ?_
        refine va_get (D := g.1) (ci := 5) (v := .ref (ad 13)) (C := R_Se) (T := F_Se) (N := 9) hx hb hw i_Se hown hE.1 hP 1 rfl rfl 2 (by decide) (hw _ q_71) (fun _ h9 => h9) rfl d_Ru_lookForPoles_74 ?_
        refine lv_iload hx hb d_Ru_lookForPoles_77 (lv_at hl 1 rfl) ?_
        refine va_iald hx hb hE.1 hP 13 0 rfl rfl (vp_in_nI (show q < 20 by omega) (by omega)) d_Ru_lookForPoles_79 ?_
        rw [nI_clamp (by omega)]
        refine lv_aload_n hx hb d_Ru_lookForPoles_80 rfl (lv_at hl 4 rfl) ?_
        refine get_po C 1 0 (by decide) (by decide) rfl q_121 hP (x.1 1 0) rfl d_Ru_lookForPoles_81 ?_
        refine lv_isub hx hb d_Ru_lookForPoles_84 ?_
        refine lv_i2l hx hb d_Ru_lookForPoles_85 rfl ?_
        refine lv_lstore (lv' := [(11, .long (((k.2.2.2 q) - (x.1 1 0)).toInt64)), (9, .long (((k.2.2.1 q) - (x.1 0 0)).toInt64)), (8, .int (nI q)), (6, .long ((dY (x.1 2 0)).toInt64)), (4, .long ((dX (x.1 2 0)).toInt64)), (3, .ref (ad (7 + 0))), (2, .ref (ad (3 + 0))), (1, .int 0), (0, .ref (ad 0))]) hx hb d_Ru_lookForPoles_86 hl (by decide) rfl (fun ls hl => ?_)
        refine lv_aload_n hx hb d_Ru_lookForPoles_88 rfl (lv_at hl 6 rfl) ?_
        refine lv_lload hx hb d_Ru_lookForPoles_89 (lv_at hl 1 rfl) ?_
        refine lv_lload hx hb d_Ru_lookForPoles_91 (lv_at hl 4 rfl) ?_
        refine lv_lmul hx hb d_Ru_lookForPoles_93 ?_
        refine lv_lload hx hb d_Ru_lookForPoles_94 (lv_at hl 0 rfl) ?_
        refine lv_lload hx hb d_Ru_lookForPoles_96 (lv_at hl 3 rfl) ?_
        refine lv_lmul hx hb d_Ru_lookForPoles_98 ?_
        refine lv_ladd hx hb d_Ru_lookForPoles_99 ?_
        refine lv_lload hx hb d_Ru_lookForPoles_100 (lv_at hl 0 rfl) ?_
        refine lv_lload hx hb d_Ru_lookForPoles_102 (lv_at hl 4 rfl) ?_
        refine lv_lmul hx hb d_Ru_lookForPoles_104 ?_
        refine lv_lload hx hb d_Ru_lookForPoles_105 (lv_at hl 1 rfl) ?_
        refine lv_lload hx hb d_Ru_lookForPoles_107 (lv_at hl 3 rfl) ?_
        refine lv_lmul hx hb d_Ru_lookForPoles_109 ?_
        refine lv_lsub hx hb d_Ru_lookForPoles_110 ?_
        refine cvI C v_Ru_179 [.long (((((k.2.2.1 q) - (x.1 0 0)).toInt64) * ((dX (x.1 2 0)).toInt64)) + ((((k.2.2.2 q) - (x.1 1 0)).toInt64) * ((dY (x.1 2 0)).toInt64))), .long (((((k.2.2.2 q) - (x.1 1 0)).toInt64) * ((dX (x.1 2 0)).toInt64)) - ((((k.2.2.1 q) - (x.1 0 0)).toInt64) * ((dY (x.1 2 0)).toInt64)))] [] (c_Sh_holds l g (ad 3) k.1 0 (((((k.2.2.1 q) - (x.1 0 0)).toInt64) * ((dX (x.1 2 0)).toInt64)) + ((((k.2.2.2 q) - (x.1 1 0)).toInt64) * ((dY (x.1 2 0)).toInt64))) (((((k.2.2.2 q) - (x.1 1 0)).toInt64) * ((dX (x.1 2 0)).toInt64)) - ((((k.2.2.1 q) - (x.1 0 0)).toInt64) * ((dY (x.1 2 0)).toInt64)))) hP hD hS [3] [0, 1, 2, 4, 5, 6, 7, 8, 9, 10, 11, 12, 13] [0, 1, 2, 13, 3, 4, 5, 6, 7, 8, 9, 10, 11, 12] [((ad 0), .inr (4, [.ref (ad 6), .ref (ad 10), .int (x.2.1 0), .int (x.2.1 1), .int (x.2.1 2), .int (x.2.1 3), .int (x.2.1 4), .ref (ad 1)])), ((ad 1), .inr (5, [.ref (ad 2), .ref (ad 12), .ref (ad 13), .int (k.2.1 0), .int (k.2.1 1), .int (k.2.1 2), .int (k.2.1 3), .int (k.2.1 4), .int (k.2.1 5)])), ((ad 2), .inl (g.2.1 3, 3, .inr (.inr (.inr (.inr (fun j => [ad 3, ad 4, ad 5][j]?)))))), ((ad 4), .inr (6, [.int (k.1 0 1), .int (k.1 1 1), .int (k.1 2 1), .int (k.1 3 1), .int (k.1 4 1)])), ((ad 5), .inr (6, [.int (k.1 0 2), .int (k.1 1 2), .int (k.1 2 2), .int (k.1 3 2), .int (k.1 4 2)])), ((ad 6), .inl (g.2.1 4, 3, .inr (.inr (.inr (.inr (fun j => [ad 7, ad 8, ad 9][j]?)))))), ((ad 7), .inr (3, [.int (x.1 0 0), .int (x.1 1 0), .int (x.1 2 0), .int (x.1 3 0), .int (x.1 4 0)])), ((ad 8), .inr (3, [.int (x.1 0 1), .int (x.1 1 1), .int (x.1 2 1), .int (x.1 3 1), .int (x.1 4 1)])), ((ad 9), .inr (3, [.int (x.1 0 2), .int (x.1 1 2), .int (x.1 2 2), .int (x.1 3 2), .int (x.1 4 2)])), ((ad 10), .inr (1, [.ref (ad 11), .int x.2.2.1])), ((ad 11), .inl (g.2.1 1, 64, .inr (.inl x.2.2.2))), ((ad 12), .inl (g.2.1 0, 20, .inl k.2.2.1)), ((ad 13), .inl (g.2.1 0, 20, .inl k.2.2.2))] (wR g ad k x) rfl rfl (by decide) (by decide) (by decide) rfl (by decide) 0 rfl rfl rfl rfl hl.1 (Nat.le_of_ble_eq_true rfl) ⟨Nat.le_of_ble_eq_true rfl, Nat.le_of_ble_eq_true rfl⟩ d_Ru_lookForPoles_111 ⟨Nat.zero_le _, Nat.zero_le _⟩ (fun H locs hP hD hS => ?_)
        refine lv_if_eq (tgt := 137) hx hb d_Ru_lookForPoles_114 (by decide) (fun c114_2 => ?_) (fun c114_2 => ?_)
        · refine lv_iinc (v := (nI (q + 1))) (lv' := [(8, .int (nI (q + 1))), (11, .long (((k.2.2.2 q) - (x.1 1 0)).toInt64)), (9, .long (((k.2.2.1 q) - (x.1 0 0)).toInt64)), (6, .long ((dY (x.1 2 0)).toInt64)), (4, .long ((dX (x.1 2 0)).toInt64)), (3, .ref (ad (7 + 0))), (2, .ref (ad (3 + 0))), (1, .int 0), (0, .ref (ad 0))]) hx hb d_Ru_lookForPoles_137 hl (k := 2) rfl (nI_1 q) (by decide) rfl (fun ls hl => ?_)
          refine lv_goto (tgt := 40) hx hb d_Ru_lookForPoles_140 (by decide) ?_
          exact ih (q + 1) _ _ _ (by omega) (by omega) (fh_back hlt h9 c114_2) hP hD hS (lv_sub hl [0, 3, 4, 5, 6, 7, 8] rfl)
        · refine lv_aload_n hx hb d_Ru_lookForPoles_117 rfl (lv_at hl 8 rfl) ?_
          refine lv_aload_n hx hb d_Ru_lookForPoles_118 rfl (lv_at hl 8 rfl) ?_
          refine va_get (D := g.1) (ci := 4) (v := .int (x.2.1 0)) (C := R_Ru) (T := F_Ru) (N := 8) hx hb hw i_Ru hown hE.1 hP 0 rfl rfl 2 (by decide) (hw _ q_160) (fun _ h9 => h9) rfl d_Ru_lookForPoles_119 ?_
          refine va_put (D := g.1) (ci := 4) (v := .int (x.2.1 0)) (ty := .int) (C := R_Ru) (T := F_Ru) (N := 8) hx hb hw i_Ru t_Ru t_Ru_ok n_Ru hown hE.1 hP hD hS 0 rfl rfl 4 (by decide) (hw _ q_164) (fun _ h9 => h9) rfl (by decide +kernel) rfl rfl (Nat.le_of_ble_eq_true rfl) d_Ru_lookForPoles_122 (fun H locs hP hD hS => ?_)
          have hP : va_P g.1 classes (wR g ad k (x.1, (upd x.2.1 2 (x.2.1 0)), x.2.2.1, x.2.2.2)) H := hP
          have hD : va_D A (wR g ad k (x.1, (upd x.2.1 2 (x.2.1 0)), x.2.2.1, x.2.2.2)) := hD
          refine lv_aload_n hx hb d_Ru_lookForPoles_125 rfl (lv_at hl 8 rfl) ?_
          refine lv_iload_n hx hb d_Ru_lookForPoles_126 rfl (lv_at hl 7 rfl) ?_
          refine va_put (D := g.1) (ci := 4) (v := .int 0) (ty := .int) (C := R_Ru) (T := F_Ru) (N := 8) hx hb hw i_Ru t_Ru t_Ru_ok n_Ru hown hE.1 hP hD hS 0 rfl rfl 5 (by decide) (hw _ q_166) (fun _ h9 => h9) rfl (by decide +kernel) rfl rfl (Nat.le_of_ble_eq_true rfl) d_Ru_lookForPoles_127 (fun H locs hP hD hS => ?_)
          have hP : va_P g.1 classes (wR g ad k (x.1, (upd (upd x.2.1 2 (x.2.1 0)) 3 0), x.2.2.1, x.2.2.2)) H := hP
          have hD : va_D A (wR g ad k (x.1, (upd (upd x.2.1 2 (x.2.1 0)) 3 0), x.2.2.1, x.2.2.2)) := hD
          refine lv_aload_n hx hb d_Ru_lookForPoles_130 rfl (lv_at hl 8 rfl) ?_
          refine lv_iload hx hb d_Ru_lookForPoles_131 (lv_at hl 2 rfl) ?_
          refine va_put (D := g.1) (ci := 4) (v := .int (nI q)) (ty := .int) (C := R_Ru) (T := F_Ru) (N := 8) hx hb hw i_Ru t_Ru t_Ru_ok n_Ru hown hE.1 hP hD hS 0 rfl rfl 6 (by decide) (hw _ q_168) (fun _ h9 => h9) rfl (by decide +kernel) rfl rfl (Nat.le_of_ble_eq_true rfl) d_Ru_lookForPoles_133 (fun H locs hP hD hS => ?_)
          have hP : va_P g.1 classes (wR g ad k (x.1, (upd (upd (upd x.2.1 2 (x.2.1 0)) 3 0) 4 (nI q)), x.2.2.1, x.2.2.2)) H := hP
          have hD : va_D A (wR g ad k (x.1, (upd (upd (upd x.2.1 2 (x.2.1 0)) 3 0) 4 (nI q)), x.2.2.1, x.2.2.2)) := hD
          have h9 := fh_hit hlt h9 c114_2
          subst h9
          exact hret _ _ _ _ _ rfl hP hD hS d_Ru_lookForPoles_136
  exact lp (np + 1) 0 _ _ _ (by omega) (by omega) h9 hP hD hS (lv_sub hl [0, 1, 2, 3, 4, 6, 5] rfl)
set_option maxHeartbeats 4000000 in
set_option maxRecDepth 100000 in
theorem c_Ru_lookForPoles_1 (l : Launch) (g : Glob) (ad : Nat → Nat) (k : CFG) (x : RS) (np : Nat) (hp : k.2.1 1 = nI np) (h20 : np ≤ 20) : CV l g y_Ru_lookForPoles b_Ru_lookForPoles 13 1 24 [.ref (ad 0), .int 1] (wR g ad k x) (wR g ad k (polF k np 1 x)) := by
  refine CV.of (by decide +kernel) (Nat.le_of_ble_eq_true rfl) ?_
  intro p e s m below meth c A Q ls C hP hD hl hret hS
  obtain ⟨hx, hb, hml, hown, hw, hE, hA⟩ := id C
  have hl : lv_has ls 13 [(0, .ref (ad 0)), (1, .int 1)] := hl
  unfold polF at hret
  generalize h9 : firstHit (hitF k x.1 1) np 0 = o9 at hret
  refine lv_aload_n hx hb d_Ru_lookForPoles_0 rfl (lv_at hl 0 rfl) ?_
  refine va_get (D := g.1) (ci := 4) (v := .ref (ad 1)) (C := R_Ru) (T := F_Ru) (N := 8) hx hb hw i_Ru hown hE.1 hP 0 rfl rfl 7 (by decide) (hw _ q_170) (fun _ h9 => h9) rfl d_Ru_lookForPoles_1 ?_
  refine va_get (D := g.1) (ci := 5) (v := .ref (ad 2)) (C := R_Se) (T := F_Se) (N := 9) hx hb hw i_Se hown hE.1 hP 1 rfl rfl 0 (by decide) (hw _ q_65) (fun _ h9 => h9) rfl d_Ru_lookForPoles_4 ?_
  refine lv_iload_n hx hb d_Ru_lookForPoles_7 rfl (lv_at hl 1 rfl) ?_
  refine va_aldq hx hb hE.1 hP 2 3 rfl rfl (by unfold vp_in; decide) d_Ru_lookForPoles_8 ?_
  rw [show (1 : Int32).toNatClampNeg = 1 from by decide]
  refine lv_astore_n (lv' := [(2, .ref (ad (3 + 1))), (0, .ref (ad 0)), (1, .int 1)]) hx hb d_Ru_lookForPoles_9 rfl hl (by decide) rfl (fun ls hl => ?_)
  refine lv_aload_n hx hb d_Ru_lookForPoles_10 rfl (lv_at hl 1 rfl) ?_
  refine va_get (D := g.1) (ci := 4) (v := .ref (ad 6)) (C := R_Ru) (T := F_Ru) (N := 8) hx hb hw i_Ru hown hE.1 hP 0 rfl rfl 0 (by decide) (hw _ q_156) (fun _ h9 => h9) rfl d_Ru_lookForPoles_11 ?_
  refine lv_iload_n hx hb d_Ru_lookForPoles_14 rfl (lv_at hl 2 rfl) ?_
  refine va_aldq hx hb hE.1 hP 6 4 rfl rfl (by unfold vp_in; decide) d_Ru_lookForPoles_15 ?_
  rw [show (1 : Int32).toNatClampNeg = 1 from by decide]
  refine lv_astore_n (lv' := [(3, .ref (ad (7 + 1))), (2, .ref (ad (3 + 1))), (0, .ref (ad 0)), (1, .int 1)]) hx hb d_Ru_lookForPoles_16 rfl hl (by decide) rfl (fun ls hl => ?_)
  refine lv_aload_n hx hb d_Ru_lookForPoles_17 rfl (lv_at hl 0 rfl) ?_
  refine get_po C 2 1 (by decide) (by decide) rfl q_124 hP (x.1 2 1) rfl d_Ru_lookForPoles_18 ?_
  refine csI C v_Ru_123 [.int (x.1 2 1)] [] (c_Di_dx l g (x.1 2 1)) hP hS rfl rfl hl.1 (Nat.le_of_ble_eq_true rfl) ⟨Nat.le_of_ble_eq_true rfl, Nat.le_of_ble_eq_true rfl⟩ d_Ru_lookForPoles_21 ⟨Nat.zero_le _, Nat.zero_le _⟩ (fun H locs hP hS => ?_)
  refine lv_i2l hx hb d_Ru_lookForPoles_24 rfl ?_
  refine lv_lstore (lv' := [(4, .long ((dX (x.1 2 1)).toInt64)), (3, .ref (ad (7 + 1))), (2, .ref (ad (3 + 1))), (0, .ref (ad 0)), (1, .int 1)]) hx hb d_Ru_lookForPoles_25 hl (by decide) rfl (fun ls hl => ?_)
  refine lv_aload_n hx hb d_Ru_lookForPoles_27 rfl (lv_at hl 1 rfl) ?_
  refine get_po C 2 1 (by decide) (by decide) rfl q_124 hP (x.1 2 1) rfl d_Ru_lookForPoles_28 ?_
  refine csI C v_Ru_127 [.int (x.1 2 1)] [] (c_Di_dy l g (x.1 2 1)) hP hS rfl rfl hl.1 (Nat.le_of_ble_eq_true rfl) ⟨Nat.le_of_ble_eq_true rfl, Nat.le_of_ble_eq_true rfl⟩ d_Ru_lookForPoles_31 ⟨Nat.zero_le _, Nat.zero_le _⟩ (fun H locs hP hS => ?_)
  refine lv_i2l hx hb d_Ru_lookForPoles_34 rfl ?_
  refine lv_lstore (lv' := [(6, .long ((dY (x.1 2 1)).toInt64)), (4, .long ((dX (x.1 2 1)).toInt64)), (3, .ref (ad (7 + 1))), (2, .ref (ad (3 + 1))), (0, .ref (ad 0)), (1, .int 1)]) hx hb d_Ru_lookForPoles_35 hl (by decide) rfl (fun ls hl => ?_)
  refine lv_iconst (v := 0) hx hb d_Ru_lookForPoles_37 (by decide) ?_
  refine lv_istore (lv' := [(8, .int 0), (6, .long ((dY (x.1 2 1)).toInt64)), (4, .long ((dX (x.1 2 1)).toInt64)), (3, .ref (ad (7 + 1))), (2, .ref (ad (3 + 1))), (0, .ref (ad 0)), (1, .int 1)]) hx hb d_Ru_lookForPoles_38 hl (by decide) rfl (fun ls hl => ?_)
  have lp : ∀ (j : Nat) (q : Nat) (H : Heap) (locs : List Loc) (ls : Array Slot), q ≤ np → np < q + j → firstHit (hitF k x.1 1) (np - q) q = o9 → va_P g.1 classes (wR g ad k x) H → va_D A (wR g ad k x) → va_S A s.heap H locs → lv_has ls 13 [(8, .int (nI q)), (6, .long ((dY (x.1 2 1)).toInt64)), (4, .long ((dX (x.1 2 1)).toInt64)), (3, .ref (ad (7 + 1))), (2, .ref (ad (3 + 1))), (1, .int 1), (0, .ref (ad 0))] → W p l e { frames := 1, cells := 0, slots := 0, locals := 24 } s m ([.ref (ad 0), .int 1] : List Value).toArray below meth c H locs 0 0 Q (F0 m 40 ls []) := by
    intro j
    induction j with
    | zero =>
      intro q H locs ls hq hj h9 hP hD hS hl
      exact absurd trivial (by omega)
    | succ j ih =>
      intro q H locs ls hq hj h9 hP hD hS hl
      refine lv_iload hx hb d_Ru_lookForPoles_40 (lv_at hl 0 rfl) ?_
      refine lv_aload_n hx hb d_Ru_lookForPoles_42 rfl (lv_at hl 6 rfl) ?_
      refine va_get (D := g.1) (ci := 4) (v := .ref (ad 1)) (C := R_Ru) (T := F_Ru) (N := 8) hx hb hw i_Ru hown hE.1 hP 0 rfl rfl 7 (by decide) (hw _ q_170) (fun _ h9 => h9) rfl d_Ru_lookForPoles_43 ?_
      refine va_get (D := g.1) (ci := 5) (v := .int (k.2.1 1)) (C := R_Se) (T := F_Se) (N := 9) hx hb hw i_Se hown hE.1 hP 1 rfl rfl 4 (by decide) (hw _ q_75) (fun _ h9 => h9) rfl d_Ru_lookForPoles_46 ?_
      refine lv_icmp_ge (tgt := 143) hx hb d_Ru_lookForPoles_49 (by decide) (fun c49_1 => ?_) (fun c49_1 => ?_)
      · have h9 := fh_end (ge_of_le' 20 hp h20 (by decide) (by omega) c49_1) h9
        subst h9
        exact hret _ _ _ _ _ rfl hP hD hS d_Ru_lookForPoles_143
      · have hlt := lt_of_nle' 20 hp h20 (by decide) (by omega) c49_1
        refine lv_aload_n hx hb d_Ru_lookForPoles_52 rfl (lv_at hl 6 rfl) ?_
        refine va_get (D := g.1) (ci := 4) (v := .ref (ad 1)) (C := R_Ru) (T := F_Ru) (N := 8) hx hb hw i_Ru hown hE.1 hP 0 rfl rfl 7 (by decide) (hw _ q_170) (fun _ h9 => h9) rfl d_Ru_lookForPoles_53 ?_
        refine va_get (D := g.1) (ci := 5) (v := .ref (ad 12)) (C := R_Se) (T := F_Se) (N := 9) hx hb hw i_Se hown hE.1 hP 1 rfl rfl 1 (by decide) (hw _ q_68) (fun _ h9 => h9) rfl d_Ru_lookForPoles_56 ?_
        refine lv_iload hx hb d_Ru_lookForPoles_59 (lv_at hl 0 rfl) ?_
        refine va_iald hx hb hE.1 hP 12 0 rfl rfl (vp_in_nI (show q < 20 by omega) (by omega)) d_Ru_lookForPoles_61 ?_
        rw [nI_clamp (by omega)]
        refine lv_aload_n hx hb d_Ru_lookForPoles_62 rfl (lv_at hl 3 rfl) ?_
        refine get_po C 0 1 (by decide) (by decide) rfl q_118 hP (x.1 0 1) rfl d_Ru_lookForPoles_63 ?_
        refine lv_isub hx hb d_Ru_lookForPoles_66 ?_
        refine lv_i2l hx hb d_Ru_lookForPoles_67 rfl ?_
        refine lv_lstore (lv' := [(9, .long (((k.2.2.1 q) - (x.1 0 1)).toInt64)), (8, .int (nI q)), (6, .long ((dY (x.1 2 1)).toInt64)), (4, .long ((dX (x.1 2 1)).toInt64)), (3, .ref (ad (7 + 1))), (2, .ref (ad (3 + 1))), (1, .int 1), (0, .ref (ad 0))]) hx hb d_Ru_lookForPoles_68 hl (by decide) rfl (fun ls hl => ?_)
        refine lv_aload_n hx hb d_Ru_lookForPoles_70 rfl (lv_at hl 7 rfl) ?_
        refine va_get (D := g.1) (ci := 4) (v := .ref (ad 1)) (C := R_Ru) (T := F_Ru) (N := 8) hx hb hw i_Ru hown hE.1 hP 0 rfl rfl 7 (by decide) (hw _ q_170) (fun _ h9 => h9) rfl d_Ru_lookForPoles_71 ?_
        refine va_get (D := g.1) (ci := 5) (v := .ref (ad 13)) (C := R_Se) (T := F_Se) (N := 9) hx hb hw i_Se hown hE.1 hP 1 rfl rfl 2 (by decide) (hw _ q_71) (fun _ h9 => h9) rfl d_Ru_lookForPoles_74 ?_
        refine lv_iload hx hb d_Ru_lookForPoles_77 (lv_at hl 1 rfl) ?_
        refine va_iald hx hb hE.1 hP 13 0 rfl rfl (vp_in_nI (show q < 20 by omega) (by omega)) d_Ru_lookForPoles_79 ?_
        rw [nI_clamp (by omega)]
        refine lv_aload_n hx hb d_Ru_lookForPoles_80 rfl (lv_at hl 4 rfl) ?_
        refine get_po C 1 1 (by decide) (by decide) rfl q_121 hP (x.1 1 1) rfl d_Ru_lookForPoles_81 ?_
        refine lv_isub hx hb d_Ru_lookForPoles_84 ?_
        refine lv_i2l hx hb d_Ru_lookForPoles_85 rfl ?_
        refine lv_lstore (lv' := [(11, .long (((k.2.2.2 q) - (x.1 1 1)).toInt64)), (9, .long (((k.2.2.1 q) - (x.1 0 1)).toInt64)), (8, .int (nI q)), (6, .long ((dY (x.1 2 1)).toInt64)), (4, .long ((dX (x.1 2 1)).toInt64)), (3, .ref (ad (7 + 1))), (2, .ref (ad (3 + 1))), (1, .int 1), (0, .ref (ad 0))]) hx hb d_Ru_lookForPoles_86 hl (by decide) rfl (fun ls hl => ?_)
        refine lv_aload_n hx hb d_Ru_lookForPoles_88 rfl (lv_at hl 6 rfl) ?_
        refine lv_lload hx hb d_Ru_lookForPoles_89 (lv_at hl 1 rfl) ?_
        refine lv_lload hx hb d_Ru_lookForPoles_91 (lv_at hl 4 rfl) ?_
        refine lv_lmul hx hb d_Ru_lookForPoles_93 ?_
        refine lv_lload hx hb d_Ru_lookForPoles_94 (lv_at hl 0 rfl) ?_
        refine lv_lload hx hb d_Ru_lookForPoles_96 (lv_at hl 3 rfl) ?_
        refine lv_lmul hx hb d_Ru_lookForPoles_98 ?_
        refine lv_ladd hx hb d_Ru_lookForPoles_99 ?_
        refine lv_lload hx hb d_Ru_lookForPoles_100 (lv_at hl 0 rfl) ?_
        refine lv_lload hx hb d_Ru_lookForPoles_102 (lv_at hl 4 rfl) ?_
        refine lv_lmul hx hb d_Ru_lookForPoles_104 ?_
        refine lv_lload hx hb d_Ru_lookForPoles_105 (lv_at hl 1 rfl) ?_
        refine lv_lload hx hb d_Ru_lookForPoles_107 (lv_at hl 3 rfl) ?_
        refine lv_lmul hx hb d_Ru_lookForPoles_109 ?_
        refine lv_lsub hx hb d_Ru_lookForPoles_110 ?_
        refine cvI C v_Ru_179 [.long (((((k.2.2.1 q) - (x.1 0 1)).toInt64) * ((dX (x.1 2 1)).toInt64)) + ((((k.2.2.2 q) - (x.1 1 1)).toInt64) * ((dY (x.1 2 1)).toInt64))), .long (((((k.2.2.2 q) - (x.1 1 1)).toInt64) * ((dX (x.1 2 1)).toInt64)) - ((((k.2.2.1 q) - (x.1 0 1)).toInt64) * ((dY (x.1 2 1)).toInt64)))] [] (c_Sh_holds l g (ad 4) k.1 1 (((((k.2.2.1 q) - (x.1 0 1)).toInt64) * ((dX (x.1 2 1)).toInt64)) + ((((k.2.2.2 q) - (x.1 1 1)).toInt64) * ((dY (x.1 2 1)).toInt64))) (((((k.2.2.2 q) - (x.1 1 1)).toInt64) * ((dX (x.1 2 1)).toInt64)) - ((((k.2.2.1 q) - (x.1 0 1)).toInt64) * ((dY (x.1 2 1)).toInt64)))) hP hD hS [4] [0, 1, 2, 3, 5, 6, 7, 8, 9, 10, 11, 12, 13] [0, 1, 2, 3, 13, 4, 5, 6, 7, 8, 9, 10, 11, 12] [((ad 0), .inr (4, [.ref (ad 6), .ref (ad 10), .int (x.2.1 0), .int (x.2.1 1), .int (x.2.1 2), .int (x.2.1 3), .int (x.2.1 4), .ref (ad 1)])), ((ad 1), .inr (5, [.ref (ad 2), .ref (ad 12), .ref (ad 13), .int (k.2.1 0), .int (k.2.1 1), .int (k.2.1 2), .int (k.2.1 3), .int (k.2.1 4), .int (k.2.1 5)])), ((ad 2), .inl (g.2.1 3, 3, .inr (.inr (.inr (.inr (fun j => [ad 3, ad 4, ad 5][j]?)))))), ((ad 3), .inr (6, [.int (k.1 0 0), .int (k.1 1 0), .int (k.1 2 0), .int (k.1 3 0), .int (k.1 4 0)])), ((ad 5), .inr (6, [.int (k.1 0 2), .int (k.1 1 2), .int (k.1 2 2), .int (k.1 3 2), .int (k.1 4 2)])), ((ad 6), .inl (g.2.1 4, 3, .inr (.inr (.inr (.inr (fun j => [ad 7, ad 8, ad 9][j]?)))))), ((ad 7), .inr (3, [.int (x.1 0 0), .int (x.1 1 0), .int (x.1 2 0), .int (x.1 3 0), .int (x.1 4 0)])), ((ad 8), .inr (3, [.int (x.1 0 1), .int (x.1 1 1), .int (x.1 2 1), .int (x.1 3 1), .int (x.1 4 1)])), ((ad 9), .inr (3, [.int (x.1 0 2), .int (x.1 1 2), .int (x.1 2 2), .int (x.1 3 2), .int (x.1 4 2)])), ((ad 10), .inr (1, [.ref (ad 11), .int x.2.2.1])), ((ad 11), .inl (g.2.1 1, 64, .inr (.inl x.2.2.2))), ((ad 12), .inl (g.2.1 0, 20, .inl k.2.2.1)), ((ad 13), .inl (g.2.1 0, 20, .inl k.2.2.2))] (wR g ad k x) rfl rfl (by decide) (by decide) (by decide) rfl (by decide) 0 rfl rfl rfl rfl hl.1 (Nat.le_of_ble_eq_true rfl) ⟨Nat.le_of_ble_eq_true rfl, Nat.le_of_ble_eq_true rfl⟩ d_Ru_lookForPoles_111 ⟨Nat.zero_le _, Nat.zero_le _⟩ (fun H locs hP hD hS => ?_)
        refine lv_if_eq (tgt := 137) hx hb d_Ru_lookForPoles_114 (by decide) (fun c114_2 => ?_) (fun c114_2 => ?_)
        · refine lv_iinc (v := (nI (q + 1))) (lv' := [(8, .int (nI (q + 1))), (11, .long (((k.2.2.2 q) - (x.1 1 1)).toInt64)), (9, .long (((k.2.2.1 q) - (x.1 0 1)).toInt64)), (6, .long ((dY (x.1 2 1)).toInt64)), (4, .long ((dX (x.1 2 1)).toInt64)), (3, .ref (ad (7 + 1))), (2, .ref (ad (3 + 1))), (1, .int 1), (0, .ref (ad 0))]) hx hb d_Ru_lookForPoles_137 hl (k := 2) rfl (nI_1 q) (by decide) rfl (fun ls hl => ?_)
          refine lv_goto (tgt := 40) hx hb d_Ru_lookForPoles_140 (by decide) ?_
          exact ih (q + 1) _ _ _ (by omega) (by omega) (fh_back hlt h9 c114_2) hP hD hS (lv_sub hl [0, 3, 4, 5, 6, 7, 8] rfl)
        · refine lv_aload_n hx hb d_Ru_lookForPoles_117 rfl (lv_at hl 8 rfl) ?_
          refine lv_aload_n hx hb d_Ru_lookForPoles_118 rfl (lv_at hl 8 rfl) ?_
          refine va_get (D := g.1) (ci := 4) (v := .int (x.2.1 0)) (C := R_Ru) (T := F_Ru) (N := 8) hx hb hw i_Ru hown hE.1 hP 0 rfl rfl 2 (by decide) (hw _ q_160) (fun _ h9 => h9) rfl d_Ru_lookForPoles_119 ?_
          refine va_put (D := g.1) (ci := 4) (v := .int (x.2.1 0)) (ty := .int) (C := R_Ru) (T := F_Ru) (N := 8) hx hb hw i_Ru t_Ru t_Ru_ok n_Ru hown hE.1 hP hD hS 0 rfl rfl 4 (by decide) (hw _ q_164) (fun _ h9 => h9) rfl (by decide +kernel) rfl rfl (Nat.le_of_ble_eq_true rfl) d_Ru_lookForPoles_122 (fun H locs hP hD hS => ?_)
          have hP : va_P g.1 classes (wR g ad k (x.1, (upd x.2.1 2 (x.2.1 0)), x.2.2.1, x.2.2.2)) H := hP
          have hD : va_D A (wR g ad k (x.1, (upd x.2.1 2 (x.2.1 0)), x.2.2.1, x.2.2.2)) := hD
          refine lv_aload_n hx hb d_Ru_lookForPoles_125 rfl (lv_at hl 8 rfl) ?_
          refine lv_iload_n hx hb d_Ru_lookForPoles_126 rfl (lv_at hl 7 rfl) ?_
          refine va_put (D := g.1) (ci := 4) (v := .int 1) (ty := .int) (C := R_Ru) (T := F_Ru) (N := 8) hx hb hw i_Ru t_Ru t_Ru_ok n_Ru hown hE.1 hP hD hS 0 rfl rfl 5 (by decide) (hw _ q_166) (fun _ h9 => h9) rfl (by decide +kernel) rfl rfl (Nat.le_of_ble_eq_true rfl) d_Ru_lookForPoles_127 (fun H locs hP hD hS => ?_)
          have hP : va_P g.1 classes (wR g ad k (x.1, (upd (upd x.2.1 2 (x.2.1 0)) 3 1), x.2.2.1, x.2.2.2)) H := hP
          have hD : va_D A (wR g ad k (x.1, (upd (upd x.2.1 2 (x.2.1 0)) 3 1), x.2.2.1, x.2.2.2)) := hD
          refine lv_aload_n hx hb d_Ru_lookForPoles_130 rfl (lv_at hl 8 rfl) ?_
          refine lv_iload hx hb d_Ru_lookForPoles_131 (lv_at hl 2 rfl) ?_
          refine va_put (D := g.1) (ci := 4) (v := .int (nI q)) (ty := .int) (C := R_Ru) (T := F_Ru) (N := 8) hx hb hw i_Ru t_Ru t_Ru_ok n_Ru hown hE.1 hP hD hS 0 rfl rfl 6 (by decide) (hw _ q_168) (fun _ h9 => h9) rfl (by decide +kernel) rfl rfl (Nat.le_of_ble_eq_true rfl) d_Ru_lookForPoles_133 (fun H locs hP hD hS => ?_)
          have hP : va_P g.1 classes (wR g ad k (x.1, (upd (upd (upd x.2.1 2 (x.2.1 0)) 3 1) 4 (nI q)), x.2.2.1, x.2.2.2)) H := hP
          have hD : va_D A (wR g ad k (x.1, (upd (upd (upd x.2.1 2 (x.2.1 0)) 3 1) 4 (nI q)), x.2.2.1, x.2.2.2)) := hD
          have h9 := fh_hit hlt h9 c114_2
          subst h9
          exact hret _ _ _ _ _ rfl hP hD hS d_Ru_lookForPoles_136
  exact lp (np + 1) 0 _ _ _ (by omega) (by omega) h9 hP hD hS (lv_sub hl [0, 1, 2, 3, 4, 6, 5] rfl)
set_option maxHeartbeats 4000000 in
set_option maxRecDepth 100000 in
theorem c_Ru_lookForPoles_2 (l : Launch) (g : Glob) (ad : Nat → Nat) (k : CFG) (x : RS) (np : Nat) (hp : k.2.1 1 = nI np) (h20 : np ≤ 20) : CV l g y_Ru_lookForPoles b_Ru_lookForPoles 13 1 24 [.ref (ad 0), .int 2] (wR g ad k x) (wR g ad k (polF k np 2 x)) := by
  refine CV.of (by decide +kernel) (Nat.le_of_ble_eq_true rfl) ?_
  intro p e s m below meth c A Q ls C hP hD hl hret hS
  obtain ⟨hx, hb, hml, hown, hw, hE, hA⟩ := id C
  have hl : lv_has ls 13 [(0, .ref (ad 0)), (1, .int 2)] := hl
  unfold polF at hret
  generalize h9 : firstHit (hitF k x.1 2) np 0 = o9 at hret
  refine lv_aload_n hx hb d_Ru_lookForPoles_0 rfl (lv_at hl 0 rfl) ?_
  refine va_get (D := g.1) (ci := 4) (v := .ref (ad 1)) (C := R_Ru) (T := F_Ru) (N := 8) hx hb hw i_Ru hown hE.1 hP 0 rfl rfl 7 (by decide) (hw _ q_170) (fun _ h9 => h9) rfl d_Ru_lookForPoles_1 ?_
  refine va_get (D := g.1) (ci := 5) (v := .ref (ad 2)) (C := R_Se) (T := F_Se) (N := 9) hx hb hw i_Se hown hE.1 hP 1 rfl rfl 0 (by decide) (hw _ q_65) (fun _ h9 => h9) rfl d_Ru_lookForPoles_4 ?_
  refine lv_iload_n hx hb d_Ru_lookForPoles_7 rfl (lv_at hl 1 rfl) ?_
  refine va_aldq hx hb hE.1 hP 2 3 rfl rfl (by unfold vp_in; decide) d_Ru_lookForPoles_8 ?_
  rw [show (2 : Int32).toNatClampNeg = 2 from by decide]
  refine lv_astore_n (lv' := [(2, .ref (ad (3 + 2))), (0, .ref (ad 0)), (1, .int 2)]) hx hb d_Ru_lookForPoles_9 rfl hl (by decide) rfl (fun ls hl => ?_)
  refine lv_aload_n hx hb d_Ru_lookForPoles_10 rfl (lv_at hl 1 rfl) ?_
  refine va_get (D := g.1) (ci := 4) (v := .ref (ad 6)) (C := R_Ru) (T := F_Ru) (N := 8) hx hb hw i_Ru hown hE.1 hP 0 rfl rfl 0 (by decide) (hw _ q_156) (fun _ h9 => h9) rfl d_Ru_lookForPoles_11 ?_
  refine lv_iload_n hx hb d_Ru_lookForPoles_14 rfl (lv_at hl 2 rfl) ?_
  refine va_aldq hx hb hE.1 hP 6 4 rfl rfl (by unfold vp_in; decide) d_Ru_lookForPoles_15 ?_
  rw [show (2 : Int32).toNatClampNeg = 2 from by decide]
  refine lv_astore_n (lv' := [(3, .ref (ad (7 + 2))), (2, .ref (ad (3 + 2))), (0, .ref (ad 0)), (1, .int 2)]) hx hb d_Ru_lookForPoles_16 rfl hl (by decide) rfl (fun ls hl => ?_)
  refine lv_aload_n hx hb d_Ru_lookForPoles_17 rfl (lv_at hl 0 rfl) ?_
  refine get_po C 2 2 (by decide) (by decide) rfl q_124 hP (x.1 2 2) rfl d_Ru_lookForPoles_18 ?_
  refine csI C v_Ru_123 [.int (x.1 2 2)] [] (c_Di_dx l g (x.1 2 2)) hP hS rfl rfl hl.1 (Nat.le_of_ble_eq_true rfl) ⟨Nat.le_of_ble_eq_true rfl, Nat.le_of_ble_eq_true rfl⟩ d_Ru_lookForPoles_21 ⟨Nat.zero_le _, Nat.zero_le _⟩ (fun H locs hP hS => ?_)
  refine lv_i2l hx hb d_Ru_lookForPoles_24 rfl ?_
  refine lv_lstore (lv' := [(4, .long ((dX (x.1 2 2)).toInt64)), (3, .ref (ad (7 + 2))), (2, .ref (ad (3 + 2))), (0, .ref (ad 0)), (1, .int 2)]) hx hb d_Ru_lookForPoles_25 hl (by decide) rfl (fun ls hl => ?_)
  refine lv_aload_n hx hb d_Ru_lookForPoles_27 rfl (lv_at hl 1 rfl) ?_
  refine get_po C 2 2 (by decide) (by decide) rfl q_124 hP (x.1 2 2) rfl d_Ru_lookForPoles_28 ?_
  refine csI C v_Ru_127 [.int (x.1 2 2)] [] (c_Di_dy l g (x.1 2 2)) hP hS rfl rfl hl.1 (Nat.le_of_ble_eq_true rfl) ⟨Nat.le_of_ble_eq_true rfl, Nat.le_of_ble_eq_true rfl⟩ d_Ru_lookForPoles_31 ⟨Nat.zero_le _, Nat.zero_le _⟩ (fun H locs hP hS => ?_)
  refine lv_i2l hx hb d_Ru_lookForPoles_34 rfl ?_
  refine lv_lstore (lv' := [(6, .long ((dY (x.1 2 2)).toInt64)), (4, .long ((dX (x.1 2 2)).toInt64)), (3, .ref (ad (7 + 2))), (2, .ref (ad (3 + 2))), (0, .ref (ad 0)), (1, .int 2)]) hx hb d_Ru_lookForPoles_35 hl (by decide) rfl (fun ls hl => ?_)
  refine lv_iconst (v := 0) hx hb d_Ru_lookForPoles_37 (by decide) ?_
  refine lv_istore (lv' := [(8, .int 0), (6, .long ((dY (x.1 2 2)).toInt64)), (4, .long ((dX (x.1 2 2)).toInt64)), (3, .ref (ad (7 + 2))), (2, .ref (ad (3 + 2))), (0, .ref (ad 0)), (1, .int 2)]) hx hb d_Ru_lookForPoles_38 hl (by decide) rfl (fun ls hl => ?_)
  have lp : ∀ (j : Nat) (q : Nat) (H : Heap) (locs : List Loc) (ls : Array Slot), q ≤ np → np < q + j → firstHit (hitF k x.1 2) (np - q) q = o9 → va_P g.1 classes (wR g ad k x) H → va_D A (wR g ad k x) → va_S A s.heap H locs → lv_has ls 13 [(8, .int (nI q)), (6, .long ((dY (x.1 2 2)).toInt64)), (4, .long ((dX (x.1 2 2)).toInt64)), (3, .ref (ad (7 + 2))), (2, .ref (ad (3 + 2))), (1, .int 2), (0, .ref (ad 0))] → W p l e { frames := 1, cells := 0, slots := 0, locals := 24 } s m ([.ref (ad 0), .int 2] : List Value).toArray below meth c H locs 0 0 Q (F0 m 40 ls []) := by
    intro j
    induction j with
    | zero =>
      intro q H locs ls hq hj h9 hP hD hS hl
      exact absurd trivial (by omega)
    | succ j ih =>
      intro q H locs ls hq hj h9 hP hD hS hl
      refine lv_iload hx hb d_Ru_lookForPoles_40 (lv_at hl 0 rfl) ?_
      refine lv_aload_n hx hb d_Ru_lookForPoles_42 rfl (lv_at hl 6 rfl) ?_
      refine va_get (D := g.1) (ci := 4) (v := .ref (ad 1)) (C := R_Ru) (T := F_Ru) (N := 8) hx hb hw i_Ru hown hE.1 hP 0 rfl rfl 7 (by decide) (hw _ q_170) (fun _ h9 => h9) rfl d_Ru_lookForPoles_43 ?_
      refine va_get (D := g.1) (ci := 5) (v := .int (k.2.1 1)) (C := R_Se) (T := F_Se) (N := 9) hx hb hw i_Se hown hE.1 hP 1 rfl rfl 4 (by decide) (hw _ q_75) (fun _ h9 => h9) rfl d_Ru_lookForPoles_46 ?_
      refine lv_icmp_ge (tgt := 143) hx hb d_Ru_lookForPoles_49 (by decide) (fun c49_1 => ?_) (fun c49_1 => ?_)
      · have h9 := fh_end (ge_of_le' 20 hp h20 (by decide) (by omega) c49_1) h9
        subst h9
        exact hret _ _ _ _ _ rfl hP hD hS d_Ru_lookForPoles_143
      · have hlt := lt_of_nle' 20 hp h20 (by decide) (by omega) c49_1
        refine lv_aload_n hx hb d_Ru_lookForPoles_52 rfl (lv_at hl 6 rfl) ?_
        refine va_get (D := g.1) (ci := 4) (v := .ref (ad 1)) (C := R_Ru) (T := F_Ru) (N := 8) hx hb hw i_Ru hown hE.1 hP 0 rfl rfl 7 (by decide) (hw _ q_170) (fun _ h9 => h9) rfl d_Ru_lookForPoles_53 ?_
        refine va_get (D := g.1) (ci := 5) (v := .ref (ad 12)) (C := R_Se) (T := F_Se) (N := 9) hx hb hw i_Se hown hE.1 hP 1 rfl rfl 1 (by decide) (hw _ q_68) (fun _ h9 => h9) rfl d_Ru_lookForPoles_56 ?_
        refine lv_iload hx hb d_Ru_lookForPoles_59 (lv_at hl 0 rfl) ?_
        refine va_iald hx hb hE.1 hP 12 0 rfl rfl (vp_in_nI (show q < 20 by omega) (by omega)) d_Ru_lookForPoles_61 ?_
        rw [nI_clamp (by omega)]
        refine lv_aload_n hx hb d_Ru_lookForPoles_62 rfl (lv_at hl 3 rfl) ?_
        refine get_po C 0 2 (by decide) (by decide) rfl q_118 hP (x.1 0 2) rfl d_Ru_lookForPoles_63 ?_
        refine lv_isub hx hb d_Ru_lookForPoles_66 ?_
        refine lv_i2l hx hb d_Ru_lookForPoles_67 rfl ?_
        refine lv_lstore (lv' := [(9, .long (((k.2.2.1 q) - (x.1 0 2)).toInt64)), (8, .int (nI q)), (6, .long ((dY (x.1 2 2)).toInt64)), (4, .long ((dX (x.1 2 2)).toInt64)), (3, .ref (ad (7 + 2))), (2, .ref (ad (3 + 2))), (1, .int 2), (0, .ref (ad 0))]) hx hb d_Ru_lookForPoles_68 hl (by decide) rfl (fun ls hl => ?_)
        refine lv_aload_n hx hb d_Ru_lookForPoles_70 rfl (lv_at hl 7 rfl) ?_
        refine va_get (D := g.1) (ci := 4) (v := .ref (ad 1)) (C := R_Ru) (T := F_Ru) (N := 8) hx hb hw i_Ru hown hE.1 hP 0 rfl rfl 7 (by decide) (hw _ q_170) (fun _ h9 => h9) rfl d_Ru_lookForPoles_71 ?_
        refine va_get (D := g.1) (ci := 5) (v := .ref (ad 13)) (C := R_Se) (T := F_Se) (N := 9) hx hb hw i_Se hown hE.1 hP 1 rfl rfl 2 (by decide) (hw _ q_71) (fun _ h9 => h9) rfl d_Ru_lookForPoles_74 ?_
        refine lv_iload hx hb d_Ru_lookForPoles_77 (lv_at hl 1 rfl) ?_
        refine va_iald hx hb hE.1 hP 13 0 rfl rfl (vp_in_nI (show q < 20 by omega) (by omega)) d_Ru_lookForPoles_79 ?_
        rw [nI_clamp (by omega)]
        refine lv_aload_n hx hb d_Ru_lookForPoles_80 rfl (lv_at hl 4 rfl) ?_
        refine get_po C 1 2 (by decide) (by decide) rfl q_121 hP (x.1 1 2) rfl d_Ru_lookForPoles_81 ?_
        refine lv_isub hx hb d_Ru_lookForPoles_84 ?_
        refine lv_i2l hx hb d_Ru_lookForPoles_85 rfl ?_
        refine lv_lstore (lv' := [(11, .long (((k.2.2.2 q) - (x.1 1 2)).toInt64)), (9, .long (((k.2.2.1 q) - (x.1 0 2)).toInt64)), (8, .int (nI q)), (6, .long ((dY (x.1 2 2)).toInt64)), (4, .long ((dX (x.1 2 2)).toInt64)), (3, .ref (ad (7 + 2))), (2, .ref (ad (3 + 2))), (1, .int 2), (0, .ref (ad 0))]) hx hb d_Ru_lookForPoles_86 hl (by decide) rfl (fun ls hl => ?_)
        refine lv_aload_n hx hb d_Ru_lookForPoles_88 rfl (lv_at hl 6 rfl) ?_
        refine lv_lload hx hb d_Ru_lookForPoles_89 (lv_at hl 1 rfl) ?_
        refine lv_lload hx hb d_Ru_lookForPoles_91 (lv_at hl 4 rfl) ?_
        refine lv_lmul hx hb d_Ru_lookForPoles_93 ?_
        refine lv_lload hx hb d_Ru_lookForPoles_94 (lv_at hl 0 rfl) ?_
        refine lv_lload hx hb d_Ru_lookForPoles_96 (lv_at hl 3 rfl) ?_
        refine lv_lmul hx hb d_Ru_lookForPoles_98 ?_
        refine lv_ladd hx hb d_Ru_lookForPoles_99 ?_
        refine lv_lload hx hb d_Ru_lookForPoles_100 (lv_at hl 0 rfl) ?_
        refine lv_lload hx hb d_Ru_lookForPoles_102 (lv_at hl 4 rfl) ?_
        refine lv_lmul hx hb d_Ru_lookForPoles_104 ?_
        refine lv_lload hx hb d_Ru_lookForPoles_105 (lv_at hl 1 rfl) ?_
        refine lv_lload hx hb d_Ru_lookForPoles_107 (lv_at hl 3 rfl) ?_
        refine lv_lmul hx hb d_Ru_lookForPoles_109 ?_
        refine lv_lsub hx hb d_Ru_lookForPoles_110 ?_
        refine cvI C v_Ru_179 [.long (((((k.2.2.1 q) - (x.1 0 2)).toInt64) * ((dX (x.1 2 2)).toInt64)) + ((((k.2.2.2 q) - (x.1 1 2)).toInt64) * ((dY (x.1 2 2)).toInt64))), .long (((((k.2.2.2 q) - (x.1 1 2)).toInt64) * ((dX (x.1 2 2)).toInt64)) - ((((k.2.2.1 q) - (x.1 0 2)).toInt64) * ((dY (x.1 2 2)).toInt64)))] [] (c_Sh_holds l g (ad 5) k.1 2 (((((k.2.2.1 q) - (x.1 0 2)).toInt64) * ((dX (x.1 2 2)).toInt64)) + ((((k.2.2.2 q) - (x.1 1 2)).toInt64) * ((dY (x.1 2 2)).toInt64))) (((((k.2.2.2 q) - (x.1 1 2)).toInt64) * ((dX (x.1 2 2)).toInt64)) - ((((k.2.2.1 q) - (x.1 0 2)).toInt64) * ((dY (x.1 2 2)).toInt64)))) hP hD hS [5] [0, 1, 2, 3, 4, 6, 7, 8, 9, 10, 11, 12, 13] [0, 1, 2, 3, 4, 13, 5, 6, 7, 8, 9, 10, 11, 12] [((ad 0), .inr (4, [.ref (ad 6), .ref (ad 10), .int (x.2.1 0), .int (x.2.1 1), .int (x.2.1 2), .int (x.2.1 3), .int (x.2.1 4), .ref (ad 1)])), ((ad 1), .inr (5, [.ref (ad 2), .ref (ad 12), .ref (ad 13), .int (k.2.1 0), .int (k.2.1 1), .int (k.2.1 2), .int (k.2.1 3), .int (k.2.1 4), .int (k.2.1 5)])), ((ad 2), .inl (g.2.1 3, 3, .inr (.inr (.inr (.inr (fun j => [ad 3, ad 4, ad 5][j]?)))))), ((ad 3), .inr (6, [.int (k.1 0 0), .int (k.1 1 0), .int (k.1 2 0), .int (k.1 3 0), .int (k.1 4 0)])), ((ad 4), .inr (6, [.int (k.1 0 1), .int (k.1 1 1), .int (k.1 2 1), .int (k.1 3 1), .int (k.1 4 1)])), ((ad 6), .inl (g.2.1 4, 3, .inr (.inr (.inr (.inr (fun j => [ad 7, ad 8, ad 9][j]?)))))), ((ad 7), .inr (3, [.int (x.1 0 0), .int (x.1 1 0), .int (x.1 2 0), .int (x.1 3 0), .int (x.1 4 0)])), ((ad 8), .inr (3, [.int (x.1 0 1), .int (x.1 1 1), .int (x.1 2 1), .int (x.1 3 1), .int (x.1 4 1)])), ((ad 9), .inr (3, [.int (x.1 0 2), .int (x.1 1 2), .int (x.1 2 2), .int (x.1 3 2), .int (x.1 4 2)])), ((ad 10), .inr (1, [.ref (ad 11), .int x.2.2.1])), ((ad 11), .inl (g.2.1 1, 64, .inr (.inl x.2.2.2))), ((ad 12), .inl (g.2.1 0, 20, .inl k.2.2.1)), ((ad 13), .inl (g.2.1 0, 20, .inl k.2.2.2))] (wR g ad k x) rfl rfl (by decide) (by decide) (by decide) rfl (by decide) 0 rfl rfl rfl rfl hl.1 (Nat.le_of_ble_eq_true rfl) ⟨Nat.le_of_ble_eq_true rfl, Nat.le_of_ble_eq_true rfl⟩ d_Ru_lookForPoles_111 ⟨Nat.zero_le _, Nat.zero_le _⟩ (fun H locs hP hD hS => ?_)
        refine lv_if_eq (tgt := 137) hx hb d_Ru_lookForPoles_114 (by decide) (fun c114_2 => ?_) (fun c114_2 => ?_)
        · refine lv_iinc (v := (nI (q + 1))) (lv' := [(8, .int (nI (q + 1))), (11, .long (((k.2.2.2 q) - (x.1 1 2)).toInt64)), (9, .long (((k.2.2.1 q) - (x.1 0 2)).toInt64)), (6, .long ((dY (x.1 2 2)).toInt64)), (4, .long ((dX (x.1 2 2)).toInt64)), (3, .ref (ad (7 + 2))), (2, .ref (ad (3 + 2))), (1, .int 2), (0, .ref (ad 0))]) hx hb d_Ru_lookForPoles_137 hl (k := 2) rfl (nI_1 q) (by decide) rfl (fun ls hl => ?_)
          refine lv_goto (tgt := 40) hx hb d_Ru_lookForPoles_140 (by decide) ?_
          exact ih (q + 1) _ _ _ (by omega) (by omega) (fh_back hlt h9 c114_2) hP hD hS (lv_sub hl [0, 3, 4, 5, 6, 7, 8] rfl)
        · refine lv_aload_n hx hb d_Ru_lookForPoles_117 rfl (lv_at hl 8 rfl) ?_
          refine lv_aload_n hx hb d_Ru_lookForPoles_118 rfl (lv_at hl 8 rfl) ?_
          refine va_get (D := g.1) (ci := 4) (v := .int (x.2.1 0)) (C := R_Ru) (T := F_Ru) (N := 8) hx hb hw i_Ru hown hE.1 hP 0 rfl rfl 2 (by decide) (hw _ q_160) (fun _ h9 => h9) rfl d_Ru_lookForPoles_119 ?_
          refine va_put (D := g.1) (ci := 4) (v := .int (x.2.1 0)) (ty := .int) (C := R_Ru) (T := F_Ru) (N := 8) hx hb hw i_Ru t_Ru t_Ru_ok n_Ru hown hE.1 hP hD hS 0 rfl rfl 4 (by decide) (hw _ q_164) (fun _ h9 => h9) rfl (by decide +kernel) rfl rfl (Nat.le_of_ble_eq_true rfl) d_Ru_lookForPoles_122 (fun H locs hP hD hS => ?_)
          have hP : va_P g.1 classes (wR g ad k (x.1, (upd x.2.1 2 (x.2.1 0)), x.2.2.1, x.2.2.2)) H := hP
          have hD : va_D A (wR g ad k (x.1, (upd x.2.1 2 (x.2.1 0)), x.2.2.1, x.2.2.2)) := hD
          refine lv_aload_n hx hb d_Ru_lookForPoles_125 rfl (lv_at hl 8 rfl) ?_
          refine lv_iload_n hx hb d_Ru_lookForPoles_126 rfl (lv_at hl 7 rfl) ?_
          refine va_put (D := g.1) (ci := 4) (v := .int 2) (ty := .int) (C := R_Ru) (T := F_Ru) (N := 8) hx hb hw i_Ru t_Ru t_Ru_ok n_Ru hown hE.1 hP hD hS 0 rfl rfl 5 (by decide) (hw _ q_166) (fun _ h9 => h9) rfl (by decide +kernel) rfl rfl (Nat.le_of_ble_eq_true rfl) d_Ru_lookForPoles_127 (fun H locs hP hD hS => ?_)
          have hP : va_P g.1 classes (wR g ad k (x.1, (upd (upd x.2.1 2 (x.2.1 0)) 3 2), x.2.2.1, x.2.2.2)) H := hP
          have hD : va_D A (wR g ad k (x.1, (upd (upd x.2.1 2 (x.2.1 0)) 3 2), x.2.2.1, x.2.2.2)) := hD
          refine lv_aload_n hx hb d_Ru_lookForPoles_130 rfl (lv_at hl 8 rfl) ?_
          refine lv_iload hx hb d_Ru_lookForPoles_131 (lv_at hl 2 rfl) ?_
          refine va_put (D := g.1) (ci := 4) (v := .int (nI q)) (ty := .int) (C := R_Ru) (T := F_Ru) (N := 8) hx hb hw i_Ru t_Ru t_Ru_ok n_Ru hown hE.1 hP hD hS 0 rfl rfl 6 (by decide) (hw _ q_168) (fun _ h9 => h9) rfl (by decide +kernel) rfl rfl (Nat.le_of_ble_eq_true rfl) d_Ru_lookForPoles_133 (fun H locs hP hD hS => ?_)
          have hP : va_P g.1 classes (wR g ad k (x.1, (upd (upd (upd x.2.1 2 (x.2.1 0)) 3 2) 4 (nI q)), x.2.2.1, x.2.2.2)) H := hP
          have hD : va_D A (wR g ad k (x.1, (upd (upd (upd x.2.1 2 (x.2.1 0)) 3 2) 4 (nI q)), x.2.2.1, x.2.2.2)) := hD
          have h9 := fh_hit hlt h9 c114_2
          subst h9
          exact hret _ _ _ _ _ rfl hP hD hS d_Ru_lookForPoles_136
  exact lp (np + 1) 0 _ _ _ (by omega) (by omega) h9 hP hD hS (lv_sub hl [0, 1, 2, 3, 4, 6, 5] rfl)
set_option maxHeartbeats 4000000 in
set_option maxRecDepth 100000 in
theorem c_Ru_lookRound (l : Launch) (g : Glob) (ad : Nat → Nat) (k : CFG) (x : RS) (n : Nat) (hn : k.2.1 0 = nI n) (h3 : n ≤ 3) (np : Nat) (hp : k.2.1 1 = nI np) (h20 : np ≤ 20) : CV l g y_Ru_lookRound b_Ru_lookRound 2 3 86 [.ref (ad 0)] (wR g ad k x) (wR g ad k (itF (lkF k np) n 0 x)) := by
  refine CV.of (by decide +kernel) (Nat.le_of_ble_eq_true rfl) ?_
  intro p e s m below meth c A Q ls C hP hD hl hret hS
  obtain ⟨hx, hb, hml, hown, hw, hE, hA⟩ := id C
  have hl : lv_has ls 2 [(0, .ref (ad 0))] := hl
  generalize h9 : itF (lkF k np) n 0 x = x9 at hret
  refine lv_iconst (v := 0) hx hb d_Ru_lookRound_0 (by decide) ?_
  refine lv_istore_n (lv' := [(1, .int 0), (0, .ref (ad 0))]) hx hb d_Ru_lookRound_1 rfl hl (by decide) rfl (fun ls hl => ?_)
  have lp : ∀ (j : Nat) (i : Nat) (x : RS) (H : Heap) (locs : List Loc) (ls : Array Slot), 0 ≤ i → i ≤ n + 1 → n + 1 < i + j → itF (lkF k np) n i x = x9 → va_P g.1 classes (wR g ad k x) H → va_D A (wR g ad k x) → va_S A s.heap H locs → lv_has ls 2 [(1, .int (nI i)), (0, .ref (ad 0))] → W p l e { frames := 3, cells := 0, slots := 0, locals := 86 } s m ([.ref (ad 0)] : List Value).toArray below meth c H locs 0 0 Q (F0 m 2 ls []) := by
    intro j
    induction j with
    | zero =>
      intro i x H locs ls hlo hi hj h9 hP hD hS hl
      exact absurd trivial (by omega)
    | succ j ih =>
      intro i x H locs ls hlo hi hj h9 hP hD hS hl
      refine lv_iload_n hx hb d_Ru_lookRound_2 rfl (lv_at hl 0 rfl) ?_
      refine lv_aload_n hx hb d_Ru_lookRound_3 rfl (lv_at hl 1 rfl) ?_
      refine va_get (D := g.1) (ci := 4) (v := .ref (ad 1)) (C := R_Ru) (T := F_Ru) (N := 8) hx hb hw i_Ru hown hE.1 hP 0 rfl rfl 7 (by decide) (hw _ q_170) (fun _ h9 => h9) rfl d_Ru_lookRound_4 ?_
      refine va_get (D := g.1) (ci := 5) (v := .int (k.2.1 0)) (C := R_Se) (T := F_Se) (N := 9) hx hb hw i_Se hown hE.1 hP 1 rfl rfl 3 (by decide) (hw _ q_72) (fun _ h9 => h9) rfl d_Ru_lookRound_7 ?_
      refine lv_icmp_ge (tgt := 54) hx hb d_Ru_lookRound_10 (by decide) (fun c10_1 => ?_) (fun c10_1 => ?_)
      · have hge := ge_of_le hn h3 hi c10_1
        have h9 := (itF_end hge).symm.trans h9
        subst h9
        exact hret _ _ _ _ _ rfl hP hD hS d_Ru_lookRound_54
      · have hlt := lt_of_nle hn h3 hi c10_1
        rcases (show i = 0 ∨ i = 1 ∨ i = 2 by omega) with rfl | rfl | rfl
        · have hl : lv_has ls 2 [(1, .int 0), (0, .ref (ad 0))] := hl
          refine lv_aload_n hx hb d_Ru_lookRound_13 rfl (lv_at hl 1 rfl) ?_
          refine va_get (D := g.1) (ci := 4) (v := .ref (ad 10)) (C := R_Ru) (T := F_Ru) (N := 8) hx hb hw i_Ru hown hE.1 hP 0 rfl rfl 1 (by decide) (hw _ q_158) (fun _ h9 => h9) rfl d_Ru_lookRound_14 ?_
          refine lv_aload_n hx hb d_Ru_lookRound_17 rfl (lv_at hl 1 rfl) ?_
          refine va_get (D := g.1) (ci := 4) (v := .ref (ad 1)) (C := R_Ru) (T := F_Ru) (N := 8) hx hb hw i_Ru hown hE.1 hP 0 rfl rfl 7 (by decide) (hw _ q_170) (fun _ h9 => h9) rfl d_Ru_lookRound_18 ?_
          refine va_get (D := g.1) (ci := 5) (v := .ref (ad 2)) (C := R_Se) (T := F_Se) (N := 9) hx hb hw i_Se hown hE.1 hP 1 rfl rfl 0 (by decide) (hw _ q_65) (fun _ h9 => h9) rfl d_Ru_lookRound_21 ?_
          refine lv_iload_n hx hb d_Ru_lookRound_24 rfl (lv_at hl 0 rfl) ?_
          refine va_aldq hx hb hE.1 hP 2 3 rfl rfl (by unfold vp_in; decide) d_Ru_lookRound_25 ?_
          rw [show (0 : Int32).toNatClampNeg = 0 from by decide]
          refine lv_aload_n hx hb d_Ru_lookRound_26 rfl (lv_at hl 1 rfl) ?_
          refine va_get (D := g.1) (ci := 4) (v := .ref (ad 6)) (C := R_Ru) (T := F_Ru) (N := 8) hx hb hw i_Ru hown hE.1 hP 0 rfl rfl 0 (by decide) (hw _ q_156) (fun _ h9 => h9) rfl d_Ru_lookRound_27 ?_
          refine lv_iload_n hx hb d_Ru_lookRound_30 rfl (lv_at hl 0 rfl) ?_
          refine va_aldq hx hb hE.1 hP 6 4 rfl rfl (by unfold vp_in; decide) d_Ru_lookRound_31 ?_
          rw [show (0 : Int32).toNatClampNeg = 0 from by decide]
          refine cvV C v_Ru_162 [.ref (ad (3 + 0)), .ref (ad (7 + 0))] [] (c_Ce_cover l g (ad 10) (ad 11) (ad 3) (ad 7) k.1 x.1 0 x.2.2) hP hD hS [10, 11, 3, 7] [0, 1, 2, 4, 5, 6, 8, 9, 12, 13] [0, 1, 2, 12, 3, 4, 5, 13, 6, 7, 10, 11, 8, 9] [((ad 0), .inr (4, [.ref (ad 6), .ref (ad 10), .int (x.2.1 0), .int (x.2.1 1), .int (x.2.1 2), .int (x.2.1 3), .int (x.2.1 4), .ref (ad 1)])), ((ad 1), .inr (5, [.ref (ad 2), .ref (ad 12), .ref (ad 13), .int (k.2.1 0), .int (k.2.1 1), .int (k.2.1 2), .int (k.2.1 3), .int (k.2.1 4), .int (k.2.1 5)])), ((ad 2), .inl (g.2.1 3, 3, .inr (.inr (.inr (.inr (fun j => [ad 3, ad 4, ad 5][j]?)))))), ((ad 4), .inr (6, [.int (k.1 0 1), .int (k.1 1 1), .int (k.1 2 1), .int (k.1 3 1), .int (k.1 4 1)])), ((ad 5), .inr (6, [.int (k.1 0 2), .int (k.1 1 2), .int (k.1 2 2), .int (k.1 3 2), .int (k.1 4 2)])), ((ad 6), .inl (g.2.1 4, 3, .inr (.inr (.inr (.inr (fun j => [ad 7, ad 8, ad 9][j]?)))))), ((ad 8), .inr (3, [.int (x.1 0 1), .int (x.1 1 1), .int (x.1 2 1), .int (x.1 3 1), .int (x.1 4 1)])), ((ad 9), .inr (3, [.int (x.1 0 2), .int (x.1 1 2), .int (x.1 2 2), .int (x.1 3 2), .int (x.1 4 2)])), ((ad 12), .inl (g.2.1 0, 20, .inl k.2.2.1)), ((ad 13), .inl (g.2.1 0, 20, .inl k.2.2.2))] (wR g ad k (cvF k 0 x)) rfl rfl (by decide) (by decide) (by decide) rfl (by decide) 0 rfl rfl rfl rfl hl.1 (Nat.le_of_ble_eq_true rfl) ⟨Nat.le_of_ble_eq_true rfl, Nat.le_of_ble_eq_true rfl⟩ d_Ru_lookRound_32 ⟨Nat.zero_le _, Nat.zero_le _⟩ (fun H locs hP hD hS => ?_)
          refine lv_aload_n hx hb d_Ru_lookRound_35 rfl (lv_at hl 1 rfl) ?_
          refine va_get (D := g.1) (ci := 4) (v := .int ((cvF k 0 x).2.1 2)) (C := R_Ru) (T := F_Ru) (N := 8) hx hb hw i_Ru hown hE.1 hP 0 rfl rfl 4 (by decide) (hw _ q_164) (fun _ h9 => h9) rfl d_Ru_lookRound_36 ?_
          refine lv_iconst (v := (-1)) hx hb d_Ru_lookRound_39 (by decide) ?_
          refine lv_icmp_ne (tgt := 48) hx hb d_Ru_lookRound_40 (by decide) (fun c40_2 => ?_) (fun c40_2 => ?_)
          · refine lv_iinc (v := 1) (lv' := [(1, .int 1), (0, .ref (ad 0))]) hx hb d_Ru_lookRound_48 hl (k := 0) rfl (by decide) (by decide) rfl (fun ls hl => ?_)
            refine lv_goto (tgt := 2) hx hb d_Ru_lookRound_51 (by decide) ?_
            exact ih 1 (cvF k 0 x) _ _ _ (by omega) (by omega) (by omega) (it_back hlt h9 (if_neg c40_2)) hP hD hS (lv_sub hl [0, 1] rfl)
          · refine lv_aload_n hx hb d_Ru_lookRound_43 rfl (lv_at hl 1 rfl) ?_
            refine lv_iload_n hx hb d_Ru_lookRound_44 rfl (lv_at hl 0 rfl) ?_
            refine cvV C v_Ru_166 [.int 0] [] (c_Ru_lookForPoles_0 l g ad k (cvF k 0 x) np hp h20) hP hD hS [0, 1, 2, 3, 4, 5, 6, 7, 8, 9, 10, 11, 12, 13] [] [0, 1, 2, 3, 4, 5, 6, 7, 8, 9, 10, 11, 12, 13] [] (wR g ad k (polF k np 0 (cvF k 0 x))) rfl rfl (by decide) (by decide) (by decide) rfl (by decide) 0 rfl rfl rfl rfl hl.1 (Nat.le_of_ble_eq_true rfl) ⟨Nat.le_of_ble_eq_true rfl, Nat.le_of_ble_eq_true rfl⟩ d_Ru_lookRound_45 ⟨Nat.zero_le _, Nat.zero_le _⟩ (fun H locs hP hD hS => ?_)
            refine lv_iinc (v := 1) (lv' := [(1, .int 1), (0, .ref (ad 0))]) hx hb d_Ru_lookRound_48 hl (k := 0) rfl (by decide) (by decide) rfl (fun ls hl => ?_)
            refine lv_goto (tgt := 2) hx hb d_Ru_lookRound_51 (by decide) ?_
            exact ih 1 (polF k np 0 (cvF k 0 x)) _ _ _ (by omega) (by omega) (by omega) (it_back hlt h9 (if_pos c40_2)) hP hD hS (lv_sub hl [0, 1] rfl)
        · have hl : lv_has ls 2 [(1, .int 1), (0, .ref (ad 0))] := hl
          refine lv_aload_n hx hb d_Ru_lookRound_13 rfl (lv_at hl 1 rfl) ?_
          refine va_get (D := g.1) (ci := 4) (v := .ref (ad 10)) (C := R_Ru) (T := F_Ru) (N := 8) hx hb hw i_Ru hown hE.1 hP 0 rfl rfl 1 (by decide) (hw _ q_158) (fun _ h9 => h9) rfl d_Ru_lookRound_14 ?_
          refine lv_aload_n hx hb d_Ru_lookRound_17 rfl (lv_at hl 1 rfl) ?_
          refine va_get (D := g.1) (ci := 4) (v := .ref (ad 1)) (C := R_Ru) (T := F_Ru) (N := 8) hx hb hw i_Ru hown hE.1 hP 0 rfl rfl 7 (by decide) (hw _ q_170) (fun _ h9 => h9) rfl d_Ru_lookRound_18 ?_
          refine va_get (D := g.1) (ci := 5) (v := .ref (ad 2)) (C := R_Se) (T := F_Se) (N := 9) hx hb hw i_Se hown hE.1 hP 1 rfl rfl 0 (by decide) (hw _ q_65) (fun _ h9 => h9) rfl d_Ru_lookRound_21 ?_
          refine lv_iload_n hx hb d_Ru_lookRound_24 rfl (lv_at hl 0 rfl) ?_
          refine va_aldq hx hb hE.1 hP 2 3 rfl rfl (by unfold vp_in; decide) d_Ru_lookRound_25 ?_
          rw [show (1 : Int32).toNatClampNeg = 1 from by decide]
          refine lv_aload_n hx hb d_Ru_lookRound_26 rfl (lv_at hl 1 rfl) ?_
          refine va_get (D := g.1) (ci := 4) (v := .ref (ad 6)) (C := R_Ru) (T := F_Ru) (N := 8) hx hb hw i_Ru hown hE.1 hP 0 rfl rfl 0 (by decide) (hw _ q_156) (fun _ h9 => h9) rfl d_Ru_lookRound_27 ?_
          refine lv_iload_n hx hb d_Ru_lookRound_30 rfl (lv_at hl 0 rfl) ?_
          refine va_aldq hx hb hE.1 hP 6 4 rfl rfl (by unfold vp_in; decide) d_Ru_lookRound_31 ?_
          rw [show (1 : Int32).toNatClampNeg = 1 from by decide]
          refine cvV C v_Ru_162 [.ref (ad (3 + 1)), .ref (ad (7 + 1))] [] (c_Ce_cover l g (ad 10) (ad 11) (ad 4) (ad 8) k.1 x.1 1 x.2.2) hP hD hS [10, 11, 4, 8] [0, 1, 2, 3, 5, 6, 7, 9, 12, 13] [0, 1, 2, 3, 12, 4, 5, 6, 13, 7, 10, 11, 8, 9] [((ad 0), .inr (4, [.ref (ad 6), .ref (ad 10), .int (x.2.1 0), .int (x.2.1 1), .int (x.2.1 2), .int (x.2.1 3), .int (x.2.1 4), .ref (ad 1)])), ((ad 1), .inr (5, [.ref (ad 2), .ref (ad 12), .ref (ad 13), .int (k.2.1 0), .int (k.2.1 1), .int (k.2.1 2), .int (k.2.1 3), .int (k.2.1 4), .int (k.2.1 5)])), ((ad 2), .inl (g.2.1 3, 3, .inr (.inr (.inr (.inr (fun j => [ad 3, ad 4, ad 5][j]?)))))), ((ad 3), .inr (6, [.int (k.1 0 0), .int (k.1 1 0), .int (k.1 2 0), .int (k.1 3 0), .int (k.1 4 0)])), ((ad 5), .inr (6, [.int (k.1 0 2), .int (k.1 1 2), .int (k.1 2 2), .int (k.1 3 2), .int (k.1 4 2)])), ((ad 6), .inl (g.2.1 4, 3, .inr (.inr (.inr (.inr (fun j => [ad 7, ad 8, ad 9][j]?)))))), ((ad 7), .inr (3, [.int (x.1 0 0), .int (x.1 1 0), .int (x.1 2 0), .int (x.1 3 0), .int (x.1 4 0)])), ((ad 9), .inr (3, [.int (x.1 0 2), .int (x.1 1 2), .int (x.1 2 2), .int (x.1 3 2), .int (x.1 4 2)])), ((ad 12), .inl (g.2.1 0, 20, .inl k.2.2.1)), ((ad 13), .inl (g.2.1 0, 20, .inl k.2.2.2))] (wR g ad k (cvF k 1 x)) rfl rfl (by decide) (by decide) (by decide) rfl (by decide) 0 rfl rfl rfl rfl hl.1 (Nat.le_of_ble_eq_true rfl) ⟨Nat.le_of_ble_eq_true rfl, Nat.le_of_ble_eq_true rfl⟩ d_Ru_lookRound_32 ⟨Nat.zero_le _, Nat.zero_le _⟩ (fun H locs hP hD hS => ?_)
          refine lv_aload_n hx hb d_Ru_lookRound_35 rfl (lv_at hl 1 rfl) ?_
          refine va_get (D := g.1) (ci := 4) (v := .int ((cvF k 1 x).2.1 2)) (C := R_Ru) (T := F_Ru) (N := 8) hx hb hw i_Ru hown hE.1 hP 0 rfl rfl 4 (by decide) (hw _ q_164) (fun _ h9 => h9) rfl d_Ru_lookRound_36 ?_
          refine lv_iconst (v := (-1)) hx hb d_Ru_lookRound_39 (by decide) ?_
          refine lv_icmp_ne (tgt := 48) hx hb d_Ru_lookRound_40 (by decide) (fun c40_3 => ?_) (fun c40_3 => ?_)
          · refine lv_iinc (v := 2) (lv' := [(1, .int 2), (0, .ref (ad 0))]) hx hb d_Ru_lookRound_48 hl (k := 0) rfl (by decide) (by decide) rfl (fun ls hl => ?_)
            refine lv_goto (tgt := 2) hx hb d_Ru_lookRound_51 (by decide) ?_
            exact ih 2 (cvF k 1 x) _ _ _ (by omega) (by omega) (by omega) (it_back hlt h9 (if_neg c40_3)) hP hD hS (lv_sub hl [0, 1] rfl)
          · refine lv_aload_n hx hb d_Ru_lookRound_43 rfl (lv_at hl 1 rfl) ?_
            refine lv_iload_n hx hb d_Ru_lookRound_44 rfl (lv_at hl 0 rfl) ?_
            refine cvV C v_Ru_166 [.int 1] [] (c_Ru_lookForPoles_1 l g ad k (cvF k 1 x) np hp h20) hP hD hS [0, 1, 2, 3, 4, 5, 6, 7, 8, 9, 10, 11, 12, 13] [] [0, 1, 2, 3, 4, 5, 6, 7, 8, 9, 10, 11, 12, 13] [] (wR g ad k (polF k np 1 (cvF k 1 x))) rfl rfl (by decide) (by decide) (by decide) rfl (by decide) 0 rfl rfl rfl rfl hl.1 (Nat.le_of_ble_eq_true rfl) ⟨Nat.le_of_ble_eq_true rfl, Nat.le_of_ble_eq_true rfl⟩ d_Ru_lookRound_45 ⟨Nat.zero_le _, Nat.zero_le _⟩ (fun H locs hP hD hS => ?_)
            refine lv_iinc (v := 2) (lv' := [(1, .int 2), (0, .ref (ad 0))]) hx hb d_Ru_lookRound_48 hl (k := 0) rfl (by decide) (by decide) rfl (fun ls hl => ?_)
            refine lv_goto (tgt := 2) hx hb d_Ru_lookRound_51 (by decide) ?_
            exact ih 2 (polF k np 1 (cvF k 1 x)) _ _ _ (by omega) (by omega) (by omega) (it_back hlt h9 (if_pos c40_3)) hP hD hS (lv_sub hl [0, 1] rfl)
        · have hl : lv_has ls 2 [(1, .int 2), (0, .ref (ad 0))] := hl
          refine lv_aload_n hx hb d_Ru_lookRound_13 rfl (lv_at hl 1 rfl) ?_
          refine va_get (D := g.1) (ci := 4) (v := .ref (ad 10)) (C := R_Ru) (T := F_Ru) (N := 8) hx hb hw i_Ru hown hE.1 hP 0 rfl rfl 1 (by decide) (hw _ q_158) (fun _ h9 => h9) rfl d_Ru_lookRound_14 ?_
          refine lv_aload_n hx hb d_Ru_lookRound_17 rfl (lv_at hl 1 rfl) ?_
          refine va_get (D := g.1) (ci := 4) (v := .ref (ad 1)) (C := R_Ru) (T := F_Ru) (N := 8) hx hb hw i_Ru hown hE.1 hP 0 rfl rfl 7 (by decide) (hw _ q_170) (fun _ h9 => h9) rfl d_Ru_lookRound_18 ?_
          refine va_get (D := g.1) (ci := 5) (v := .ref (ad 2)) (C := R_Se) (T := F_Se) (N := 9) hx hb hw i_Se hown hE.1 hP 1 rfl rfl 0 (by decide) (hw _ q_65) (fun _ h9 => h9) rfl d_Ru_lookRound_21 ?_
          refine lv_iload_n hx hb d_Ru_lookRound_24 rfl (lv_at hl 0 rfl) ?_
          refine va_aldq hx hb hE.1 hP 2 3 rfl rfl (by unfold vp_in; decide) d_Ru_lookRound_25 ?_
          rw [show (2 : Int32).toNatClampNeg = 2 from by decide]
          refine lv_aload_n hx hb d_Ru_lookRound_26 rfl (lv_at hl 1 rfl) ?_
          refine va_get (D := g.1) (ci := 4) (v := .ref (ad 6)) (C := R_Ru) (T := F_Ru) (N := 8) hx hb hw i_Ru hown hE.1 hP 0 rfl rfl 0 (by decide) (hw _ q_156) (fun _ h9 => h9) rfl d_Ru_lookRound_27 ?_
          refine lv_iload_n hx hb d_Ru_lookRound_30 rfl (lv_at hl 0 rfl) ?_
          refine va_aldq hx hb hE.1 hP 6 4 rfl rfl (by unfold vp_in; decide) d_Ru_lookRound_31 ?_
          rw [show (2 : Int32).toNatClampNeg = 2 from by decide]
          refine cvV C v_Ru_162 [.ref (ad (3 + 2)), .ref (ad (7 + 2))] [] (c_Ce_cover l g (ad 10) (ad 11) (ad 5) (ad 9) k.1 x.1 2 x.2.2) hP hD hS [10, 11, 5, 9] [0, 1, 2, 3, 4, 6, 7, 8, 12, 13] [0, 1, 2, 3, 4, 12, 5, 6, 7, 13, 10, 11, 8, 9] [((ad 0), .inr (4, [.ref (ad 6), .ref (ad 10), .int (x.2.1 0), .int (x.2.1 1), .int (x.2.1 2), .int (x.2.1 3), .int (x.2.1 4), .ref (ad 1)])), ((ad 1), .inr (5, [.ref (ad 2), .ref (ad 12), .ref (ad 13), .int (k.2.1 0), .int (k.2.1 1), .int (k.2.1 2), .int (k.2.1 3), .int (k.2.1 4), .int (k.2.1 5)])), ((ad 2), .inl (g.2.1 3, 3, .inr (.inr (.inr (.inr (fun j => [ad 3, ad 4, ad 5][j]?)))))), ((ad 3), .inr (6, [.int (k.1 0 0), .int (k.1 1 0), .int (k.1 2 0), .int (k.1 3 0), .int (k.1 4 0)])), ((ad 4), .inr (6, [.int (k.1 0 1), .int (k.1 1 1), .int (k.1 2 1), .int (k.1 3 1), .int (k.1 4 1)])), ((ad 6), .inl (g.2.1 4, 3, .inr (.inr (.inr (.inr (fun j => [ad 7, ad 8, ad 9][j]?)))))), ((ad 7), .inr (3, [.int (x.1 0 0), .int (x.1 1 0), .int (x.1 2 0), .int (x.1 3 0), .int (x.1 4 0)])), ((ad 8), .inr (3, [.int (x.1 0 1), .int (x.1 1 1), .int (x.1 2 1), .int (x.1 3 1), .int (x.1 4 1)])), ((ad 12), .inl (g.2.1 0, 20, .inl k.2.2.1)), ((ad 13), .inl (g.2.1 0, 20, .inl k.2.2.2))] (wR g ad k (cvF k 2 x)) rfl rfl (by decide) (by decide) (by decide) rfl (by decide) 0 rfl rfl rfl rfl hl.1 (Nat.le_of_ble_eq_true rfl) ⟨Nat.le_of_ble_eq_true rfl, Nat.le_of_ble_eq_true rfl⟩ d_Ru_lookRound_32 ⟨Nat.zero_le _, Nat.zero_le _⟩ (fun H locs hP hD hS => ?_)
          refine lv_aload_n hx hb d_Ru_lookRound_35 rfl (lv_at hl 1 rfl) ?_
          refine va_get (D := g.1) (ci := 4) (v := .int ((cvF k 2 x).2.1 2)) (C := R_Ru) (T := F_Ru) (N := 8) hx hb hw i_Ru hown hE.1 hP 0 rfl rfl 4 (by decide) (hw _ q_164) (fun _ h9 => h9) rfl d_Ru_lookRound_36 ?_
          refine lv_iconst (v := (-1)) hx hb d_Ru_lookRound_39 (by decide) ?_
          refine lv_icmp_ne (tgt := 48) hx hb d_Ru_lookRound_40 (by decide) (fun c40_4 => ?_) (fun c40_4 => ?_)
          · refine lv_iinc (v := 3) (lv' := [(1, .int 3), (0, .ref (ad 0))]) hx hb d_Ru_lookRound_48 hl (k := 0) rfl (by decide) (by decide) rfl (fun ls hl => ?_)
            refine lv_goto (tgt := 2) hx hb d_Ru_lookRound_51 (by decide) ?_
            exact ih 3 (cvF k 2 x) _ _ _ (by omega) (by omega) (by omega) (it_back hlt h9 (if_neg c40_4)) hP hD hS (lv_sub hl [0, 1] rfl)
          · refine lv_aload_n hx hb d_Ru_lookRound_43 rfl (lv_at hl 1 rfl) ?_
            refine lv_iload_n hx hb d_Ru_lookRound_44 rfl (lv_at hl 0 rfl) ?_
            refine cvV C v_Ru_166 [.int 2] [] (c_Ru_lookForPoles_2 l g ad k (cvF k 2 x) np hp h20) hP hD hS [0, 1, 2, 3, 4, 5, 6, 7, 8, 9, 10, 11, 12, 13] [] [0, 1, 2, 3, 4, 5, 6, 7, 8, 9, 10, 11, 12, 13] [] (wR g ad k (polF k np 2 (cvF k 2 x))) rfl rfl (by decide) (by decide) (by decide) rfl (by decide) 0 rfl rfl rfl rfl hl.1 (Nat.le_of_ble_eq_true rfl) ⟨Nat.le_of_ble_eq_true rfl, Nat.le_of_ble_eq_true rfl⟩ d_Ru_lookRound_45 ⟨Nat.zero_le _, Nat.zero_le _⟩ (fun H locs hP hD hS => ?_)
            refine lv_iinc (v := 3) (lv' := [(1, .int 3), (0, .ref (ad 0))]) hx hb d_Ru_lookRound_48 hl (k := 0) rfl (by decide) (by decide) rfl (fun ls hl => ?_)
            refine lv_goto (tgt := 2) hx hb d_Ru_lookRound_51 (by decide) ?_
            exact ih 3 (polF k np 2 (cvF k 2 x)) _ _ _ (by omega) (by omega) (by omega) (it_back hlt h9 (if_pos c40_4)) hP hD hS (lv_sub hl [0, 1] rfl)
  exact lp (n + 2) 0 x _ _ _ (by omega) (by omega) (by omega) h9 hP hD hS (lv_sub hl [0, 1] rfl)
