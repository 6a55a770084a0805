/-! The class's rows of barges, asked; Math's three. -/
def sp_max (σ : Type) : xSp σ := (fun _ _ => (0, 0), fun av S K => ∃ x y : Int32, av = [.int x, .int y] ∧ K (rI (if x < y then y else x)) S)
theorem sp_max_c {σ : Type} {av : List Value} {S : σ} : (sp_max σ).1 av S = (0, 0) := rfl
theorem sp_max_w {σ : Type} {S : σ} {K : xRes → σ → Prop} {x : Int32} {y : Int32} : (sp_max σ).2 [.int x, .int y] S K = K (rI (if x < y then y else x)) S := propext ⟨fun h => by
  obtain ⟨_, _, e, h⟩ := h
  simp only [List.cons.injEq, Value.int.injEq, and_true] at e
  obtain ⟨rfl, rfl⟩ := e
  exact h, fun h => ⟨_, _, rfl, h⟩⟩
def sp_min (σ : Type) : xSp σ := (fun _ _ => (0, 0), fun av S K => ∃ x y : Int32, av = [.int x, .int y] ∧ K (rI (if y < x then y else x)) S)
theorem sp_min_c {σ : Type} {av : List Value} {S : σ} : (sp_min σ).1 av S = (0, 0) := rfl
theorem sp_min_w {σ : Type} {S : σ} {K : xRes → σ → Prop} {x : Int32} {y : Int32} : (sp_min σ).2 [.int x, .int y] S K = K (rI (if y < x then y else x)) S := propext ⟨fun h => by
  obtain ⟨_, _, e, h⟩ := h
  simp only [List.cons.injEq, Value.int.injEq, and_true] at e
  obtain ⟨rfl, rfl⟩ := e
  exact h, fun h => ⟨_, _, rfl, h⟩⟩
def sp_abs (σ : Type) : xSp σ := (fun _ _ => (0, 0), fun av S K => ∃ x : Int32, av = [.int x] ∧ K (rI (if 0 ≤ x then x else 0 - x)) S)
theorem sp_abs_c {σ : Type} {av : List Value} {S : σ} : (sp_abs σ).1 av S = (0, 0) := rfl
theorem sp_abs_w {σ : Type} {S : σ} {K : xRes → σ → Prop} {x : Int32} : (sp_abs σ).2 [.int x] S K = K (rI (if 0 ≤ x then x else 0 - x)) S := propext ⟨fun h => by
  obtain ⟨_, e, h⟩ := h
  simp only [List.cons.injEq, Value.int.injEq, and_true] at e
  obtain rfl := e
  exact h, fun h => ⟨_, rfl, h⟩⟩
section XM
variable {σ : Type} {E : xEnv σ} {W9 : xWd} {A : Nat → Prop} {df : Nat → List Value}
variable {p : Program} {l : Launch} {e : Env} {R : Room} {s : State} {m : MethodId} {args : Array Value} {below : List Frame} {meth : Method} {c : Code} {nL : Nat} {own : String} {ws : List Jvm.Cond}
theorem xCR_max {k ci : Nat} (X : xCtx W9 E df A p R s m args meth c nL own ws) (h1 : Jvm.Cond.methodLink own k Lib.Math.max.name ∈ ws) (h2 : Jvm.Cond.static Lib.Math.max.name ∈ ws) (h3 : Jvm.Cond.initialized "java/lang/Math" ∈ ws) (h4 : Jvm.Cond.code Lib.Math.max.name Lib.Math.max.code 2 (some .int) ∈ ws) (hRm : 1 ≤ R.frames ∧ 21 ≤ R.locals) :
    xCR E (wD W9) vwCl (wY W9) A p l e R s m args below meth c nL (.invokestatic k) 2 ci (sp_max σ) := by
  obtain ⟨hx, hml, hown, hts, hlaw, hAmb, hA, hlocks, hext⟩ := X
  intro pc len H locs ls lv av rest S cs ss KF hd hxl hlen hlv hR hO hS hrc hcat b1 b2 hv kk kx
  cases hxl
  obtain ⟨x, y, rfl, hv⟩ := hv
  exact va_mmax (rest := rest) hx rfl (by rw [hml]; exact hlv.1.symm) hown (hts _ h1) (hts _ h2) (hts _ h3) (hts _ h4) hRm.1 (by omega) (Nat.le_trans (Nat.le_add_right _ _) b1) (Nat.le_trans (Nat.le_add_right _ _) b2) hd (kk (some (.int (if x < y then y else x))) S hv H locs ls hlv hR hO hS)
theorem xCR_min {k ci : Nat} (X : xCtx W9 E df A p R s m args meth c nL own ws) (h1 : Jvm.Cond.methodLink own k Lib.Math.min.name ∈ ws) (h2 : Jvm.Cond.static Lib.Math.min.name ∈ ws) (h3 : Jvm.Cond.initialized "java/lang/Math" ∈ ws) (h4 : Jvm.Cond.code Lib.Math.min.name Lib.Math.min.code 2 (some .int) ∈ ws) (hRm : 1 ≤ R.frames ∧ 21 ≤ R.locals) :
    xCR E (wD W9) vwCl (wY W9) A p l e R s m args below meth c nL (.invokestatic k) 2 ci (sp_min σ) := by
  obtain ⟨hx, hml, hown, hts, hlaw, hAmb, hA, hlocks, hext⟩ := X
  intro pc len H locs ls lv av rest S cs ss KF hd hxl hlen hlv hR hO hS hrc hcat b1 b2 hv kk kx
  cases hxl
  obtain ⟨x, y, rfl, hv⟩ := hv
  exact va_mmin (rest := rest) hx rfl (by rw [hml]; exact hlv.1.symm) hown (hts _ h1) (hts _ h2) (hts _ h3) (hts _ h4) hRm.1 (by omega) (Nat.le_trans (Nat.le_add_right _ _) b1) (Nat.le_trans (Nat.le_add_right _ _) b2) hd (kk (some (.int (if y < x then y else x))) S hv H locs ls hlv hR hO hS)
theorem xCR_abs {k ci : Nat} (X : xCtx W9 E df A p R s m args meth c nL own ws) (h1 : Jvm.Cond.methodLink own k Lib.Math.abs.name ∈ ws) (h2 : Jvm.Cond.static Lib.Math.abs.name ∈ ws) (h3 : Jvm.Cond.initialized "java/lang/Math" ∈ ws) (h4 : Jvm.Cond.code Lib.Math.abs.name Lib.Math.abs.code 1 (some .int) ∈ ws) (hRm : 1 ≤ R.frames ∧ 21 ≤ R.locals) :
    xCR E (wD W9) vwCl (wY W9) A p l e R s m args below meth c nL (.invokestatic k) 1 ci (sp_abs σ) := by
  obtain ⟨hx, hml, hown, hts, hlaw, hAmb, hA, hlocks, hext⟩ := X
  intro pc len H locs ls lv av rest S cs ss KF hd hxl hlen hlv hR hO hS hrc hcat b1 b2 hv kk kx
  cases hxl
  obtain ⟨x, rfl, hv⟩ := hv
  exact va_mabs (rest := rest) hx rfl (by rw [hml]; exact hlv.1.symm) hown (hts _ h1) (hts _ h2) (hts _ h3) (hts _ h4) hRm.1 (by omega) (Nat.le_trans (Nat.le_add_right _ _) b1) (Nat.le_trans (Nat.le_add_right _ _) b2) hd (kk (some (.int (if 0 ≤ x then x else 0 - x))) S hv H locs ls hlv hR hO hS)
end XM

def cBit (S : cS) (b : Nat) : Int32 := 1 <<< (cFi S b 100 &&& 31)
def rP (S : cS) (a b : Nat) : Nat := (rPl S a b (rN S a) 0).toNatClampNeg
/-- the barge b lies in the row a -/
def rHas (S : cS) (a b : Nat) : Prop := rPl S a b (rN S a) 0 = nI (rP S a b) ∧ rP S a b < rN S a
def rCt (S : cS) (a : Nat) (w : Int32) (p : Nat) : Nat → Int32
  | 0 => 0
  | j + 1 => rCt S a w p j + (if w &&& cBit S (rB S a (p + j)) = 0 then 1 else 0)
def rBh (S : cS) (a b : Nat) (w : Int32) : Int32 := rCt S a w (rP S a b + 1) (rN S a - (rP S a b + 1))
theorem pos_nI {j : Nat} (h : j < 1000) : 0 ≤ nI j := nI_pos' (by omega)

def tbX4_behindWithout : List (Nat × xHint) := [(0, .iconst 0, 0, 0, 0, []), (1, .istore_n 3, 3, 0, 0, []), (2, .aload_n 0, 0, 0, 0, []), (3, .aload_n 1, 1, 0, 0, []), (4, .invokevirtual 46, 0, 2, 5, []), (7, .iconst 1, 0, 0, 0, []), (8, .iadd, 0, 0, 0, []), (9, .istore 4, 4, 0, 0, []), (11, .iload 4, 4, 0, 0, []), (13, .aload_n 0, 0, 0, 0, []), (14, .getfield 18, 5, 5, 2, []), (17, .invokevirtual 34, 1, 1, 0, []), (20, .if_icmp .ge 32, 52, 0, 0, []), (23, .iload_n 2, 2, 0, 0, []), (24, .aload_n 0, 0, 0, 0, []), (25, .getfield 18, 5, 5, 2, []), (28, .iload 4, 4, 0, 0, []), (30, .invokevirtual 38, 2, 2, 0, []), (33, .checkcast 50, 1, 0, 0, []), (36, .invokevirtual 52, 3, 1, 1, []), (39, .iand, 0, 0, 0, []), (40, .ifCond .ne 6, 46, 0, 0, []), (43, .iinc 3 1, 3, 0, 0, []), (46, .iinc 4 1, 4, 0, 0, []), (49, .goto (-38), 11, 0, 0, []), (52, .iload_n 3, 3, 0, 0, []), (53, .ireturn, 0, 0, 0, [])]
def clX4_behindWithout : List (Instr × Nat × Nat × Nat) := [(.invokevirtual 46, 0, 2, 5), (.invokevirtual 34, 1, 1, 0), (.invokevirtual 38, 2, 2, 0), (.invokevirtual 52, 3, 1, 1)]
def thX4_behindWithout : List (Nat × Nat) := []
theorem ckX4_behindWithout : tbX4_behindWithout.all (xRow RX4 cX4_behindWithout wsX4_behindWithout vwCl [5] clX4_behindWithout thX4_behindWithout 5 (yX4_behindWithout.name == "<init>") (some .int)) = true := xRow_q 0xac1ddaffa701048401038406009a7e3400b63200c02600b604151200b42a1c2000a22200b61200b42a0415043660042e00b62b2a3e03 54 (by decide +kernel) (by decide +kernel)
theorem usX4_behindWithout : xUse wsX4_behindWithout vwCl [5] = true := xUse_g rfl (lw_good lwl_X4_behindWithout lwl_X40 (by decide +kernel)) xUse_n
theorem tbX4_behindWithout_0 {k : Instr → Nat → Nat → Nat → List Nat → Prop} : xse (xFind tbX4_behindWithout 0) k = k (.iconst 0) 0 0 0 [] := rfl
theorem tbX4_behindWithout_1 {k : Instr → Nat → Nat → Nat → List Nat → Prop} : xse (xFind tbX4_behindWithout 1) k = k (.istore_n 3) 3 0 0 [] := rfl
theorem tbX4_behindWithout_2 {k : Instr → Nat → Nat → Nat → List Nat → Prop} : xse (xFind tbX4_behindWithout 2) k = k (.aload_n 0) 0 0 0 [] := rfl
theorem tbX4_behindWithout_3 {k : Instr → Nat → Nat → Nat → List Nat → Prop} : xse (xFind tbX4_behindWithout 3) k = k (.aload_n 1) 1 0 0 [] := rfl
theorem tbX4_behindWithout_4 {k : Instr → Nat → Nat → Nat → List Nat → Prop} : xse (xFind tbX4_behindWithout 4) k = k (.invokevirtual 46) 0 2 5 [] := rfl
theorem tbX4_behindWithout_7 {k : Instr → Nat → Nat → Nat → List Nat → Prop} : xse (xFind tbX4_behindWithout 7) k = k (.iconst 1) 0 0 0 [] := rfl
theorem tbX4_behindWithout_8 {k : Instr → Nat → Nat → Nat → List Nat → Prop} : xse (xFind tbX4_behindWithout 8) k = k (.iadd) 0 0 0 [] := rfl
theorem tbX4_behindWithout_9 {k : Instr → Nat → Nat → Nat → List Nat → Prop} : xse (xFind tbX4_behindWithout 9) k = k (.istore 4) 4 0 0 [] := rfl
theorem tbX4_behindWithout_11 {k : Instr → Nat → Nat → Nat → List Nat → Prop} : xse (xFind tbX4_behindWithout 11) k = k (.iload 4) 4 0 0 [] := rfl
theorem tbX4_behindWithout_13 {k : Instr → Nat → Nat → Nat → List Nat → Prop} : xse (xFind tbX4_behindWithout 13) k = k (.aload_n 0) 0 0 0 [] := rfl
theorem tbX4_behindWithout_14 {k : Instr → Nat → Nat → Nat → List Nat → Prop} : xse (xFind tbX4_behindWithout 14) k = k (.getfield 18) 5 5 2 [] := rfl
theorem tbX4_behindWithout_17 {k : Instr → Nat → Nat → Nat → List Nat → Prop} : xse (xFind tbX4_behindWithout 17) k = k (.invokevirtual 34) 1 1 0 [] := rfl
theorem tbX4_behindWithout_20 {k : Instr → Nat → Nat → Nat → List Nat → Prop} : xse (xFind tbX4_behindWithout 20) k = k (.if_icmp .ge 32) 52 0 0 [] := rfl
theorem tbX4_behindWithout_23 {k : Instr → Nat → Nat → Nat → List Nat → Prop} : xse (xFind tbX4_behindWithout 23) k = k (.iload_n 2) 2 0 0 [] := rfl
theorem tbX4_behindWithout_24 {k : Instr → Nat → Nat → Nat → List Nat → Prop} : xse (xFind tbX4_behindWithout 24) k = k (.aload_n 0) 0 0 0 [] := rfl
theorem tbX4_behindWithout_25 {k : Instr → Nat → Nat → Nat → List Nat → Prop} : xse (xFind tbX4_behindWithout 25) k = k (.getfield 18) 5 5 2 [] := rfl
theorem tbX4_behindWithout_28 {k : Instr → Nat → Nat → Nat → List Nat → Prop} : xse (xFind tbX4_behindWithout 28) k = k (.iload 4) 4 0 0 [] := rfl
theorem tbX4_behindWithout_30 {k : Instr → Nat → Nat → Nat → List Nat → Prop} : xse (xFind tbX4_behindWithout 30) k = k (.invokevirtual 38) 2 2 0 [] := rfl
theorem tbX4_behindWithout_33 {k : Instr → Nat → Nat → Nat → List Nat → Prop} : xse (xFind tbX4_behindWithout 33) k = k (.checkcast 50) 1 0 0 [] := rfl
theorem tbX4_behindWithout_36 {k : Instr → Nat → Nat → Nat → List Nat → Prop} : xse (xFind tbX4_behindWithout 36) k = k (.invokevirtual 52) 3 1 1 [] := rfl
theorem tbX4_behindWithout_39 {k : Instr → Nat → Nat → Nat → List Nat → Prop} : xse (xFind tbX4_behindWithout 39) k = k (.iand) 0 0 0 [] := rfl
theorem tbX4_behindWithout_40 {k : Instr → Nat → Nat → Nat → List Nat → Prop} : xse (xFind tbX4_behindWithout 40) k = k (.ifCond .ne 6) 46 0 0 [] := rfl
theorem tbX4_behindWithout_43 {k : Instr → Nat → Nat → Nat → List Nat → Prop} : xse (xFind tbX4_behindWithout 43) k = k (.iinc 3 1) 3 0 0 [] := rfl
theorem tbX4_behindWithout_46 {k : Instr → Nat → Nat → Nat → List Nat → Prop} : xse (xFind tbX4_behindWithout 46) k = k (.iinc 4 1) 4 0 0 [] := rfl
theorem tbX4_behindWithout_49 {k : Instr → Nat → Nat → Nat → List Nat → Prop} : xse (xFind tbX4_behindWithout 49) k = k (.goto (-38)) 11 0 0 [] := rfl
theorem tbX4_behindWithout_52 {k : Instr → Nat → Nat → Nat → List Nat → Prop} : xse (xFind tbX4_behindWithout 52) k = k (.iload_n 3) 3 0 0 [] := rfl
theorem tbX4_behindWithout_53 {k : Instr → Nat → Nat → Nat → List Nat → Prop} : xse (xFind tbX4_behindWithout 53) k = k (.ireturn) 0 0 0 [] := rfl

def spX4_behindWithout (W9 : xWd) : xSp cS := (fun av S => (0, 0), fun av S K => ∃ (a : Nat) (b : Nat) (w : Int32), av = [.ref a, .ref b, .int w] ∧ (rOk S a ∧ rHas S a b ∧ K (rI (rBh S a b w)) S))
theorem spcX4_behindWithout {av : List Value} {S : cS} {W9 : xWd} : (spX4_behindWithout W9).1 av S = (0, 0) := rfl
theorem spwX4_behindWithout {S : cS} {W9 : xWd} {K : xRes → cS → Prop} {a : Nat} {b : Nat} {w : Int32} : (spX4_behindWithout W9).2 [.ref a, .ref b, .int w] S K = (rOk S a ∧ rHas S a b ∧ K (rI (rBh S a b w)) S) :=
  propext ⟨fun h => by
    simp only [spX4_behindWithout] at h
    obtain ⟨_, _, _, e, h⟩ := h
    simp only [List.cons.injEq, Value.int.injEq, Value.ref.injEq, rf_eq, and_true, true_and] at e
    obtain ⟨rfl, rfl, rfl⟩ := e
    exact h, fun h => ⟨_, _, _, rfl, h⟩⟩

def callX4_behindWithout (W9 : xWd) : Nat → Option (xSp cS) := fun n => match n with | 0 => some (spX4_placeOf W9) | 1 => some (spJx4a65c_size_8abf5 W9) | 2 => some (spJx4a65c_get_915e3 W9) | 3 => some (spX0_bit W9) | _ => none

theorem callX4_behindWithout_0 {W9 : xWd} {k : xSp cS → Prop} : xcs (callX4_behindWithout W9 0) k = k (spX4_placeOf W9) := rfl

theorem callX4_behindWithout_1 {W9 : xWd} {k : xSp cS → Prop} : xcs (callX4_behindWithout W9 1) k = k (spJx4a65c_size_8abf5 W9) := rfl

theorem callX4_behindWithout_2 {W9 : xWd} {k : xSp cS → Prop} : xcs (callX4_behindWithout W9 2) k = k (spJx4a65c_get_915e3 W9) := rfl

theorem callX4_behindWithout_3 {W9 : xWd} {k : xSp cS → Prop} : xcs (callX4_behindWithout W9 3) k = k (spX0_bit W9) := rfl

theorem crX4_behindWithout (l : Launch) (hl : l.stackTraces = false) (W9 : xWd) : xCallsOK l W9 (cI) (callX4_behindWithout W9) clX4_behindWithout RX4 wsX4_behindWithout 4 86 5 := by
  intro E A p e R s m args below meth c hI hF hL X
  exact List.forall_mem_cons.mpr ⟨⟨_, rfl, xCR_V X (by rw [hI]; exact (semX4_placeOf l hl W9)) gX4_behindWithout_X4_placeOf rfl rfl (by decide +kernel) (by rw [hF, hL]; decide)⟩,
    List.forall_mem_cons.mpr ⟨⟨_, rfl, xCR_V X (by rw [hI]; exact (semJx4a65c_size_8abf5 l hl W9)) gX4_behindWithout_Jx4a65c_size_8abf5 rfl rfl (by decide +kernel) (by rw [hF, hL]; decide)⟩,
    List.forall_mem_cons.mpr ⟨⟨_, rfl, xCR_V X (by rw [hI]; exact (semJx4a65c_get_915e3 l hl W9)) gX4_behindWithout_Jx4a65c_get_915e3 rfl rfl (by decide +kernel) (by rw [hF, hL]; decide)⟩,
    List.forall_mem_cons.mpr ⟨⟨_, rfl, xCR_V X (by rw [hI]; exact (semX0_bit l hl W9)) gX4_behindWithout_X0_bit rfl rfl (by decide +kernel) (by rw [hF, hL]; decide)⟩,
    fun _ h => nomatch h⟩⟩⟩⟩

set_option maxHeartbeats 4000000 in
set_option maxRecDepth 20000 in
theorem semX4_behindWithout (l : Launch) (hl : l.stackTraces = false) (W9 : xWd) : xSem l W9 (cI) yX4_behindWithout wsX4_behindWithout 4 86 (spX4_behindWithout W9) := by
  refine xSem_of (call := callX4_behindWithout W9) (thrf := fun _ => "") cI_law (by decide +kernel) rfl ckX4_behindWithout usX4_behindWithout (crX4_behindWithout l hl W9) xThrOK_nil ?_ ?_
  · intro av S KF h
    obtain ⟨a, b, w, rfl, h⟩ := h
    exact ⟨by intro v hv; simp only [List.mem_cons, List.not_mem_nil, or_false] at hv; rcases hv with rfl | rfl | rfl <;> first | rfl | exact cat_rf, Nat.le_of_ble_eq_true rfl⟩
  intro av S KF h G hG
  obtain ⟨a, b, w, rfl, h⟩ := h
  rw [show (spX4_behindWithout W9).1 _ S = _ from spcX4_behindWithout] at hG
  try dsimp only at hG
  change G 0 [some (.ref a), some (.ref b), some (.int w), none, none] [] S 0 0
  obtain ⟨hR, ⟨hp, hpn⟩, h⟩ := h

  obtain ⟨f1, f2, f3, f4, f5, f6⟩ := rOk_facts hR
  unfold rBh at h
  generalize rP S a b = p at *
  have loop := xloop hG 11 [true, true, true, true, true] (fun j lv st S2 cs ss => lv = [some (.ref a), some (.ref b), some (.int w), some (.int (rCt S a w (p + 1) j)), some (.int (nI (p + 1 + j)))] ∧ st = [] ∧ S = S2 ∧ cs = 0 ∧ ss = 0) (rN S a - (p + 1)) (by
      rintro j hj lv st S2 cs ss ⟨rfl, rfl, rfl, rfl, rfl⟩ fu hfu
      have hjn : p + 1 + j < rN S a := by omega
      obtain ⟨g1, g2⟩ := hR.2.2.2 _ hjn
      have e0 := ge_nI hjn (show rN S a < 1000 by omega)
      have e2 := lt0_nI hjn (show rN S a < 1000 by omega)
      have hs : rCt S a w (p + 1) (j + 1) = rCt S a w (p + 1) j + (if w &&& cBit S (rB S a (p + 1 + j)) = 0 then 1 else 0) := rfl
      have hb : cBit S (rB S a (p + 1 + j)) = 1 <<< (cFi S (rB S a (p + 1 + j)) 100 &&& 31) := rfl
      rw [hb] at hs
      by_cases c : w &&& 1 <<< (cFi S (rB S a (p + 1 + j)) 100 &&& 31) = 0
      · rw [if_pos c] at hs
        simp only [↓callX4_behindWithout_0, ↓callX4_behindWithout_1, ↓callX4_behindWithout_2, ↓callX4_behindWithout_3, ↓cg_5_5, cisa, ki_0, ki_1, ↓vm_aload_n, ↓vm_checkcast, ↓vm_getfield, ↓vm_goto, ↓vm_iadd, ↓vm_iand, ↓vm_iconst, ↓vm_ifCond_ne, ↓vm_if_icmp_ge, ↓vm_iinc, ↓vm_iload, ↓vm_iload_n, ↓vm_invokevirtual, ↓vm_ireturn, ↓vm_istore, ↓vm_istore_n, ↓xc_1, ↓xc_2, ↓tbX4_behindWithout_0, ↓tbX4_behindWithout_1, ↓tbX4_behindWithout_2, ↓tbX4_behindWithout_3, ↓tbX4_behindWithout_4, ↓tbX4_behindWithout_7, ↓tbX4_behindWithout_8, ↓tbX4_behindWithout_9, ↓tbX4_behindWithout_11, ↓tbX4_behindWithout_13, ↓tbX4_behindWithout_14, ↓tbX4_behindWithout_17, ↓tbX4_behindWithout_20, ↓tbX4_behindWithout_23, ↓tbX4_behindWithout_24, ↓tbX4_behindWithout_25, ↓tbX4_behindWithout_28, ↓tbX4_behindWithout_30, ↓tbX4_behindWithout_33, ↓tbX4_behindWithout_36, ↓tbX4_behindWithout_39, ↓tbX4_behindWithout_40, ↓tbX4_behindWithout_43, ↓tbX4_behindWithout_46, ↓tbX4_behindWithout_49, ↓tbX4_behindWithout_52, ↓tbX4_behindWithout_53, hfu, xstep0, xJ1_hit, xJ1_go, xJ2_hit1, xJ2_hit2, xJ2_go, ↓xif_t, ↓xif_f, seval, ↓xca_eq, ↓xre_l, ↓xre_r, xmask_t, xmask_f, xmask_nil, ↓xst_eq, xX_eq, eI_eq, eMc_eq, eMs_eq, eF_eq, eThr_eq, ↓xS1_mk, ↓xSI_mk, ↓xSR_mk, ↓xLI_0, ↓xLI_s, ↓xLR_0, ↓xLR_s, vRef_ref, vRef_null, vRef_rf, cat_int, cat_ref, cat_null, cat_rf, rf_some, rf_none, rf_null, rf_eq, rf_ref, ref_rf, ref_null, ref_ref, xOk_0, xOk_1, xOk_2r, xOk_2n, xOk_2f, vOpt_rf, vOpt_ref, vOpt_null, List.set_cons_zero, List.set_cons_succ, List.take_succ_cons, List.take_zero, List.drop_succ_cons, List.drop_zero, List.reverse_cons, List.reverse_nil, List.nil_append, List.cons_append, List.append_nil, List.length_cons, List.length_nil, List.map_cons, List.map_nil, List.sum_cons, List.sum_nil, Option.toList_some, Option.toList_none, xRecv_mk, true_and, and_true, true_implies, Nat.reduceAdd, Nat.reduceLeDiff, Nat.zero_le, Nat.le_refl, Nat.add_zero, Nat.zero_add, reduceIte, not_true_eq_false, not_false_eq_true, false_implies, and_self, implies_true, eq_self, Nat.reduceEqDiff, List.cons.injEq, xsn_1, xsn_2, false_and, and_false, or_false, false_or, or_true, true_or, xsn_3, xsn_4, ↓spwX4_placeOf, spcX4_placeOf, ↓spwJx4a65c_size_8abf5, spcJx4a65c_size_8abf5, ↓spwJx4a65c_get_915e3, spcJx4a65c_get_915e3, ↓spwX0_bit, spcX0_bit, f1, f2, f3, f4, f5, e0, pos_nI (show p + 1 + j < 1000 by omega), e2, ix_nI (show p + 1 + j < 1000 by omega), g1, g2, c, nI1, hs]
        try simp only [xif_e]
        repeat' (first | rfl | apply And.intro)
      · rw [if_neg c] at hs
        simp only [↓callX4_behindWithout_0, ↓callX4_behindWithout_1, ↓callX4_behindWithout_2, ↓callX4_behindWithout_3, ↓cg_5_5, cisa, ki_0, ki_1, ↓vm_aload_n, ↓vm_checkcast, ↓vm_getfield, ↓vm_goto, ↓vm_iadd, ↓vm_iand, ↓vm_iconst, ↓vm_ifCond_ne, ↓vm_if_icmp_ge, ↓vm_iinc, ↓vm_iload, ↓vm_iload_n, ↓vm_invokevirtual, ↓vm_ireturn, ↓vm_istore, ↓vm_istore_n, ↓xc_1, ↓xc_2, ↓tbX4_behindWithout_0, ↓tbX4_behindWithout_1, ↓tbX4_behindWithout_2, ↓tbX4_behindWithout_3, ↓tbX4_behindWithout_4, ↓tbX4_behindWithout_7, ↓tbX4_behindWithout_8, ↓tbX4_behindWithout_9, ↓tbX4_behindWithout_11, ↓tbX4_behindWithout_13, ↓tbX4_behindWithout_14, ↓tbX4_behindWithout_17, ↓tbX4_behindWithout_20, ↓tbX4_behindWithout_23, ↓tbX4_behindWithout_24, ↓tbX4_behindWithout_25, ↓tbX4_behindWithout_28, ↓tbX4_behindWithout_30, ↓tbX4_behindWithout_33, ↓tbX4_behindWithout_36, ↓tbX4_behindWithout_39, ↓tbX4_behindWithout_40, ↓tbX4_behindWithout_43, ↓tbX4_behindWithout_46, ↓tbX4_behindWithout_49, ↓tbX4_behindWithout_52, ↓tbX4_behindWithout_53, hfu, xstep0, xJ1_hit, xJ1_go, xJ2_hit1, xJ2_hit2, xJ2_go, ↓xif_t, ↓xif_f, seval, ↓xca_eq, ↓xre_l, ↓xre_r, xmask_t, xmask_f, xmask_nil, ↓xst_eq, xX_eq, eI_eq, eMc_eq, eMs_eq, eF_eq, eThr_eq, ↓xS1_mk, ↓xSI_mk, ↓xSR_mk, ↓xLI_0, ↓xLI_s, ↓xLR_0, ↓xLR_s, vRef_ref, vRef_null, vRef_rf, cat_int, cat_ref, cat_null, cat_rf, rf_some, rf_none, rf_null, rf_eq, rf_ref, ref_rf, ref_null, ref_ref, xOk_0, xOk_1, xOk_2r, xOk_2n, xOk_2f, vOpt_rf, vOpt_ref, vOpt_null, List.set_cons_zero, List.set_cons_succ, List.take_succ_cons, List.take_zero, List.drop_succ_cons, List.drop_zero, List.reverse_cons, List.reverse_nil, List.nil_append, List.cons_append, List.append_nil, List.length_cons, List.length_nil, List.map_cons, List.map_nil, List.sum_cons, List.sum_nil, Option.toList_some, Option.toList_none, xRecv_mk, true_and, and_true, true_implies, Nat.reduceAdd, Nat.reduceLeDiff, Nat.zero_le, Nat.le_refl, Nat.add_zero, Nat.zero_add, reduceIte, not_true_eq_false, not_false_eq_true, false_implies, and_self, implies_true, eq_self, Nat.reduceEqDiff, List.cons.injEq, xsn_1, xsn_2, false_and, and_false, or_false, false_or, or_true, true_or, xsn_3, xsn_4, ↓spwX4_placeOf, spcX4_placeOf, ↓spwJx4a65c_size_8abf5, spcJx4a65c_size_8abf5, ↓spwJx4a65c_get_915e3, spcJx4a65c_get_915e3, ↓spwX0_bit, spcX0_bit, f1, f2, f3, f4, f5, e0, pos_nI (show p + 1 + j < 1000 by omega), e2, ix_nI (show p + 1 + j < 1000 by omega), g1, g2, c, nI1, hs, Int32.add_zero]
        try simp only [xif_e]
        repeat' (first | rfl | apply And.intro)) (by
      rintro lv st S2 cs ss ⟨rfl, rfl, rfl, rfl, rfl⟩ fu hfu
      have e0 : (nI (rN S a) ≤ nI (p + 1 + (rN S a - (p + 1)))) = True := eq_true (nI_le (by omega) (by omega))
      simp only [↓callX4_behindWithout_0, ↓callX4_behindWithout_1, ↓callX4_behindWithout_2, ↓callX4_behindWithout_3, ↓cg_5_5, cisa, ki_0, ki_1, ↓vm_aload_n, ↓vm_checkcast, ↓vm_getfield, ↓vm_goto, ↓vm_iadd, ↓vm_iand, ↓vm_iconst, ↓vm_ifCond_ne, ↓vm_if_icmp_ge, ↓vm_iinc, ↓vm_iload, ↓vm_iload_n, ↓vm_invokevirtual, ↓vm_ireturn, ↓vm_istore, ↓vm_istore_n, ↓xc_1, ↓xc_2, ↓tbX4_behindWithout_0, ↓tbX4_behindWithout_1, ↓tbX4_behindWithout_2, ↓tbX4_behindWithout_3, ↓tbX4_behindWithout_4, ↓tbX4_behindWithout_7, ↓tbX4_behindWithout_8, ↓tbX4_behindWithout_9, ↓tbX4_behindWithout_11, ↓tbX4_behindWithout_13, ↓tbX4_behindWithout_14, ↓tbX4_behindWithout_17, ↓tbX4_behindWithout_20, ↓tbX4_behindWithout_23, ↓tbX4_behindWithout_24, ↓tbX4_behindWithout_25, ↓tbX4_behindWithout_28, ↓tbX4_behindWithout_30, ↓tbX4_behindWithout_33, ↓tbX4_behindWithout_36, ↓tbX4_behindWithout_39, ↓tbX4_behindWithout_40, ↓tbX4_behindWithout_43, ↓tbX4_behindWithout_46, ↓tbX4_behindWithout_49, ↓tbX4_behindWithout_52, ↓tbX4_behindWithout_53, hfu, xstep0, xJ1_hit, xJ1_go, xJ2_hit1, xJ2_hit2, xJ2_go, ↓xif_t, ↓xif_f, seval, ↓xca_eq, ↓xre_l, ↓xre_r, xmask_t, xmask_f, xmask_nil, ↓xst_eq, xX_eq, eI_eq, eMc_eq, eMs_eq, eF_eq, eThr_eq, ↓xS1_mk, ↓xSI_mk, ↓xSR_mk, ↓xLI_0, ↓xLI_s, ↓xLR_0, ↓xLR_s, vRef_ref, vRef_null, vRef_rf, cat_int, cat_ref, cat_null, cat_rf, rf_some, rf_none, rf_null, rf_eq, rf_ref, ref_rf, ref_null, ref_ref, xOk_0, xOk_1, xOk_2r, xOk_2n, xOk_2f, vOpt_rf, vOpt_ref, vOpt_null, List.set_cons_zero, List.set_cons_succ, List.take_succ_cons, List.take_zero, List.drop_succ_cons, List.drop_zero, List.reverse_cons, List.reverse_nil, List.nil_append, List.cons_append, List.append_nil, List.length_cons, List.length_nil, List.map_cons, List.map_nil, List.sum_cons, List.sum_nil, Option.toList_some, Option.toList_none, xRecv_mk, true_and, and_true, true_implies, Nat.reduceAdd, Nat.reduceLeDiff, Nat.zero_le, Nat.le_refl, Nat.add_zero, Nat.zero_add, reduceIte, not_true_eq_false, not_false_eq_true, false_implies, and_self, implies_true, eq_self, Nat.reduceEqDiff, List.cons.injEq, xsn_1, xsn_2, false_and, and_false, or_false, false_or, or_true, true_or, xsn_3, xsn_4, ↓spwX4_placeOf, spcX4_placeOf, ↓spwJx4a65c_size_8abf5, spcJx4a65c_size_8abf5, ↓spwJx4a65c_get_915e3, spcJx4a65c_get_915e3, ↓spwX0_bit, spcX0_bit, f1, f2, f3, f5, e0]
      try simp only [xif_e]
      exact h)
  refine xgo hG (mb := [true, true, true, true, true]) (loop 0 (Nat.zero_le _)) (pc := 0) (fun fu hfu => ?_)
  simp only [↓callX4_behindWithout_0, ↓callX4_behindWithout_1, ↓callX4_behindWithout_2, ↓callX4_behindWithout_3, ↓cg_5_5, cisa, ki_0, ki_1, ↓vm_aload_n, ↓vm_checkcast, ↓vm_getfield, ↓vm_goto, ↓vm_iadd, ↓vm_iand, ↓vm_iconst, ↓vm_ifCond_ne, ↓vm_if_icmp_ge, ↓vm_iinc, ↓vm_iload, ↓vm_iload_n, ↓vm_invokevirtual, ↓vm_ireturn, ↓vm_istore, ↓vm_istore_n, ↓xc_1, ↓xc_2, ↓tbX4_behindWithout_0, ↓tbX4_behindWithout_1, ↓tbX4_behindWithout_2, ↓tbX4_behindWithout_3, ↓tbX4_behindWithout_4, ↓tbX4_behindWithout_7, ↓tbX4_behindWithout_8, ↓tbX4_behindWithout_9, ↓tbX4_behindWithout_11, ↓tbX4_behindWithout_13, ↓tbX4_behindWithout_14, ↓tbX4_behindWithout_17, ↓tbX4_behindWithout_20, ↓tbX4_behindWithout_23, ↓tbX4_behindWithout_24, ↓tbX4_behindWithout_25, ↓tbX4_behindWithout_28, ↓tbX4_behindWithout_30, ↓tbX4_behindWithout_33, ↓tbX4_behindWithout_36, ↓tbX4_behindWithout_39, ↓tbX4_behindWithout_40, ↓tbX4_behindWithout_43, ↓tbX4_behindWithout_46, ↓tbX4_behindWithout_49, ↓tbX4_behindWithout_52, ↓tbX4_behindWithout_53, hfu, xstep0, xJ1_hit, xJ1_go, xJ2_hit1, xJ2_hit2, xJ2_go, ↓xif_t, ↓xif_f, seval, ↓xca_eq, ↓xre_l, ↓xre_r, xmask_t, xmask_f, xmask_nil, ↓xst_eq, xX_eq, eI_eq, eMc_eq, eMs_eq, eF_eq, eThr_eq, ↓xS1_mk, ↓xSI_mk, ↓xSR_mk, ↓xLI_0, ↓xLI_s, ↓xLR_0, ↓xLR_s, vRef_ref, vRef_null, vRef_rf, cat_int, cat_ref, cat_null, cat_rf, rf_some, rf_none, rf_null, rf_eq, rf_ref, ref_rf, ref_null, ref_ref, xOk_0, xOk_1, xOk_2r, xOk_2n, xOk_2f, vOpt_rf, vOpt_ref, vOpt_null, List.set_cons_zero, List.set_cons_succ, List.take_succ_cons, List.take_zero, List.drop_succ_cons, List.drop_zero, List.reverse_cons, List.reverse_nil, List.nil_append, List.cons_append, List.append_nil, List.length_cons, List.length_nil, List.map_cons, List.map_nil, List.sum_cons, List.sum_nil, Option.toList_some, Option.toList_none, xRecv_mk, true_and, and_true, true_implies, Nat.reduceAdd, Nat.reduceLeDiff, Nat.zero_le, Nat.le_refl, Nat.add_zero, Nat.zero_add, reduceIte, not_true_eq_false, not_false_eq_true, false_implies, and_self, implies_true, eq_self, Nat.reduceEqDiff, List.cons.injEq, xsn_1, xsn_2, false_and, and_false, or_false, false_or, or_true, true_or, xsn_3, xsn_4, ↓spwX4_placeOf, spcX4_placeOf, ↓spwJx4a65c_size_8abf5, spcJx4a65c_size_8abf5, ↓spwJx4a65c_get_915e3, spcJx4a65c_get_915e3, ↓spwX0_bit, spcX0_bit, hR, f1, hp, nI1]
  try simp only [xif_e]
  repeat' (first | rfl | apply And.intro)

def tbX4_behind : List (Nat × xHint) := [(0, .aload_n 0, 0, 0, 0, []), (1, .aload_n 1, 1, 0, 0, []), (2, .iconst 0, 0, 0, 0, []), (3, .invokevirtual 42, 0, 3, 5, []), (6, .ireturn, 0, 0, 0, [])]
def clX4_behind : List (Instr × Nat × Nat × Nat) := [(.invokevirtual 42, 0, 3, 5)]
def thX4_behind : List (Nat × Nat) := []
theorem ckX4_behind : tbX4_behind.all (xRow RX4 cX4_behind wsX4_behind vwCl [] clX4_behind thX4_behind 2 (yX4_behind.name == "<init>") (some .int)) = true := xRow_q 0xac2a00b6032b2a 7 (by decide +kernel) (by decide +kernel)
theorem usX4_behind : xUse wsX4_behind vwCl [] = true := xUse_n
theorem tbX4_behind_0 {k : Instr → Nat → Nat → Nat → List Nat → Prop} : xse (xFind tbX4_behind 0) k = k (.aload_n 0) 0 0 0 [] := rfl
theorem tbX4_behind_1 {k : Instr → Nat → Nat → Nat → List Nat → Prop} : xse (xFind tbX4_behind 1) k = k (.aload_n 1) 1 0 0 [] := rfl
theorem tbX4_behind_2 {k : Instr → Nat → Nat → Nat → List Nat → Prop} : xse (xFind tbX4_behind 2) k = k (.iconst 0) 0 0 0 [] := rfl
theorem tbX4_behind_3 {k : Instr → Nat → Nat → Nat → List Nat → Prop} : xse (xFind tbX4_behind 3) k = k (.invokevirtual 42) 0 3 5 [] := rfl
theorem tbX4_behind_6 {k : Instr → Nat → Nat → Nat → List Nat → Prop} : xse (xFind tbX4_behind 6) k = k (.ireturn) 0 0 0 [] := rfl

def spX4_behind (W9 : xWd) : xSp cS := (fun av S => (0, 0), fun av S K => ∃ (a : Nat) (b : Nat), av = [.ref a, .ref b] ∧ (rOk S a ∧ rHas S a b ∧ K (rI (rBh S a b 0)) S))
theorem spcX4_behind {av : List Value} {S : cS} {W9 : xWd} : (spX4_behind W9).1 av S = (0, 0) := rfl
theorem spwX4_behind {S : cS} {W9 : xWd} {K : xRes → cS → Prop} {a : Nat} {b : Nat} : (spX4_behind W9).2 [.ref a, .ref b] S K = (rOk S a ∧ rHas S a b ∧ K (rI (rBh S a b 0)) S) :=
  propext ⟨fun h => by
    simp only [spX4_behind] at h
    obtain ⟨_, _, e, h⟩ := h
    simp only [List.cons.injEq, Value.int.injEq, Value.ref.injEq, rf_eq, and_true, true_and] at e
    obtain ⟨rfl, rfl⟩ := e
    exact h, fun h => ⟨_, _, rfl, h⟩⟩

def callX4_behind (W9 : xWd) : Nat → Option (xSp cS) := fun n => match n with | 0 => some (spX4_behindWithout W9) | _ => none

theorem callX4_behind_0 {W9 : xWd} {k : xSp cS → Prop} : xcs (callX4_behind W9 0) k = k (spX4_behindWithout W9) := rfl

theorem crX4_behind (l : Launch) (hl : l.stackTraces = false) (W9 : xWd) : xCallsOK l W9 (cI) (callX4_behind W9) clX4_behind RX4 wsX4_behind 5 110 2 := by
  intro E A p e R s m args below meth c hI hF hL X
  exact List.forall_mem_cons.mpr ⟨⟨_, rfl, xCR_V X (by rw [hI]; exact (semX4_behindWithout l hl W9)) gX4_behind_X4_behindWithout rfl rfl (by decide +kernel) (by rw [hF, hL]; decide)⟩,
    fun _ h => nomatch h⟩

set_option maxHeartbeats 4000000 in
set_option maxRecDepth 20000 in
theorem semX4_behind (l : Launch) (hl : l.stackTraces = false) (W9 : xWd) : xSem l W9 (cI) yX4_behind wsX4_behind 5 110 (spX4_behind W9) := by
  refine xSem_of (call := callX4_behind W9) (thrf := fun _ => "") cI_law (by decide +kernel) rfl ckX4_behind usX4_behind (crX4_behind l hl W9) xThrOK_nil ?_ ?_
  · intro av S KF h
    obtain ⟨a, b, rfl, h⟩ := h
    exact ⟨by intro v hv; simp only [List.mem_cons, List.not_mem_nil, or_false] at hv; rcases hv with rfl | rfl <;> first | rfl | exact cat_rf, Nat.le_of_ble_eq_true rfl⟩
  intro av S KF h G hG
  obtain ⟨a, b, rfl, h⟩ := h
  rw [show (spX4_behind W9).1 _ S = _ from spcX4_behind] at hG
  try dsimp only at hG
  change G 0 [some (.ref a), some (.ref b)] [] S 0 0
  obtain ⟨hR, hp, h⟩ := h
  obtain ⟨f1, f2, f3, f4, f5, f6⟩ := rOk_facts hR
  refine xgo0 hG (fun fu hfu => ?_)
  clear hG
  simp only [↓callX4_behind_0, cisa, ki_0, ↓vm_aload_n, ↓vm_iconst, ↓vm_invokevirtual, ↓vm_ireturn, ↓xc_3, ↓tbX4_behind_0, ↓tbX4_behind_1, ↓tbX4_behind_2, ↓tbX4_behind_3, ↓tbX4_behind_6, hfu, xstep0, xJ1_hit, xJ1_go, xJ2_hit1, xJ2_hit2, xJ2_go, ↓xif_t, ↓xif_f, seval, ↓xca_eq, ↓xre_l, ↓xre_r, xmask_t, xmask_f, xmask_nil, ↓xst_eq, xX_eq, eI_eq, eMc_eq, eMs_eq, eF_eq, eThr_eq, ↓xS1_mk, ↓xSI_mk, ↓xSR_mk, ↓xLI_0, ↓xLI_s, ↓xLR_0, ↓xLR_s, vRef_ref, vRef_null, vRef_rf, cat_int, cat_ref, cat_null, cat_rf, rf_some, rf_none, rf_null, rf_eq, rf_ref, ref_rf, ref_null, ref_ref, xOk_0, xOk_1, xOk_2r, xOk_2n, xOk_2f, vOpt_rf, vOpt_ref, vOpt_null, List.set_cons_zero, List.set_cons_succ, List.take_succ_cons, List.take_zero, List.drop_succ_cons, List.drop_zero, List.reverse_cons, List.reverse_nil, List.nil_append, List.cons_append, List.append_nil, List.length_cons, List.length_nil, List.map_cons, List.map_nil, List.sum_cons, List.sum_nil, Option.toList_some, Option.toList_none, xRecv_mk, true_and, and_true, true_implies, Nat.reduceAdd, Nat.reduceLeDiff, Nat.zero_le, Nat.le_refl, Nat.add_zero, Nat.zero_add, reduceIte, not_true_eq_false, not_false_eq_true, false_implies, and_self, implies_true, eq_self, Nat.reduceEqDiff, List.cons.injEq, xsn_1, xsn_2, false_and, and_false, or_false, false_or, or_true, true_or, xsn_3, xsn_4, hR, hp, f1, ↓spwX4_behindWithout, spcX4_behindWithout]
  try simp only [xif_e]
  exact h

def rWt (S : cS) (a : Nat) : Nat → Int32
  | 0 => 0
  | k + 1 => rWt S a k + (1 + cFi S (rB S a k) 103)
def rDr (S : cS) (a : Nat) : Nat → Int32
  | 0 => 10
  | k + 1 => if rDr S a k < 5 + 2 * cFi S (rB S a k) 103 then 5 + 2 * cFi S (rB S a k) 103 else rDr S a k

def tbX4_weight : List (Nat × xHint) := [(0, .iconst 0, 0, 0, 0, []), (1, .istore_n 1, 1, 0, 0, []), (2, .iconst 0, 0, 0, 0, []), (3, .istore_n 2, 2, 0, 0, []), (4, .iload_n 2, 2, 0, 0, []), (5, .aload_n 0, 0, 0, 0, []), (6, .getfield 18, 5, 5, 2, []), (9, .invokevirtual 34, 0, 1, 0, []), (12, .if_icmp .ge 28, 40, 0, 0, []), (15, .iload_n 1, 1, 0, 0, []), (16, .iconst 1, 0, 0, 0, []), (17, .aload_n 0, 0, 0, 0, []), (18, .getfield 18, 5, 5, 2, []), (21, .iload_n 2, 2, 0, 0, []), (22, .invokevirtual 38, 1, 2, 0, []), (25, .checkcast 50, 1, 0, 0, []), (28, .getfield 66, 1, 3, 0, []), (31, .iadd, 0, 0, 0, []), (32, .iadd, 0, 0, 0, []), (33, .istore_n 1, 1, 0, 0, []), (34, .iinc 2 1, 2, 0, 0, []), (37, .goto (-33), 4, 0, 0, []), (40, .iload_n 1, 1, 0, 0, []), (41, .ireturn, 0, 0, 0, [])]
def clX4_weight : List (Instr × Nat × Nat × Nat) := [(.invokevirtual 34, 0, 1, 0), (.invokevirtual 38, 1, 2, 0)]
def thX4_weight : List (Nat × Nat) := []
theorem ckX4_weight : tbX4_weight.all (xRow RX4 cX4_weight wsX4_weight vwCl [1, 5] clX4_weight thX4_weight 3 (yX4_weight.name == "<init>") (some .int)) = true := xRow_q 0xac1bdfffa70102843c60604200b43200c02600b61c1200b42a041b1c00a22200b61200b42a1c3d033c03 42 (by decide +kernel) (by decide +kernel)
theorem usX4_weight : xUse wsX4_weight vwCl [1, 5] = true := xUse_g rfl (lw_good lwl_X4_weight lwl_X00 (by decide +kernel)) (xUse_g rfl (lw_good lwl_X4_weight lwl_X40 (by decide +kernel)) xUse_n)
theorem tbX4_weight_0 {k : Instr → Nat → Nat → Nat → List Nat → Prop} : xse (xFind tbX4_weight 0) k = k (.iconst 0) 0 0 0 [] := rfl
theorem tbX4_weight_1 {k : Instr → Nat → Nat → Nat → List Nat → Prop} : xse (xFind tbX4_weight 1) k = k (.istore_n 1) 1 0 0 [] := rfl
theorem tbX4_weight_2 {k : Instr → Nat → Nat → Nat → List Nat → Prop} : xse (xFind tbX4_weight 2) k = k (.iconst 0) 0 0 0 [] := rfl
theorem tbX4_weight_3 {k : Instr → Nat → Nat → Nat → List Nat → Prop} : xse (xFind tbX4_weight 3) k = k (.istore_n 2) 2 0 0 [] := rfl
theorem tbX4_weight_4 {k : Instr → Nat → Nat → Nat → List Nat → Prop} : xse (xFind tbX4_weight 4) k = k (.iload_n 2) 2 0 0 [] := rfl
theorem tbX4_weight_5 {k : Instr → Nat → Nat → Nat → List Nat → Prop} : xse (xFind tbX4_weight 5) k = k (.aload_n 0) 0 0 0 [] := rfl
theorem tbX4_weight_6 {k : Instr → Nat → Nat → Nat → List Nat → Prop} : xse (xFind tbX4_weight 6) k = k (.getfield 18) 5 5 2 [] := rfl
theorem tbX4_weight_9 {k : Instr → Nat → Nat → Nat → List Nat → Prop} : xse (xFind tbX4_weight 9) k = k (.invokevirtual 34) 0 1 0 [] := rfl
theorem tbX4_weight_12 {k : Instr → Nat → Nat → Nat → List Nat → Prop} : xse (xFind tbX4_weight 12) k = k (.if_icmp .ge 28) 40 0 0 [] := rfl
theorem tbX4_weight_15 {k : Instr → Nat → Nat → Nat → List Nat → Prop} : xse (xFind tbX4_weight 15) k = k (.iload_n 1) 1 0 0 [] := rfl
theorem tbX4_weight_16 {k : Instr → Nat → Nat → Nat → List Nat → Prop} : xse (xFind tbX4_weight 16) k = k (.iconst 1) 0 0 0 [] := rfl
theorem tbX4_weight_17 {k : Instr → Nat → Nat → Nat → List Nat → Prop} : xse (xFind tbX4_weight 17) k = k (.aload_n 0) 0 0 0 [] := rfl
theorem tbX4_weight_18 {k : Instr → Nat → Nat → Nat → List Nat → Prop} : xse (xFind tbX4_weight 18) k = k (.getfield 18) 5 5 2 [] := rfl
theorem tbX4_weight_21 {k : Instr → Nat → Nat → Nat → List Nat → Prop} : xse (xFind tbX4_weight 21) k = k (.iload_n 2) 2 0 0 [] := rfl
theorem tbX4_weight_22 {k : Instr → Nat → Nat → Nat → List Nat → Prop} : xse (xFind tbX4_weight 22) k = k (.invokevirtual 38) 1 2 0 [] := rfl
theorem tbX4_weight_25 {k : Instr → Nat → Nat → Nat → List Nat → Prop} : xse (xFind tbX4_weight 25) k = k (.checkcast 50) 1 0 0 [] := rfl
theorem tbX4_weight_28 {k : Instr → Nat → Nat → Nat → List Nat → Prop} : xse (xFind tbX4_weight 28) k = k (.getfield 66) 1 3 0 [] := rfl
theorem tbX4_weight_31 {k : Instr → Nat → Nat → Nat → List Nat → Prop} : xse (xFind tbX4_weight 31) k = k (.iadd) 0 0 0 [] := rfl
theorem tbX4_weight_32 {k : Instr → Nat → Nat → Nat → List Nat → Prop} : xse (xFind tbX4_weight 32) k = k (.iadd) 0 0 0 [] := rfl
theorem tbX4_weight_33 {k : Instr → Nat → Nat → Nat → List Nat → Prop} : xse (xFind tbX4_weight 33) k = k (.istore_n 1) 1 0 0 [] := rfl
theorem tbX4_weight_34 {k : Instr → Nat → Nat → Nat → List Nat → Prop} : xse (xFind tbX4_weight 34) k = k (.iinc 2 1) 2 0 0 [] := rfl
theorem tbX4_weight_37 {k : Instr → Nat → Nat → Nat → List Nat → Prop} : xse (xFind tbX4_weight 37) k = k (.goto (-33)) 4 0 0 [] := rfl
theorem tbX4_weight_40 {k : Instr → Nat → Nat → Nat → List Nat → Prop} : xse (xFind tbX4_weight 40) k = k (.iload_n 1) 1 0 0 [] := rfl
theorem tbX4_weight_41 {k : Instr → Nat → Nat → Nat → List Nat → Prop} : xse (xFind tbX4_weight 41) k = k (.ireturn) 0 0 0 [] := rfl

def spX4_weight (W9 : xWd) : xSp cS := (fun av S => (0, 0), fun av S K => ∃ (a : Nat), av = [.ref a] ∧ (rOk S a ∧ K (rI (rWt S a (rN S a))) S))
theorem spcX4_weight {av : List Value} {S : cS} {W9 : xWd} : (spX4_weight W9).1 av S = (0, 0) := rfl
theorem spwX4_weight {S : cS} {W9 : xWd} {K : xRes → cS → Prop} {a : Nat} : (spX4_weight W9).2 [.ref a] S K = (rOk S a ∧ K (rI (rWt S a (rN S a))) S) :=
  propext ⟨fun h => by
    simp only [spX4_weight] at h
    obtain ⟨_, e, h⟩ := h
    simp only [List.cons.injEq, Value.int.injEq, Value.ref.injEq, rf_eq, and_true, true_and] at e
    obtain rfl := e
    exact h, fun h => ⟨_, rfl, h⟩⟩

def callX4_weight (W9 : xWd) : Nat → Option (xSp cS) := fun n => match n with | 0 => some (spJx4a65c_size_8abf5 W9) | 1 => some (spJx4a65c_get_915e3 W9) | _ => none

theorem callX4_weight_0 {W9 : xWd} {k : xSp cS → Prop} : xcs (callX4_weight W9 0) k = k (spJx4a65c_size_8abf5 W9) := rfl

theorem callX4_weight_1 {W9 : xWd} {k : xSp cS → Prop} : xcs (callX4_weight W9 1) k = k (spJx4a65c_get_915e3 W9) := rfl

theorem crX4_weight (l : Launch) (hl : l.stackTraces = false) (W9 : xWd) : xCallsOK l W9 (cI) (callX4_weight W9) clX4_weight RX4 wsX4_weight 3 64 3 := by
  intro E A p e R s m args below meth c hI hF hL X
  exact List.forall_mem_cons.mpr ⟨⟨_, rfl, xCR_V X (by rw [hI]; exact (semJx4a65c_size_8abf5 l hl W9)) gX4_weight_Jx4a65c_size_8abf5 rfl rfl (by decide +kernel) (by rw [hF, hL]; decide)⟩,
    List.forall_mem_cons.mpr ⟨⟨_, rfl, xCR_V X (by rw [hI]; exact (semJx4a65c_get_915e3 l hl W9)) gX4_weight_Jx4a65c_get_915e3 rfl rfl (by decide +kernel) (by rw [hF, hL]; decide)⟩,
    fun _ h => nomatch h⟩⟩

set_option maxHeartbeats 4000000 in
set_option maxRecDepth 20000 in
theorem semX4_weight (l : Launch) (hl : l.stackTraces = false) (W9 : xWd) : xSem l W9 (cI) yX4_weight wsX4_weight 3 64 (spX4_weight W9) := by
  refine xSem_of (call := callX4_weight W9) (thrf := fun _ => "") cI_law (by decide +kernel) rfl ckX4_weight usX4_weight (crX4_weight l hl W9) xThrOK_nil ?_ ?_
  · intro av S KF h
    obtain ⟨a, rfl, h⟩ := h
    exact ⟨by intro v hv; simp only [List.mem_cons, List.not_mem_nil, or_false] at hv; rcases hv with rfl <;> first | rfl | exact cat_rf, Nat.le_of_ble_eq_true rfl⟩
  intro av S KF h G hG
  obtain ⟨a, rfl, h⟩ := h
  rw [show (spX4_weight W9).1 _ S = _ from spcX4_weight] at hG
  try dsimp only at hG
  change G 0 [some (.ref a), none, none] [] S 0 0
  obtain ⟨hR, h⟩ := h

  obtain ⟨f1, f2, f3, f4, f5, f6⟩ := rOk_facts hR
  have loop := xloop hG 4 [true, true, true] (fun j lv st S2 cs ss => lv = [some (.ref a), some (.int (rWt S a j)), some (.int (nI j))] ∧ st = [] ∧ S = S2 ∧ cs = 0 ∧ ss = 0) (rN S a) (by
      rintro j hj lv st S2 cs ss ⟨rfl, rfl, rfl, rfl, rfl⟩ fu hfu
      obtain ⟨g1, g2⟩ := hR.2.2.2 _ hj
      have e0 := ge_nI hj (show rN S a < 1000 by omega)
      have e2 := lt0_nI hj (show rN S a < 1000 by omega)
      simp only [↓callX4_weight_0, ↓callX4_weight_1, ↓cg_1_3, ↓cg_5_5, cisa, ki_0, ki_1, ↓vm_aload_n, ↓vm_checkcast, ↓vm_getfield, ↓vm_goto, ↓vm_iadd, ↓vm_iconst, ↓vm_if_icmp_ge, ↓vm_iinc, ↓vm_iload_n, ↓vm_invokevirtual, ↓vm_ireturn, ↓vm_istore_n, ↓xc_1, ↓xc_2, ↓tbX4_weight_0, ↓tbX4_weight_1, ↓tbX4_weight_2, ↓tbX4_weight_3, ↓tbX4_weight_4, ↓tbX4_weight_5, ↓tbX4_weight_6, ↓tbX4_weight_9, ↓tbX4_weight_12, ↓tbX4_weight_15, ↓tbX4_weight_16, ↓tbX4_weight_17, ↓tbX4_weight_18, ↓tbX4_weight_21, ↓tbX4_weight_22, ↓tbX4_weight_25, ↓tbX4_weight_28, ↓tbX4_weight_31, ↓tbX4_weight_32, ↓tbX4_weight_33, ↓tbX4_weight_34, ↓tbX4_weight_37, ↓tbX4_weight_40, ↓tbX4_weight_41, hfu, xstep0, xJ1_hit, xJ1_go, xJ2_hit1, xJ2_hit2, xJ2_go, ↓xif_t, ↓xif_f, seval, ↓xca_eq, ↓xre_l, ↓xre_r, xmask_t, xmask_f, xmask_nil, ↓xst_eq, xX_eq, eI_eq, eMc_eq, eMs_eq, eF_eq, eThr_eq, ↓xS1_mk, ↓xSI_mk, ↓xSR_mk, ↓xLI_0, ↓xLI_s, ↓xLR_0, ↓xLR_s, vRef_ref, vRef_null, vRef_rf, cat_int, cat_ref, cat_null, cat_rf, rf_some, rf_none, rf_null, rf_eq, rf_ref, ref_rf, ref_null, ref_ref, xOk_0, xOk_1, xOk_2r, xOk_2n, xOk_2f, vOpt_rf, vOpt_ref, vOpt_null, List.set_cons_zero, List.set_cons_succ, List.take_succ_cons, List.take_zero, List.drop_succ_cons, List.drop_zero, List.reverse_cons, List.reverse_nil, List.nil_append, List.cons_append, List.append_nil, List.length_cons, List.length_nil, List.map_cons, List.map_nil, List.sum_cons, List.sum_nil, Option.toList_some, Option.toList_none, xRecv_mk, true_and, and_true, true_implies, Nat.reduceAdd, Nat.reduceLeDiff, Nat.zero_le, Nat.le_refl, Nat.add_zero, Nat.zero_add, reduceIte, not_true_eq_false, not_false_eq_true, false_implies, and_self, implies_true, eq_self, Nat.reduceEqDiff, List.cons.injEq, xsn_1, xsn_2, false_and, and_false, or_false, false_or, or_true, true_or, xsn_3, xsn_4, ↓spwJx4a65c_size_8abf5, spcJx4a65c_size_8abf5, ↓spwJx4a65c_get_915e3, spcJx4a65c_get_915e3, f1, f2, f3, f4, f5, e0, pos_nI (show j < 1000 by omega), e2, ix_nI (show j < 1000 by omega), g1, g2, nI1]
      try simp only [xif_e]
      repeat' (first | rfl | apply And.intro)) (by
      rintro lv st S2 cs ss ⟨rfl, rfl, rfl, rfl, rfl⟩ fu hfu
      simp only [↓callX4_weight_0, ↓callX4_weight_1, ↓cg_1_3, ↓cg_5_5, cisa, ki_0, ki_1, ↓vm_aload_n, ↓vm_checkcast, ↓vm_getfield, ↓vm_goto, ↓vm_iadd, ↓vm_iconst, ↓vm_if_icmp_ge, ↓vm_iinc, ↓vm_iload_n, ↓vm_invokevirtual, ↓vm_ireturn, ↓vm_istore_n, ↓xc_1, ↓xc_2, ↓tbX4_weight_0, ↓tbX4_weight_1, ↓tbX4_weight_2, ↓tbX4_weight_3, ↓tbX4_weight_4, ↓tbX4_weight_5, ↓tbX4_weight_6, ↓tbX4_weight_9, ↓tbX4_weight_12, ↓tbX4_weight_15, ↓tbX4_weight_16, ↓tbX4_weight_17, ↓tbX4_weight_18, ↓tbX4_weight_21, ↓tbX4_weight_22, ↓tbX4_weight_25, ↓tbX4_weight_28, ↓tbX4_weight_31, ↓tbX4_weight_32, ↓tbX4_weight_33, ↓tbX4_weight_34, ↓tbX4_weight_37, ↓tbX4_weight_40, ↓tbX4_weight_41, hfu, xstep0, xJ1_hit, xJ1_go, xJ2_hit1, xJ2_hit2, xJ2_go, ↓xif_t, ↓xif_f, seval, ↓xca_eq, ↓xre_l, ↓xre_r, xmask_t, xmask_f, xmask_nil, ↓xst_eq, xX_eq, eI_eq, eMc_eq, eMs_eq, eF_eq, eThr_eq, ↓xS1_mk, ↓xSI_mk, ↓xSR_mk, ↓xLI_0, ↓xLI_s, ↓xLR_0, ↓xLR_s, vRef_ref, vRef_null, vRef_rf, cat_int, cat_ref, cat_null, cat_rf, rf_some, rf_none, rf_null, rf_eq, rf_ref, ref_rf, ref_null, ref_ref, xOk_0, xOk_1, xOk_2r, xOk_2n, xOk_2f, vOpt_rf, vOpt_ref, vOpt_null, List.set_cons_zero, List.set_cons_succ, List.take_succ_cons, List.take_zero, List.drop_succ_cons, List.drop_zero, List.reverse_cons, List.reverse_nil, List.nil_append, List.cons_append, List.append_nil, List.length_cons, List.length_nil, List.map_cons, List.map_nil, List.sum_cons, List.sum_nil, Option.toList_some, Option.toList_none, xRecv_mk, true_and, and_true, true_implies, Nat.reduceAdd, Nat.reduceLeDiff, Nat.zero_le, Nat.le_refl, Nat.add_zero, Nat.zero_add, reduceIte, not_true_eq_false, not_false_eq_true, false_implies, and_self, implies_true, eq_self, Nat.reduceEqDiff, List.cons.injEq, xsn_1, xsn_2, false_and, and_false, or_false, false_or, or_true, true_or, xsn_3, xsn_4, ↓spwJx4a65c_size_8abf5, spcJx4a65c_size_8abf5, ↓spwJx4a65c_get_915e3, spcJx4a65c_get_915e3, f1, f2, f3, f5, le_nI_self]
      try simp only [xif_e]
      exact h)
  refine xgo hG (mb := [true, true, true]) (loop 0 (Nat.zero_le _)) (pc := 0) (fun fu hfu => ?_)
  simp only [↓callX4_weight_0, ↓callX4_weight_1, ↓cg_1_3, ↓cg_5_5, cisa, ki_0, ki_1, ↓vm_aload_n, ↓vm_checkcast, ↓vm_getfield, ↓vm_goto, ↓vm_iadd, ↓vm_iconst, ↓vm_if_icmp_ge, ↓vm_iinc, ↓vm_iload_n, ↓vm_invokevirtual, ↓vm_ireturn, ↓vm_istore_n, ↓xc_1, ↓xc_2, ↓tbX4_weight_0, ↓tbX4_weight_1, ↓tbX4_weight_2, ↓tbX4_weight_3, ↓tbX4_weight_4, ↓tbX4_weight_5, ↓tbX4_weight_6, ↓tbX4_weight_9, ↓tbX4_weight_12, ↓tbX4_weight_15, ↓tbX4_weight_16, ↓tbX4_weight_17, ↓tbX4_weight_18, ↓tbX4_weight_21, ↓tbX4_weight_22, ↓tbX4_weight_25, ↓tbX4_weight_28, ↓tbX4_weight_31, ↓tbX4_weight_32, ↓tbX4_weight_33, ↓tbX4_weight_34, ↓tbX4_weight_37, ↓tbX4_weight_40, ↓tbX4_weight_41, hfu, xstep0, xJ1_hit, xJ1_go, xJ2_hit1, xJ2_hit2, xJ2_go, ↓xif_t, ↓xif_f, seval, ↓xca_eq, ↓xre_l, ↓xre_r, xmask_t, xmask_f, xmask_nil, ↓xst_eq, xX_eq, eI_eq, eMc_eq, eMs_eq, eF_eq, eThr_eq, ↓xS1_mk, ↓xSI_mk, ↓xSR_mk, ↓xLI_0, ↓xLI_s, ↓xLR_0, ↓xLR_s, vRef_ref, vRef_null, vRef_rf, cat_int, cat_ref, cat_null, cat_rf, rf_some, rf_none, rf_null, rf_eq, rf_ref, ref_rf, ref_null, ref_ref, xOk_0, xOk_1, xOk_2r, xOk_2n, xOk_2f, vOpt_rf, vOpt_ref, vOpt_null, List.set_cons_zero, List.set_cons_succ, List.take_succ_cons, List.take_zero, List.drop_succ_cons, List.drop_zero, List.reverse_cons, List.reverse_nil, List.nil_append, List.cons_append, List.append_nil, List.length_cons, List.length_nil, List.map_cons, List.map_nil, List.sum_cons, List.sum_nil, Option.toList_some, Option.toList_none, xRecv_mk, true_and, and_true, true_implies, Nat.reduceAdd, Nat.reduceLeDiff, Nat.zero_le, Nat.le_refl, Nat.add_zero, Nat.zero_add, reduceIte, not_true_eq_false, not_false_eq_true, false_implies, and_self, implies_true, eq_self, Nat.reduceEqDiff, List.cons.injEq, xsn_1, xsn_2, false_and, and_false, or_false, false_or, or_true, true_or, xsn_3, xsn_4, ↓spwJx4a65c_size_8abf5, spcJx4a65c_size_8abf5, ↓spwJx4a65c_get_915e3, spcJx4a65c_get_915e3]
  try simp only [xif_e]
  repeat' (first | rfl | apply And.intro)

def tbX4_draught : List (Nat × xHint) := [(0, .bipush 10, 0, 0, 0, []), (2, .istore_n 1, 1, 0, 0, []), (3, .iconst 0, 0, 0, 0, []), (4, .istore_n 2, 2, 0, 0, []), (5, .iload_n 2, 2, 0, 0, []), (6, .aload_n 0, 0, 0, 0, []), (7, .getfield 18, 5, 5, 2, []), (10, .invokevirtual 34, 0, 1, 0, []), (13, .if_icmp .ge 32, 45, 0, 0, []), (16, .iload_n 1, 1, 0, 0, []), (17, .iconst 5, 0, 0, 0, []), (18, .iconst 2, 0, 0, 0, []), (19, .aload_n 0, 0, 0, 0, []), (20, .getfield 18, 5, 5, 2, []), (23, .iload_n 2, 2, 0, 0, []), (24, .invokevirtual 38, 1, 2, 0, []), (27, .checkcast 50, 1, 0, 0, []), (30, .getfield 66, 1, 3, 0, []), (33, .imul, 0, 0, 0, []), (34, .iadd, 0, 0, 0, []), (35, .invokestatic 69, 2, 2, 0, []), (38, .istore_n 1, 1, 0, 0, []), (39, .iinc 2 1, 2, 0, 0, []), (42, .goto (-37), 5, 0, 0, []), (45, .iload_n 1, 1, 0, 0, []), (46, .ireturn, 0, 0, 0, [])]
def clX4_draught : List (Instr × Nat × Nat × Nat) := [(.invokevirtual 34, 0, 1, 0), (.invokevirtual 38, 1, 2, 0), (.invokestatic 69, 2, 2, 0)]
def thX4_draught : List (Nat × Nat) := []
theorem ckX4_draught : tbX4_draught.all (xRow RX4 cX4_draught wsX4_draught vwCl [1, 5] clX4_draught thX4_draught 3 (yX4_draught.name == "<init>") (some .int)) = true := xRow_q 0xac1bdbffa70102843c4500b860684200b43200c02600b61c1200b42a05081b2000a22200b61200b42a1c3d033c0a10 47 (by decide +kernel) (by decide +kernel)
theorem usX4_draught : xUse wsX4_draught vwCl [1, 5] = true := xUse_g rfl (lw_good lwl_X4_draught lwl_X00 (by decide +kernel)) (xUse_g rfl (lw_good lwl_X4_draught lwl_X40 (by decide +kernel)) xUse_n)
theorem tbX4_draught_0 {k : Instr → Nat → Nat → Nat → List Nat → Prop} : xse (xFind tbX4_draught 0) k = k (.bipush 10) 0 0 0 [] := rfl
theorem tbX4_draught_2 {k : Instr → Nat → Nat → Nat → List Nat → Prop} : xse (xFind tbX4_draught 2) k = k (.istore_n 1) 1 0 0 [] := rfl
theorem tbX4_draught_3 {k : Instr → Nat → Nat → Nat → List Nat → Prop} : xse (xFind tbX4_draught 3) k = k (.iconst 0) 0 0 0 [] := rfl
theorem tbX4_draught_4 {k : Instr → Nat → Nat → Nat → List Nat → Prop} : xse (xFind tbX4_draught 4) k = k (.istore_n 2) 2 0 0 [] := rfl
theorem tbX4_draught_5 {k : Instr → Nat → Nat → Nat → List Nat → Prop} : xse (xFind tbX4_draught 5) k = k (.iload_n 2) 2 0 0 [] := rfl
theorem tbX4_draught_6 {k : Instr → Nat → Nat → Nat → List Nat → Prop} : xse (xFind tbX4_draught 6) k = k (.aload_n 0) 0 0 0 [] := rfl
theorem tbX4_draught_7 {k : Instr → Nat → Nat → Nat → List Nat → Prop} : xse (xFind tbX4_draught 7) k = k (.getfield 18) 5 5 2 [] := rfl
theorem tbX4_draught_10 {k : Instr → Nat → Nat → Nat → List Nat → Prop} : xse (xFind tbX4_draught 10) k = k (.invokevirtual 34) 0 1 0 [] := rfl
theorem tbX4_draught_13 {k : Instr → Nat → Nat → Nat → List Nat → Prop} : xse (xFind tbX4_draught 13) k = k (.if_icmp .ge 32) 45 0 0 [] := rfl
theorem tbX4_draught_16 {k : Instr → Nat → Nat → Nat → List Nat → Prop} : xse (xFind tbX4_draught 16) k = k (.iload_n 1) 1 0 0 [] := rfl
theorem tbX4_draught_17 {k : Instr → Nat → Nat → Nat → List Nat → Prop} : xse (xFind tbX4_draught 17) k = k (.iconst 5) 0 0 0 [] := rfl
theorem tbX4_draught_18 {k : Instr → Nat → Nat → Nat → List Nat → Prop} : xse (xFind tbX4_draught 18) k = k (.iconst 2) 0 0 0 [] := rfl
theorem tbX4_draught_19 {k : Instr → Nat → Nat → Nat → List Nat → Prop} : xse (xFind tbX4_draught 19) k = k (.aload_n 0) 0 0 0 [] := rfl
theorem tbX4_draught_20 {k : Instr → Nat → Nat → Nat → List Nat → Prop} : xse (xFind tbX4_draught 20) k = k (.getfield 18) 5 5 2 [] := rfl
theorem tbX4_draught_23 {k : Instr → Nat → Nat → Nat → List Nat → Prop} : xse (xFind tbX4_draught 23) k = k (.iload_n 2) 2 0 0 [] := rfl
theorem tbX4_draught_24 {k : Instr → Nat → Nat → Nat → List Nat → Prop} : xse (xFind tbX4_draught 24) k = k (.invokevirtual 38) 1 2 0 [] := rfl
theorem tbX4_draught_27 {k : Instr → Nat → Nat → Nat → List Nat → Prop} : xse (xFind tbX4_draught 27) k = k (.checkcast 50) 1 0 0 [] := rfl
theorem tbX4_draught_30 {k : Instr → Nat → Nat → Nat → List Nat → Prop} : xse (xFind tbX4_draught 30) k = k (.getfield 66) 1 3 0 [] := rfl
theorem tbX4_draught_33 {k : Instr → Nat → Nat → Nat → List Nat → Prop} : xse (xFind tbX4_draught 33) k = k (.imul) 0 0 0 [] := rfl
theorem tbX4_draught_34 {k : Instr → Nat → Nat → Nat → List Nat → Prop} : xse (xFind tbX4_draught 34) k = k (.iadd) 0 0 0 [] := rfl
theorem tbX4_draught_35 {k : Instr → Nat → Nat → Nat → List Nat → Prop} : xse (xFind tbX4_draught 35) k = k (.invokestatic 69) 2 2 0 [] := rfl
theorem tbX4_draught_38 {k : Instr → Nat → Nat → Nat → List Nat → Prop} : xse (xFind tbX4_draught 38) k = k (.istore_n 1) 1 0 0 [] := rfl
theorem tbX4_draught_39 {k : Instr → Nat → Nat → Nat → List Nat → Prop} : xse (xFind tbX4_draught 39) k = k (.iinc 2 1) 2 0 0 [] := rfl
theorem tbX4_draught_42 {k : Instr → Nat → Nat → Nat → List Nat → Prop} : xse (xFind tbX4_draught 42) k = k (.goto (-37)) 5 0 0 [] := rfl
theorem tbX4_draught_45 {k : Instr → Nat → Nat → Nat → List Nat → Prop} : xse (xFind tbX4_draught 45) k = k (.iload_n 1) 1 0 0 [] := rfl
theorem tbX4_draught_46 {k : Instr → Nat → Nat → Nat → List Nat → Prop} : xse (xFind tbX4_draught 46) k = k (.ireturn) 0 0 0 [] := rfl

def spX4_draught (W9 : xWd) : xSp cS := (fun av S => (0, 0), fun av S K => ∃ (a : Nat), av = [.ref a] ∧ (rOk S a ∧ K (rI (rDr S a (rN S a))) S))
theorem spcX4_draught {av : List Value} {S : cS} {W9 : xWd} : (spX4_draught W9).1 av S = (0, 0) := rfl
theorem spwX4_draught {S : cS} {W9 : xWd} {K : xRes → cS → Prop} {a : Nat} : (spX4_draught W9).2 [.ref a] S K = (rOk S a ∧ K (rI (rDr S a (rN S a))) S) :=
  propext ⟨fun h => by
    simp only [spX4_draught] at h
    obtain ⟨_, e, h⟩ := h
    simp only [List.cons.injEq, Value.int.injEq, Value.ref.injEq, rf_eq, and_true, true_and] at e
    obtain rfl := e
    exact h, fun h => ⟨_, rfl, h⟩⟩

def callX4_draught (W9 : xWd) : Nat → Option (xSp cS) := fun n => match n with | 0 => some (spJx4a65c_size_8abf5 W9) | 1 => some (spJx4a65c_get_915e3 W9) | 2 => some (sp_max cS) | _ => none

theorem callX4_draught_0 {W9 : xWd} {k : xSp cS → Prop} : xcs (callX4_draught W9 0) k = k (spJx4a65c_size_8abf5 W9) := rfl

theorem callX4_draught_1 {W9 : xWd} {k : xSp cS → Prop} : xcs (callX4_draught W9 1) k = k (spJx4a65c_get_915e3 W9) := rfl

theorem callX4_draught_2 {W9 : xWd} {k : xSp cS → Prop} : xcs (callX4_draught W9 2) k = k (sp_max cS) := rfl

theorem crX4_draught (l : Launch) (hl : l.stackTraces = false) (W9 : xWd) : xCallsOK l W9 (cI) (callX4_draught W9) clX4_draught RX4 wsX4_draught 3 64 3 := by
  intro E A p e R s m args below meth c hI hF hL X
  exact List.forall_mem_cons.mpr ⟨⟨_, rfl, xCR_V X (by rw [hI]; exact (semJx4a65c_size_8abf5 l hl W9)) gX4_draught_Jx4a65c_size_8abf5 rfl rfl (by decide +kernel) (by rw [hF, hL]; decide)⟩,
    List.forall_mem_cons.mpr ⟨⟨_, rfl, xCR_V X (by rw [hI]; exact (semJx4a65c_get_915e3 l hl W9)) gX4_draught_Jx4a65c_get_915e3 rfl rfl (by decide +kernel) (by rw [hF, hL]; decide)⟩,
    List.forall_mem_cons.mpr ⟨⟨_, rfl, xCR_max X (by decide +kernel) (by decide +kernel) (by decide +kernel) (by decide +kernel) (by rw [hF, hL]; decide)⟩,
    fun _ h => nomatch h⟩⟩⟩

set_option maxHeartbeats 4000000 in
set_option maxRecDepth 20000 in
theorem semX4_draught (l : Launch) (hl : l.stackTraces = false) (W9 : xWd) : xSem l W9 (cI) yX4_draught wsX4_draught 3 64 (spX4_draught W9) := by
  refine xSem_of (call := callX4_draught W9) (thrf := fun _ => "") cI_law (by decide +kernel) rfl ckX4_draught usX4_draught (crX4_draught l hl W9) xThrOK_nil ?_ ?_
  · intro av S KF h
    obtain ⟨a, rfl, h⟩ := h
    exact ⟨by intro v hv; simp only [List.mem_cons, List.not_mem_nil, or_false] at hv; rcases hv with rfl <;> first | rfl | exact cat_rf, Nat.le_of_ble_eq_true rfl⟩
  intro av S KF h G hG
  obtain ⟨a, rfl, h⟩ := h
  rw [show (spX4_draught W9).1 _ S = _ from spcX4_draught] at hG
  try dsimp only at hG
  change G 0 [some (.ref a), none, none] [] S 0 0
  obtain ⟨hR, h⟩ := h

  obtain ⟨f1, f2, f3, f4, f5, f6⟩ := rOk_facts hR
  have loop := xloop hG 5 [true, true, true] (fun j lv st S2 cs ss => lv = [some (.ref a), some (.int (rDr S a j)), some (.int (nI j))] ∧ st = [] ∧ S = S2 ∧ cs = 0 ∧ ss = 0) (rN S a) (by
      rintro j hj lv st S2 cs ss ⟨rfl, rfl, rfl, rfl, rfl⟩ fu hfu
      obtain ⟨g1, g2⟩ := hR.2.2.2 _ hj
      have e0 := ge_nI hj (show rN S a < 1000 by omega)
      have e2 := lt0_nI hj (show rN S a < 1000 by omega)
      simp only [↓callX4_draught_0, ↓callX4_draught_1, ↓callX4_draught_2, ↓cg_1_3, ↓cg_5_5, cisa, kb_10, kc_10, ki_0, ki_1, ki_2, ki_5, ↓vm_aload_n, ↓vm_bipush, ↓vm_checkcast, ↓vm_getfield, ↓vm_goto, ↓vm_iadd, ↓vm_iconst, ↓vm_if_icmp_ge, ↓vm_iinc, ↓vm_iload_n, ↓vm_imul, ↓vm_invokestatic, ↓vm_invokevirtual, ↓vm_ireturn, ↓vm_istore_n, ↓xc_1, ↓xc_2, ↓tbX4_draught_0, ↓tbX4_draught_2, ↓tbX4_draught_3, ↓tbX4_draught_4, ↓tbX4_draught_5, ↓tbX4_draught_6, ↓tbX4_draught_7, ↓tbX4_draught_10, ↓tbX4_draught_13, ↓tbX4_draught_16, ↓tbX4_draught_17, ↓tbX4_draught_18, ↓tbX4_draught_19, ↓tbX4_draught_20, ↓tbX4_draught_23, ↓tbX4_draught_24, ↓tbX4_draught_27, ↓tbX4_draught_30, ↓tbX4_draught_33, ↓tbX4_draught_34, ↓tbX4_draught_35, ↓tbX4_draught_38, ↓tbX4_draught_39, ↓tbX4_draught_42, ↓tbX4_draught_45, ↓tbX4_draught_46, hfu, xstep0, xJ1_hit, xJ1_go, xJ2_hit1, xJ2_hit2, xJ2_go, ↓xif_t, ↓xif_f, seval, ↓xca_eq, ↓xre_l, ↓xre_r, xmask_t, xmask_f, xmask_nil, ↓xst_eq, xX_eq, eI_eq, eMc_eq, eMs_eq, eF_eq, eThr_eq, ↓xS1_mk, ↓xSI_mk, ↓xSR_mk, ↓xLI_0, ↓xLI_s, ↓xLR_0, ↓xLR_s, vRef_ref, vRef_null, vRef_rf, cat_int, cat_ref, cat_null, cat_rf, rf_some, rf_none, rf_null, rf_eq, rf_ref, ref_rf, ref_null, ref_ref, xOk_0, xOk_1, xOk_2r, xOk_2n, xOk_2f, vOpt_rf, vOpt_ref, vOpt_null, List.set_cons_zero, List.set_cons_succ, List.take_succ_cons, List.take_zero, List.drop_succ_cons, List.drop_zero, List.reverse_cons, List.reverse_nil, List.nil_append, List.cons_append, List.append_nil, List.length_cons, List.length_nil, List.map_cons, List.map_nil, List.sum_cons, List.sum_nil, Option.toList_some, Option.toList_none, xRecv_mk, true_and, and_true, true_implies, Nat.reduceAdd, Nat.reduceLeDiff, Nat.zero_le, Nat.le_refl, Nat.add_zero, Nat.zero_add, reduceIte, not_true_eq_false, not_false_eq_true, false_implies, and_self, implies_true, eq_self, Nat.reduceEqDiff, List.cons.injEq, xsn_1, xsn_2, false_and, and_false, or_false, false_or, or_true, true_or, xsn_3, xsn_4, ↓spwJx4a65c_size_8abf5, spcJx4a65c_size_8abf5, ↓spwJx4a65c_get_915e3, spcJx4a65c_get_915e3, ↓sp_max_w, sp_max_c, f1, f2, f3, f4, f5, e0, pos_nI (show j < 1000 by omega), e2, ix_nI (show j < 1000 by omega), g1, g2, nI1]
      try simp only [xif_e]
      repeat' (first | rfl | apply And.intro)) (by
      rintro lv st S2 cs ss ⟨rfl, rfl, rfl, rfl, rfl⟩ fu hfu
      simp only [↓callX4_draught_0, ↓callX4_draught_1, ↓callX4_draught_2, ↓cg_1_3, ↓cg_5_5, cisa, kb_10, kc_10, ki_0, ki_1, ki_2, ki_5, ↓vm_aload_n, ↓vm_bipush, ↓vm_checkcast, ↓vm_getfield, ↓vm_goto, ↓vm_iadd, ↓vm_iconst, ↓vm_if_icmp_ge, ↓vm_iinc, ↓vm_iload_n, ↓vm_imul, ↓vm_invokestatic, ↓vm_invokevirtual, ↓vm_ireturn, ↓vm_istore_n, ↓xc_1, ↓xc_2, ↓tbX4_draught_0, ↓tbX4_draught_2, ↓tbX4_draught_3, ↓tbX4_draught_4, ↓tbX4_draught_5, ↓tbX4_draught_6, ↓tbX4_draught_7, ↓tbX4_draught_10, ↓tbX4_draught_13, ↓tbX4_draught_16, ↓tbX4_draught_17, ↓tbX4_draught_18, ↓tbX4_draught_19, ↓tbX4_draught_20, ↓tbX4_draught_23, ↓tbX4_draught_24, ↓tbX4_draught_27, ↓tbX4_draught_30, ↓tbX4_draught_33, ↓tbX4_draught_34, ↓tbX4_draught_35, ↓tbX4_draught_38, ↓tbX4_draught_39, ↓tbX4_draught_42, ↓tbX4_draught_45, ↓tbX4_draught_46, hfu, xstep0, xJ1_hit, xJ1_go, xJ2_hit1, xJ2_hit2, xJ2_go, ↓xif_t, ↓xif_f, seval, ↓xca_eq, ↓xre_l, ↓xre_r, xmask_t, xmask_f, xmask_nil, ↓xst_eq, xX_eq, eI_eq, eMc_eq, eMs_eq, eF_eq, eThr_eq, ↓xS1_mk, ↓xSI_mk, ↓xSR_mk, ↓xLI_0, ↓xLI_s, ↓xLR_0, ↓xLR_s, vRef_ref, vRef_null, vRef_rf, cat_int, cat_ref, cat_null, cat_rf, rf_some, rf_none, rf_null, rf_eq, rf_ref, ref_rf, ref_null, ref_ref, xOk_0, xOk_1, xOk_2r, xOk_2n, xOk_2f, vOpt_rf, vOpt_ref, vOpt_null, List.set_cons_zero, List.set_cons_succ, List.take_succ_cons, List.take_zero, List.drop_succ_cons, List.drop_zero, List.reverse_cons, List.reverse_nil, List.nil_append, List.cons_append, List.append_nil, List.length_cons, List.length_nil, List.map_cons, List.map_nil, List.sum_cons, List.sum_nil, Option.toList_some, Option.toList_none, xRecv_mk, true_and, and_true, true_implies, Nat.reduceAdd, Nat.reduceLeDiff, Nat.zero_le, Nat.le_refl, Nat.add_zero, Nat.zero_add, reduceIte, not_true_eq_false, not_false_eq_true, false_implies, and_self, implies_true, eq_self, Nat.reduceEqDiff, List.cons.injEq, xsn_1, xsn_2, false_and, and_false, or_false, false_or, or_true, true_or, xsn_3, xsn_4, ↓spwJx4a65c_size_8abf5, spcJx4a65c_size_8abf5, ↓spwJx4a65c_get_915e3, spcJx4a65c_get_915e3, ↓sp_max_w, sp_max_c, f1, f2, f3, f5, le_nI_self]
      try simp only [xif_e]
      exact h)
  refine xgo hG (mb := [true, true, true]) (loop 0 (Nat.zero_le _)) (pc := 0) (fun fu hfu => ?_)
  simp only [↓callX4_draught_0, ↓callX4_draught_1, ↓callX4_draught_2, ↓cg_1_3, ↓cg_5_5, cisa, kb_10, kc_10, ki_0, ki_1, ki_2, ki_5, ↓vm_aload_n, ↓vm_bipush, ↓vm_checkcast, ↓vm_getfield, ↓vm_goto, ↓vm_iadd, ↓vm_iconst, ↓vm_if_icmp_ge, ↓vm_iinc, ↓vm_iload_n, ↓vm_imul, ↓vm_invokestatic, ↓vm_invokevirtual, ↓vm_ireturn, ↓vm_istore_n, ↓xc_1, ↓xc_2, ↓tbX4_draught_0, ↓tbX4_draught_2, ↓tbX4_draught_3, ↓tbX4_draught_4, ↓tbX4_draught_5, ↓tbX4_draught_6, ↓tbX4_draught_7, ↓tbX4_draught_10, ↓tbX4_draught_13, ↓tbX4_draught_16, ↓tbX4_draught_17, ↓tbX4_draught_18, ↓tbX4_draught_19, ↓tbX4_draught_20, ↓tbX4_draught_23, ↓tbX4_draught_24, ↓tbX4_draught_27, ↓tbX4_draught_30, ↓tbX4_draught_33, ↓tbX4_draught_34, ↓tbX4_draught_35, ↓tbX4_draught_38, ↓tbX4_draught_39, ↓tbX4_draught_42, ↓tbX4_draught_45, ↓tbX4_draught_46, hfu, xstep0, xJ1_hit, xJ1_go, xJ2_hit1, xJ2_hit2, xJ2_go, ↓xif_t, ↓xif_f, seval, ↓xca_eq, ↓xre_l, ↓xre_r, xmask_t, xmask_f, xmask_nil, ↓xst_eq, xX_eq, eI_eq, eMc_eq, eMs_eq, eF_eq, eThr_eq, ↓xS1_mk, ↓xSI_mk, ↓xSR_mk, ↓xLI_0, ↓xLI_s, ↓xLR_0, ↓xLR_s, vRef_ref, vRef_null, vRef_rf, cat_int, cat_ref, cat_null, cat_rf, rf_some, rf_none, rf_null, rf_eq, rf_ref, ref_rf, ref_null, ref_ref, xOk_0, xOk_1, xOk_2r, xOk_2n, xOk_2f, vOpt_rf, vOpt_ref, vOpt_null, List.set_cons_zero, List.set_cons_succ, List.take_succ_cons, List.take_zero, List.drop_succ_cons, List.drop_zero, List.reverse_cons, List.reverse_nil, List.nil_append, List.cons_append, List.append_nil, List.length_cons, List.length_nil, List.map_cons, List.map_nil, List.sum_cons, List.sum_nil, Option.toList_some, Option.toList_none, xRecv_mk, true_and, and_true, true_implies, Nat.reduceAdd, Nat.reduceLeDiff, Nat.zero_le, Nat.le_refl, Nat.add_zero, Nat.zero_add, reduceIte, not_true_eq_false, not_false_eq_true, false_implies, and_self, implies_true, eq_self, Nat.reduceEqDiff, List.cons.injEq, xsn_1, xsn_2, false_and, and_false, or_false, false_or, or_true, true_or, xsn_3, xsn_4, ↓spwJx4a65c_size_8abf5, spcJx4a65c_size_8abf5, ↓spwJx4a65c_get_915e3, spcJx4a65c_get_915e3, ↓sp_max_w, sp_max_c]
  try simp only [xif_e]
  repeat' (first | rfl | apply And.intro)

def rMin (a b : Int32) : Int32 := if b < a then b else a
def rMax (a b : Int32) : Int32 := if a < b then b else a

def tbX4_breadth : List (Nat × xHint) := [(0, .iconst 1, 0, 0, 0, []), (1, .aload_n 0, 0, 0, 0, []), (2, .getfield 9, 5, 4, 0, []), (5, .aload_n 0, 0, 0, 0, []), (6, .getfield 18, 5, 5, 2, []), (9, .invokevirtual 34, 0, 1, 0, []), (12, .invokestatic 75, 1, 2, 0, []), (15, .invokestatic 69, 2, 2, 0, []), (18, .ireturn, 0, 0, 0, [])]
def clX4_breadth : List (Instr × Nat × Nat × Nat) := [(.invokevirtual 34, 0, 1, 0), (.invokestatic 75, 1, 2, 0), (.invokestatic 69, 2, 2, 0)]
def thX4_breadth : List (Nat × Nat) := []
theorem ckX4_breadth : tbX4_breadth.all (xRow RX4 cX4_breadth wsX4_breadth vwCl [5] clX4_breadth thX4_breadth 1 (yX4_breadth.name == "<init>") (some .int)) = true := xRow_q 0xac4500b84b00b82200b61200b42a0900b42a04 19 (by decide +kernel) (by decide +kernel)
theorem usX4_breadth : xUse wsX4_breadth vwCl [5] = true := xUse_g rfl (lw_good lwl_X4_breadth lwl_X40 (by decide +kernel)) xUse_n
theorem tbX4_breadth_0 {k : Instr → Nat → Nat → Nat → List Nat → Prop} : xse (xFind tbX4_breadth 0) k = k (.iconst 1) 0 0 0 [] := rfl
theorem tbX4_breadth_1 {k : Instr → Nat → Nat → Nat → List Nat → Prop} : xse (xFind tbX4_breadth 1) k = k (.aload_n 0) 0 0 0 [] := rfl
theorem tbX4_breadth_2 {k : Instr → Nat → Nat → Nat → List Nat → Prop} : xse (xFind tbX4_breadth 2) k = k (.getfield 9) 5 4 0 [] := rfl
theorem tbX4_breadth_5 {k : Instr → Nat → Nat → Nat → List Nat → Prop} : xse (xFind tbX4_breadth 5) k = k (.aload_n 0) 0 0 0 [] := rfl
theorem tbX4_breadth_6 {k : Instr → Nat → Nat → Nat → List Nat → Prop} : xse (xFind tbX4_breadth 6) k = k (.getfield 18) 5 5 2 [] := rfl
theorem tbX4_breadth_9 {k : Instr → Nat → Nat → Nat → List Nat → Prop} : xse (xFind tbX4_breadth 9) k = k (.invokevirtual 34) 0 1 0 [] := rfl
theorem tbX4_breadth_12 {k : Instr → Nat → Nat → Nat → List Nat → Prop} : xse (xFind tbX4_breadth 12) k = k (.invokestatic 75) 1 2 0 [] := rfl
theorem tbX4_breadth_15 {k : Instr → Nat → Nat → Nat → List Nat → Prop} : xse (xFind tbX4_breadth 15) k = k (.invokestatic 69) 2 2 0 [] := rfl
theorem tbX4_breadth_18 {k : Instr → Nat → Nat → Nat → List Nat → Prop} : xse (xFind tbX4_breadth 18) k = k (.ireturn) 0 0 0 [] := rfl

def spX4_breadth (W9 : xWd) : xSp cS := (fun av S => (0, 0), fun av S K => ∃ (a : Nat), av = [.ref a] ∧ (rOk S a ∧ K (rI (rMax 1 (rMin (cFi S a 504) (nI (rN S a))))) S))
theorem spcX4_breadth {av : List Value} {S : cS} {W9 : xWd} : (spX4_breadth W9).1 av S = (0, 0) := rfl
theorem spwX4_breadth {S : cS} {W9 : xWd} {K : xRes → cS → Prop} {a : Nat} : (spX4_breadth W9).2 [.ref a] S K = (rOk S a ∧ K (rI (rMax 1 (rMin (cFi S a 504) (nI (rN S a))))) S) :=
  propext ⟨fun h => by
    simp only [spX4_breadth] at h
    obtain ⟨_, e, h⟩ := h
    simp only [List.cons.injEq, Value.int.injEq, Value.ref.injEq, rf_eq, and_true, true_and] at e
    obtain rfl := e
    exact h, fun h => ⟨_, rfl, h⟩⟩

def callX4_breadth (W9 : xWd) : Nat → Option (xSp cS) := fun n => match n with | 0 => some (spJx4a65c_size_8abf5 W9) | 1 => some (sp_min cS) | 2 => some (sp_max cS) | _ => none

theorem callX4_breadth_0 {W9 : xWd} {k : xSp cS → Prop} : xcs (callX4_breadth W9 0) k = k (spJx4a65c_size_8abf5 W9) := rfl

theorem callX4_breadth_1 {W9 : xWd} {k : xSp cS → Prop} : xcs (callX4_breadth W9 1) k = k (sp_min cS) := rfl

theorem callX4_breadth_2 {W9 : xWd} {k : xSp cS → Prop} : xcs (callX4_breadth W9 2) k = k (sp_max cS) := rfl

theorem crX4_breadth (l : Launch) (hl : l.stackTraces = false) (W9 : xWd) : xCallsOK l W9 (cI) (callX4_breadth W9) clX4_breadth RX4 wsX4_breadth 1 21 1 := by
  intro E A p e R s m args below meth c hI hF hL X
  exact List.forall_mem_cons.mpr ⟨⟨_, rfl, xCR_V X (by rw [hI]; exact (semJx4a65c_size_8abf5 l hl W9)) gX4_breadth_Jx4a65c_size_8abf5 rfl rfl (by decide +kernel) (by rw [hF, hL]; decide)⟩,
    List.forall_mem_cons.mpr ⟨⟨_, rfl, xCR_min X (by decide +kernel) (by decide +kernel) (by decide +kernel) (by decide +kernel) (by rw [hF, hL]; decide)⟩,
    List.forall_mem_cons.mpr ⟨⟨_, rfl, xCR_max X (by decide +kernel) (by decide +kernel) (by decide +kernel) (by decide +kernel) (by rw [hF, hL]; decide)⟩,
    fun _ h => nomatch h⟩⟩⟩

set_option maxHeartbeats 4000000 in
set_option maxRecDepth 20000 in
theorem semX4_breadth (l : Launch) (hl : l.stackTraces = false) (W9 : xWd) : xSem l W9 (cI) yX4_breadth wsX4_breadth 1 21 (spX4_breadth W9) := by
  refine xSem_of (call := callX4_breadth W9) (thrf := fun _ => "") cI_law (by decide +kernel) rfl ckX4_breadth usX4_breadth (crX4_breadth l hl W9) xThrOK_nil ?_ ?_
  · intro av S KF h
    obtain ⟨a, rfl, h⟩ := h
    exact ⟨by intro v hv; simp only [List.mem_cons, List.not_mem_nil, or_false] at hv; rcases hv with rfl <;> first | rfl | exact cat_rf, Nat.le_of_ble_eq_true rfl⟩
  intro av S KF h G hG
  obtain ⟨a, rfl, h⟩ := h
  rw [show (spX4_breadth W9).1 _ S = _ from spcX4_breadth] at hG
  try dsimp only at hG
  change G 0 [some (.ref a)] [] S 0 0
  obtain ⟨hR, h⟩ := h
  obtain ⟨f1, f2, f3, f4, f5, f6⟩ := rOk_facts hR
  refine xgo0 hG (fun fu hfu => ?_)
  clear hG
  simp only [↓callX4_breadth_0, ↓callX4_breadth_1, ↓callX4_breadth_2, ↓cg_5_4, ↓cg_5_5, cisa, ki_1, ↓vm_aload_n, ↓vm_getfield, ↓vm_iconst, ↓vm_invokestatic, ↓vm_invokevirtual, ↓vm_ireturn, ↓xc_1, ↓xc_2, ↓tbX4_breadth_0, ↓tbX4_breadth_1, ↓tbX4_breadth_2, ↓tbX4_breadth_5, ↓tbX4_breadth_6, ↓tbX4_breadth_9, ↓tbX4_breadth_12, ↓tbX4_breadth_15, ↓tbX4_breadth_18, hfu, xstep0, xJ1_hit, xJ1_go, xJ2_hit1, xJ2_hit2, xJ2_go, ↓xif_t, ↓xif_f, seval, ↓xca_eq, ↓xre_l, ↓xre_r, xmask_t, xmask_f, xmask_nil, ↓xst_eq, xX_eq, eI_eq, eMc_eq, eMs_eq, eF_eq, eThr_eq, ↓xS1_mk, ↓xSI_mk, ↓xSR_mk, ↓xLI_0, ↓xLI_s, ↓xLR_0, ↓xLR_s, vRef_ref, vRef_null, vRef_rf, cat_int, cat_ref, cat_null, cat_rf, rf_some, rf_none, rf_null, rf_eq, rf_ref, ref_rf, ref_null, ref_ref, xOk_0, xOk_1, xOk_2r, xOk_2n, xOk_2f, vOpt_rf, vOpt_ref, vOpt_null, List.set_cons_zero, List.set_cons_succ, List.take_succ_cons, List.take_zero, List.drop_succ_cons, List.drop_zero, List.reverse_cons, List.reverse_nil, List.nil_append, List.cons_append, List.append_nil, List.length_cons, List.length_nil, List.map_cons, List.map_nil, List.sum_cons, List.sum_nil, Option.toList_some, Option.toList_none, xRecv_mk, true_and, and_true, true_implies, Nat.reduceAdd, Nat.reduceLeDiff, Nat.zero_le, Nat.le_refl, Nat.add_zero, Nat.zero_add, reduceIte, not_true_eq_false, not_false_eq_true, false_implies, and_self, implies_true, eq_self, Nat.reduceEqDiff, List.cons.injEq, xsn_1, xsn_2, false_and, and_false, or_false, false_or, or_true, true_or, xsn_3, xsn_4, f1, f2, f3, f5, ↓spwJx4a65c_size_8abf5, spcJx4a65c_size_8abf5, ↓sp_min_w, sp_min_c, ↓sp_max_w, sp_max_c]
  try simp only [xif_e]
  exact h

/-- the barge seen at a place, when one place is left out, and one more stands at the end -/
def rSeen (S : cS) (a : Nat) (lo : Int32) (more : Option Nat) (k : Nat) : Option Nat :=
  if (if lo ≠ -1 ∧ lo ≤ nI k then k + 1 else k) = rN S a then more
  else if (if lo ≠ -1 ∧ lo ≤ nI k then k + 1 else k) < rN S a then some (rB S a (if lo ≠ -1 ∧ lo ≤ nI k then k + 1 else k)) else none

def tbX4_seenAt : List (Nat × xHint) := [(0, .iload_n 2, 2, 0, 0, []), (1, .iconst (-1), 0, 0, 0, []), (2, .if_icmp .eq 14, 16, 0, 0, []), (5, .iload_n 1, 1, 0, 0, []), (6, .iload_n 2, 2, 0, 0, []), (7, .if_icmp .lt 9, 16, 0, 0, []), (10, .iload_n 1, 1, 0, 0, []), (11, .iconst 1, 0, 0, 0, []), (12, .iadd, 0, 0, 0, []), (13, .goto 4, 17, 0, 0, []), (16, .iload_n 1, 1, 0, 0, []), (17, .istore 4, 4, 0, 0, []), (19, .iload 4, 4, 0, 0, []), (21, .aload_n 0, 0, 0, 0, []), (22, .getfield 18, 5, 5, 2, []), (25, .invokevirtual 34, 0, 1, 0, []), (28, .if_icmp .ne 5, 33, 0, 0, []), (31, .aload_n 3, 3, 0, 0, []), (32, .areturn, 0, 0, 0, []), (33, .iload 4, 4, 0, 0, []), (35, .ifCond .lt 15, 50, 0, 0, []), (38, .iload 4, 4, 0, 0, []), (40, .aload_n 0, 0, 0, 0, []), (41, .getfield 18, 5, 5, 2, []), (44, .invokevirtual 34, 0, 1, 0, []), (47, .if_icmp .lt 7, 54, 0, 0, []), (50, .aconst_null, 0, 0, 0, []), (51, .goto 15, 66, 0, 0, []), (54, .aload_n 0, 0, 0, 0, []), (55, .getfield 18, 5, 5, 2, []), (58, .iload 4, 4, 0, 0, []), (60, .invokevirtual 38, 1, 2, 0, []), (63, .checkcast 50, 1, 0, 0, []), (66, .areturn, 0, 0, 0, [])]
def clX4_seenAt : List (Instr × Nat × Nat × Nat) := [(.invokevirtual 34, 0, 1, 0), (.invokevirtual 38, 1, 2, 0)]
def thX4_seenAt : List (Nat × Nat) := []
theorem ckX4_seenAt : tbX4_seenAt.all (xRow RX4 cX4_seenAt wsX4_seenAt vwCl [5] clX4_seenAt thX4_seenAt 5 (yX4_seenAt.name == "<init>") (some (.object "Towmaster$Barge"))) = true := xRow_q 0xb03200c02600b604151200b42a0f00a7010700a12200b61200b42a04150f009b0415b02d0500a02200b61200b42a041504361b0400a760041b0900a11c1b0e009f021c 67 (by decide +kernel) (by decide +kernel)
theorem usX4_seenAt : xUse wsX4_seenAt vwCl [5] = true := xUse_g rfl (lw_good lwl_X4_seenAt lwl_X40 (by decide +kernel)) xUse_n
theorem tbX4_seenAt_0 {k : Instr → Nat → Nat → Nat → List Nat → Prop} : xse (xFind tbX4_seenAt 0) k = k (.iload_n 2) 2 0 0 [] := rfl
theorem tbX4_seenAt_1 {k : Instr → Nat → Nat → Nat → List Nat → Prop} : xse (xFind tbX4_seenAt 1) k = k (.iconst (-1)) 0 0 0 [] := rfl
theorem tbX4_seenAt_2 {k : Instr → Nat → Nat → Nat → List Nat → Prop} : xse (xFind tbX4_seenAt 2) k = k (.if_icmp .eq 14) 16 0 0 [] := rfl
theorem tbX4_seenAt_5 {k : Instr → Nat → Nat → Nat → List Nat → Prop} : xse (xFind tbX4_seenAt 5) k = k (.iload_n 1) 1 0 0 [] := rfl
theorem tbX4_seenAt_6 {k : Instr → Nat → Nat → Nat → List Nat → Prop} : xse (xFind tbX4_seenAt 6) k = k (.iload_n 2) 2 0 0 [] := rfl
theorem tbX4_seenAt_7 {k : Instr → Nat → Nat → Nat → List Nat → Prop} : xse (xFind tbX4_seenAt 7) k = k (.if_icmp .lt 9) 16 0 0 [] := rfl
theorem tbX4_seenAt_10 {k : Instr → Nat → Nat → Nat → List Nat → Prop} : xse (xFind tbX4_seenAt 10) k = k (.iload_n 1) 1 0 0 [] := rfl
theorem tbX4_seenAt_11 {k : Instr → Nat → Nat → Nat → List Nat → Prop} : xse (xFind tbX4_seenAt 11) k = k (.iconst 1) 0 0 0 [] := rfl
theorem tbX4_seenAt_12 {k : Instr → Nat → Nat → Nat → List Nat → Prop} : xse (xFind tbX4_seenAt 12) k = k (.iadd) 0 0 0 [] := rfl
theorem tbX4_seenAt_13 {k : Instr → Nat → Nat → Nat → List Nat → Prop} : xse (xFind tbX4_seenAt 13) k = k (.goto 4) 17 0 0 [] := rfl
theorem tbX4_seenAt_16 {k : Instr → Nat → Nat → Nat → List Nat → Prop} : xse (xFind tbX4_seenAt 16) k = k (.iload_n 1) 1 0 0 [] := rfl
theorem tbX4_seenAt_17 {k : Instr → Nat → Nat → Nat → List Nat → Prop} : xse (xFind tbX4_seenAt 17) k = k (.istore 4) 4 0 0 [] := rfl
theorem tbX4_seenAt_19 {k : Instr → Nat → Nat → Nat → List Nat → Prop} : xse (xFind tbX4_seenAt 19) k = k (.iload 4) 4 0 0 [] := rfl
theorem tbX4_seenAt_21 {k : Instr → Nat → Nat → Nat → List Nat → Prop} : xse (xFind tbX4_seenAt 21) k = k (.aload_n 0) 0 0 0 [] := rfl
theorem tbX4_seenAt_22 {k : Instr → Nat → Nat → Nat → List Nat → Prop} : xse (xFind tbX4_seenAt 22) k = k (.getfield 18) 5 5 2 [] := rfl
theorem tbX4_seenAt_25 {k : Instr → Nat → Nat → Nat → List Nat → Prop} : xse (xFind tbX4_seenAt 25) k = k (.invokevirtual 34) 0 1 0 [] := rfl
theorem tbX4_seenAt_28 {k : Instr → Nat → Nat → Nat → List Nat → Prop} : xse (xFind tbX4_seenAt 28) k = k (.if_icmp .ne 5) 33 0 0 [] := rfl
theorem tbX4_seenAt_31 {k : Instr → Nat → Nat → Nat → List Nat → Prop} : xse (xFind tbX4_seenAt 31) k = k (.aload_n 3) 3 0 0 [] := rfl
theorem tbX4_seenAt_32 {k : Instr → Nat → Nat → Nat → List Nat → Prop} : xse (xFind tbX4_seenAt 32) k = k (.areturn) 0 0 0 [] := rfl
theorem tbX4_seenAt_33 {k : Instr → Nat → Nat → Nat → List Nat → Prop} : xse (xFind tbX4_seenAt 33) k = k (.iload 4) 4 0 0 [] := rfl
theorem tbX4_seenAt_35 {k : Instr → Nat → Nat → Nat → List Nat → Prop} : xse (xFind tbX4_seenAt 35) k = k (.ifCond .lt 15) 50 0 0 [] := rfl
theorem tbX4_seenAt_38 {k : Instr → Nat → Nat → Nat → List Nat → Prop} : xse (xFind tbX4_seenAt 38) k = k (.iload 4) 4 0 0 [] := rfl
theorem tbX4_seenAt_40 {k : Instr → Nat → Nat → Nat → List Nat → Prop} : xse (xFind tbX4_seenAt 40) k = k (.aload_n 0) 0 0 0 [] := rfl
theorem tbX4_seenAt_41 {k : Instr → Nat → Nat → Nat → List Nat → Prop} : xse (xFind tbX4_seenAt 41) k = k (.getfield 18) 5 5 2 [] := rfl
theorem tbX4_seenAt_44 {k : Instr → Nat → Nat → Nat → List Nat → Prop} : xse (xFind tbX4_seenAt 44) k = k (.invokevirtual 34) 0 1 0 [] := rfl
theorem tbX4_seenAt_47 {k : Instr → Nat → Nat → Nat → List Nat → Prop} : xse (xFind tbX4_seenAt 47) k = k (.if_icmp .lt 7) 54 0 0 [] := rfl
theorem tbX4_seenAt_50 {k : Instr → Nat → Nat → Nat → List Nat → Prop} : xse (xFind tbX4_seenAt 50) k = k (.aconst_null) 0 0 0 [] := rfl
theorem tbX4_seenAt_51 {k : Instr → Nat → Nat → Nat → List Nat → Prop} : xse (xFind tbX4_seenAt 51) k = k (.goto 15) 66 0 0 [] := rfl
theorem tbX4_seenAt_54 {k : Instr → Nat → Nat → Nat → List Nat → Prop} : xse (xFind tbX4_seenAt 54) k = k (.aload_n 0) 0 0 0 [] := rfl
theorem tbX4_seenAt_55 {k : Instr → Nat → Nat → Nat → List Nat → Prop} : xse (xFind tbX4_seenAt 55) k = k (.getfield 18) 5 5 2 [] := rfl
theorem tbX4_seenAt_58 {k : Instr → Nat → Nat → Nat → List Nat → Prop} : xse (xFind tbX4_seenAt 58) k = k (.iload 4) 4 0 0 [] := rfl
theorem tbX4_seenAt_60 {k : Instr → Nat → Nat → Nat → List Nat → Prop} : xse (xFind tbX4_seenAt 60) k = k (.invokevirtual 38) 1 2 0 [] := rfl
theorem tbX4_seenAt_63 {k : Instr → Nat → Nat → Nat → List Nat → Prop} : xse (xFind tbX4_seenAt 63) k = k (.checkcast 50) 1 0 0 [] := rfl
theorem tbX4_seenAt_66 {k : Instr → Nat → Nat → Nat → List Nat → Prop} : xse (xFind tbX4_seenAt 66) k = k (.areturn) 0 0 0 [] := rfl

def spX4_seenAt (W9 : xWd) : xSp cS := (fun av S => (0, 0), fun av S K => ∃ (a : Nat) (p : Int32) (lo : Int32) (more : Option Nat), av = [.ref a, .int p, .int lo, va_rf more] ∧ (rOk S a ∧ vp_in p 60 ∧ K (rF (rSeen S a lo more p.toNatClampNeg)) S))
theorem spcX4_seenAt {av : List Value} {S : cS} {W9 : xWd} : (spX4_seenAt W9).1 av S = (0, 0) := rfl
theorem spwX4_seenAt {S : cS} {W9 : xWd} {K : xRes → cS → Prop} {a : Nat} {p : Int32} {lo : Int32} {more : Option Nat} : (spX4_seenAt W9).2 [.ref a, .int p, .int lo, va_rf more] S K = (rOk S a ∧ vp_in p 60 ∧ K (rF (rSeen S a lo more p.toNatClampNeg)) S) :=
  propext ⟨fun h => by
    simp only [spX4_seenAt] at h
    obtain ⟨_, _, _, _, e, h⟩ := h
    simp only [List.cons.injEq, Value.int.injEq, Value.ref.injEq, rf_eq, and_true, true_and] at e
    obtain ⟨rfl, rfl, rfl, rfl⟩ := e
    exact h, fun h => ⟨_, _, _, _, rfl, h⟩⟩

def callX4_seenAt (W9 : xWd) : Nat → Option (xSp cS) := fun n => match n with | 0 => some (spJx4a65c_size_8abf5 W9) | 1 => some (spJx4a65c_get_915e3 W9) | _ => none

theorem callX4_seenAt_0 {W9 : xWd} {k : xSp cS → Prop} : xcs (callX4_seenAt W9 0) k = k (spJx4a65c_size_8abf5 W9) := rfl

theorem callX4_seenAt_1 {W9 : xWd} {k : xSp cS → Prop} : xcs (callX4_seenAt W9 1) k = k (spJx4a65c_get_915e3 W9) := rfl

theorem crX4_seenAt (l : Launch) (hl : l.stackTraces = false) (W9 : xWd) : xCallsOK l W9 (cI) (callX4_seenAt W9) clX4_seenAt RX4 wsX4_seenAt 3 64 5 := by
  intro E A p e R s m args below meth c hI hF hL X
  exact List.forall_mem_cons.mpr ⟨⟨_, rfl, xCR_V X (by rw [hI]; exact (semJx4a65c_size_8abf5 l hl W9)) gX4_seenAt_Jx4a65c_size_8abf5 rfl rfl (by decide +kernel) (by rw [hF, hL]; decide)⟩,
    List.forall_mem_cons.mpr ⟨⟨_, rfl, xCR_V X (by rw [hI]; exact (semJx4a65c_get_915e3 l hl W9)) gX4_seenAt_Jx4a65c_get_915e3 rfl rfl (by decide +kernel) (by rw [hF, hL]; decide)⟩,
    fun _ h => nomatch h⟩⟩

set_option maxHeartbeats 4000000 in
set_option maxRecDepth 20000 in
theorem semX4_seenAt (l : Launch) (hl : l.stackTraces = false) (W9 : xWd) : xSem l W9 (cI) yX4_seenAt wsX4_seenAt 3 64 (spX4_seenAt W9) := by
  refine xSem_of (call := callX4_seenAt W9) (thrf := fun _ => "") cI_law (by decide +kernel) rfl ckX4_seenAt usX4_seenAt (crX4_seenAt l hl W9) xThrOK_nil ?_ ?_
  · intro av S KF h
    obtain ⟨a, p, lo, more, rfl, h⟩ := h
    exact ⟨by intro v hv; simp only [List.mem_cons, List.not_mem_nil, or_false] at hv; rcases hv with rfl | rfl | rfl | rfl <;> first | rfl | exact cat_rf, Nat.le_of_ble_eq_true rfl⟩
  intro av S KF h G hG
  obtain ⟨a, p, lo, more, rfl, h⟩ := h
  rw [show (spX4_seenAt W9).1 _ S = _ from spcX4_seenAt] at hG
  try dsimp only at hG
  change G 0 [some (.ref a), some (.int p), some (.int lo), some (va_rf more), none] [] S 0 0
  obtain ⟨hR, hpk, h⟩ := h

  obtain ⟨k, hk, rfl⟩ := vp_in_of hpk (by omega)
  rw [ix_nI (by omega)] at h
  obtain ⟨f1, f2, f3, f4, f5, f6⟩ := rOk_facts hR
  unfold rSeen at h
  have key : ∀ q : Nat, q < 61 → KF (rF (if q = rN S a then more else if q < rN S a then some (rB S a q) else none)) S → ∀ lv st S2 cs ss, (lv = [some (.ref a), some (.int (nI k)), some (.int lo), some (va_rf more), some (.int (nI q))] ∧ st = [] ∧ S = S2 ∧ cs = 0 ∧ ss = 0) → G 19 lv st S2 cs ss := by
    intro q hq hK
    rintro lv st S2 cs ss ⟨rfl, rfl, rfl, rfl, (rfl)⟩
    refine xgo0 hG (fun fu hfu => ?_)
    have e0 : (nI q < 0) = False := eq_false (nI_pos (by omega))
    rcases Nat.lt_trichotomy q (rN S a) with c | c | c
    · obtain ⟨g1, g2⟩ := hR.2.2.2 _ c
      have e1 : (nI q = nI (rN S a)) = False := by rw [eq_nI (by omega) (by omega)]; simp; omega
      have e2 := lt0_nI c (show rN S a < 1000 by omega)
      rw [if_neg (by omega), if_pos c] at hK
      simp only [↓callX4_seenAt_0, ↓callX4_seenAt_1, ↓cg_5_5, cisa, ki_1, ki_m1, ↓vm_aconst_null, ↓vm_aload_n, ↓vm_areturn, ↓vm_checkcast, ↓vm_getfield, ↓vm_goto, ↓vm_iadd, ↓vm_iconst, ↓vm_ifCond_lt, ↓vm_if_icmp_eq, ↓vm_if_icmp_lt, ↓vm_if_icmp_ne, ↓vm_iload, ↓vm_iload_n, ↓vm_invokevirtual, ↓vm_istore, ↓xc_1, ↓xc_2, ↓tbX4_seenAt_0, ↓tbX4_seenAt_1, ↓tbX4_seenAt_2, ↓tbX4_seenAt_5, ↓tbX4_seenAt_6, ↓tbX4_seenAt_7, ↓tbX4_seenAt_10, ↓tbX4_seenAt_11, ↓tbX4_seenAt_12, ↓tbX4_seenAt_13, ↓tbX4_seenAt_16, ↓tbX4_seenAt_17, ↓tbX4_seenAt_19, ↓tbX4_seenAt_21, ↓tbX4_seenAt_22, ↓tbX4_seenAt_25, ↓tbX4_seenAt_28, ↓tbX4_seenAt_31, ↓tbX4_seenAt_32, ↓tbX4_seenAt_33, ↓tbX4_seenAt_35, ↓tbX4_seenAt_38, ↓tbX4_seenAt_40, ↓tbX4_seenAt_41, ↓tbX4_seenAt_44, ↓tbX4_seenAt_47, ↓tbX4_seenAt_50, ↓tbX4_seenAt_51, ↓tbX4_seenAt_54, ↓tbX4_seenAt_55, ↓tbX4_seenAt_58, ↓tbX4_seenAt_60, ↓tbX4_seenAt_63, ↓tbX4_seenAt_66, hfu, xstep0, xJ1_hit, xJ1_go, xJ2_hit1, xJ2_hit2, xJ2_go, ↓xif_t, ↓xif_f, seval, ↓xca_eq, ↓xre_l, ↓xre_r, xmask_t, xmask_f, xmask_nil, ↓xst_eq, xX_eq, eI_eq, eMc_eq, eMs_eq, eF_eq, eThr_eq, ↓xS1_mk, ↓xSI_mk, ↓xSR_mk, ↓xLI_0, ↓xLI_s, ↓xLR_0, ↓xLR_s, vRef_ref, vRef_null, vRef_rf, cat_int, cat_ref, cat_null, cat_rf, rf_some, rf_none, rf_null, rf_eq, rf_ref, ref_rf, ref_null, ref_ref, xOk_0, xOk_1, xOk_2r, xOk_2n, xOk_2f, vOpt_rf, vOpt_ref, vOpt_null, List.set_cons_zero, List.set_cons_succ, List.take_succ_cons, List.take_zero, List.drop_succ_cons, List.drop_zero, List.reverse_cons, List.reverse_nil, List.nil_append, List.cons_append, List.append_nil, List.length_cons, List.length_nil, List.map_cons, List.map_nil, List.sum_cons, List.sum_nil, Option.toList_some, Option.toList_none, xRecv_mk, true_and, and_true, true_implies, Nat.reduceAdd, Nat.reduceLeDiff, Nat.zero_le, Nat.le_refl, Nat.add_zero, Nat.zero_add, reduceIte, not_true_eq_false, not_false_eq_true, false_implies, and_self, implies_true, eq_self, Nat.reduceEqDiff, List.cons.injEq, xsn_1, xsn_2, false_and, and_false, or_false, false_or, or_true, true_or, xsn_3, xsn_4, ↓spwJx4a65c_size_8abf5, spcJx4a65c_size_8abf5, ↓spwJx4a65c_get_915e3, spcJx4a65c_get_915e3, f1, f2, f3, f4, f5, e0, e1, e2, pos_nI (show q < 1000 by omega), ix_nI (show q < 1000 by omega), g1, g2]
      try simp only [xif_e]
      exact hK
    · have e1 : (nI q = nI (rN S a)) = True := by rw [c]; simp
      rw [if_pos c] at hK
      simp only [↓callX4_seenAt_0, ↓callX4_seenAt_1, ↓cg_5_5, cisa, ki_1, ki_m1, ↓vm_aconst_null, ↓vm_aload_n, ↓vm_areturn, ↓vm_checkcast, ↓vm_getfield, ↓vm_goto, ↓vm_iadd, ↓vm_iconst, ↓vm_ifCond_lt, ↓vm_if_icmp_eq, ↓vm_if_icmp_lt, ↓vm_if_icmp_ne, ↓vm_iload, ↓vm_iload_n, ↓vm_invokevirtual, ↓vm_istore, ↓xc_1, ↓xc_2, ↓tbX4_seenAt_0, ↓tbX4_seenAt_1, ↓tbX4_seenAt_2, ↓tbX4_seenAt_5, ↓tbX4_seenAt_6, ↓tbX4_seenAt_7, ↓tbX4_seenAt_10, ↓tbX4_seenAt_11, ↓tbX4_seenAt_12, ↓tbX4_seenAt_13, ↓tbX4_seenAt_16, ↓tbX4_seenAt_17, ↓tbX4_seenAt_19, ↓tbX4_seenAt_21, ↓tbX4_seenAt_22, ↓tbX4_seenAt_25, ↓tbX4_seenAt_28, ↓tbX4_seenAt_31, ↓tbX4_seenAt_32, ↓tbX4_seenAt_33, ↓tbX4_seenAt_35, ↓tbX4_seenAt_38, ↓tbX4_seenAt_40, ↓tbX4_seenAt_41, ↓tbX4_seenAt_44, ↓tbX4_seenAt_47, ↓tbX4_seenAt_50, ↓tbX4_seenAt_51, ↓tbX4_seenAt_54, ↓tbX4_seenAt_55, ↓tbX4_seenAt_58, ↓tbX4_seenAt_60, ↓tbX4_seenAt_63, ↓tbX4_seenAt_66, hfu, xstep0, xJ1_hit, xJ1_go, xJ2_hit1, xJ2_hit2, xJ2_go, ↓xif_t, ↓xif_f, seval, ↓xca_eq, ↓xre_l, ↓xre_r, xmask_t, xmask_f, xmask_nil, ↓xst_eq, xX_eq, eI_eq, eMc_eq, eMs_eq, eF_eq, eThr_eq, ↓xS1_mk, ↓xSI_mk, ↓xSR_mk, ↓xLI_0, ↓xLI_s, ↓xLR_0, ↓xLR_s, vRef_ref, vRef_null, vRef_rf, cat_int, cat_ref, cat_null, cat_rf, rf_some, rf_none, rf_null, rf_eq, rf_ref, ref_rf, ref_null, ref_ref, xOk_0, xOk_1, xOk_2r, xOk_2n, xOk_2f, vOpt_rf, vOpt_ref, vOpt_null, List.set_cons_zero, List.set_cons_succ, List.take_succ_cons, List.take_zero, List.drop_succ_cons, List.drop_zero, List.reverse_cons, List.reverse_nil, List.nil_append, List.cons_append, List.append_nil, List.length_cons, List.length_nil, List.map_cons, List.map_nil, List.sum_cons, List.sum_nil, Option.toList_some, Option.toList_none, xRecv_mk, true_and, and_true, true_implies, Nat.reduceAdd, Nat.reduceLeDiff, Nat.zero_le, Nat.le_refl, Nat.add_zero, Nat.zero_add, reduceIte, not_true_eq_false, not_false_eq_true, false_implies, and_self, implies_true, eq_self, Nat.reduceEqDiff, List.cons.injEq, xsn_1, xsn_2, false_and, and_false, or_false, false_or, or_true, true_or, xsn_3, xsn_4, ↓spwJx4a65c_size_8abf5, spcJx4a65c_size_8abf5, ↓spwJx4a65c_get_915e3, spcJx4a65c_get_915e3, f1, f2, f3, f4, f5, e1]
      try simp only [xif_e]
      exact hK
    · have e1 : (nI q = nI (rN S a)) = False := by rw [eq_nI (by omega) (by omega)]; simp; omega
      have e2 : (nI q < nI (rN S a)) = False := by rw [lt_nI (by omega) (by omega)]; simp; omega
      rw [if_neg (by omega), if_neg (by omega)] at hK
      simp only [↓callX4_seenAt_0, ↓callX4_seenAt_1, ↓cg_5_5, cisa, ki_1, ki_m1, ↓vm_aconst_null, ↓vm_aload_n, ↓vm_areturn, ↓vm_checkcast, ↓vm_getfield, ↓vm_goto, ↓vm_iadd, ↓vm_iconst, ↓vm_ifCond_lt, ↓vm_if_icmp_eq, ↓vm_if_icmp_lt, ↓vm_if_icmp_ne, ↓vm_iload, ↓vm_iload_n, ↓vm_invokevirtual, ↓vm_istore, ↓xc_1, ↓xc_2, ↓tbX4_seenAt_0, ↓tbX4_seenAt_1, ↓tbX4_seenAt_2, ↓tbX4_seenAt_5, ↓tbX4_seenAt_6, ↓tbX4_seenAt_7, ↓tbX4_seenAt_10, ↓tbX4_seenAt_11, ↓tbX4_seenAt_12, ↓tbX4_seenAt_13, ↓tbX4_seenAt_16, ↓tbX4_seenAt_17, ↓tbX4_seenAt_19, ↓tbX4_seenAt_21, ↓tbX4_seenAt_22, ↓tbX4_seenAt_25, ↓tbX4_seenAt_28, ↓tbX4_seenAt_31, ↓tbX4_seenAt_32, ↓tbX4_seenAt_33, ↓tbX4_seenAt_35, ↓tbX4_seenAt_38, ↓tbX4_seenAt_40, ↓tbX4_seenAt_41, ↓tbX4_seenAt_44, ↓tbX4_seenAt_47, ↓tbX4_seenAt_50, ↓tbX4_seenAt_51, ↓tbX4_seenAt_54, ↓tbX4_seenAt_55, ↓tbX4_seenAt_58, ↓tbX4_seenAt_60, ↓tbX4_seenAt_63, ↓tbX4_seenAt_66, hfu, xstep0, xJ1_hit, xJ1_go, xJ2_hit1, xJ2_hit2, xJ2_go, ↓xif_t, ↓xif_f, seval, ↓xca_eq, ↓xre_l, ↓xre_r, xmask_t, xmask_f, xmask_nil, ↓xst_eq, xX_eq, eI_eq, eMc_eq, eMs_eq, eF_eq, eThr_eq, ↓xS1_mk, ↓xSI_mk, ↓xSR_mk, ↓xLI_0, ↓xLI_s, ↓xLR_0, ↓xLR_s, vRef_ref, vRef_null, vRef_rf, cat_int, cat_ref, cat_null, cat_rf, rf_some, rf_none, rf_null, rf_eq, rf_ref, ref_rf, ref_null, ref_ref, xOk_0, xOk_1, xOk_2r, xOk_2n, xOk_2f, vOpt_rf, vOpt_ref, vOpt_null, List.set_cons_zero, List.set_cons_succ, List.take_succ_cons, List.take_zero, List.drop_succ_cons, List.drop_zero, List.reverse_cons, List.reverse_nil, List.nil_append, List.cons_append, List.append_nil, List.length_cons, List.length_nil, List.map_cons, List.map_nil, List.sum_cons, List.sum_nil, Option.toList_some, Option.toList_none, xRecv_mk, true_and, and_true, true_implies, Nat.reduceAdd, Nat.reduceLeDiff, Nat.zero_le, Nat.le_refl, Nat.add_zero, Nat.zero_add, reduceIte, not_true_eq_false, not_false_eq_true, false_implies, and_self, implies_true, eq_self, Nat.reduceEqDiff, List.cons.injEq, xsn_1, xsn_2, false_and, and_false, or_false, false_or, or_true, true_or, xsn_3, xsn_4, ↓spwJx4a65c_size_8abf5, spcJx4a65c_size_8abf5, ↓spwJx4a65c_get_915e3, spcJx4a65c_get_915e3, f1, f2, f3, f4, f5, e0, e1, e2]
      try simp only [xif_e]
      exact hK
  refine xgo hG (mb := [true, true, true, true, true]) (key (if lo ≠ -1 ∧ lo ≤ nI k then k + 1 else k) (by split <;> omega) h) (pc := 0) (fun fu hfu => ?_)
  simp only [↓callX4_seenAt_0, ↓callX4_seenAt_1, ↓cg_5_5, cisa, ki_1, ki_m1, ↓vm_aconst_null, ↓vm_aload_n, ↓vm_areturn, ↓vm_checkcast, ↓vm_getfield, ↓vm_goto, ↓vm_iadd, ↓vm_iconst, ↓vm_ifCond_lt, ↓vm_if_icmp_eq, ↓vm_if_icmp_lt, ↓vm_if_icmp_ne, ↓vm_iload, ↓vm_iload_n, ↓vm_invokevirtual, ↓vm_istore, ↓xc_1, ↓xc_2, ↓tbX4_seenAt_0, ↓tbX4_seenAt_1, ↓tbX4_seenAt_2, ↓tbX4_seenAt_5, ↓tbX4_seenAt_6, ↓tbX4_seenAt_7, ↓tbX4_seenAt_10, ↓tbX4_seenAt_11, ↓tbX4_seenAt_12, ↓tbX4_seenAt_13, ↓tbX4_seenAt_16, ↓tbX4_seenAt_17, ↓tbX4_seenAt_19, ↓tbX4_seenAt_21, ↓tbX4_seenAt_22, ↓tbX4_seenAt_25, ↓tbX4_seenAt_28, ↓tbX4_seenAt_31, ↓tbX4_seenAt_32, ↓tbX4_seenAt_33, ↓tbX4_seenAt_35, ↓tbX4_seenAt_38, ↓tbX4_seenAt_40, ↓tbX4_seenAt_41, ↓tbX4_seenAt_44, ↓tbX4_seenAt_47, ↓tbX4_seenAt_50, ↓tbX4_seenAt_51, ↓tbX4_seenAt_54, ↓tbX4_seenAt_55, ↓tbX4_seenAt_58, ↓tbX4_seenAt_60, ↓tbX4_seenAt_63, ↓tbX4_seenAt_66, hfu, xstep0, xJ1_hit, xJ1_go, xJ2_hit1, xJ2_hit2, xJ2_go, ↓xif_t, ↓xif_f, seval, ↓xca_eq, ↓xre_l, ↓xre_r, xmask_t, xmask_f, xmask_nil, ↓xst_eq, xX_eq, eI_eq, eMc_eq, eMs_eq, eF_eq, eThr_eq, ↓xS1_mk, ↓xSI_mk, ↓xSR_mk, ↓xLI_0, ↓xLI_s, ↓xLR_0, ↓xLR_s, vRef_ref, vRef_null, vRef_rf, cat_int, cat_ref, cat_null, cat_rf, rf_some, rf_none, rf_null, rf_eq, rf_ref, ref_rf, ref_null, ref_ref, xOk_0, xOk_1, xOk_2r, xOk_2n, xOk_2f, vOpt_rf, vOpt_ref, vOpt_null, List.set_cons_zero, List.set_cons_succ, List.take_succ_cons, List.take_zero, List.drop_succ_cons, List.drop_zero, List.reverse_cons, List.reverse_nil, List.nil_append, List.cons_append, List.append_nil, List.length_cons, List.length_nil, List.map_cons, List.map_nil, List.sum_cons, List.sum_nil, Option.toList_some, Option.toList_none, xRecv_mk, true_and, and_true, true_implies, Nat.reduceAdd, Nat.reduceLeDiff, Nat.zero_le, Nat.le_refl, Nat.add_zero, Nat.zero_add, reduceIte, not_true_eq_false, not_false_eq_true, false_implies, and_self, implies_true, eq_self, Nat.reduceEqDiff, List.cons.injEq, xsn_1, xsn_2, false_and, and_false, or_false, false_or, or_true, true_or, xsn_3, xsn_4, ↓spwJx4a65c_size_8abf5, spcJx4a65c_size_8abf5, ↓spwJx4a65c_get_915e3, spcJx4a65c_get_915e3, nI1]
  try simp only [xif_e]
  repeat' (first | with_reducible apply And.intro | with_reducible intro _)
  all_goals grind
