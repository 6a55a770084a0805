/-! What a call needs, each with its exception. -/
def lG (S : cS) (L k : Nat) : Nat := (lNth S L k).getD 0
/-- a list of objects of one kind -/
def lAll (S : cS) (L c : Nat) : Prop := lOk S L ∧ ∀ k, k < lCn S L → lNth S L k = some (lG S L k) ∧ cK S (lG S L k) = c
theorem lAll_facts {S : cS} {L c : Nat} (h : lAll S L c) : cK S L = 1 ∧ lOk S L ∧ cFi S L 2 = nI (lCn S L) ∧ lCn S L ≤ 30 := ⟨h.1.1, h.1, h.1.2.1, h.1.2.2.1⟩
theorem lAll_at {S : cS} {L c : Nat} {i : Int32} (h : lAll S L c) (h0 : 0 ≤ i) (h1 : i < cFi S L 2) : lNth S L i.toNatClampNeg = some (lG S L i.toNatClampNeg) ∧ cK S (lG S L i.toNatClampNeg) = c := h.2 _ (lOk_in h.1 h0 h1).2.2

def tbX7_needState : List (Nat × xHint) := [(0, .iload_n 0, 0, 0, 0, []), (1, .ifCond .ne 14, 15, 0, 0, []), (4, .new 171, 1, 0, 0, []), (15, .return_, 0, 0, 0, [])]
def clX7_needState : List (Instr × Nat × Nat × Nat) := []
def thX7_needState : List (Nat × Nat) := [(4, 0)]
theorem ckX7_needState : tbX7_needState.all (xRow RX7 cX7_needState wsX7_needState vwCl [] clX7_needState thX7_needState 1 (yX7_needState.name == "<init>") none) = true := xRow_q 0xb1bfaf00b79f011359ab00bb0e009a1a 16 (by decide +kernel) (by decide +kernel)
theorem usX7_needState : xUse wsX7_needState vwCl [] = true := xUse_n
theorem tbX7_needState_0 {k : Instr → Nat → Nat → Nat → List Nat → Prop} : xse (xFind tbX7_needState 0) k = k (.iload_n 0) 0 0 0 [] := rfl
theorem tbX7_needState_1 {k : Instr → Nat → Nat → Nat → List Nat → Prop} : xse (xFind tbX7_needState 1) k = k (.ifCond .ne 14) 15 0 0 [] := rfl
theorem tbX7_needState_4 {k : Instr → Nat → Nat → Nat → List Nat → Prop} : xse (xFind tbX7_needState 4) k = k (.new 171) 1 0 0 [] := rfl
theorem tbX7_needState_15 {k : Instr → Nat → Nat → Nat → List Nat → Prop} : xse (xFind tbX7_needState 15) k = k (.return_) 0 0 0 [] := rfl

def spX7_needState (W9 : xWd) : xSp cS := (fun av S => (1, 6), fun av S K => ∃ (z : Int32), av = [.int z] ∧ ((z = 0 ∨ z = 1) ∧ ((¬ z = 0 → K rV S) ∧ (z = 0 → K (rX "java/lang/IllegalStateException") S))))
theorem spcX7_needState {av : List Value} {S : cS} {W9 : xWd} : (spX7_needState W9).1 av S = (1, 6) := rfl
theorem spwX7_needState {S : cS} {W9 : xWd} {K : xRes → cS → Prop} {z : Int32} : (spX7_needState W9).2 [.int z] S K = ((z = 0 ∨ z = 1) ∧ ((¬ z = 0 → K rV S) ∧ (z = 0 → K (rX "java/lang/IllegalStateException") S))) :=
  propext ⟨fun h => by
    simp only [spX7_needState] at h
    obtain ⟨_, e, h⟩ := h
    simp only [List.cons.injEq, Value.int.injEq, Value.ref.injEq, rf_eq, and_true, true_and] at e
    obtain rfl := e
    exact h, fun h => ⟨_, rfl, h⟩⟩

def thfX7_needState : Nat → String := fun n => match n with | 0 => "java/lang/IllegalStateException" | _ => ""

theorem thfX7_needState_0 : thfX7_needState 0 = "java/lang/IllegalStateException" := rfl

theorem trX7_needState (l : Launch) (hl : l.stackTraces = false) (W9 : xWd) : xThrOK l W9 thfX7_needState thX7_needState RX7 cX7_needState wsX7_needState 6 90 1 := by
  intro A p e R s m args below meth c hF hL hb hx hml hown hts hAmb hlocks hext
  exact List.forall_mem_cons.mpr ⟨xTR_SW (text := "as things stand, this cannot be done") hl hx hb hml hown hts hAmb hlocks hext (by decide +kernel) (ik := 171) (is := 415) (ic := 175) (by decide +kernel) (by decide +kernel) (by decide +kernel) (atin_of (by decide +kernel)) xng_ise xgood_ise (by decide +kernel) (by decide +kernel) (by decide +kernel) (by decide +kernel) (by decide +kernel) (by rw [hF, hL]; decide),
    fun _ h => nomatch h⟩

set_option maxHeartbeats 4000000 in
set_option maxRecDepth 20000 in
theorem semX7_needState (l : Launch) (hl : l.stackTraces = false) (W9 : xWd) : xSem l W9 (cI) yX7_needState wsX7_needState 6 90 (spX7_needState W9) := by
  refine xSem_of (call := fun _ => none) (thrf := thfX7_needState) cI_law (by decide +kernel) rfl ckX7_needState usX7_needState xCallsOK_nil (trX7_needState l hl W9) ?_ ?_
  · intro av S KF h
    obtain ⟨z, rfl, h⟩ := h
    exact ⟨by intro v hv; simp only [List.mem_cons, List.not_mem_nil, or_false] at hv; rcases hv with rfl <;> first | rfl | exact cat_rf, Nat.le_of_ble_eq_true rfl⟩
  intro av S KF h G hG
  obtain ⟨z, rfl, h⟩ := h
  rw [show (spX7_needState W9).1 _ S = _ from spcX7_needState] at hG
  try dsimp only at hG
  change G 0 [some (.int z)] [] S 0 0
  obtain ⟨hz, h1, h2⟩ := h
  refine xgo0 hG (fun fu hfu => ?_)
  clear hG
  simp only [↓vm_ifCond_ne, ↓vm_iload_n, ↓vm_newX, ↓vm_return_, ↓tbX7_needState_0, ↓tbX7_needState_1, ↓tbX7_needState_4, ↓tbX7_needState_15, hfu, xstep0, xJ1_hit, xJ1_go, xJ2_hit1, xJ2_hit2, xJ2_go, ↓xif_t, ↓xif_f, seval, ↓xca_eq, ↓xre_l, ↓xre_r, xmask_t, xmask_f, xmask_nil, ↓xst_eq, xX_eq, eI_eq, eMc_eq, eMs_eq, eF_eq, eThr_eq, ↓xS1_mk, ↓xSI_mk, ↓xSR_mk, ↓xLI_0, ↓xLI_s, ↓xLR_0, ↓xLR_s, vRef_ref, vRef_null, vRef_rf, cat_int, cat_ref, cat_null, cat_rf, rf_some, rf_none, rf_null, rf_eq, rf_ref, ref_rf, ref_null, ref_ref, xOk_0, xOk_1, xOk_2r, xOk_2n, xOk_2f, vOpt_rf, vOpt_ref, vOpt_null, List.set_cons_zero, List.set_cons_succ, List.take_succ_cons, List.take_zero, List.drop_succ_cons, List.drop_zero, List.reverse_cons, List.reverse_nil, List.nil_append, List.cons_append, List.append_nil, List.length_cons, List.length_nil, List.map_cons, List.map_nil, List.sum_cons, List.sum_nil, Option.toList_some, Option.toList_none, xRecv_mk, true_and, and_true, true_implies, Nat.reduceAdd, Nat.reduceLeDiff, Nat.zero_le, Nat.le_refl, Nat.add_zero, Nat.zero_add, reduceIte, not_true_eq_false, not_false_eq_true, false_implies, and_self, implies_true, eq_self, Nat.reduceEqDiff, List.cons.injEq, xsn_1, xsn_2, false_and, and_false, or_false, false_or, or_true, true_or, xsn_3, xsn_4, thfX7_needState_0]
  try simp only [xif_e]
  grind

def tbX7_needArgument : List (Nat × xHint) := [(0, .iload_n 0, 0, 0, 0, []), (1, .ifCond .ne 14, 15, 0, 0, []), (4, .new 408, 1, 0, 0, []), (15, .return_, 0, 0, 0, [])]
def clX7_needArgument : List (Instr × Nat × Nat × Nat) := []
def thX7_needArgument : List (Nat × Nat) := [(4, 0)]
theorem ckX7_needArgument : tbX7_needArgument.all (xRow RX7 cX7_needArgument wsX7_needArgument vwCl [] clX7_needArgument thX7_needArgument 1 (yX7_needArgument.name == "<init>") none) = true := xRow_q 0xb1bf9c01b79a0113599801bb0e009a1a 16 (by decide +kernel) (by decide +kernel)
theorem usX7_needArgument : xUse wsX7_needArgument vwCl [] = true := xUse_n
theorem tbX7_needArgument_0 {k : Instr → Nat → Nat → Nat → List Nat → Prop} : xse (xFind tbX7_needArgument 0) k = k (.iload_n 0) 0 0 0 [] := rfl
theorem tbX7_needArgument_1 {k : Instr → Nat → Nat → Nat → List Nat → Prop} : xse (xFind tbX7_needArgument 1) k = k (.ifCond .ne 14) 15 0 0 [] := rfl
theorem tbX7_needArgument_4 {k : Instr → Nat → Nat → Nat → List Nat → Prop} : xse (xFind tbX7_needArgument 4) k = k (.new 408) 1 0 0 [] := rfl
theorem tbX7_needArgument_15 {k : Instr → Nat → Nat → Nat → List Nat → Prop} : xse (xFind tbX7_needArgument 15) k = k (.return_) 0 0 0 [] := rfl

def spX7_needArgument (W9 : xWd) : xSp cS := (fun av S => (1, 6), fun av S K => ∃ (z : Int32), av = [.int z] ∧ ((z = 0 ∨ z = 1) ∧ ((¬ z = 0 → K rV S) ∧ (z = 0 → K (rX "java/lang/IllegalArgumentException") S))))
theorem spcX7_needArgument {av : List Value} {S : cS} {W9 : xWd} : (spX7_needArgument W9).1 av S = (1, 6) := rfl
theorem spwX7_needArgument {S : cS} {W9 : xWd} {K : xRes → cS → Prop} {z : Int32} : (spX7_needArgument W9).2 [.int z] S K = ((z = 0 ∨ z = 1) ∧ ((¬ z = 0 → K rV S) ∧ (z = 0 → K (rX "java/lang/IllegalArgumentException") S))) :=
  propext ⟨fun h => by
    simp only [spX7_needArgument] at h
    obtain ⟨_, e, h⟩ := h
    simp only [List.cons.injEq, Value.int.injEq, Value.ref.injEq, rf_eq, and_true, true_and] at e
    obtain rfl := e
    exact h, fun h => ⟨_, rfl, h⟩⟩

def thfX7_needArgument : Nat → String := fun n => match n with | 0 => "java/lang/IllegalArgumentException" | _ => ""

theorem thfX7_needArgument_0 : thfX7_needArgument 0 = "java/lang/IllegalArgumentException" := rfl

theorem trX7_needArgument (l : Launch) (hl : l.stackTraces = false) (W9 : xWd) : xThrOK l W9 thfX7_needArgument thX7_needArgument RX7 cX7_needArgument wsX7_needArgument 6 90 1 := by
  intro A p e R s m args below meth c hF hL hb hx hml hown hts hAmb hlocks hext
  exact List.forall_mem_cons.mpr ⟨xTR_SW (text := "the argument is not allowed") hl hx hb hml hown hts hAmb hlocks hext (by decide +kernel) (ik := 408) (is := 410) (ic := 412) (by decide +kernel) (by decide +kernel) (by decide +kernel) (atin_of (by decide +kernel)) xng_iae xgood_iae (by decide +kernel) (by decide +kernel) (by decide +kernel) (by decide +kernel) (by decide +kernel) (by rw [hF, hL]; decide),
    fun _ h => nomatch h⟩

set_option maxHeartbeats 4000000 in
set_option maxRecDepth 20000 in
theorem semX7_needArgument (l : Launch) (hl : l.stackTraces = false) (W9 : xWd) : xSem l W9 (cI) yX7_needArgument wsX7_needArgument 6 90 (spX7_needArgument W9) := by
  refine xSem_of (call := fun _ => none) (thrf := thfX7_needArgument) cI_law (by decide +kernel) rfl ckX7_needArgument usX7_needArgument xCallsOK_nil (trX7_needArgument l hl W9) ?_ ?_
  · intro av S KF h
    obtain ⟨z, rfl, h⟩ := h
    exact ⟨by intro v hv; simp only [List.mem_cons, List.not_mem_nil, or_false] at hv; rcases hv with rfl <;> first | rfl | exact cat_rf, Nat.le_of_ble_eq_true rfl⟩
  intro av S KF h G hG
  obtain ⟨z, rfl, h⟩ := h
  rw [show (spX7_needArgument W9).1 _ S = _ from spcX7_needArgument] at hG
  try dsimp only at hG
  change G 0 [some (.int z)] [] S 0 0
  obtain ⟨hz, h1, h2⟩ := h
  refine xgo0 hG (fun fu hfu => ?_)
  clear hG
  simp only [↓vm_ifCond_ne, ↓vm_iload_n, ↓vm_newX, ↓vm_return_, ↓tbX7_needArgument_0, ↓tbX7_needArgument_1, ↓tbX7_needArgument_4, ↓tbX7_needArgument_15, hfu, xstep0, xJ1_hit, xJ1_go, xJ2_hit1, xJ2_hit2, xJ2_go, ↓xif_t, ↓xif_f, seval, ↓xca_eq, ↓xre_l, ↓xre_r, xmask_t, xmask_f, xmask_nil, ↓xst_eq, xX_eq, eI_eq, eMc_eq, eMs_eq, eF_eq, eThr_eq, ↓xS1_mk, ↓xSI_mk, ↓xSR_mk, ↓xLI_0, ↓xLI_s, ↓xLR_0, ↓xLR_s, vRef_ref, vRef_null, vRef_rf, cat_int, cat_ref, cat_null, cat_rf, rf_some, rf_none, rf_null, rf_eq, rf_ref, ref_rf, ref_null, ref_ref, xOk_0, xOk_1, xOk_2r, xOk_2n, xOk_2f, vOpt_rf, vOpt_ref, vOpt_null, List.set_cons_zero, List.set_cons_succ, List.take_succ_cons, List.take_zero, List.drop_succ_cons, List.drop_zero, List.reverse_cons, List.reverse_nil, List.nil_append, List.cons_append, List.append_nil, List.length_cons, List.length_nil, List.map_cons, List.map_nil, List.sum_cons, List.sum_nil, Option.toList_some, Option.toList_none, xRecv_mk, true_and, and_true, true_implies, Nat.reduceAdd, Nat.reduceLeDiff, Nat.zero_le, Nat.le_refl, Nat.add_zero, Nat.zero_add, reduceIte, not_true_eq_false, not_false_eq_true, false_implies, and_self, implies_true, eq_self, Nat.reduceEqDiff, List.cons.injEq, xsn_1, xsn_2, false_and, and_false, or_false, false_or, or_true, true_or, xsn_3, xsn_4, thfX7_needArgument_0]
  try simp only [xif_e]
  grind

def tbX7_needWithin : List (Nat × xHint) := [(0, .iload_n 0, 0, 0, 0, []), (1, .iload_n 1, 1, 0, 0, []), (2, .if_icmp .lt 8, 10, 0, 0, []), (5, .iload_n 0, 0, 0, 0, []), (6, .iload_n 2, 2, 0, 0, []), (7, .if_icmp .le 14, 21, 0, 0, []), (10, .new 408, 1, 0, 0, []), (21, .return_, 0, 0, 0, [])]
def clX7_needWithin : List (Instr × Nat × Nat × Nat) := []
def thX7_needWithin : List (Nat × Nat) := [(10, 0)]
theorem ckX7_needWithin : tbX7_needWithin.all (xRow RX7 cX7_needWithin wsX7_needWithin vwCl [] clX7_needWithin thX7_needWithin 3 (yX7_needWithin.name == "<init>") none) = true := xRow_q 0xb1bf9c01b79d0113599801bb0e00a41c1a0800a11b1a 22 (by decide +kernel) (by decide +kernel)
theorem usX7_needWithin : xUse wsX7_needWithin vwCl [] = true := xUse_n
theorem tbX7_needWithin_0 {k : Instr → Nat → Nat → Nat → List Nat → Prop} : xse (xFind tbX7_needWithin 0) k = k (.iload_n 0) 0 0 0 [] := rfl
theorem tbX7_needWithin_1 {k : Instr → Nat → Nat → Nat → List Nat → Prop} : xse (xFind tbX7_needWithin 1) k = k (.iload_n 1) 1 0 0 [] := rfl
theorem tbX7_needWithin_2 {k : Instr → Nat → Nat → Nat → List Nat → Prop} : xse (xFind tbX7_needWithin 2) k = k (.if_icmp .lt 8) 10 0 0 [] := rfl
theorem tbX7_needWithin_5 {k : Instr → Nat → Nat → Nat → List Nat → Prop} : xse (xFind tbX7_needWithin 5) k = k (.iload_n 0) 0 0 0 [] := rfl
theorem tbX7_needWithin_6 {k : Instr → Nat → Nat → Nat → List Nat → Prop} : xse (xFind tbX7_needWithin 6) k = k (.iload_n 2) 2 0 0 [] := rfl
theorem tbX7_needWithin_7 {k : Instr → Nat → Nat → Nat → List Nat → Prop} : xse (xFind tbX7_needWithin 7) k = k (.if_icmp .le 14) 21 0 0 [] := rfl
theorem tbX7_needWithin_10 {k : Instr → Nat → Nat → Nat → List Nat → Prop} : xse (xFind tbX7_needWithin 10) k = k (.new 408) 1 0 0 [] := rfl
theorem tbX7_needWithin_21 {k : Instr → Nat → Nat → Nat → List Nat → Prop} : xse (xFind tbX7_needWithin 21) k = k (.return_) 0 0 0 [] := rfl

def spX7_needWithin (W9 : xWd) : xSp cS := (fun av S => (1, 6), fun av S K => ∃ (v : Int32) (a : Int32) (b : Int32), av = [.int v, .int a, .int b] ∧ ((a ≤ v ∧ v ≤ b → K rV S) ∧ (¬ (a ≤ v ∧ v ≤ b) → K (rX "java/lang/IllegalArgumentException") S)))
theorem spcX7_needWithin {av : List Value} {S : cS} {W9 : xWd} : (spX7_needWithin W9).1 av S = (1, 6) := rfl
theorem spwX7_needWithin {S : cS} {W9 : xWd} {K : xRes → cS → Prop} {v : Int32} {a : Int32} {b : Int32} : (spX7_needWithin W9).2 [.int v, .int a, .int b] S K = ((a ≤ v ∧ v ≤ b → K rV S) ∧ (¬ (a ≤ v ∧ v ≤ b) → K (rX "java/lang/IllegalArgumentException") S)) :=
  propext ⟨fun h => by
    simp only [spX7_needWithin] at h
    obtain ⟨_, _, _, e, h⟩ := h
    simp only [List.cons.injEq, Value.int.injEq, Value.ref.injEq, rf_eq, and_true, true_and] at e
    obtain ⟨rfl, rfl, rfl⟩ := e
    exact h, fun h => ⟨_, _, _, rfl, h⟩⟩

def thfX7_needWithin : Nat → String := fun n => match n with | 0 => "java/lang/IllegalArgumentException" | _ => ""

theorem thfX7_needWithin_0 : thfX7_needWithin 0 = "java/lang/IllegalArgumentException" := rfl

theorem trX7_needWithin (l : Launch) (hl : l.stackTraces = false) (W9 : xWd) : xThrOK l W9 thfX7_needWithin thX7_needWithin RX7 cX7_needWithin wsX7_needWithin 6 90 3 := by
  intro A p e R s m args below meth c hF hL hb hx hml hown hts hAmb hlocks hext
  exact List.forall_mem_cons.mpr ⟨xTR_SW (text := "the argument is out of range") hl hx hb hml hown hts hAmb hlocks hext (by decide +kernel) (ik := 408) (is := 413) (ic := 412) (by decide +kernel) (by decide +kernel) (by decide +kernel) (atin_of (by decide +kernel)) xng_iae xgood_iae (by decide +kernel) (by decide +kernel) (by decide +kernel) (by decide +kernel) (by decide +kernel) (by rw [hF, hL]; decide),
    fun _ h => nomatch h⟩

set_option maxHeartbeats 4000000 in
set_option maxRecDepth 20000 in
theorem semX7_needWithin (l : Launch) (hl : l.stackTraces = false) (W9 : xWd) : xSem l W9 (cI) yX7_needWithin wsX7_needWithin 6 90 (spX7_needWithin W9) := by
  refine xSem_of (call := fun _ => none) (thrf := thfX7_needWithin) cI_law (by decide +kernel) rfl ckX7_needWithin usX7_needWithin xCallsOK_nil (trX7_needWithin l hl W9) ?_ ?_
  · intro av S KF h
    obtain ⟨v, a, b, rfl, h⟩ := h
    exact ⟨by intro v hv; simp only [List.mem_cons, List.not_mem_nil, or_false] at hv; rcases hv with rfl | rfl | rfl <;> first | rfl | exact cat_rf, Nat.le_of_ble_eq_true rfl⟩
  intro av S KF h G hG
  obtain ⟨v, a, b, rfl, h⟩ := h
  rw [show (spX7_needWithin W9).1 _ S = _ from spcX7_needWithin] at hG
  try dsimp only at hG
  change G 0 [some (.int v), some (.int a), some (.int b)] [] S 0 0
  obtain ⟨h1, h2⟩ := h
  refine xgo0 hG (fun fu hfu => ?_)
  clear hG
  simp only [↓vm_if_icmp_le, ↓vm_if_icmp_lt, ↓vm_iload_n, ↓vm_newX, ↓vm_return_, ↓tbX7_needWithin_0, ↓tbX7_needWithin_1, ↓tbX7_needWithin_2, ↓tbX7_needWithin_5, ↓tbX7_needWithin_6, ↓tbX7_needWithin_7, ↓tbX7_needWithin_10, ↓tbX7_needWithin_21, hfu, xstep0, xJ1_hit, xJ1_go, xJ2_hit1, xJ2_hit2, xJ2_go, ↓xif_t, ↓xif_f, seval, ↓xca_eq, ↓xre_l, ↓xre_r, xmask_t, xmask_f, xmask_nil, ↓xst_eq, xX_eq, eI_eq, eMc_eq, eMs_eq, eF_eq, eThr_eq, ↓xS1_mk, ↓xSI_mk, ↓xSR_mk, ↓xLI_0, ↓xLI_s, ↓xLR_0, ↓xLR_s, vRef_ref, vRef_null, vRef_rf, cat_int, cat_ref, cat_null, cat_rf, rf_some, rf_none, rf_null, rf_eq, rf_ref, ref_rf, ref_null, ref_ref, xOk_0, xOk_1, xOk_2r, xOk_2n, xOk_2f, vOpt_rf, vOpt_ref, vOpt_null, List.set_cons_zero, List.set_cons_succ, List.take_succ_cons, List.take_zero, List.drop_succ_cons, List.drop_zero, List.reverse_cons, List.reverse_nil, List.nil_append, List.cons_append, List.append_nil, List.length_cons, List.length_nil, List.map_cons, List.map_nil, List.sum_cons, List.sum_nil, Option.toList_some, Option.toList_none, xRecv_mk, true_and, and_true, true_implies, Nat.reduceAdd, Nat.reduceLeDiff, Nat.zero_le, Nat.le_refl, Nat.add_zero, Nat.zero_add, reduceIte, not_true_eq_false, not_false_eq_true, false_implies, and_self, implies_true, eq_self, Nat.reduceEqDiff, List.cons.injEq, xsn_1, xsn_2, false_and, and_false, or_false, false_or, or_true, true_or, xsn_3, xsn_4, thfX7_needWithin_0]
  try simp only [xif_e]
  repeat' (first | with_reducible apply And.intro | with_reducible intro _)
  all_goals grind

def tbX7_needIndex : List (Nat × xHint) := [(0, .iload_n 0, 0, 0, 0, []), (1, .ifCond .lt 8, 9, 0, 0, []), (4, .iload_n 0, 0, 0, 0, []), (5, .iload_n 1, 1, 0, 0, []), (6, .if_icmp .lt 14, 20, 0, 0, []), (9, .new 347, 1, 0, 0, []), (20, .return_, 0, 0, 0, [])]
def clX7_needIndex : List (Instr × Nat × Nat × Nat) := []
def thX7_needIndex : List (Nat × Nat) := [(9, 0)]
theorem ckX7_needIndex : tbX7_needIndex.all (xRow RX7 cX7_needIndex wsX7_needIndex vwCl [] clX7_needIndex thX7_needIndex 2 (yX7_needIndex.name == "<init>") none) = true := xRow_q 0xb1bf5f01b7a10113595b01bb0e00a11b1a08009b1a 21 (by decide +kernel) (by decide +kernel)
theorem usX7_needIndex : xUse wsX7_needIndex vwCl [] = true := xUse_n
theorem tbX7_needIndex_0 {k : Instr → Nat → Nat → Nat → List Nat → Prop} : xse (xFind tbX7_needIndex 0) k = k (.iload_n 0) 0 0 0 [] := rfl
theorem tbX7_needIndex_1 {k : Instr → Nat → Nat → Nat → List Nat → Prop} : xse (xFind tbX7_needIndex 1) k = k (.ifCond .lt 8) 9 0 0 [] := rfl
theorem tbX7_needIndex_4 {k : Instr → Nat → Nat → Nat → List Nat → Prop} : xse (xFind tbX7_needIndex 4) k = k (.iload_n 0) 0 0 0 [] := rfl
theorem tbX7_needIndex_5 {k : Instr → Nat → Nat → Nat → List Nat → Prop} : xse (xFind tbX7_needIndex 5) k = k (.iload_n 1) 1 0 0 [] := rfl
theorem tbX7_needIndex_6 {k : Instr → Nat → Nat → Nat → List Nat → Prop} : xse (xFind tbX7_needIndex 6) k = k (.if_icmp .lt 14) 20 0 0 [] := rfl
theorem tbX7_needIndex_9 {k : Instr → Nat → Nat → Nat → List Nat → Prop} : xse (xFind tbX7_needIndex 9) k = k (.new 347) 1 0 0 [] := rfl
theorem tbX7_needIndex_20 {k : Instr → Nat → Nat → Nat → List Nat → Prop} : xse (xFind tbX7_needIndex 20) k = k (.return_) 0 0 0 [] := rfl

def spX7_needIndex (W9 : xWd) : xSp cS := (fun av S => (1, 6), fun av S K => ∃ (v : Int32) (n : Int32), av = [.int v, .int n] ∧ ((0 ≤ v ∧ v < n → K rV S) ∧ (¬ (0 ≤ v ∧ v < n) → K (rX "java/lang/IndexOutOfBoundsException") S)))
theorem spcX7_needIndex {av : List Value} {S : cS} {W9 : xWd} : (spX7_needIndex W9).1 av S = (1, 6) := rfl
theorem spwX7_needIndex {S : cS} {W9 : xWd} {K : xRes → cS → Prop} {v : Int32} {n : Int32} : (spX7_needIndex W9).2 [.int v, .int n] S K = ((0 ≤ v ∧ v < n → K rV S) ∧ (¬ (0 ≤ v ∧ v < n) → K (rX "java/lang/IndexOutOfBoundsException") S)) :=
  propext ⟨fun h => by
    simp only [spX7_needIndex] at h
    obtain ⟨_, _, e, h⟩ := h
    simp only [List.cons.injEq, Value.int.injEq, Value.ref.injEq, rf_eq, and_true, true_and] at e
    obtain ⟨rfl, rfl⟩ := e
    exact h, fun h => ⟨_, _, rfl, h⟩⟩

def thfX7_needIndex : Nat → String := fun n => match n with | 0 => "java/lang/IndexOutOfBoundsException" | _ => ""

theorem thfX7_needIndex_0 : thfX7_needIndex 0 = "java/lang/IndexOutOfBoundsException" := rfl

theorem trX7_needIndex (l : Launch) (hl : l.stackTraces = false) (W9 : xWd) : xThrOK l W9 thfX7_needIndex thX7_needIndex RX7 cX7_needIndex wsX7_needIndex 6 90 2 := by
  intro A p e R s m args below meth c hF hL hb hx hml hown hts hAmb hlocks hext
  exact List.forall_mem_cons.mpr ⟨xTR_SW (text := "there is no such number") hl hx hb hml hown hts hAmb hlocks hext (by decide +kernel) (ik := 347) (is := 417) (ic := 351) (by decide +kernel) (by decide +kernel) (by decide +kernel) (atin_of (by decide +kernel)) xng_ioobe xgood_ioobe (by decide +kernel) (by decide +kernel) (by decide +kernel) (by decide +kernel) (by decide +kernel) (by rw [hF, hL]; decide),
    fun _ h => nomatch h⟩

set_option maxHeartbeats 4000000 in
set_option maxRecDepth 20000 in
theorem semX7_needIndex (l : Launch) (hl : l.stackTraces = false) (W9 : xWd) : xSem l W9 (cI) yX7_needIndex wsX7_needIndex 6 90 (spX7_needIndex W9) := by
  refine xSem_of (call := fun _ => none) (thrf := thfX7_needIndex) cI_law (by decide +kernel) rfl ckX7_needIndex usX7_needIndex xCallsOK_nil (trX7_needIndex l hl W9) ?_ ?_
  · intro av S KF h
    obtain ⟨v, n, rfl, h⟩ := h
    exact ⟨by intro v hv; simp only [List.mem_cons, List.not_mem_nil, or_false] at hv; rcases hv with rfl | rfl <;> first | rfl | exact cat_rf, Nat.le_of_ble_eq_true rfl⟩
  intro av S KF h G hG
  obtain ⟨v, n, rfl, h⟩ := h
  rw [show (spX7_needIndex W9).1 _ S = _ from spcX7_needIndex] at hG
  try dsimp only at hG
  change G 0 [some (.int v), some (.int n)] [] S 0 0
  obtain ⟨h1, h2⟩ := h
  refine xgo0 hG (fun fu hfu => ?_)
  clear hG
  simp only [↓vm_ifCond_lt, ↓vm_if_icmp_lt, ↓vm_iload_n, ↓vm_newX, ↓vm_return_, ↓tbX7_needIndex_0, ↓tbX7_needIndex_1, ↓tbX7_needIndex_4, ↓tbX7_needIndex_5, ↓tbX7_needIndex_6, ↓tbX7_needIndex_9, ↓tbX7_needIndex_20, hfu, xstep0, xJ1_hit, xJ1_go, xJ2_hit1, xJ2_hit2, xJ2_go, ↓xif_t, ↓xif_f, seval, ↓xca_eq, ↓xre_l, ↓xre_r, xmask_t, xmask_f, xmask_nil, ↓xst_eq, xX_eq, eI_eq, eMc_eq, eMs_eq, eF_eq, eThr_eq, ↓xS1_mk, ↓xSI_mk, ↓xSR_mk, ↓xLI_0, ↓xLI_s, ↓xLR_0, ↓xLR_s, vRef_ref, vRef_null, vRef_rf, cat_int, cat_ref, cat_null, cat_rf, rf_some, rf_none, rf_null, rf_eq, rf_ref, ref_rf, ref_null, ref_ref, xOk_0, xOk_1, xOk_2r, xOk_2n, xOk_2f, vOpt_rf, vOpt_ref, vOpt_null, List.set_cons_zero, List.set_cons_succ, List.take_succ_cons, List.take_zero, List.drop_succ_cons, List.drop_zero, List.reverse_cons, List.reverse_nil, List.nil_append, List.cons_append, List.append_nil, List.length_cons, List.length_nil, List.map_cons, List.map_nil, List.sum_cons, List.sum_nil, Option.toList_some, Option.toList_none, xRecv_mk, true_and, and_true, true_implies, Nat.reduceAdd, Nat.reduceLeDiff, Nat.zero_le, Nat.le_refl, Nat.add_zero, Nat.zero_add, reduceIte, not_true_eq_false, not_false_eq_true, false_implies, and_self, implies_true, eq_self, Nat.reduceEqDiff, List.cons.injEq, xsn_1, xsn_2, false_and, and_false, or_false, false_or, or_true, true_or, xsn_3, xsn_4, thfX7_needIndex_0]
  try simp only [xif_e]
  repeat' (first | with_reducible apply And.intro | with_reducible intro _)
  all_goals grind

def tbX7_needPoint : List (Nat × xHint) := [(0, .iload_n 0, 0, 0, 0, []), (1, .bipush 8, 0, 0, 0, []), (3, .invokestatic 261, 0, 2, 0, []), (6, .return_, 0, 0, 0, [])]
def clX7_needPoint : List (Instr × Nat × Nat × Nat) := [(.invokestatic 261, 0, 2, 0)]
def thX7_needPoint : List (Nat × Nat) := []
theorem ckX7_needPoint : tbX7_needPoint.all (xRow RX7 cX7_needPoint wsX7_needPoint vwCl [] clX7_needPoint thX7_needPoint 1 (yX7_needPoint.name == "<init>") none) = true := xRow_q 0xb10501b808101a 7 (by decide +kernel) (by decide +kernel)
theorem usX7_needPoint : xUse wsX7_needPoint vwCl [] = true := xUse_n
theorem tbX7_needPoint_0 {k : Instr → Nat → Nat → Nat → List Nat → Prop} : xse (xFind tbX7_needPoint 0) k = k (.iload_n 0) 0 0 0 [] := rfl
theorem tbX7_needPoint_1 {k : Instr → Nat → Nat → Nat → List Nat → Prop} : xse (xFind tbX7_needPoint 1) k = k (.bipush 8) 0 0 0 [] := rfl
theorem tbX7_needPoint_3 {k : Instr → Nat → Nat → Nat → List Nat → Prop} : xse (xFind tbX7_needPoint 3) k = k (.invokestatic 261) 0 2 0 [] := rfl
theorem tbX7_needPoint_6 {k : Instr → Nat → Nat → Nat → List Nat → Prop} : xse (xFind tbX7_needPoint 6) k = k (.return_) 0 0 0 [] := rfl

def spX7_needPoint (W9 : xWd) : xSp cS := (fun av S => (1, 6), fun av S K => ∃ (v : Int32), av = [.int v] ∧ ((0 ≤ v ∧ v < 8 → K rV S) ∧ (¬ (0 ≤ v ∧ v < 8) → K (rX "java/lang/IndexOutOfBoundsException") S)))
theorem spcX7_needPoint {av : List Value} {S : cS} {W9 : xWd} : (spX7_needPoint W9).1 av S = (1, 6) := rfl
theorem spwX7_needPoint {S : cS} {W9 : xWd} {K : xRes → cS → Prop} {v : Int32} : (spX7_needPoint W9).2 [.int v] S K = ((0 ≤ v ∧ v < 8 → K rV S) ∧ (¬ (0 ≤ v ∧ v < 8) → K (rX "java/lang/IndexOutOfBoundsException") S)) :=
  propext ⟨fun h => by
    simp only [spX7_needPoint] at h
    obtain ⟨_, e, h⟩ := h
    simp only [List.cons.injEq, Value.int.injEq, Value.ref.injEq, rf_eq, and_true, true_and] at e
    obtain rfl := e
    exact h, fun h => ⟨_, rfl, h⟩⟩

def callX7_needPoint (W9 : xWd) : Nat → Option (xSp cS) := fun n => match n with | 0 => some (spX7_needIndex W9) | _ => none

theorem callX7_needPoint_0 {W9 : xWd} {k : xSp cS → Prop} : xcs (callX7_needPoint W9 0) k = k (spX7_needIndex W9) := rfl

theorem crX7_needPoint (l : Launch) (hl : l.stackTraces = false) (W9 : xWd) : xCallsOK l W9 (cI) (callX7_needPoint W9) clX7_needPoint RX7 wsX7_needPoint 7 111 1 := by
  intro E A p e R s m args below meth c hI hF hL X
  exact List.forall_mem_cons.mpr ⟨⟨_, rfl, xCR_S X (by rw [hI]; exact (semX7_needIndex l hl W9)) gX7_needPoint_X7_needIndex rfl (by decide +kernel) (by rw [hF, hL]; decide)⟩,
    fun _ h => nomatch h⟩

set_option maxHeartbeats 4000000 in
set_option maxRecDepth 20000 in
theorem semX7_needPoint (l : Launch) (hl : l.stackTraces = false) (W9 : xWd) : xSem l W9 (cI) yX7_needPoint wsX7_needPoint 7 111 (spX7_needPoint W9) := by
  refine xSem_of (call := callX7_needPoint W9) (thrf := fun _ => "") cI_law (by decide +kernel) rfl ckX7_needPoint usX7_needPoint (crX7_needPoint l hl W9) xThrOK_nil ?_ ?_
  · intro av S KF h
    obtain ⟨v, rfl, h⟩ := h
    exact ⟨by intro v hv; simp only [List.mem_cons, List.not_mem_nil, or_false] at hv; rcases hv with rfl <;> first | rfl | exact cat_rf, Nat.le_of_ble_eq_true rfl⟩
  intro av S KF h G hG
  obtain ⟨v, rfl, h⟩ := h
  rw [show (spX7_needPoint W9).1 _ S = _ from spcX7_needPoint] at hG
  try dsimp only at hG
  change G 0 [some (.int v)] [] S 0 0
  obtain ⟨h1, h2⟩ := h
  refine xgo0 hG (fun fu hfu => ?_)
  clear hG
  simp only [↓callX7_needPoint_0, kb_8, kc_8, ↓vm_bipush, ↓vm_iload_n, ↓vm_invokestatic, ↓vm_return_, ↓xc_2, ↓tbX7_needPoint_0, ↓tbX7_needPoint_1, ↓tbX7_needPoint_3, ↓tbX7_needPoint_6, hfu, xstep0, xJ1_hit, xJ1_go, xJ2_hit1, xJ2_hit2, xJ2_go, ↓xif_t, ↓xif_f, seval, ↓xca_eq, ↓xre_l, ↓xre_r, xmask_t, xmask_f, xmask_nil, ↓xst_eq, xX_eq, eI_eq, eMc_eq, eMs_eq, eF_eq, eThr_eq, ↓xS1_mk, ↓xSI_mk, ↓xSR_mk, ↓xLI_0, ↓xLI_s, ↓xLR_0, ↓xLR_s, vRef_ref, vRef_null, vRef_rf, cat_int, cat_ref, cat_null, cat_rf, rf_some, rf_none, rf_null, rf_eq, rf_ref, ref_rf, ref_null, ref_ref, xOk_0, xOk_1, xOk_2r, xOk_2n, xOk_2f, vOpt_rf, vOpt_ref, vOpt_null, List.set_cons_zero, List.set_cons_succ, List.take_succ_cons, List.take_zero, List.drop_succ_cons, List.drop_zero, List.reverse_cons, List.reverse_nil, List.nil_append, List.cons_append, List.append_nil, List.length_cons, List.length_nil, List.map_cons, List.map_nil, List.sum_cons, List.sum_nil, Option.toList_some, Option.toList_none, xRecv_mk, true_and, and_true, true_implies, Nat.reduceAdd, Nat.reduceLeDiff, Nat.zero_le, Nat.le_refl, Nat.add_zero, Nat.zero_add, reduceIte, not_true_eq_false, not_false_eq_true, false_implies, and_self, implies_true, eq_self, Nat.reduceEqDiff, List.cons.injEq, xsn_1, xsn_2, false_and, and_false, or_false, false_or, or_true, true_or, xsn_3, xsn_4, ↓spwX7_needIndex, spcX7_needIndex]
  try simp only [xif_e]
  repeat' (first | with_reducible apply And.intro | with_reducible intro _)
  all_goals grind

def tbX7_needSection : List (Nat × xHint) := [(0, .iload_n 1, 1, 0, 0, []), (1, .ifCond .lt 14, 15, 0, 0, []), (4, .iload_n 1, 1, 0, 0, []), (5, .aload_n 0, 0, 0, 0, []), (6, .getfield 10, 8, 0, 2, []), (9, .invokevirtual 108, 0, 1, 0, []), (12, .if_icmp .lt 14, 26, 0, 0, []), (15, .new 347, 1, 0, 0, []), (26, .aload_n 0, 0, 0, 0, []), (27, .getfield 10, 8, 0, 2, []), (30, .iload_n 1, 1, 0, 0, []), (31, .invokevirtual 312, 1, 2, 0, []), (34, .checkcast 39, 6, 0, 0, []), (37, .areturn, 0, 0, 0, [])]
def clX7_needSection : List (Instr × Nat × Nat × Nat) := [(.invokevirtual 108, 0, 1, 0), (.invokevirtual 312, 1, 2, 0)]
def thX7_needSection : List (Nat × Nat) := [(15, 0)]
theorem ckX7_needSection : tbX7_needSection.all (xRow RX7 cX7_needSection wsX7_needSection vwCl [8] clX7_needSection thX7_needSection 2 (yX7_needSection.name == "<init>") (some (.object "Towmaster$Section"))) = true := xRow_q 0xb02700c03801b61b0a00b42abf5f01b7a30113595b01bb0e00a16c00b60a00b42a1b0e009b1b 38 (by decide +kernel) (by decide +kernel)
theorem usX7_needSection : xUse wsX7_needSection vwCl [8] = true := xUse_g rfl (lw_good lwl_X7_needSection lwl_X70 (by decide +kernel)) xUse_n
theorem tbX7_needSection_0 {k : Instr → Nat → Nat → Nat → List Nat → Prop} : xse (xFind tbX7_needSection 0) k = k (.iload_n 1) 1 0 0 [] := rfl
theorem tbX7_needSection_1 {k : Instr → Nat → Nat → Nat → List Nat → Prop} : xse (xFind tbX7_needSection 1) k = k (.ifCond .lt 14) 15 0 0 [] := rfl
theorem tbX7_needSection_4 {k : Instr → Nat → Nat → Nat → List Nat → Prop} : xse (xFind tbX7_needSection 4) k = k (.iload_n 1) 1 0 0 [] := rfl
theorem tbX7_needSection_5 {k : Instr → Nat → Nat → Nat → List Nat → Prop} : xse (xFind tbX7_needSection 5) k = k (.aload_n 0) 0 0 0 [] := rfl
theorem tbX7_needSection_6 {k : Instr → Nat → Nat → Nat → List Nat → Prop} : xse (xFind tbX7_needSection 6) k = k (.getfield 10) 8 0 2 [] := rfl
theorem tbX7_needSection_9 {k : Instr → Nat → Nat → Nat → List Nat → Prop} : xse (xFind tbX7_needSection 9) k = k (.invokevirtual 108) 0 1 0 [] := rfl
theorem tbX7_needSection_12 {k : Instr → Nat → Nat → Nat → List Nat → Prop} : xse (xFind tbX7_needSection 12) k = k (.if_icmp .lt 14) 26 0 0 [] := rfl
theorem tbX7_needSection_15 {k : Instr → Nat → Nat → Nat → List Nat → Prop} : xse (xFind tbX7_needSection 15) k = k (.new 347) 1 0 0 [] := rfl
theorem tbX7_needSection_26 {k : Instr → Nat → Nat → Nat → List Nat → Prop} : xse (xFind tbX7_needSection 26) k = k (.aload_n 0) 0 0 0 [] := rfl
theorem tbX7_needSection_27 {k : Instr → Nat → Nat → Nat → List Nat → Prop} : xse (xFind tbX7_needSection 27) k = k (.getfield 10) 8 0 2 [] := rfl
theorem tbX7_needSection_30 {k : Instr → Nat → Nat → Nat → List Nat → Prop} : xse (xFind tbX7_needSection 30) k = k (.iload_n 1) 1 0 0 [] := rfl
theorem tbX7_needSection_31 {k : Instr → Nat → Nat → Nat → List Nat → Prop} : xse (xFind tbX7_needSection 31) k = k (.invokevirtual 312) 1 2 0 [] := rfl
theorem tbX7_needSection_34 {k : Instr → Nat → Nat → Nat → List Nat → Prop} : xse (xFind tbX7_needSection 34) k = k (.checkcast 39) 6 0 0 [] := rfl
theorem tbX7_needSection_37 {k : Instr → Nat → Nat → Nat → List Nat → Prop} : xse (xFind tbX7_needSection 37) k = k (.areturn) 0 0 0 [] := rfl

def spX7_needSection (W9 : xWd) : xSp cS := (fun av S => (1, 6), fun av S K => ∃ (a : Nat) (k : Int32), av = [.ref a, .int k] ∧ (cK S a = 9 ∧ cIn S a 800 1 ∧ lAll S (cRf S a 800) 7 ∧ (0 ≤ k ∧ k < cFi S (cRf S a 800) 2 → K (rR (lG S (cRf S a 800) k.toNatClampNeg)) S) ∧ (¬ (0 ≤ k ∧ k < cFi S (cRf S a 800) 2) → K (rX "java/lang/IndexOutOfBoundsException") S)))
theorem spcX7_needSection {av : List Value} {S : cS} {W9 : xWd} : (spX7_needSection W9).1 av S = (1, 6) := rfl
theorem spwX7_needSection {S : cS} {W9 : xWd} {K : xRes → cS → Prop} {a : Nat} {k : Int32} : (spX7_needSection W9).2 [.ref a, .int k] S K = (cK S a = 9 ∧ cIn S a 800 1 ∧ lAll S (cRf S a 800) 7 ∧ (0 ≤ k ∧ k < cFi S (cRf S a 800) 2 → K (rR (lG S (cRf S a 800) k.toNatClampNeg)) S) ∧ (¬ (0 ≤ k ∧ k < cFi S (cRf S a 800) 2) → K (rX "java/lang/IndexOutOfBoundsException") S)) :=
  propext ⟨fun h => by
    simp only [spX7_needSection] at h
    obtain ⟨_, _, e, h⟩ := h
    simp only [List.cons.injEq, Value.int.injEq, Value.ref.injEq, rf_eq, and_true, true_and] at e
    obtain ⟨rfl, rfl⟩ := e
    exact h, fun h => ⟨_, _, rfl, h⟩⟩

def callX7_needSection (W9 : xWd) : Nat → Option (xSp cS) := fun n => match n with | 0 => some (spJx4a65c_size_8abf5 W9) | 1 => some (spJx4a65c_get_915e3 W9) | _ => none

theorem callX7_needSection_0 {W9 : xWd} {k : xSp cS → Prop} : xcs (callX7_needSection W9 0) k = k (spJx4a65c_size_8abf5 W9) := rfl

theorem callX7_needSection_1 {W9 : xWd} {k : xSp cS → Prop} : xcs (callX7_needSection W9 1) k = k (spJx4a65c_get_915e3 W9) := rfl

theorem crX7_needSection (l : Launch) (hl : l.stackTraces = false) (W9 : xWd) : xCallsOK l W9 (cI) (callX7_needSection W9) clX7_needSection RX7 wsX7_needSection 6 90 2 := by
  intro E A p e R s m args below meth c hI hF hL X
  exact List.forall_mem_cons.mpr ⟨⟨_, rfl, xCR_V X (by rw [hI]; exact (semJx4a65c_size_8abf5 l hl W9)) gX7_needSection_Jx4a65c_size_8abf5 rfl rfl (by decide +kernel) (by rw [hF, hL]; decide)⟩,
    List.forall_mem_cons.mpr ⟨⟨_, rfl, xCR_V X (by rw [hI]; exact (semJx4a65c_get_915e3 l hl W9)) gX7_needSection_Jx4a65c_get_915e3 rfl rfl (by decide +kernel) (by rw [hF, hL]; decide)⟩,
    fun _ h => nomatch h⟩⟩

def thfX7_needSection : Nat → String := fun n => match n with | 0 => "java/lang/IndexOutOfBoundsException" | _ => ""

theorem thfX7_needSection_0 : thfX7_needSection 0 = "java/lang/IndexOutOfBoundsException" := rfl

theorem trX7_needSection (l : Launch) (hl : l.stackTraces = false) (W9 : xWd) : xThrOK l W9 thfX7_needSection thX7_needSection RX7 cX7_needSection wsX7_needSection 6 90 2 := by
  intro A p e R s m args below meth c hF hL hb hx hml hown hts hAmb hlocks hext
  exact List.forall_mem_cons.mpr ⟨xTR_SW (text := "there is no such section") hl hx hb hml hown hts hAmb hlocks hext (by decide +kernel) (ik := 347) (is := 419) (ic := 351) (by decide +kernel) (by decide +kernel) (by decide +kernel) (atin_of (by decide +kernel)) xng_ioobe xgood_ioobe (by decide +kernel) (by decide +kernel) (by decide +kernel) (by decide +kernel) (by decide +kernel) (by rw [hF, hL]; decide),
    fun _ h => nomatch h⟩

set_option maxHeartbeats 4000000 in
set_option maxRecDepth 20000 in
theorem semX7_needSection (l : Launch) (hl : l.stackTraces = false) (W9 : xWd) : xSem l W9 (cI) yX7_needSection wsX7_needSection 6 90 (spX7_needSection W9) := by
  refine xSem_of (call := callX7_needSection W9) (thrf := thfX7_needSection) cI_law (by decide +kernel) rfl ckX7_needSection usX7_needSection (crX7_needSection l hl W9) (trX7_needSection l hl W9) ?_ ?_
  · intro av S KF h
    obtain ⟨a, k, rfl, h⟩ := h
    exact ⟨by intro v hv; simp only [List.mem_cons, List.not_mem_nil, or_false] at hv; rcases hv with rfl | rfl <;> first | rfl | exact cat_rf, Nat.le_of_ble_eq_true rfl⟩
  intro av S KF h G hG
  obtain ⟨a, k, rfl, h⟩ := h
  rw [show (spX7_needSection W9).1 _ S = _ from spcX7_needSection] at hG
  try dsimp only at hG
  change G 0 [some (.ref a), some (.int k)] [] S 0 0
  obtain ⟨h0, ⟨h1, h2⟩, h3a, h4, h5⟩ := h

  have h3 := h3a.1
  by_cases q : 0 ≤ k ∧ k < cFi S (cRf S a 800) 2
  · have h := h4 q
    obtain ⟨g1, g2⟩ := lAll_at h3a q.1 q.2
    have q1 : ¬ k < 0 := fun z => Int32.lt_irrefl (Int32.lt_of_lt_of_le z q.1)
    have q2 : ¬ cFi S (cRf S a 800) 2 ≤ k := fun z => Int32.lt_irrefl (Int32.lt_of_lt_of_le q.2 z)
    refine xgo0 hG (fun fu hfu => ?_)
    simp only [↓callX7_needSection_0, ↓callX7_needSection_1, ↓cg_8_0, cisa, ↓vm_aload_n, ↓vm_areturn, ↓vm_checkcast, ↓vm_getfield, ↓vm_ifCond_lt, ↓vm_if_icmp_lt, ↓vm_iload_n, ↓vm_invokevirtual, ↓vm_newX, ↓xc_1, ↓xc_2, ↓tbX7_needSection_0, ↓tbX7_needSection_1, ↓tbX7_needSection_4, ↓tbX7_needSection_5, ↓tbX7_needSection_6, ↓tbX7_needSection_9, ↓tbX7_needSection_12, ↓tbX7_needSection_15, ↓tbX7_needSection_26, ↓tbX7_needSection_27, ↓tbX7_needSection_30, ↓tbX7_needSection_31, ↓tbX7_needSection_34, ↓tbX7_needSection_37, hfu, xstep0, xJ1_hit, xJ1_go, xJ2_hit1, xJ2_hit2, xJ2_go, ↓xif_t, ↓xif_f, seval, ↓xca_eq, ↓xre_l, ↓xre_r, xmask_t, xmask_f, xmask_nil, ↓xst_eq, xX_eq, eI_eq, eMc_eq, eMs_eq, eF_eq, eThr_eq, ↓xS1_mk, ↓xSI_mk, ↓xSR_mk, ↓xLI_0, ↓xLI_s, ↓xLR_0, ↓xLR_s, vRef_ref, vRef_null, vRef_rf, cat_int, cat_ref, cat_null, cat_rf, rf_some, rf_none, rf_null, rf_eq, rf_ref, ref_rf, ref_null, ref_ref, xOk_0, xOk_1, xOk_2r, xOk_2n, xOk_2f, vOpt_rf, vOpt_ref, vOpt_null, List.set_cons_zero, List.set_cons_succ, List.take_succ_cons, List.take_zero, List.drop_succ_cons, List.drop_zero, List.reverse_cons, List.reverse_nil, List.nil_append, List.cons_append, List.append_nil, List.length_cons, List.length_nil, List.map_cons, List.map_nil, List.sum_cons, List.sum_nil, Option.toList_some, Option.toList_none, xRecv_mk, true_and, and_true, true_implies, Nat.reduceAdd, Nat.reduceLeDiff, Nat.zero_le, Nat.le_refl, Nat.add_zero, Nat.zero_add, reduceIte, not_true_eq_false, not_false_eq_true, false_implies, and_self, implies_true, eq_self, Nat.reduceEqDiff, List.cons.injEq, xsn_1, xsn_2, false_and, and_false, or_false, false_or, or_true, true_or, xsn_3, xsn_4, ↓spwJx4a65c_size_8abf5, spcJx4a65c_size_8abf5, ↓spwJx4a65c_get_915e3, spcJx4a65c_get_915e3, thfX7_needSection_0, h0, h1, h2, h3, q, q1, q2, g1, g2]
    try simp only [xif_e]
    exact h
  · have h := h5 q
    refine xgo0 hG (fun fu hfu => ?_)
    simp only [↓callX7_needSection_0, ↓callX7_needSection_1, ↓cg_8_0, cisa, ↓vm_aload_n, ↓vm_areturn, ↓vm_checkcast, ↓vm_getfield, ↓vm_ifCond_lt, ↓vm_if_icmp_lt, ↓vm_iload_n, ↓vm_invokevirtual, ↓vm_newX, ↓xc_1, ↓xc_2, ↓tbX7_needSection_0, ↓tbX7_needSection_1, ↓tbX7_needSection_4, ↓tbX7_needSection_5, ↓tbX7_needSection_6, ↓tbX7_needSection_9, ↓tbX7_needSection_12, ↓tbX7_needSection_15, ↓tbX7_needSection_26, ↓tbX7_needSection_27, ↓tbX7_needSection_30, ↓tbX7_needSection_31, ↓tbX7_needSection_34, ↓tbX7_needSection_37, hfu, xstep0, xJ1_hit, xJ1_go, xJ2_hit1, xJ2_hit2, xJ2_go, ↓xif_t, ↓xif_f, seval, ↓xca_eq, ↓xre_l, ↓xre_r, xmask_t, xmask_f, xmask_nil, ↓xst_eq, xX_eq, eI_eq, eMc_eq, eMs_eq, eF_eq, eThr_eq, ↓xS1_mk, ↓xSI_mk, ↓xSR_mk, ↓xLI_0, ↓xLI_s, ↓xLR_0, ↓xLR_s, vRef_ref, vRef_null, vRef_rf, cat_int, cat_ref, cat_null, cat_rf, rf_some, rf_none, rf_null, rf_eq, rf_ref, ref_rf, ref_null, ref_ref, xOk_0, xOk_1, xOk_2r, xOk_2n, xOk_2f, vOpt_rf, vOpt_ref, vOpt_null, List.set_cons_zero, List.set_cons_succ, List.take_succ_cons, List.take_zero, List.drop_succ_cons, List.drop_zero, List.reverse_cons, List.reverse_nil, List.nil_append, List.cons_append, List.append_nil, List.length_cons, List.length_nil, List.map_cons, List.map_nil, List.sum_cons, List.sum_nil, Option.toList_some, Option.toList_none, xRecv_mk, true_and, and_true, true_implies, Nat.reduceAdd, Nat.reduceLeDiff, Nat.zero_le, Nat.le_refl, Nat.add_zero, Nat.zero_add, reduceIte, not_true_eq_false, not_false_eq_true, false_implies, and_self, implies_true, eq_self, Nat.reduceEqDiff, List.cons.injEq, xsn_1, xsn_2, false_and, and_false, or_false, false_or, or_true, true_or, xsn_3, xsn_4, ↓spwJx4a65c_size_8abf5, spcJx4a65c_size_8abf5, ↓spwJx4a65c_get_915e3, spcJx4a65c_get_915e3, thfX7_needSection_0, h0, h1, h2, h3]
    try simp only [xif_e]
    repeat' (first | with_reducible apply And.intro | with_reducible intro _)
    all_goals grind

def tbX7_needBarge : List (Nat × xHint) := [(0, .iload_n 1, 1, 0, 0, []), (1, .ifCond .lt 14, 15, 0, 0, []), (4, .iload_n 1, 1, 0, 0, []), (5, .aload_n 0, 0, 0, 0, []), (6, .getfield 19, 8, 2, 2, []), (9, .invokevirtual 108, 0, 1, 0, []), (12, .if_icmp .lt 14, 26, 0, 0, []), (15, .new 347, 1, 0, 0, []), (26, .aload_n 0, 0, 0, 0, []), (27, .getfield 19, 8, 2, 2, []), (30, .iload_n 1, 1, 0, 0, []), (31, .invokevirtual 312, 1, 2, 0, []), (34, .checkcast 113, 1, 0, 0, []), (37, .areturn, 0, 0, 0, [])]
def clX7_needBarge : List (Instr × Nat × Nat × Nat) := [(.invokevirtual 108, 0, 1, 0), (.invokevirtual 312, 1, 2, 0)]
def thX7_needBarge : List (Nat × Nat) := [(15, 0)]
theorem ckX7_needBarge : tbX7_needBarge.all (xRow RX7 cX7_needBarge wsX7_needBarge vwCl [8] clX7_needBarge thX7_needBarge 2 (yX7_needBarge.name == "<init>") (some (.object "Towmaster$Barge"))) = true := xRow_q 0xb07100c03801b61b1300b42abf5f01b7a70113595b01bb0e00a16c00b61300b42a1b0e009b1b 38 (by decide +kernel) (by decide +kernel)
theorem usX7_needBarge : xUse wsX7_needBarge vwCl [8] = true := xUse_g rfl (lw_good lwl_X7_needBarge lwl_X70 (by decide +kernel)) xUse_n
theorem tbX7_needBarge_0 {k : Instr → Nat → Nat → Nat → List Nat → Prop} : xse (xFind tbX7_needBarge 0) k = k (.iload_n 1) 1 0 0 [] := rfl
theorem tbX7_needBarge_1 {k : Instr → Nat → Nat → Nat → List Nat → Prop} : xse (xFind tbX7_needBarge 1) k = k (.ifCond .lt 14) 15 0 0 [] := rfl
theorem tbX7_needBarge_4 {k : Instr → Nat → Nat → Nat → List Nat → Prop} : xse (xFind tbX7_needBarge 4) k = k (.iload_n 1) 1 0 0 [] := rfl
theorem tbX7_needBarge_5 {k : Instr → Nat → Nat → Nat → List Nat → Prop} : xse (xFind tbX7_needBarge 5) k = k (.aload_n 0) 0 0 0 [] := rfl
theorem tbX7_needBarge_6 {k : Instr → Nat → Nat → Nat → List Nat → Prop} : xse (xFind tbX7_needBarge 6) k = k (.getfield 19) 8 2 2 [] := rfl
theorem tbX7_needBarge_9 {k : Instr → Nat → Nat → Nat → List Nat → Prop} : xse (xFind tbX7_needBarge 9) k = k (.invokevirtual 108) 0 1 0 [] := rfl
theorem tbX7_needBarge_12 {k : Instr → Nat → Nat → Nat → List Nat → Prop} : xse (xFind tbX7_needBarge 12) k = k (.if_icmp .lt 14) 26 0 0 [] := rfl
theorem tbX7_needBarge_15 {k : Instr → Nat → Nat → Nat → List Nat → Prop} : xse (xFind tbX7_needBarge 15) k = k (.new 347) 1 0 0 [] := rfl
theorem tbX7_needBarge_26 {k : Instr → Nat → Nat → Nat → List Nat → Prop} : xse (xFind tbX7_needBarge 26) k = k (.aload_n 0) 0 0 0 [] := rfl
theorem tbX7_needBarge_27 {k : Instr → Nat → Nat → Nat → List Nat → Prop} : xse (xFind tbX7_needBarge 27) k = k (.getfield 19) 8 2 2 [] := rfl
theorem tbX7_needBarge_30 {k : Instr → Nat → Nat → Nat → List Nat → Prop} : xse (xFind tbX7_needBarge 30) k = k (.iload_n 1) 1 0 0 [] := rfl
theorem tbX7_needBarge_31 {k : Instr → Nat → Nat → Nat → List Nat → Prop} : xse (xFind tbX7_needBarge 31) k = k (.invokevirtual 312) 1 2 0 [] := rfl
theorem tbX7_needBarge_34 {k : Instr → Nat → Nat → Nat → List Nat → Prop} : xse (xFind tbX7_needBarge 34) k = k (.checkcast 113) 1 0 0 [] := rfl
theorem tbX7_needBarge_37 {k : Instr → Nat → Nat → Nat → List Nat → Prop} : xse (xFind tbX7_needBarge 37) k = k (.areturn) 0 0 0 [] := rfl

def spX7_needBarge (W9 : xWd) : xSp cS := (fun av S => (1, 6), fun av S K => ∃ (a : Nat) (k : Int32), av = [.ref a, .int k] ∧ (cK S a = 9 ∧ cIn S a 802 1 ∧ lAll S (cRf S a 802) 2 ∧ (0 ≤ k ∧ k < cFi S (cRf S a 802) 2 → K (rR (lG S (cRf S a 802) k.toNatClampNeg)) S) ∧ (¬ (0 ≤ k ∧ k < cFi S (cRf S a 802) 2) → K (rX "java/lang/IndexOutOfBoundsException") S)))
theorem spcX7_needBarge {av : List Value} {S : cS} {W9 : xWd} : (spX7_needBarge W9).1 av S = (1, 6) := rfl
theorem spwX7_needBarge {S : cS} {W9 : xWd} {K : xRes → cS → Prop} {a : Nat} {k : Int32} : (spX7_needBarge W9).2 [.ref a, .int k] S K = (cK S a = 9 ∧ cIn S a 802 1 ∧ lAll S (cRf S a 802) 2 ∧ (0 ≤ k ∧ k < cFi S (cRf S a 802) 2 → K (rR (lG S (cRf S a 802) k.toNatClampNeg)) S) ∧ (¬ (0 ≤ k ∧ k < cFi S (cRf S a 802) 2) → K (rX "java/lang/IndexOutOfBoundsException") S)) :=
  propext ⟨fun h => by
    simp only [spX7_needBarge] at h
    obtain ⟨_, _, e, h⟩ := h
    simp only [List.cons.injEq, Value.int.injEq, Value.ref.injEq, rf_eq, and_true, true_and] at e
    obtain ⟨rfl, rfl⟩ := e
    exact h, fun h => ⟨_, _, rfl, h⟩⟩

def callX7_needBarge (W9 : xWd) : Nat → Option (xSp cS) := fun n => match n with | 0 => some (spJx4a65c_size_8abf5 W9) | 1 => some (spJx4a65c_get_915e3 W9) | _ => none

theorem callX7_needBarge_0 {W9 : xWd} {k : xSp cS → Prop} : xcs (callX7_needBarge W9 0) k = k (spJx4a65c_size_8abf5 W9) := rfl

theorem callX7_needBarge_1 {W9 : xWd} {k : xSp cS → Prop} : xcs (callX7_needBarge W9 1) k = k (spJx4a65c_get_915e3 W9) := rfl

theorem crX7_needBarge (l : Launch) (hl : l.stackTraces = false) (W9 : xWd) : xCallsOK l W9 (cI) (callX7_needBarge W9) clX7_needBarge RX7 wsX7_needBarge 6 90 2 := by
  intro E A p e R s m args below meth c hI hF hL X
  exact List.forall_mem_cons.mpr ⟨⟨_, rfl, xCR_V X (by rw [hI]; exact (semJx4a65c_size_8abf5 l hl W9)) gX7_needBarge_Jx4a65c_size_8abf5 rfl rfl (by decide +kernel) (by rw [hF, hL]; decide)⟩,
    List.forall_mem_cons.mpr ⟨⟨_, rfl, xCR_V X (by rw [hI]; exact (semJx4a65c_get_915e3 l hl W9)) gX7_needBarge_Jx4a65c_get_915e3 rfl rfl (by decide +kernel) (by rw [hF, hL]; decide)⟩,
    fun _ h => nomatch h⟩⟩

def thfX7_needBarge : Nat → String := fun n => match n with | 0 => "java/lang/IndexOutOfBoundsException" | _ => ""

theorem thfX7_needBarge_0 : thfX7_needBarge 0 = "java/lang/IndexOutOfBoundsException" := rfl

theorem trX7_needBarge (l : Launch) (hl : l.stackTraces = false) (W9 : xWd) : xThrOK l W9 thfX7_needBarge thX7_needBarge RX7 cX7_needBarge wsX7_needBarge 6 90 2 := by
  intro A p e R s m args below meth c hF hL hb hx hml hown hts hAmb hlocks hext
  exact List.forall_mem_cons.mpr ⟨xTR_SW (text := "there is no such barge") hl hx hb hml hown hts hAmb hlocks hext (by decide +kernel) (ik := 347) (is := 423) (ic := 351) (by decide +kernel) (by decide +kernel) (by decide +kernel) (atin_of (by decide +kernel)) xng_ioobe xgood_ioobe (by decide +kernel) (by decide +kernel) (by decide +kernel) (by decide +kernel) (by decide +kernel) (by rw [hF, hL]; decide),
    fun _ h => nomatch h⟩

set_option maxHeartbeats 4000000 in
set_option maxRecDepth 20000 in
theorem semX7_needBarge (l : Launch) (hl : l.stackTraces = false) (W9 : xWd) : xSem l W9 (cI) yX7_needBarge wsX7_needBarge 6 90 (spX7_needBarge W9) := by
  refine xSem_of (call := callX7_needBarge W9) (thrf := thfX7_needBarge) cI_law (by decide +kernel) rfl ckX7_needBarge usX7_needBarge (crX7_needBarge l hl W9) (trX7_needBarge l hl W9) ?_ ?_
  · intro av S KF h
    obtain ⟨a, k, rfl, h⟩ := h
    exact ⟨by intro v hv; simp only [List.mem_cons, List.not_mem_nil, or_false] at hv; rcases hv with rfl | rfl <;> first | rfl | exact cat_rf, Nat.le_of_ble_eq_true rfl⟩
  intro av S KF h G hG
  obtain ⟨a, k, rfl, h⟩ := h
  rw [show (spX7_needBarge W9).1 _ S = _ from spcX7_needBarge] at hG
  try dsimp only at hG
  change G 0 [some (.ref a), some (.int k)] [] S 0 0
  obtain ⟨h0, ⟨h1, h2⟩, h3a, h4, h5⟩ := h

  have h3 := h3a.1
  by_cases q : 0 ≤ k ∧ k < cFi S (cRf S a 802) 2
  · have h := h4 q
    obtain ⟨g1, g2⟩ := lAll_at h3a q.1 q.2
    have q1 : ¬ k < 0 := fun z => Int32.lt_irrefl (Int32.lt_of_lt_of_le z q.1)
    have q2 : ¬ cFi S (cRf S a 802) 2 ≤ k := fun z => Int32.lt_irrefl (Int32.lt_of_lt_of_le q.2 z)
    refine xgo0 hG (fun fu hfu => ?_)
    simp only [↓callX7_needBarge_0, ↓callX7_needBarge_1, ↓cg_8_2, cisa, ↓vm_aload_n, ↓vm_areturn, ↓vm_checkcast, ↓vm_getfield, ↓vm_ifCond_lt, ↓vm_if_icmp_lt, ↓vm_iload_n, ↓vm_invokevirtual, ↓vm_newX, ↓xc_1, ↓xc_2, ↓tbX7_needBarge_0, ↓tbX7_needBarge_1, ↓tbX7_needBarge_4, ↓tbX7_needBarge_5, ↓tbX7_needBarge_6, ↓tbX7_needBarge_9, ↓tbX7_needBarge_12, ↓tbX7_needBarge_15, ↓tbX7_needBarge_26, ↓tbX7_needBarge_27, ↓tbX7_needBarge_30, ↓tbX7_needBarge_31, ↓tbX7_needBarge_34, ↓tbX7_needBarge_37, hfu, xstep0, xJ1_hit, xJ1_go, xJ2_hit1, xJ2_hit2, xJ2_go, ↓xif_t, ↓xif_f, seval, ↓xca_eq, ↓xre_l, ↓xre_r, xmask_t, xmask_f, xmask_nil, ↓xst_eq, xX_eq, eI_eq, eMc_eq, eMs_eq, eF_eq, eThr_eq, ↓xS1_mk, ↓xSI_mk, ↓xSR_mk, ↓xLI_0, ↓xLI_s, ↓xLR_0, ↓xLR_s, vRef_ref, vRef_null, vRef_rf, cat_int, cat_ref, cat_null, cat_rf, rf_some, rf_none, rf_null, rf_eq, rf_ref, ref_rf, ref_null, ref_ref, xOk_0, xOk_1, xOk_2r, xOk_2n, xOk_2f, vOpt_rf, vOpt_ref, vOpt_null, List.set_cons_zero, List.set_cons_succ, List.take_succ_cons, List.take_zero, List.drop_succ_cons, List.drop_zero, List.reverse_cons, List.reverse_nil, List.nil_append, List.cons_append, List.append_nil, List.length_cons, List.length_nil, List.map_cons, List.map_nil, List.sum_cons, List.sum_nil, Option.toList_some, Option.toList_none, xRecv_mk, true_and, and_true, true_implies, Nat.reduceAdd, Nat.reduceLeDiff, Nat.zero_le, Nat.le_refl, Nat.add_zero, Nat.zero_add, reduceIte, not_true_eq_false, not_false_eq_true, false_implies, and_self, implies_true, eq_self, Nat.reduceEqDiff, List.cons.injEq, xsn_1, xsn_2, false_and, and_false, or_false, false_or, or_true, true_or, xsn_3, xsn_4, ↓spwJx4a65c_size_8abf5, spcJx4a65c_size_8abf5, ↓spwJx4a65c_get_915e3, spcJx4a65c_get_915e3, thfX7_needBarge_0, h0, h1, h2, h3, q, q1, q2, g1, g2]
    try simp only [xif_e]
    exact h
  · have h := h5 q
    refine xgo0 hG (fun fu hfu => ?_)
    simp only [↓callX7_needBarge_0, ↓callX7_needBarge_1, ↓cg_8_2, cisa, ↓vm_aload_n, ↓vm_areturn, ↓vm_checkcast, ↓vm_getfield, ↓vm_ifCond_lt, ↓vm_if_icmp_lt, ↓vm_iload_n, ↓vm_invokevirtual, ↓vm_newX, ↓xc_1, ↓xc_2, ↓tbX7_needBarge_0, ↓tbX7_needBarge_1, ↓tbX7_needBarge_4, ↓tbX7_needBarge_5, ↓tbX7_needBarge_6, ↓tbX7_needBarge_9, ↓tbX7_needBarge_12, ↓tbX7_needBarge_15, ↓tbX7_needBarge_26, ↓tbX7_needBarge_27, ↓tbX7_needBarge_30, ↓tbX7_needBarge_31, ↓tbX7_needBarge_34, ↓tbX7_needBarge_37, hfu, xstep0, xJ1_hit, xJ1_go, xJ2_hit1, xJ2_hit2, xJ2_go, ↓xif_t, ↓xif_f, seval, ↓xca_eq, ↓xre_l, ↓xre_r, xmask_t, xmask_f, xmask_nil, ↓xst_eq, xX_eq, eI_eq, eMc_eq, eMs_eq, eF_eq, eThr_eq, ↓xS1_mk, ↓xSI_mk, ↓xSR_mk, ↓xLI_0, ↓xLI_s, ↓xLR_0, ↓xLR_s, vRef_ref, vRef_null, vRef_rf, cat_int, cat_ref, cat_null, cat_rf, rf_some, rf_none, rf_null, rf_eq, rf_ref, ref_rf, ref_null, ref_ref, xOk_0, xOk_1, xOk_2r, xOk_2n, xOk_2f, vOpt_rf, vOpt_ref, vOpt_null, List.set_cons_zero, List.set_cons_succ, List.take_succ_cons, List.take_zero, List.drop_succ_cons, List.drop_zero, List.reverse_cons, List.reverse_nil, List.nil_append, List.cons_append, List.append_nil, List.length_cons, List.length_nil, List.map_cons, List.map_nil, List.sum_cons, List.sum_nil, Option.toList_some, Option.toList_none, xRecv_mk, true_and, and_true, true_implies, Nat.reduceAdd, Nat.reduceLeDiff, Nat.zero_le, Nat.le_refl, Nat.add_zero, Nat.zero_add, reduceIte, not_true_eq_false, not_false_eq_true, false_implies, and_self, implies_true, eq_self, Nat.reduceEqDiff, List.cons.injEq, xsn_1, xsn_2, false_and, and_false, or_false, false_or, or_true, true_or, xsn_3, xsn_4, ↓spwJx4a65c_size_8abf5, spcJx4a65c_size_8abf5, ↓spwJx4a65c_get_915e3, spcJx4a65c_get_915e3, thfX7_needBarge_0, h0, h1, h2, h3]
    try simp only [xif_e]
    repeat' (first | with_reducible apply And.intro | with_reducible intro _)
    all_goals grind

def tbX7_needContract : List (Nat × xHint) := [(0, .iload_n 1, 1, 0, 0, []), (1, .ifCond .lt 14, 15, 0, 0, []), (4, .iload_n 1, 1, 0, 0, []), (5, .aload_n 0, 0, 0, 0, []), (6, .getfield 22, 8, 3, 2, []), (9, .invokevirtual 108, 0, 1, 0, []), (12, .if_icmp .lt 14, 26, 0, 0, []), (15, .new 347, 1, 0, 0, []), (26, .aload_n 0, 0, 0, 0, []), (27, .getfield 22, 8, 3, 2, []), (30, .iload_n 1, 1, 0, 0, []), (31, .invokevirtual 312, 1, 2, 0, []), (34, .checkcast 134, 3, 0, 0, []), (37, .areturn, 0, 0, 0, [])]
def clX7_needContract : List (Instr × Nat × Nat × Nat) := [(.invokevirtual 108, 0, 1, 0), (.invokevirtual 312, 1, 2, 0)]
def thX7_needContract : List (Nat × Nat) := [(15, 0)]
theorem ckX7_needContract : tbX7_needContract.all (xRow RX7 cX7_needContract wsX7_needContract vwCl [8] clX7_needContract thX7_needContract 2 (yX7_needContract.name == "<init>") (some (.object "Towmaster$Contract"))) = true := xRow_q 0xb08600c03801b61b1600b42abf5f01b7a90113595b01bb0e00a16c00b61600b42a1b0e009b1b 38 (by decide +kernel) (by decide +kernel)
theorem usX7_needContract : xUse wsX7_needContract vwCl [8] = true := xUse_g rfl (lw_good lwl_X7_needContract lwl_X70 (by decide +kernel)) xUse_n
theorem tbX7_needContract_0 {k : Instr → Nat → Nat → Nat → List Nat → Prop} : xse (xFind tbX7_needContract 0) k = k (.iload_n 1) 1 0 0 [] := rfl
theorem tbX7_needContract_1 {k : Instr → Nat → Nat → Nat → List Nat → Prop} : xse (xFind tbX7_needContract 1) k = k (.ifCond .lt 14) 15 0 0 [] := rfl
theorem tbX7_needContract_4 {k : Instr → Nat → Nat → Nat → List Nat → Prop} : xse (xFind tbX7_needContract 4) k = k (.iload_n 1) 1 0 0 [] := rfl
theorem tbX7_needContract_5 {k : Instr → Nat → Nat → Nat → List Nat → Prop} : xse (xFind tbX7_needContract 5) k = k (.aload_n 0) 0 0 0 [] := rfl
theorem tbX7_needContract_6 {k : Instr → Nat → Nat → Nat → List Nat → Prop} : xse (xFind tbX7_needContract 6) k = k (.getfield 22) 8 3 2 [] := rfl
theorem tbX7_needContract_9 {k : Instr → Nat → Nat → Nat → List Nat → Prop} : xse (xFind tbX7_needContract 9) k = k (.invokevirtual 108) 0 1 0 [] := rfl
theorem tbX7_needContract_12 {k : Instr → Nat → Nat → Nat → List Nat → Prop} : xse (xFind tbX7_needContract 12) k = k (.if_icmp .lt 14) 26 0 0 [] := rfl
theorem tbX7_needContract_15 {k : Instr → Nat → Nat → Nat → List Nat → Prop} : xse (xFind tbX7_needContract 15) k = k (.new 347) 1 0 0 [] := rfl
theorem tbX7_needContract_26 {k : Instr → Nat → Nat → Nat → List Nat → Prop} : xse (xFind tbX7_needContract 26) k = k (.aload_n 0) 0 0 0 [] := rfl
theorem tbX7_needContract_27 {k : Instr → Nat → Nat → Nat → List Nat → Prop} : xse (xFind tbX7_needContract 27) k = k (.getfield 22) 8 3 2 [] := rfl
theorem tbX7_needContract_30 {k : Instr → Nat → Nat → Nat → List Nat → Prop} : xse (xFind tbX7_needContract 30) k = k (.iload_n 1) 1 0 0 [] := rfl
theorem tbX7_needContract_31 {k : Instr → Nat → Nat → Nat → List Nat → Prop} : xse (xFind tbX7_needContract 31) k = k (.invokevirtual 312) 1 2 0 [] := rfl
theorem tbX7_needContract_34 {k : Instr → Nat → Nat → Nat → List Nat → Prop} : xse (xFind tbX7_needContract 34) k = k (.checkcast 134) 3 0 0 [] := rfl
theorem tbX7_needContract_37 {k : Instr → Nat → Nat → Nat → List Nat → Prop} : xse (xFind tbX7_needContract 37) k = k (.areturn) 0 0 0 [] := rfl

def spX7_needContract (W9 : xWd) : xSp cS := (fun av S => (1, 6), fun av S K => ∃ (a : Nat) (k : Int32), av = [.ref a, .int k] ∧ (cK S a = 9 ∧ cIn S a 803 1 ∧ lAll S (cRf S a 803) 4 ∧ (0 ≤ k ∧ k < cFi S (cRf S a 803) 2 → K (rR (lG S (cRf S a 803) k.toNatClampNeg)) S) ∧ (¬ (0 ≤ k ∧ k < cFi S (cRf S a 803) 2) → K (rX "java/lang/IndexOutOfBoundsException") S)))
theorem spcX7_needContract {av : List Value} {S : cS} {W9 : xWd} : (spX7_needContract W9).1 av S = (1, 6) := rfl
theorem spwX7_needContract {S : cS} {W9 : xWd} {K : xRes → cS → Prop} {a : Nat} {k : Int32} : (spX7_needContract W9).2 [.ref a, .int k] S K = (cK S a = 9 ∧ cIn S a 803 1 ∧ lAll S (cRf S a 803) 4 ∧ (0 ≤ k ∧ k < cFi S (cRf S a 803) 2 → K (rR (lG S (cRf S a 803) k.toNatClampNeg)) S) ∧ (¬ (0 ≤ k ∧ k < cFi S (cRf S a 803) 2) → K (rX "java/lang/IndexOutOfBoundsException") S)) :=
  propext ⟨fun h => by
    simp only [spX7_needContract] at h
    obtain ⟨_, _, e, h⟩ := h
    simp only [List.cons.injEq, Value.int.injEq, Value.ref.injEq, rf_eq, and_true, true_and] at e
    obtain ⟨rfl, rfl⟩ := e
    exact h, fun h => ⟨_, _, rfl, h⟩⟩

def callX7_needContract (W9 : xWd) : Nat → Option (xSp cS) := fun n => match n with | 0 => some (spJx4a65c_size_8abf5 W9) | 1 => some (spJx4a65c_get_915e3 W9) | _ => none

theorem callX7_needContract_0 {W9 : xWd} {k : xSp cS → Prop} : xcs (callX7_needContract W9 0) k = k (spJx4a65c_size_8abf5 W9) := rfl

theorem callX7_needContract_1 {W9 : xWd} {k : xSp cS → Prop} : xcs (callX7_needContract W9 1) k = k (spJx4a65c_get_915e3 W9) := rfl

theorem crX7_needContract (l : Launch) (hl : l.stackTraces = false) (W9 : xWd) : xCallsOK l W9 (cI) (callX7_needContract W9) clX7_needContract RX7 wsX7_needContract 6 90 2 := by
  intro E A p e R s m args below meth c hI hF hL X
  exact List.forall_mem_cons.mpr ⟨⟨_, rfl, xCR_V X (by rw [hI]; exact (semJx4a65c_size_8abf5 l hl W9)) gX7_needContract_Jx4a65c_size_8abf5 rfl rfl (by decide +kernel) (by rw [hF, hL]; decide)⟩,
    List.forall_mem_cons.mpr ⟨⟨_, rfl, xCR_V X (by rw [hI]; exact (semJx4a65c_get_915e3 l hl W9)) gX7_needContract_Jx4a65c_get_915e3 rfl rfl (by decide +kernel) (by rw [hF, hL]; decide)⟩,
    fun _ h => nomatch h⟩⟩

def thfX7_needContract : Nat → String := fun n => match n with | 0 => "java/lang/IndexOutOfBoundsException" | _ => ""

theorem thfX7_needContract_0 : thfX7_needContract 0 = "java/lang/IndexOutOfBoundsException" := rfl

theorem trX7_needContract (l : Launch) (hl : l.stackTraces = false) (W9 : xWd) : xThrOK l W9 thfX7_needContract thX7_needContract RX7 cX7_needContract wsX7_needContract 6 90 2 := by
  intro A p e R s m args below meth c hF hL hb hx hml hown hts hAmb hlocks hext
  exact List.forall_mem_cons.mpr ⟨xTR_SW (text := "there is no such contract") hl hx hb hml hown hts hAmb hlocks hext (by decide +kernel) (ik := 347) (is := 425) (ic := 351) (by decide +kernel) (by decide +kernel) (by decide +kernel) (atin_of (by decide +kernel)) xng_ioobe xgood_ioobe (by decide +kernel) (by decide +kernel) (by decide +kernel) (by decide +kernel) (by decide +kernel) (by rw [hF, hL]; decide),
    fun _ h => nomatch h⟩

set_option maxHeartbeats 4000000 in
set_option maxRecDepth 20000 in
theorem semX7_needContract (l : Launch) (hl : l.stackTraces = false) (W9 : xWd) : xSem l W9 (cI) yX7_needContract wsX7_needContract 6 90 (spX7_needContract W9) := by
  refine xSem_of (call := callX7_needContract W9) (thrf := thfX7_needContract) cI_law (by decide +kernel) rfl ckX7_needContract usX7_needContract (crX7_needContract l hl W9) (trX7_needContract l hl W9) ?_ ?_
  · intro av S KF h
    obtain ⟨a, k, rfl, h⟩ := h
    exact ⟨by intro v hv; simp only [List.mem_cons, List.not_mem_nil, or_false] at hv; rcases hv with rfl | rfl <;> first | rfl | exact cat_rf, Nat.le_of_ble_eq_true rfl⟩
  intro av S KF h G hG
  obtain ⟨a, k, rfl, h⟩ := h
  rw [show (spX7_needContract W9).1 _ S = _ from spcX7_needContract] at hG
  try dsimp only at hG
  change G 0 [some (.ref a), some (.int k)] [] S 0 0
  obtain ⟨h0, ⟨h1, h2⟩, h3a, h4, h5⟩ := h

  have h3 := h3a.1
  by_cases q : 0 ≤ k ∧ k < cFi S (cRf S a 803) 2
  · have h := h4 q
    obtain ⟨g1, g2⟩ := lAll_at h3a q.1 q.2
    have q1 : ¬ k < 0 := fun z => Int32.lt_irrefl (Int32.lt_of_lt_of_le z q.1)
    have q2 : ¬ cFi S (cRf S a 803) 2 ≤ k := fun z => Int32.lt_irrefl (Int32.lt_of_lt_of_le q.2 z)
    refine xgo0 hG (fun fu hfu => ?_)
    simp only [↓callX7_needContract_0, ↓callX7_needContract_1, ↓cg_8_3, cisa, ↓vm_aload_n, ↓vm_areturn, ↓vm_checkcast, ↓vm_getfield, ↓vm_ifCond_lt, ↓vm_if_icmp_lt, ↓vm_iload_n, ↓vm_invokevirtual, ↓vm_newX, ↓xc_1, ↓xc_2, ↓tbX7_needContract_0, ↓tbX7_needContract_1, ↓tbX7_needContract_4, ↓tbX7_needContract_5, ↓tbX7_needContract_6, ↓tbX7_needContract_9, ↓tbX7_needContract_12, ↓tbX7_needContract_15, ↓tbX7_needContract_26, ↓tbX7_needContract_27, ↓tbX7_needContract_30, ↓tbX7_needContract_31, ↓tbX7_needContract_34, ↓tbX7_needContract_37, hfu, xstep0, xJ1_hit, xJ1_go, xJ2_hit1, xJ2_hit2, xJ2_go, ↓xif_t, ↓xif_f, seval, ↓xca_eq, ↓xre_l, ↓xre_r, xmask_t, xmask_f, xmask_nil, ↓xst_eq, xX_eq, eI_eq, eMc_eq, eMs_eq, eF_eq, eThr_eq, ↓xS1_mk, ↓xSI_mk, ↓xSR_mk, ↓xLI_0, ↓xLI_s, ↓xLR_0, ↓xLR_s, vRef_ref, vRef_null, vRef_rf, cat_int, cat_ref, cat_null, cat_rf, rf_some, rf_none, rf_null, rf_eq, rf_ref, ref_rf, ref_null, ref_ref, xOk_0, xOk_1, xOk_2r, xOk_2n, xOk_2f, vOpt_rf, vOpt_ref, vOpt_null, List.set_cons_zero, List.set_cons_succ, List.take_succ_cons, List.take_zero, List.drop_succ_cons, List.drop_zero, List.reverse_cons, List.reverse_nil, List.nil_append, List.cons_append, List.append_nil, List.length_cons, List.length_nil, List.map_cons, List.map_nil, List.sum_cons, List.sum_nil, Option.toList_some, Option.toList_none, xRecv_mk, true_and, and_true, true_implies, Nat.reduceAdd, Nat.reduceLeDiff, Nat.zero_le, Nat.le_refl, Nat.add_zero, Nat.zero_add, reduceIte, not_true_eq_false, not_false_eq_true, false_implies, and_self, implies_true, eq_self, Nat.reduceEqDiff, List.cons.injEq, xsn_1, xsn_2, false_and, and_false, or_false, false_or, or_true, true_or, xsn_3, xsn_4, ↓spwJx4a65c_size_8abf5, spcJx4a65c_size_8abf5, ↓spwJx4a65c_get_915e3, spcJx4a65c_get_915e3, thfX7_needContract_0, h0, h1, h2, h3, q, q1, q2, g1, g2]
    try simp only [xif_e]
    exact h
  · have h := h5 q
    refine xgo0 hG (fun fu hfu => ?_)
    simp only [↓callX7_needContract_0, ↓callX7_needContract_1, ↓cg_8_3, cisa, ↓vm_aload_n, ↓vm_areturn, ↓vm_checkcast, ↓vm_getfield, ↓vm_ifCond_lt, ↓vm_if_icmp_lt, ↓vm_iload_n, ↓vm_invokevirtual, ↓vm_newX, ↓xc_1, ↓xc_2, ↓tbX7_needContract_0, ↓tbX7_needContract_1, ↓tbX7_needContract_4, ↓tbX7_needContract_5, ↓tbX7_needContract_6, ↓tbX7_needContract_9, ↓tbX7_needContract_12, ↓tbX7_needContract_15, ↓tbX7_needContract_26, ↓tbX7_needContract_27, ↓tbX7_needContract_30, ↓tbX7_needContract_31, ↓tbX7_needContract_34, ↓tbX7_needContract_37, hfu, xstep0, xJ1_hit, xJ1_go, xJ2_hit1, xJ2_hit2, xJ2_go, ↓xif_t, ↓xif_f, seval, ↓xca_eq, ↓xre_l, ↓xre_r, xmask_t, xmask_f, xmask_nil, ↓xst_eq, xX_eq, eI_eq, eMc_eq, eMs_eq, eF_eq, eThr_eq, ↓xS1_mk, ↓xSI_mk, ↓xSR_mk, ↓xLI_0, ↓xLI_s, ↓xLR_0, ↓xLR_s, vRef_ref, vRef_null, vRef_rf, cat_int, cat_ref, cat_null, cat_rf, rf_some, rf_none, rf_null, rf_eq, rf_ref, ref_rf, ref_null, ref_ref, xOk_0, xOk_1, xOk_2r, xOk_2n, xOk_2f, vOpt_rf, vOpt_ref, vOpt_null, List.set_cons_zero, List.set_cons_succ, List.take_succ_cons, List.take_zero, List.drop_succ_cons, List.drop_zero, List.reverse_cons, List.reverse_nil, List.nil_append, List.cons_append, List.append_nil, List.length_cons, List.length_nil, List.map_cons, List.map_nil, List.sum_cons, List.sum_nil, Option.toList_some, Option.toList_none, xRecv_mk, true_and, and_true, true_implies, Nat.reduceAdd, Nat.reduceLeDiff, Nat.zero_le, Nat.le_refl, Nat.add_zero, Nat.zero_add, reduceIte, not_true_eq_false, not_false_eq_true, false_implies, and_self, implies_true, eq_self, Nat.reduceEqDiff, List.cons.injEq, xsn_1, xsn_2, false_and, and_false, or_false, false_or, or_true, true_or, xsn_3, xsn_4, ↓spwJx4a65c_size_8abf5, spcJx4a65c_size_8abf5, ↓spwJx4a65c_get_915e3, spcJx4a65c_get_915e3, thfX7_needContract_0, h0, h1, h2, h3]
    try simp only [xif_e]
    repeat' (first | with_reducible apply And.intro | with_reducible intro _)
    all_goals grind

def tbX7_needBoat : List (Nat × xHint) := [(0, .iload_n 1, 1, 0, 0, []), (1, .ifCond .lt 14, 15, 0, 0, []), (4, .iload_n 1, 1, 0, 0, []), (5, .aload_n 0, 0, 0, 0, []), (6, .getfield 25, 8, 4, 2, []), (9, .invokevirtual 108, 0, 1, 0, []), (12, .if_icmp .lt 14, 26, 0, 0, []), (15, .new 347, 1, 0, 0, []), (26, .aload_n 0, 0, 0, 0, []), (27, .getfield 25, 8, 4, 2, []), (30, .iload_n 1, 1, 0, 0, []), (31, .invokevirtual 312, 1, 2, 0, []), (34, .checkcast 210, 2, 0, 0, []), (37, .areturn, 0, 0, 0, [])]
def clX7_needBoat : List (Instr × Nat × Nat × Nat) := [(.invokevirtual 108, 0, 1, 0), (.invokevirtual 312, 1, 2, 0)]
def thX7_needBoat : List (Nat × Nat) := [(15, 0)]
theorem ckX7_needBoat : tbX7_needBoat.all (xRow RX7 cX7_needBoat wsX7_needBoat vwCl [8] clX7_needBoat thX7_needBoat 2 (yX7_needBoat.name == "<init>") (some (.object "Towmaster$Boat"))) = true := xRow_q 0xb0d200c03801b61b1900b42abf5f01b7ab0113595b01bb0e00a16c00b61900b42a1b0e009b1b 38 (by decide +kernel) (by decide +kernel)
theorem usX7_needBoat : xUse wsX7_needBoat vwCl [8] = true := xUse_g rfl (lw_good lwl_X7_needBoat lwl_X70 (by decide +kernel)) xUse_n
theorem tbX7_needBoat_0 {k : Instr → Nat → Nat → Nat → List Nat → Prop} : xse (xFind tbX7_needBoat 0) k = k (.iload_n 1) 1 0 0 [] := rfl
theorem tbX7_needBoat_1 {k : Instr → Nat → Nat → Nat → List Nat → Prop} : xse (xFind tbX7_needBoat 1) k = k (.ifCond .lt 14) 15 0 0 [] := rfl
theorem tbX7_needBoat_4 {k : Instr → Nat → Nat → Nat → List Nat → Prop} : xse (xFind tbX7_needBoat 4) k = k (.iload_n 1) 1 0 0 [] := rfl
theorem tbX7_needBoat_5 {k : Instr → Nat → Nat → Nat → List Nat → Prop} : xse (xFind tbX7_needBoat 5) k = k (.aload_n 0) 0 0 0 [] := rfl
theorem tbX7_needBoat_6 {k : Instr → Nat → Nat → Nat → List Nat → Prop} : xse (xFind tbX7_needBoat 6) k = k (.getfield 25) 8 4 2 [] := rfl
theorem tbX7_needBoat_9 {k : Instr → Nat → Nat → Nat → List Nat → Prop} : xse (xFind tbX7_needBoat 9) k = k (.invokevirtual 108) 0 1 0 [] := rfl
theorem tbX7_needBoat_12 {k : Instr → Nat → Nat → Nat → List Nat → Prop} : xse (xFind tbX7_needBoat 12) k = k (.if_icmp .lt 14) 26 0 0 [] := rfl
theorem tbX7_needBoat_15 {k : Instr → Nat → Nat → Nat → List Nat → Prop} : xse (xFind tbX7_needBoat 15) k = k (.new 347) 1 0 0 [] := rfl
theorem tbX7_needBoat_26 {k : Instr → Nat → Nat → Nat → List Nat → Prop} : xse (xFind tbX7_needBoat 26) k = k (.aload_n 0) 0 0 0 [] := rfl
theorem tbX7_needBoat_27 {k : Instr → Nat → Nat → Nat → List Nat → Prop} : xse (xFind tbX7_needBoat 27) k = k (.getfield 25) 8 4 2 [] := rfl
theorem tbX7_needBoat_30 {k : Instr → Nat → Nat → Nat → List Nat → Prop} : xse (xFind tbX7_needBoat 30) k = k (.iload_n 1) 1 0 0 [] := rfl
theorem tbX7_needBoat_31 {k : Instr → Nat → Nat → Nat → List Nat → Prop} : xse (xFind tbX7_needBoat 31) k = k (.invokevirtual 312) 1 2 0 [] := rfl
theorem tbX7_needBoat_34 {k : Instr → Nat → Nat → Nat → List Nat → Prop} : xse (xFind tbX7_needBoat 34) k = k (.checkcast 210) 2 0 0 [] := rfl
theorem tbX7_needBoat_37 {k : Instr → Nat → Nat → Nat → List Nat → Prop} : xse (xFind tbX7_needBoat 37) k = k (.areturn) 0 0 0 [] := rfl

def spX7_needBoat (W9 : xWd) : xSp cS := (fun av S => (1, 6), fun av S K => ∃ (a : Nat) (k : Int32), av = [.ref a, .int k] ∧ (cK S a = 9 ∧ cIn S a 804 1 ∧ lAll S (cRf S a 804) 3 ∧ (0 ≤ k ∧ k < cFi S (cRf S a 804) 2 → K (rR (lG S (cRf S a 804) k.toNatClampNeg)) S) ∧ (¬ (0 ≤ k ∧ k < cFi S (cRf S a 804) 2) → K (rX "java/lang/IndexOutOfBoundsException") S)))
theorem spcX7_needBoat {av : List Value} {S : cS} {W9 : xWd} : (spX7_needBoat W9).1 av S = (1, 6) := rfl
theorem spwX7_needBoat {S : cS} {W9 : xWd} {K : xRes → cS → Prop} {a : Nat} {k : Int32} : (spX7_needBoat W9).2 [.ref a, .int k] S K = (cK S a = 9 ∧ cIn S a 804 1 ∧ lAll S (cRf S a 804) 3 ∧ (0 ≤ k ∧ k < cFi S (cRf S a 804) 2 → K (rR (lG S (cRf S a 804) k.toNatClampNeg)) S) ∧ (¬ (0 ≤ k ∧ k < cFi S (cRf S a 804) 2) → K (rX "java/lang/IndexOutOfBoundsException") S)) :=
  propext ⟨fun h => by
    simp only [spX7_needBoat] at h
    obtain ⟨_, _, e, h⟩ := h
    simp only [List.cons.injEq, Value.int.injEq, Value.ref.injEq, rf_eq, and_true, true_and] at e
    obtain ⟨rfl, rfl⟩ := e
    exact h, fun h => ⟨_, _, rfl, h⟩⟩

def callX7_needBoat (W9 : xWd) : Nat → Option (xSp cS) := fun n => match n with | 0 => some (spJx4a65c_size_8abf5 W9) | 1 => some (spJx4a65c_get_915e3 W9) | _ => none

theorem callX7_needBoat_0 {W9 : xWd} {k : xSp cS → Prop} : xcs (callX7_needBoat W9 0) k = k (spJx4a65c_size_8abf5 W9) := rfl

theorem callX7_needBoat_1 {W9 : xWd} {k : xSp cS → Prop} : xcs (callX7_needBoat W9 1) k = k (spJx4a65c_get_915e3 W9) := rfl

theorem crX7_needBoat (l : Launch) (hl : l.stackTraces = false) (W9 : xWd) : xCallsOK l W9 (cI) (callX7_needBoat W9) clX7_needBoat RX7 wsX7_needBoat 6 90 2 := by
  intro E A p e R s m args below meth c hI hF hL X
  exact List.forall_mem_cons.mpr ⟨⟨_, rfl, xCR_V X (by rw [hI]; exact (semJx4a65c_size_8abf5 l hl W9)) gX7_needBoat_Jx4a65c_size_8abf5 rfl rfl (by decide +kernel) (by rw [hF, hL]; decide)⟩,
    List.forall_mem_cons.mpr ⟨⟨_, rfl, xCR_V X (by rw [hI]; exact (semJx4a65c_get_915e3 l hl W9)) gX7_needBoat_Jx4a65c_get_915e3 rfl rfl (by decide +kernel) (by rw [hF, hL]; decide)⟩,
    fun _ h => nomatch h⟩⟩

def thfX7_needBoat : Nat → String := fun n => match n with | 0 => "java/lang/IndexOutOfBoundsException" | _ => ""

theorem thfX7_needBoat_0 : thfX7_needBoat 0 = "java/lang/IndexOutOfBoundsException" := rfl

theorem trX7_needBoat (l : Launch) (hl : l.stackTraces = false) (W9 : xWd) : xThrOK l W9 thfX7_needBoat thX7_needBoat RX7 cX7_needBoat wsX7_needBoat 6 90 2 := by
  intro A p e R s m args below meth c hF hL hb hx hml hown hts hAmb hlocks hext
  exact List.forall_mem_cons.mpr ⟨xTR_SW (text := "there is no such boat") hl hx hb hml hown hts hAmb hlocks hext (by decide +kernel) (ik := 347) (is := 427) (ic := 351) (by decide +kernel) (by decide +kernel) (by decide +kernel) (atin_of (by decide +kernel)) xng_ioobe xgood_ioobe (by decide +kernel) (by decide +kernel) (by decide +kernel) (by decide +kernel) (by decide +kernel) (by rw [hF, hL]; decide),
    fun _ h => nomatch h⟩

set_option maxHeartbeats 4000000 in
set_option maxRecDepth 20000 in
theorem semX7_needBoat (l : Launch) (hl : l.stackTraces = false) (W9 : xWd) : xSem l W9 (cI) yX7_needBoat wsX7_needBoat 6 90 (spX7_needBoat W9) := by
  refine xSem_of (call := callX7_needBoat W9) (thrf := thfX7_needBoat) cI_law (by decide +kernel) rfl ckX7_needBoat usX7_needBoat (crX7_needBoat l hl W9) (trX7_needBoat l hl W9) ?_ ?_
  · intro av S KF h
    obtain ⟨a, k, rfl, h⟩ := h
    exact ⟨by intro v hv; simp only [List.mem_cons, List.not_mem_nil, or_false] at hv; rcases hv with rfl | rfl <;> first | rfl | exact cat_rf, Nat.le_of_ble_eq_true rfl⟩
  intro av S KF h G hG
  obtain ⟨a, k, rfl, h⟩ := h
  rw [show (spX7_needBoat W9).1 _ S = _ from spcX7_needBoat] at hG
  try dsimp only at hG
  change G 0 [some (.ref a), some (.int k)] [] S 0 0
  obtain ⟨h0, ⟨h1, h2⟩, h3a, h4, h5⟩ := h

  have h3 := h3a.1
  by_cases q : 0 ≤ k ∧ k < cFi S (cRf S a 804) 2
  · have h := h4 q
    obtain ⟨g1, g2⟩ := lAll_at h3a q.1 q.2
    have q1 : ¬ k < 0 := fun z => Int32.lt_irrefl (Int32.lt_of_lt_of_le z q.1)
    have q2 : ¬ cFi S (cRf S a 804) 2 ≤ k := fun z => Int32.lt_irrefl (Int32.lt_of_lt_of_le q.2 z)
    refine xgo0 hG (fun fu hfu => ?_)
    simp only [↓callX7_needBoat_0, ↓callX7_needBoat_1, ↓cg_8_4, cisa, ↓vm_aload_n, ↓vm_areturn, ↓vm_checkcast, ↓vm_getfield, ↓vm_ifCond_lt, ↓vm_if_icmp_lt, ↓vm_iload_n, ↓vm_invokevirtual, ↓vm_newX, ↓xc_1, ↓xc_2, ↓tbX7_needBoat_0, ↓tbX7_needBoat_1, ↓tbX7_needBoat_4, ↓tbX7_needBoat_5, ↓tbX7_needBoat_6, ↓tbX7_needBoat_9, ↓tbX7_needBoat_12, ↓tbX7_needBoat_15, ↓tbX7_needBoat_26, ↓tbX7_needBoat_27, ↓tbX7_needBoat_30, ↓tbX7_needBoat_31, ↓tbX7_needBoat_34, ↓tbX7_needBoat_37, hfu, xstep0, xJ1_hit, xJ1_go, xJ2_hit1, xJ2_hit2, xJ2_go, ↓xif_t, ↓xif_f, seval, ↓xca_eq, ↓xre_l, ↓xre_r, xmask_t, xmask_f, xmask_nil, ↓xst_eq, xX_eq, eI_eq, eMc_eq, eMs_eq, eF_eq, eThr_eq, ↓xS1_mk, ↓xSI_mk, ↓xSR_mk, ↓xLI_0, ↓xLI_s, ↓xLR_0, ↓xLR_s, vRef_ref, vRef_null, vRef_rf, cat_int, cat_ref, cat_null, cat_rf, rf_some, rf_none, rf_null, rf_eq, rf_ref, ref_rf, ref_null, ref_ref, xOk_0, xOk_1, xOk_2r, xOk_2n, xOk_2f, vOpt_rf, vOpt_ref, vOpt_null, List.set_cons_zero, List.set_cons_succ, List.take_succ_cons, List.take_zero, List.drop_succ_cons, List.drop_zero, List.reverse_cons, List.reverse_nil, List.nil_append, List.cons_append, List.append_nil, List.length_cons, List.length_nil, List.map_cons, List.map_nil, List.sum_cons, List.sum_nil, Option.toList_some, Option.toList_none, xRecv_mk, true_and, and_true, true_implies, Nat.reduceAdd, Nat.reduceLeDiff, Nat.zero_le, Nat.le_refl, Nat.add_zero, Nat.zero_add, reduceIte, not_true_eq_false, not_false_eq_true, false_implies, and_self, implies_true, eq_self, Nat.reduceEqDiff, List.cons.injEq, xsn_1, xsn_2, false_and, and_false, or_false, false_or, or_true, true_or, xsn_3, xsn_4, ↓spwJx4a65c_size_8abf5, spcJx4a65c_size_8abf5, ↓spwJx4a65c_get_915e3, spcJx4a65c_get_915e3, thfX7_needBoat_0, h0, h1, h2, h3, q, q1, q2, g1, g2]
    try simp only [xif_e]
    exact h
  · have h := h5 q
    refine xgo0 hG (fun fu hfu => ?_)
    simp only [↓callX7_needBoat_0, ↓callX7_needBoat_1, ↓cg_8_4, cisa, ↓vm_aload_n, ↓vm_areturn, ↓vm_checkcast, ↓vm_getfield, ↓vm_ifCond_lt, ↓vm_if_icmp_lt, ↓vm_iload_n, ↓vm_invokevirtual, ↓vm_newX, ↓xc_1, ↓xc_2, ↓tbX7_needBoat_0, ↓tbX7_needBoat_1, ↓tbX7_needBoat_4, ↓tbX7_needBoat_5, ↓tbX7_needBoat_6, ↓tbX7_needBoat_9, ↓tbX7_needBoat_12, ↓tbX7_needBoat_15, ↓tbX7_needBoat_26, ↓tbX7_needBoat_27, ↓tbX7_needBoat_30, ↓tbX7_needBoat_31, ↓tbX7_needBoat_34, ↓tbX7_needBoat_37, hfu, xstep0, xJ1_hit, xJ1_go, xJ2_hit1, xJ2_hit2, xJ2_go, ↓xif_t, ↓xif_f, seval, ↓xca_eq, ↓xre_l, ↓xre_r, xmask_t, xmask_f, xmask_nil, ↓xst_eq, xX_eq, eI_eq, eMc_eq, eMs_eq, eF_eq, eThr_eq, ↓xS1_mk, ↓xSI_mk, ↓xSR_mk, ↓xLI_0, ↓xLI_s, ↓xLR_0, ↓xLR_s, vRef_ref, vRef_null, vRef_rf, cat_int, cat_ref, cat_null, cat_rf, rf_some, rf_none, rf_null, rf_eq, rf_ref, ref_rf, ref_null, ref_ref, xOk_0, xOk_1, xOk_2r, xOk_2n, xOk_2f, vOpt_rf, vOpt_ref, vOpt_null, List.set_cons_zero, List.set_cons_succ, List.take_succ_cons, List.take_zero, List.drop_succ_cons, List.drop_zero, List.reverse_cons, List.reverse_nil, List.nil_append, List.cons_append, List.append_nil, List.length_cons, List.length_nil, List.map_cons, List.map_nil, List.sum_cons, List.sum_nil, Option.toList_some, Option.toList_none, xRecv_mk, true_and, and_true, true_implies, Nat.reduceAdd, Nat.reduceLeDiff, Nat.zero_le, Nat.le_refl, Nat.add_zero, Nat.zero_add, reduceIte, not_true_eq_false, not_false_eq_true, false_implies, and_self, implies_true, eq_self, Nat.reduceEqDiff, List.cons.injEq, xsn_1, xsn_2, false_and, and_false, or_false, false_or, or_true, true_or, xsn_3, xsn_4, ↓spwJx4a65c_size_8abf5, spcJx4a65c_size_8abf5, ↓spwJx4a65c_get_915e3, spcJx4a65c_get_915e3, thfX7_needBoat_0, h0, h1, h2, h3]
    try simp only [xif_e]
    repeat' (first | with_reducible apply And.intro | with_reducible intro _)
    all_goals grind

def tbX7_needTier : List (Nat × xHint) := [(0, .iload_n 1, 1, 0, 0, []), (1, .invokestatic 128, 0, 1, 0, []), (4, .iload_n 2, 2, 0, 0, []), (5, .iconst 2, 0, 0, 0, []), (6, .invokestatic 261, 1, 2, 0, []), (9, .iload_n 1, 1, 0, 0, []), (10, .iconst 2, 0, 0, 0, []), (11, .imul, 0, 0, 0, []), (12, .iload_n 2, 2, 0, 0, []), (13, .iadd, 0, 0, 0, []), (14, .istore_n 3, 3, 0, 0, []), (15, .iload_n 3, 3, 0, 0, []), (16, .ifCond .lt 14, 30, 0, 0, []), (19, .iload_n 3, 3, 0, 0, []), (20, .aload_n 0, 0, 0, 0, []), (21, .getfield 16, 8, 1, 2, []), (24, .invokevirtual 108, 2, 1, 0, []), (27, .if_icmp .lt 14, 41, 0, 0, []), (30, .new 347, 1, 0, 0, []), (41, .aload_n 0, 0, 0, 0, []), (42, .getfield 16, 8, 1, 2, []), (45, .iload_n 3, 3, 0, 0, []), (46, .invokevirtual 312, 3, 2, 0, []), (49, .checkcast 48, 5, 0, 0, []), (52, .areturn, 0, 0, 0, [])]
def clX7_needTier : List (Instr × Nat × Nat × Nat) := [(.invokestatic 128, 0, 1, 0), (.invokestatic 261, 1, 2, 0), (.invokevirtual 108, 2, 1, 0), (.invokevirtual 312, 3, 2, 0)]
def thX7_needTier : List (Nat × Nat) := [(30, 0)]
theorem ckX7_needTier : tbX7_needTier.all (xRow RX7 cX7_needTier wsX7_needTier vwCl [8] clX7_needTier thX7_needTier 4 (yX7_needTier.name == "<init>") (some (.object "Towmaster$Row"))) = true := xRow_q 0xb03000c03801b61d1000b42abf5f01b7a50113595b01bb0e00a16c00b61000b42a1d0e009b1d3e601c68051b0501b8051c8000b81b 53 (by decide +kernel) (by decide +kernel)
theorem usX7_needTier : xUse wsX7_needTier vwCl [8] = true := xUse_g rfl (lw_good lwl_X7_needTier lwl_X70 (by decide +kernel)) xUse_n
theorem tbX7_needTier_0 {k : Instr → Nat → Nat → Nat → List Nat → Prop} : xse (xFind tbX7_needTier 0) k = k (.iload_n 1) 1 0 0 [] := rfl
theorem tbX7_needTier_1 {k : Instr → Nat → Nat → Nat → List Nat → Prop} : xse (xFind tbX7_needTier 1) k = k (.invokestatic 128) 0 1 0 [] := rfl
theorem tbX7_needTier_4 {k : Instr → Nat → Nat → Nat → List Nat → Prop} : xse (xFind tbX7_needTier 4) k = k (.iload_n 2) 2 0 0 [] := rfl
theorem tbX7_needTier_5 {k : Instr → Nat → Nat → Nat → List Nat → Prop} : xse (xFind tbX7_needTier 5) k = k (.iconst 2) 0 0 0 [] := rfl
theorem tbX7_needTier_6 {k : Instr → Nat → Nat → Nat → List Nat → Prop} : xse (xFind tbX7_needTier 6) k = k (.invokestatic 261) 1 2 0 [] := rfl
theorem tbX7_needTier_9 {k : Instr → Nat → Nat → Nat → List Nat → Prop} : xse (xFind tbX7_needTier 9) k = k (.iload_n 1) 1 0 0 [] := rfl
theorem tbX7_needTier_10 {k : Instr → Nat → Nat → Nat → List Nat → Prop} : xse (xFind tbX7_needTier 10) k = k (.iconst 2) 0 0 0 [] := rfl
theorem tbX7_needTier_11 {k : Instr → Nat → Nat → Nat → List Nat → Prop} : xse (xFind tbX7_needTier 11) k = k (.imul) 0 0 0 [] := rfl
theorem tbX7_needTier_12 {k : Instr → Nat → Nat → Nat → List Nat → Prop} : xse (xFind tbX7_needTier 12) k = k (.iload_n 2) 2 0 0 [] := rfl
theorem tbX7_needTier_13 {k : Instr → Nat → Nat → Nat → List Nat → Prop} : xse (xFind tbX7_needTier 13) k = k (.iadd) 0 0 0 [] := rfl
theorem tbX7_needTier_14 {k : Instr → Nat → Nat → Nat → List Nat → Prop} : xse (xFind tbX7_needTier 14) k = k (.istore_n 3) 3 0 0 [] := rfl
theorem tbX7_needTier_15 {k : Instr → Nat → Nat → Nat → List Nat → Prop} : xse (xFind tbX7_needTier 15) k = k (.iload_n 3) 3 0 0 [] := rfl
theorem tbX7_needTier_16 {k : Instr → Nat → Nat → Nat → List Nat → Prop} : xse (xFind tbX7_needTier 16) k = k (.ifCond .lt 14) 30 0 0 [] := rfl
theorem tbX7_needTier_19 {k : Instr → Nat → Nat → Nat → List Nat → Prop} : xse (xFind tbX7_needTier 19) k = k (.iload_n 3) 3 0 0 [] := rfl
theorem tbX7_needTier_20 {k : Instr → Nat → Nat → Nat → List Nat → Prop} : xse (xFind tbX7_needTier 20) k = k (.aload_n 0) 0 0 0 [] := rfl
theorem tbX7_needTier_21 {k : Instr → Nat → Nat → Nat → List Nat → Prop} : xse (xFind tbX7_needTier 21) k = k (.getfield 16) 8 1 2 [] := rfl
theorem tbX7_needTier_24 {k : Instr → Nat → Nat → Nat → List Nat → Prop} : xse (xFind tbX7_needTier 24) k = k (.invokevirtual 108) 2 1 0 [] := rfl
theorem tbX7_needTier_27 {k : Instr → Nat → Nat → Nat → List Nat → Prop} : xse (xFind tbX7_needTier 27) k = k (.if_icmp .lt 14) 41 0 0 [] := rfl
theorem tbX7_needTier_30 {k : Instr → Nat → Nat → Nat → List Nat → Prop} : xse (xFind tbX7_needTier 30) k = k (.new 347) 1 0 0 [] := rfl
theorem tbX7_needTier_41 {k : Instr → Nat → Nat → Nat → List Nat → Prop} : xse (xFind tbX7_needTier 41) k = k (.aload_n 0) 0 0 0 [] := rfl
theorem tbX7_needTier_42 {k : Instr → Nat → Nat → Nat → List Nat → Prop} : xse (xFind tbX7_needTier 42) k = k (.getfield 16) 8 1 2 [] := rfl
theorem tbX7_needTier_45 {k : Instr → Nat → Nat → Nat → List Nat → Prop} : xse (xFind tbX7_needTier 45) k = k (.iload_n 3) 3 0 0 [] := rfl
theorem tbX7_needTier_46 {k : Instr → Nat → Nat → Nat → List Nat → Prop} : xse (xFind tbX7_needTier 46) k = k (.invokevirtual 312) 3 2 0 [] := rfl
theorem tbX7_needTier_49 {k : Instr → Nat → Nat → Nat → List Nat → Prop} : xse (xFind tbX7_needTier 49) k = k (.checkcast 48) 5 0 0 [] := rfl
theorem tbX7_needTier_52 {k : Instr → Nat → Nat → Nat → List Nat → Prop} : xse (xFind tbX7_needTier 52) k = k (.areturn) 0 0 0 [] := rfl

def spX7_needTier (W9 : xWd) : xSp cS := (fun av S => (3, 18), fun av S K => ∃ (a : Nat) (p : Int32) (t : Int32), av = [.ref a, .int p, .int t] ∧ (cK S a = 9 ∧ cIn S a 801 1 ∧ lAll S (cRf S a 801) 6 ∧ cFi S (cRf S a 801) 2 = 16 ∧ ((0 ≤ p ∧ p < 8) ∧ 0 ≤ t ∧ t < 2 → K (rR (lG S (cRf S a 801) (p * 2 + t).toNatClampNeg)) S) ∧ (¬ ((0 ≤ p ∧ p < 8) ∧ 0 ≤ t ∧ t < 2) → K (rX "java/lang/IndexOutOfBoundsException") S)))
theorem spcX7_needTier {av : List Value} {S : cS} {W9 : xWd} : (spX7_needTier W9).1 av S = (3, 18) := rfl
theorem spwX7_needTier {S : cS} {W9 : xWd} {K : xRes → cS → Prop} {a : Nat} {p : Int32} {t : Int32} : (spX7_needTier W9).2 [.ref a, .int p, .int t] S K = (cK S a = 9 ∧ cIn S a 801 1 ∧ lAll S (cRf S a 801) 6 ∧ cFi S (cRf S a 801) 2 = 16 ∧ ((0 ≤ p ∧ p < 8) ∧ 0 ≤ t ∧ t < 2 → K (rR (lG S (cRf S a 801) (p * 2 + t).toNatClampNeg)) S) ∧ (¬ ((0 ≤ p ∧ p < 8) ∧ 0 ≤ t ∧ t < 2) → K (rX "java/lang/IndexOutOfBoundsException") S)) :=
  propext ⟨fun h => by
    simp only [spX7_needTier] at h
    obtain ⟨_, _, _, e, h⟩ := h
    simp only [List.cons.injEq, Value.int.injEq, Value.ref.injEq, rf_eq, and_true, true_and] at e
    obtain ⟨rfl, rfl, rfl⟩ := e
    exact h, fun h => ⟨_, _, _, rfl, h⟩⟩

def callX7_needTier (W9 : xWd) : Nat → Option (xSp cS) := fun n => match n with | 0 => some (spX7_needPoint W9) | 1 => some (spX7_needIndex W9) | 2 => some (spJx4a65c_size_8abf5 W9) | 3 => some (spJx4a65c_get_915e3 W9) | _ => none

theorem callX7_needTier_0 {W9 : xWd} {k : xSp cS → Prop} : xcs (callX7_needTier W9 0) k = k (spX7_needPoint W9) := rfl

theorem callX7_needTier_1 {W9 : xWd} {k : xSp cS → Prop} : xcs (callX7_needTier W9 1) k = k (spX7_needIndex W9) := rfl

theorem callX7_needTier_2 {W9 : xWd} {k : xSp cS → Prop} : xcs (callX7_needTier W9 2) k = k (spJx4a65c_size_8abf5 W9) := rfl

theorem callX7_needTier_3 {W9 : xWd} {k : xSp cS → Prop} : xcs (callX7_needTier W9 3) k = k (spJx4a65c_get_915e3 W9) := rfl

theorem crX7_needTier (l : Launch) (hl : l.stackTraces = false) (W9 : xWd) : xCallsOK l W9 (cI) (callX7_needTier W9) clX7_needTier RX7 wsX7_needTier 8 131 4 := by
  intro E A p e R s m args below meth c hI hF hL X
  exact List.forall_mem_cons.mpr ⟨⟨_, rfl, xCR_S X (by rw [hI]; exact (semX7_needPoint l hl W9)) gX7_needTier_X7_needPoint rfl (by decide +kernel) (by rw [hF, hL]; decide)⟩,
    List.forall_mem_cons.mpr ⟨⟨_, rfl, xCR_S X (by rw [hI]; exact (semX7_needIndex l hl W9)) gX7_needTier_X7_needIndex rfl (by decide +kernel) (by rw [hF, hL]; decide)⟩,
    List.forall_mem_cons.mpr ⟨⟨_, rfl, xCR_V X (by rw [hI]; exact (semJx4a65c_size_8abf5 l hl W9)) gX7_needTier_Jx4a65c_size_8abf5 rfl rfl (by decide +kernel) (by rw [hF, hL]; decide)⟩,
    List.forall_mem_cons.mpr ⟨⟨_, rfl, xCR_V X (by rw [hI]; exact (semJx4a65c_get_915e3 l hl W9)) gX7_needTier_Jx4a65c_get_915e3 rfl rfl (by decide +kernel) (by rw [hF, hL]; decide)⟩,
    fun _ h => nomatch h⟩⟩⟩⟩

def thfX7_needTier : Nat → String := fun n => match n with | 0 => "java/lang/IndexOutOfBoundsException" | _ => ""

theorem thfX7_needTier_0 : thfX7_needTier 0 = "java/lang/IndexOutOfBoundsException" := rfl

theorem trX7_needTier (l : Launch) (hl : l.stackTraces = false) (W9 : xWd) : xThrOK l W9 thfX7_needTier thX7_needTier RX7 cX7_needTier wsX7_needTier 8 131 4 := by
  intro A p e R s m args below meth c hF hL hb hx hml hown hts hAmb hlocks hext
  exact List.forall_mem_cons.mpr ⟨xTR_SW (text := "there is no such tier") hl hx hb hml hown hts hAmb hlocks hext (by decide +kernel) (ik := 347) (is := 421) (ic := 351) (by decide +kernel) (by decide +kernel) (by decide +kernel) (atin_of (by decide +kernel)) xng_ioobe xgood_ioobe (by decide +kernel) (by decide +kernel) (by decide +kernel) (by decide +kernel) (by decide +kernel) (by rw [hF, hL]; decide),
    fun _ h => nomatch h⟩

set_option maxHeartbeats 4000000 in
set_option maxRecDepth 20000 in
theorem semX7_needTier (l : Launch) (hl : l.stackTraces = false) (W9 : xWd) : xSem l W9 (cI) yX7_needTier wsX7_needTier 8 131 (spX7_needTier W9) := by
  refine xSem_of (call := callX7_needTier W9) (thrf := thfX7_needTier) cI_law (by decide +kernel) rfl ckX7_needTier usX7_needTier (crX7_needTier l hl W9) (trX7_needTier l hl W9) ?_ ?_
  · intro av S KF h
    obtain ⟨a, p, t, rfl, h⟩ := h
    exact ⟨by intro v hv; simp only [List.mem_cons, List.not_mem_nil, or_false] at hv; rcases hv with rfl | rfl | rfl <;> first | rfl | exact cat_rf, Nat.le_of_ble_eq_true rfl⟩
  intro av S KF h G hG
  obtain ⟨a, p, t, rfl, h⟩ := h
  rw [show (spX7_needTier W9).1 _ S = _ from spcX7_needTier] at hG
  try dsimp only at hG
  change G 0 [some (.ref a), some (.int p), some (.int t), none] [] S 0 0
  obtain ⟨h0, ⟨h1, h2⟩, h3a, h6, h4, h5⟩ := h

  have h3 := h3a.1
  by_cases q : (0 ≤ p ∧ p < 8) ∧ 0 ≤ t ∧ t < 2
  · have h := h4 q
    have q1 : 0 ≤ p * 2 + t ∧ p * 2 + t < 16 := by grind
    obtain ⟨g1, g2⟩ := lAll_at h3a q1.1 (by rw [h6]; exact q1.2)
    have q2 : ¬ p * 2 + t < 0 := fun z => Int32.lt_irrefl (Int32.lt_of_lt_of_le z q1.1)
    have q3 : ¬ 16 ≤ p * 2 + t := fun z => Int32.lt_irrefl (Int32.lt_of_lt_of_le q1.2 z)
    refine xgo0 hG (fun fu hfu => ?_)
    simp only [↓callX7_needTier_0, ↓callX7_needTier_1, ↓callX7_needTier_2, ↓callX7_needTier_3, ↓cg_8_1, cisa, ki_2, ↓vm_aload_n, ↓vm_areturn, ↓vm_checkcast, ↓vm_getfield, ↓vm_iadd, ↓vm_iconst, ↓vm_ifCond_lt, ↓vm_if_icmp_lt, ↓vm_iload_n, ↓vm_imul, ↓vm_invokestatic, ↓vm_invokevirtual, ↓vm_istore_n, ↓vm_newX, ↓xc_1, ↓xc_2, ↓tbX7_needTier_0, ↓tbX7_needTier_1, ↓tbX7_needTier_4, ↓tbX7_needTier_5, ↓tbX7_needTier_6, ↓tbX7_needTier_9, ↓tbX7_needTier_10, ↓tbX7_needTier_11, ↓tbX7_needTier_12, ↓tbX7_needTier_13, ↓tbX7_needTier_14, ↓tbX7_needTier_15, ↓tbX7_needTier_16, ↓tbX7_needTier_19, ↓tbX7_needTier_20, ↓tbX7_needTier_21, ↓tbX7_needTier_24, ↓tbX7_needTier_27, ↓tbX7_needTier_30, ↓tbX7_needTier_41, ↓tbX7_needTier_42, ↓tbX7_needTier_45, ↓tbX7_needTier_46, ↓tbX7_needTier_49, ↓tbX7_needTier_52, hfu, xstep0, xJ1_hit, xJ1_go, xJ2_hit1, xJ2_hit2, xJ2_go, ↓xif_t, ↓xif_f, seval, ↓xca_eq, ↓xre_l, ↓xre_r, xmask_t, xmask_f, xmask_nil, ↓xst_eq, xX_eq, eI_eq, eMc_eq, eMs_eq, eF_eq, eThr_eq, ↓xS1_mk, ↓xSI_mk, ↓xSR_mk, ↓xLI_0, ↓xLI_s, ↓xLR_0, ↓xLR_s, vRef_ref, vRef_null, vRef_rf, cat_int, cat_ref, cat_null, cat_rf, rf_some, rf_none, rf_null, rf_eq, rf_ref, ref_rf, ref_null, ref_ref, xOk_0, xOk_1, xOk_2r, xOk_2n, xOk_2f, vOpt_rf, vOpt_ref, vOpt_null, List.set_cons_zero, List.set_cons_succ, List.take_succ_cons, List.take_zero, List.drop_succ_cons, List.drop_zero, List.reverse_cons, List.reverse_nil, List.nil_append, List.cons_append, List.append_nil, List.length_cons, List.length_nil, List.map_cons, List.map_nil, List.sum_cons, List.sum_nil, Option.toList_some, Option.toList_none, xRecv_mk, true_and, and_true, true_implies, Nat.reduceAdd, Nat.reduceLeDiff, Nat.zero_le, Nat.le_refl, Nat.add_zero, Nat.zero_add, reduceIte, not_true_eq_false, not_false_eq_true, false_implies, and_self, implies_true, eq_self, Nat.reduceEqDiff, List.cons.injEq, xsn_1, xsn_2, false_and, and_false, or_false, false_or, or_true, true_or, xsn_3, xsn_4, ↓spwX7_needPoint, spcX7_needPoint, ↓spwX7_needIndex, spcX7_needIndex, ↓spwJx4a65c_size_8abf5, spcJx4a65c_size_8abf5, ↓spwJx4a65c_get_915e3, spcJx4a65c_get_915e3, thfX7_needTier_0, h0, h1, h2, h3, h6, q, q1, q2, q3, g1, g2]
    try simp only [xif_e]
    exact h
  · have h := h5 q
    refine xgo0 hG (fun fu hfu => ?_)
    simp only [↓callX7_needTier_0, ↓callX7_needTier_1, ↓callX7_needTier_2, ↓callX7_needTier_3, ↓cg_8_1, cisa, ki_2, ↓vm_aload_n, ↓vm_areturn, ↓vm_checkcast, ↓vm_getfield, ↓vm_iadd, ↓vm_iconst, ↓vm_ifCond_lt, ↓vm_if_icmp_lt, ↓vm_iload_n, ↓vm_imul, ↓vm_invokestatic, ↓vm_invokevirtual, ↓vm_istore_n, ↓vm_newX, ↓xc_1, ↓xc_2, ↓tbX7_needTier_0, ↓tbX7_needTier_1, ↓tbX7_needTier_4, ↓tbX7_needTier_5, ↓tbX7_needTier_6, ↓tbX7_needTier_9, ↓tbX7_needTier_10, ↓tbX7_needTier_11, ↓tbX7_needTier_12, ↓tbX7_needTier_13, ↓tbX7_needTier_14, ↓tbX7_needTier_15, ↓tbX7_needTier_16, ↓tbX7_needTier_19, ↓tbX7_needTier_20, ↓tbX7_needTier_21, ↓tbX7_needTier_24, ↓tbX7_needTier_27, ↓tbX7_needTier_30, ↓tbX7_needTier_41, ↓tbX7_needTier_42, ↓tbX7_needTier_45, ↓tbX7_needTier_46, ↓tbX7_needTier_49, ↓tbX7_needTier_52, hfu, xstep0, xJ1_hit, xJ1_go, xJ2_hit1, xJ2_hit2, xJ2_go, ↓xif_t, ↓xif_f, seval, ↓xca_eq, ↓xre_l, ↓xre_r, xmask_t, xmask_f, xmask_nil, ↓xst_eq, xX_eq, eI_eq, eMc_eq, eMs_eq, eF_eq, eThr_eq, ↓xS1_mk, ↓xSI_mk, ↓xSR_mk, ↓xLI_0, ↓xLI_s, ↓xLR_0, ↓xLR_s, vRef_ref, vRef_null, vRef_rf, cat_int, cat_ref, cat_null, cat_rf, rf_some, rf_none, rf_null, rf_eq, rf_ref, ref_rf, ref_null, ref_ref, xOk_0, xOk_1, xOk_2r, xOk_2n, xOk_2f, vOpt_rf, vOpt_ref, vOpt_null, List.set_cons_zero, List.set_cons_succ, List.take_succ_cons, List.take_zero, List.drop_succ_cons, List.drop_zero, List.reverse_cons, List.reverse_nil, List.nil_append, List.cons_append, List.append_nil, List.length_cons, List.length_nil, List.map_cons, List.map_nil, List.sum_cons, List.sum_nil, Option.toList_some, Option.toList_none, xRecv_mk, true_and, and_true, true_implies, Nat.reduceAdd, Nat.reduceLeDiff, Nat.zero_le, Nat.le_refl, Nat.add_zero, Nat.zero_add, reduceIte, not_true_eq_false, not_false_eq_true, false_implies, and_self, implies_true, eq_self, Nat.reduceEqDiff, List.cons.injEq, xsn_1, xsn_2, false_and, and_false, or_false, false_or, or_true, true_or, xsn_3, xsn_4, ↓spwX7_needPoint, spcX7_needPoint, ↓spwX7_needIndex, spcX7_needIndex, ↓spwJx4a65c_size_8abf5, spcJx4a65c_size_8abf5, ↓spwJx4a65c_get_915e3, spcJx4a65c_get_915e3, thfX7_needTier_0, h0, h1, h2, h3, h6]
    try simp only [xif_e]
    repeat' (first | with_reducible apply And.intro | with_reducible intro _)
    all_goals grind
