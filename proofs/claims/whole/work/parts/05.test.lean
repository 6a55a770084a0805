def tbX8_in : List (Nat × xHint) := [(0, .iload_n 0, 0, 0, 0, []), (1, .iload_n 1, 1, 0, 0, []), (2, .if_icmp .lt 12, 14, 0, 0, []), (5, .iload_n 0, 0, 0, 0, []), (6, .iload_n 2, 2, 0, 0, []), (7, .if_icmp .gt 7, 14, 0, 0, []), (10, .iconst 1, 0, 0, 0, []), (11, .goto 4, 15, 0, 0, []), (14, .iconst 0, 0, 0, 0, []), (15, .ireturn, 1, 0, 0, [])]
def clX8_in : List (Instr × Nat × Nat × Nat) := []
def thX8_in : List (Nat × Nat) := []
theorem ckX8_in : tbX8_in.all (xRow RX8 cX8_in wsX8_in vwCl [] clX8_in thX8_in 3 (yX8_in.name == "<init>") (some .boolean)) = true := by decide +kernel
theorem usX8_in : xUse wsX8_in vwCl [] = true := by decide +kernel
theorem tbX8_in_0 : xFind tbX8_in 0 = some (.iload_n 0, 0, 0, 0, []) := rfl
theorem tbX8_in_1 : xFind tbX8_in 1 = some (.iload_n 1, 1, 0, 0, []) := rfl
theorem tbX8_in_2 : xFind tbX8_in 2 = some (.if_icmp .lt 12, 14, 0, 0, []) := rfl
theorem tbX8_in_5 : xFind tbX8_in 5 = some (.iload_n 0, 0, 0, 0, []) := rfl
theorem tbX8_in_6 : xFind tbX8_in 6 = some (.iload_n 2, 2, 0, 0, []) := rfl
theorem tbX8_in_7 : xFind tbX8_in 7 = some (.if_icmp .gt 7, 14, 0, 0, []) := rfl
theorem tbX8_in_10 : xFind tbX8_in 10 = some (.iconst 1, 0, 0, 0, []) := rfl
theorem tbX8_in_11 : xFind tbX8_in 11 = some (.goto 4, 15, 0, 0, []) := rfl
theorem tbX8_in_14 : xFind tbX8_in 14 = some (.iconst 0, 0, 0, 0, []) := rfl
theorem tbX8_in_15 : xFind tbX8_in 15 = some (.ireturn, 1, 0, 0, []) := rfl

def spX8_in (aM : Nat → Nat) : xSp mS := (fun av M => (0, 0), fun av M K => ∃ (v : Int32) (a : Int32) (b : Int32), av = [.int v, .int a, .int b] ∧ (K (rI (bi (a ≤ v ∧ v ≤ b))) M))
theorem spcX8_in {av : List Value} {M : mS} {aM : Nat → Nat} : (spX8_in aM).1 av M = (0, 0) := rfl
theorem spwX8_in {M : mS} {aM : Nat → Nat} {K : xRes → mS → Prop} {v : Int32} {a : Int32} {b : Int32} : (spX8_in aM).2 [.int v, .int a, .int b] M K = (K (rI (bi (a ≤ v ∧ v ≤ b))) M) :=
  propext ⟨fun h => by
    simp only [spX8_in] at h
    obtain ⟨_, _, _, e, h⟩ := h
    simp only [List.cons.injEq, Value.int.injEq, Value.ref.injEq, rf_eq, and_true, true_and] at e
    obtain ⟨rfl, rfl, rfl⟩ := e
    exact h, fun h => ⟨_, _, _, rfl, h⟩⟩

set_option maxHeartbeats 4000000 in
set_option maxRecDepth 20000 in
theorem semX8_in (l : Launch) (W9 : xWd) (aM : Nat → Nat) (hi : mInj aM) : xSem l W9 (mI aM) yX8_in wsX8_in 0 0 (spX8_in aM) := by
  refine xSem_of (call := fun _ => none) (thrf := fun _ => "") (mI_law hi) (by decide +kernel) rfl ckX8_in usX8_in xCallsOK_nil xThrOK_nil ?_ ?_
  · intro av M KF h
    obtain ⟨v, a, b, rfl, h⟩ := h
    exact ⟨by intro v hv; simp only [List.mem_cons, List.not_mem_nil, or_false] at hv; rcases hv with rfl | rfl | rfl <;> first | rfl | exact cat_rf, Nat.le_of_ble_eq_true rfl⟩
  intro av M KF h G hG
  obtain ⟨v, a, b, rfl, h⟩ := h
  rw [show (spX8_in aM).1 _ M = _ from spcX8_in] at hG
  try dsimp only at hG
  change G 0 [some (.int v), some (.int a), some (.int b)] [] M 0 0
  refine hG.2 (fun _ => none) 2000 0 _ _ _ _ _ (fun _ _ _ h => by cases h) ?_
  clear hG
  simp only [ki_0, ki_1, vm_goto, vm_iconst, vm_if_icmp_gt, vm_if_icmp_lt, vm_iload_n, vm_ireturn, tbX8_in_0, tbX8_in_1, tbX8_in_2, tbX8_in_5, tbX8_in_6, tbX8_in_7, tbX8_in_10, tbX8_in_11, tbX8_in_14, tbX8_in_15, xstep, xcu_n, xcu_s, xse_s, xcs_s, xca_eq, xre_l, xre_r, xmask_t, xmask_f, xmask_nil, xst_eq, xX_eq, eI_eq, eMc_eq, eMs_eq, eF_eq, eThr_eq, xS1_mk, xSI_mk, xSR_mk, xLI_0, xLI_s, xLR_0, xLR_s, vRef_ref, vRef_null, vRef_rf, cat_int, cat_ref, cat_null, cat_rf, rf_some, rf_none, rf_null, rf_eq, rf_ref, ref_rf, ref_null, ref_ref, xOk_0, xOk_1, xOk_2r, xOk_2n, xOk_2f, vOpt_rf, vOpt_ref, vOpt_null, List.set_cons_zero, List.set_cons_succ, List.take_succ_cons, List.take_zero, List.drop_succ_cons, List.drop_zero, List.reverse_cons, List.reverse_nil, List.nil_append, List.cons_append, List.append_nil, List.length_cons, List.length_nil, List.map_cons, List.map_nil, List.sum_cons, List.sum_nil, Option.toList_some, Option.toList_none, xRecv_mk, true_and, and_true, true_implies, Nat.reduceAdd, Nat.reduceLeDiff, Nat.zero_le, Nat.le_refl, Nat.add_zero, Nat.zero_add, reduceIte, not_true_eq_false, not_false_eq_true, false_implies, and_self, implies_true, eq_self, Nat.reduceEqDiff, List.cons.injEq, reduceCtorEq]
  grind [bi]

def tbX8_holds : List (Nat × xHint) := [(0, .aload_n 0, 0, 0, 0, []), (1, .iload_n 1, 1, 0, 0, []), (2, .putfield 155, 9, 0, 0, []), (5, .iload_n 1, 1, 0, 0, []), (6, .ifCond .ne 7, 13, 0, 0, []), (9, .iconst 1, 0, 0, 0, []), (10, .goto 4, 14, 0, 0, []), (13, .iconst 0, 0, 0, 0, []), (14, .ireturn, 1, 0, 0, [])]
def clX8_holds : List (Instr × Nat × Nat × Nat) := []
def thX8_holds : List (Nat × Nat) := []
theorem ckX8_holds : tbX8_holds.all (xRow RX8 cX8_holds wsX8_holds vwCl [9] clX8_holds thX8_holds 2 (yX8_holds.name == "<init>") (some .boolean)) = true := by decide +kernel
theorem usX8_holds : xUse wsX8_holds vwCl [9] = true := by decide +kernel
theorem tbX8_holds_0 : xFind tbX8_holds 0 = some (.aload_n 0, 0, 0, 0, []) := rfl
theorem tbX8_holds_1 : xFind tbX8_holds 1 = some (.iload_n 1, 1, 0, 0, []) := rfl
theorem tbX8_holds_2 : xFind tbX8_holds 2 = some (.putfield 155, 9, 0, 0, []) := rfl
theorem tbX8_holds_5 : xFind tbX8_holds 5 = some (.iload_n 1, 1, 0, 0, []) := rfl
theorem tbX8_holds_6 : xFind tbX8_holds 6 = some (.ifCond .ne 7, 13, 0, 0, []) := rfl
theorem tbX8_holds_9 : xFind tbX8_holds 9 = some (.iconst 1, 0, 0, 0, []) := rfl
theorem tbX8_holds_10 : xFind tbX8_holds 10 = some (.goto 4, 14, 0, 0, []) := rfl
theorem tbX8_holds_13 : xFind tbX8_holds 13 = some (.iconst 0, 0, 0, 0, []) := rfl
theorem tbX8_holds_14 : xFind tbX8_holds 14 = some (.ireturn, 1, 0, 0, []) := rfl

def spX8_holds (aM : Nat → Nat) : xSp mS := (fun av M => (0, 0), fun av M K => ∃ (p : Int32), av = [.ref (aM 0), .int p] ∧ (K (rI (bi (p = 0))) (mSet M 0 p)))
theorem spcX8_holds {av : List Value} {M : mS} {aM : Nat → Nat} : (spX8_holds aM).1 av M = (0, 0) := rfl
theorem spwX8_holds {M : mS} {aM : Nat → Nat} {K : xRes → mS → Prop} {p : Int32} : (spX8_holds aM).2 [.ref (aM 0), .int p] M K = (K (rI (bi (p = 0))) (mSet M 0 p)) :=
  propext ⟨fun h => by
    simp only [spX8_holds] at h
    obtain ⟨_, e, h⟩ := h
    simp only [List.cons.injEq, Value.int.injEq, Value.ref.injEq, rf_eq, and_true, true_and] at e
    obtain rfl := e
    exact h, fun h => ⟨_, rfl, h⟩⟩

set_option maxHeartbeats 4000000 in
set_option maxRecDepth 20000 in
theorem semX8_holds (l : Launch) (W9 : xWd) (aM : Nat → Nat) (hi : mInj aM) : xSem l W9 (mI aM) yX8_holds wsX8_holds 0 0 (spX8_holds aM) := by
  refine xSem_of (call := fun _ => none) (thrf := fun _ => "") (mI_law hi) (by decide +kernel) rfl ckX8_holds usX8_holds xCallsOK_nil xThrOK_nil ?_ ?_
  · intro av M KF h
    obtain ⟨p, rfl, h⟩ := h
    exact ⟨by intro v hv; simp only [List.mem_cons, List.not_mem_nil, or_false] at hv; rcases hv with rfl | rfl <;> first | rfl | exact cat_rf, Nat.le_of_ble_eq_true rfl⟩
  intro av M KF h G hG
  obtain ⟨p, rfl, h⟩ := h
  rw [show (spX8_holds aM).1 _ M = _ from spcX8_holds] at hG
  try dsimp only at hG
  change G 0 [some (.ref (aM 0)), some (.int p)] [] M 0 0
  refine hG.2 (fun _ => none) 2000 0 _ _ _ _ _ (fun _ _ _ h => by cases h) ?_
  clear hG
  simp only [ki_0, ki_1, mp_0, vm_aload_n, vm_goto, vm_iconst, vm_ifCond_ne, vm_iload_n, vm_ireturn, vm_putfield, tbX8_holds_0, tbX8_holds_1, tbX8_holds_2, tbX8_holds_5, tbX8_holds_6, tbX8_holds_9, tbX8_holds_10, tbX8_holds_13, tbX8_holds_14, xstep, xcu_n, xcu_s, xse_s, xcs_s, xca_eq, xre_l, xre_r, xmask_t, xmask_f, xmask_nil, xst_eq, xX_eq, eI_eq, eMc_eq, eMs_eq, eF_eq, eThr_eq, xS1_mk, xSI_mk, xSR_mk, xLI_0, xLI_s, xLR_0, xLR_s, vRef_ref, vRef_null, vRef_rf, cat_int, cat_ref, cat_null, cat_rf, rf_some, rf_none, rf_null, rf_eq, rf_ref, ref_rf, ref_null, ref_ref, xOk_0, xOk_1, xOk_2r, xOk_2n, xOk_2f, vOpt_rf, vOpt_ref, vOpt_null, List.set_cons_zero, List.set_cons_succ, List.take_succ_cons, List.take_zero, List.drop_succ_cons, List.drop_zero, List.reverse_cons, List.reverse_nil, List.nil_append, List.cons_append, List.append_nil, List.length_cons, List.length_nil, List.map_cons, List.map_nil, List.sum_cons, List.sum_nil, Option.toList_some, Option.toList_none, xRecv_mk, true_and, and_true, true_implies, Nat.reduceAdd, Nat.reduceLeDiff, Nat.zero_le, Nat.le_refl, Nat.add_zero, Nat.zero_add, reduceIte, not_true_eq_false, not_false_eq_true, false_implies, and_self, implies_true, eq_self, Nat.reduceEqDiff, List.cons.injEq, reduceCtorEq]
  grind [bi]

def tbX0_bit : List (Nat × xHint) := [(0, .iconst 1, 0, 0, 0, []), (1, .aload_n 0, 0, 0, 0, []), (2, .getfield 15, 1, 0, 0, []), (5, .ishl, 0, 0, 0, []), (6, .ireturn, 0, 0, 0, [])]
def clX0_bit : List (Instr × Nat × Nat × Nat) := []
def thX0_bit : List (Nat × Nat) := []
theorem ckX0_bit : tbX0_bit.all (xRow RX0 cX0_bit wsX0_bit vwCl [1] clX0_bit thX0_bit 1 (yX0_bit.name == "<init>") (some .int)) = true := by decide +kernel
theorem usX0_bit : xUse wsX0_bit vwCl [1] = true := by decide +kernel
theorem tbX0_bit_0 : xFind tbX0_bit 0 = some (.iconst 1, 0, 0, 0, []) := rfl
theorem tbX0_bit_1 : xFind tbX0_bit 1 = some (.aload_n 0, 0, 0, 0, []) := rfl
theorem tbX0_bit_2 : xFind tbX0_bit 2 = some (.getfield 15, 1, 0, 0, []) := rfl
theorem tbX0_bit_5 : xFind tbX0_bit 5 = some (.ishl, 0, 0, 0, []) := rfl
theorem tbX0_bit_6 : xFind tbX0_bit 6 = some (.ireturn, 0, 0, 0, []) := rfl

def spX0_bit (W9 : xWd) : xSp cS := (fun av S => (0, 0), fun av S K => ∃ (a : Nat), av = [.ref a] ∧ (cK S a = 2 ∧ K (rI (1 <<< (cFi S a 100 &&& 31))) S))
theorem spcX0_bit {av : List Value} {S : cS} {W9 : xWd} : (spX0_bit W9).1 av S = (0, 0) := rfl
theorem spwX0_bit {S : cS} {W9 : xWd} {K : xRes → cS → Prop} {a : Nat} : (spX0_bit W9).2 [.ref a] S K = (cK S a = 2 ∧ K (rI (1 <<< (cFi S a 100 &&& 31))) S) :=
  propext ⟨fun h => by
    simp only [spX0_bit] at h
    obtain ⟨_, e, h⟩ := h
    simp only [List.cons.injEq, Value.int.injEq, Value.ref.injEq, rf_eq, and_true, true_and] at e
    obtain rfl := e
    exact h, fun h => ⟨_, rfl, h⟩⟩

set_option maxHeartbeats 4000000 in
set_option maxRecDepth 20000 in
theorem semX0_bit (l : Launch) (hl : l.stackTraces = false) (W9 : xWd) : xSem l W9 (cI) yX0_bit wsX0_bit 0 0 (spX0_bit W9) := by
  refine xSem_of (call := fun _ => none) (thrf := fun _ => "") cI_law (by decide +kernel) rfl ckX0_bit usX0_bit xCallsOK_nil xThrOK_nil ?_ ?_
  · intro av S KF h
    obtain ⟨a, rfl, h⟩ := h
    exact ⟨by intro v hv; simp only [List.mem_cons, List.not_mem_nil, or_false] at hv; rcases hv with rfl <;> first | rfl | exact cat_rf, Nat.le_of_ble_eq_true rfl⟩
  intro av S KF h G hG
  obtain ⟨a, rfl, h⟩ := h
  rw [show (spX0_bit W9).1 _ S = _ from spcX0_bit] at hG
  try dsimp only at hG
  change G 0 [some (.ref a)] [] S 0 0
  refine hG.2 (fun _ => none) 2000 0 _ _ _ _ _ (fun _ _ _ h => by cases h) ?_
  clear hG
  simp only [cg_1_0, ki_1, vm_aload_n, vm_getfield, vm_iconst, vm_ireturn, vm_ishl, tbX0_bit_0, tbX0_bit_1, tbX0_bit_2, tbX0_bit_5, tbX0_bit_6, xstep, xcu_n, xcu_s, xse_s, xcs_s, xca_eq, xre_l, xre_r, xmask_t, xmask_f, xmask_nil, xst_eq, xX_eq, eI_eq, eMc_eq, eMs_eq, eF_eq, eThr_eq, xS1_mk, xSI_mk, xSR_mk, xLI_0, xLI_s, xLR_0, xLR_s, vRef_ref, vRef_null, vRef_rf, cat_int, cat_ref, cat_null, cat_rf, rf_some, rf_none, rf_null, rf_eq, rf_ref, ref_rf, ref_null, ref_ref, xOk_0, xOk_1, xOk_2r, xOk_2n, xOk_2f, vOpt_rf, vOpt_ref, vOpt_null, List.set_cons_zero, List.set_cons_succ, List.take_succ_cons, List.take_zero, List.drop_succ_cons, List.drop_zero, List.reverse_cons, List.reverse_nil, List.nil_append, List.cons_append, List.append_nil, List.length_cons, List.length_nil, List.map_cons, List.map_nil, List.sum_cons, List.sum_nil, Option.toList_some, Option.toList_none, xRecv_mk, true_and, and_true, true_implies, Nat.reduceAdd, Nat.reduceLeDiff, Nat.zero_le, Nat.le_refl, Nat.add_zero, Nat.zero_add, reduceIte, not_true_eq_false, not_false_eq_true, false_implies, and_self, implies_true, eq_self, Nat.reduceEqDiff, List.cons.injEq, reduceCtorEq]
  grind [bi]

def tbX4_isTow : List (Nat × xHint) := [(0, .aload_n 0, 0, 0, 0, []), (1, .getfield 22, 5, 0, 0, []), (4, .iconst (-1), 0, 0, 0, []), (5, .if_icmp .eq 7, 12, 0, 0, []), (8, .iconst 1, 0, 0, 0, []), (9, .goto 4, 13, 0, 0, []), (12, .iconst 0, 0, 0, 0, []), (13, .ireturn, 1, 0, 0, [])]
def clX4_isTow : List (Instr × Nat × Nat × Nat) := []
def thX4_isTow : List (Nat × Nat) := []
theorem ckX4_isTow : tbX4_isTow.all (xRow RX4 cX4_isTow wsX4_isTow vwCl [5] clX4_isTow thX4_isTow 1 (yX4_isTow.name == "<init>") (some .boolean)) = true := by decide +kernel
theorem usX4_isTow : xUse wsX4_isTow vwCl [5] = true := by decide +kernel
theorem tbX4_isTow_0 : xFind tbX4_isTow 0 = some (.aload_n 0, 0, 0, 0, []) := rfl
theorem tbX4_isTow_1 : xFind tbX4_isTow 1 = some (.getfield 22, 5, 0, 0, []) := rfl
theorem tbX4_isTow_4 : xFind tbX4_isTow 4 = some (.iconst (-1), 0, 0, 0, []) := rfl
theorem tbX4_isTow_5 : xFind tbX4_isTow 5 = some (.if_icmp .eq 7, 12, 0, 0, []) := rfl
theorem tbX4_isTow_8 : xFind tbX4_isTow 8 = some (.iconst 1, 0, 0, 0, []) := rfl
theorem tbX4_isTow_9 : xFind tbX4_isTow 9 = some (.goto 4, 13, 0, 0, []) := rfl
theorem tbX4_isTow_12 : xFind tbX4_isTow 12 = some (.iconst 0, 0, 0, 0, []) := rfl
theorem tbX4_isTow_13 : xFind tbX4_isTow 13 = some (.ireturn, 1, 0, 0, []) := rfl

def spX4_isTow (W9 : xWd) : xSp cS := (fun av S => (0, 0), fun av S K => ∃ (a : Nat), av = [.ref a] ∧ (cK S a = 6 ∧ K (rI (bi (cFi S a 500 ≠ -1))) S))
theorem spcX4_isTow {av : List Value} {S : cS} {W9 : xWd} : (spX4_isTow W9).1 av S = (0, 0) := rfl
theorem spwX4_isTow {S : cS} {W9 : xWd} {K : xRes → cS → Prop} {a : Nat} : (spX4_isTow W9).2 [.ref a] S K = (cK S a = 6 ∧ K (rI (bi (cFi S a 500 ≠ -1))) S) :=
  propext ⟨fun h => by
    simp only [spX4_isTow] at h
    obtain ⟨_, e, h⟩ := h
    simp only [List.cons.injEq, Value.int.injEq, Value.ref.injEq, rf_eq, and_true, true_and] at e
    obtain rfl := e
    exact h, fun h => ⟨_, rfl, h⟩⟩

set_option maxHeartbeats 4000000 in
set_option maxRecDepth 20000 in
theorem semX4_isTow (l : Launch) (hl : l.stackTraces = false) (W9 : xWd) : xSem l W9 (cI) yX4_isTow wsX4_isTow 0 0 (spX4_isTow W9) := by
  refine xSem_of (call := fun _ => none) (thrf := fun _ => "") cI_law (by decide +kernel) rfl ckX4_isTow usX4_isTow xCallsOK_nil xThrOK_nil ?_ ?_
  · intro av S KF h
    obtain ⟨a, rfl, h⟩ := h
    exact ⟨by intro v hv; simp only [List.mem_cons, List.not_mem_nil, or_false] at hv; rcases hv with rfl <;> first | rfl | exact cat_rf, Nat.le_of_ble_eq_true rfl⟩
  intro av S KF h G hG
  obtain ⟨a, rfl, h⟩ := h
  rw [show (spX4_isTow W9).1 _ S = _ from spcX4_isTow] at hG
  try dsimp only at hG
  change G 0 [some (.ref a)] [] S 0 0
  refine hG.2 (fun _ => none) 2000 0 _ _ _ _ _ (fun _ _ _ h => by cases h) ?_
  clear hG
  simp only [cg_5_0, ki_0, ki_1, ki_m1, vm_aload_n, vm_getfield, vm_goto, vm_iconst, vm_if_icmp_eq, vm_ireturn, tbX4_isTow_0, tbX4_isTow_1, tbX4_isTow_4, tbX4_isTow_5, tbX4_isTow_8, tbX4_isTow_9, tbX4_isTow_12, tbX4_isTow_13, xstep, xcu_n, xcu_s, xse_s, xcs_s, xca_eq, xre_l, xre_r, xmask_t, xmask_f, xmask_nil, xst_eq, xX_eq, eI_eq, eMc_eq, eMs_eq, eF_eq, eThr_eq, xS1_mk, xSI_mk, xSR_mk, xLI_0, xLI_s, xLR_0, xLR_s, vRef_ref, vRef_null, vRef_rf, cat_int, cat_ref, cat_null, cat_rf, rf_some, rf_none, rf_null, rf_eq, rf_ref, ref_rf, ref_null, ref_ref, xOk_0, xOk_1, xOk_2r, xOk_2n, xOk_2f, vOpt_rf, vOpt_ref, vOpt_null, List.set_cons_zero, List.set_cons_succ, List.take_succ_cons, List.take_zero, List.drop_succ_cons, List.drop_zero, List.reverse_cons, List.reverse_nil, List.nil_append, List.cons_append, List.append_nil, List.length_cons, List.length_nil, List.map_cons, List.map_nil, List.sum_cons, List.sum_nil, Option.toList_some, Option.toList_none, xRecv_mk, true_and, and_true, true_implies, Nat.reduceAdd, Nat.reduceLeDiff, Nat.zero_le, Nat.le_refl, Nat.add_zero, Nat.zero_add, reduceIte, not_true_eq_false, not_false_eq_true, false_implies, and_self, implies_true, eq_self, Nat.reduceEqDiff, List.cons.injEq, reduceCtorEq]
  grind [bi]

def tbX0_isTiedAt : List (Nat × xHint) := [(0, .aload_n 0, 0, 0, 0, []), (1, .getfield 21, 1, 2, 2, []), (4, .invokevirtual 25, 0, 1, 5, []), (7, .ifCond .ne 18, 25, 0, 0, []), (10, .aload_n 0, 0, 0, 0, []), (11, .getfield 21, 1, 2, 2, []), (14, .getfield 31, 5, 1, 0, []), (17, .iload_n 1, 1, 0, 0, []), (18, .if_icmp .ne 7, 25, 0, 0, []), (21, .iconst 1, 0, 0, 0, []), (22, .goto 4, 26, 0, 0, []), (25, .iconst 0, 0, 0, 0, []), (26, .ireturn, 1, 0, 0, [])]
def clX0_isTiedAt : List (Instr × Nat × Nat × Nat) := [(.invokevirtual 25, 0, 1, 5)]
def thX0_isTiedAt : List (Nat × Nat) := []
theorem ckX0_isTiedAt : tbX0_isTiedAt.all (xRow RX0 cX0_isTiedAt wsX0_isTiedAt vwCl [1, 5] clX0_isTiedAt thX0_isTiedAt 2 (yX0_isTiedAt.name == "<init>") (some .boolean)) = true := by decide +kernel
theorem usX0_isTiedAt : xUse wsX0_isTiedAt vwCl [1, 5] = true := by decide +kernel
theorem tbX0_isTiedAt_0 : xFind tbX0_isTiedAt 0 = some (.aload_n 0, 0, 0, 0, []) := rfl
theorem tbX0_isTiedAt_1 : xFind tbX0_isTiedAt 1 = some (.getfield 21, 1, 2, 2, []) := rfl
theorem tbX0_isTiedAt_4 : xFind tbX0_isTiedAt 4 = some (.invokevirtual 25, 0, 1, 5, []) := rfl
theorem tbX0_isTiedAt_7 : xFind tbX0_isTiedAt 7 = some (.ifCond .ne 18, 25, 0, 0, []) := rfl
theorem tbX0_isTiedAt_10 : xFind tbX0_isTiedAt 10 = some (.aload_n 0, 0, 0, 0, []) := rfl
theorem tbX0_isTiedAt_11 : xFind tbX0_isTiedAt 11 = some (.getfield 21, 1, 2, 2, []) := rfl
theorem tbX0_isTiedAt_14 : xFind tbX0_isTiedAt 14 = some (.getfield 31, 5, 1, 0, []) := rfl
theorem tbX0_isTiedAt_17 : xFind tbX0_isTiedAt 17 = some (.iload_n 1, 1, 0, 0, []) := rfl
theorem tbX0_isTiedAt_18 : xFind tbX0_isTiedAt 18 = some (.if_icmp .ne 7, 25, 0, 0, []) := rfl
theorem tbX0_isTiedAt_21 : xFind tbX0_isTiedAt 21 = some (.iconst 1, 0, 0, 0, []) := rfl
theorem tbX0_isTiedAt_22 : xFind tbX0_isTiedAt 22 = some (.goto 4, 26, 0, 0, []) := rfl
theorem tbX0_isTiedAt_25 : xFind tbX0_isTiedAt 25 = some (.iconst 0, 0, 0, 0, []) := rfl
theorem tbX0_isTiedAt_26 : xFind tbX0_isTiedAt 26 = some (.ireturn, 1, 0, 0, []) := rfl

def spX0_isTiedAt (W9 : xWd) : xSp cS := (fun av S => (0, 0), fun av S K => ∃ (a : Nat) (p : Int32), av = [.ref a, .int p] ∧ (cK S a = 2 ∧ ∃ r, cFr S a 102 = some r ∧ cK S r = 6 ∧ K (rI (bi (¬ cFi S r 500 ≠ -1 ∧ cFi S r 501 = p))) S))
theorem spcX0_isTiedAt {av : List Value} {S : cS} {W9 : xWd} : (spX0_isTiedAt W9).1 av S = (0, 0) := rfl
theorem spwX0_isTiedAt {S : cS} {W9 : xWd} {K : xRes → cS → Prop} {a : Nat} {p : Int32} : (spX0_isTiedAt W9).2 [.ref a, .int p] S K = (cK S a = 2 ∧ ∃ r, cFr S a 102 = some r ∧ cK S r = 6 ∧ K (rI (bi (¬ cFi S r 500 ≠ -1 ∧ cFi S r 501 = p))) S) :=
  propext ⟨fun h => by
    simp only [spX0_isTiedAt] at h
    obtain ⟨_, _, e, h⟩ := h
    simp only [List.cons.injEq, Value.int.injEq, Value.ref.injEq, rf_eq, and_true, true_and] at e
    obtain ⟨rfl, rfl⟩ := e
    exact h, fun h => ⟨_, _, rfl, h⟩⟩

def callX0_isTiedAt (W9 : xWd) : Nat → Option (xSp cS) := fun n => match n with | 0 => some (spX4_isTow W9) | _ => none

theorem callX0_isTiedAt_0 {W9 : xWd} : callX0_isTiedAt W9 0 = some (spX4_isTow W9) := rfl

theorem crX0_isTiedAt (l : Launch) (hl : l.stackTraces = false) (W9 : xWd) : xCallsOK l W9 (cI) (callX0_isTiedAt W9) clX0_isTiedAt RX0 wsX0_isTiedAt 1 20 2 := by
  intro E A p e R s m args below meth c hI hF hL X
  exact List.forall_mem_cons.mpr ⟨⟨_, rfl, xCR_V X (by rw [hI]; exact (semX4_isTow l hl W9)) gX0_isTiedAt_X4_isTow rfl rfl (by decide +kernel) (by rw [hF, hL]; decide)⟩,
    fun _ h => nomatch h⟩

set_option maxHeartbeats 4000000 in
set_option maxRecDepth 20000 in
theorem semX0_isTiedAt (l : Launch) (hl : l.stackTraces = false) (W9 : xWd) : xSem l W9 (cI) yX0_isTiedAt wsX0_isTiedAt 1 20 (spX0_isTiedAt W9) := by
  refine xSem_of (call := callX0_isTiedAt W9) (thrf := fun _ => "") cI_law (by decide +kernel) rfl ckX0_isTiedAt usX0_isTiedAt (crX0_isTiedAt l hl W9) xThrOK_nil ?_ ?_
  · intro av S KF h
    obtain ⟨a, p, rfl, h⟩ := h
    exact ⟨by intro v hv; simp only [List.mem_cons, List.not_mem_nil, or_false] at hv; rcases hv with rfl | rfl <;> first | rfl | exact cat_rf, Nat.le_of_ble_eq_true rfl⟩
  intro av S KF h G hG
  obtain ⟨a, p, rfl, h⟩ := h
  rw [show (spX0_isTiedAt W9).1 _ S = _ from spcX0_isTiedAt] at hG
  try dsimp only at hG
  change G 0 [some (.ref a), some (.int p)] [] S 0 0
  obtain ⟨hK, r, hr, hKr, h⟩ := h
  refine hG.2 (fun _ => none) 2000 0 _ _ _ _ _ (fun _ _ _ h => by cases h) ?_
  clear hG
  simp only [callX0_isTiedAt_0, cg_1_2, cg_5_1, cisa, ki_0, ki_1, vm_aload_n, vm_getfield, vm_goto, vm_iconst, vm_ifCond_ne, vm_if_icmp_ne, vm_iload_n, vm_invokevirtual, vm_ireturn, xCall_eq, tbX0_isTiedAt_0, tbX0_isTiedAt_1, tbX0_isTiedAt_4, tbX0_isTiedAt_7, tbX0_isTiedAt_10, tbX0_isTiedAt_11, tbX0_isTiedAt_14, tbX0_isTiedAt_17, tbX0_isTiedAt_18, tbX0_isTiedAt_21, tbX0_isTiedAt_22, tbX0_isTiedAt_25, tbX0_isTiedAt_26, xstep, xcu_n, xcu_s, xse_s, xcs_s, xca_eq, xre_l, xre_r, xmask_t, xmask_f, xmask_nil, xst_eq, xX_eq, eI_eq, eMc_eq, eMs_eq, eF_eq, eThr_eq, xS1_mk, xSI_mk, xSR_mk, xLI_0, xLI_s, xLR_0, xLR_s, vRef_ref, vRef_null, vRef_rf, cat_int, cat_ref, cat_null, cat_rf, rf_some, rf_none, rf_null, rf_eq, rf_ref, ref_rf, ref_null, ref_ref, xOk_0, xOk_1, xOk_2r, xOk_2n, xOk_2f, vOpt_rf, vOpt_ref, vOpt_null, List.set_cons_zero, List.set_cons_succ, List.take_succ_cons, List.take_zero, List.drop_succ_cons, List.drop_zero, List.reverse_cons, List.reverse_nil, List.nil_append, List.cons_append, List.append_nil, List.length_cons, List.length_nil, List.map_cons, List.map_nil, List.sum_cons, List.sum_nil, Option.toList_some, Option.toList_none, xRecv_mk, true_and, and_true, true_implies, Nat.reduceAdd, Nat.reduceLeDiff, Nat.zero_le, Nat.le_refl, Nat.add_zero, Nat.zero_add, reduceIte, not_true_eq_false, not_false_eq_true, false_implies, and_self, implies_true, eq_self, Nat.reduceEqDiff, List.cons.injEq, reduceCtorEq, hK, hr, hKr, spwX4_isTow, spcX4_isTow]
  grind [bi]

def tbX7_needState : List (Nat × xHint) := [(0, .iload_n 0, 0, 0, 0, []), (1, .ifCond .ne 14, 15, 0, 0, []), (4, .new 171, 1, 0, 0, []), (15, .return_, 0, 0, 0, [])]
def clX7_needState : List (Instr × Nat × Nat × Nat) := []
def thX7_needState : List (Nat × Nat) := [(4, 0)]
theorem ckX7_needState : tbX7_needState.all (xRow RX7 cX7_needState wsX7_needState vwCl [] clX7_needState thX7_needState 1 (yX7_needState.name == "<init>") none) = true := by decide +kernel
theorem usX7_needState : xUse wsX7_needState vwCl [] = true := by decide +kernel
theorem tbX7_needState_0 : xFind tbX7_needState 0 = some (.iload_n 0, 0, 0, 0, []) := rfl
theorem tbX7_needState_1 : xFind tbX7_needState 1 = some (.ifCond .ne 14, 15, 0, 0, []) := rfl
theorem tbX7_needState_4 : xFind tbX7_needState 4 = some (.new 171, 1, 0, 0, []) := rfl
theorem tbX7_needState_15 : xFind tbX7_needState 15 = some (.return_, 0, 0, 0, []) := rfl

def spX7_needState (W9 : xWd) : xSp cS := (fun av S => (1, 6), fun av S K => ∃ (z : Int32), av = [.int z] ∧ ((z ≠ 0 → K rV S) ∧ (z = 0 → K (rX "java/lang/IllegalStateException") S)))
theorem spcX7_needState {av : List Value} {S : cS} {W9 : xWd} : (spX7_needState W9).1 av S = (1, 6) := rfl
theorem spwX7_needState {S : cS} {W9 : xWd} {K : xRes → cS → Prop} {z : Int32} : (spX7_needState W9).2 [.int z] S K = ((z ≠ 0 → K rV S) ∧ (z = 0 → K (rX "java/lang/IllegalStateException") S)) :=
  propext ⟨fun h => by
    simp only [spX7_needState] at h
    obtain ⟨_, e, h⟩ := h
    simp only [List.cons.injEq, Value.int.injEq, Value.ref.injEq, rf_eq, and_true, true_and] at e
    obtain rfl := e
    exact h, fun h => ⟨_, rfl, h⟩⟩

def thfX7_needState : Nat → String := fun n => match n with | 0 => "java/lang/IllegalStateException" | _ => ""

theorem thfX7_needState_0 : thfX7_needState 0 = "java/lang/IllegalStateException" := rfl

theorem trX7_needState (l : Launch) (hl : l.stackTraces = false) (W9 : xWd) : xThrOK l W9 thfX7_needState thX7_needState RX7 cX7_needState wsX7_needState 6 90 1 := by
  intro A p e R s m args below meth c hF hL hb hx hml hown hts hAmb hlocks hext
  exact List.forall_mem_cons.mpr ⟨xTR_SW (text := "as things stand, this cannot be done") hl hx hb hml hown hts hAmb hlocks hext (by decide +kernel) (ik := 171) (is := 415) (ic := 175) (by decide +kernel) (by decide +kernel) (by decide +kernel) (atin_of (by decide +kernel)) xng_ise xgood_ise (by decide +kernel) (by decide +kernel) (by decide +kernel) (by decide +kernel) (by decide +kernel) (by rw [hF, hL]; decide),
    fun _ h => nomatch h⟩

set_option maxHeartbeats 4000000 in
set_option maxRecDepth 20000 in
theorem semX7_needState (l : Launch) (hl : l.stackTraces = false) (W9 : xWd) : xSem l W9 (cI) yX7_needState wsX7_needState 6 90 (spX7_needState W9) := by
  refine xSem_of (call := fun _ => none) (thrf := thfX7_needState) cI_law (by decide +kernel) rfl ckX7_needState usX7_needState xCallsOK_nil (trX7_needState l hl W9) ?_ ?_
  · intro av S KF h
    obtain ⟨z, rfl, h⟩ := h
    exact ⟨by intro v hv; simp only [List.mem_cons, List.not_mem_nil, or_false] at hv; rcases hv with rfl <;> first | rfl | exact cat_rf, Nat.le_of_ble_eq_true rfl⟩
  intro av S KF h G hG
  obtain ⟨z, rfl, h⟩ := h
  rw [show (spX7_needState W9).1 _ S = _ from spcX7_needState] at hG
  try dsimp only at hG
  change G 0 [some (.int z)] [] S 0 0
  refine hG.2 (fun _ => none) 2000 0 _ _ _ _ _ (fun _ _ _ h => by cases h) ?_
  clear hG
  simp only [vm_ifCond_ne, vm_iload_n, vm_newX, vm_return_, tbX7_needState_0, tbX7_needState_1, tbX7_needState_4, tbX7_needState_15, xstep, xcu_n, xcu_s, xse_s, xcs_s, xca_eq, xre_l, xre_r, xmask_t, xmask_f, xmask_nil, xst_eq, xX_eq, eI_eq, eMc_eq, eMs_eq, eF_eq, eThr_eq, xS1_mk, xSI_mk, xSR_mk, xLI_0, xLI_s, xLR_0, xLR_s, vRef_ref, vRef_null, vRef_rf, cat_int, cat_ref, cat_null, cat_rf, rf_some, rf_none, rf_null, rf_eq, rf_ref, ref_rf, ref_null, ref_ref, xOk_0, xOk_1, xOk_2r, xOk_2n, xOk_2f, vOpt_rf, vOpt_ref, vOpt_null, List.set_cons_zero, List.set_cons_succ, List.take_succ_cons, List.take_zero, List.drop_succ_cons, List.drop_zero, List.reverse_cons, List.reverse_nil, List.nil_append, List.cons_append, List.append_nil, List.length_cons, List.length_nil, List.map_cons, List.map_nil, List.sum_cons, List.sum_nil, Option.toList_some, Option.toList_none, xRecv_mk, true_and, and_true, true_implies, Nat.reduceAdd, Nat.reduceLeDiff, Nat.zero_le, Nat.le_refl, Nat.add_zero, Nat.zero_add, reduceIte, not_true_eq_false, not_false_eq_true, false_implies, and_self, implies_true, eq_self, Nat.reduceEqDiff, List.cons.injEq, reduceCtorEq, thfX7_needState_0]
  grind [bi]
