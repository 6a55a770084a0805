/-! ArrayList's making. -/

def tbJxa1e45_init_da8c8 : List (Nat × xHint) := [(0, .aload_n 0, 0, 0, 0, []), (1, .invokespecial 1, 0, 1, 0, []), (4, .return_, 0, 0, 0, [])]
def clJxa1e45_init_da8c8 : List (Instr × Nat × Nat × Nat) := [(.invokespecial 1, 0, 1, 0)]
def thJxa1e45_init_da8c8 : List (Nat × Nat) := []
theorem ckJxa1e45_init_da8c8 : tbJxa1e45_init_da8c8.all (xRow RJxa1e45 cJxa1e45_init_da8c8 wsJxa1e45_init_da8c8 vwCl [] clJxa1e45_init_da8c8 thJxa1e45_init_da8c8 1 (yJxa1e45_init_da8c8.name == "<init>") none) = true := xRow_q 0xb10100b72a 5 (by decide +kernel) (by decide +kernel)
theorem usJxa1e45_init_da8c8 : xUse wsJxa1e45_init_da8c8 vwCl [] = true := xUse_n
theorem tbJxa1e45_init_da8c8_0 {k : Instr → Nat → Nat → Nat → List Nat → Prop} : xse (xFind tbJxa1e45_init_da8c8 0) k = k (.aload_n 0) 0 0 0 [] := rfl
theorem tbJxa1e45_init_da8c8_1 {k : Instr → Nat → Nat → Nat → List Nat → Prop} : xse (xFind tbJxa1e45_init_da8c8 1) k = k (.invokespecial 1) 0 1 0 [] := rfl
theorem tbJxa1e45_init_da8c8_4 {k : Instr → Nat → Nat → Nat → List Nat → Prop} : xse (xFind tbJxa1e45_init_da8c8 4) k = k (.return_) 0 0 0 [] := rfl

def spJxa1e45_init_da8c8 (W9 : xWd) : xSp cS := (fun av S => (0, 0), fun av S K => ∃ (a : Nat), av = [.ref a] ∧ (K rV S))
theorem spcJxa1e45_init_da8c8 {av : List Value} {S : cS} {W9 : xWd} : (spJxa1e45_init_da8c8 W9).1 av S = (0, 0) := rfl
theorem spwJxa1e45_init_da8c8 {S : cS} {W9 : xWd} {K : xRes → cS → Prop} {a : Nat} : (spJxa1e45_init_da8c8 W9).2 [.ref a] S K = (K rV S) :=
  propext ⟨fun h => by
    simp only [spJxa1e45_init_da8c8] at h
    obtain ⟨_, e, h⟩ := h
    simp only [List.cons.injEq, Value.int.injEq, Value.ref.injEq, rf_eq, and_true, true_and] at e
    obtain rfl := e
    exact h, fun h => ⟨_, rfl, h⟩⟩

theorem sprJxa1e45_init_da8c8 {W9 : xWd} : ∀ av S KF, (spJxa1e45_init_da8c8 W9).2 av S KF → ∃ b As, av = Value.ref b :: As := by
  intro av S KF h
  obtain ⟨a, rfl, h⟩ := h
  exact ⟨_, _, rfl⟩

def callJxa1e45_init_da8c8 (W9 : xWd) : Nat → Option (xSp cS) := fun n => match n with | 0 => some (spObj cS) | _ => none

theorem callJxa1e45_init_da8c8_0 {W9 : xWd} {k : xSp cS → Prop} : xcs (callJxa1e45_init_da8c8 W9 0) k = k (spObj cS) := rfl

theorem crJxa1e45_init_da8c8 (l : Launch) (hl : l.stackTraces = false) (W9 : xWd) : xCallsOK l W9 (cI) (callJxa1e45_init_da8c8 W9) clJxa1e45_init_da8c8 RJxa1e45 wsJxa1e45_init_da8c8 1 20 1 := by
  intro E A p e R s m args below meth c hI hF hL X
  exact List.forall_mem_cons.mpr ⟨⟨_, rfl, xCR_obj X (by decide +kernel) (by decide +kernel) (by decide +kernel) (by rw [hF, hL]; decide)⟩,
    fun _ h => nomatch h⟩

set_option maxHeartbeats 4000000 in
set_option maxRecDepth 20000 in
theorem semJxa1e45_init_da8c8 (l : Launch) (hl : l.stackTraces = false) (W9 : xWd) : xSem l W9 (cI) yJxa1e45_init_da8c8 wsJxa1e45_init_da8c8 1 20 (spJxa1e45_init_da8c8 W9) := by
  refine xSem_of (call := callJxa1e45_init_da8c8 W9) (thrf := fun _ => "") cI_law (by decide +kernel) rfl ckJxa1e45_init_da8c8 usJxa1e45_init_da8c8 (crJxa1e45_init_da8c8 l hl W9) xThrOK_nil ?_ ?_
  · intro av S KF h
    obtain ⟨a, rfl, h⟩ := h
    exact ⟨by intro v hv; simp only [List.mem_cons, List.not_mem_nil, or_false] at hv; rcases hv with rfl <;> first | rfl | exact cat_rf, Nat.le_of_ble_eq_true rfl⟩
  intro av S KF h G hG
  obtain ⟨a, rfl, h⟩ := h
  rw [show (spJxa1e45_init_da8c8 W9).1 _ S = _ from spcJxa1e45_init_da8c8] at hG
  try dsimp only at hG
  change G 0 [some (.ref a)] [] S 0 0
  refine xgo0 hG (fun fu hfu => ?_)
  clear hG
  simp only [↓callJxa1e45_init_da8c8_0, ↓vm_aload_n, ↓vm_invokespecial, ↓vm_return_, ↓xc_1, ↓tbJxa1e45_init_da8c8_0, ↓tbJxa1e45_init_da8c8_1, ↓tbJxa1e45_init_da8c8_4, hfu, xstep0, xJ1_hit, xJ1_go, xJ2_hit1, xJ2_hit2, xJ2_go, ↓xif_t, ↓xif_f, seval, ↓xca_eq, ↓xre_l, ↓xre_r, xmask_t, xmask_f, xmask_nil, ↓xst_eq, xX_eq, eI_eq, eMc_eq, eMs_eq, eF_eq, eThr_eq, ↓xS1_mk, ↓xSI_mk, ↓xSR_mk, ↓xLI_0, ↓xLI_s, ↓xLR_0, ↓xLR_s, vRef_ref, vRef_null, vRef_rf, cat_int, cat_ref, cat_null, cat_rf, rf_some, rf_none, rf_null, rf_eq, rf_ref, ref_rf, ref_null, ref_ref, xOk_0, xOk_1, xOk_2r, xOk_2n, xOk_2f, vOpt_rf, vOpt_ref, vOpt_null, List.set_cons_zero, List.set_cons_succ, List.take_succ_cons, List.take_zero, List.drop_succ_cons, List.drop_zero, List.reverse_cons, List.reverse_nil, List.nil_append, List.cons_append, List.append_nil, List.length_cons, List.length_nil, List.map_cons, List.map_nil, List.sum_cons, List.sum_nil, Option.toList_some, Option.toList_none, xRecv_mk, true_and, and_true, true_implies, Nat.reduceAdd, Nat.reduceLeDiff, Nat.zero_le, Nat.le_refl, Nat.add_zero, Nat.zero_add, reduceIte, not_true_eq_false, not_false_eq_true, false_implies, and_self, implies_true, eq_self, Nat.reduceEqDiff, List.cons.injEq, xsn_1, xsn_2, false_and, and_false, or_false, false_or, or_true, true_or, xsn_3, xsn_4, ↓spObj_w, spObj_c]
  try simp only [xif_e]
  exact h

def tbJxc12de_init_da8c8 : List (Nat × xHint) := [(0, .aload_n 0, 0, 0, 0, []), (1, .invokespecial 1, 0, 1, 0, []), (4, .aload_n 0, 0, 0, 0, []), (5, .iconst 0, 0, 0, 0, []), (6, .putfield 7, 0, 0, 0, []), (9, .return_, 0, 0, 0, [])]
def clJxc12de_init_da8c8 : List (Instr × Nat × Nat × Nat) := [(.invokespecial 1, 0, 1, 0)]
def thJxc12de_init_da8c8 : List (Nat × Nat) := []
theorem ckJxc12de_init_da8c8 : tbJxc12de_init_da8c8.all (xRow RJxc12de cJxc12de_init_da8c8 wsJxc12de_init_da8c8 vwCl [0] clJxc12de_init_da8c8 thJxc12de_init_da8c8 1 (yJxc12de_init_da8c8.name == "<init>") none) = true := xRow_q 0xb10700b5032a0100b72a 10 (by decide +kernel) (by decide +kernel)
theorem usJxc12de_init_da8c8 : xUse wsJxc12de_init_da8c8 vwCl [0] = true := xUse_g rfl (lw_good lwl_Jxc12de_init_da8c8 lwl_Jx4a65c0 (by decide +kernel)) xUse_n
theorem tbJxc12de_init_da8c8_0 {k : Instr → Nat → Nat → Nat → List Nat → Prop} : xse (xFind tbJxc12de_init_da8c8 0) k = k (.aload_n 0) 0 0 0 [] := rfl
theorem tbJxc12de_init_da8c8_1 {k : Instr → Nat → Nat → Nat → List Nat → Prop} : xse (xFind tbJxc12de_init_da8c8 1) k = k (.invokespecial 1) 0 1 0 [] := rfl
theorem tbJxc12de_init_da8c8_4 {k : Instr → Nat → Nat → Nat → List Nat → Prop} : xse (xFind tbJxc12de_init_da8c8 4) k = k (.aload_n 0) 0 0 0 [] := rfl
theorem tbJxc12de_init_da8c8_5 {k : Instr → Nat → Nat → Nat → List Nat → Prop} : xse (xFind tbJxc12de_init_da8c8 5) k = k (.iconst 0) 0 0 0 [] := rfl
theorem tbJxc12de_init_da8c8_6 {k : Instr → Nat → Nat → Nat → List Nat → Prop} : xse (xFind tbJxc12de_init_da8c8 6) k = k (.putfield 7) 0 0 0 [] := rfl
theorem tbJxc12de_init_da8c8_9 {k : Instr → Nat → Nat → Nat → List Nat → Prop} : xse (xFind tbJxc12de_init_da8c8 9) k = k (.return_) 0 0 0 [] := rfl

def spJxc12de_init_da8c8 (W9 : xWd) : xSp cS := (fun av S => (0, 0), fun av S K => ∃ (a : Nat), av = [.ref a] ∧ (cK S a = 1 ∧ K rV (cSetI S a 0 0)))
theorem spcJxc12de_init_da8c8 {av : List Value} {S : cS} {W9 : xWd} : (spJxc12de_init_da8c8 W9).1 av S = (0, 0) := rfl
theorem spwJxc12de_init_da8c8 {S : cS} {W9 : xWd} {K : xRes → cS → Prop} {a : Nat} : (spJxc12de_init_da8c8 W9).2 [.ref a] S K = (cK S a = 1 ∧ K rV (cSetI S a 0 0)) :=
  propext ⟨fun h => by
    simp only [spJxc12de_init_da8c8] at h
    obtain ⟨_, e, h⟩ := h
    simp only [List.cons.injEq, Value.int.injEq, Value.ref.injEq, rf_eq, and_true, true_and] at e
    obtain rfl := e
    exact h, fun h => ⟨_, rfl, h⟩⟩

theorem sprJxc12de_init_da8c8 {W9 : xWd} : ∀ av S KF, (spJxc12de_init_da8c8 W9).2 av S KF → ∃ b As, av = Value.ref b :: As := by
  intro av S KF h
  obtain ⟨a, rfl, h⟩ := h
  exact ⟨_, _, rfl⟩

def callJxc12de_init_da8c8 (W9 : xWd) : Nat → Option (xSp cS) := fun n => match n with | 0 => some (spJxa1e45_init_da8c8 W9) | _ => none

theorem callJxc12de_init_da8c8_0 {W9 : xWd} {k : xSp cS → Prop} : xcs (callJxc12de_init_da8c8 W9 0) k = k (spJxa1e45_init_da8c8 W9) := rfl

theorem crJxc12de_init_da8c8 (l : Launch) (hl : l.stackTraces = false) (W9 : xWd) : xCallsOK l W9 (cI) (callJxc12de_init_da8c8 W9) clJxc12de_init_da8c8 RJxc12de wsJxc12de_init_da8c8 2 40 1 := by
  intro E A p e R s m args below meth c hI hF hL X
  exact List.forall_mem_cons.mpr ⟨⟨_, rfl, xCR_I X (by rw [hI]; exact (semJxa1e45_init_da8c8 l hl W9)) gJxc12de_init_da8c8_Jxa1e45_init_da8c8 rfl (by decide +kernel) (by decide +kernel) (by decide +kernel) rfl sprJxa1e45_init_da8c8 (by decide +kernel) (by rw [hF, hL]; decide)⟩,
    fun _ h => nomatch h⟩

set_option maxHeartbeats 4000000 in
set_option maxRecDepth 20000 in
theorem semJxc12de_init_da8c8 (l : Launch) (hl : l.stackTraces = false) (W9 : xWd) : xSem l W9 (cI) yJxc12de_init_da8c8 wsJxc12de_init_da8c8 2 40 (spJxc12de_init_da8c8 W9) := by
  refine xSem_of (call := callJxc12de_init_da8c8 W9) (thrf := fun _ => "") cI_law (by decide +kernel) rfl ckJxc12de_init_da8c8 usJxc12de_init_da8c8 (crJxc12de_init_da8c8 l hl W9) xThrOK_nil ?_ ?_
  · intro av S KF h
    obtain ⟨a, rfl, h⟩ := h
    exact ⟨by intro v hv; simp only [List.mem_cons, List.not_mem_nil, or_false] at hv; rcases hv with rfl <;> first | rfl | exact cat_rf, Nat.le_of_ble_eq_true rfl⟩
  intro av S KF h G hG
  obtain ⟨a, rfl, h⟩ := h
  rw [show (spJxc12de_init_da8c8 W9).1 _ S = _ from spcJxc12de_init_da8c8] at hG
  try dsimp only at hG
  change G 0 [some (.ref a)] [] S 0 0
  obtain ⟨h0, h⟩ := h
  refine xgo0 hG (fun fu hfu => ?_)
  clear hG
  simp only [↓callJxc12de_init_da8c8_0, ↓cp_0_0, ki_0, ↓vm_aload_n, ↓vm_iconst, ↓vm_invokespecial, ↓vm_putfield, ↓vm_return_, ↓xc_1, ↓tbJxc12de_init_da8c8_0, ↓tbJxc12de_init_da8c8_1, ↓tbJxc12de_init_da8c8_4, ↓tbJxc12de_init_da8c8_5, ↓tbJxc12de_init_da8c8_6, ↓tbJxc12de_init_da8c8_9, hfu, xstep0, xJ1_hit, xJ1_go, xJ2_hit1, xJ2_hit2, xJ2_go, ↓xif_t, ↓xif_f, seval, ↓xca_eq, ↓xre_l, ↓xre_r, xmask_t, xmask_f, xmask_nil, ↓xst_eq, xX_eq, eI_eq, eMc_eq, eMs_eq, eF_eq, eThr_eq, ↓xS1_mk, ↓xSI_mk, ↓xSR_mk, ↓xLI_0, ↓xLI_s, ↓xLR_0, ↓xLR_s, vRef_ref, vRef_null, vRef_rf, cat_int, cat_ref, cat_null, cat_rf, rf_some, rf_none, rf_null, rf_eq, rf_ref, ref_rf, ref_null, ref_ref, xOk_0, xOk_1, xOk_2r, xOk_2n, xOk_2f, vOpt_rf, vOpt_ref, vOpt_null, List.set_cons_zero, List.set_cons_succ, List.take_succ_cons, List.take_zero, List.drop_succ_cons, List.drop_zero, List.reverse_cons, List.reverse_nil, List.nil_append, List.cons_append, List.append_nil, List.length_cons, List.length_nil, List.map_cons, List.map_nil, List.sum_cons, List.sum_nil, Option.toList_some, Option.toList_none, xRecv_mk, true_and, and_true, true_implies, Nat.reduceAdd, Nat.reduceLeDiff, Nat.zero_le, Nat.le_refl, Nat.add_zero, Nat.zero_add, reduceIte, not_true_eq_false, not_false_eq_true, false_implies, and_self, implies_true, eq_self, Nat.reduceEqDiff, List.cons.injEq, xsn_1, xsn_2, false_and, and_false, or_false, false_or, or_true, true_or, xsn_3, xsn_4, h0, ↓spwJxa1e45_init_da8c8, spcJxa1e45_init_da8c8]
  try simp only [xif_e]
  exact h
