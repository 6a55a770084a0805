/-! The class: constructors. -/
theorem cK_newI {S : cS} {q z n b : Nat} : cK (cNewI S q z n) b = if b = q then 11 + z else cK S b := rfl
theorem dead_ne {S : cS} {a q c : Nat} (h : cK S a = c) (hc : 1 ≤ c ∧ c ≤ 13) (hq : ¬ (1 ≤ cK S q ∧ cK S q ≤ 13)) : (a = q) = False := eq_false (fun e => hq (by rw [← e, h]; exact hc))

def tbX3_init : List (Nat × xHint) := [(0, .aload_n 0, 0, 0, 0, []), (1, .invokespecial 1, 0, 1, 0, []), (4, .aload_n 0, 0, 0, 0, []), (5, .bipush 64, 0, 0, 0, []), (7, .newarray .int, 0, 0, 0, []), (9, .putfield 9, 4, 0, 2, []), (12, .return_, 0, 0, 0, [])]
def clX3_init : List (Instr × Nat × Nat × Nat) := [(.invokespecial 1, 0, 1, 0)]
def thX3_init : List (Nat × Nat) := []
theorem ckX3_init : tbX3_init.all (xRow RX3 cX3_init wsX3_init vwCl [4] clX3_init thX3_init 1 (yX3_init.name == "<init>") none) = true := xRow_q 0xb10900b50abc40102a0100b72a 13 (by decide +kernel) (by decide +kernel)
theorem usX3_init : xUse wsX3_init vwCl [4] = true := xUse_g rfl (lw_good lwl_X3_init lwl_X30 (by decide +kernel)) xUse_n
theorem tbX3_init_0 {k : Instr → Nat → Nat → Nat → List Nat → Prop} : xse (xFind tbX3_init 0) k = k (.aload_n 0) 0 0 0 [] := rfl
theorem tbX3_init_1 {k : Instr → Nat → Nat → Nat → List Nat → Prop} : xse (xFind tbX3_init 1) k = k (.invokespecial 1) 0 1 0 [] := rfl
theorem tbX3_init_4 {k : Instr → Nat → Nat → Nat → List Nat → Prop} : xse (xFind tbX3_init 4) k = k (.aload_n 0) 0 0 0 [] := rfl
theorem tbX3_init_5 {k : Instr → Nat → Nat → Nat → List Nat → Prop} : xse (xFind tbX3_init 5) k = k (.bipush 64) 0 0 0 [] := rfl
theorem tbX3_init_7 {k : Instr → Nat → Nat → Nat → List Nat → Prop} : xse (xFind tbX3_init 7) k = k (.newarray .int) 0 0 0 [] := rfl
theorem tbX3_init_9 {k : Instr → Nat → Nat → Nat → List Nat → Prop} : xse (xFind tbX3_init 9) k = k (.putfield 9) 4 0 2 [] := rfl
theorem tbX3_init_12 {k : Instr → Nat → Nat → Nat → List Nat → Prop} : xse (xFind tbX3_init 12) k = k (.return_) 0 0 0 [] := rfl

def spX3_init (W9 : xWd) : xSp cS := (fun av S => (1, 64), fun av S K => ∃ (a : Nat), av = [.ref a] ∧ (cK S a = 5 ∧ ∀ q, ¬ (1 ≤ cK S q ∧ cK S q ≤ 13) → K rV (cSetR (cNewI S q 0 64) a 400 (some q))))
theorem spcX3_init {av : List Value} {S : cS} {W9 : xWd} : (spX3_init W9).1 av S = (1, 64) := rfl
theorem spwX3_init {S : cS} {W9 : xWd} {K : xRes → cS → Prop} {a : Nat} : (spX3_init W9).2 [.ref a] S K = (cK S a = 5 ∧ ∀ q, ¬ (1 ≤ cK S q ∧ cK S q ≤ 13) → K rV (cSetR (cNewI S q 0 64) a 400 (some q))) :=
  propext ⟨fun h => by
    simp only [spX3_init] at h
    obtain ⟨_, e, h⟩ := h
    simp only [List.cons.injEq, Value.int.injEq, Value.ref.injEq, rf_eq, and_true, true_and] at e
    obtain rfl := e
    exact h, fun h => ⟨_, rfl, h⟩⟩

theorem sprX3_init {W9 : xWd} : ∀ av S KF, (spX3_init W9).2 av S KF → ∃ b As, av = Value.ref b :: As := by
  intro av S KF h
  obtain ⟨a, rfl, h⟩ := h
  exact ⟨_, _, rfl⟩

def callX3_init (W9 : xWd) : Nat → Option (xSp cS) := fun n => match n with | 0 => some (spObj cS) | _ => none

theorem callX3_init_0 {W9 : xWd} {k : xSp cS → Prop} : xcs (callX3_init W9 0) k = k (spObj cS) := rfl

theorem crX3_init (l : Launch) (hl : l.stackTraces = false) (W9 : xWd) : xCallsOK l W9 (cI) (callX3_init W9) clX3_init RX3 wsX3_init 1 20 1 := by
  intro E A p e R s m args below meth c hI hF hL X
  exact List.forall_mem_cons.mpr ⟨⟨_, rfl, xCR_obj X (by decide +kernel) (by decide +kernel) (by decide +kernel) (by rw [hF, hL]; decide)⟩,
    fun _ h => nomatch h⟩

set_option maxHeartbeats 4000000 in
set_option maxRecDepth 20000 in
theorem semX3_init (l : Launch) (hl : l.stackTraces = false) (W9 : xWd) : xSem l W9 (cI) yX3_init wsX3_init 1 20 (spX3_init W9) := by
  refine xSem_of (call := callX3_init W9) (thrf := fun _ => "") cI_law (by decide +kernel) rfl ckX3_init usX3_init (crX3_init l hl W9) xThrOK_nil ?_ ?_
  · intro av S KF h
    obtain ⟨a, rfl, h⟩ := h
    exact ⟨by intro v hv; simp only [List.mem_cons, List.not_mem_nil, or_false] at hv; rcases hv with rfl <;> first | rfl | exact cat_rf, Nat.le_of_ble_eq_true rfl⟩
  intro av S KF h G hG
  obtain ⟨a, rfl, h⟩ := h
  rw [show (spX3_init W9).1 _ S = _ from spcX3_init] at hG
  try dsimp only at hG
  change G 0 [some (.ref a)] [] S 0 0
  obtain ⟨h0, h⟩ := h

  refine xgo0 hG (fun fu hfu => ?_)
  simp only [↓callX3_init_0, ↓cnewa, ↓cpf_4_0, ↓cpn_4_0, ↓cpr_4_0, kb_64, kc_64, ↓vm_aload_n, ↓vm_bipush, ↓vm_invokespecial, ↓vm_newarray, ↓vm_putfield, ↓vm_return_, ↓xc_1, ↓tbX3_init_0, ↓tbX3_init_1, ↓tbX3_init_4, ↓tbX3_init_5, ↓tbX3_init_7, ↓tbX3_init_9, ↓tbX3_init_12, hfu, xstep0, xJ1_hit, xJ1_go, xJ2_hit1, xJ2_hit2, xJ2_go, ↓xif_t, ↓xif_f, seval, ↓xca_eq, ↓xre_l, ↓xre_r, xmask_t, xmask_f, xmask_nil, ↓xst_eq, xX_eq, eI_eq, eMc_eq, eMs_eq, eF_eq, eThr_eq, ↓xS1_mk, ↓xSI_mk, ↓xSR_mk, ↓xLI_0, ↓xLI_s, ↓xLR_0, ↓xLR_s, vRef_ref, vRef_null, vRef_rf, cat_int, cat_ref, cat_null, cat_rf, rf_some, rf_none, rf_null, rf_eq, rf_ref, ref_rf, ref_null, ref_ref, xOk_0, xOk_1, xOk_2r, xOk_2n, xOk_2f, vOpt_rf, vOpt_ref, vOpt_null, List.set_cons_zero, List.set_cons_succ, List.take_succ_cons, List.take_zero, List.drop_succ_cons, List.drop_zero, List.reverse_cons, List.reverse_nil, List.nil_append, List.cons_append, List.append_nil, List.length_cons, List.length_nil, List.map_cons, List.map_nil, List.sum_cons, List.sum_nil, Option.toList_some, Option.toList_none, xRecv_mk, true_and, and_true, true_implies, Nat.reduceAdd, Nat.reduceLeDiff, Nat.zero_le, Nat.le_refl, Nat.add_zero, Nat.zero_add, reduceIte, not_true_eq_false, not_false_eq_true, false_implies, and_self, implies_true, eq_self, Nat.reduceEqDiff, List.cons.injEq, xsn_1, xsn_2, false_and, and_false, or_false, false_or, or_true, true_or, xsn_3, xsn_4, ↓spObj_w, spObj_c, h0, cK_newI]
  try simp only [xif_e]
  intro q hq
  refine ⟨if_neg (fun e => (dead_ne h0 (by omega) hq).mp e), h q hq⟩

def tbX0_init : List (Nat × xHint) := [(0, .aload_n 0, 0, 0, 0, []), (1, .invokespecial 3, 0, 1, 0, []), (4, .aload_n 0, 0, 0, 0, []), (5, .iconst (-1), 0, 0, 0, []), (6, .putfield 9, 1, 5, 0, []), (9, .aload_n 0, 0, 0, 0, []), (10, .iload_n 1, 1, 0, 0, []), (11, .putfield 15, 1, 0, 0, []), (14, .aload_n 0, 0, 0, 0, []), (15, .iload_n 2, 2, 0, 0, []), (16, .putfield 18, 1, 1, 0, []), (19, .aload_n 0, 0, 0, 0, []), (20, .aload_n 3, 3, 0, 0, []), (21, .putfield 21, 1, 2, 2, []), (24, .return_, 0, 0, 0, [])]
def clX0_init : List (Instr × Nat × Nat × Nat) := [(.invokespecial 3, 0, 1, 0)]
def thX0_init : List (Nat × Nat) := []
theorem ckX0_init : tbX0_init.all (xRow RX0 cX0_init wsX0_init vwCl [1] clX0_init thX0_init 4 (yX0_init.name == "<init>") none) = true := xRow_q 0xb11500b52d2a1200b51c2a0f00b51b2a0900b5022a0300b72a 25 (by decide +kernel) (by decide +kernel)
theorem usX0_init : xUse wsX0_init vwCl [1] = true := xUse_g rfl (lw_good lwl_X0_init lwl_X00 (by decide +kernel)) xUse_n
theorem tbX0_init_0 {k : Instr → Nat → Nat → Nat → List Nat → Prop} : xse (xFind tbX0_init 0) k = k (.aload_n 0) 0 0 0 [] := rfl
theorem tbX0_init_1 {k : Instr → Nat → Nat → Nat → List Nat → Prop} : xse (xFind tbX0_init 1) k = k (.invokespecial 3) 0 1 0 [] := rfl
theorem tbX0_init_4 {k : Instr → Nat → Nat → Nat → List Nat → Prop} : xse (xFind tbX0_init 4) k = k (.aload_n 0) 0 0 0 [] := rfl
theorem tbX0_init_5 {k : Instr → Nat → Nat → Nat → List Nat → Prop} : xse (xFind tbX0_init 5) k = k (.iconst (-1)) 0 0 0 [] := rfl
theorem tbX0_init_6 {k : Instr → Nat → Nat → Nat → List Nat → Prop} : xse (xFind tbX0_init 6) k = k (.putfield 9) 1 5 0 [] := rfl
theorem tbX0_init_9 {k : Instr → Nat → Nat → Nat → List Nat → Prop} : xse (xFind tbX0_init 9) k = k (.aload_n 0) 0 0 0 [] := rfl
theorem tbX0_init_10 {k : Instr → Nat → Nat → Nat → List Nat → Prop} : xse (xFind tbX0_init 10) k = k (.iload_n 1) 1 0 0 [] := rfl
theorem tbX0_init_11 {k : Instr → Nat → Nat → Nat → List Nat → Prop} : xse (xFind tbX0_init 11) k = k (.putfield 15) 1 0 0 [] := rfl
theorem tbX0_init_14 {k : Instr → Nat → Nat → Nat → List Nat → Prop} : xse (xFind tbX0_init 14) k = k (.aload_n 0) 0 0 0 [] := rfl
theorem tbX0_init_15 {k : Instr → Nat → Nat → Nat → List Nat → Prop} : xse (xFind tbX0_init 15) k = k (.iload_n 2) 2 0 0 [] := rfl
theorem tbX0_init_16 {k : Instr → Nat → Nat → Nat → List Nat → Prop} : xse (xFind tbX0_init 16) k = k (.putfield 18) 1 1 0 [] := rfl
theorem tbX0_init_19 {k : Instr → Nat → Nat → Nat → List Nat → Prop} : xse (xFind tbX0_init 19) k = k (.aload_n 0) 0 0 0 [] := rfl
theorem tbX0_init_20 {k : Instr → Nat → Nat → Nat → List Nat → Prop} : xse (xFind tbX0_init 20) k = k (.aload_n 3) 3 0 0 [] := rfl
theorem tbX0_init_21 {k : Instr → Nat → Nat → Nat → List Nat → Prop} : xse (xFind tbX0_init 21) k = k (.putfield 21) 1 2 2 [] := rfl
theorem tbX0_init_24 {k : Instr → Nat → Nat → Nat → List Nat → Prop} : xse (xFind tbX0_init 24) k = k (.return_) 0 0 0 [] := rfl

def spX0_init (W9 : xWd) : xSp cS := (fun av S => (0, 0), fun av S K => ∃ (a : Nat) (n : Int32) (t : Int32) (r : Nat), av = [.ref a, .int n, .int t, .ref r] ∧ (cK S a = 2 ∧ K rV (cSetR (cSetI (cSetI (cSetI S a 105 (-1)) a 100 n) a 101 t) a 102 (some r))))
theorem spcX0_init {av : List Value} {S : cS} {W9 : xWd} : (spX0_init W9).1 av S = (0, 0) := rfl
theorem spwX0_init {S : cS} {W9 : xWd} {K : xRes → cS → Prop} {a : Nat} {n : Int32} {t : Int32} {r : Nat} : (spX0_init W9).2 [.ref a, .int n, .int t, .ref r] S K = (cK S a = 2 ∧ K rV (cSetR (cSetI (cSetI (cSetI S a 105 (-1)) a 100 n) a 101 t) a 102 (some r))) :=
  propext ⟨fun h => by
    simp only [spX0_init] at h
    obtain ⟨_, _, _, _, e, h⟩ := h
    simp only [List.cons.injEq, Value.int.injEq, Value.ref.injEq, rf_eq, and_true, true_and] at e
    obtain ⟨rfl, rfl, rfl, rfl⟩ := e
    exact h, fun h => ⟨_, _, _, _, rfl, h⟩⟩

theorem sprX0_init {W9 : xWd} : ∀ av S KF, (spX0_init W9).2 av S KF → ∃ b As, av = Value.ref b :: As := by
  intro av S KF h
  obtain ⟨a, n, t, r, rfl, h⟩ := h
  exact ⟨_, _, rfl⟩

def callX0_init (W9 : xWd) : Nat → Option (xSp cS) := fun n => match n with | 0 => some (spObj cS) | _ => none

theorem callX0_init_0 {W9 : xWd} {k : xSp cS → Prop} : xcs (callX0_init W9 0) k = k (spObj cS) := rfl

theorem crX0_init (l : Launch) (hl : l.stackTraces = false) (W9 : xWd) : xCallsOK l W9 (cI) (callX0_init W9) clX0_init RX0 wsX0_init 1 20 4 := by
  intro E A p e R s m args below meth c hI hF hL X
  exact List.forall_mem_cons.mpr ⟨⟨_, rfl, xCR_obj X (by decide +kernel) (by decide +kernel) (by decide +kernel) (by rw [hF, hL]; decide)⟩,
    fun _ h => nomatch h⟩

set_option maxHeartbeats 4000000 in
set_option maxRecDepth 20000 in
theorem semX0_init (l : Launch) (hl : l.stackTraces = false) (W9 : xWd) : xSem l W9 (cI) yX0_init wsX0_init 1 20 (spX0_init W9) := by
  refine xSem_of (call := callX0_init W9) (thrf := fun _ => "") cI_law (by decide +kernel) rfl ckX0_init usX0_init (crX0_init l hl W9) xThrOK_nil ?_ ?_
  · intro av S KF h
    obtain ⟨a, n, t, r, rfl, h⟩ := h
    exact ⟨by intro v hv; simp only [List.mem_cons, List.not_mem_nil, or_false] at hv; rcases hv with rfl | rfl | rfl | rfl <;> first | rfl | exact cat_rf, Nat.le_of_ble_eq_true rfl⟩
  intro av S KF h G hG
  obtain ⟨a, n, t, r, rfl, h⟩ := h
  rw [show (spX0_init W9).1 _ S = _ from spcX0_init] at hG
  try dsimp only at hG
  change G 0 [some (.ref a), some (.int n), some (.int t), some (.ref r)] [] S 0 0
  obtain ⟨h0, h⟩ := h
  refine xgo0 hG (fun fu hfu => ?_)
  clear hG
  simp only [↓callX0_init_0, ↓cp_1_0, ↓cp_1_1, ↓cp_1_5, ↓cpf_1_2, ↓cpn_1_2, ↓cpr_1_2, ki_m1, ↓vm_aload_n, ↓vm_iconst, ↓vm_iload_n, ↓vm_invokespecial, ↓vm_putfield, ↓vm_return_, ↓xc_1, ↓tbX0_init_0, ↓tbX0_init_1, ↓tbX0_init_4, ↓tbX0_init_5, ↓tbX0_init_6, ↓tbX0_init_9, ↓tbX0_init_10, ↓tbX0_init_11, ↓tbX0_init_14, ↓tbX0_init_15, ↓tbX0_init_16, ↓tbX0_init_19, ↓tbX0_init_20, ↓tbX0_init_21, ↓tbX0_init_24, hfu, xstep0, xJ1_hit, xJ1_go, xJ2_hit1, xJ2_hit2, xJ2_go, ↓xif_t, ↓xif_f, seval, ↓xca_eq, ↓xre_l, ↓xre_r, xmask_t, xmask_f, xmask_nil, ↓xst_eq, xX_eq, eI_eq, eMc_eq, eMs_eq, eF_eq, eThr_eq, ↓xS1_mk, ↓xSI_mk, ↓xSR_mk, ↓xLI_0, ↓xLI_s, ↓xLR_0, ↓xLR_s, vRef_ref, vRef_null, vRef_rf, cat_int, cat_ref, cat_null, cat_rf, rf_some, rf_none, rf_null, rf_eq, rf_ref, ref_rf, ref_null, ref_ref, xOk_0, xOk_1, xOk_2r, xOk_2n, xOk_2f, vOpt_rf, vOpt_ref, vOpt_null, List.set_cons_zero, List.set_cons_succ, List.take_succ_cons, List.take_zero, List.drop_succ_cons, List.drop_zero, List.reverse_cons, List.reverse_nil, List.nil_append, List.cons_append, List.append_nil, List.length_cons, List.length_nil, List.map_cons, List.map_nil, List.sum_cons, List.sum_nil, Option.toList_some, Option.toList_none, xRecv_mk, true_and, and_true, true_implies, Nat.reduceAdd, Nat.reduceLeDiff, Nat.zero_le, Nat.le_refl, Nat.add_zero, Nat.zero_add, reduceIte, not_true_eq_false, not_false_eq_true, false_implies, and_self, implies_true, eq_self, Nat.reduceEqDiff, List.cons.injEq, xsn_1, xsn_2, false_and, and_false, or_false, false_or, or_true, true_or, xsn_3, xsn_4, h0, cK_setI, cK_setR, ↓spObj_w, spObj_c]
  try simp only [xif_e]
  exact h

def tbX5_init : List (Nat × xHint) := [(0, .aload_n 0, 0, 0, 0, []), (1, .invokespecial 1, 0, 1, 0, []), (4, .aload_n 0, 0, 0, 0, []), (5, .bipush 30, 0, 0, 0, []), (7, .putfield 7, 6, 1, 0, []), (10, .aload_n 0, 0, 0, 0, []), (11, .iconst 2, 0, 0, 0, []), (12, .putfield 13, 6, 5, 0, []), (15, .aload_n 0, 0, 0, 0, []), (16, .iconst 3, 0, 0, 0, []), (17, .putfield 16, 6, 6, 0, []), (20, .aload_n 0, 0, 0, 0, []), (21, .iload_n 1, 1, 0, 0, []), (22, .putfield 19, 6, 0, 0, []), (25, .return_, 0, 0, 0, [])]
def clX5_init : List (Instr × Nat × Nat × Nat) := [(.invokespecial 1, 0, 1, 0)]
def thX5_init : List (Nat × Nat) := []
theorem ckX5_init : tbX5_init.all (xRow RX5 cX5_init wsX5_init vwCl [6] clX5_init thX5_init 2 (yX5_init.name == "<init>") none) = true := xRow_q 0xb11300b51b2a1000b5062a0d00b5052a0700b51e102a0100b72a 26 (by decide +kernel) (by decide +kernel)
theorem usX5_init : xUse wsX5_init vwCl [6] = true := xUse_g rfl (lw_good lwl_X5_init lwl_X50 (by decide +kernel)) xUse_n
theorem tbX5_init_0 {k : Instr → Nat → Nat → Nat → List Nat → Prop} : xse (xFind tbX5_init 0) k = k (.aload_n 0) 0 0 0 [] := rfl
theorem tbX5_init_1 {k : Instr → Nat → Nat → Nat → List Nat → Prop} : xse (xFind tbX5_init 1) k = k (.invokespecial 1) 0 1 0 [] := rfl
theorem tbX5_init_4 {k : Instr → Nat → Nat → Nat → List Nat → Prop} : xse (xFind tbX5_init 4) k = k (.aload_n 0) 0 0 0 [] := rfl
theorem tbX5_init_5 {k : Instr → Nat → Nat → Nat → List Nat → Prop} : xse (xFind tbX5_init 5) k = k (.bipush 30) 0 0 0 [] := rfl
theorem tbX5_init_7 {k : Instr → Nat → Nat → Nat → List Nat → Prop} : xse (xFind tbX5_init 7) k = k (.putfield 7) 6 1 0 [] := rfl
theorem tbX5_init_10 {k : Instr → Nat → Nat → Nat → List Nat → Prop} : xse (xFind tbX5_init 10) k = k (.aload_n 0) 0 0 0 [] := rfl
theorem tbX5_init_11 {k : Instr → Nat → Nat → Nat → List Nat → Prop} : xse (xFind tbX5_init 11) k = k (.iconst 2) 0 0 0 [] := rfl
theorem tbX5_init_12 {k : Instr → Nat → Nat → Nat → List Nat → Prop} : xse (xFind tbX5_init 12) k = k (.putfield 13) 6 5 0 [] := rfl
theorem tbX5_init_15 {k : Instr → Nat → Nat → Nat → List Nat → Prop} : xse (xFind tbX5_init 15) k = k (.aload_n 0) 0 0 0 [] := rfl
theorem tbX5_init_16 {k : Instr → Nat → Nat → Nat → List Nat → Prop} : xse (xFind tbX5_init 16) k = k (.iconst 3) 0 0 0 [] := rfl
theorem tbX5_init_17 {k : Instr → Nat → Nat → Nat → List Nat → Prop} : xse (xFind tbX5_init 17) k = k (.putfield 16) 6 6 0 [] := rfl
theorem tbX5_init_20 {k : Instr → Nat → Nat → Nat → List Nat → Prop} : xse (xFind tbX5_init 20) k = k (.aload_n 0) 0 0 0 [] := rfl
theorem tbX5_init_21 {k : Instr → Nat → Nat → Nat → List Nat → Prop} : xse (xFind tbX5_init 21) k = k (.iload_n 1) 1 0 0 [] := rfl
theorem tbX5_init_22 {k : Instr → Nat → Nat → Nat → List Nat → Prop} : xse (xFind tbX5_init 22) k = k (.putfield 19) 6 0 0 [] := rfl
theorem tbX5_init_25 {k : Instr → Nat → Nat → Nat → List Nat → Prop} : xse (xFind tbX5_init 25) k = k (.return_) 0 0 0 [] := rfl

def spX5_init (W9 : xWd) : xSp cS := (fun av S => (0, 0), fun av S K => ∃ (a : Nat) (n : Int32), av = [.ref a, .int n] ∧ (cK S a = 7 ∧ K rV (cSetI (cSetI (cSetI (cSetI S a 601 30) a 605 2) a 606 3) a 600 n)))
theorem spcX5_init {av : List Value} {S : cS} {W9 : xWd} : (spX5_init W9).1 av S = (0, 0) := rfl
theorem spwX5_init {S : cS} {W9 : xWd} {K : xRes → cS → Prop} {a : Nat} {n : Int32} : (spX5_init W9).2 [.ref a, .int n] S K = (cK S a = 7 ∧ K rV (cSetI (cSetI (cSetI (cSetI S a 601 30) a 605 2) a 606 3) a 600 n)) :=
  propext ⟨fun h => by
    simp only [spX5_init] at h
    obtain ⟨_, _, e, h⟩ := h
    simp only [List.cons.injEq, Value.int.injEq, Value.ref.injEq, rf_eq, and_true, true_and] at e
    obtain ⟨rfl, rfl⟩ := e
    exact h, fun h => ⟨_, _, rfl, h⟩⟩

theorem sprX5_init {W9 : xWd} : ∀ av S KF, (spX5_init W9).2 av S KF → ∃ b As, av = Value.ref b :: As := by
  intro av S KF h
  obtain ⟨a, n, rfl, h⟩ := h
  exact ⟨_, _, rfl⟩

def callX5_init (W9 : xWd) : Nat → Option (xSp cS) := fun n => match n with | 0 => some (spObj cS) | _ => none

theorem callX5_init_0 {W9 : xWd} {k : xSp cS → Prop} : xcs (callX5_init W9 0) k = k (spObj cS) := rfl

theorem crX5_init (l : Launch) (hl : l.stackTraces = false) (W9 : xWd) : xCallsOK l W9 (cI) (callX5_init W9) clX5_init RX5 wsX5_init 1 20 2 := by
  intro E A p e R s m args below meth c hI hF hL X
  exact List.forall_mem_cons.mpr ⟨⟨_, rfl, xCR_obj X (by decide +kernel) (by decide +kernel) (by decide +kernel) (by rw [hF, hL]; decide)⟩,
    fun _ h => nomatch h⟩

set_option maxHeartbeats 4000000 in
set_option maxRecDepth 20000 in
theorem semX5_init (l : Launch) (hl : l.stackTraces = false) (W9 : xWd) : xSem l W9 (cI) yX5_init wsX5_init 1 20 (spX5_init W9) := by
  refine xSem_of (call := callX5_init W9) (thrf := fun _ => "") cI_law (by decide +kernel) rfl ckX5_init usX5_init (crX5_init l hl W9) xThrOK_nil ?_ ?_
  · intro av S KF h
    obtain ⟨a, n, rfl, h⟩ := h
    exact ⟨by intro v hv; simp only [List.mem_cons, List.not_mem_nil, or_false] at hv; rcases hv with rfl | rfl <;> first | rfl | exact cat_rf, Nat.le_of_ble_eq_true rfl⟩
  intro av S KF h G hG
  obtain ⟨a, n, rfl, h⟩ := h
  rw [show (spX5_init W9).1 _ S = _ from spcX5_init] at hG
  try dsimp only at hG
  change G 0 [some (.ref a), some (.int n)] [] S 0 0
  obtain ⟨h0, h⟩ := h
  refine xgo0 hG (fun fu hfu => ?_)
  clear hG
  simp only [↓callX5_init_0, ↓cp_6_0, ↓cp_6_1, ↓cp_6_5, ↓cp_6_6, kb_30, kc_30, ki_2, ki_3, ↓vm_aload_n, ↓vm_bipush, ↓vm_iconst, ↓vm_iload_n, ↓vm_invokespecial, ↓vm_putfield, ↓vm_return_, ↓xc_1, ↓tbX5_init_0, ↓tbX5_init_1, ↓tbX5_init_4, ↓tbX5_init_5, ↓tbX5_init_7, ↓tbX5_init_10, ↓tbX5_init_11, ↓tbX5_init_12, ↓tbX5_init_15, ↓tbX5_init_16, ↓tbX5_init_17, ↓tbX5_init_20, ↓tbX5_init_21, ↓tbX5_init_22, ↓tbX5_init_25, hfu, xstep0, xJ1_hit, xJ1_go, xJ2_hit1, xJ2_hit2, xJ2_go, ↓xif_t, ↓xif_f, seval, ↓xca_eq, ↓xre_l, ↓xre_r, xmask_t, xmask_f, xmask_nil, ↓xst_eq, xX_eq, eI_eq, eMc_eq, eMs_eq, eF_eq, eThr_eq, ↓xS1_mk, ↓xSI_mk, ↓xSR_mk, ↓xLI_0, ↓xLI_s, ↓xLR_0, ↓xLR_s, vRef_ref, vRef_null, vRef_rf, cat_int, cat_ref, cat_null, cat_rf, rf_some, rf_none, rf_null, rf_eq, rf_ref, ref_rf, ref_null, ref_ref, xOk_0, xOk_1, xOk_2r, xOk_2n, xOk_2f, vOpt_rf, vOpt_ref, vOpt_null, List.set_cons_zero, List.set_cons_succ, List.take_succ_cons, List.take_zero, List.drop_succ_cons, List.drop_zero, List.reverse_cons, List.reverse_nil, List.nil_append, List.cons_append, List.append_nil, List.length_cons, List.length_nil, List.map_cons, List.map_nil, List.sum_cons, List.sum_nil, Option.toList_some, Option.toList_none, xRecv_mk, true_and, and_true, true_implies, Nat.reduceAdd, Nat.reduceLeDiff, Nat.zero_le, Nat.le_refl, Nat.add_zero, Nat.zero_add, reduceIte, not_true_eq_false, not_false_eq_true, false_implies, and_self, implies_true, eq_self, Nat.reduceEqDiff, List.cons.injEq, xsn_1, xsn_2, false_and, and_false, or_false, false_or, or_true, true_or, xsn_3, xsn_4, h0, cK_setI, cK_setR, ↓spObj_w, spObj_c]
  try simp only [xif_e]
  exact h

def tbX2_init : List (Nat × xHint) := [(0, .aload_n 0, 0, 0, 0, []), (1, .invokespecial 1, 0, 1, 0, []), (4, .aload_n 0, 0, 0, 0, []), (5, .iload_n 1, 1, 0, 0, []), (6, .putfield 7, 3, 0, 0, []), (9, .aload_n 0, 0, 0, 0, []), (10, .iload_n 2, 2, 0, 0, []), (11, .putfield 13, 3, 1, 0, []), (14, .aload_n 0, 0, 0, 0, []), (15, .iload_n 3, 3, 0, 0, []), (16, .putfield 16, 3, 2, 0, []), (19, .aload_n 0, 0, 0, 0, []), (20, .iload 4, 4, 0, 0, []), (22, .putfield 19, 3, 3, 0, []), (25, .aload_n 0, 0, 0, 0, []), (26, .iload 5, 5, 0, 0, []), (28, .putfield 22, 3, 4, 0, []), (31, .aload_n 0, 0, 0, 0, []), (32, .iload 6, 6, 0, 0, []), (34, .putfield 25, 3, 5, 0, []), (37, .aload_n 0, 0, 0, 0, []), (38, .iload 7, 7, 0, 0, []), (40, .putfield 28, 3, 6, 0, []), (43, .return_, 0, 0, 0, [])]
def clX2_init : List (Instr × Nat × Nat × Nat) := [(.invokespecial 1, 0, 1, 0)]
def thX2_init : List (Nat × Nat) := []
theorem ckX2_init : tbX2_init.all (xRow RX2 cX2_init wsX2_init vwCl [3] clX2_init thX2_init 8 (yX2_init.name == "<init>") none) = true := xRow_q 0xb11c00b507152a1900b506152a1600b505152a1300b504152a1000b51d2a0d00b51c2a0700b51b2a0100b72a 44 (by decide +kernel) (by decide +kernel)
theorem usX2_init : xUse wsX2_init vwCl [3] = true := xUse_g rfl (lw_good lwl_X2_init lwl_X20 (by decide +kernel)) xUse_n
theorem tbX2_init_0 {k : Instr → Nat → Nat → Nat → List Nat → Prop} : xse (xFind tbX2_init 0) k = k (.aload_n 0) 0 0 0 [] := rfl
theorem tbX2_init_1 {k : Instr → Nat → Nat → Nat → List Nat → Prop} : xse (xFind tbX2_init 1) k = k (.invokespecial 1) 0 1 0 [] := rfl
theorem tbX2_init_4 {k : Instr → Nat → Nat → Nat → List Nat → Prop} : xse (xFind tbX2_init 4) k = k (.aload_n 0) 0 0 0 [] := rfl
theorem tbX2_init_5 {k : Instr → Nat → Nat → Nat → List Nat → Prop} : xse (xFind tbX2_init 5) k = k (.iload_n 1) 1 0 0 [] := rfl
theorem tbX2_init_6 {k : Instr → Nat → Nat → Nat → List Nat → Prop} : xse (xFind tbX2_init 6) k = k (.putfield 7) 3 0 0 [] := rfl
theorem tbX2_init_9 {k : Instr → Nat → Nat → Nat → List Nat → Prop} : xse (xFind tbX2_init 9) k = k (.aload_n 0) 0 0 0 [] := rfl
theorem tbX2_init_10 {k : Instr → Nat → Nat → Nat → List Nat → Prop} : xse (xFind tbX2_init 10) k = k (.iload_n 2) 2 0 0 [] := rfl
theorem tbX2_init_11 {k : Instr → Nat → Nat → Nat → List Nat → Prop} : xse (xFind tbX2_init 11) k = k (.putfield 13) 3 1 0 [] := rfl
theorem tbX2_init_14 {k : Instr → Nat → Nat → Nat → List Nat → Prop} : xse (xFind tbX2_init 14) k = k (.aload_n 0) 0 0 0 [] := rfl
theorem tbX2_init_15 {k : Instr → Nat → Nat → Nat → List Nat → Prop} : xse (xFind tbX2_init 15) k = k (.iload_n 3) 3 0 0 [] := rfl
theorem tbX2_init_16 {k : Instr → Nat → Nat → Nat → List Nat → Prop} : xse (xFind tbX2_init 16) k = k (.putfield 16) 3 2 0 [] := rfl
theorem tbX2_init_19 {k : Instr → Nat → Nat → Nat → List Nat → Prop} : xse (xFind tbX2_init 19) k = k (.aload_n 0) 0 0 0 [] := rfl
theorem tbX2_init_20 {k : Instr → Nat → Nat → Nat → List Nat → Prop} : xse (xFind tbX2_init 20) k = k (.iload 4) 4 0 0 [] := rfl
theorem tbX2_init_22 {k : Instr → Nat → Nat → Nat → List Nat → Prop} : xse (xFind tbX2_init 22) k = k (.putfield 19) 3 3 0 [] := rfl
theorem tbX2_init_25 {k : Instr → Nat → Nat → Nat → List Nat → Prop} : xse (xFind tbX2_init 25) k = k (.aload_n 0) 0 0 0 [] := rfl
theorem tbX2_init_26 {k : Instr → Nat → Nat → Nat → List Nat → Prop} : xse (xFind tbX2_init 26) k = k (.iload 5) 5 0 0 [] := rfl
theorem tbX2_init_28 {k : Instr → Nat → Nat → Nat → List Nat → Prop} : xse (xFind tbX2_init 28) k = k (.putfield 22) 3 4 0 [] := rfl
theorem tbX2_init_31 {k : Instr → Nat → Nat → Nat → List Nat → Prop} : xse (xFind tbX2_init 31) k = k (.aload_n 0) 0 0 0 [] := rfl
theorem tbX2_init_32 {k : Instr → Nat → Nat → Nat → List Nat → Prop} : xse (xFind tbX2_init 32) k = k (.iload 6) 6 0 0 [] := rfl
theorem tbX2_init_34 {k : Instr → Nat → Nat → Nat → List Nat → Prop} : xse (xFind tbX2_init 34) k = k (.putfield 25) 3 5 0 [] := rfl
theorem tbX2_init_37 {k : Instr → Nat → Nat → Nat → List Nat → Prop} : xse (xFind tbX2_init 37) k = k (.aload_n 0) 0 0 0 [] := rfl
theorem tbX2_init_38 {k : Instr → Nat → Nat → Nat → List Nat → Prop} : xse (xFind tbX2_init 38) k = k (.iload 7) 7 0 0 [] := rfl
theorem tbX2_init_40 {k : Instr → Nat → Nat → Nat → List Nat → Prop} : xse (xFind tbX2_init 40) k = k (.putfield 28) 3 6 0 [] := rfl
theorem tbX2_init_43 {k : Instr → Nat → Nat → Nat → List Nat → Prop} : xse (xFind tbX2_init 43) k = k (.return_) 0 0 0 [] := rfl

def spX2_init (W9 : xWd) : xSp cS := (fun av S => (0, 0), fun av S K => ∃ (a : Nat) (n : Int32) (k : Int32) (f : Int32) (t : Int32) (u : Int32) (l : Int32) (r : Int32), av = [.ref a, .int n, .int k, .int f, .int t, .int u, .int l, .int r] ∧ (cK S a = 4 ∧ K rV (cSetI (cSetI (cSetI (cSetI (cSetI (cSetI (cSetI S a 300 n) a 301 k) a 302 f) a 303 t) a 304 u) a 305 l) a 306 r)))
theorem spcX2_init {av : List Value} {S : cS} {W9 : xWd} : (spX2_init W9).1 av S = (0, 0) := rfl
theorem spwX2_init {S : cS} {W9 : xWd} {K : xRes → cS → Prop} {a : Nat} {n : Int32} {k : Int32} {f : Int32} {t : Int32} {u : Int32} {l : Int32} {r : Int32} : (spX2_init W9).2 [.ref a, .int n, .int k, .int f, .int t, .int u, .int l, .int r] S K = (cK S a = 4 ∧ K rV (cSetI (cSetI (cSetI (cSetI (cSetI (cSetI (cSetI S a 300 n) a 301 k) a 302 f) a 303 t) a 304 u) a 305 l) a 306 r)) :=
  propext ⟨fun h => by
    simp only [spX2_init] at h
    obtain ⟨_, _, _, _, _, _, _, _, e, h⟩ := h
    simp only [List.cons.injEq, Value.int.injEq, Value.ref.injEq, rf_eq, and_true, true_and] at e
    obtain ⟨rfl, rfl, rfl, rfl, rfl, rfl, rfl, rfl⟩ := e
    exact h, fun h => ⟨_, _, _, _, _, _, _, _, rfl, h⟩⟩

theorem sprX2_init {W9 : xWd} : ∀ av S KF, (spX2_init W9).2 av S KF → ∃ b As, av = Value.ref b :: As := by
  intro av S KF h
  obtain ⟨a, n, k, f, t, u, l, r, rfl, h⟩ := h
  exact ⟨_, _, rfl⟩

def callX2_init (W9 : xWd) : Nat → Option (xSp cS) := fun n => match n with | 0 => some (spObj cS) | _ => none

theorem callX2_init_0 {W9 : xWd} {k : xSp cS → Prop} : xcs (callX2_init W9 0) k = k (spObj cS) := rfl

theorem crX2_init (l : Launch) (hl : l.stackTraces = false) (W9 : xWd) : xCallsOK l W9 (cI) (callX2_init W9) clX2_init RX2 wsX2_init 1 20 8 := by
  intro E A p e R s m args below meth c hI hF hL X
  exact List.forall_mem_cons.mpr ⟨⟨_, rfl, xCR_obj X (by decide +kernel) (by decide +kernel) (by decide +kernel) (by rw [hF, hL]; decide)⟩,
    fun _ h => nomatch h⟩

set_option maxHeartbeats 4000000 in
set_option maxRecDepth 20000 in
theorem semX2_init (l : Launch) (hl : l.stackTraces = false) (W9 : xWd) : xSem l W9 (cI) yX2_init wsX2_init 1 20 (spX2_init W9) := by
  refine xSem_of (call := callX2_init W9) (thrf := fun _ => "") cI_law (by decide +kernel) rfl ckX2_init usX2_init (crX2_init l hl W9) xThrOK_nil ?_ ?_
  · intro av S KF h
    obtain ⟨a, n, k, f, t, u, l, r, rfl, h⟩ := h
    exact ⟨by intro v hv; simp only [List.mem_cons, List.not_mem_nil, or_false] at hv; rcases hv with rfl | rfl | rfl | rfl | rfl | rfl | rfl | rfl <;> first | rfl | exact cat_rf, Nat.le_of_ble_eq_true rfl⟩
  intro av S KF h G hG
  obtain ⟨a, n, k, f, t, u, l, r, rfl, h⟩ := h
  rw [show (spX2_init W9).1 _ S = _ from spcX2_init] at hG
  try dsimp only at hG
  change G 0 [some (.ref a), some (.int n), some (.int k), some (.int f), some (.int t), some (.int u), some (.int l), some (.int r)] [] S 0 0
  obtain ⟨h0, h⟩ := h
  refine xgo0 hG (fun fu hfu => ?_)
  clear hG
  simp only [↓callX2_init_0, ↓cp_3_0, ↓cp_3_1, ↓cp_3_2, ↓cp_3_3, ↓cp_3_4, ↓cp_3_5, ↓cp_3_6, ↓vm_aload_n, ↓vm_iload, ↓vm_iload_n, ↓vm_invokespecial, ↓vm_putfield, ↓vm_return_, ↓xc_1, ↓tbX2_init_0, ↓tbX2_init_1, ↓tbX2_init_4, ↓tbX2_init_5, ↓tbX2_init_6, ↓tbX2_init_9, ↓tbX2_init_10, ↓tbX2_init_11, ↓tbX2_init_14, ↓tbX2_init_15, ↓tbX2_init_16, ↓tbX2_init_19, ↓tbX2_init_20, ↓tbX2_init_22, ↓tbX2_init_25, ↓tbX2_init_26, ↓tbX2_init_28, ↓tbX2_init_31, ↓tbX2_init_32, ↓tbX2_init_34, ↓tbX2_init_37, ↓tbX2_init_38, ↓tbX2_init_40, ↓tbX2_init_43, hfu, xstep0, xJ1_hit, xJ1_go, xJ2_hit1, xJ2_hit2, xJ2_go, ↓xif_t, ↓xif_f, seval, ↓xca_eq, ↓xre_l, ↓xre_r, xmask_t, xmask_f, xmask_nil, ↓xst_eq, xX_eq, eI_eq, eMc_eq, eMs_eq, eF_eq, eThr_eq, ↓xS1_mk, ↓xSI_mk, ↓xSR_mk, ↓xLI_0, ↓xLI_s, ↓xLR_0, ↓xLR_s, vRef_ref, vRef_null, vRef_rf, cat_int, cat_ref, cat_null, cat_rf, rf_some, rf_none, rf_null, rf_eq, rf_ref, ref_rf, ref_null, ref_ref, xOk_0, xOk_1, xOk_2r, xOk_2n, xOk_2f, vOpt_rf, vOpt_ref, vOpt_null, List.set_cons_zero, List.set_cons_succ, List.take_succ_cons, List.take_zero, List.drop_succ_cons, List.drop_zero, List.reverse_cons, List.reverse_nil, List.nil_append, List.cons_append, List.append_nil, List.length_cons, List.length_nil, List.map_cons, List.map_nil, List.sum_cons, List.sum_nil, Option.toList_some, Option.toList_none, xRecv_mk, true_and, and_true, true_implies, Nat.reduceAdd, Nat.reduceLeDiff, Nat.zero_le, Nat.le_refl, Nat.add_zero, Nat.zero_add, reduceIte, not_true_eq_false, not_false_eq_true, false_implies, and_self, implies_true, eq_self, Nat.reduceEqDiff, List.cons.injEq, xsn_1, xsn_2, false_and, and_false, or_false, false_or, or_true, true_or, xsn_3, xsn_4, h0, cK_setI, cK_setR, ↓spObj_w, spObj_c]
  try simp only [xif_e]
  exact h
