/-! The twin's methods: what lets a boat go. -/
def mUp (M : mS) (b : Int32) : Int32 := bi (M.2 37 b.toNatClampNeg > M.2 33 b.toNatClampNeg)
def mNext (M : mS) (b : Int32) : Int32 := if M.2 37 b.toNatClampNeg > M.2 33 b.toNatClampNeg then M.2 33 b.toNatClampNeg else M.2 33 b.toNatClampNeg - 1
def mWd (M : mS) (b : Int32) : Int32 := if M.2 42 b.toNatClampNeg = 0 then 1 else if M.2 42 b.toNatClampNeg < M.2 40 b.toNatClampNeg then M.2 42 b.toNatClampNeg else M.2 40 b.toNatClampNeg
def mMost (M : mS) (b up : Int32) : Int32 := M.2 30 b.toNatClampNeg * (if up = 0 then 12 else 8) - (if 0 < M.1 2 then M.2 30 b.toNatClampNeg * (M.1 2 / 10) else 0)
def mHrs (M : mS) (s b up : Int32) : Int32 := (if M.2 5 s.toNatClampNeg = 0 then M.2 9 s.toNatClampNeg * (if up = 0 then 1 else 2) else if M.2 42 b.toNatClampNeg ≤ M.2 12 s.toNatClampNeg then 1 else if M.2 14 s.toNatClampNeg = 0 then 3 else 2) + M.2 7 s.toNatClampNeg
def mUnfit (M : mS) (s b up : Int32) : Int32 :=
  if M.2 6 s.toNatClampNeg + M.1 2 < mDr M b + 2 then 3
  else if (if M.2 5 s.toNatClampNeg = 0 then M.2 10 s.toNatClampNeg < mWd M b else 2 * M.2 12 s.toNatClampNeg < M.2 42 b.toNatClampNeg) then 4
  else if mMost M b up < mWt M b ∨ M.2 30 b.toNatClampNeg < 2 * M.2 7 s.toNatClampNeg then 5 else 0
def mEarly (M : mS) (b : Int32) : Int32 :=
  if 0 < M.2 39 b.toNatClampNeg then 1
  else if M.2 8 (mNext M b).toNatClampNeg ≠ 0 ∨ (M.1 4 ≠ 0 ∧ mUp M b = 0 ∧ M.2 5 (mNext M b).toNatClampNeg = 0 ∧ M.2 11 (mNext M b).toNatClampNeg ≠ 0) then 2
  else if 0 < mUnfit M (mNext M b) b (mUp M b) then mUnfit M (mNext M b) b (mUp M b)
  else if M.2 32 b.toNatClampNeg < M.2 30 b.toNatClampNeg * mHrs M (mNext M b) b (mUp M b) then 6 else 0

def tbX8_nextOf : List (Nat × xHint) := [(0, .aload_n 0, 0, 0, 0, []), (1, .iload_n 1, 1, 0, 0, []), (2, .invokevirtual 291, 0, 2, 9, []), (5, .ifCond .eq 12, 17, 0, 0, []), (8, .aload_n 0, 0, 0, 0, []), (9, .getfield 89, 9, 33, 2, []), (12, .iload_n 1, 1, 0, 0, []), (13, .iaload, 33, 0, 0, []), (14, .goto 11, 25, 0, 0, []), (17, .aload_n 0, 0, 0, 0, []), (18, .getfield 89, 9, 33, 2, []), (21, .iload_n 1, 1, 0, 0, []), (22, .iaload, 33, 0, 0, []), (23, .iconst 1, 0, 0, 0, []), (24, .isub, 0, 0, 0, []), (25, .ireturn, 0, 0, 0, [])]
def clX8_nextOf : List (Instr × Nat × Nat × Nat) := [(.invokevirtual 291, 0, 2, 9)]
def thX8_nextOf : List (Nat × Nat) := []
theorem ckX8_nextOf : tbX8_nextOf.all (xRow RX8 cX8_nextOf wsX8_nextOf vwCl [9] clX8_nextOf thX8_nextOf 2 (yX8_nextOf.name == "<init>") (some .int)) = true := xRow_q 0xac64042e1b5900b42a0b00a72e1b5900b42a0c00992301b61b2a 26 (by decide +kernel) (by decide +kernel)
theorem usX8_nextOf : xUse wsX8_nextOf vwCl [9] = true := xUse_g rfl (lw_good lwl_X8_nextOf lwl_X80 (by decide +kernel)) xUse_n
theorem tbX8_nextOf_0 {k : Instr → Nat → Nat → Nat → List Nat → Prop} : xse (xFind tbX8_nextOf 0) k = k (.aload_n 0) 0 0 0 [] := rfl
theorem tbX8_nextOf_1 {k : Instr → Nat → Nat → Nat → List Nat → Prop} : xse (xFind tbX8_nextOf 1) k = k (.iload_n 1) 1 0 0 [] := rfl
theorem tbX8_nextOf_2 {k : Instr → Nat → Nat → Nat → List Nat → Prop} : xse (xFind tbX8_nextOf 2) k = k (.invokevirtual 291) 0 2 9 [] := rfl
theorem tbX8_nextOf_5 {k : Instr → Nat → Nat → Nat → List Nat → Prop} : xse (xFind tbX8_nextOf 5) k = k (.ifCond .eq 12) 17 0 0 [] := rfl
theorem tbX8_nextOf_8 {k : Instr → Nat → Nat → Nat → List Nat → Prop} : xse (xFind tbX8_nextOf 8) k = k (.aload_n 0) 0 0 0 [] := rfl
theorem tbX8_nextOf_9 {k : Instr → Nat → Nat → Nat → List Nat → Prop} : xse (xFind tbX8_nextOf 9) k = k (.getfield 89) 9 33 2 [] := rfl
theorem tbX8_nextOf_12 {k : Instr → Nat → Nat → Nat → List Nat → Prop} : xse (xFind tbX8_nextOf 12) k = k (.iload_n 1) 1 0 0 [] := rfl
theorem tbX8_nextOf_13 {k : Instr → Nat → Nat → Nat → List Nat → Prop} : xse (xFind tbX8_nextOf 13) k = k (.iaload) 33 0 0 [] := rfl
theorem tbX8_nextOf_14 {k : Instr → Nat → Nat → Nat → List Nat → Prop} : xse (xFind tbX8_nextOf 14) k = k (.goto 11) 25 0 0 [] := rfl
theorem tbX8_nextOf_17 {k : Instr → Nat → Nat → Nat → List Nat → Prop} : xse (xFind tbX8_nextOf 17) k = k (.aload_n 0) 0 0 0 [] := rfl
theorem tbX8_nextOf_18 {k : Instr → Nat → Nat → Nat → List Nat → Prop} : xse (xFind tbX8_nextOf 18) k = k (.getfield 89) 9 33 2 [] := rfl
theorem tbX8_nextOf_21 {k : Instr → Nat → Nat → Nat → List Nat → Prop} : xse (xFind tbX8_nextOf 21) k = k (.iload_n 1) 1 0 0 [] := rfl
theorem tbX8_nextOf_22 {k : Instr → Nat → Nat → Nat → List Nat → Prop} : xse (xFind tbX8_nextOf 22) k = k (.iaload) 33 0 0 [] := rfl
theorem tbX8_nextOf_23 {k : Instr → Nat → Nat → Nat → List Nat → Prop} : xse (xFind tbX8_nextOf 23) k = k (.iconst 1) 0 0 0 [] := rfl
theorem tbX8_nextOf_24 {k : Instr → Nat → Nat → Nat → List Nat → Prop} : xse (xFind tbX8_nextOf 24) k = k (.isub) 0 0 0 [] := rfl
theorem tbX8_nextOf_25 {k : Instr → Nat → Nat → Nat → List Nat → Prop} : xse (xFind tbX8_nextOf 25) k = k (.ireturn) 0 0 0 [] := rfl

def spX8_nextOf (aM : Nat → Nat) : xSp mS := (fun av M => (0, 0), fun av M K => ∃ (b : Int32), av = [.ref (aM 0), .int b] ∧ (vp_in b 6 ∧ K (rI (mNext M b)) M))
theorem spcX8_nextOf {av : List Value} {M : mS} {aM : Nat → Nat} : (spX8_nextOf aM).1 av M = (0, 0) := rfl
theorem spwX8_nextOf {M : mS} {aM : Nat → Nat} {K : xRes → mS → Prop} {b : Int32} : (spX8_nextOf aM).2 [.ref (aM 0), .int b] M K = (vp_in b 6 ∧ K (rI (mNext M b)) M) :=
  propext ⟨fun h => by
    simp only [spX8_nextOf] at h
    obtain ⟨_, e, h⟩ := h
    simp only [List.cons.injEq, Value.int.injEq, Value.ref.injEq, rf_eq, and_true, true_and] at e
    obtain rfl := e
    exact h, fun h => ⟨_, rfl, h⟩⟩

def callX8_nextOf (aM : Nat → Nat) : Nat → Option (xSp mS) := fun n => match n with | 0 => some (spX8_isUp aM) | _ => none

theorem callX8_nextOf_0 {aM : Nat → Nat} {k : xSp mS → Prop} : xcs (callX8_nextOf aM 0) k = k (spX8_isUp aM) := rfl

theorem crX8_nextOf (l : Launch) (W9 : xWd) (aM : Nat → Nat) (hi : mInj aM) : xCallsOK l W9 (mI aM) (callX8_nextOf aM) clX8_nextOf RX8 wsX8_nextOf 1 21 2 := by
  intro E A p e R s m args below meth c hI hF hL X
  exact List.forall_mem_cons.mpr ⟨⟨_, rfl, xCR_V X (by rw [hI]; exact (semX8_isUp l W9 aM hi)) gX8_nextOf_X8_isUp rfl rfl (by decide +kernel) (by rw [hF, hL]; decide)⟩,
    fun _ h => nomatch h⟩

set_option maxHeartbeats 4000000 in
set_option maxRecDepth 20000 in
theorem semX8_nextOf (l : Launch) (W9 : xWd) (aM : Nat → Nat) (hi : mInj aM) : xSem l W9 (mI aM) yX8_nextOf wsX8_nextOf 1 21 (spX8_nextOf aM) := by
  refine xSem_of (call := callX8_nextOf aM) (thrf := fun _ => "") (mI_law hi) (by decide +kernel) rfl ckX8_nextOf usX8_nextOf (crX8_nextOf l W9 aM hi) xThrOK_nil ?_ ?_
  · intro av M KF h
    obtain ⟨b, rfl, h⟩ := h
    exact ⟨by intro v hv; simp only [List.mem_cons, List.not_mem_nil, or_false] at hv; rcases hv with rfl | rfl <;> first | rfl | exact cat_rf, Nat.le_of_ble_eq_true rfl⟩
  intro av M KF h G hG
  obtain ⟨b, rfl, h⟩ := h
  rw [show (spX8_nextOf aM).1 _ M = _ from spcX8_nextOf] at hG
  try dsimp only at hG
  change G 0 [some (.ref (aM 0)), some (.int b)] [] M 0 0
  obtain ⟨h1, h⟩ := h
  refine xgo0 hG (fun fu hfu => ?_)
  clear hG
  simp only [↓callX8_nextOf_0, ki_1, ↓ma_33, ↓mg_33, misa, ↓vm_aload_n, ↓vm_getfield, ↓vm_goto, ↓vm_iaload, ↓vm_iconst, ↓vm_ifCond_eq, ↓vm_iload_n, ↓vm_invokevirtual, ↓vm_ireturn, ↓vm_isub, ↓xc_2, ↓tbX8_nextOf_0, ↓tbX8_nextOf_1, ↓tbX8_nextOf_2, ↓tbX8_nextOf_5, ↓tbX8_nextOf_8, ↓tbX8_nextOf_9, ↓tbX8_nextOf_12, ↓tbX8_nextOf_13, ↓tbX8_nextOf_14, ↓tbX8_nextOf_17, ↓tbX8_nextOf_18, ↓tbX8_nextOf_21, ↓tbX8_nextOf_22, ↓tbX8_nextOf_23, ↓tbX8_nextOf_24, ↓tbX8_nextOf_25, hfu, xstep0, xJ1_hit, xJ1_go, xJ2_hit1, xJ2_hit2, xJ2_go, ↓xif_t, ↓xif_f, seval, ↓xca_eq, ↓xre_l, ↓xre_r, xmask_t, xmask_f, xmask_nil, ↓xst_eq, xX_eq, eI_eq, eMc_eq, eMs_eq, eF_eq, eThr_eq, ↓xS1_mk, ↓xSI_mk, ↓xSR_mk, ↓xLI_0, ↓xLI_s, ↓xLR_0, ↓xLR_s, vRef_ref, vRef_null, vRef_rf, cat_int, cat_ref, cat_null, cat_rf, rf_some, rf_none, rf_null, rf_eq, rf_ref, ref_rf, ref_null, ref_ref, xOk_0, xOk_1, xOk_2r, xOk_2n, xOk_2f, vOpt_rf, vOpt_ref, vOpt_null, List.set_cons_zero, List.set_cons_succ, List.take_succ_cons, List.take_zero, List.drop_succ_cons, List.drop_zero, List.reverse_cons, List.reverse_nil, List.nil_append, List.cons_append, List.append_nil, List.length_cons, List.length_nil, List.map_cons, List.map_nil, List.sum_cons, List.sum_nil, Option.toList_some, Option.toList_none, xRecv_mk, true_and, and_true, true_implies, Nat.reduceAdd, Nat.reduceLeDiff, Nat.zero_le, Nat.le_refl, Nat.add_zero, Nat.zero_add, reduceIte, not_true_eq_false, not_false_eq_true, false_implies, and_self, implies_true, eq_self, Nat.reduceEqDiff, List.cons.injEq, xsn_1, xsn_2, false_and, and_false, or_false, false_or, or_true, true_or, xsn_3, xsn_4, h1, bi_0, ↓spwX8_isUp, spcX8_isUp]
  try simp only [xif_e]
  grind [mNext]

def tbX8_widthOf : List (Nat × xHint) := [(0, .aload_n 0, 0, 0, 0, []), (1, .getfield 116, 9, 42, 2, []), (4, .iload_n 1, 1, 0, 0, []), (5, .iaload, 42, 0, 0, []), (6, .ifCond .ne 7, 13, 0, 0, []), (9, .iconst 1, 0, 0, 0, []), (10, .goto 33, 43, 0, 0, []), (13, .aload_n 0, 0, 0, 0, []), (14, .getfield 116, 9, 42, 2, []), (17, .iload_n 1, 1, 0, 0, []), (18, .iaload, 42, 0, 0, []), (19, .aload_n 0, 0, 0, 0, []), (20, .getfield 110, 9, 40, 2, []), (23, .iload_n 1, 1, 0, 0, []), (24, .iaload, 40, 0, 0, []), (25, .if_icmp .ge 12, 37, 0, 0, []), (28, .aload_n 0, 0, 0, 0, []), (29, .getfield 116, 9, 42, 2, []), (32, .iload_n 1, 1, 0, 0, []), (33, .iaload, 42, 0, 0, []), (34, .goto 9, 43, 0, 0, []), (37, .aload_n 0, 0, 0, 0, []), (38, .getfield 110, 9, 40, 2, []), (41, .iload_n 1, 1, 0, 0, []), (42, .iaload, 40, 0, 0, []), (43, .ireturn, 0, 0, 0, [])]
def clX8_widthOf : List (Instr × Nat × Nat × Nat) := []
def thX8_widthOf : List (Nat × Nat) := []
theorem ckX8_widthOf : tbX8_widthOf.all (xRow RX8 cX8_widthOf wsX8_widthOf vwCl [9] clX8_widthOf thX8_widthOf 2 (yX8_widthOf.name == "<init>") (some .int)) = true := xRow_q 0xac2e1b6e00b42a0900a72e1b7400b42a0c00a22e1b6e00b42a2e1b7400b42a2100a70407009a2e1b7400b42a 44 (by decide +kernel) (by decide +kernel)
theorem usX8_widthOf : xUse wsX8_widthOf vwCl [9] = true := xUse_g rfl (lw_good lwl_X8_widthOf lwl_X80 (by decide +kernel)) xUse_n
theorem tbX8_widthOf_0 {k : Instr → Nat → Nat → Nat → List Nat → Prop} : xse (xFind tbX8_widthOf 0) k = k (.aload_n 0) 0 0 0 [] := rfl
theorem tbX8_widthOf_1 {k : Instr → Nat → Nat → Nat → List Nat → Prop} : xse (xFind tbX8_widthOf 1) k = k (.getfield 116) 9 42 2 [] := rfl
theorem tbX8_widthOf_4 {k : Instr → Nat → Nat → Nat → List Nat → Prop} : xse (xFind tbX8_widthOf 4) k = k (.iload_n 1) 1 0 0 [] := rfl
theorem tbX8_widthOf_5 {k : Instr → Nat → Nat → Nat → List Nat → Prop} : xse (xFind tbX8_widthOf 5) k = k (.iaload) 42 0 0 [] := rfl
theorem tbX8_widthOf_6 {k : Instr → Nat → Nat → Nat → List Nat → Prop} : xse (xFind tbX8_widthOf 6) k = k (.ifCond .ne 7) 13 0 0 [] := rfl
theorem tbX8_widthOf_9 {k : Instr → Nat → Nat → Nat → List Nat → Prop} : xse (xFind tbX8_widthOf 9) k = k (.iconst 1) 0 0 0 [] := rfl
theorem tbX8_widthOf_10 {k : Instr → Nat → Nat → Nat → List Nat → Prop} : xse (xFind tbX8_widthOf 10) k = k (.goto 33) 43 0 0 [] := rfl
theorem tbX8_widthOf_13 {k : Instr → Nat → Nat → Nat → List Nat → Prop} : xse (xFind tbX8_widthOf 13) k = k (.aload_n 0) 0 0 0 [] := rfl
theorem tbX8_widthOf_14 {k : Instr → Nat → Nat → Nat → List Nat → Prop} : xse (xFind tbX8_widthOf 14) k = k (.getfield 116) 9 42 2 [] := rfl
theorem tbX8_widthOf_17 {k : Instr → Nat → Nat → Nat → List Nat → Prop} : xse (xFind tbX8_widthOf 17) k = k (.iload_n 1) 1 0 0 [] := rfl
theorem tbX8_widthOf_18 {k : Instr → Nat → Nat → Nat → List Nat → Prop} : xse (xFind tbX8_widthOf 18) k = k (.iaload) 42 0 0 [] := rfl
theorem tbX8_widthOf_19 {k : Instr → Nat → Nat → Nat → List Nat → Prop} : xse (xFind tbX8_widthOf 19) k = k (.aload_n 0) 0 0 0 [] := rfl
theorem tbX8_widthOf_20 {k : Instr → Nat → Nat → Nat → List Nat → Prop} : xse (xFind tbX8_widthOf 20) k = k (.getfield 110) 9 40 2 [] := rfl
theorem tbX8_widthOf_23 {k : Instr → Nat → Nat → Nat → List Nat → Prop} : xse (xFind tbX8_widthOf 23) k = k (.iload_n 1) 1 0 0 [] := rfl
theorem tbX8_widthOf_24 {k : Instr → Nat → Nat → Nat → List Nat → Prop} : xse (xFind tbX8_widthOf 24) k = k (.iaload) 40 0 0 [] := rfl
theorem tbX8_widthOf_25 {k : Instr → Nat → Nat → Nat → List Nat → Prop} : xse (xFind tbX8_widthOf 25) k = k (.if_icmp .ge 12) 37 0 0 [] := rfl
theorem tbX8_widthOf_28 {k : Instr → Nat → Nat → Nat → List Nat → Prop} : xse (xFind tbX8_widthOf 28) k = k (.aload_n 0) 0 0 0 [] := rfl
theorem tbX8_widthOf_29 {k : Instr → Nat → Nat → Nat → List Nat → Prop} : xse (xFind tbX8_widthOf 29) k = k (.getfield 116) 9 42 2 [] := rfl
theorem tbX8_widthOf_32 {k : Instr → Nat → Nat → Nat → List Nat → Prop} : xse (xFind tbX8_widthOf 32) k = k (.iload_n 1) 1 0 0 [] := rfl
theorem tbX8_widthOf_33 {k : Instr → Nat → Nat → Nat → List Nat → Prop} : xse (xFind tbX8_widthOf 33) k = k (.iaload) 42 0 0 [] := rfl
theorem tbX8_widthOf_34 {k : Instr → Nat → Nat → Nat → List Nat → Prop} : xse (xFind tbX8_widthOf 34) k = k (.goto 9) 43 0 0 [] := rfl
theorem tbX8_widthOf_37 {k : Instr → Nat → Nat → Nat → List Nat → Prop} : xse (xFind tbX8_widthOf 37) k = k (.aload_n 0) 0 0 0 [] := rfl
theorem tbX8_widthOf_38 {k : Instr → Nat → Nat → Nat → List Nat → Prop} : xse (xFind tbX8_widthOf 38) k = k (.getfield 110) 9 40 2 [] := rfl
theorem tbX8_widthOf_41 {k : Instr → Nat → Nat → Nat → List Nat → Prop} : xse (xFind tbX8_widthOf 41) k = k (.iload_n 1) 1 0 0 [] := rfl
theorem tbX8_widthOf_42 {k : Instr → Nat → Nat → Nat → List Nat → Prop} : xse (xFind tbX8_widthOf 42) k = k (.iaload) 40 0 0 [] := rfl
theorem tbX8_widthOf_43 {k : Instr → Nat → Nat → Nat → List Nat → Prop} : xse (xFind tbX8_widthOf 43) k = k (.ireturn) 0 0 0 [] := rfl

def spX8_widthOf (aM : Nat → Nat) : xSp mS := (fun av M => (0, 0), fun av M K => ∃ (b : Int32), av = [.ref (aM 0), .int b] ∧ (vp_in b 6 ∧ K (rI (mWd M b)) M))
theorem spcX8_widthOf {av : List Value} {M : mS} {aM : Nat → Nat} : (spX8_widthOf aM).1 av M = (0, 0) := rfl
theorem spwX8_widthOf {M : mS} {aM : Nat → Nat} {K : xRes → mS → Prop} {b : Int32} : (spX8_widthOf aM).2 [.ref (aM 0), .int b] M K = (vp_in b 6 ∧ K (rI (mWd M b)) M) :=
  propext ⟨fun h => by
    simp only [spX8_widthOf] at h
    obtain ⟨_, e, h⟩ := h
    simp only [List.cons.injEq, Value.int.injEq, Value.ref.injEq, rf_eq, and_true, true_and] at e
    obtain rfl := e
    exact h, fun h => ⟨_, rfl, h⟩⟩

set_option maxHeartbeats 4000000 in
set_option maxRecDepth 20000 in
theorem semX8_widthOf (l : Launch) (W9 : xWd) (aM : Nat → Nat) (hi : mInj aM) : xSem l W9 (mI aM) yX8_widthOf wsX8_widthOf 0 0 (spX8_widthOf aM) := by
  refine xSem_of (call := fun _ => none) (thrf := fun _ => "") (mI_law hi) (by decide +kernel) rfl ckX8_widthOf usX8_widthOf xCallsOK_nil xThrOK_nil ?_ ?_
  · intro av M KF h
    obtain ⟨b, rfl, h⟩ := h
    exact ⟨by intro v hv; simp only [List.mem_cons, List.not_mem_nil, or_false] at hv; rcases hv with rfl | rfl <;> first | rfl | exact cat_rf, Nat.le_of_ble_eq_true rfl⟩
  intro av M KF h G hG
  obtain ⟨b, rfl, h⟩ := h
  rw [show (spX8_widthOf aM).1 _ M = _ from spcX8_widthOf] at hG
  try dsimp only at hG
  change G 0 [some (.ref (aM 0)), some (.int b)] [] M 0 0
  obtain ⟨h1, h⟩ := h
  refine xgo0 hG (fun fu hfu => ?_)
  clear hG
  simp only [ki_1, ↓ma_40, ↓ma_42, ↓mg_40, ↓mg_42, ↓vm_aload_n, ↓vm_getfield, ↓vm_goto, ↓vm_iaload, ↓vm_iconst, ↓vm_ifCond_ne, ↓vm_if_icmp_ge, ↓vm_iload_n, ↓vm_ireturn, ↓tbX8_widthOf_0, ↓tbX8_widthOf_1, ↓tbX8_widthOf_4, ↓tbX8_widthOf_5, ↓tbX8_widthOf_6, ↓tbX8_widthOf_9, ↓tbX8_widthOf_10, ↓tbX8_widthOf_13, ↓tbX8_widthOf_14, ↓tbX8_widthOf_17, ↓tbX8_widthOf_18, ↓tbX8_widthOf_19, ↓tbX8_widthOf_20, ↓tbX8_widthOf_23, ↓tbX8_widthOf_24, ↓tbX8_widthOf_25, ↓tbX8_widthOf_28, ↓tbX8_widthOf_29, ↓tbX8_widthOf_32, ↓tbX8_widthOf_33, ↓tbX8_widthOf_34, ↓tbX8_widthOf_37, ↓tbX8_widthOf_38, ↓tbX8_widthOf_41, ↓tbX8_widthOf_42, ↓tbX8_widthOf_43, hfu, xstep0, xJ1_hit, xJ1_go, xJ2_hit1, xJ2_hit2, xJ2_go, ↓xif_t, ↓xif_f, seval, ↓xca_eq, ↓xre_l, ↓xre_r, xmask_t, xmask_f, xmask_nil, ↓xst_eq, xX_eq, eI_eq, eMc_eq, eMs_eq, eF_eq, eThr_eq, ↓xS1_mk, ↓xSI_mk, ↓xSR_mk, ↓xLI_0, ↓xLI_s, ↓xLR_0, ↓xLR_s, vRef_ref, vRef_null, vRef_rf, cat_int, cat_ref, cat_null, cat_rf, rf_some, rf_none, rf_null, rf_eq, rf_ref, ref_rf, ref_null, ref_ref, xOk_0, xOk_1, xOk_2r, xOk_2n, xOk_2f, vOpt_rf, vOpt_ref, vOpt_null, List.set_cons_zero, List.set_cons_succ, List.take_succ_cons, List.take_zero, List.drop_succ_cons, List.drop_zero, List.reverse_cons, List.reverse_nil, List.nil_append, List.cons_append, List.append_nil, List.length_cons, List.length_nil, List.map_cons, List.map_nil, List.sum_cons, List.sum_nil, Option.toList_some, Option.toList_none, xRecv_mk, true_and, and_true, true_implies, Nat.reduceAdd, Nat.reduceLeDiff, Nat.zero_le, Nat.le_refl, Nat.add_zero, Nat.zero_add, reduceIte, not_true_eq_false, not_false_eq_true, false_implies, and_self, implies_true, eq_self, Nat.reduceEqDiff, List.cons.injEq, xsn_1, xsn_2, false_and, and_false, or_false, false_or, or_true, true_or, xsn_3, xsn_4, h1]
  try simp only [xif_e]
  grind [mWd]

def tbX8_mostOf : List (Nat × xHint) := [(0, .aload_n 0, 0, 0, 0, []), (1, .getfield 80, 9, 30, 2, []), (4, .iload_n 1, 1, 0, 0, []), (5, .iaload, 30, 0, 0, []), (6, .iload_n 2, 2, 0, 0, []), (7, .ifCond .eq 8, 15, 0, 0, []), (10, .bipush 8, 0, 0, 0, []), (12, .goto 5, 17, 0, 0, []), (15, .bipush 12, 0, 0, 0, []), (17, .imul, 0, 0, 0, []), (18, .aload_n 0, 0, 0, 0, []), (19, .getfield 186, 9, 2, 0, []), (22, .ifCond .le 20, 42, 0, 0, []), (25, .aload_n 0, 0, 0, 0, []), (26, .getfield 80, 9, 30, 2, []), (29, .iload_n 1, 1, 0, 0, []), (30, .iaload, 30, 0, 0, []), (31, .aload_n 0, 0, 0, 0, []), (32, .getfield 186, 9, 2, 0, []), (35, .bipush 10, 0, 0, 0, []), (37, .idiv, 0, 0, 0, []), (38, .imul, 0, 0, 0, []), (39, .goto 4, 43, 0, 0, []), (42, .iconst 0, 0, 0, 0, []), (43, .isub, 0, 0, 0, []), (44, .ireturn, 0, 0, 0, [])]
def clX8_mostOf : List (Instr × Nat × Nat × Nat) := []
def thX8_mostOf : List (Nat × Nat) := []
theorem ckX8_mostOf : tbX8_mostOf.all (xRow RX8 cX8_mostOf wsX8_mostOf vwCl [9] clX8_mostOf thX8_mostOf 3 (yX8_mostOf.name == "<init>") (some .int)) = true := xRow_q 0xac64030400a7686c0a10ba00b42a2e1b5000b42a14009eba00b42a680c100500a708100800991c2e1b5000b42a 45 (by decide +kernel) (by decide +kernel)
theorem usX8_mostOf : xUse wsX8_mostOf vwCl [9] = true := xUse_g rfl (lw_good lwl_X8_mostOf lwl_X80 (by decide +kernel)) xUse_n
theorem tbX8_mostOf_0 {k : Instr → Nat → Nat → Nat → List Nat → Prop} : xse (xFind tbX8_mostOf 0) k = k (.aload_n 0) 0 0 0 [] := rfl
theorem tbX8_mostOf_1 {k : Instr → Nat → Nat → Nat → List Nat → Prop} : xse (xFind tbX8_mostOf 1) k = k (.getfield 80) 9 30 2 [] := rfl
theorem tbX8_mostOf_4 {k : Instr → Nat → Nat → Nat → List Nat → Prop} : xse (xFind tbX8_mostOf 4) k = k (.iload_n 1) 1 0 0 [] := rfl
theorem tbX8_mostOf_5 {k : Instr → Nat → Nat → Nat → List Nat → Prop} : xse (xFind tbX8_mostOf 5) k = k (.iaload) 30 0 0 [] := rfl
theorem tbX8_mostOf_6 {k : Instr → Nat → Nat → Nat → List Nat → Prop} : xse (xFind tbX8_mostOf 6) k = k (.iload_n 2) 2 0 0 [] := rfl
theorem tbX8_mostOf_7 {k : Instr → Nat → Nat → Nat → List Nat → Prop} : xse (xFind tbX8_mostOf 7) k = k (.ifCond .eq 8) 15 0 0 [] := rfl
theorem tbX8_mostOf_10 {k : Instr → Nat → Nat → Nat → List Nat → Prop} : xse (xFind tbX8_mostOf 10) k = k (.bipush 8) 0 0 0 [] := rfl
theorem tbX8_mostOf_12 {k : Instr → Nat → Nat → Nat → List Nat → Prop} : xse (xFind tbX8_mostOf 12) k = k (.goto 5) 17 0 0 [] := rfl
theorem tbX8_mostOf_15 {k : Instr → Nat → Nat → Nat → List Nat → Prop} : xse (xFind tbX8_mostOf 15) k = k (.bipush 12) 0 0 0 [] := rfl
theorem tbX8_mostOf_17 {k : Instr → Nat → Nat → Nat → List Nat → Prop} : xse (xFind tbX8_mostOf 17) k = k (.imul) 0 0 0 [] := rfl
theorem tbX8_mostOf_18 {k : Instr → Nat → Nat → Nat → List Nat → Prop} : xse (xFind tbX8_mostOf 18) k = k (.aload_n 0) 0 0 0 [] := rfl
theorem tbX8_mostOf_19 {k : Instr → Nat → Nat → Nat → List Nat → Prop} : xse (xFind tbX8_mostOf 19) k = k (.getfield 186) 9 2 0 [] := rfl
theorem tbX8_mostOf_22 {k : Instr → Nat → Nat → Nat → List Nat → Prop} : xse (xFind tbX8_mostOf 22) k = k (.ifCond .le 20) 42 0 0 [] := rfl
theorem tbX8_mostOf_25 {k : Instr → Nat → Nat → Nat → List Nat → Prop} : xse (xFind tbX8_mostOf 25) k = k (.aload_n 0) 0 0 0 [] := rfl
theorem tbX8_mostOf_26 {k : Instr → Nat → Nat → Nat → List Nat → Prop} : xse (xFind tbX8_mostOf 26) k = k (.getfield 80) 9 30 2 [] := rfl
theorem tbX8_mostOf_29 {k : Instr → Nat → Nat → Nat → List Nat → Prop} : xse (xFind tbX8_mostOf 29) k = k (.iload_n 1) 1 0 0 [] := rfl
theorem tbX8_mostOf_30 {k : Instr → Nat → Nat → Nat → List Nat → Prop} : xse (xFind tbX8_mostOf 30) k = k (.iaload) 30 0 0 [] := rfl
theorem tbX8_mostOf_31 {k : Instr → Nat → Nat → Nat → List Nat → Prop} : xse (xFind tbX8_mostOf 31) k = k (.aload_n 0) 0 0 0 [] := rfl
theorem tbX8_mostOf_32 {k : Instr → Nat → Nat → Nat → List Nat → Prop} : xse (xFind tbX8_mostOf 32) k = k (.getfield 186) 9 2 0 [] := rfl
theorem tbX8_mostOf_35 {k : Instr → Nat → Nat → Nat → List Nat → Prop} : xse (xFind tbX8_mostOf 35) k = k (.bipush 10) 0 0 0 [] := rfl
theorem tbX8_mostOf_37 {k : Instr → Nat → Nat → Nat → List Nat → Prop} : xse (xFind tbX8_mostOf 37) k = k (.idiv) 0 0 0 [] := rfl
theorem tbX8_mostOf_38 {k : Instr → Nat → Nat → Nat → List Nat → Prop} : xse (xFind tbX8_mostOf 38) k = k (.imul) 0 0 0 [] := rfl
theorem tbX8_mostOf_39 {k : Instr → Nat → Nat → Nat → List Nat → Prop} : xse (xFind tbX8_mostOf 39) k = k (.goto 4) 43 0 0 [] := rfl
theorem tbX8_mostOf_42 {k : Instr → Nat → Nat → Nat → List Nat → Prop} : xse (xFind tbX8_mostOf 42) k = k (.iconst 0) 0 0 0 [] := rfl
theorem tbX8_mostOf_43 {k : Instr → Nat → Nat → Nat → List Nat → Prop} : xse (xFind tbX8_mostOf 43) k = k (.isub) 0 0 0 [] := rfl
theorem tbX8_mostOf_44 {k : Instr → Nat → Nat → Nat → List Nat → Prop} : xse (xFind tbX8_mostOf 44) k = k (.ireturn) 0 0 0 [] := rfl

def spX8_mostOf (aM : Nat → Nat) : xSp mS := (fun av M => (0, 0), fun av M K => ∃ (b : Int32) (up : Int32), av = [.ref (aM 0), .int b, .int up] ∧ ((up = 0 ∨ up = 1) ∧ (vp_in b 6 ∧ K (rI (mMost M b up)) M)))
theorem spcX8_mostOf {av : List Value} {M : mS} {aM : Nat → Nat} : (spX8_mostOf aM).1 av M = (0, 0) := rfl
theorem spwX8_mostOf {M : mS} {aM : Nat → Nat} {K : xRes → mS → Prop} {b : Int32} {up : Int32} : (spX8_mostOf aM).2 [.ref (aM 0), .int b, .int up] M K = ((up = 0 ∨ up = 1) ∧ (vp_in b 6 ∧ K (rI (mMost M b up)) M)) :=
  propext ⟨fun h => by
    simp only [spX8_mostOf] at h
    obtain ⟨_, _, e, h⟩ := h
    simp only [List.cons.injEq, Value.int.injEq, Value.ref.injEq, rf_eq, and_true, true_and] at e
    obtain ⟨rfl, rfl⟩ := e
    exact h, fun h => ⟨_, _, rfl, h⟩⟩

set_option maxHeartbeats 4000000 in
set_option maxRecDepth 20000 in
theorem semX8_mostOf (l : Launch) (W9 : xWd) (aM : Nat → Nat) (hi : mInj aM) : xSem l W9 (mI aM) yX8_mostOf wsX8_mostOf 0 0 (spX8_mostOf aM) := by
  refine xSem_of (call := fun _ => none) (thrf := fun _ => "") (mI_law hi) (by decide +kernel) rfl ckX8_mostOf usX8_mostOf xCallsOK_nil xThrOK_nil ?_ ?_
  · intro av M KF h
    obtain ⟨b, up, rfl, h⟩ := h
    exact ⟨by intro v hv; simp only [List.mem_cons, List.not_mem_nil, or_false] at hv; rcases hv with rfl | rfl | rfl <;> first | rfl | exact cat_rf, Nat.le_of_ble_eq_true rfl⟩
  intro av M KF h G hG
  obtain ⟨b, up, rfl, h⟩ := h
  rw [show (spX8_mostOf aM).1 _ M = _ from spcX8_mostOf] at hG
  try dsimp only at hG
  change G 0 [some (.ref (aM 0)), some (.int b), some (.int up)] [] M 0 0
  obtain ⟨hu, h1, h⟩ := h
  refine xgo0 hG (fun fu hfu => ?_)
  clear hG
  simp only [kb_10, kb_12, kb_8, kc_10, kc_12, kc_8, ki_0, ↓ma_30, ↓mg_2, ↓mg_30, ↓vm_aload_n, ↓vm_bipush, ↓vm_getfield, ↓vm_goto, ↓vm_iaload, ↓vm_iconst, ↓vm_idiv, ↓vm_ifCond_eq, ↓vm_ifCond_le, ↓vm_iload_n, ↓vm_imul, ↓vm_ireturn, ↓vm_isub, ↓tbX8_mostOf_0, ↓tbX8_mostOf_1, ↓tbX8_mostOf_4, ↓tbX8_mostOf_5, ↓tbX8_mostOf_6, ↓tbX8_mostOf_7, ↓tbX8_mostOf_10, ↓tbX8_mostOf_12, ↓tbX8_mostOf_15, ↓tbX8_mostOf_17, ↓tbX8_mostOf_18, ↓tbX8_mostOf_19, ↓tbX8_mostOf_22, ↓tbX8_mostOf_25, ↓tbX8_mostOf_26, ↓tbX8_mostOf_29, ↓tbX8_mostOf_30, ↓tbX8_mostOf_31, ↓tbX8_mostOf_32, ↓tbX8_mostOf_35, ↓tbX8_mostOf_37, ↓tbX8_mostOf_38, ↓tbX8_mostOf_39, ↓tbX8_mostOf_42, ↓tbX8_mostOf_43, ↓tbX8_mostOf_44, hfu, xstep0, xJ1_hit, xJ1_go, xJ2_hit1, xJ2_hit2, xJ2_go, ↓xif_t, ↓xif_f, seval, ↓xca_eq, ↓xre_l, ↓xre_r, xmask_t, xmask_f, xmask_nil, ↓xst_eq, xX_eq, eI_eq, eMc_eq, eMs_eq, eF_eq, eThr_eq, ↓xS1_mk, ↓xSI_mk, ↓xSR_mk, ↓xLI_0, ↓xLI_s, ↓xLR_0, ↓xLR_s, vRef_ref, vRef_null, vRef_rf, cat_int, cat_ref, cat_null, cat_rf, rf_some, rf_none, rf_null, rf_eq, rf_ref, ref_rf, ref_null, ref_ref, xOk_0, xOk_1, xOk_2r, xOk_2n, xOk_2f, vOpt_rf, vOpt_ref, vOpt_null, List.set_cons_zero, List.set_cons_succ, List.take_succ_cons, List.take_zero, List.drop_succ_cons, List.drop_zero, List.reverse_cons, List.reverse_nil, List.nil_append, List.cons_append, List.append_nil, List.length_cons, List.length_nil, List.map_cons, List.map_nil, List.sum_cons, List.sum_nil, Option.toList_some, Option.toList_none, xRecv_mk, true_and, and_true, true_implies, Nat.reduceAdd, Nat.reduceLeDiff, Nat.zero_le, Nat.le_refl, Nat.add_zero, Nat.zero_add, reduceIte, not_true_eq_false, not_false_eq_true, false_implies, and_self, implies_true, eq_self, Nat.reduceEqDiff, List.cons.injEq, xsn_1, xsn_2, false_and, and_false, or_false, false_or, or_true, true_or, xsn_3, xsn_4, h1]
  try simp only [xif_e]
  grind [mMost]

def tbX8_hoursIn : List (Nat × xHint) := [(0, .aload_n 0, 0, 0, 0, []), (1, .getfield 23, 9, 9, 2, []), (4, .iload_n 1, 1, 0, 0, []), (5, .iaload, 9, 0, 0, []), (6, .iload_n 3, 3, 0, 0, []), (7, .ifCond .eq 7, 14, 0, 0, []), (10, .iconst 2, 0, 0, 0, []), (11, .goto 4, 15, 0, 0, []), (14, .iconst 1, 0, 0, 0, []), (15, .imul, 0, 0, 0, []), (16, .istore 4, 4, 0, 0, []), (18, .aload_n 0, 0, 0, 0, []), (19, .getfield 7, 9, 5, 2, []), (22, .iload_n 1, 1, 0, 0, []), (23, .baload, 5, 0, 0, []), (24, .ifCond .eq 38, 62, 0, 0, []), (27, .aload_n 0, 0, 0, 0, []), (28, .getfield 116, 9, 42, 2, []), (31, .iload_n 2, 2, 0, 0, []), (32, .iaload, 42, 0, 0, []), (33, .aload_n 0, 0, 0, 0, []), (34, .getfield 32, 9, 12, 2, []), (37, .iload_n 1, 1, 0, 0, []), (38, .iaload, 12, 0, 0, []), (39, .if_icmp .gt 7, 46, 0, 0, []), (42, .iconst 1, 0, 0, 0, []), (43, .goto 17, 60, 0, 0, []), (46, .aload_n 0, 0, 0, 0, []), (47, .getfield 38, 9, 14, 2, []), (50, .iload_n 1, 1, 0, 0, []), (51, .baload, 14, 0, 0, []), (52, .ifCond .eq 7, 59, 0, 0, []), (55, .iconst 2, 0, 0, 0, []), (56, .goto 4, 60, 0, 0, []), (59, .iconst 3, 0, 0, 0, []), (60, .istore 4, 4, 0, 0, []), (62, .iload 4, 4, 0, 0, []), (64, .aload_n 0, 0, 0, 0, []), (65, .getfield 17, 9, 7, 2, []), (68, .iload_n 1, 1, 0, 0, []), (69, .iaload, 7, 0, 0, []), (70, .iadd, 0, 0, 0, []), (71, .ireturn, 0, 0, 0, [])]
def clX8_hoursIn : List (Instr × Nat × Nat × Nat) := []
def thX8_hoursIn : List (Nat × Nat) := []
theorem ckX8_hoursIn : tbX8_hoursIn.all (xRow RX8 cX8_hoursIn wsX8_hoursIn vwCl [9] clX8_hoursIn thX8_hoursIn 5 (yX8_hoursIn.name == "<init>") (some .int)) = true := xRow_q 0xac602e1b1100b42a04150436060400a705070099331b2600b42a1100a7040700a32e1b2000b42a2e1c7400b42a260099331b0700b42a043668040400a7050700991d2e1b1700b42a 72 (by decide +kernel) (by decide +kernel)
theorem usX8_hoursIn : xUse wsX8_hoursIn vwCl [9] = true := xUse_g rfl (lw_good lwl_X8_hoursIn lwl_X80 (by decide +kernel)) xUse_n
theorem tbX8_hoursIn_0 {k : Instr → Nat → Nat → Nat → List Nat → Prop} : xse (xFind tbX8_hoursIn 0) k = k (.aload_n 0) 0 0 0 [] := rfl
theorem tbX8_hoursIn_1 {k : Instr → Nat → Nat → Nat → List Nat → Prop} : xse (xFind tbX8_hoursIn 1) k = k (.getfield 23) 9 9 2 [] := rfl
theorem tbX8_hoursIn_4 {k : Instr → Nat → Nat → Nat → List Nat → Prop} : xse (xFind tbX8_hoursIn 4) k = k (.iload_n 1) 1 0 0 [] := rfl
theorem tbX8_hoursIn_5 {k : Instr → Nat → Nat → Nat → List Nat → Prop} : xse (xFind tbX8_hoursIn 5) k = k (.iaload) 9 0 0 [] := rfl
theorem tbX8_hoursIn_6 {k : Instr → Nat → Nat → Nat → List Nat → Prop} : xse (xFind tbX8_hoursIn 6) k = k (.iload_n 3) 3 0 0 [] := rfl
theorem tbX8_hoursIn_7 {k : Instr → Nat → Nat → Nat → List Nat → Prop} : xse (xFind tbX8_hoursIn 7) k = k (.ifCond .eq 7) 14 0 0 [] := rfl
theorem tbX8_hoursIn_10 {k : Instr → Nat → Nat → Nat → List Nat → Prop} : xse (xFind tbX8_hoursIn 10) k = k (.iconst 2) 0 0 0 [] := rfl
theorem tbX8_hoursIn_11 {k : Instr → Nat → Nat → Nat → List Nat → Prop} : xse (xFind tbX8_hoursIn 11) k = k (.goto 4) 15 0 0 [] := rfl
theorem tbX8_hoursIn_14 {k : Instr → Nat → Nat → Nat → List Nat → Prop} : xse (xFind tbX8_hoursIn 14) k = k (.iconst 1) 0 0 0 [] := rfl
theorem tbX8_hoursIn_15 {k : Instr → Nat → Nat → Nat → List Nat → Prop} : xse (xFind tbX8_hoursIn 15) k = k (.imul) 0 0 0 [] := rfl
theorem tbX8_hoursIn_16 {k : Instr → Nat → Nat → Nat → List Nat → Prop} : xse (xFind tbX8_hoursIn 16) k = k (.istore 4) 4 0 0 [] := rfl
theorem tbX8_hoursIn_18 {k : Instr → Nat → Nat → Nat → List Nat → Prop} : xse (xFind tbX8_hoursIn 18) k = k (.aload_n 0) 0 0 0 [] := rfl
theorem tbX8_hoursIn_19 {k : Instr → Nat → Nat → Nat → List Nat → Prop} : xse (xFind tbX8_hoursIn 19) k = k (.getfield 7) 9 5 2 [] := rfl
theorem tbX8_hoursIn_22 {k : Instr → Nat → Nat → Nat → List Nat → Prop} : xse (xFind tbX8_hoursIn 22) k = k (.iload_n 1) 1 0 0 [] := rfl
theorem tbX8_hoursIn_23 {k : Instr → Nat → Nat → Nat → List Nat → Prop} : xse (xFind tbX8_hoursIn 23) k = k (.baload) 5 0 0 [] := rfl
theorem tbX8_hoursIn_24 {k : Instr → Nat → Nat → Nat → List Nat → Prop} : xse (xFind tbX8_hoursIn 24) k = k (.ifCond .eq 38) 62 0 0 [] := rfl
theorem tbX8_hoursIn_27 {k : Instr → Nat → Nat → Nat → List Nat → Prop} : xse (xFind tbX8_hoursIn 27) k = k (.aload_n 0) 0 0 0 [] := rfl
theorem tbX8_hoursIn_28 {k : Instr → Nat → Nat → Nat → List Nat → Prop} : xse (xFind tbX8_hoursIn 28) k = k (.getfield 116) 9 42 2 [] := rfl
theorem tbX8_hoursIn_31 {k : Instr → Nat → Nat → Nat → List Nat → Prop} : xse (xFind tbX8_hoursIn 31) k = k (.iload_n 2) 2 0 0 [] := rfl
theorem tbX8_hoursIn_32 {k : Instr → Nat → Nat → Nat → List Nat → Prop} : xse (xFind tbX8_hoursIn 32) k = k (.iaload) 42 0 0 [] := rfl
theorem tbX8_hoursIn_33 {k : Instr → Nat → Nat → Nat → List Nat → Prop} : xse (xFind tbX8_hoursIn 33) k = k (.aload_n 0) 0 0 0 [] := rfl
theorem tbX8_hoursIn_34 {k : Instr → Nat → Nat → Nat → List Nat → Prop} : xse (xFind tbX8_hoursIn 34) k = k (.getfield 32) 9 12 2 [] := rfl
theorem tbX8_hoursIn_37 {k : Instr → Nat → Nat → Nat → List Nat → Prop} : xse (xFind tbX8_hoursIn 37) k = k (.iload_n 1) 1 0 0 [] := rfl
theorem tbX8_hoursIn_38 {k : Instr → Nat → Nat → Nat → List Nat → Prop} : xse (xFind tbX8_hoursIn 38) k = k (.iaload) 12 0 0 [] := rfl
theorem tbX8_hoursIn_39 {k : Instr → Nat → Nat → Nat → List Nat → Prop} : xse (xFind tbX8_hoursIn 39) k = k (.if_icmp .gt 7) 46 0 0 [] := rfl
theorem tbX8_hoursIn_42 {k : Instr → Nat → Nat → Nat → List Nat → Prop} : xse (xFind tbX8_hoursIn 42) k = k (.iconst 1) 0 0 0 [] := rfl
theorem tbX8_hoursIn_43 {k : Instr → Nat → Nat → Nat → List Nat → Prop} : xse (xFind tbX8_hoursIn 43) k = k (.goto 17) 60 0 0 [] := rfl
theorem tbX8_hoursIn_46 {k : Instr → Nat → Nat → Nat → List Nat → Prop} : xse (xFind tbX8_hoursIn 46) k = k (.aload_n 0) 0 0 0 [] := rfl
theorem tbX8_hoursIn_47 {k : Instr → Nat → Nat → Nat → List Nat → Prop} : xse (xFind tbX8_hoursIn 47) k = k (.getfield 38) 9 14 2 [] := rfl
theorem tbX8_hoursIn_50 {k : Instr → Nat → Nat → Nat → List Nat → Prop} : xse (xFind tbX8_hoursIn 50) k = k (.iload_n 1) 1 0 0 [] := rfl
theorem tbX8_hoursIn_51 {k : Instr → Nat → Nat → Nat → List Nat → Prop} : xse (xFind tbX8_hoursIn 51) k = k (.baload) 14 0 0 [] := rfl
theorem tbX8_hoursIn_52 {k : Instr → Nat → Nat → Nat → List Nat → Prop} : xse (xFind tbX8_hoursIn 52) k = k (.ifCond .eq 7) 59 0 0 [] := rfl
theorem tbX8_hoursIn_55 {k : Instr → Nat → Nat → Nat → List Nat → Prop} : xse (xFind tbX8_hoursIn 55) k = k (.iconst 2) 0 0 0 [] := rfl
theorem tbX8_hoursIn_56 {k : Instr → Nat → Nat → Nat → List Nat → Prop} : xse (xFind tbX8_hoursIn 56) k = k (.goto 4) 60 0 0 [] := rfl
theorem tbX8_hoursIn_59 {k : Instr → Nat → Nat → Nat → List Nat → Prop} : xse (xFind tbX8_hoursIn 59) k = k (.iconst 3) 0 0 0 [] := rfl
theorem tbX8_hoursIn_60 {k : Instr → Nat → Nat → Nat → List Nat → Prop} : xse (xFind tbX8_hoursIn 60) k = k (.istore 4) 4 0 0 [] := rfl
theorem tbX8_hoursIn_62 {k : Instr → Nat → Nat → Nat → List Nat → Prop} : xse (xFind tbX8_hoursIn 62) k = k (.iload 4) 4 0 0 [] := rfl
theorem tbX8_hoursIn_64 {k : Instr → Nat → Nat → Nat → List Nat → Prop} : xse (xFind tbX8_hoursIn 64) k = k (.aload_n 0) 0 0 0 [] := rfl
theorem tbX8_hoursIn_65 {k : Instr → Nat → Nat → Nat → List Nat → Prop} : xse (xFind tbX8_hoursIn 65) k = k (.getfield 17) 9 7 2 [] := rfl
theorem tbX8_hoursIn_68 {k : Instr → Nat → Nat → Nat → List Nat → Prop} : xse (xFind tbX8_hoursIn 68) k = k (.iload_n 1) 1 0 0 [] := rfl
theorem tbX8_hoursIn_69 {k : Instr → Nat → Nat → Nat → List Nat → Prop} : xse (xFind tbX8_hoursIn 69) k = k (.iaload) 7 0 0 [] := rfl
theorem tbX8_hoursIn_70 {k : Instr → Nat → Nat → Nat → List Nat → Prop} : xse (xFind tbX8_hoursIn 70) k = k (.iadd) 0 0 0 [] := rfl
theorem tbX8_hoursIn_71 {k : Instr → Nat → Nat → Nat → List Nat → Prop} : xse (xFind tbX8_hoursIn 71) k = k (.ireturn) 0 0 0 [] := rfl

def spX8_hoursIn (aM : Nat → Nat) : xSp mS := (fun av M => (0, 0), fun av M K => ∃ (s : Int32) (b : Int32) (up : Int32), av = [.ref (aM 0), .int s, .int b, .int up] ∧ ((up = 0 ∨ up = 1) ∧ (vp_in s 7 ∧ vp_in b 6 ∧ K (rI (mHrs M s b up)) M)))
theorem spcX8_hoursIn {av : List Value} {M : mS} {aM : Nat → Nat} : (spX8_hoursIn aM).1 av M = (0, 0) := rfl
theorem spwX8_hoursIn {M : mS} {aM : Nat → Nat} {K : xRes → mS → Prop} {s : Int32} {b : Int32} {up : Int32} : (spX8_hoursIn aM).2 [.ref (aM 0), .int s, .int b, .int up] M K = ((up = 0 ∨ up = 1) ∧ (vp_in s 7 ∧ vp_in b 6 ∧ K (rI (mHrs M s b up)) M)) :=
  propext ⟨fun h => by
    simp only [spX8_hoursIn] at h
    obtain ⟨_, _, _, e, h⟩ := h
    simp only [List.cons.injEq, Value.int.injEq, Value.ref.injEq, rf_eq, and_true, true_and] at e
    obtain ⟨rfl, rfl, rfl⟩ := e
    exact h, fun h => ⟨_, _, _, rfl, h⟩⟩

set_option maxHeartbeats 4000000 in
set_option maxRecDepth 20000 in
theorem semX8_hoursIn (l : Launch) (W9 : xWd) (aM : Nat → Nat) (hi : mInj aM) : xSem l W9 (mI aM) yX8_hoursIn wsX8_hoursIn 0 0 (spX8_hoursIn aM) := by
  refine xSem_of (call := fun _ => none) (thrf := fun _ => "") (mI_law hi) (by decide +kernel) rfl ckX8_hoursIn usX8_hoursIn xCallsOK_nil xThrOK_nil ?_ ?_
  · intro av M KF h
    obtain ⟨s, b, up, rfl, h⟩ := h
    exact ⟨by intro v hv; simp only [List.mem_cons, List.not_mem_nil, or_false] at hv; rcases hv with rfl | rfl | rfl | rfl <;> first | rfl | exact cat_rf, Nat.le_of_ble_eq_true rfl⟩
  intro av M KF h G hG
  obtain ⟨s, b, up, rfl, h⟩ := h
  rw [show (spX8_hoursIn aM).1 _ M = _ from spcX8_hoursIn] at hG
  try dsimp only at hG
  change G 0 [some (.ref (aM 0)), some (.int s), some (.int b), some (.int up), none] [] M 0 0
  obtain ⟨hu, h1, h2, h⟩ := h
  refine xgo0 hG (fun fu hfu => ?_)
  clear hG
  simp only [ki_1, ki_2, ki_3, ↓ma_12, ↓ma_14, ↓ma_42, ↓ma_5, ↓ma_7, ↓ma_9, ↓mg_12, ↓mg_14, ↓mg_42, ↓mg_5, ↓mg_7, ↓mg_9, ↓vm_aload_n, ↓vm_baload, ↓vm_getfield, ↓vm_goto, ↓vm_iadd, ↓vm_iaload, ↓vm_iconst, ↓vm_ifCond_eq, ↓vm_if_icmp_gt, ↓vm_iload, ↓vm_iload_n, ↓vm_imul, ↓vm_ireturn, ↓vm_istore, ↓tbX8_hoursIn_0, ↓tbX8_hoursIn_1, ↓tbX8_hoursIn_4, ↓tbX8_hoursIn_5, ↓tbX8_hoursIn_6, ↓tbX8_hoursIn_7, ↓tbX8_hoursIn_10, ↓tbX8_hoursIn_11, ↓tbX8_hoursIn_14, ↓tbX8_hoursIn_15, ↓tbX8_hoursIn_16, ↓tbX8_hoursIn_18, ↓tbX8_hoursIn_19, ↓tbX8_hoursIn_22, ↓tbX8_hoursIn_23, ↓tbX8_hoursIn_24, ↓tbX8_hoursIn_27, ↓tbX8_hoursIn_28, ↓tbX8_hoursIn_31, ↓tbX8_hoursIn_32, ↓tbX8_hoursIn_33, ↓tbX8_hoursIn_34, ↓tbX8_hoursIn_37, ↓tbX8_hoursIn_38, ↓tbX8_hoursIn_39, ↓tbX8_hoursIn_42, ↓tbX8_hoursIn_43, ↓tbX8_hoursIn_46, ↓tbX8_hoursIn_47, ↓tbX8_hoursIn_50, ↓tbX8_hoursIn_51, ↓tbX8_hoursIn_52, ↓tbX8_hoursIn_55, ↓tbX8_hoursIn_56, ↓tbX8_hoursIn_59, ↓tbX8_hoursIn_60, ↓tbX8_hoursIn_62, ↓tbX8_hoursIn_64, ↓tbX8_hoursIn_65, ↓tbX8_hoursIn_68, ↓tbX8_hoursIn_69, ↓tbX8_hoursIn_70, ↓tbX8_hoursIn_71, hfu, xstep0, xJ1_hit, xJ1_go, xJ2_hit1, xJ2_hit2, xJ2_go, ↓xif_t, ↓xif_f, seval, ↓xca_eq, ↓xre_l, ↓xre_r, xmask_t, xmask_f, xmask_nil, ↓xst_eq, xX_eq, eI_eq, eMc_eq, eMs_eq, eF_eq, eThr_eq, ↓xS1_mk, ↓xSI_mk, ↓xSR_mk, ↓xLI_0, ↓xLI_s, ↓xLR_0, ↓xLR_s, vRef_ref, vRef_null, vRef_rf, cat_int, cat_ref, cat_null, cat_rf, rf_some, rf_none, rf_null, rf_eq, rf_ref, ref_rf, ref_null, ref_ref, xOk_0, xOk_1, xOk_2r, xOk_2n, xOk_2f, vOpt_rf, vOpt_ref, vOpt_null, List.set_cons_zero, List.set_cons_succ, List.take_succ_cons, List.take_zero, List.drop_succ_cons, List.drop_zero, List.reverse_cons, List.reverse_nil, List.nil_append, List.cons_append, List.append_nil, List.length_cons, List.length_nil, List.map_cons, List.map_nil, List.sum_cons, List.sum_nil, Option.toList_some, Option.toList_none, xRecv_mk, true_and, and_true, true_implies, Nat.reduceAdd, Nat.reduceLeDiff, Nat.zero_le, Nat.le_refl, Nat.add_zero, Nat.zero_add, reduceIte, not_true_eq_false, not_false_eq_true, false_implies, and_self, implies_true, eq_self, Nat.reduceEqDiff, List.cons.injEq, xsn_1, xsn_2, false_and, and_false, or_false, false_or, or_true, true_or, xsn_3, xsn_4, h1, h2]
  try simp only [xif_e]
  grind [mHrs]

def tbX8_unfit : List (Nat × xHint) := [(0, .aload_n 0, 0, 0, 0, []), (1, .getfield 13, 9, 6, 2, []), (4, .iload_n 1, 1, 0, 0, []), (5, .iaload, 6, 0, 0, []), (6, .aload_n 0, 0, 0, 0, []), (7, .getfield 186, 9, 2, 0, []), (10, .iadd, 0, 0, 0, []), (11, .aload_n 0, 0, 0, 0, []), (12, .iload_n 2, 2, 0, 0, []), (13, .invokevirtual 278, 0, 2, 9, []), (16, .iconst 2, 0, 0, 0, []), (17, .iadd, 0, 0, 0, []), (18, .if_icmp .ge 5, 23, 0, 0, []), (21, .iconst 3, 0, 0, 0, []), (22, .ireturn, 0, 0, 0, []), (23, .aload_n 0, 0, 0, 0, []), (24, .getfield 7, 9, 5, 2, []), (27, .iload_n 1, 1, 0, 0, []), (28, .baload, 5, 0, 0, []), (29, .ifCond .eq 28, 57, 0, 0, []), (32, .aload_n 0, 0, 0, 0, []), (33, .getfield 116, 9, 42, 2, []), (36, .iload_n 2, 2, 0, 0, []), (37, .iaload, 42, 0, 0, []), (38, .iconst 2, 0, 0, 0, []), (39, .aload_n 0, 0, 0, 0, []), (40, .getfield 32, 9, 12, 2, []), (43, .iload_n 1, 1, 0, 0, []), (44, .iaload, 12, 0, 0, []), (45, .imul, 0, 0, 0, []), (46, .if_icmp .le 7, 53, 0, 0, []), (49, .iconst 1, 0, 0, 0, []), (50, .goto 26, 76, 0, 0, []), (53, .iconst 0, 0, 0, 0, []), (54, .goto 22, 76, 0, 0, []), (57, .aload_n 0, 0, 0, 0, []), (58, .iload_n 2, 2, 0, 0, []), (59, .invokevirtual 281, 1, 2, 9, []), (62, .aload_n 0, 0, 0, 0, []), (63, .getfield 26, 9, 10, 2, []), (66, .iload_n 1, 1, 0, 0, []), (67, .iaload, 10, 0, 0, []), (68, .if_icmp .le 7, 75, 0, 0, []), (71, .iconst 1, 0, 0, 0, []), (72, .goto 4, 76, 0, 0, []), (75, .iconst 0, 0, 0, 0, []), (76, .istore 4, 4, 0, 0, []), (78, .iload 4, 4, 0, 0, []), (80, .ifCond .eq 7, 87, 0, 0, []), (83, .iconst 4, 0, 0, 0, []), (84, .goto 39, 123, 0, 0, []), (87, .aload_n 0, 0, 0, 0, []), (88, .iload_n 2, 2, 0, 0, []), (89, .invokevirtual 284, 2, 2, 9, []), (92, .aload_n 0, 0, 0, 0, []), (93, .iload_n 2, 2, 0, 0, []), (94, .iload_n 3, 3, 0, 0, []), (95, .invokevirtual 287, 3, 3, 9, []), (98, .if_icmp .gt 20, 118, 0, 0, []), (101, .aload_n 0, 0, 0, 0, []), (102, .getfield 80, 9, 30, 2, []), (105, .iload_n 2, 2, 0, 0, []), (106, .iaload, 30, 0, 0, []), (107, .iconst 2, 0, 0, 0, []), (108, .aload_n 0, 0, 0, 0, []), (109, .getfield 17, 9, 7, 2, []), (112, .iload_n 1, 1, 0, 0, []), (113, .iaload, 7, 0, 0, []), (114, .imul, 0, 0, 0, []), (115, .if_icmp .ge 7, 122, 0, 0, []), (118, .iconst 5, 0, 0, 0, []), (119, .goto 4, 123, 0, 0, []), (122, .iconst 0, 0, 0, 0, []), (123, .ireturn, 0, 0, 0, [])]
def clX8_unfit : List (Instr × Nat × Nat × Nat) := [(.invokevirtual 278, 0, 2, 9), (.invokevirtual 281, 1, 2, 9), (.invokevirtual 284, 2, 2, 9), (.invokevirtual 287, 3, 3, 9)]
def thX8_unfit : List (Nat × Nat) := []
theorem ckX8_unfit : tbX8_unfit.all (xRow RX8 cX8_unfit wsX8_unfit vwCl [9] clX8_unfit thX8_unfit 5 (yX8_unfit.name == "<init>") (some .int)) = true := xRow_q 0xac030400a7080700a2682e1b1100b42a052e1c5000b42a1400a31f01b61d1c2a1c01b61c2a2700a70707009904150436030400a7040700a42e1b1a00b42a1901b61c2a1600a7031a00a7040700a4682e1b2000b42a052e1c7400b42a1c0099331b0700b42aac060500a260051601b61c2a60ba00b42a2e1b0d00b42a 124 (by decide +kernel) (by decide +kernel)
theorem usX8_unfit : xUse wsX8_unfit vwCl [9] = true := xUse_g rfl (lw_good lwl_X8_unfit lwl_X80 (by decide +kernel)) xUse_n
theorem tbX8_unfit_0 {k : Instr → Nat → Nat → Nat → List Nat → Prop} : xse (xFind tbX8_unfit 0) k = k (.aload_n 0) 0 0 0 [] := rfl
theorem tbX8_unfit_1 {k : Instr → Nat → Nat → Nat → List Nat → Prop} : xse (xFind tbX8_unfit 1) k = k (.getfield 13) 9 6 2 [] := rfl
theorem tbX8_unfit_4 {k : Instr → Nat → Nat → Nat → List Nat → Prop} : xse (xFind tbX8_unfit 4) k = k (.iload_n 1) 1 0 0 [] := rfl
theorem tbX8_unfit_5 {k : Instr → Nat → Nat → Nat → List Nat → Prop} : xse (xFind tbX8_unfit 5) k = k (.iaload) 6 0 0 [] := rfl
theorem tbX8_unfit_6 {k : Instr → Nat → Nat → Nat → List Nat → Prop} : xse (xFind tbX8_unfit 6) k = k (.aload_n 0) 0 0 0 [] := rfl
theorem tbX8_unfit_7 {k : Instr → Nat → Nat → Nat → List Nat → Prop} : xse (xFind tbX8_unfit 7) k = k (.getfield 186) 9 2 0 [] := rfl
theorem tbX8_unfit_10 {k : Instr → Nat → Nat → Nat → List Nat → Prop} : xse (xFind tbX8_unfit 10) k = k (.iadd) 0 0 0 [] := rfl
theorem tbX8_unfit_11 {k : Instr → Nat → Nat → Nat → List Nat → Prop} : xse (xFind tbX8_unfit 11) k = k (.aload_n 0) 0 0 0 [] := rfl
theorem tbX8_unfit_12 {k : Instr → Nat → Nat → Nat → List Nat → Prop} : xse (xFind tbX8_unfit 12) k = k (.iload_n 2) 2 0 0 [] := rfl
theorem tbX8_unfit_13 {k : Instr → Nat → Nat → Nat → List Nat → Prop} : xse (xFind tbX8_unfit 13) k = k (.invokevirtual 278) 0 2 9 [] := rfl
theorem tbX8_unfit_16 {k : Instr → Nat → Nat → Nat → List Nat → Prop} : xse (xFind tbX8_unfit 16) k = k (.iconst 2) 0 0 0 [] := rfl
theorem tbX8_unfit_17 {k : Instr → Nat → Nat → Nat → List Nat → Prop} : xse (xFind tbX8_unfit 17) k = k (.iadd) 0 0 0 [] := rfl
theorem tbX8_unfit_18 {k : Instr → Nat → Nat → Nat → List Nat → Prop} : xse (xFind tbX8_unfit 18) k = k (.if_icmp .ge 5) 23 0 0 [] := rfl
theorem tbX8_unfit_21 {k : Instr → Nat → Nat → Nat → List Nat → Prop} : xse (xFind tbX8_unfit 21) k = k (.iconst 3) 0 0 0 [] := rfl
theorem tbX8_unfit_22 {k : Instr → Nat → Nat → Nat → List Nat → Prop} : xse (xFind tbX8_unfit 22) k = k (.ireturn) 0 0 0 [] := rfl
theorem tbX8_unfit_23 {k : Instr → Nat → Nat → Nat → List Nat → Prop} : xse (xFind tbX8_unfit 23) k = k (.aload_n 0) 0 0 0 [] := rfl
theorem tbX8_unfit_24 {k : Instr → Nat → Nat → Nat → List Nat → Prop} : xse (xFind tbX8_unfit 24) k = k (.getfield 7) 9 5 2 [] := rfl
theorem tbX8_unfit_27 {k : Instr → Nat → Nat → Nat → List Nat → Prop} : xse (xFind tbX8_unfit 27) k = k (.iload_n 1) 1 0 0 [] := rfl
theorem tbX8_unfit_28 {k : Instr → Nat → Nat → Nat → List Nat → Prop} : xse (xFind tbX8_unfit 28) k = k (.baload) 5 0 0 [] := rfl
theorem tbX8_unfit_29 {k : Instr → Nat → Nat → Nat → List Nat → Prop} : xse (xFind tbX8_unfit 29) k = k (.ifCond .eq 28) 57 0 0 [] := rfl
theorem tbX8_unfit_32 {k : Instr → Nat → Nat → Nat → List Nat → Prop} : xse (xFind tbX8_unfit 32) k = k (.aload_n 0) 0 0 0 [] := rfl
theorem tbX8_unfit_33 {k : Instr → Nat → Nat → Nat → List Nat → Prop} : xse (xFind tbX8_unfit 33) k = k (.getfield 116) 9 42 2 [] := rfl
theorem tbX8_unfit_36 {k : Instr → Nat → Nat → Nat → List Nat → Prop} : xse (xFind tbX8_unfit 36) k = k (.iload_n 2) 2 0 0 [] := rfl
theorem tbX8_unfit_37 {k : Instr → Nat → Nat → Nat → List Nat → Prop} : xse (xFind tbX8_unfit 37) k = k (.iaload) 42 0 0 [] := rfl
theorem tbX8_unfit_38 {k : Instr → Nat → Nat → Nat → List Nat → Prop} : xse (xFind tbX8_unfit 38) k = k (.iconst 2) 0 0 0 [] := rfl
theorem tbX8_unfit_39 {k : Instr → Nat → Nat → Nat → List Nat → Prop} : xse (xFind tbX8_unfit 39) k = k (.aload_n 0) 0 0 0 [] := rfl
theorem tbX8_unfit_40 {k : Instr → Nat → Nat → Nat → List Nat → Prop} : xse (xFind tbX8_unfit 40) k = k (.getfield 32) 9 12 2 [] := rfl
theorem tbX8_unfit_43 {k : Instr → Nat → Nat → Nat → List Nat → Prop} : xse (xFind tbX8_unfit 43) k = k (.iload_n 1) 1 0 0 [] := rfl
theorem tbX8_unfit_44 {k : Instr → Nat → Nat → Nat → List Nat → Prop} : xse (xFind tbX8_unfit 44) k = k (.iaload) 12 0 0 [] := rfl
theorem tbX8_unfit_45 {k : Instr → Nat → Nat → Nat → List Nat → Prop} : xse (xFind tbX8_unfit 45) k = k (.imul) 0 0 0 [] := rfl
theorem tbX8_unfit_46 {k : Instr → Nat → Nat → Nat → List Nat → Prop} : xse (xFind tbX8_unfit 46) k = k (.if_icmp .le 7) 53 0 0 [] := rfl
theorem tbX8_unfit_49 {k : Instr → Nat → Nat → Nat → List Nat → Prop} : xse (xFind tbX8_unfit 49) k = k (.iconst 1) 0 0 0 [] := rfl
theorem tbX8_unfit_50 {k : Instr → Nat → Nat → Nat → List Nat → Prop} : xse (xFind tbX8_unfit 50) k = k (.goto 26) 76 0 0 [] := rfl
theorem tbX8_unfit_53 {k : Instr → Nat → Nat → Nat → List Nat → Prop} : xse (xFind tbX8_unfit 53) k = k (.iconst 0) 0 0 0 [] := rfl
theorem tbX8_unfit_54 {k : Instr → Nat → Nat → Nat → List Nat → Prop} : xse (xFind tbX8_unfit 54) k = k (.goto 22) 76 0 0 [] := rfl
theorem tbX8_unfit_57 {k : Instr → Nat → Nat → Nat → List Nat → Prop} : xse (xFind tbX8_unfit 57) k = k (.aload_n 0) 0 0 0 [] := rfl
theorem tbX8_unfit_58 {k : Instr → Nat → Nat → Nat → List Nat → Prop} : xse (xFind tbX8_unfit 58) k = k (.iload_n 2) 2 0 0 [] := rfl
theorem tbX8_unfit_59 {k : Instr → Nat → Nat → Nat → List Nat → Prop} : xse (xFind tbX8_unfit 59) k = k (.invokevirtual 281) 1 2 9 [] := rfl
theorem tbX8_unfit_62 {k : Instr → Nat → Nat → Nat → List Nat → Prop} : xse (xFind tbX8_unfit 62) k = k (.aload_n 0) 0 0 0 [] := rfl
theorem tbX8_unfit_63 {k : Instr → Nat → Nat → Nat → List Nat → Prop} : xse (xFind tbX8_unfit 63) k = k (.getfield 26) 9 10 2 [] := rfl
theorem tbX8_unfit_66 {k : Instr → Nat → Nat → Nat → List Nat → Prop} : xse (xFind tbX8_unfit 66) k = k (.iload_n 1) 1 0 0 [] := rfl
theorem tbX8_unfit_67 {k : Instr → Nat → Nat → Nat → List Nat → Prop} : xse (xFind tbX8_unfit 67) k = k (.iaload) 10 0 0 [] := rfl
theorem tbX8_unfit_68 {k : Instr → Nat → Nat → Nat → List Nat → Prop} : xse (xFind tbX8_unfit 68) k = k (.if_icmp .le 7) 75 0 0 [] := rfl
theorem tbX8_unfit_71 {k : Instr → Nat → Nat → Nat → List Nat → Prop} : xse (xFind tbX8_unfit 71) k = k (.iconst 1) 0 0 0 [] := rfl
theorem tbX8_unfit_72 {k : Instr → Nat → Nat → Nat → List Nat → Prop} : xse (xFind tbX8_unfit 72) k = k (.goto 4) 76 0 0 [] := rfl
theorem tbX8_unfit_75 {k : Instr → Nat → Nat → Nat → List Nat → Prop} : xse (xFind tbX8_unfit 75) k = k (.iconst 0) 0 0 0 [] := rfl
theorem tbX8_unfit_76 {k : Instr → Nat → Nat → Nat → List Nat → Prop} : xse (xFind tbX8_unfit 76) k = k (.istore 4) 4 0 0 [] := rfl
theorem tbX8_unfit_78 {k : Instr → Nat → Nat → Nat → List Nat → Prop} : xse (xFind tbX8_unfit 78) k = k (.iload 4) 4 0 0 [] := rfl
theorem tbX8_unfit_80 {k : Instr → Nat → Nat → Nat → List Nat → Prop} : xse (xFind tbX8_unfit 80) k = k (.ifCond .eq 7) 87 0 0 [] := rfl
theorem tbX8_unfit_83 {k : Instr → Nat → Nat → Nat → List Nat → Prop} : xse (xFind tbX8_unfit 83) k = k (.iconst 4) 0 0 0 [] := rfl
theorem tbX8_unfit_84 {k : Instr → Nat → Nat → Nat → List Nat → Prop} : xse (xFind tbX8_unfit 84) k = k (.goto 39) 123 0 0 [] := rfl
theorem tbX8_unfit_87 {k : Instr → Nat → Nat → Nat → List Nat → Prop} : xse (xFind tbX8_unfit 87) k = k (.aload_n 0) 0 0 0 [] := rfl
theorem tbX8_unfit_88 {k : Instr → Nat → Nat → Nat → List Nat → Prop} : xse (xFind tbX8_unfit 88) k = k (.iload_n 2) 2 0 0 [] := rfl
theorem tbX8_unfit_89 {k : Instr → Nat → Nat → Nat → List Nat → Prop} : xse (xFind tbX8_unfit 89) k = k (.invokevirtual 284) 2 2 9 [] := rfl
theorem tbX8_unfit_92 {k : Instr → Nat → Nat → Nat → List Nat → Prop} : xse (xFind tbX8_unfit 92) k = k (.aload_n 0) 0 0 0 [] := rfl
theorem tbX8_unfit_93 {k : Instr → Nat → Nat → Nat → List Nat → Prop} : xse (xFind tbX8_unfit 93) k = k (.iload_n 2) 2 0 0 [] := rfl
theorem tbX8_unfit_94 {k : Instr → Nat → Nat → Nat → List Nat → Prop} : xse (xFind tbX8_unfit 94) k = k (.iload_n 3) 3 0 0 [] := rfl
theorem tbX8_unfit_95 {k : Instr → Nat → Nat → Nat → List Nat → Prop} : xse (xFind tbX8_unfit 95) k = k (.invokevirtual 287) 3 3 9 [] := rfl
theorem tbX8_unfit_98 {k : Instr → Nat → Nat → Nat → List Nat → Prop} : xse (xFind tbX8_unfit 98) k = k (.if_icmp .gt 20) 118 0 0 [] := rfl
theorem tbX8_unfit_101 {k : Instr → Nat → Nat → Nat → List Nat → Prop} : xse (xFind tbX8_unfit 101) k = k (.aload_n 0) 0 0 0 [] := rfl
theorem tbX8_unfit_102 {k : Instr → Nat → Nat → Nat → List Nat → Prop} : xse (xFind tbX8_unfit 102) k = k (.getfield 80) 9 30 2 [] := rfl
theorem tbX8_unfit_105 {k : Instr → Nat → Nat → Nat → List Nat → Prop} : xse (xFind tbX8_unfit 105) k = k (.iload_n 2) 2 0 0 [] := rfl
theorem tbX8_unfit_106 {k : Instr → Nat → Nat → Nat → List Nat → Prop} : xse (xFind tbX8_unfit 106) k = k (.iaload) 30 0 0 [] := rfl
theorem tbX8_unfit_107 {k : Instr → Nat → Nat → Nat → List Nat → Prop} : xse (xFind tbX8_unfit 107) k = k (.iconst 2) 0 0 0 [] := rfl
theorem tbX8_unfit_108 {k : Instr → Nat → Nat → Nat → List Nat → Prop} : xse (xFind tbX8_unfit 108) k = k (.aload_n 0) 0 0 0 [] := rfl
theorem tbX8_unfit_109 {k : Instr → Nat → Nat → Nat → List Nat → Prop} : xse (xFind tbX8_unfit 109) k = k (.getfield 17) 9 7 2 [] := rfl
theorem tbX8_unfit_112 {k : Instr → Nat → Nat → Nat → List Nat → Prop} : xse (xFind tbX8_unfit 112) k = k (.iload_n 1) 1 0 0 [] := rfl
theorem tbX8_unfit_113 {k : Instr → Nat → Nat → Nat → List Nat → Prop} : xse (xFind tbX8_unfit 113) k = k (.iaload) 7 0 0 [] := rfl
theorem tbX8_unfit_114 {k : Instr → Nat → Nat → Nat → List Nat → Prop} : xse (xFind tbX8_unfit 114) k = k (.imul) 0 0 0 [] := rfl
theorem tbX8_unfit_115 {k : Instr → Nat → Nat → Nat → List Nat → Prop} : xse (xFind tbX8_unfit 115) k = k (.if_icmp .ge 7) 122 0 0 [] := rfl
theorem tbX8_unfit_118 {k : Instr → Nat → Nat → Nat → List Nat → Prop} : xse (xFind tbX8_unfit 118) k = k (.iconst 5) 0 0 0 [] := rfl
theorem tbX8_unfit_119 {k : Instr → Nat → Nat → Nat → List Nat → Prop} : xse (xFind tbX8_unfit 119) k = k (.goto 4) 123 0 0 [] := rfl
theorem tbX8_unfit_122 {k : Instr → Nat → Nat → Nat → List Nat → Prop} : xse (xFind tbX8_unfit 122) k = k (.iconst 0) 0 0 0 [] := rfl
theorem tbX8_unfit_123 {k : Instr → Nat → Nat → Nat → List Nat → Prop} : xse (xFind tbX8_unfit 123) k = k (.ireturn) 0 0 0 [] := rfl

def spX8_unfit (aM : Nat → Nat) : xSp mS := (fun av M => (0, 0), fun av M K => ∃ (s : Int32) (b : Int32) (up : Int32), av = [.ref (aM 0), .int s, .int b, .int up] ∧ ((up = 0 ∨ up = 1) ∧ (vp_in s 7 ∧ vp_in b 6 ∧ mTk M b.toNatClampNeg ∧ K (rI (mUnfit M s b up)) M)))
theorem spcX8_unfit {av : List Value} {M : mS} {aM : Nat → Nat} : (spX8_unfit aM).1 av M = (0, 0) := rfl
theorem spwX8_unfit {M : mS} {aM : Nat → Nat} {K : xRes → mS → Prop} {s : Int32} {b : Int32} {up : Int32} : (spX8_unfit aM).2 [.ref (aM 0), .int s, .int b, .int up] M K = ((up = 0 ∨ up = 1) ∧ (vp_in s 7 ∧ vp_in b 6 ∧ mTk M b.toNatClampNeg ∧ K (rI (mUnfit M s b up)) M)) :=
  propext ⟨fun h => by
    simp only [spX8_unfit] at h
    obtain ⟨_, _, _, e, h⟩ := h
    simp only [List.cons.injEq, Value.int.injEq, Value.ref.injEq, rf_eq, and_true, true_and] at e
    obtain ⟨rfl, rfl, rfl⟩ := e
    exact h, fun h => ⟨_, _, _, rfl, h⟩⟩

def callX8_unfit (aM : Nat → Nat) : Nat → Option (xSp mS) := fun n => match n with | 0 => some (spX8_draughtOf aM) | 1 => some (spX8_widthOf aM) | 2 => some (spX8_weightOf aM) | 3 => some (spX8_mostOf aM) | _ => none

theorem callX8_unfit_0 {aM : Nat → Nat} {k : xSp mS → Prop} : xcs (callX8_unfit aM 0) k = k (spX8_draughtOf aM) := rfl

theorem callX8_unfit_1 {aM : Nat → Nat} {k : xSp mS → Prop} : xcs (callX8_unfit aM 1) k = k (spX8_widthOf aM) := rfl

theorem callX8_unfit_2 {aM : Nat → Nat} {k : xSp mS → Prop} : xcs (callX8_unfit aM 2) k = k (spX8_weightOf aM) := rfl

theorem callX8_unfit_3 {aM : Nat → Nat} {k : xSp mS → Prop} : xcs (callX8_unfit aM 3) k = k (spX8_mostOf aM) := rfl

theorem crX8_unfit (l : Launch) (W9 : xWd) (aM : Nat → Nat) (hi : mInj aM) : xCallsOK l W9 (mI aM) (callX8_unfit aM) clX8_unfit RX8 wsX8_unfit 1 24 5 := by
  intro E A p e R s m args below meth c hI hF hL X
  exact List.forall_mem_cons.mpr ⟨⟨_, rfl, xCR_V X (by rw [hI]; exact (semX8_draughtOf l W9 aM hi)) gX8_unfit_X8_draughtOf rfl rfl (by decide +kernel) (by rw [hF, hL]; decide)⟩,
    List.forall_mem_cons.mpr ⟨⟨_, rfl, xCR_V X (by rw [hI]; exact (semX8_widthOf l W9 aM hi)) gX8_unfit_X8_widthOf rfl rfl (by decide +kernel) (by rw [hF, hL]; decide)⟩,
    List.forall_mem_cons.mpr ⟨⟨_, rfl, xCR_V X (by rw [hI]; exact (semX8_weightOf l W9 aM hi)) gX8_unfit_X8_weightOf rfl rfl (by decide +kernel) (by rw [hF, hL]; decide)⟩,
    List.forall_mem_cons.mpr ⟨⟨_, rfl, xCR_V X (by rw [hI]; exact (semX8_mostOf l W9 aM hi)) gX8_unfit_X8_mostOf rfl rfl (by decide +kernel) (by rw [hF, hL]; decide)⟩,
    fun _ h => nomatch h⟩⟩⟩⟩

set_option maxHeartbeats 4000000 in
set_option maxRecDepth 20000 in
theorem semX8_unfit (l : Launch) (W9 : xWd) (aM : Nat → Nat) (hi : mInj aM) : xSem l W9 (mI aM) yX8_unfit wsX8_unfit 1 24 (spX8_unfit aM) := by
  refine xSem_of (call := callX8_unfit aM) (thrf := fun _ => "") (mI_law hi) (by decide +kernel) rfl ckX8_unfit usX8_unfit (crX8_unfit l W9 aM hi) xThrOK_nil ?_ ?_
  · intro av M KF h
    obtain ⟨s, b, up, rfl, h⟩ := h
    exact ⟨by intro v hv; simp only [List.mem_cons, List.not_mem_nil, or_false] at hv; rcases hv with rfl | rfl | rfl | rfl <;> first | rfl | exact cat_rf, Nat.le_of_ble_eq_true rfl⟩
  intro av M KF h G hG
  obtain ⟨s, b, up, rfl, h⟩ := h
  rw [show (spX8_unfit aM).1 _ M = _ from spcX8_unfit] at hG
  try dsimp only at hG
  change G 0 [some (.ref (aM 0)), some (.int s), some (.int b), some (.int up), none] [] M 0 0
  obtain ⟨hu, h1, h2, h3, h⟩ := h
  refine xgo0 hG (fun fu hfu => ?_)
  clear hG
  simp only [↓callX8_unfit_0, ↓callX8_unfit_1, ↓callX8_unfit_2, ↓callX8_unfit_3, ki_0, ki_1, ki_2, ki_3, ki_4, ki_5, ↓ma_10, ↓ma_12, ↓ma_30, ↓ma_42, ↓ma_5, ↓ma_6, ↓ma_7, ↓mg_10, ↓mg_12, ↓mg_2, ↓mg_30, ↓mg_42, ↓mg_5, ↓mg_6, ↓mg_7, misa, ↓vm_aload_n, ↓vm_baload, ↓vm_getfield, ↓vm_goto, ↓vm_iadd, ↓vm_iaload, ↓vm_iconst, ↓vm_ifCond_eq, ↓vm_if_icmp_ge, ↓vm_if_icmp_gt, ↓vm_if_icmp_le, ↓vm_iload, ↓vm_iload_n, ↓vm_imul, ↓vm_invokevirtual, ↓vm_ireturn, ↓vm_istore, ↓xc_2, ↓xc_3, ↓tbX8_unfit_0, ↓tbX8_unfit_1, ↓tbX8_unfit_4, ↓tbX8_unfit_5, ↓tbX8_unfit_6, ↓tbX8_unfit_7, ↓tbX8_unfit_10, ↓tbX8_unfit_11, ↓tbX8_unfit_12, ↓tbX8_unfit_13, ↓tbX8_unfit_16, ↓tbX8_unfit_17, ↓tbX8_unfit_18, ↓tbX8_unfit_21, ↓tbX8_unfit_22, ↓tbX8_unfit_23, ↓tbX8_unfit_24, ↓tbX8_unfit_27, ↓tbX8_unfit_28, ↓tbX8_unfit_29, ↓tbX8_unfit_32, ↓tbX8_unfit_33, ↓tbX8_unfit_36, ↓tbX8_unfit_37, ↓tbX8_unfit_38, ↓tbX8_unfit_39, ↓tbX8_unfit_40, ↓tbX8_unfit_43, ↓tbX8_unfit_44, ↓tbX8_unfit_45, ↓tbX8_unfit_46, ↓tbX8_unfit_49, ↓tbX8_unfit_50, ↓tbX8_unfit_53, ↓tbX8_unfit_54, ↓tbX8_unfit_57, ↓tbX8_unfit_58, ↓tbX8_unfit_59, ↓tbX8_unfit_62, ↓tbX8_unfit_63, ↓tbX8_unfit_66, ↓tbX8_unfit_67, ↓tbX8_unfit_68, ↓tbX8_unfit_71, ↓tbX8_unfit_72, ↓tbX8_unfit_75, ↓tbX8_unfit_76, ↓tbX8_unfit_78, ↓tbX8_unfit_80, ↓tbX8_unfit_83, ↓tbX8_unfit_84, ↓tbX8_unfit_87, ↓tbX8_unfit_88, ↓tbX8_unfit_89, ↓tbX8_unfit_92, ↓tbX8_unfit_93, ↓tbX8_unfit_94, ↓tbX8_unfit_95, ↓tbX8_unfit_98, ↓tbX8_unfit_101, ↓tbX8_unfit_102, ↓tbX8_unfit_105, ↓tbX8_unfit_106, ↓tbX8_unfit_107, ↓tbX8_unfit_108, ↓tbX8_unfit_109, ↓tbX8_unfit_112, ↓tbX8_unfit_113, ↓tbX8_unfit_114, ↓tbX8_unfit_115, ↓tbX8_unfit_118, ↓tbX8_unfit_119, ↓tbX8_unfit_122, ↓tbX8_unfit_123, hfu, xstep0, xJ1_hit, xJ1_go, xJ2_hit1, xJ2_hit2, xJ2_go, ↓xif_t, ↓xif_f, seval, ↓xca_eq, ↓xre_l, ↓xre_r, xmask_t, xmask_f, xmask_nil, ↓xst_eq, xX_eq, eI_eq, eMc_eq, eMs_eq, eF_eq, eThr_eq, ↓xS1_mk, ↓xSI_mk, ↓xSR_mk, ↓xLI_0, ↓xLI_s, ↓xLR_0, ↓xLR_s, vRef_ref, vRef_null, vRef_rf, cat_int, cat_ref, cat_null, cat_rf, rf_some, rf_none, rf_null, rf_eq, rf_ref, ref_rf, ref_null, ref_ref, xOk_0, xOk_1, xOk_2r, xOk_2n, xOk_2f, vOpt_rf, vOpt_ref, vOpt_null, List.set_cons_zero, List.set_cons_succ, List.take_succ_cons, List.take_zero, List.drop_succ_cons, List.drop_zero, List.reverse_cons, List.reverse_nil, List.nil_append, List.cons_append, List.append_nil, List.length_cons, List.length_nil, List.map_cons, List.map_nil, List.sum_cons, List.sum_nil, Option.toList_some, Option.toList_none, xRecv_mk, true_and, and_true, true_implies, Nat.reduceAdd, Nat.reduceLeDiff, Nat.zero_le, Nat.le_refl, Nat.add_zero, Nat.zero_add, reduceIte, not_true_eq_false, not_false_eq_true, false_implies, and_self, implies_true, eq_self, Nat.reduceEqDiff, List.cons.injEq, xsn_1, xsn_2, false_and, and_false, or_false, false_or, or_true, true_or, xsn_3, xsn_4, h1, h2, h3, hu, ↓spwX8_draughtOf, spcX8_draughtOf, ↓spwX8_widthOf, spcX8_widthOf, ↓spwX8_weightOf, spcX8_weightOf, ↓spwX8_mostOf, spcX8_mostOf]
  try simp only [xif_e]
  grind [mUnfit]

theorem mUp_01 (M : mS) (b : Int32) : mUp M b = 0 ∨ mUp M b = 1 := bi_01 _
theorem mUp_bi (M : mS) (b : Int32) : bi (M.2 37 b.toNatClampNeg > M.2 33 b.toNatClampNeg) = mUp M b := rfl

def tbX8_early : List (Nat × xHint) := [(0, .aload_n 0, 0, 0, 0, []), (1, .iload_n 1, 1, 0, 0, []), (2, .invokevirtual 294, 0, 2, 9, []), (5, .istore_n 2, 2, 0, 0, []), (6, .aload_n 0, 0, 0, 0, []), (7, .getfield 7, 9, 5, 2, []), (10, .iload_n 2, 2, 0, 0, []), (11, .baload, 5, 0, 0, []), (12, .ifCond .ne 16, 28, 0, 0, []), (15, .aload_n 0, 0, 0, 0, []), (16, .getfield 29, 9, 11, 2, []), (19, .iload_n 2, 2, 0, 0, []), (20, .baload, 11, 0, 0, []), (21, .ifCond .eq 7, 28, 0, 0, []), (24, .iconst 1, 0, 0, 0, []), (25, .goto 4, 29, 0, 0, []), (28, .iconst 0, 0, 0, 0, []), (29, .istore_n 3, 3, 0, 0, []), (30, .aload_n 0, 0, 0, 0, []), (31, .getfield 107, 9, 39, 2, []), (34, .iload_n 1, 1, 0, 0, []), (35, .iaload, 39, 0, 0, []), (36, .ifCond .le 5, 41, 0, 0, []), (39, .iconst 1, 0, 0, 0, []), (40, .ireturn, 0, 0, 0, []), (41, .aload_n 0, 0, 0, 0, []), (42, .getfield 20, 9, 8, 2, []), (45, .iload_n 2, 2, 0, 0, []), (46, .baload, 8, 0, 0, []), (47, .ifCond .ne 22, 69, 0, 0, []), (50, .aload_n 0, 0, 0, 0, []), (51, .getfield 192, 9, 4, 1, []), (54, .ifCond .eq 17, 71, 0, 0, []), (57, .aload_n 0, 0, 0, 0, []), (58, .iload_n 1, 1, 0, 0, []), (59, .invokevirtual 291, 1, 2, 9, []), (62, .ifCond .ne 9, 71, 0, 0, []), (65, .iload_n 3, 3, 0, 0, []), (66, .ifCond .eq 5, 71, 0, 0, []), (69, .iconst 2, 0, 0, 0, []), (70, .ireturn, 0, 0, 0, []), (71, .aload_n 0, 0, 0, 0, []), (72, .iload_n 2, 2, 0, 0, []), (73, .iload_n 1, 1, 0, 0, []), (74, .aload_n 0, 0, 0, 0, []), (75, .iload_n 1, 1, 0, 0, []), (76, .invokevirtual 291, 1, 2, 9, []), (79, .invokevirtual 297, 2, 4, 9, []), (82, .istore 4, 4, 0, 0, []), (84, .iload 4, 4, 0, 0, []), (86, .ifCond .le 8, 94, 0, 0, []), (89, .iload 4, 4, 0, 0, []), (91, .goto 36, 127, 0, 0, []), (94, .aload_n 0, 0, 0, 0, []), (95, .getfield 86, 9, 32, 2, []), (98, .iload_n 1, 1, 0, 0, []), (99, .iaload, 32, 0, 0, []), (100, .aload_n 0, 0, 0, 0, []), (101, .getfield 80, 9, 30, 2, []), (104, .iload_n 1, 1, 0, 0, []), (105, .iaload, 30, 0, 0, []), (106, .aload_n 0, 0, 0, 0, []), (107, .iload_n 2, 2, 0, 0, []), (108, .iload_n 1, 1, 0, 0, []), (109, .aload_n 0, 0, 0, 0, []), (110, .iload_n 1, 1, 0, 0, []), (111, .invokevirtual 291, 1, 2, 9, []), (114, .invokevirtual 301, 3, 4, 9, []), (117, .imul, 0, 0, 0, []), (118, .if_icmp .ge 8, 126, 0, 0, []), (121, .bipush 6, 0, 0, 0, []), (123, .goto 4, 127, 0, 0, []), (126, .iconst 0, 0, 0, 0, []), (127, .ireturn, 0, 0, 0, [])]
def clX8_early : List (Instr × Nat × Nat × Nat) := [(.invokevirtual 294, 0, 2, 9), (.invokevirtual 291, 1, 2, 9), (.invokevirtual 297, 2, 4, 9), (.invokevirtual 301, 3, 4, 9)]
def thX8_early : List (Nat × Nat) := []
theorem ckX8_early : tbX8_early.all (xRow RX8 cX8_early wsX8_early vwCl [9] clX8_early thX8_early 5 (yX8_early.name == "<init>") (some .int)) = true := xRow_q 0xac030400a706100800a2682d01b62301b61b2a1b1c2a2e1b5000b42a2e1b5600b42a2400a7041508009e041504362901b62301b61b2a1b1c2aac050500991d09009a2301b61b2a110099c000b42a16009a331c1400b42aac0405009e2e1b6b00b42a3e030400a704070099331c1d00b42a10009a331c0700b42a3d2601b61b2a 128 (by decide +kernel) (by decide +kernel)
theorem usX8_early : xUse wsX8_early vwCl [9] = true := xUse_g rfl (lw_good lwl_X8_early lwl_X80 (by decide +kernel)) xUse_n
theorem tbX8_early_0 {k : Instr → Nat → Nat → Nat → List Nat → Prop} : xse (xFind tbX8_early 0) k = k (.aload_n 0) 0 0 0 [] := rfl
theorem tbX8_early_1 {k : Instr → Nat → Nat → Nat → List Nat → Prop} : xse (xFind tbX8_early 1) k = k (.iload_n 1) 1 0 0 [] := rfl
theorem tbX8_early_2 {k : Instr → Nat → Nat → Nat → List Nat → Prop} : xse (xFind tbX8_early 2) k = k (.invokevirtual 294) 0 2 9 [] := rfl
theorem tbX8_early_5 {k : Instr → Nat → Nat → Nat → List Nat → Prop} : xse (xFind tbX8_early 5) k = k (.istore_n 2) 2 0 0 [] := rfl
theorem tbX8_early_6 {k : Instr → Nat → Nat → Nat → List Nat → Prop} : xse (xFind tbX8_early 6) k = k (.aload_n 0) 0 0 0 [] := rfl
theorem tbX8_early_7 {k : Instr → Nat → Nat → Nat → List Nat → Prop} : xse (xFind tbX8_early 7) k = k (.getfield 7) 9 5 2 [] := rfl
theorem tbX8_early_10 {k : Instr → Nat → Nat → Nat → List Nat → Prop} : xse (xFind tbX8_early 10) k = k (.iload_n 2) 2 0 0 [] := rfl
theorem tbX8_early_11 {k : Instr → Nat → Nat → Nat → List Nat → Prop} : xse (xFind tbX8_early 11) k = k (.baload) 5 0 0 [] := rfl
theorem tbX8_early_12 {k : Instr → Nat → Nat → Nat → List Nat → Prop} : xse (xFind tbX8_early 12) k = k (.ifCond .ne 16) 28 0 0 [] := rfl
theorem tbX8_early_15 {k : Instr → Nat → Nat → Nat → List Nat → Prop} : xse (xFind tbX8_early 15) k = k (.aload_n 0) 0 0 0 [] := rfl
theorem tbX8_early_16 {k : Instr → Nat → Nat → Nat → List Nat → Prop} : xse (xFind tbX8_early 16) k = k (.getfield 29) 9 11 2 [] := rfl
theorem tbX8_early_19 {k : Instr → Nat → Nat → Nat → List Nat → Prop} : xse (xFind tbX8_early 19) k = k (.iload_n 2) 2 0 0 [] := rfl
theorem tbX8_early_20 {k : Instr → Nat → Nat → Nat → List Nat → Prop} : xse (xFind tbX8_early 20) k = k (.baload) 11 0 0 [] := rfl
theorem tbX8_early_21 {k : Instr → Nat → Nat → Nat → List Nat → Prop} : xse (xFind tbX8_early 21) k = k (.ifCond .eq 7) 28 0 0 [] := rfl
theorem tbX8_early_24 {k : Instr → Nat → Nat → Nat → List Nat → Prop} : xse (xFind tbX8_early 24) k = k (.iconst 1) 0 0 0 [] := rfl
theorem tbX8_early_25 {k : Instr → Nat → Nat → Nat → List Nat → Prop} : xse (xFind tbX8_early 25) k = k (.goto 4) 29 0 0 [] := rfl
theorem tbX8_early_28 {k : Instr → Nat → Nat → Nat → List Nat → Prop} : xse (xFind tbX8_early 28) k = k (.iconst 0) 0 0 0 [] := rfl
theorem tbX8_early_29 {k : Instr → Nat → Nat → Nat → List Nat → Prop} : xse (xFind tbX8_early 29) k = k (.istore_n 3) 3 0 0 [] := rfl
theorem tbX8_early_30 {k : Instr → Nat → Nat → Nat → List Nat → Prop} : xse (xFind tbX8_early 30) k = k (.aload_n 0) 0 0 0 [] := rfl
theorem tbX8_early_31 {k : Instr → Nat → Nat → Nat → List Nat → Prop} : xse (xFind tbX8_early 31) k = k (.getfield 107) 9 39 2 [] := rfl
theorem tbX8_early_34 {k : Instr → Nat → Nat → Nat → List Nat → Prop} : xse (xFind tbX8_early 34) k = k (.iload_n 1) 1 0 0 [] := rfl
theorem tbX8_early_35 {k : Instr → Nat → Nat → Nat → List Nat → Prop} : xse (xFind tbX8_early 35) k = k (.iaload) 39 0 0 [] := rfl
theorem tbX8_early_36 {k : Instr → Nat → Nat → Nat → List Nat → Prop} : xse (xFind tbX8_early 36) k = k (.ifCond .le 5) 41 0 0 [] := rfl
theorem tbX8_early_39 {k : Instr → Nat → Nat → Nat → List Nat → Prop} : xse (xFind tbX8_early 39) k = k (.iconst 1) 0 0 0 [] := rfl
theorem tbX8_early_40 {k : Instr → Nat → Nat → Nat → List Nat → Prop} : xse (xFind tbX8_early 40) k = k (.ireturn) 0 0 0 [] := rfl
theorem tbX8_early_41 {k : Instr → Nat → Nat → Nat → List Nat → Prop} : xse (xFind tbX8_early 41) k = k (.aload_n 0) 0 0 0 [] := rfl
theorem tbX8_early_42 {k : Instr → Nat → Nat → Nat → List Nat → Prop} : xse (xFind tbX8_early 42) k = k (.getfield 20) 9 8 2 [] := rfl
theorem tbX8_early_45 {k : Instr → Nat → Nat → Nat → List Nat → Prop} : xse (xFind tbX8_early 45) k = k (.iload_n 2) 2 0 0 [] := rfl
theorem tbX8_early_46 {k : Instr → Nat → Nat → Nat → List Nat → Prop} : xse (xFind tbX8_early 46) k = k (.baload) 8 0 0 [] := rfl
theorem tbX8_early_47 {k : Instr → Nat → Nat → Nat → List Nat → Prop} : xse (xFind tbX8_early 47) k = k (.ifCond .ne 22) 69 0 0 [] := rfl
theorem tbX8_early_50 {k : Instr → Nat → Nat → Nat → List Nat → Prop} : xse (xFind tbX8_early 50) k = k (.aload_n 0) 0 0 0 [] := rfl
theorem tbX8_early_51 {k : Instr → Nat → Nat → Nat → List Nat → Prop} : xse (xFind tbX8_early 51) k = k (.getfield 192) 9 4 1 [] := rfl
theorem tbX8_early_54 {k : Instr → Nat → Nat → Nat → List Nat → Prop} : xse (xFind tbX8_early 54) k = k (.ifCond .eq 17) 71 0 0 [] := rfl
theorem tbX8_early_57 {k : Instr → Nat → Nat → Nat → List Nat → Prop} : xse (xFind tbX8_early 57) k = k (.aload_n 0) 0 0 0 [] := rfl
theorem tbX8_early_58 {k : Instr → Nat → Nat → Nat → List Nat → Prop} : xse (xFind tbX8_early 58) k = k (.iload_n 1) 1 0 0 [] := rfl
theorem tbX8_early_59 {k : Instr → Nat → Nat → Nat → List Nat → Prop} : xse (xFind tbX8_early 59) k = k (.invokevirtual 291) 1 2 9 [] := rfl
theorem tbX8_early_62 {k : Instr → Nat → Nat → Nat → List Nat → Prop} : xse (xFind tbX8_early 62) k = k (.ifCond .ne 9) 71 0 0 [] := rfl
theorem tbX8_early_65 {k : Instr → Nat → Nat → Nat → List Nat → Prop} : xse (xFind tbX8_early 65) k = k (.iload_n 3) 3 0 0 [] := rfl
theorem tbX8_early_66 {k : Instr → Nat → Nat → Nat → List Nat → Prop} : xse (xFind tbX8_early 66) k = k (.ifCond .eq 5) 71 0 0 [] := rfl
theorem tbX8_early_69 {k : Instr → Nat → Nat → Nat → List Nat → Prop} : xse (xFind tbX8_early 69) k = k (.iconst 2) 0 0 0 [] := rfl
theorem tbX8_early_70 {k : Instr → Nat → Nat → Nat → List Nat → Prop} : xse (xFind tbX8_early 70) k = k (.ireturn) 0 0 0 [] := rfl
theorem tbX8_early_71 {k : Instr → Nat → Nat → Nat → List Nat → Prop} : xse (xFind tbX8_early 71) k = k (.aload_n 0) 0 0 0 [] := rfl
theorem tbX8_early_72 {k : Instr → Nat → Nat → Nat → List Nat → Prop} : xse (xFind tbX8_early 72) k = k (.iload_n 2) 2 0 0 [] := rfl
theorem tbX8_early_73 {k : Instr → Nat → Nat → Nat → List Nat → Prop} : xse (xFind tbX8_early 73) k = k (.iload_n 1) 1 0 0 [] := rfl
theorem tbX8_early_74 {k : Instr → Nat → Nat → Nat → List Nat → Prop} : xse (xFind tbX8_early 74) k = k (.aload_n 0) 0 0 0 [] := rfl
theorem tbX8_early_75 {k : Instr → Nat → Nat → Nat → List Nat → Prop} : xse (xFind tbX8_early 75) k = k (.iload_n 1) 1 0 0 [] := rfl
theorem tbX8_early_76 {k : Instr → Nat → Nat → Nat → List Nat → Prop} : xse (xFind tbX8_early 76) k = k (.invokevirtual 291) 1 2 9 [] := rfl
theorem tbX8_early_79 {k : Instr → Nat → Nat → Nat → List Nat → Prop} : xse (xFind tbX8_early 79) k = k (.invokevirtual 297) 2 4 9 [] := rfl
theorem tbX8_early_82 {k : Instr → Nat → Nat → Nat → List Nat → Prop} : xse (xFind tbX8_early 82) k = k (.istore 4) 4 0 0 [] := rfl
theorem tbX8_early_84 {k : Instr → Nat → Nat → Nat → List Nat → Prop} : xse (xFind tbX8_early 84) k = k (.iload 4) 4 0 0 [] := rfl
theorem tbX8_early_86 {k : Instr → Nat → Nat → Nat → List Nat → Prop} : xse (xFind tbX8_early 86) k = k (.ifCond .le 8) 94 0 0 [] := rfl
theorem tbX8_early_89 {k : Instr → Nat → Nat → Nat → List Nat → Prop} : xse (xFind tbX8_early 89) k = k (.iload 4) 4 0 0 [] := rfl
theorem tbX8_early_91 {k : Instr → Nat → Nat → Nat → List Nat → Prop} : xse (xFind tbX8_early 91) k = k (.goto 36) 127 0 0 [] := rfl
theorem tbX8_early_94 {k : Instr → Nat → Nat → Nat → List Nat → Prop} : xse (xFind tbX8_early 94) k = k (.aload_n 0) 0 0 0 [] := rfl
theorem tbX8_early_95 {k : Instr → Nat → Nat → Nat → List Nat → Prop} : xse (xFind tbX8_early 95) k = k (.getfield 86) 9 32 2 [] := rfl
theorem tbX8_early_98 {k : Instr → Nat → Nat → Nat → List Nat → Prop} : xse (xFind tbX8_early 98) k = k (.iload_n 1) 1 0 0 [] := rfl
theorem tbX8_early_99 {k : Instr → Nat → Nat → Nat → List Nat → Prop} : xse (xFind tbX8_early 99) k = k (.iaload) 32 0 0 [] := rfl
theorem tbX8_early_100 {k : Instr → Nat → Nat → Nat → List Nat → Prop} : xse (xFind tbX8_early 100) k = k (.aload_n 0) 0 0 0 [] := rfl
theorem tbX8_early_101 {k : Instr → Nat → Nat → Nat → List Nat → Prop} : xse (xFind tbX8_early 101) k = k (.getfield 80) 9 30 2 [] := rfl
theorem tbX8_early_104 {k : Instr → Nat → Nat → Nat → List Nat → Prop} : xse (xFind tbX8_early 104) k = k (.iload_n 1) 1 0 0 [] := rfl
theorem tbX8_early_105 {k : Instr → Nat → Nat → Nat → List Nat → Prop} : xse (xFind tbX8_early 105) k = k (.iaload) 30 0 0 [] := rfl
theorem tbX8_early_106 {k : Instr → Nat → Nat → Nat → List Nat → Prop} : xse (xFind tbX8_early 106) k = k (.aload_n 0) 0 0 0 [] := rfl
theorem tbX8_early_107 {k : Instr → Nat → Nat → Nat → List Nat → Prop} : xse (xFind tbX8_early 107) k = k (.iload_n 2) 2 0 0 [] := rfl
theorem tbX8_early_108 {k : Instr → Nat → Nat → Nat → List Nat → Prop} : xse (xFind tbX8_early 108) k = k (.iload_n 1) 1 0 0 [] := rfl
theorem tbX8_early_109 {k : Instr → Nat → Nat → Nat → List Nat → Prop} : xse (xFind tbX8_early 109) k = k (.aload_n 0) 0 0 0 [] := rfl
theorem tbX8_early_110 {k : Instr → Nat → Nat → Nat → List Nat → Prop} : xse (xFind tbX8_early 110) k = k (.iload_n 1) 1 0 0 [] := rfl
theorem tbX8_early_111 {k : Instr → Nat → Nat → Nat → List Nat → Prop} : xse (xFind tbX8_early 111) k = k (.invokevirtual 291) 1 2 9 [] := rfl
theorem tbX8_early_114 {k : Instr → Nat → Nat → Nat → List Nat → Prop} : xse (xFind tbX8_early 114) k = k (.invokevirtual 301) 3 4 9 [] := rfl
theorem tbX8_early_117 {k : Instr → Nat → Nat → Nat → List Nat → Prop} : xse (xFind tbX8_early 117) k = k (.imul) 0 0 0 [] := rfl
theorem tbX8_early_118 {k : Instr → Nat → Nat → Nat → List Nat → Prop} : xse (xFind tbX8_early 118) k = k (.if_icmp .ge 8) 126 0 0 [] := rfl
theorem tbX8_early_121 {k : Instr → Nat → Nat → Nat → List Nat → Prop} : xse (xFind tbX8_early 121) k = k (.bipush 6) 0 0 0 [] := rfl
theorem tbX8_early_123 {k : Instr → Nat → Nat → Nat → List Nat → Prop} : xse (xFind tbX8_early 123) k = k (.goto 4) 127 0 0 [] := rfl
theorem tbX8_early_126 {k : Instr → Nat → Nat → Nat → List Nat → Prop} : xse (xFind tbX8_early 126) k = k (.iconst 0) 0 0 0 [] := rfl
theorem tbX8_early_127 {k : Instr → Nat → Nat → Nat → List Nat → Prop} : xse (xFind tbX8_early 127) k = k (.ireturn) 0 0 0 [] := rfl

def spX8_early (aM : Nat → Nat) : xSp mS := (fun av M => (0, 0), fun av M K => ∃ (b : Int32), av = [.ref (aM 0), .int b] ∧ (vp_in b 6 ∧ mTk M b.toNatClampNeg ∧ vp_in (mNext M b) 7 ∧ K (rI (mEarly M b)) M))
theorem spcX8_early {av : List Value} {M : mS} {aM : Nat → Nat} : (spX8_early aM).1 av M = (0, 0) := rfl
theorem spwX8_early {M : mS} {aM : Nat → Nat} {K : xRes → mS → Prop} {b : Int32} : (spX8_early aM).2 [.ref (aM 0), .int b] M K = (vp_in b 6 ∧ mTk M b.toNatClampNeg ∧ vp_in (mNext M b) 7 ∧ K (rI (mEarly M b)) M) :=
  propext ⟨fun h => by
    simp only [spX8_early] at h
    obtain ⟨_, e, h⟩ := h
    simp only [List.cons.injEq, Value.int.injEq, Value.ref.injEq, rf_eq, and_true, true_and] at e
    obtain rfl := e
    exact h, fun h => ⟨_, rfl, h⟩⟩

def callX8_early (aM : Nat → Nat) : Nat → Option (xSp mS) := fun n => match n with | 0 => some (spX8_nextOf aM) | 1 => some (spX8_isUp aM) | 2 => some (spX8_unfit aM) | 3 => some (spX8_hoursIn aM) | _ => none

theorem callX8_early_0 {aM : Nat → Nat} {k : xSp mS → Prop} : xcs (callX8_early aM 0) k = k (spX8_nextOf aM) := rfl

theorem callX8_early_1 {aM : Nat → Nat} {k : xSp mS → Prop} : xcs (callX8_early aM 1) k = k (spX8_isUp aM) := rfl

theorem callX8_early_2 {aM : Nat → Nat} {k : xSp mS → Prop} : xcs (callX8_early aM 2) k = k (spX8_unfit aM) := rfl

theorem callX8_early_3 {aM : Nat → Nat} {k : xSp mS → Prop} : xcs (callX8_early aM 3) k = k (spX8_hoursIn aM) := rfl

theorem crX8_early (l : Launch) (W9 : xWd) (aM : Nat → Nat) (hi : mInj aM) : xCallsOK l W9 (mI aM) (callX8_early aM) clX8_early RX8 wsX8_early 2 48 5 := by
  intro E A p e R s m args below meth c hI hF hL X
  exact List.forall_mem_cons.mpr ⟨⟨_, rfl, xCR_V X (by rw [hI]; exact (semX8_nextOf l W9 aM hi)) gX8_early_X8_nextOf rfl rfl (by decide +kernel) (by rw [hF, hL]; decide)⟩,
    List.forall_mem_cons.mpr ⟨⟨_, rfl, xCR_V X (by rw [hI]; exact (semX8_isUp l W9 aM hi)) gX8_early_X8_isUp rfl rfl (by decide +kernel) (by rw [hF, hL]; decide)⟩,
    List.forall_mem_cons.mpr ⟨⟨_, rfl, xCR_V X (by rw [hI]; exact (semX8_unfit l W9 aM hi)) gX8_early_X8_unfit rfl rfl (by decide +kernel) (by rw [hF, hL]; decide)⟩,
    List.forall_mem_cons.mpr ⟨⟨_, rfl, xCR_V X (by rw [hI]; exact (semX8_hoursIn l W9 aM hi)) gX8_early_X8_hoursIn rfl rfl (by decide +kernel) (by rw [hF, hL]; decide)⟩,
    fun _ h => nomatch h⟩⟩⟩⟩

set_option maxHeartbeats 4000000 in
set_option maxRecDepth 20000 in
theorem semX8_early (l : Launch) (W9 : xWd) (aM : Nat → Nat) (hi : mInj aM) : xSem l W9 (mI aM) yX8_early wsX8_early 2 48 (spX8_early aM) := by
  refine xSem_of (call := callX8_early aM) (thrf := fun _ => "") (mI_law hi) (by decide +kernel) rfl ckX8_early usX8_early (crX8_early l W9 aM hi) xThrOK_nil ?_ ?_
  · intro av M KF h
    obtain ⟨b, rfl, h⟩ := h
    exact ⟨by intro v hv; simp only [List.mem_cons, List.not_mem_nil, or_false] at hv; rcases hv with rfl | rfl <;> first | rfl | exact cat_rf, Nat.le_of_ble_eq_true rfl⟩
  intro av M KF h G hG
  obtain ⟨b, rfl, h⟩ := h
  rw [show (spX8_early aM).1 _ M = _ from spcX8_early] at hG
  try dsimp only at hG
  change G 0 [some (.ref (aM 0)), some (.int b), none, none, none] [] M 0 0
  obtain ⟨h1, h2, h3, h⟩ := h
  refine xgo0 hG (fun fu hfu => ?_)
  clear hG
  simp only [↓callX8_early_0, ↓callX8_early_1, ↓callX8_early_2, ↓callX8_early_3, kb_6, kc_6, ki_0, ki_1, ki_2, ↓ma_11, ↓ma_30, ↓ma_32, ↓ma_39, ↓ma_5, ↓ma_8, ↓mg_11, ↓mg_30, ↓mg_32, ↓mg_39, ↓mg_4, ↓mg_5, ↓mg_8, misa, ↓vm_aload_n, ↓vm_baload, ↓vm_bipush, ↓vm_getfield, ↓vm_goto, ↓vm_iaload, ↓vm_iconst, ↓vm_ifCond_eq, ↓vm_ifCond_le, ↓vm_ifCond_ne, ↓vm_if_icmp_ge, ↓vm_iload, ↓vm_iload_n, ↓vm_imul, ↓vm_invokevirtual, ↓vm_ireturn, ↓vm_istore, ↓vm_istore_n, ↓xc_2, ↓xc_4, ↓tbX8_early_0, ↓tbX8_early_1, ↓tbX8_early_2, ↓tbX8_early_5, ↓tbX8_early_6, ↓tbX8_early_7, ↓tbX8_early_10, ↓tbX8_early_11, ↓tbX8_early_12, ↓tbX8_early_15, ↓tbX8_early_16, ↓tbX8_early_19, ↓tbX8_early_20, ↓tbX8_early_21, ↓tbX8_early_24, ↓tbX8_early_25, ↓tbX8_early_28, ↓tbX8_early_29, ↓tbX8_early_30, ↓tbX8_early_31, ↓tbX8_early_34, ↓tbX8_early_35, ↓tbX8_early_36, ↓tbX8_early_39, ↓tbX8_early_40, ↓tbX8_early_41, ↓tbX8_early_42, ↓tbX8_early_45, ↓tbX8_early_46, ↓tbX8_early_47, ↓tbX8_early_50, ↓tbX8_early_51, ↓tbX8_early_54, ↓tbX8_early_57, ↓tbX8_early_58, ↓tbX8_early_59, ↓tbX8_early_62, ↓tbX8_early_65, ↓tbX8_early_66, ↓tbX8_early_69, ↓tbX8_early_70, ↓tbX8_early_71, ↓tbX8_early_72, ↓tbX8_early_73, ↓tbX8_early_74, ↓tbX8_early_75, ↓tbX8_early_76, ↓tbX8_early_79, ↓tbX8_early_82, ↓tbX8_early_84, ↓tbX8_early_86, ↓tbX8_early_89, ↓tbX8_early_91, ↓tbX8_early_94, ↓tbX8_early_95, ↓tbX8_early_98, ↓tbX8_early_99, ↓tbX8_early_100, ↓tbX8_early_101, ↓tbX8_early_104, ↓tbX8_early_105, ↓tbX8_early_106, ↓tbX8_early_107, ↓tbX8_early_108, ↓tbX8_early_109, ↓tbX8_early_110, ↓tbX8_early_111, ↓tbX8_early_114, ↓tbX8_early_117, ↓tbX8_early_118, ↓tbX8_early_121, ↓tbX8_early_123, ↓tbX8_early_126, ↓tbX8_early_127, hfu, xstep0, xJ1_hit, xJ1_go, xJ2_hit1, xJ2_hit2, xJ2_go, ↓xif_t, ↓xif_f, seval, ↓xca_eq, ↓xre_l, ↓xre_r, xmask_t, xmask_f, xmask_nil, ↓xst_eq, xX_eq, eI_eq, eMc_eq, eMs_eq, eF_eq, eThr_eq, ↓xS1_mk, ↓xSI_mk, ↓xSR_mk, ↓xLI_0, ↓xLI_s, ↓xLR_0, ↓xLR_s, vRef_ref, vRef_null, vRef_rf, cat_int, cat_ref, cat_null, cat_rf, rf_some, rf_none, rf_null, rf_eq, rf_ref, ref_rf, ref_null, ref_ref, xOk_0, xOk_1, xOk_2r, xOk_2n, xOk_2f, vOpt_rf, vOpt_ref, vOpt_null, List.set_cons_zero, List.set_cons_succ, List.take_succ_cons, List.take_zero, List.drop_succ_cons, List.drop_zero, List.reverse_cons, List.reverse_nil, List.nil_append, List.cons_append, List.append_nil, List.length_cons, List.length_nil, List.map_cons, List.map_nil, List.sum_cons, List.sum_nil, Option.toList_some, Option.toList_none, xRecv_mk, true_and, and_true, true_implies, Nat.reduceAdd, Nat.reduceLeDiff, Nat.zero_le, Nat.le_refl, Nat.add_zero, Nat.zero_add, reduceIte, not_true_eq_false, not_false_eq_true, false_implies, and_self, implies_true, eq_self, Nat.reduceEqDiff, List.cons.injEq, xsn_1, xsn_2, false_and, and_false, or_false, false_or, or_true, true_or, xsn_3, xsn_4, h1, h2, h3, mUp_bi, mUp_01, ↓spwX8_nextOf, spcX8_nextOf, ↓spwX8_isUp, spcX8_isUp, ↓spwX8_unfit, spcX8_unfit, ↓spwX8_hoursIn, spcX8_hoursIn]
  try simp only [xif_e]
  unfold mEarly at h
  repeat' (first | with_reducible apply And.intro | with_reducible intro _)
  all_goals grind [mUp_01]

def mMt (M : mS) (b : Int32) (nb : Nat) : Nat → Bool
  | 0 => decide (M.2 11 (mNext M b).toNatClampNeg ≠ 0 ∧ 0 < mCnt M (mNext M b) nb)
  | k + 1 => mMt M b nb k || decide (M.2 34 k = mNext M b ∧ M.2 35 k ≠ mUp M b ∧ M.2 10 (mNext M b).toNatClampNeg < mWd M (nI k) + mWd M b ∧ M.2 45 (6 * k + b.toNatClampNeg) = 0)
theorem m6_nI (t : Nat) : (6 : Int32) * nI t = nI (6 * t) := pk_mul 6 t
theorem m10_nI (t : Nat) : (10 : Int32) * nI t = nI (10 * t) := pk_mul 10 t

def tbX8_meets : List (Nat × xHint) := [(0, .aload_n 0, 0, 0, 0, []), (1, .iload_n 1, 1, 0, 0, []), (2, .invokevirtual 294, 0, 2, 9, []), (5, .istore_n 2, 2, 0, 0, []), (6, .aload_n 0, 0, 0, 0, []), (7, .getfield 29, 9, 11, 2, []), (10, .iload_n 2, 2, 0, 0, []), (11, .baload, 11, 0, 0, []), (12, .ifCond .eq 15, 27, 0, 0, []), (15, .aload_n 0, 0, 0, 0, []), (16, .iload_n 2, 2, 0, 0, []), (17, .invokevirtual 179, 1, 2, 9, []), (20, .ifCond .le 7, 27, 0, 0, []), (23, .iconst 1, 0, 0, 0, []), (24, .goto 4, 28, 0, 0, []), (27, .iconst 0, 0, 0, 0, []), (28, .istore_n 3, 3, 0, 0, []), (29, .iconst 0, 0, 0, 0, []), (30, .istore 4, 4, 0, 0, []), (32, .iload 4, 4, 0, 0, []), (34, .aload_n 0, 0, 0, 0, []), (35, .getfield 170, 9, 29, 0, []), (38, .if_icmp .ge 93, 131, 0, 0, []), (41, .aload_n 0, 0, 0, 0, []), (42, .getfield 92, 9, 34, 2, []), (45, .iload 4, 4, 0, 0, []), (47, .iaload, 34, 0, 0, []), (48, .iload_n 2, 2, 0, 0, []), (49, .if_icmp .ne 22, 71, 0, 0, []), (52, .aload_n 0, 0, 0, 0, []), (53, .getfield 95, 9, 35, 2, []), (56, .iload 4, 4, 0, 0, []), (58, .baload, 35, 0, 0, []), (59, .aload_n 0, 0, 0, 0, []), (60, .iload_n 1, 1, 0, 0, []), (61, .invokevirtual 291, 2, 2, 9, []), (64, .if_icmp .eq 7, 71, 0, 0, []), (67, .iconst 1, 0, 0, 0, []), (68, .goto 4, 72, 0, 0, []), (71, .iconst 0, 0, 0, 0, []), (72, .istore 5, 5, 0, 0, []), (74, .iload_n 3, 3, 0, 0, []), (75, .ifCond .ne 44, 119, 0, 0, []), (78, .iload 5, 5, 0, 0, []), (80, .ifCond .eq 43, 123, 0, 0, []), (83, .aload_n 0, 0, 0, 0, []), (84, .iload 4, 4, 0, 0, []), (86, .invokevirtual 281, 3, 2, 9, []), (89, .aload_n 0, 0, 0, 0, []), (90, .iload_n 1, 1, 0, 0, []), (91, .invokevirtual 281, 3, 2, 9, []), (94, .iadd, 0, 0, 0, []), (95, .aload_n 0, 0, 0, 0, []), (96, .getfield 26, 9, 10, 2, []), (99, .iload_n 2, 2, 0, 0, []), (100, .iaload, 10, 0, 0, []), (101, .if_icmp .le 22, 123, 0, 0, []), (104, .aload_n 0, 0, 0, 0, []), (105, .getfield 125, 9, 45, 2, []), (108, .bipush 6, 0, 0, 0, []), (110, .iload 4, 4, 0, 0, []), (112, .imul, 0, 0, 0, []), (113, .iload_n 1, 1, 0, 0, []), (114, .iadd, 0, 0, 0, []), (115, .baload, 45, 0, 0, []), (116, .ifCond .ne 7, 123, 0, 0, []), (119, .iconst 1, 0, 0, 0, []), (120, .goto 4, 124, 0, 0, []), (123, .iconst 0, 0, 0, 0, []), (124, .istore_n 3, 3, 0, 0, []), (125, .iinc 4 1, 4, 0, 0, []), (128, .goto (-96), 32, 0, 0, []), (131, .iload_n 3, 3, 0, 0, []), (132, .ireturn, 1, 0, 0, [])]
def clX8_meets : List (Instr × Nat × Nat × Nat) := [(.invokevirtual 294, 0, 2, 9), (.invokevirtual 179, 1, 2, 9), (.invokevirtual 291, 2, 2, 9), (.invokevirtual 281, 3, 2, 9)]
def thX8_meets : List (Nat × Nat) := []
theorem ckX8_meets : tbX8_meets.all (xRow RX8 cX8_meets wsX8_meets vwCl [9] clX8_meets thX8_meets 6 (yX8_meets.name == "<init>") (some .boolean)) = true := xRow_q 0xac1da0ffa70104843e030400a70407009a33601b68041506107d00b42a1600a42e1c1a00b42a601901b61b2a1901b604152a2b009905152c009a1d0536030400a70407009f2301b61b2a3304155f00b42a1600a01c2e04155c00b42a5d00a2aa00b42a04150436033e030400a70407009eb300b61c2a0f0099331c1d00b42a3d2601b61b2a 133 (by decide +kernel) (by decide +kernel)
theorem usX8_meets : xUse wsX8_meets vwCl [9] = true := xUse_g rfl (lw_good lwl_X8_meets lwl_X80 (by decide +kernel)) xUse_n
theorem tbX8_meets_0 {k : Instr → Nat → Nat → Nat → List Nat → Prop} : xse (xFind tbX8_meets 0) k = k (.aload_n 0) 0 0 0 [] := rfl
theorem tbX8_meets_1 {k : Instr → Nat → Nat → Nat → List Nat → Prop} : xse (xFind tbX8_meets 1) k = k (.iload_n 1) 1 0 0 [] := rfl
theorem tbX8_meets_2 {k : Instr → Nat → Nat → Nat → List Nat → Prop} : xse (xFind tbX8_meets 2) k = k (.invokevirtual 294) 0 2 9 [] := rfl
theorem tbX8_meets_5 {k : Instr → Nat → Nat → Nat → List Nat → Prop} : xse (xFind tbX8_meets 5) k = k (.istore_n 2) 2 0 0 [] := rfl
theorem tbX8_meets_6 {k : Instr → Nat → Nat → Nat → List Nat → Prop} : xse (xFind tbX8_meets 6) k = k (.aload_n 0) 0 0 0 [] := rfl
theorem tbX8_meets_7 {k : Instr → Nat → Nat → Nat → List Nat → Prop} : xse (xFind tbX8_meets 7) k = k (.getfield 29) 9 11 2 [] := rfl
theorem tbX8_meets_10 {k : Instr → Nat → Nat → Nat → List Nat → Prop} : xse (xFind tbX8_meets 10) k = k (.iload_n 2) 2 0 0 [] := rfl
theorem tbX8_meets_11 {k : Instr → Nat → Nat → Nat → List Nat → Prop} : xse (xFind tbX8_meets 11) k = k (.baload) 11 0 0 [] := rfl
theorem tbX8_meets_12 {k : Instr → Nat → Nat → Nat → List Nat → Prop} : xse (xFind tbX8_meets 12) k = k (.ifCond .eq 15) 27 0 0 [] := rfl
theorem tbX8_meets_15 {k : Instr → Nat → Nat → Nat → List Nat → Prop} : xse (xFind tbX8_meets 15) k = k (.aload_n 0) 0 0 0 [] := rfl
theorem tbX8_meets_16 {k : Instr → Nat → Nat → Nat → List Nat → Prop} : xse (xFind tbX8_meets 16) k = k (.iload_n 2) 2 0 0 [] := rfl
theorem tbX8_meets_17 {k : Instr → Nat → Nat → Nat → List Nat → Prop} : xse (xFind tbX8_meets 17) k = k (.invokevirtual 179) 1 2 9 [] := rfl
theorem tbX8_meets_20 {k : Instr → Nat → Nat → Nat → List Nat → Prop} : xse (xFind tbX8_meets 20) k = k (.ifCond .le 7) 27 0 0 [] := rfl
theorem tbX8_meets_23 {k : Instr → Nat → Nat → Nat → List Nat → Prop} : xse (xFind tbX8_meets 23) k = k (.iconst 1) 0 0 0 [] := rfl
theorem tbX8_meets_24 {k : Instr → Nat → Nat → Nat → List Nat → Prop} : xse (xFind tbX8_meets 24) k = k (.goto 4) 28 0 0 [] := rfl
theorem tbX8_meets_27 {k : Instr → Nat → Nat → Nat → List Nat → Prop} : xse (xFind tbX8_meets 27) k = k (.iconst 0) 0 0 0 [] := rfl
theorem tbX8_meets_28 {k : Instr → Nat → Nat → Nat → List Nat → Prop} : xse (xFind tbX8_meets 28) k = k (.istore_n 3) 3 0 0 [] := rfl
theorem tbX8_meets_29 {k : Instr → Nat → Nat → Nat → List Nat → Prop} : xse (xFind tbX8_meets 29) k = k (.iconst 0) 0 0 0 [] := rfl
theorem tbX8_meets_30 {k : Instr → Nat → Nat → Nat → List Nat → Prop} : xse (xFind tbX8_meets 30) k = k (.istore 4) 4 0 0 [] := rfl
theorem tbX8_meets_32 {k : Instr → Nat → Nat → Nat → List Nat → Prop} : xse (xFind tbX8_meets 32) k = k (.iload 4) 4 0 0 [] := rfl
theorem tbX8_meets_34 {k : Instr → Nat → Nat → Nat → List Nat → Prop} : xse (xFind tbX8_meets 34) k = k (.aload_n 0) 0 0 0 [] := rfl
theorem tbX8_meets_35 {k : Instr → Nat → Nat → Nat → List Nat → Prop} : xse (xFind tbX8_meets 35) k = k (.getfield 170) 9 29 0 [] := rfl
theorem tbX8_meets_38 {k : Instr → Nat → Nat → Nat → List Nat → Prop} : xse (xFind tbX8_meets 38) k = k (.if_icmp .ge 93) 131 0 0 [] := rfl
theorem tbX8_meets_41 {k : Instr → Nat → Nat → Nat → List Nat → Prop} : xse (xFind tbX8_meets 41) k = k (.aload_n 0) 0 0 0 [] := rfl
theorem tbX8_meets_42 {k : Instr → Nat → Nat → Nat → List Nat → Prop} : xse (xFind tbX8_meets 42) k = k (.getfield 92) 9 34 2 [] := rfl
theorem tbX8_meets_45 {k : Instr → Nat → Nat → Nat → List Nat → Prop} : xse (xFind tbX8_meets 45) k = k (.iload 4) 4 0 0 [] := rfl
theorem tbX8_meets_47 {k : Instr → Nat → Nat → Nat → List Nat → Prop} : xse (xFind tbX8_meets 47) k = k (.iaload) 34 0 0 [] := rfl
theorem tbX8_meets_48 {k : Instr → Nat → Nat → Nat → List Nat → Prop} : xse (xFind tbX8_meets 48) k = k (.iload_n 2) 2 0 0 [] := rfl
theorem tbX8_meets_49 {k : Instr → Nat → Nat → Nat → List Nat → Prop} : xse (xFind tbX8_meets 49) k = k (.if_icmp .ne 22) 71 0 0 [] := rfl
theorem tbX8_meets_52 {k : Instr → Nat → Nat → Nat → List Nat → Prop} : xse (xFind tbX8_meets 52) k = k (.aload_n 0) 0 0 0 [] := rfl
theorem tbX8_meets_53 {k : Instr → Nat → Nat → Nat → List Nat → Prop} : xse (xFind tbX8_meets 53) k = k (.getfield 95) 9 35 2 [] := rfl
theorem tbX8_meets_56 {k : Instr → Nat → Nat → Nat → List Nat → Prop} : xse (xFind tbX8_meets 56) k = k (.iload 4) 4 0 0 [] := rfl
theorem tbX8_meets_58 {k : Instr → Nat → Nat → Nat → List Nat → Prop} : xse (xFind tbX8_meets 58) k = k (.baload) 35 0 0 [] := rfl
theorem tbX8_meets_59 {k : Instr → Nat → Nat → Nat → List Nat → Prop} : xse (xFind tbX8_meets 59) k = k (.aload_n 0) 0 0 0 [] := rfl
theorem tbX8_meets_60 {k : Instr → Nat → Nat → Nat → List Nat → Prop} : xse (xFind tbX8_meets 60) k = k (.iload_n 1) 1 0 0 [] := rfl
theorem tbX8_meets_61 {k : Instr → Nat → Nat → Nat → List Nat → Prop} : xse (xFind tbX8_meets 61) k = k (.invokevirtual 291) 2 2 9 [] := rfl
theorem tbX8_meets_64 {k : Instr → Nat → Nat → Nat → List Nat → Prop} : xse (xFind tbX8_meets 64) k = k (.if_icmp .eq 7) 71 0 0 [] := rfl
theorem tbX8_meets_67 {k : Instr → Nat → Nat → Nat → List Nat → Prop} : xse (xFind tbX8_meets 67) k = k (.iconst 1) 0 0 0 [] := rfl
theorem tbX8_meets_68 {k : Instr → Nat → Nat → Nat → List Nat → Prop} : xse (xFind tbX8_meets 68) k = k (.goto 4) 72 0 0 [] := rfl
theorem tbX8_meets_71 {k : Instr → Nat → Nat → Nat → List Nat → Prop} : xse (xFind tbX8_meets 71) k = k (.iconst 0) 0 0 0 [] := rfl
theorem tbX8_meets_72 {k : Instr → Nat → Nat → Nat → List Nat → Prop} : xse (xFind tbX8_meets 72) k = k (.istore 5) 5 0 0 [] := rfl
theorem tbX8_meets_74 {k : Instr → Nat → Nat → Nat → List Nat → Prop} : xse (xFind tbX8_meets 74) k = k (.iload_n 3) 3 0 0 [] := rfl
theorem tbX8_meets_75 {k : Instr → Nat → Nat → Nat → List Nat → Prop} : xse (xFind tbX8_meets 75) k = k (.ifCond .ne 44) 119 0 0 [] := rfl
theorem tbX8_meets_78 {k : Instr → Nat → Nat → Nat → List Nat → Prop} : xse (xFind tbX8_meets 78) k = k (.iload 5) 5 0 0 [] := rfl
theorem tbX8_meets_80 {k : Instr → Nat → Nat → Nat → List Nat → Prop} : xse (xFind tbX8_meets 80) k = k (.ifCond .eq 43) 123 0 0 [] := rfl
theorem tbX8_meets_83 {k : Instr → Nat → Nat → Nat → List Nat → Prop} : xse (xFind tbX8_meets 83) k = k (.aload_n 0) 0 0 0 [] := rfl
theorem tbX8_meets_84 {k : Instr → Nat → Nat → Nat → List Nat → Prop} : xse (xFind tbX8_meets 84) k = k (.iload 4) 4 0 0 [] := rfl
theorem tbX8_meets_86 {k : Instr → Nat → Nat → Nat → List Nat → Prop} : xse (xFind tbX8_meets 86) k = k (.invokevirtual 281) 3 2 9 [] := rfl
theorem tbX8_meets_89 {k : Instr → Nat → Nat → Nat → List Nat → Prop} : xse (xFind tbX8_meets 89) k = k (.aload_n 0) 0 0 0 [] := rfl
theorem tbX8_meets_90 {k : Instr → Nat → Nat → Nat → List Nat → Prop} : xse (xFind tbX8_meets 90) k = k (.iload_n 1) 1 0 0 [] := rfl
theorem tbX8_meets_91 {k : Instr → Nat → Nat → Nat → List Nat → Prop} : xse (xFind tbX8_meets 91) k = k (.invokevirtual 281) 3 2 9 [] := rfl
theorem tbX8_meets_94 {k : Instr → Nat → Nat → Nat → List Nat → Prop} : xse (xFind tbX8_meets 94) k = k (.iadd) 0 0 0 [] := rfl
theorem tbX8_meets_95 {k : Instr → Nat → Nat → Nat → List Nat → Prop} : xse (xFind tbX8_meets 95) k = k (.aload_n 0) 0 0 0 [] := rfl
theorem tbX8_meets_96 {k : Instr → Nat → Nat → Nat → List Nat → Prop} : xse (xFind tbX8_meets 96) k = k (.getfield 26) 9 10 2 [] := rfl
theorem tbX8_meets_99 {k : Instr → Nat → Nat → Nat → List Nat → Prop} : xse (xFind tbX8_meets 99) k = k (.iload_n 2) 2 0 0 [] := rfl
theorem tbX8_meets_100 {k : Instr → Nat → Nat → Nat → List Nat → Prop} : xse (xFind tbX8_meets 100) k = k (.iaload) 10 0 0 [] := rfl
theorem tbX8_meets_101 {k : Instr → Nat → Nat → Nat → List Nat → Prop} : xse (xFind tbX8_meets 101) k = k (.if_icmp .le 22) 123 0 0 [] := rfl
theorem tbX8_meets_104 {k : Instr → Nat → Nat → Nat → List Nat → Prop} : xse (xFind tbX8_meets 104) k = k (.aload_n 0) 0 0 0 [] := rfl
theorem tbX8_meets_105 {k : Instr → Nat → Nat → Nat → List Nat → Prop} : xse (xFind tbX8_meets 105) k = k (.getfield 125) 9 45 2 [] := rfl
theorem tbX8_meets_108 {k : Instr → Nat → Nat → Nat → List Nat → Prop} : xse (xFind tbX8_meets 108) k = k (.bipush 6) 0 0 0 [] := rfl
theorem tbX8_meets_110 {k : Instr → Nat → Nat → Nat → List Nat → Prop} : xse (xFind tbX8_meets 110) k = k (.iload 4) 4 0 0 [] := rfl
theorem tbX8_meets_112 {k : Instr → Nat → Nat → Nat → List Nat → Prop} : xse (xFind tbX8_meets 112) k = k (.imul) 0 0 0 [] := rfl
theorem tbX8_meets_113 {k : Instr → Nat → Nat → Nat → List Nat → Prop} : xse (xFind tbX8_meets 113) k = k (.iload_n 1) 1 0 0 [] := rfl
theorem tbX8_meets_114 {k : Instr → Nat → Nat → Nat → List Nat → Prop} : xse (xFind tbX8_meets 114) k = k (.iadd) 0 0 0 [] := rfl
theorem tbX8_meets_115 {k : Instr → Nat → Nat → Nat → List Nat → Prop} : xse (xFind tbX8_meets 115) k = k (.baload) 45 0 0 [] := rfl
theorem tbX8_meets_116 {k : Instr → Nat → Nat → Nat → List Nat → Prop} : xse (xFind tbX8_meets 116) k = k (.ifCond .ne 7) 123 0 0 [] := rfl
theorem tbX8_meets_119 {k : Instr → Nat → Nat → Nat → List Nat → Prop} : xse (xFind tbX8_meets 119) k = k (.iconst 1) 0 0 0 [] := rfl
theorem tbX8_meets_120 {k : Instr → Nat → Nat → Nat → List Nat → Prop} : xse (xFind tbX8_meets 120) k = k (.goto 4) 124 0 0 [] := rfl
theorem tbX8_meets_123 {k : Instr → Nat → Nat → Nat → List Nat → Prop} : xse (xFind tbX8_meets 123) k = k (.iconst 0) 0 0 0 [] := rfl
theorem tbX8_meets_124 {k : Instr → Nat → Nat → Nat → List Nat → Prop} : xse (xFind tbX8_meets 124) k = k (.istore_n 3) 3 0 0 [] := rfl
theorem tbX8_meets_125 {k : Instr → Nat → Nat → Nat → List Nat → Prop} : xse (xFind tbX8_meets 125) k = k (.iinc 4 1) 4 0 0 [] := rfl
theorem tbX8_meets_128 {k : Instr → Nat → Nat → Nat → List Nat → Prop} : xse (xFind tbX8_meets 128) k = k (.goto (-96)) 32 0 0 [] := rfl
theorem tbX8_meets_131 {k : Instr → Nat → Nat → Nat → List Nat → Prop} : xse (xFind tbX8_meets 131) k = k (.iload_n 3) 3 0 0 [] := rfl
theorem tbX8_meets_132 {k : Instr → Nat → Nat → Nat → List Nat → Prop} : xse (xFind tbX8_meets 132) k = k (.ireturn) 1 0 0 [] := rfl

def spX8_meets (aM : Nat → Nat) : xSp mS := (fun av M => (0, 0), fun av M K => ∃ (b : Int32), av = [.ref (aM 0), .int b] ∧ ((M.1 29 = nI (nBt M) ∧ nBt M ≤ 6) ∧ vp_in b 6 ∧ vp_in (mNext M b) 7 ∧ K (rI (bi (mMt M b (nBt M) (nBt M) = true))) M))
theorem spcX8_meets {av : List Value} {M : mS} {aM : Nat → Nat} : (spX8_meets aM).1 av M = (0, 0) := rfl
theorem spwX8_meets {M : mS} {aM : Nat → Nat} {K : xRes → mS → Prop} {b : Int32} : (spX8_meets aM).2 [.ref (aM 0), .int b] M K = ((M.1 29 = nI (nBt M) ∧ nBt M ≤ 6) ∧ vp_in b 6 ∧ vp_in (mNext M b) 7 ∧ K (rI (bi (mMt M b (nBt M) (nBt M) = true))) M) :=
  propext ⟨fun h => by
    simp only [spX8_meets] at h
    obtain ⟨_, e, h⟩ := h
    simp only [List.cons.injEq, Value.int.injEq, Value.ref.injEq, rf_eq, and_true, true_and] at e
    obtain rfl := e
    exact h, fun h => ⟨_, rfl, h⟩⟩

def callX8_meets (aM : Nat → Nat) : Nat → Option (xSp mS) := fun n => match n with | 0 => some (spX8_nextOf aM) | 1 => some (spX8_boatsIn aM) | 2 => some (spX8_isUp aM) | 3 => some (spX8_widthOf aM) | _ => none

theorem callX8_meets_0 {aM : Nat → Nat} {k : xSp mS → Prop} : xcs (callX8_meets aM 0) k = k (spX8_nextOf aM) := rfl

theorem callX8_meets_1 {aM : Nat → Nat} {k : xSp mS → Prop} : xcs (callX8_meets aM 1) k = k (spX8_boatsIn aM) := rfl

theorem callX8_meets_2 {aM : Nat → Nat} {k : xSp mS → Prop} : xcs (callX8_meets aM 2) k = k (spX8_isUp aM) := rfl

theorem callX8_meets_3 {aM : Nat → Nat} {k : xSp mS → Prop} : xcs (callX8_meets aM 3) k = k (spX8_widthOf aM) := rfl

theorem crX8_meets (l : Launch) (W9 : xWd) (aM : Nat → Nat) (hi : mInj aM) : xCallsOK l W9 (mI aM) (callX8_meets aM) clX8_meets RX8 wsX8_meets 2 42 6 := by
  intro E A p e R s m args below meth c hI hF hL X
  exact List.forall_mem_cons.mpr ⟨⟨_, rfl, xCR_V X (by rw [hI]; exact (semX8_nextOf l W9 aM hi)) gX8_meets_X8_nextOf rfl rfl (by decide +kernel) (by rw [hF, hL]; decide)⟩,
    List.forall_mem_cons.mpr ⟨⟨_, rfl, xCR_V X (by rw [hI]; exact (semX8_boatsIn l W9 aM hi)) gX8_meets_X8_boatsIn rfl rfl (by decide +kernel) (by rw [hF, hL]; decide)⟩,
    List.forall_mem_cons.mpr ⟨⟨_, rfl, xCR_V X (by rw [hI]; exact (semX8_isUp l W9 aM hi)) gX8_meets_X8_isUp rfl rfl (by decide +kernel) (by rw [hF, hL]; decide)⟩,
    List.forall_mem_cons.mpr ⟨⟨_, rfl, xCR_V X (by rw [hI]; exact (semX8_widthOf l W9 aM hi)) gX8_meets_X8_widthOf rfl rfl (by decide +kernel) (by rw [hF, hL]; decide)⟩,
    fun _ h => nomatch h⟩⟩⟩⟩

set_option maxHeartbeats 4000000 in
set_option maxRecDepth 20000 in
theorem semX8_meets (l : Launch) (W9 : xWd) (aM : Nat → Nat) (hi : mInj aM) : xSem l W9 (mI aM) yX8_meets wsX8_meets 2 42 (spX8_meets aM) := by
  refine xSem_of (call := callX8_meets aM) (thrf := fun _ => "") (mI_law hi) (by decide +kernel) rfl ckX8_meets usX8_meets (crX8_meets l W9 aM hi) xThrOK_nil ?_ ?_
  · intro av M KF h
    obtain ⟨b, rfl, h⟩ := h
    exact ⟨by intro v hv; simp only [List.mem_cons, List.not_mem_nil, or_false] at hv; rcases hv with rfl | rfl <;> first | rfl | exact cat_rf, Nat.le_of_ble_eq_true rfl⟩
  intro av M KF h G hG
  obtain ⟨b, rfl, h⟩ := h
  rw [show (spX8_meets aM).1 _ M = _ from spcX8_meets] at hG
  try dsimp only at hG
  change G 0 [some (.ref (aM 0)), some (.int b), none, none, none, none] [] M 0 0
  obtain ⟨⟨hn, hn6⟩, h1, h2, h⟩ := h

  generalize hnb : nBt M = nb at *
  obtain ⟨w, hw, rfl⟩ := vp_in_of h1 (by omega)
  have loop := xloop hG 32 [true, true, true, true, true, false] (fun j lv st S cs ss => lv = [some (.ref (aM 0)), some (.int (nI w)), some (.int (mNext M (nI w))), some (.int (bi (mMt M (nI w) nb j = true))), some (.int (nI j)), none] ∧ st = [] ∧ M = S ∧ cs = 0 ∧ ss = 0) nb (by
      rintro j hj lv st S cs ss ⟨rfl, rfl, rfl, rfl, rfl⟩ fu hfu
      simp only [↓callX8_meets_0, ↓callX8_meets_1, ↓callX8_meets_2, ↓callX8_meets_3, kb_6, kc_6, ki_0, ki_1, ↓ma_10, ↓ma_11, ↓ma_34, ↓ma_35, ↓ma_45, ↓mg_10, ↓mg_11, ↓mg_29, ↓mg_34, ↓mg_35, ↓mg_45, misa, ↓vm_aload_n, ↓vm_baload, ↓vm_bipush, ↓vm_getfield, ↓vm_goto, ↓vm_iadd, ↓vm_iaload, ↓vm_iconst, ↓vm_ifCond_eq, ↓vm_ifCond_le, ↓vm_ifCond_ne, ↓vm_if_icmp_eq, ↓vm_if_icmp_ge, ↓vm_if_icmp_le, ↓vm_if_icmp_ne, ↓vm_iinc, ↓vm_iload, ↓vm_iload_n, ↓vm_imul, ↓vm_invokevirtual, ↓vm_ireturn, ↓vm_istore, ↓vm_istore_n, ↓xc_2, ↓tbX8_meets_0, ↓tbX8_meets_1, ↓tbX8_meets_2, ↓tbX8_meets_5, ↓tbX8_meets_6, ↓tbX8_meets_7, ↓tbX8_meets_10, ↓tbX8_meets_11, ↓tbX8_meets_12, ↓tbX8_meets_15, ↓tbX8_meets_16, ↓tbX8_meets_17, ↓tbX8_meets_20, ↓tbX8_meets_23, ↓tbX8_meets_24, ↓tbX8_meets_27, ↓tbX8_meets_28, ↓tbX8_meets_29, ↓tbX8_meets_30, ↓tbX8_meets_32, ↓tbX8_meets_34, ↓tbX8_meets_35, ↓tbX8_meets_38, ↓tbX8_meets_41, ↓tbX8_meets_42, ↓tbX8_meets_45, ↓tbX8_meets_47, ↓tbX8_meets_48, ↓tbX8_meets_49, ↓tbX8_meets_52, ↓tbX8_meets_53, ↓tbX8_meets_56, ↓tbX8_meets_58, ↓tbX8_meets_59, ↓tbX8_meets_60, ↓tbX8_meets_61, ↓tbX8_meets_64, ↓tbX8_meets_67, ↓tbX8_meets_68, ↓tbX8_meets_71, ↓tbX8_meets_72, ↓tbX8_meets_74, ↓tbX8_meets_75, ↓tbX8_meets_78, ↓tbX8_meets_80, ↓tbX8_meets_83, ↓tbX8_meets_84, ↓tbX8_meets_86, ↓tbX8_meets_89, ↓tbX8_meets_90, ↓tbX8_meets_91, ↓tbX8_meets_94, ↓tbX8_meets_95, ↓tbX8_meets_96, ↓tbX8_meets_99, ↓tbX8_meets_100, ↓tbX8_meets_101, ↓tbX8_meets_104, ↓tbX8_meets_105, ↓tbX8_meets_108, ↓tbX8_meets_110, ↓tbX8_meets_112, ↓tbX8_meets_113, ↓tbX8_meets_114, ↓tbX8_meets_115, ↓tbX8_meets_116, ↓tbX8_meets_119, ↓tbX8_meets_120, ↓tbX8_meets_123, ↓tbX8_meets_124, ↓tbX8_meets_125, ↓tbX8_meets_128, ↓tbX8_meets_131, ↓tbX8_meets_132, hfu, xstep0, xJ1_hit, xJ1_go, xJ2_hit1, xJ2_hit2, xJ2_go, ↓xif_t, ↓xif_f, seval, ↓xca_eq, ↓xre_l, ↓xre_r, xmask_t, xmask_f, xmask_nil, ↓xst_eq, xX_eq, eI_eq, eMc_eq, eMs_eq, eF_eq, eThr_eq, ↓xS1_mk, ↓xSI_mk, ↓xSR_mk, ↓xLI_0, ↓xLI_s, ↓xLR_0, ↓xLR_s, vRef_ref, vRef_null, vRef_rf, cat_int, cat_ref, cat_null, cat_rf, rf_some, rf_none, rf_null, rf_eq, rf_ref, ref_rf, ref_null, ref_ref, xOk_0, xOk_1, xOk_2r, xOk_2n, xOk_2f, vOpt_rf, vOpt_ref, vOpt_null, List.set_cons_zero, List.set_cons_succ, List.take_succ_cons, List.take_zero, List.drop_succ_cons, List.drop_zero, List.reverse_cons, List.reverse_nil, List.nil_append, List.cons_append, List.append_nil, List.length_cons, List.length_nil, List.map_cons, List.map_nil, List.sum_cons, List.sum_nil, Option.toList_some, Option.toList_none, xRecv_mk, true_and, and_true, true_implies, Nat.reduceAdd, Nat.reduceLeDiff, Nat.zero_le, Nat.le_refl, Nat.add_zero, Nat.zero_add, reduceIte, not_true_eq_false, not_false_eq_true, false_implies, and_self, implies_true, eq_self, Nat.reduceEqDiff, List.cons.injEq, xsn_1, xsn_2, false_and, and_false, or_false, false_or, or_true, true_or, xsn_3, xsn_4, ↓spwX8_nextOf, spcX8_nextOf, ↓spwX8_boatsIn, spcX8_boatsIn, ↓spwX8_isUp, spcX8_isUp, ↓spwX8_widthOf, spcX8_widthOf, hn, h1, h2, bi_0, mUp_bi, ge_nI hj (show nb < 1000 by omega), m6_nI, add_nI, xin_nI (show j < 6 by omega) (by omega), xin_nI (show 6 * j + w < 36 by omega) (by omega), ix_nI (show j < 1000 by omega), ix_nI (show 6 * j + w < 1000 by omega), nI1]
      try simp only [xif_e]
      have e : mMt M (nI w) nb (j + 1) = (mMt M (nI w) nb j || decide (M.2 34 j = mNext M (nI w) ∧ M.2 35 j ≠ mUp M (nI w) ∧ M.2 10 (mNext M (nI w)).toNatClampNeg < mWd M (nI j) + mWd M (nI w) ∧ M.2 45 (6 * j + w) = 0)) := by
        rw [mMt, ix_nI (show w < 1000 by omega)]
      rw [e]
      simp only [Bool.or_eq_true, decide_eq_true_eq]
      grind [bi]) (by
      rintro lv st S cs ss ⟨rfl, rfl, rfl, rfl, rfl⟩ fu hfu
      simp only [↓callX8_meets_0, ↓callX8_meets_1, ↓callX8_meets_2, ↓callX8_meets_3, kb_6, kc_6, ki_0, ki_1, ↓ma_10, ↓ma_11, ↓ma_34, ↓ma_35, ↓ma_45, ↓mg_10, ↓mg_11, ↓mg_29, ↓mg_34, ↓mg_35, ↓mg_45, misa, ↓vm_aload_n, ↓vm_baload, ↓vm_bipush, ↓vm_getfield, ↓vm_goto, ↓vm_iadd, ↓vm_iaload, ↓vm_iconst, ↓vm_ifCond_eq, ↓vm_ifCond_le, ↓vm_ifCond_ne, ↓vm_if_icmp_eq, ↓vm_if_icmp_ge, ↓vm_if_icmp_le, ↓vm_if_icmp_ne, ↓vm_iinc, ↓vm_iload, ↓vm_iload_n, ↓vm_imul, ↓vm_invokevirtual, ↓vm_ireturn, ↓vm_istore, ↓vm_istore_n, ↓xc_2, ↓tbX8_meets_0, ↓tbX8_meets_1, ↓tbX8_meets_2, ↓tbX8_meets_5, ↓tbX8_meets_6, ↓tbX8_meets_7, ↓tbX8_meets_10, ↓tbX8_meets_11, ↓tbX8_meets_12, ↓tbX8_meets_15, ↓tbX8_meets_16, ↓tbX8_meets_17, ↓tbX8_meets_20, ↓tbX8_meets_23, ↓tbX8_meets_24, ↓tbX8_meets_27, ↓tbX8_meets_28, ↓tbX8_meets_29, ↓tbX8_meets_30, ↓tbX8_meets_32, ↓tbX8_meets_34, ↓tbX8_meets_35, ↓tbX8_meets_38, ↓tbX8_meets_41, ↓tbX8_meets_42, ↓tbX8_meets_45, ↓tbX8_meets_47, ↓tbX8_meets_48, ↓tbX8_meets_49, ↓tbX8_meets_52, ↓tbX8_meets_53, ↓tbX8_meets_56, ↓tbX8_meets_58, ↓tbX8_meets_59, ↓tbX8_meets_60, ↓tbX8_meets_61, ↓tbX8_meets_64, ↓tbX8_meets_67, ↓tbX8_meets_68, ↓tbX8_meets_71, ↓tbX8_meets_72, ↓tbX8_meets_74, ↓tbX8_meets_75, ↓tbX8_meets_78, ↓tbX8_meets_80, ↓tbX8_meets_83, ↓tbX8_meets_84, ↓tbX8_meets_86, ↓tbX8_meets_89, ↓tbX8_meets_90, ↓tbX8_meets_91, ↓tbX8_meets_94, ↓tbX8_meets_95, ↓tbX8_meets_96, ↓tbX8_meets_99, ↓tbX8_meets_100, ↓tbX8_meets_101, ↓tbX8_meets_104, ↓tbX8_meets_105, ↓tbX8_meets_108, ↓tbX8_meets_110, ↓tbX8_meets_112, ↓tbX8_meets_113, ↓tbX8_meets_114, ↓tbX8_meets_115, ↓tbX8_meets_116, ↓tbX8_meets_119, ↓tbX8_meets_120, ↓tbX8_meets_123, ↓tbX8_meets_124, ↓tbX8_meets_125, ↓tbX8_meets_128, ↓tbX8_meets_131, ↓tbX8_meets_132, hfu, xstep0, xJ1_hit, xJ1_go, xJ2_hit1, xJ2_hit2, xJ2_go, ↓xif_t, ↓xif_f, seval, ↓xca_eq, ↓xre_l, ↓xre_r, xmask_t, xmask_f, xmask_nil, ↓xst_eq, xX_eq, eI_eq, eMc_eq, eMs_eq, eF_eq, eThr_eq, ↓xS1_mk, ↓xSI_mk, ↓xSR_mk, ↓xLI_0, ↓xLI_s, ↓xLR_0, ↓xLR_s, vRef_ref, vRef_null, vRef_rf, cat_int, cat_ref, cat_null, cat_rf, rf_some, rf_none, rf_null, rf_eq, rf_ref, ref_rf, ref_null, ref_ref, xOk_0, xOk_1, xOk_2r, xOk_2n, xOk_2f, vOpt_rf, vOpt_ref, vOpt_null, List.set_cons_zero, List.set_cons_succ, List.take_succ_cons, List.take_zero, List.drop_succ_cons, List.drop_zero, List.reverse_cons, List.reverse_nil, List.nil_append, List.cons_append, List.append_nil, List.length_cons, List.length_nil, List.map_cons, List.map_nil, List.sum_cons, List.sum_nil, Option.toList_some, Option.toList_none, xRecv_mk, true_and, and_true, true_implies, Nat.reduceAdd, Nat.reduceLeDiff, Nat.zero_le, Nat.le_refl, Nat.add_zero, Nat.zero_add, reduceIte, not_true_eq_false, not_false_eq_true, false_implies, and_self, implies_true, eq_self, Nat.reduceEqDiff, List.cons.injEq, xsn_1, xsn_2, false_and, and_false, or_false, false_or, or_true, true_or, xsn_3, xsn_4, ↓spwX8_nextOf, spcX8_nextOf, ↓spwX8_boatsIn, spcX8_boatsIn, ↓spwX8_isUp, spcX8_isUp, ↓spwX8_widthOf, spcX8_widthOf, hn, le_nI_self]
      try simp only [xif_e]
      exact ⟨bi_01 _, h⟩)
  refine xgo hG (mb := [true, true, true, true, true, false]) (loop 0 (Nat.zero_le nb)) (pc := 0) (fun fu hfu => ?_)
  simp only [↓callX8_meets_0, ↓callX8_meets_1, ↓callX8_meets_2, ↓callX8_meets_3, kb_6, kc_6, ki_0, ki_1, ↓ma_10, ↓ma_11, ↓ma_34, ↓ma_35, ↓ma_45, ↓mg_10, ↓mg_11, ↓mg_29, ↓mg_34, ↓mg_35, ↓mg_45, misa, ↓vm_aload_n, ↓vm_baload, ↓vm_bipush, ↓vm_getfield, ↓vm_goto, ↓vm_iadd, ↓vm_iaload, ↓vm_iconst, ↓vm_ifCond_eq, ↓vm_ifCond_le, ↓vm_ifCond_ne, ↓vm_if_icmp_eq, ↓vm_if_icmp_ge, ↓vm_if_icmp_le, ↓vm_if_icmp_ne, ↓vm_iinc, ↓vm_iload, ↓vm_iload_n, ↓vm_imul, ↓vm_invokevirtual, ↓vm_ireturn, ↓vm_istore, ↓vm_istore_n, ↓xc_2, ↓tbX8_meets_0, ↓tbX8_meets_1, ↓tbX8_meets_2, ↓tbX8_meets_5, ↓tbX8_meets_6, ↓tbX8_meets_7, ↓tbX8_meets_10, ↓tbX8_meets_11, ↓tbX8_meets_12, ↓tbX8_meets_15, ↓tbX8_meets_16, ↓tbX8_meets_17, ↓tbX8_meets_20, ↓tbX8_meets_23, ↓tbX8_meets_24, ↓tbX8_meets_27, ↓tbX8_meets_28, ↓tbX8_meets_29, ↓tbX8_meets_30, ↓tbX8_meets_32, ↓tbX8_meets_34, ↓tbX8_meets_35, ↓tbX8_meets_38, ↓tbX8_meets_41, ↓tbX8_meets_42, ↓tbX8_meets_45, ↓tbX8_meets_47, ↓tbX8_meets_48, ↓tbX8_meets_49, ↓tbX8_meets_52, ↓tbX8_meets_53, ↓tbX8_meets_56, ↓tbX8_meets_58, ↓tbX8_meets_59, ↓tbX8_meets_60, ↓tbX8_meets_61, ↓tbX8_meets_64, ↓tbX8_meets_67, ↓tbX8_meets_68, ↓tbX8_meets_71, ↓tbX8_meets_72, ↓tbX8_meets_74, ↓tbX8_meets_75, ↓tbX8_meets_78, ↓tbX8_meets_80, ↓tbX8_meets_83, ↓tbX8_meets_84, ↓tbX8_meets_86, ↓tbX8_meets_89, ↓tbX8_meets_90, ↓tbX8_meets_91, ↓tbX8_meets_94, ↓tbX8_meets_95, ↓tbX8_meets_96, ↓tbX8_meets_99, ↓tbX8_meets_100, ↓tbX8_meets_101, ↓tbX8_meets_104, ↓tbX8_meets_105, ↓tbX8_meets_108, ↓tbX8_meets_110, ↓tbX8_meets_112, ↓tbX8_meets_113, ↓tbX8_meets_114, ↓tbX8_meets_115, ↓tbX8_meets_116, ↓tbX8_meets_119, ↓tbX8_meets_120, ↓tbX8_meets_123, ↓tbX8_meets_124, ↓tbX8_meets_125, ↓tbX8_meets_128, ↓tbX8_meets_131, ↓tbX8_meets_132, hfu, xstep0, xJ1_hit, xJ1_go, xJ2_hit1, xJ2_hit2, xJ2_go, ↓xif_t, ↓xif_f, seval, ↓xca_eq, ↓xre_l, ↓xre_r, xmask_t, xmask_f, xmask_nil, ↓xst_eq, xX_eq, eI_eq, eMc_eq, eMs_eq, eF_eq, eThr_eq, ↓xS1_mk, ↓xSI_mk, ↓xSR_mk, ↓xLI_0, ↓xLI_s, ↓xLR_0, ↓xLR_s, vRef_ref, vRef_null, vRef_rf, cat_int, cat_ref, cat_null, cat_rf, rf_some, rf_none, rf_null, rf_eq, rf_ref, ref_rf, ref_null, ref_ref, xOk_0, xOk_1, xOk_2r, xOk_2n, xOk_2f, vOpt_rf, vOpt_ref, vOpt_null, List.set_cons_zero, List.set_cons_succ, List.take_succ_cons, List.take_zero, List.drop_succ_cons, List.drop_zero, List.reverse_cons, List.reverse_nil, List.nil_append, List.cons_append, List.append_nil, List.length_cons, List.length_nil, List.map_cons, List.map_nil, List.sum_cons, List.sum_nil, Option.toList_some, Option.toList_none, xRecv_mk, true_and, and_true, true_implies, Nat.reduceAdd, Nat.reduceLeDiff, Nat.zero_le, Nat.le_refl, Nat.add_zero, Nat.zero_add, reduceIte, not_true_eq_false, not_false_eq_true, false_implies, and_self, implies_true, eq_self, Nat.reduceEqDiff, List.cons.injEq, xsn_1, xsn_2, false_and, and_false, or_false, false_or, or_true, true_or, xsn_3, xsn_4, ↓spwX8_nextOf, spcX8_nextOf, ↓spwX8_boatsIn, spcX8_boatsIn, ↓spwX8_isUp, spcX8_isUp, ↓spwX8_widthOf, spcX8_widthOf, hn, h1, h2, hn6, hnb]
  try simp only [xif_e]
  simp only [mMt, decide_eq_true_eq]
  grind [bi, nI_0]

def mBs (M : mS) (nb : Nat) : Prop := (M.1 29 = nI (nBt M) ∧ nBt M ≤ 6) ∧ nb = nBt M ∧ ∀ w, w < nb → mTk M w ∧ (M.2 34 w = -1 → M.2 37 w ≠ -1 → vp_in (mNext M (nI w)) 7)
def mAh (M : mS) (s up : Int32) : Nat → Int32
  | 0 => -1
  | k + 1 => if (M.2 34 k = -1 ∧ M.2 37 k ≠ -1 ∧ mUp M (nI k) = up ∧ mNext M (nI k) = s ∧ mEarly M (nI k) = 0) ∧ (mAh M s up k = -1 ∨ M.2 38 k < M.2 38 (mAh M s up k).toNatClampNeg) then nI k else mAh M s up k
theorem nI_m1 {j : Nat} (h : j < 1000) : nI j ≠ -1 := by
  intro q
  have := congrArg Int32.toInt q
  rw [nI_toInt (by omega)] at this
  have h2 : (-1 : Int32).toInt = -1 := rfl
  rw [h2] at this
  omega
theorem mAh_in (M : mS) (s up : Int32) : ∀ n, n ≤ 6 → mAh M s up n = -1 ∨ ∃ j, j < n ∧ mAh M s up n = nI j
  | 0, _ => Or.inl rfl
  | k + 1, h => by
    unfold mAh
    split
    · exact Or.inr ⟨k, by omega, rfl⟩
    · rcases mAh_in M s up k (by omega) with q | ⟨j, hj, q⟩
      · exact Or.inl q
      · exact Or.inr ⟨j, by omega, q⟩

def tbX8_aheadIn : List (Nat × xHint) := [(0, .iconst (-1), 0, 0, 0, []), (1, .istore_n 3, 3, 0, 0, []), (2, .iconst 0, 0, 0, 0, []), (3, .istore 4, 4, 0, 0, []), (5, .iload 4, 4, 0, 0, []), (7, .aload_n 0, 0, 0, 0, []), (8, .getfield 170, 9, 29, 0, []), (11, .if_icmp .ge 98, 109, 0, 0, []), (14, .aload_n 0, 0, 0, 0, []), (15, .iload 4, 4, 0, 0, []), (17, .invokevirtual 250, 0, 2, 9, []), (20, .ifCond .eq 47, 67, 0, 0, []), (23, .aload_n 0, 0, 0, 0, []), (24, .getfield 101, 9, 37, 2, []), (27, .iload 4, 4, 0, 0, []), (29, .iaload, 37, 0, 0, []), (30, .iconst (-1), 0, 0, 0, []), (31, .if_icmp .eq 36, 67, 0, 0, []), (34, .aload_n 0, 0, 0, 0, []), (35, .iload 4, 4, 0, 0, []), (37, .invokevirtual 291, 1, 2, 9, []), (40, .iload_n 2, 2, 0, 0, []), (41, .if_icmp .ne 26, 67, 0, 0, []), (44, .aload_n 0, 0, 0, 0, []), (45, .iload 4, 4, 0, 0, []), (47, .invokevirtual 294, 2, 2, 9, []), (50, .iload_n 1, 1, 0, 0, []), (51, .if_icmp .ne 16, 67, 0, 0, []), (54, .aload_n 0, 0, 0, 0, []), (55, .iload 4, 4, 0, 0, []), (57, .invokevirtual 304, 3, 2, 9, []), (60, .ifCond .ne 7, 67, 0, 0, []), (63, .iconst 1, 0, 0, 0, []), (64, .goto 4, 68, 0, 0, []), (67, .iconst 0, 0, 0, 0, []), (68, .istore 5, 5, 0, 0, []), (70, .iload 5, 5, 0, 0, []), (72, .ifCond .eq 29, 101, 0, 0, []), (75, .iload_n 3, 3, 0, 0, []), (76, .iconst (-1), 0, 0, 0, []), (77, .if_icmp .eq 19, 96, 0, 0, []), (80, .aload_n 0, 0, 0, 0, []), (81, .getfield 104, 9, 38, 2, []), (84, .iload 4, 4, 0, 0, []), (86, .iaload, 38, 0, 0, []), (87, .aload_n 0, 0, 0, 0, []), (88, .getfield 104, 9, 38, 2, []), (91, .iload_n 3, 3, 0, 0, []), (92, .iaload, 38, 0, 0, []), (93, .if_icmp .ge 8, 101, 0, 0, []), (96, .iload 4, 4, 0, 0, []), (98, .goto 4, 102, 0, 0, []), (101, .iload_n 3, 3, 0, 0, []), (102, .istore_n 3, 3, 0, 0, []), (103, .iinc 4 1, 4, 0, 0, []), (106, .goto (-101), 5, 0, 0, []), (109, .iload_n 3, 3, 0, 0, []), (110, .ireturn, 0, 0, 0, [])]
def clX8_aheadIn : List (Instr × Nat × Nat × Nat) := [(.invokevirtual 250, 0, 2, 9), (.invokevirtual 291, 1, 2, 9), (.invokevirtual 294, 2, 2, 9), (.invokevirtual 304, 3, 2, 9)]
def thX8_aheadIn : List (Nat × Nat) := []
theorem ckX8_aheadIn : tbX8_aheadIn.all (xRow RX8 cX8_aheadIn wsX8_aheadIn vwCl [9] clX8_aheadIn thX8_aheadIn 6 (yX8_aheadIn.name == "<init>") (some .int)) = true := xRow_q 0xac1d9bffa70104843e1d0400a704150800a22e1d6800b42a2e04156800b42a13009f021d1d009905150536030400a70407009a3001b604152a1000a01b2601b604152a1a00a01c2301b604152a24009f022e04156500b42a2f0099fa00b604152a6200a2aa00b42a04150436033e02 111 (by decide +kernel) (by decide +kernel)
theorem usX8_aheadIn : xUse wsX8_aheadIn vwCl [9] = true := xUse_g rfl (lw_good lwl_X8_aheadIn lwl_X80 (by decide +kernel)) xUse_n
theorem tbX8_aheadIn_0 {k : Instr → Nat → Nat → Nat → List Nat → Prop} : xse (xFind tbX8_aheadIn 0) k = k (.iconst (-1)) 0 0 0 [] := rfl
theorem tbX8_aheadIn_1 {k : Instr → Nat → Nat → Nat → List Nat → Prop} : xse (xFind tbX8_aheadIn 1) k = k (.istore_n 3) 3 0 0 [] := rfl
theorem tbX8_aheadIn_2 {k : Instr → Nat → Nat → Nat → List Nat → Prop} : xse (xFind tbX8_aheadIn 2) k = k (.iconst 0) 0 0 0 [] := rfl
theorem tbX8_aheadIn_3 {k : Instr → Nat → Nat → Nat → List Nat → Prop} : xse (xFind tbX8_aheadIn 3) k = k (.istore 4) 4 0 0 [] := rfl
theorem tbX8_aheadIn_5 {k : Instr → Nat → Nat → Nat → List Nat → Prop} : xse (xFind tbX8_aheadIn 5) k = k (.iload 4) 4 0 0 [] := rfl
theorem tbX8_aheadIn_7 {k : Instr → Nat → Nat → Nat → List Nat → Prop} : xse (xFind tbX8_aheadIn 7) k = k (.aload_n 0) 0 0 0 [] := rfl
theorem tbX8_aheadIn_8 {k : Instr → Nat → Nat → Nat → List Nat → Prop} : xse (xFind tbX8_aheadIn 8) k = k (.getfield 170) 9 29 0 [] := rfl
theorem tbX8_aheadIn_11 {k : Instr → Nat → Nat → Nat → List Nat → Prop} : xse (xFind tbX8_aheadIn 11) k = k (.if_icmp .ge 98) 109 0 0 [] := rfl
theorem tbX8_aheadIn_14 {k : Instr → Nat → Nat → Nat → List Nat → Prop} : xse (xFind tbX8_aheadIn 14) k = k (.aload_n 0) 0 0 0 [] := rfl
theorem tbX8_aheadIn_15 {k : Instr → Nat → Nat → Nat → List Nat → Prop} : xse (xFind tbX8_aheadIn 15) k = k (.iload 4) 4 0 0 [] := rfl
theorem tbX8_aheadIn_17 {k : Instr → Nat → Nat → Nat → List Nat → Prop} : xse (xFind tbX8_aheadIn 17) k = k (.invokevirtual 250) 0 2 9 [] := rfl
theorem tbX8_aheadIn_20 {k : Instr → Nat → Nat → Nat → List Nat → Prop} : xse (xFind tbX8_aheadIn 20) k = k (.ifCond .eq 47) 67 0 0 [] := rfl
theorem tbX8_aheadIn_23 {k : Instr → Nat → Nat → Nat → List Nat → Prop} : xse (xFind tbX8_aheadIn 23) k = k (.aload_n 0) 0 0 0 [] := rfl
theorem tbX8_aheadIn_24 {k : Instr → Nat → Nat → Nat → List Nat → Prop} : xse (xFind tbX8_aheadIn 24) k = k (.getfield 101) 9 37 2 [] := rfl
theorem tbX8_aheadIn_27 {k : Instr → Nat → Nat → Nat → List Nat → Prop} : xse (xFind tbX8_aheadIn 27) k = k (.iload 4) 4 0 0 [] := rfl
theorem tbX8_aheadIn_29 {k : Instr → Nat → Nat → Nat → List Nat → Prop} : xse (xFind tbX8_aheadIn 29) k = k (.iaload) 37 0 0 [] := rfl
theorem tbX8_aheadIn_30 {k : Instr → Nat → Nat → Nat → List Nat → Prop} : xse (xFind tbX8_aheadIn 30) k = k (.iconst (-1)) 0 0 0 [] := rfl
theorem tbX8_aheadIn_31 {k : Instr → Nat → Nat → Nat → List Nat → Prop} : xse (xFind tbX8_aheadIn 31) k = k (.if_icmp .eq 36) 67 0 0 [] := rfl
theorem tbX8_aheadIn_34 {k : Instr → Nat → Nat → Nat → List Nat → Prop} : xse (xFind tbX8_aheadIn 34) k = k (.aload_n 0) 0 0 0 [] := rfl
theorem tbX8_aheadIn_35 {k : Instr → Nat → Nat → Nat → List Nat → Prop} : xse (xFind tbX8_aheadIn 35) k = k (.iload 4) 4 0 0 [] := rfl
theorem tbX8_aheadIn_37 {k : Instr → Nat → Nat → Nat → List Nat → Prop} : xse (xFind tbX8_aheadIn 37) k = k (.invokevirtual 291) 1 2 9 [] := rfl
theorem tbX8_aheadIn_40 {k : Instr → Nat → Nat → Nat → List Nat → Prop} : xse (xFind tbX8_aheadIn 40) k = k (.iload_n 2) 2 0 0 [] := rfl
theorem tbX8_aheadIn_41 {k : Instr → Nat → Nat → Nat → List Nat → Prop} : xse (xFind tbX8_aheadIn 41) k = k (.if_icmp .ne 26) 67 0 0 [] := rfl
theorem tbX8_aheadIn_44 {k : Instr → Nat → Nat → Nat → List Nat → Prop} : xse (xFind tbX8_aheadIn 44) k = k (.aload_n 0) 0 0 0 [] := rfl
theorem tbX8_aheadIn_45 {k : Instr → Nat → Nat → Nat → List Nat → Prop} : xse (xFind tbX8_aheadIn 45) k = k (.iload 4) 4 0 0 [] := rfl
theorem tbX8_aheadIn_47 {k : Instr → Nat → Nat → Nat → List Nat → Prop} : xse (xFind tbX8_aheadIn 47) k = k (.invokevirtual 294) 2 2 9 [] := rfl
theorem tbX8_aheadIn_50 {k : Instr → Nat → Nat → Nat → List Nat → Prop} : xse (xFind tbX8_aheadIn 50) k = k (.iload_n 1) 1 0 0 [] := rfl
theorem tbX8_aheadIn_51 {k : Instr → Nat → Nat → Nat → List Nat → Prop} : xse (xFind tbX8_aheadIn 51) k = k (.if_icmp .ne 16) 67 0 0 [] := rfl
theorem tbX8_aheadIn_54 {k : Instr → Nat → Nat → Nat → List Nat → Prop} : xse (xFind tbX8_aheadIn 54) k = k (.aload_n 0) 0 0 0 [] := rfl
theorem tbX8_aheadIn_55 {k : Instr → Nat → Nat → Nat → List Nat → Prop} : xse (xFind tbX8_aheadIn 55) k = k (.iload 4) 4 0 0 [] := rfl
theorem tbX8_aheadIn_57 {k : Instr → Nat → Nat → Nat → List Nat → Prop} : xse (xFind tbX8_aheadIn 57) k = k (.invokevirtual 304) 3 2 9 [] := rfl
theorem tbX8_aheadIn_60 {k : Instr → Nat → Nat → Nat → List Nat → Prop} : xse (xFind tbX8_aheadIn 60) k = k (.ifCond .ne 7) 67 0 0 [] := rfl
theorem tbX8_aheadIn_63 {k : Instr → Nat → Nat → Nat → List Nat → Prop} : xse (xFind tbX8_aheadIn 63) k = k (.iconst 1) 0 0 0 [] := rfl
theorem tbX8_aheadIn_64 {k : Instr → Nat → Nat → Nat → List Nat → Prop} : xse (xFind tbX8_aheadIn 64) k = k (.goto 4) 68 0 0 [] := rfl
theorem tbX8_aheadIn_67 {k : Instr → Nat → Nat → Nat → List Nat → Prop} : xse (xFind tbX8_aheadIn 67) k = k (.iconst 0) 0 0 0 [] := rfl
theorem tbX8_aheadIn_68 {k : Instr → Nat → Nat → Nat → List Nat → Prop} : xse (xFind tbX8_aheadIn 68) k = k (.istore 5) 5 0 0 [] := rfl
theorem tbX8_aheadIn_70 {k : Instr → Nat → Nat → Nat → List Nat → Prop} : xse (xFind tbX8_aheadIn 70) k = k (.iload 5) 5 0 0 [] := rfl
theorem tbX8_aheadIn_72 {k : Instr → Nat → Nat → Nat → List Nat → Prop} : xse (xFind tbX8_aheadIn 72) k = k (.ifCond .eq 29) 101 0 0 [] := rfl
theorem tbX8_aheadIn_75 {k : Instr → Nat → Nat → Nat → List Nat → Prop} : xse (xFind tbX8_aheadIn 75) k = k (.iload_n 3) 3 0 0 [] := rfl
theorem tbX8_aheadIn_76 {k : Instr → Nat → Nat → Nat → List Nat → Prop} : xse (xFind tbX8_aheadIn 76) k = k (.iconst (-1)) 0 0 0 [] := rfl
theorem tbX8_aheadIn_77 {k : Instr → Nat → Nat → Nat → List Nat → Prop} : xse (xFind tbX8_aheadIn 77) k = k (.if_icmp .eq 19) 96 0 0 [] := rfl
theorem tbX8_aheadIn_80 {k : Instr → Nat → Nat → Nat → List Nat → Prop} : xse (xFind tbX8_aheadIn 80) k = k (.aload_n 0) 0 0 0 [] := rfl
theorem tbX8_aheadIn_81 {k : Instr → Nat → Nat → Nat → List Nat → Prop} : xse (xFind tbX8_aheadIn 81) k = k (.getfield 104) 9 38 2 [] := rfl
theorem tbX8_aheadIn_84 {k : Instr → Nat → Nat → Nat → List Nat → Prop} : xse (xFind tbX8_aheadIn 84) k = k (.iload 4) 4 0 0 [] := rfl
theorem tbX8_aheadIn_86 {k : Instr → Nat → Nat → Nat → List Nat → Prop} : xse (xFind tbX8_aheadIn 86) k = k (.iaload) 38 0 0 [] := rfl
theorem tbX8_aheadIn_87 {k : Instr → Nat → Nat → Nat → List Nat → Prop} : xse (xFind tbX8_aheadIn 87) k = k (.aload_n 0) 0 0 0 [] := rfl
theorem tbX8_aheadIn_88 {k : Instr → Nat → Nat → Nat → List Nat → Prop} : xse (xFind tbX8_aheadIn 88) k = k (.getfield 104) 9 38 2 [] := rfl
theorem tbX8_aheadIn_91 {k : Instr → Nat → Nat → Nat → List Nat → Prop} : xse (xFind tbX8_aheadIn 91) k = k (.iload_n 3) 3 0 0 [] := rfl
theorem tbX8_aheadIn_92 {k : Instr → Nat → Nat → Nat → List Nat → Prop} : xse (xFind tbX8_aheadIn 92) k = k (.iaload) 38 0 0 [] := rfl
theorem tbX8_aheadIn_93 {k : Instr → Nat → Nat → Nat → List Nat → Prop} : xse (xFind tbX8_aheadIn 93) k = k (.if_icmp .ge 8) 101 0 0 [] := rfl
theorem tbX8_aheadIn_96 {k : Instr → Nat → Nat → Nat → List Nat → Prop} : xse (xFind tbX8_aheadIn 96) k = k (.iload 4) 4 0 0 [] := rfl
theorem tbX8_aheadIn_98 {k : Instr → Nat → Nat → Nat → List Nat → Prop} : xse (xFind tbX8_aheadIn 98) k = k (.goto 4) 102 0 0 [] := rfl
theorem tbX8_aheadIn_101 {k : Instr → Nat → Nat → Nat → List Nat → Prop} : xse (xFind tbX8_aheadIn 101) k = k (.iload_n 3) 3 0 0 [] := rfl
theorem tbX8_aheadIn_102 {k : Instr → Nat → Nat → Nat → List Nat → Prop} : xse (xFind tbX8_aheadIn 102) k = k (.istore_n 3) 3 0 0 [] := rfl
theorem tbX8_aheadIn_103 {k : Instr → Nat → Nat → Nat → List Nat → Prop} : xse (xFind tbX8_aheadIn 103) k = k (.iinc 4 1) 4 0 0 [] := rfl
theorem tbX8_aheadIn_106 {k : Instr → Nat → Nat → Nat → List Nat → Prop} : xse (xFind tbX8_aheadIn 106) k = k (.goto (-101)) 5 0 0 [] := rfl
theorem tbX8_aheadIn_109 {k : Instr → Nat → Nat → Nat → List Nat → Prop} : xse (xFind tbX8_aheadIn 109) k = k (.iload_n 3) 3 0 0 [] := rfl
theorem tbX8_aheadIn_110 {k : Instr → Nat → Nat → Nat → List Nat → Prop} : xse (xFind tbX8_aheadIn 110) k = k (.ireturn) 0 0 0 [] := rfl

def spX8_aheadIn (aM : Nat → Nat) : xSp mS := (fun av M => (0, 0), fun av M K => ∃ (s : Int32) (up : Int32), av = [.ref (aM 0), .int s, .int up] ∧ ((up = 0 ∨ up = 1) ∧ (mBs M (nBt M) ∧ K (rI (mAh M s up (nBt M))) M)))
theorem spcX8_aheadIn {av : List Value} {M : mS} {aM : Nat → Nat} : (spX8_aheadIn aM).1 av M = (0, 0) := rfl
theorem spwX8_aheadIn {M : mS} {aM : Nat → Nat} {K : xRes → mS → Prop} {s : Int32} {up : Int32} : (spX8_aheadIn aM).2 [.ref (aM 0), .int s, .int up] M K = ((up = 0 ∨ up = 1) ∧ (mBs M (nBt M) ∧ K (rI (mAh M s up (nBt M))) M)) :=
  propext ⟨fun h => by
    simp only [spX8_aheadIn] at h
    obtain ⟨_, _, e, h⟩ := h
    simp only [List.cons.injEq, Value.int.injEq, Value.ref.injEq, rf_eq, and_true, true_and] at e
    obtain ⟨rfl, rfl⟩ := e
    exact h, fun h => ⟨_, _, rfl, h⟩⟩

def callX8_aheadIn (aM : Nat → Nat) : Nat → Option (xSp mS) := fun n => match n with | 0 => some (spX8_stands aM) | 1 => some (spX8_isUp aM) | 2 => some (spX8_nextOf aM) | 3 => some (spX8_early aM) | _ => none

theorem callX8_aheadIn_0 {aM : Nat → Nat} {k : xSp mS → Prop} : xcs (callX8_aheadIn aM 0) k = k (spX8_stands aM) := rfl

theorem callX8_aheadIn_1 {aM : Nat → Nat} {k : xSp mS → Prop} : xcs (callX8_aheadIn aM 1) k = k (spX8_isUp aM) := rfl

theorem callX8_aheadIn_2 {aM : Nat → Nat} {k : xSp mS → Prop} : xcs (callX8_aheadIn aM 2) k = k (spX8_nextOf aM) := rfl

theorem callX8_aheadIn_3 {aM : Nat → Nat} {k : xSp mS → Prop} : xcs (callX8_aheadIn aM 3) k = k (spX8_early aM) := rfl

theorem crX8_aheadIn (l : Launch) (W9 : xWd) (aM : Nat → Nat) (hi : mInj aM) : xCallsOK l W9 (mI aM) (callX8_aheadIn aM) clX8_aheadIn RX8 wsX8_aheadIn 3 72 6 := by
  intro E A p e R s m args below meth c hI hF hL X
  exact List.forall_mem_cons.mpr ⟨⟨_, rfl, xCR_V X (by rw [hI]; exact (semX8_stands l W9 aM hi)) gX8_aheadIn_X8_stands rfl rfl (by decide +kernel) (by rw [hF, hL]; decide)⟩,
    List.forall_mem_cons.mpr ⟨⟨_, rfl, xCR_V X (by rw [hI]; exact (semX8_isUp l W9 aM hi)) gX8_aheadIn_X8_isUp rfl rfl (by decide +kernel) (by rw [hF, hL]; decide)⟩,
    List.forall_mem_cons.mpr ⟨⟨_, rfl, xCR_V X (by rw [hI]; exact (semX8_nextOf l W9 aM hi)) gX8_aheadIn_X8_nextOf rfl rfl (by decide +kernel) (by rw [hF, hL]; decide)⟩,
    List.forall_mem_cons.mpr ⟨⟨_, rfl, xCR_V X (by rw [hI]; exact (semX8_early l W9 aM hi)) gX8_aheadIn_X8_early rfl rfl (by decide +kernel) (by rw [hF, hL]; decide)⟩,
    fun _ h => nomatch h⟩⟩⟩⟩

set_option maxHeartbeats 4000000 in
set_option maxRecDepth 20000 in
theorem semX8_aheadIn (l : Launch) (W9 : xWd) (aM : Nat → Nat) (hi : mInj aM) : xSem l W9 (mI aM) yX8_aheadIn wsX8_aheadIn 3 72 (spX8_aheadIn aM) := by
  refine xSem_of (call := callX8_aheadIn aM) (thrf := fun _ => "") (mI_law hi) (by decide +kernel) rfl ckX8_aheadIn usX8_aheadIn (crX8_aheadIn l W9 aM hi) xThrOK_nil ?_ ?_
  · intro av M KF h
    obtain ⟨s, up, rfl, h⟩ := h
    exact ⟨by intro v hv; simp only [List.mem_cons, List.not_mem_nil, or_false] at hv; rcases hv with rfl | rfl | rfl <;> first | rfl | exact cat_rf, Nat.le_of_ble_eq_true rfl⟩
  intro av M KF h G hG
  obtain ⟨s, up, rfl, h⟩ := h
  rw [show (spX8_aheadIn aM).1 _ M = _ from spcX8_aheadIn] at hG
  try dsimp only at hG
  change G 0 [some (.ref (aM 0)), some (.int s), some (.int up), none, none, none] [] M 0 0
  obtain ⟨hu, hB, h⟩ := h

  obtain ⟨⟨hn, hn6⟩, -, hw⟩ := hB
  generalize nBt M = nb at *
  have loop := xloop hG 5 [true, true, true, true, true, false] (fun j lv st S cs ss => lv = [some (.ref (aM 0)), some (.int s), some (.int up), some (.int (mAh M s up j)), some (.int (nI j)), none] ∧ st = [] ∧ M = S ∧ cs = 0 ∧ ss = 0) nb (by
      rintro j hj lv st S cs ss ⟨rfl, rfl, rfl, rfl, rfl⟩ fu hfu
      obtain ⟨ht, hnx⟩ := hw j hj
      have hu : bi (M.2 33 j < M.2 37 j) = mUp M (nI j) := by unfold mUp; rw [ix_nI (show j < 1000 by omega)]
      have e := mAh.eq_2 M s up j
      simp only [↓callX8_aheadIn_0, ↓callX8_aheadIn_1, ↓callX8_aheadIn_2, ↓callX8_aheadIn_3, ki_0, ki_1, ki_m1, ↓ma_37, ↓ma_38, ↓mg_29, ↓mg_37, ↓mg_38, misa, ↓vm_aload_n, ↓vm_getfield, ↓vm_goto, ↓vm_iaload, ↓vm_iconst, ↓vm_ifCond_eq, ↓vm_ifCond_ne, ↓vm_if_icmp_eq, ↓vm_if_icmp_ge, ↓vm_if_icmp_ne, ↓vm_iinc, ↓vm_iload, ↓vm_iload_n, ↓vm_invokevirtual, ↓vm_ireturn, ↓vm_istore, ↓vm_istore_n, ↓xc_2, ↓tbX8_aheadIn_0, ↓tbX8_aheadIn_1, ↓tbX8_aheadIn_2, ↓tbX8_aheadIn_3, ↓tbX8_aheadIn_5, ↓tbX8_aheadIn_7, ↓tbX8_aheadIn_8, ↓tbX8_aheadIn_11, ↓tbX8_aheadIn_14, ↓tbX8_aheadIn_15, ↓tbX8_aheadIn_17, ↓tbX8_aheadIn_20, ↓tbX8_aheadIn_23, ↓tbX8_aheadIn_24, ↓tbX8_aheadIn_27, ↓tbX8_aheadIn_29, ↓tbX8_aheadIn_30, ↓tbX8_aheadIn_31, ↓tbX8_aheadIn_34, ↓tbX8_aheadIn_35, ↓tbX8_aheadIn_37, ↓tbX8_aheadIn_40, ↓tbX8_aheadIn_41, ↓tbX8_aheadIn_44, ↓tbX8_aheadIn_45, ↓tbX8_aheadIn_47, ↓tbX8_aheadIn_50, ↓tbX8_aheadIn_51, ↓tbX8_aheadIn_54, ↓tbX8_aheadIn_55, ↓tbX8_aheadIn_57, ↓tbX8_aheadIn_60, ↓tbX8_aheadIn_63, ↓tbX8_aheadIn_64, ↓tbX8_aheadIn_67, ↓tbX8_aheadIn_68, ↓tbX8_aheadIn_70, ↓tbX8_aheadIn_72, ↓tbX8_aheadIn_75, ↓tbX8_aheadIn_76, ↓tbX8_aheadIn_77, ↓tbX8_aheadIn_80, ↓tbX8_aheadIn_81, ↓tbX8_aheadIn_84, ↓tbX8_aheadIn_86, ↓tbX8_aheadIn_87, ↓tbX8_aheadIn_88, ↓tbX8_aheadIn_91, ↓tbX8_aheadIn_92, ↓tbX8_aheadIn_93, ↓tbX8_aheadIn_96, ↓tbX8_aheadIn_98, ↓tbX8_aheadIn_101, ↓tbX8_aheadIn_102, ↓tbX8_aheadIn_103, ↓tbX8_aheadIn_106, ↓tbX8_aheadIn_109, ↓tbX8_aheadIn_110, hfu, xstep0, xJ1_hit, xJ1_go, xJ2_hit1, xJ2_hit2, xJ2_go, ↓xif_t, ↓xif_f, seval, ↓xca_eq, ↓xre_l, ↓xre_r, xmask_t, xmask_f, xmask_nil, ↓xst_eq, xX_eq, eI_eq, eMc_eq, eMs_eq, eF_eq, eThr_eq, ↓xS1_mk, ↓xSI_mk, ↓xSR_mk, ↓xLI_0, ↓xLI_s, ↓xLR_0, ↓xLR_s, vRef_ref, vRef_null, vRef_rf, cat_int, cat_ref, cat_null, cat_rf, rf_some, rf_none, rf_null, rf_eq, rf_ref, ref_rf, ref_null, ref_ref, xOk_0, xOk_1, xOk_2r, xOk_2n, xOk_2f, vOpt_rf, vOpt_ref, vOpt_null, List.set_cons_zero, List.set_cons_succ, List.take_succ_cons, List.take_zero, List.drop_succ_cons, List.drop_zero, List.reverse_cons, List.reverse_nil, List.nil_append, List.cons_append, List.append_nil, List.length_cons, List.length_nil, List.map_cons, List.map_nil, List.sum_cons, List.sum_nil, Option.toList_some, Option.toList_none, xRecv_mk, true_and, and_true, true_implies, Nat.reduceAdd, Nat.reduceLeDiff, Nat.zero_le, Nat.le_refl, Nat.add_zero, Nat.zero_add, reduceIte, not_true_eq_false, not_false_eq_true, false_implies, and_self, implies_true, eq_self, Nat.reduceEqDiff, List.cons.injEq, xsn_1, xsn_2, false_and, and_false, or_false, false_or, or_true, true_or, xsn_3, xsn_4, ↓spwX8_stands, spcX8_stands, ↓spwX8_isUp, spcX8_isUp, ↓spwX8_nextOf, spcX8_nextOf, ↓spwX8_early, spcX8_early, hn, bi_0, mUp_bi, ge_nI hj (show nb < 1000 by omega), xin_nI (show j < 6 by omega) (by omega), ix_nI (show j < 1000 by omega), ht, nI1]
      try simp only [xif_e]
      rcases mAh_in M s up j (by omega) with q | ⟨i, hi, q⟩
      · rw [q] at e ⊢
        grind
      · rw [q] at e ⊢
        rw [ix_nI (show i < 1000 by omega)] at e ⊢
        have hm := nI_m1 (show i < 1000 by omega)
        have hv := xin_nI (show i < 6 by omega) (show 6 ≤ 1000 by omega)
        grind -ring) (by
      rintro lv st S cs ss ⟨rfl, rfl, rfl, rfl, rfl⟩ fu hfu
      simp only [↓callX8_aheadIn_0, ↓callX8_aheadIn_1, ↓callX8_aheadIn_2, ↓callX8_aheadIn_3, ki_0, ki_1, ki_m1, ↓ma_37, ↓ma_38, ↓mg_29, ↓mg_37, ↓mg_38, misa, ↓vm_aload_n, ↓vm_getfield, ↓vm_goto, ↓vm_iaload, ↓vm_iconst, ↓vm_ifCond_eq, ↓vm_ifCond_ne, ↓vm_if_icmp_eq, ↓vm_if_icmp_ge, ↓vm_if_icmp_ne, ↓vm_iinc, ↓vm_iload, ↓vm_iload_n, ↓vm_invokevirtual, ↓vm_ireturn, ↓vm_istore, ↓vm_istore_n, ↓xc_2, ↓tbX8_aheadIn_0, ↓tbX8_aheadIn_1, ↓tbX8_aheadIn_2, ↓tbX8_aheadIn_3, ↓tbX8_aheadIn_5, ↓tbX8_aheadIn_7, ↓tbX8_aheadIn_8, ↓tbX8_aheadIn_11, ↓tbX8_aheadIn_14, ↓tbX8_aheadIn_15, ↓tbX8_aheadIn_17, ↓tbX8_aheadIn_20, ↓tbX8_aheadIn_23, ↓tbX8_aheadIn_24, ↓tbX8_aheadIn_27, ↓tbX8_aheadIn_29, ↓tbX8_aheadIn_30, ↓tbX8_aheadIn_31, ↓tbX8_aheadIn_34, ↓tbX8_aheadIn_35, ↓tbX8_aheadIn_37, ↓tbX8_aheadIn_40, ↓tbX8_aheadIn_41, ↓tbX8_aheadIn_44, ↓tbX8_aheadIn_45, ↓tbX8_aheadIn_47, ↓tbX8_aheadIn_50, ↓tbX8_aheadIn_51, ↓tbX8_aheadIn_54, ↓tbX8_aheadIn_55, ↓tbX8_aheadIn_57, ↓tbX8_aheadIn_60, ↓tbX8_aheadIn_63, ↓tbX8_aheadIn_64, ↓tbX8_aheadIn_67, ↓tbX8_aheadIn_68, ↓tbX8_aheadIn_70, ↓tbX8_aheadIn_72, ↓tbX8_aheadIn_75, ↓tbX8_aheadIn_76, ↓tbX8_aheadIn_77, ↓tbX8_aheadIn_80, ↓tbX8_aheadIn_81, ↓tbX8_aheadIn_84, ↓tbX8_aheadIn_86, ↓tbX8_aheadIn_87, ↓tbX8_aheadIn_88, ↓tbX8_aheadIn_91, ↓tbX8_aheadIn_92, ↓tbX8_aheadIn_93, ↓tbX8_aheadIn_96, ↓tbX8_aheadIn_98, ↓tbX8_aheadIn_101, ↓tbX8_aheadIn_102, ↓tbX8_aheadIn_103, ↓tbX8_aheadIn_106, ↓tbX8_aheadIn_109, ↓tbX8_aheadIn_110, hfu, xstep0, xJ1_hit, xJ1_go, xJ2_hit1, xJ2_hit2, xJ2_go, ↓xif_t, ↓xif_f, seval, ↓xca_eq, ↓xre_l, ↓xre_r, xmask_t, xmask_f, xmask_nil, ↓xst_eq, xX_eq, eI_eq, eMc_eq, eMs_eq, eF_eq, eThr_eq, ↓xS1_mk, ↓xSI_mk, ↓xSR_mk, ↓xLI_0, ↓xLI_s, ↓xLR_0, ↓xLR_s, vRef_ref, vRef_null, vRef_rf, cat_int, cat_ref, cat_null, cat_rf, rf_some, rf_none, rf_null, rf_eq, rf_ref, ref_rf, ref_null, ref_ref, xOk_0, xOk_1, xOk_2r, xOk_2n, xOk_2f, vOpt_rf, vOpt_ref, vOpt_null, List.set_cons_zero, List.set_cons_succ, List.take_succ_cons, List.take_zero, List.drop_succ_cons, List.drop_zero, List.reverse_cons, List.reverse_nil, List.nil_append, List.cons_append, List.append_nil, List.length_cons, List.length_nil, List.map_cons, List.map_nil, List.sum_cons, List.sum_nil, Option.toList_some, Option.toList_none, xRecv_mk, true_and, and_true, true_implies, Nat.reduceAdd, Nat.reduceLeDiff, Nat.zero_le, Nat.le_refl, Nat.add_zero, Nat.zero_add, reduceIte, not_true_eq_false, not_false_eq_true, false_implies, and_self, implies_true, eq_self, Nat.reduceEqDiff, List.cons.injEq, xsn_1, xsn_2, false_and, and_false, or_false, false_or, or_true, true_or, xsn_3, xsn_4, ↓spwX8_stands, spcX8_stands, ↓spwX8_isUp, spcX8_isUp, ↓spwX8_nextOf, spcX8_nextOf, ↓spwX8_early, spcX8_early, hn, le_nI_self]
      try simp only [xif_e]
      grind -ring)
  refine xgo hG (mb := [true, true, true, true, true, false]) (loop 0 (Nat.zero_le nb)) (pc := 0) (fun fu hfu => ?_)
  simp only [↓callX8_aheadIn_0, ↓callX8_aheadIn_1, ↓callX8_aheadIn_2, ↓callX8_aheadIn_3, ki_0, ki_1, ki_m1, ↓ma_37, ↓ma_38, ↓mg_29, ↓mg_37, ↓mg_38, misa, ↓vm_aload_n, ↓vm_getfield, ↓vm_goto, ↓vm_iaload, ↓vm_iconst, ↓vm_ifCond_eq, ↓vm_ifCond_ne, ↓vm_if_icmp_eq, ↓vm_if_icmp_ge, ↓vm_if_icmp_ne, ↓vm_iinc, ↓vm_iload, ↓vm_iload_n, ↓vm_invokevirtual, ↓vm_ireturn, ↓vm_istore, ↓vm_istore_n, ↓xc_2, ↓tbX8_aheadIn_0, ↓tbX8_aheadIn_1, ↓tbX8_aheadIn_2, ↓tbX8_aheadIn_3, ↓tbX8_aheadIn_5, ↓tbX8_aheadIn_7, ↓tbX8_aheadIn_8, ↓tbX8_aheadIn_11, ↓tbX8_aheadIn_14, ↓tbX8_aheadIn_15, ↓tbX8_aheadIn_17, ↓tbX8_aheadIn_20, ↓tbX8_aheadIn_23, ↓tbX8_aheadIn_24, ↓tbX8_aheadIn_27, ↓tbX8_aheadIn_29, ↓tbX8_aheadIn_30, ↓tbX8_aheadIn_31, ↓tbX8_aheadIn_34, ↓tbX8_aheadIn_35, ↓tbX8_aheadIn_37, ↓tbX8_aheadIn_40, ↓tbX8_aheadIn_41, ↓tbX8_aheadIn_44, ↓tbX8_aheadIn_45, ↓tbX8_aheadIn_47, ↓tbX8_aheadIn_50, ↓tbX8_aheadIn_51, ↓tbX8_aheadIn_54, ↓tbX8_aheadIn_55, ↓tbX8_aheadIn_57, ↓tbX8_aheadIn_60, ↓tbX8_aheadIn_63, ↓tbX8_aheadIn_64, ↓tbX8_aheadIn_67, ↓tbX8_aheadIn_68, ↓tbX8_aheadIn_70, ↓tbX8_aheadIn_72, ↓tbX8_aheadIn_75, ↓tbX8_aheadIn_76, ↓tbX8_aheadIn_77, ↓tbX8_aheadIn_80, ↓tbX8_aheadIn_81, ↓tbX8_aheadIn_84, ↓tbX8_aheadIn_86, ↓tbX8_aheadIn_87, ↓tbX8_aheadIn_88, ↓tbX8_aheadIn_91, ↓tbX8_aheadIn_92, ↓tbX8_aheadIn_93, ↓tbX8_aheadIn_96, ↓tbX8_aheadIn_98, ↓tbX8_aheadIn_101, ↓tbX8_aheadIn_102, ↓tbX8_aheadIn_103, ↓tbX8_aheadIn_106, ↓tbX8_aheadIn_109, ↓tbX8_aheadIn_110, hfu, xstep0, xJ1_hit, xJ1_go, xJ2_hit1, xJ2_hit2, xJ2_go, ↓xif_t, ↓xif_f, seval, ↓xca_eq, ↓xre_l, ↓xre_r, xmask_t, xmask_f, xmask_nil, ↓xst_eq, xX_eq, eI_eq, eMc_eq, eMs_eq, eF_eq, eThr_eq, ↓xS1_mk, ↓xSI_mk, ↓xSR_mk, ↓xLI_0, ↓xLI_s, ↓xLR_0, ↓xLR_s, vRef_ref, vRef_null, vRef_rf, cat_int, cat_ref, cat_null, cat_rf, rf_some, rf_none, rf_null, rf_eq, rf_ref, ref_rf, ref_null, ref_ref, xOk_0, xOk_1, xOk_2r, xOk_2n, xOk_2f, vOpt_rf, vOpt_ref, vOpt_null, List.set_cons_zero, List.set_cons_succ, List.take_succ_cons, List.take_zero, List.drop_succ_cons, List.drop_zero, List.reverse_cons, List.reverse_nil, List.nil_append, List.cons_append, List.append_nil, List.length_cons, List.length_nil, List.map_cons, List.map_nil, List.sum_cons, List.sum_nil, Option.toList_some, Option.toList_none, xRecv_mk, true_and, and_true, true_implies, Nat.reduceAdd, Nat.reduceLeDiff, Nat.zero_le, Nat.le_refl, Nat.add_zero, Nat.zero_add, reduceIte, not_true_eq_false, not_false_eq_true, false_implies, and_self, implies_true, eq_self, Nat.reduceEqDiff, List.cons.injEq, xsn_1, xsn_2, false_and, and_false, or_false, false_or, or_true, true_or, xsn_3, xsn_4, ↓spwX8_stands, spcX8_stands, ↓spwX8_isUp, spcX8_isUp, ↓spwX8_nextOf, spcX8_nextOf, ↓spwX8_early, spcX8_early, hn]
  try simp only [xif_e]
  repeat' (first | rfl | apply And.intro)

def mAt (M : mS) (s : Int32) (nb : Nat) : Int32 :=
  if mAh M s (if M.2 16 s.toNatClampNeg < M.2 13 s.toNatClampNeg then M.2 15 s.toNatClampNeg else bi (M.2 15 s.toNatClampNeg = 0)) nb ≠ -1 then mAh M s (if M.2 16 s.toNatClampNeg < M.2 13 s.toNatClampNeg then M.2 15 s.toNatClampNeg else bi (M.2 15 s.toNatClampNeg = 0)) nb
  else mAh M s (bi ((if M.2 16 s.toNatClampNeg < M.2 13 s.toNatClampNeg then M.2 15 s.toNatClampNeg else bi (M.2 15 s.toNatClampNeg = 0)) = 0)) nb

def tbX8_aheadAt : List (Nat × xHint) := [(0, .aload_n 0, 0, 0, 0, []), (1, .getfield 44, 9, 16, 2, []), (4, .iload_n 1, 1, 0, 0, []), (5, .iaload, 16, 0, 0, []), (6, .aload_n 0, 0, 0, 0, []), (7, .getfield 35, 9, 13, 2, []), (10, .iload_n 1, 1, 0, 0, []), (11, .iaload, 13, 0, 0, []), (12, .if_icmp .ge 12, 24, 0, 0, []), (15, .aload_n 0, 0, 0, 0, []), (16, .getfield 41, 9, 15, 2, []), (19, .iload_n 1, 1, 0, 0, []), (20, .baload, 15, 0, 0, []), (21, .goto 17, 38, 0, 0, []), (24, .aload_n 0, 0, 0, 0, []), (25, .getfield 41, 9, 15, 2, []), (28, .iload_n 1, 1, 0, 0, []), (29, .baload, 15, 0, 0, []), (30, .ifCond .ne 7, 37, 0, 0, []), (33, .iconst 1, 0, 0, 0, []), (34, .goto 4, 38, 0, 0, []), (37, .iconst 0, 0, 0, 0, []), (38, .istore_n 2, 2, 0, 0, []), (39, .aload_n 0, 0, 0, 0, []), (40, .iload_n 1, 1, 0, 0, []), (41, .iload_n 2, 2, 0, 0, []), (42, .invokevirtual 307, 0, 3, 9, []), (45, .istore_n 3, 3, 0, 0, []), (46, .iload_n 3, 3, 0, 0, []), (47, .iconst (-1), 0, 0, 0, []), (48, .if_icmp .eq 7, 55, 0, 0, []), (51, .iload_n 3, 3, 0, 0, []), (52, .goto 17, 69, 0, 0, []), (55, .aload_n 0, 0, 0, 0, []), (56, .iload_n 1, 1, 0, 0, []), (57, .iload_n 2, 2, 0, 0, []), (58, .ifCond .ne 7, 65, 0, 0, []), (61, .iconst 1, 0, 0, 0, []), (62, .goto 4, 66, 0, 0, []), (65, .iconst 0, 0, 0, 0, []), (66, .invokevirtual 307, 0, 3, 9, []), (69, .ireturn, 0, 0, 0, [])]
def clX8_aheadAt : List (Instr × Nat × Nat × Nat) := [(.invokevirtual 307, 0, 3, 9)]
def thX8_aheadAt : List (Nat × Nat) := []
theorem ckX8_aheadAt : tbX8_aheadAt.all (xRow RX8 cX8_aheadAt wsX8_aheadAt vwCl [9] clX8_aheadAt thX8_aheadAt 4 (yX8_aheadAt.name == "<init>") (some .int)) = true := xRow_q 0xac3301b6030400a70407009a1c1b2a1100a71d07009f021d3e3301b61c1b2a3d030400a70407009a331b2900b42a1100a7331b2900b42a0c00a22e1b2300b42a2e1b2c00b42a 70 (by decide +kernel) (by decide +kernel)
theorem usX8_aheadAt : xUse wsX8_aheadAt vwCl [9] = true := xUse_g rfl (lw_good lwl_X8_aheadAt lwl_X80 (by decide +kernel)) xUse_n
theorem tbX8_aheadAt_0 {k : Instr → Nat → Nat → Nat → List Nat → Prop} : xse (xFind tbX8_aheadAt 0) k = k (.aload_n 0) 0 0 0 [] := rfl
theorem tbX8_aheadAt_1 {k : Instr → Nat → Nat → Nat → List Nat → Prop} : xse (xFind tbX8_aheadAt 1) k = k (.getfield 44) 9 16 2 [] := rfl
theorem tbX8_aheadAt_4 {k : Instr → Nat → Nat → Nat → List Nat → Prop} : xse (xFind tbX8_aheadAt 4) k = k (.iload_n 1) 1 0 0 [] := rfl
theorem tbX8_aheadAt_5 {k : Instr → Nat → Nat → Nat → List Nat → Prop} : xse (xFind tbX8_aheadAt 5) k = k (.iaload) 16 0 0 [] := rfl
theorem tbX8_aheadAt_6 {k : Instr → Nat → Nat → Nat → List Nat → Prop} : xse (xFind tbX8_aheadAt 6) k = k (.aload_n 0) 0 0 0 [] := rfl
theorem tbX8_aheadAt_7 {k : Instr → Nat → Nat → Nat → List Nat → Prop} : xse (xFind tbX8_aheadAt 7) k = k (.getfield 35) 9 13 2 [] := rfl
theorem tbX8_aheadAt_10 {k : Instr → Nat → Nat → Nat → List Nat → Prop} : xse (xFind tbX8_aheadAt 10) k = k (.iload_n 1) 1 0 0 [] := rfl
theorem tbX8_aheadAt_11 {k : Instr → Nat → Nat → Nat → List Nat → Prop} : xse (xFind tbX8_aheadAt 11) k = k (.iaload) 13 0 0 [] := rfl
theorem tbX8_aheadAt_12 {k : Instr → Nat → Nat → Nat → List Nat → Prop} : xse (xFind tbX8_aheadAt 12) k = k (.if_icmp .ge 12) 24 0 0 [] := rfl
theorem tbX8_aheadAt_15 {k : Instr → Nat → Nat → Nat → List Nat → Prop} : xse (xFind tbX8_aheadAt 15) k = k (.aload_n 0) 0 0 0 [] := rfl
theorem tbX8_aheadAt_16 {k : Instr → Nat → Nat → Nat → List Nat → Prop} : xse (xFind tbX8_aheadAt 16) k = k (.getfield 41) 9 15 2 [] := rfl
theorem tbX8_aheadAt_19 {k : Instr → Nat → Nat → Nat → List Nat → Prop} : xse (xFind tbX8_aheadAt 19) k = k (.iload_n 1) 1 0 0 [] := rfl
theorem tbX8_aheadAt_20 {k : Instr → Nat → Nat → Nat → List Nat → Prop} : xse (xFind tbX8_aheadAt 20) k = k (.baload) 15 0 0 [] := rfl
theorem tbX8_aheadAt_21 {k : Instr → Nat → Nat → Nat → List Nat → Prop} : xse (xFind tbX8_aheadAt 21) k = k (.goto 17) 38 0 0 [] := rfl
theorem tbX8_aheadAt_24 {k : Instr → Nat → Nat → Nat → List Nat → Prop} : xse (xFind tbX8_aheadAt 24) k = k (.aload_n 0) 0 0 0 [] := rfl
theorem tbX8_aheadAt_25 {k : Instr → Nat → Nat → Nat → List Nat → Prop} : xse (xFind tbX8_aheadAt 25) k = k (.getfield 41) 9 15 2 [] := rfl
theorem tbX8_aheadAt_28 {k : Instr → Nat → Nat → Nat → List Nat → Prop} : xse (xFind tbX8_aheadAt 28) k = k (.iload_n 1) 1 0 0 [] := rfl
theorem tbX8_aheadAt_29 {k : Instr → Nat → Nat → Nat → List Nat → Prop} : xse (xFind tbX8_aheadAt 29) k = k (.baload) 15 0 0 [] := rfl
theorem tbX8_aheadAt_30 {k : Instr → Nat → Nat → Nat → List Nat → Prop} : xse (xFind tbX8_aheadAt 30) k = k (.ifCond .ne 7) 37 0 0 [] := rfl
theorem tbX8_aheadAt_33 {k : Instr → Nat → Nat → Nat → List Nat → Prop} : xse (xFind tbX8_aheadAt 33) k = k (.iconst 1) 0 0 0 [] := rfl
theorem tbX8_aheadAt_34 {k : Instr → Nat → Nat → Nat → List Nat → Prop} : xse (xFind tbX8_aheadAt 34) k = k (.goto 4) 38 0 0 [] := rfl
theorem tbX8_aheadAt_37 {k : Instr → Nat → Nat → Nat → List Nat → Prop} : xse (xFind tbX8_aheadAt 37) k = k (.iconst 0) 0 0 0 [] := rfl
theorem tbX8_aheadAt_38 {k : Instr → Nat → Nat → Nat → List Nat → Prop} : xse (xFind tbX8_aheadAt 38) k = k (.istore_n 2) 2 0 0 [] := rfl
theorem tbX8_aheadAt_39 {k : Instr → Nat → Nat → Nat → List Nat → Prop} : xse (xFind tbX8_aheadAt 39) k = k (.aload_n 0) 0 0 0 [] := rfl
theorem tbX8_aheadAt_40 {k : Instr → Nat → Nat → Nat → List Nat → Prop} : xse (xFind tbX8_aheadAt 40) k = k (.iload_n 1) 1 0 0 [] := rfl
theorem tbX8_aheadAt_41 {k : Instr → Nat → Nat → Nat → List Nat → Prop} : xse (xFind tbX8_aheadAt 41) k = k (.iload_n 2) 2 0 0 [] := rfl
theorem tbX8_aheadAt_42 {k : Instr → Nat → Nat → Nat → List Nat → Prop} : xse (xFind tbX8_aheadAt 42) k = k (.invokevirtual 307) 0 3 9 [] := rfl
theorem tbX8_aheadAt_45 {k : Instr → Nat → Nat → Nat → List Nat → Prop} : xse (xFind tbX8_aheadAt 45) k = k (.istore_n 3) 3 0 0 [] := rfl
theorem tbX8_aheadAt_46 {k : Instr → Nat → Nat → Nat → List Nat → Prop} : xse (xFind tbX8_aheadAt 46) k = k (.iload_n 3) 3 0 0 [] := rfl
theorem tbX8_aheadAt_47 {k : Instr → Nat → Nat → Nat → List Nat → Prop} : xse (xFind tbX8_aheadAt 47) k = k (.iconst (-1)) 0 0 0 [] := rfl
theorem tbX8_aheadAt_48 {k : Instr → Nat → Nat → Nat → List Nat → Prop} : xse (xFind tbX8_aheadAt 48) k = k (.if_icmp .eq 7) 55 0 0 [] := rfl
theorem tbX8_aheadAt_51 {k : Instr → Nat → Nat → Nat → List Nat → Prop} : xse (xFind tbX8_aheadAt 51) k = k (.iload_n 3) 3 0 0 [] := rfl
theorem tbX8_aheadAt_52 {k : Instr → Nat → Nat → Nat → List Nat → Prop} : xse (xFind tbX8_aheadAt 52) k = k (.goto 17) 69 0 0 [] := rfl
theorem tbX8_aheadAt_55 {k : Instr → Nat → Nat → Nat → List Nat → Prop} : xse (xFind tbX8_aheadAt 55) k = k (.aload_n 0) 0 0 0 [] := rfl
theorem tbX8_aheadAt_56 {k : Instr → Nat → Nat → Nat → List Nat → Prop} : xse (xFind tbX8_aheadAt 56) k = k (.iload_n 1) 1 0 0 [] := rfl
theorem tbX8_aheadAt_57 {k : Instr → Nat → Nat → Nat → List Nat → Prop} : xse (xFind tbX8_aheadAt 57) k = k (.iload_n 2) 2 0 0 [] := rfl
theorem tbX8_aheadAt_58 {k : Instr → Nat → Nat → Nat → List Nat → Prop} : xse (xFind tbX8_aheadAt 58) k = k (.ifCond .ne 7) 65 0 0 [] := rfl
theorem tbX8_aheadAt_61 {k : Instr → Nat → Nat → Nat → List Nat → Prop} : xse (xFind tbX8_aheadAt 61) k = k (.iconst 1) 0 0 0 [] := rfl
theorem tbX8_aheadAt_62 {k : Instr → Nat → Nat → Nat → List Nat → Prop} : xse (xFind tbX8_aheadAt 62) k = k (.goto 4) 66 0 0 [] := rfl
theorem tbX8_aheadAt_65 {k : Instr → Nat → Nat → Nat → List Nat → Prop} : xse (xFind tbX8_aheadAt 65) k = k (.iconst 0) 0 0 0 [] := rfl
theorem tbX8_aheadAt_66 {k : Instr → Nat → Nat → Nat → List Nat → Prop} : xse (xFind tbX8_aheadAt 66) k = k (.invokevirtual 307) 0 3 9 [] := rfl
theorem tbX8_aheadAt_69 {k : Instr → Nat → Nat → Nat → List Nat → Prop} : xse (xFind tbX8_aheadAt 69) k = k (.ireturn) 0 0 0 [] := rfl

def spX8_aheadAt (aM : Nat → Nat) : xSp mS := (fun av M => (0, 0), fun av M K => ∃ (s : Int32), av = [.ref (aM 0), .int s] ∧ (mBs M (nBt M) ∧ vp_in s 7 ∧ (M.2 15 s.toNatClampNeg = 0 ∨ M.2 15 s.toNatClampNeg = 1) ∧ K (rI (mAt M s (nBt M))) M))
theorem spcX8_aheadAt {av : List Value} {M : mS} {aM : Nat → Nat} : (spX8_aheadAt aM).1 av M = (0, 0) := rfl
theorem spwX8_aheadAt {M : mS} {aM : Nat → Nat} {K : xRes → mS → Prop} {s : Int32} : (spX8_aheadAt aM).2 [.ref (aM 0), .int s] M K = (mBs M (nBt M) ∧ vp_in s 7 ∧ (M.2 15 s.toNatClampNeg = 0 ∨ M.2 15 s.toNatClampNeg = 1) ∧ K (rI (mAt M s (nBt M))) M) :=
  propext ⟨fun h => by
    simp only [spX8_aheadAt] at h
    obtain ⟨_, e, h⟩ := h
    simp only [List.cons.injEq, Value.int.injEq, Value.ref.injEq, rf_eq, and_true, true_and] at e
    obtain rfl := e
    exact h, fun h => ⟨_, rfl, h⟩⟩

def callX8_aheadAt (aM : Nat → Nat) : Nat → Option (xSp mS) := fun n => match n with | 0 => some (spX8_aheadIn aM) | _ => none

theorem callX8_aheadAt_0 {aM : Nat → Nat} {k : xSp mS → Prop} : xcs (callX8_aheadAt aM 0) k = k (spX8_aheadIn aM) := rfl

theorem crX8_aheadAt (l : Launch) (W9 : xWd) (aM : Nat → Nat) (hi : mInj aM) : xCallsOK l W9 (mI aM) (callX8_aheadAt aM) clX8_aheadAt RX8 wsX8_aheadAt 4 97 4 := by
  intro E A p e R s m args below meth c hI hF hL X
  exact List.forall_mem_cons.mpr ⟨⟨_, rfl, xCR_V X (by rw [hI]; exact (semX8_aheadIn l W9 aM hi)) gX8_aheadAt_X8_aheadIn rfl rfl (by decide +kernel) (by rw [hF, hL]; decide)⟩,
    fun _ h => nomatch h⟩

set_option maxHeartbeats 4000000 in
set_option maxRecDepth 20000 in
theorem semX8_aheadAt (l : Launch) (W9 : xWd) (aM : Nat → Nat) (hi : mInj aM) : xSem l W9 (mI aM) yX8_aheadAt wsX8_aheadAt 4 97 (spX8_aheadAt aM) := by
  refine xSem_of (call := callX8_aheadAt aM) (thrf := fun _ => "") (mI_law hi) (by decide +kernel) rfl ckX8_aheadAt usX8_aheadAt (crX8_aheadAt l W9 aM hi) xThrOK_nil ?_ ?_
  · intro av M KF h
    obtain ⟨s, rfl, h⟩ := h
    exact ⟨by intro v hv; simp only [List.mem_cons, List.not_mem_nil, or_false] at hv; rcases hv with rfl | rfl <;> first | rfl | exact cat_rf, Nat.le_of_ble_eq_true rfl⟩
  intro av M KF h G hG
  obtain ⟨s, rfl, h⟩ := h
  rw [show (spX8_aheadAt aM).1 _ M = _ from spcX8_aheadAt] at hG
  try dsimp only at hG
  change G 0 [some (.ref (aM 0)), some (.int s), none, none] [] M 0 0
  obtain ⟨hB, h1, h01, h⟩ := h
  refine xgo0 hG (fun fu hfu => ?_)
  clear hG
  simp only [↓callX8_aheadAt_0, ki_0, ki_1, ki_m1, ↓ma_13, ↓ma_15, ↓ma_16, ↓mg_13, ↓mg_15, ↓mg_16, misa, ↓vm_aload_n, ↓vm_baload, ↓vm_getfield, ↓vm_goto, ↓vm_iaload, ↓vm_iconst, ↓vm_ifCond_ne, ↓vm_if_icmp_eq, ↓vm_if_icmp_ge, ↓vm_iload_n, ↓vm_invokevirtual, ↓vm_ireturn, ↓vm_istore_n, ↓xc_3, ↓tbX8_aheadAt_0, ↓tbX8_aheadAt_1, ↓tbX8_aheadAt_4, ↓tbX8_aheadAt_5, ↓tbX8_aheadAt_6, ↓tbX8_aheadAt_7, ↓tbX8_aheadAt_10, ↓tbX8_aheadAt_11, ↓tbX8_aheadAt_12, ↓tbX8_aheadAt_15, ↓tbX8_aheadAt_16, ↓tbX8_aheadAt_19, ↓tbX8_aheadAt_20, ↓tbX8_aheadAt_21, ↓tbX8_aheadAt_24, ↓tbX8_aheadAt_25, ↓tbX8_aheadAt_28, ↓tbX8_aheadAt_29, ↓tbX8_aheadAt_30, ↓tbX8_aheadAt_33, ↓tbX8_aheadAt_34, ↓tbX8_aheadAt_37, ↓tbX8_aheadAt_38, ↓tbX8_aheadAt_39, ↓tbX8_aheadAt_40, ↓tbX8_aheadAt_41, ↓tbX8_aheadAt_42, ↓tbX8_aheadAt_45, ↓tbX8_aheadAt_46, ↓tbX8_aheadAt_47, ↓tbX8_aheadAt_48, ↓tbX8_aheadAt_51, ↓tbX8_aheadAt_52, ↓tbX8_aheadAt_55, ↓tbX8_aheadAt_56, ↓tbX8_aheadAt_57, ↓tbX8_aheadAt_58, ↓tbX8_aheadAt_61, ↓tbX8_aheadAt_62, ↓tbX8_aheadAt_65, ↓tbX8_aheadAt_66, ↓tbX8_aheadAt_69, hfu, xstep0, xJ1_hit, xJ1_go, xJ2_hit1, xJ2_hit2, xJ2_go, ↓xif_t, ↓xif_f, seval, ↓xca_eq, ↓xre_l, ↓xre_r, xmask_t, xmask_f, xmask_nil, ↓xst_eq, xX_eq, eI_eq, eMc_eq, eMs_eq, eF_eq, eThr_eq, ↓xS1_mk, ↓xSI_mk, ↓xSR_mk, ↓xLI_0, ↓xLI_s, ↓xLR_0, ↓xLR_s, vRef_ref, vRef_null, vRef_rf, cat_int, cat_ref, cat_null, cat_rf, rf_some, rf_none, rf_null, rf_eq, rf_ref, ref_rf, ref_null, ref_ref, xOk_0, xOk_1, xOk_2r, xOk_2n, xOk_2f, vOpt_rf, vOpt_ref, vOpt_null, List.set_cons_zero, List.set_cons_succ, List.take_succ_cons, List.take_zero, List.drop_succ_cons, List.drop_zero, List.reverse_cons, List.reverse_nil, List.nil_append, List.cons_append, List.append_nil, List.length_cons, List.length_nil, List.map_cons, List.map_nil, List.sum_cons, List.sum_nil, Option.toList_some, Option.toList_none, xRecv_mk, true_and, and_true, true_implies, Nat.reduceAdd, Nat.reduceLeDiff, Nat.zero_le, Nat.le_refl, Nat.add_zero, Nat.zero_add, reduceIte, not_true_eq_false, not_false_eq_true, false_implies, and_self, implies_true, eq_self, Nat.reduceEqDiff, List.cons.injEq, xsn_1, xsn_2, false_and, and_false, or_false, false_or, or_true, true_or, xsn_3, xsn_4, h1, ↓spwX8_aheadIn, spcX8_aheadIn]
  try simp only [xif_e]
  unfold mAt at h
  grind [bi]

def mBar (M : mS) (b : Int32) (nb : Nat) : Int32 :=
  if 0 < mEarly M b then mEarly M b
  else if M.2 5 (mNext M b).toNatClampNeg = 0 then (if mMt M b nb nb = true then 7 else 0)
  else if 0 < mCnt M (mNext M b) nb ∨ mAt M (mNext M b) nb ≠ b then 8 else 0

def tbX8_barsNow : List (Nat × xHint) := [(0, .aload_n 0, 0, 0, 0, []), (1, .iload_n 1, 1, 0, 0, []), (2, .invokevirtual 304, 0, 2, 9, []), (5, .istore_n 2, 2, 0, 0, []), (6, .aload_n 0, 0, 0, 0, []), (7, .iload_n 1, 1, 0, 0, []), (8, .invokevirtual 294, 1, 2, 9, []), (11, .istore_n 3, 3, 0, 0, []), (12, .iload_n 2, 2, 0, 0, []), (13, .ifCond .le 5, 18, 0, 0, []), (16, .iload_n 2, 2, 0, 0, []), (17, .ireturn, 0, 0, 0, []), (18, .aload_n 0, 0, 0, 0, []), (19, .getfield 7, 9, 5, 2, []), (22, .iload_n 3, 3, 0, 0, []), (23, .baload, 5, 0, 0, []), (24, .ifCond .ne 18, 42, 0, 0, []), (27, .aload_n 0, 0, 0, 0, []), (28, .iload_n 1, 1, 0, 0, []), (29, .invokevirtual 310, 2, 2, 9, []), (32, .ifCond .eq 8, 40, 0, 0, []), (35, .bipush 7, 0, 0, 0, []), (37, .goto 4, 41, 0, 0, []), (40, .iconst 0, 0, 0, 0, []), (41, .ireturn, 0, 0, 0, []), (42, .aload_n 0, 0, 0, 0, []), (43, .iload_n 3, 3, 0, 0, []), (44, .invokevirtual 179, 3, 2, 9, []), (47, .ifCond .gt 12, 59, 0, 0, []), (50, .aload_n 0, 0, 0, 0, []), (51, .iload_n 3, 3, 0, 0, []), (52, .invokevirtual 313, 4, 2, 9, []), (55, .iload_n 1, 1, 0, 0, []), (56, .if_icmp .eq 8, 64, 0, 0, []), (59, .bipush 8, 0, 0, 0, []), (61, .goto 4, 65, 0, 0, []), (64, .iconst 0, 0, 0, 0, []), (65, .ireturn, 0, 0, 0, [])]
def clX8_barsNow : List (Instr × Nat × Nat × Nat) := [(.invokevirtual 304, 0, 2, 9), (.invokevirtual 294, 1, 2, 9), (.invokevirtual 310, 2, 2, 9), (.invokevirtual 179, 3, 2, 9), (.invokevirtual 313, 4, 2, 9)]
def thX8_barsNow : List (Nat × Nat) := []
theorem ckX8_barsNow : tbX8_barsNow.all (xRow RX8 cX8_barsNow wsX8_barsNow vwCl [9] clX8_barsNow thX8_barsNow 4 (yX8_barsNow.name == "<init>") (some .int)) = true := xRow_q 0xac030400a7081008009f1b3901b61d2a0c009db300b61d2aac030400a707100800993601b61b2a12009a331d0700b42aac1c05009e1c3e2601b61b2a3d3001b61b2a 66 (by decide +kernel) (by decide +kernel)
theorem usX8_barsNow : xUse wsX8_barsNow vwCl [9] = true := xUse_g rfl (lw_good lwl_X8_barsNow lwl_X80 (by decide +kernel)) xUse_n
theorem tbX8_barsNow_0 {k : Instr → Nat → Nat → Nat → List Nat → Prop} : xse (xFind tbX8_barsNow 0) k = k (.aload_n 0) 0 0 0 [] := rfl
theorem tbX8_barsNow_1 {k : Instr → Nat → Nat → Nat → List Nat → Prop} : xse (xFind tbX8_barsNow 1) k = k (.iload_n 1) 1 0 0 [] := rfl
theorem tbX8_barsNow_2 {k : Instr → Nat → Nat → Nat → List Nat → Prop} : xse (xFind tbX8_barsNow 2) k = k (.invokevirtual 304) 0 2 9 [] := rfl
theorem tbX8_barsNow_5 {k : Instr → Nat → Nat → Nat → List Nat → Prop} : xse (xFind tbX8_barsNow 5) k = k (.istore_n 2) 2 0 0 [] := rfl
theorem tbX8_barsNow_6 {k : Instr → Nat → Nat → Nat → List Nat → Prop} : xse (xFind tbX8_barsNow 6) k = k (.aload_n 0) 0 0 0 [] := rfl
theorem tbX8_barsNow_7 {k : Instr → Nat → Nat → Nat → List Nat → Prop} : xse (xFind tbX8_barsNow 7) k = k (.iload_n 1) 1 0 0 [] := rfl
theorem tbX8_barsNow_8 {k : Instr → Nat → Nat → Nat → List Nat → Prop} : xse (xFind tbX8_barsNow 8) k = k (.invokevirtual 294) 1 2 9 [] := rfl
theorem tbX8_barsNow_11 {k : Instr → Nat → Nat → Nat → List Nat → Prop} : xse (xFind tbX8_barsNow 11) k = k (.istore_n 3) 3 0 0 [] := rfl
theorem tbX8_barsNow_12 {k : Instr → Nat → Nat → Nat → List Nat → Prop} : xse (xFind tbX8_barsNow 12) k = k (.iload_n 2) 2 0 0 [] := rfl
theorem tbX8_barsNow_13 {k : Instr → Nat → Nat → Nat → List Nat → Prop} : xse (xFind tbX8_barsNow 13) k = k (.ifCond .le 5) 18 0 0 [] := rfl
theorem tbX8_barsNow_16 {k : Instr → Nat → Nat → Nat → List Nat → Prop} : xse (xFind tbX8_barsNow 16) k = k (.iload_n 2) 2 0 0 [] := rfl
theorem tbX8_barsNow_17 {k : Instr → Nat → Nat → Nat → List Nat → Prop} : xse (xFind tbX8_barsNow 17) k = k (.ireturn) 0 0 0 [] := rfl
theorem tbX8_barsNow_18 {k : Instr → Nat → Nat → Nat → List Nat → Prop} : xse (xFind tbX8_barsNow 18) k = k (.aload_n 0) 0 0 0 [] := rfl
theorem tbX8_barsNow_19 {k : Instr → Nat → Nat → Nat → List Nat → Prop} : xse (xFind tbX8_barsNow 19) k = k (.getfield 7) 9 5 2 [] := rfl
theorem tbX8_barsNow_22 {k : Instr → Nat → Nat → Nat → List Nat → Prop} : xse (xFind tbX8_barsNow 22) k = k (.iload_n 3) 3 0 0 [] := rfl
theorem tbX8_barsNow_23 {k : Instr → Nat → Nat → Nat → List Nat → Prop} : xse (xFind tbX8_barsNow 23) k = k (.baload) 5 0 0 [] := rfl
theorem tbX8_barsNow_24 {k : Instr → Nat → Nat → Nat → List Nat → Prop} : xse (xFind tbX8_barsNow 24) k = k (.ifCond .ne 18) 42 0 0 [] := rfl
theorem tbX8_barsNow_27 {k : Instr → Nat → Nat → Nat → List Nat → Prop} : xse (xFind tbX8_barsNow 27) k = k (.aload_n 0) 0 0 0 [] := rfl
theorem tbX8_barsNow_28 {k : Instr → Nat → Nat → Nat → List Nat → Prop} : xse (xFind tbX8_barsNow 28) k = k (.iload_n 1) 1 0 0 [] := rfl
theorem tbX8_barsNow_29 {k : Instr → Nat → Nat → Nat → List Nat → Prop} : xse (xFind tbX8_barsNow 29) k = k (.invokevirtual 310) 2 2 9 [] := rfl
theorem tbX8_barsNow_32 {k : Instr → Nat → Nat → Nat → List Nat → Prop} : xse (xFind tbX8_barsNow 32) k = k (.ifCond .eq 8) 40 0 0 [] := rfl
theorem tbX8_barsNow_35 {k : Instr → Nat → Nat → Nat → List Nat → Prop} : xse (xFind tbX8_barsNow 35) k = k (.bipush 7) 0 0 0 [] := rfl
theorem tbX8_barsNow_37 {k : Instr → Nat → Nat → Nat → List Nat → Prop} : xse (xFind tbX8_barsNow 37) k = k (.goto 4) 41 0 0 [] := rfl
theorem tbX8_barsNow_40 {k : Instr → Nat → Nat → Nat → List Nat → Prop} : xse (xFind tbX8_barsNow 40) k = k (.iconst 0) 0 0 0 [] := rfl
theorem tbX8_barsNow_41 {k : Instr → Nat → Nat → Nat → List Nat → Prop} : xse (xFind tbX8_barsNow 41) k = k (.ireturn) 0 0 0 [] := rfl
theorem tbX8_barsNow_42 {k : Instr → Nat → Nat → Nat → List Nat → Prop} : xse (xFind tbX8_barsNow 42) k = k (.aload_n 0) 0 0 0 [] := rfl
theorem tbX8_barsNow_43 {k : Instr → Nat → Nat → Nat → List Nat → Prop} : xse (xFind tbX8_barsNow 43) k = k (.iload_n 3) 3 0 0 [] := rfl
theorem tbX8_barsNow_44 {k : Instr → Nat → Nat → Nat → List Nat → Prop} : xse (xFind tbX8_barsNow 44) k = k (.invokevirtual 179) 3 2 9 [] := rfl
theorem tbX8_barsNow_47 {k : Instr → Nat → Nat → Nat → List Nat → Prop} : xse (xFind tbX8_barsNow 47) k = k (.ifCond .gt 12) 59 0 0 [] := rfl
theorem tbX8_barsNow_50 {k : Instr → Nat → Nat → Nat → List Nat → Prop} : xse (xFind tbX8_barsNow 50) k = k (.aload_n 0) 0 0 0 [] := rfl
theorem tbX8_barsNow_51 {k : Instr → Nat → Nat → Nat → List Nat → Prop} : xse (xFind tbX8_barsNow 51) k = k (.iload_n 3) 3 0 0 [] := rfl
theorem tbX8_barsNow_52 {k : Instr → Nat → Nat → Nat → List Nat → Prop} : xse (xFind tbX8_barsNow 52) k = k (.invokevirtual 313) 4 2 9 [] := rfl
theorem tbX8_barsNow_55 {k : Instr → Nat → Nat → Nat → List Nat → Prop} : xse (xFind tbX8_barsNow 55) k = k (.iload_n 1) 1 0 0 [] := rfl
theorem tbX8_barsNow_56 {k : Instr → Nat → Nat → Nat → List Nat → Prop} : xse (xFind tbX8_barsNow 56) k = k (.if_icmp .eq 8) 64 0 0 [] := rfl
theorem tbX8_barsNow_59 {k : Instr → Nat → Nat → Nat → List Nat → Prop} : xse (xFind tbX8_barsNow 59) k = k (.bipush 8) 0 0 0 [] := rfl
theorem tbX8_barsNow_61 {k : Instr → Nat → Nat → Nat → List Nat → Prop} : xse (xFind tbX8_barsNow 61) k = k (.goto 4) 65 0 0 [] := rfl
theorem tbX8_barsNow_64 {k : Instr → Nat → Nat → Nat → List Nat → Prop} : xse (xFind tbX8_barsNow 64) k = k (.iconst 0) 0 0 0 [] := rfl
theorem tbX8_barsNow_65 {k : Instr → Nat → Nat → Nat → List Nat → Prop} : xse (xFind tbX8_barsNow 65) k = k (.ireturn) 0 0 0 [] := rfl

def spX8_barsNow (aM : Nat → Nat) : xSp mS := (fun av M => (0, 0), fun av M K => ∃ (b : Int32), av = [.ref (aM 0), .int b] ∧ (mBs M (nBt M) ∧ vp_in b 6 ∧ mTk M b.toNatClampNeg ∧ vp_in (mNext M b) 7 ∧ (M.2 15 (mNext M b).toNatClampNeg = 0 ∨ M.2 15 (mNext M b).toNatClampNeg = 1) ∧ K (rI (mBar M b (nBt M))) M))
theorem spcX8_barsNow {av : List Value} {M : mS} {aM : Nat → Nat} : (spX8_barsNow aM).1 av M = (0, 0) := rfl
theorem spwX8_barsNow {M : mS} {aM : Nat → Nat} {K : xRes → mS → Prop} {b : Int32} : (spX8_barsNow aM).2 [.ref (aM 0), .int b] M K = (mBs M (nBt M) ∧ vp_in b 6 ∧ mTk M b.toNatClampNeg ∧ vp_in (mNext M b) 7 ∧ (M.2 15 (mNext M b).toNatClampNeg = 0 ∨ M.2 15 (mNext M b).toNatClampNeg = 1) ∧ K (rI (mBar M b (nBt M))) M) :=
  propext ⟨fun h => by
    simp only [spX8_barsNow] at h
    obtain ⟨_, e, h⟩ := h
    simp only [List.cons.injEq, Value.int.injEq, Value.ref.injEq, rf_eq, and_true, true_and] at e
    obtain rfl := e
    exact h, fun h => ⟨_, rfl, h⟩⟩

def callX8_barsNow (aM : Nat → Nat) : Nat → Option (xSp mS) := fun n => match n with | 0 => some (spX8_early aM) | 1 => some (spX8_nextOf aM) | 2 => some (spX8_meets aM) | 3 => some (spX8_boatsIn aM) | 4 => some (spX8_aheadAt aM) | _ => none

theorem callX8_barsNow_0 {aM : Nat → Nat} {k : xSp mS → Prop} : xcs (callX8_barsNow aM 0) k = k (spX8_early aM) := rfl

theorem callX8_barsNow_1 {aM : Nat → Nat} {k : xSp mS → Prop} : xcs (callX8_barsNow aM 1) k = k (spX8_nextOf aM) := rfl

theorem callX8_barsNow_2 {aM : Nat → Nat} {k : xSp mS → Prop} : xcs (callX8_barsNow aM 2) k = k (spX8_meets aM) := rfl

theorem callX8_barsNow_3 {aM : Nat → Nat} {k : xSp mS → Prop} : xcs (callX8_barsNow aM 3) k = k (spX8_boatsIn aM) := rfl

theorem callX8_barsNow_4 {aM : Nat → Nat} {k : xSp mS → Prop} : xcs (callX8_barsNow aM 4) k = k (spX8_aheadAt aM) := rfl

theorem crX8_barsNow (l : Launch) (W9 : xWd) (aM : Nat → Nat) (hi : mInj aM) : xCallsOK l W9 (mI aM) (callX8_barsNow aM) clX8_barsNow RX8 wsX8_barsNow 5 120 4 := by
  intro E A p e R s m args below meth c hI hF hL X
  exact List.forall_mem_cons.mpr ⟨⟨_, rfl, xCR_V X (by rw [hI]; exact (semX8_early l W9 aM hi)) gX8_barsNow_X8_early rfl rfl (by decide +kernel) (by rw [hF, hL]; decide)⟩,
    List.forall_mem_cons.mpr ⟨⟨_, rfl, xCR_V X (by rw [hI]; exact (semX8_nextOf l W9 aM hi)) gX8_barsNow_X8_nextOf rfl rfl (by decide +kernel) (by rw [hF, hL]; decide)⟩,
    List.forall_mem_cons.mpr ⟨⟨_, rfl, xCR_V X (by rw [hI]; exact (semX8_meets l W9 aM hi)) gX8_barsNow_X8_meets rfl rfl (by decide +kernel) (by rw [hF, hL]; decide)⟩,
    List.forall_mem_cons.mpr ⟨⟨_, rfl, xCR_V X (by rw [hI]; exact (semX8_boatsIn l W9 aM hi)) gX8_barsNow_X8_boatsIn rfl rfl (by decide +kernel) (by rw [hF, hL]; decide)⟩,
    List.forall_mem_cons.mpr ⟨⟨_, rfl, xCR_V X (by rw [hI]; exact (semX8_aheadAt l W9 aM hi)) gX8_barsNow_X8_aheadAt rfl rfl (by decide +kernel) (by rw [hF, hL]; decide)⟩,
    fun _ h => nomatch h⟩⟩⟩⟩⟩

set_option maxHeartbeats 4000000 in
set_option maxRecDepth 20000 in
theorem semX8_barsNow (l : Launch) (W9 : xWd) (aM : Nat → Nat) (hi : mInj aM) : xSem l W9 (mI aM) yX8_barsNow wsX8_barsNow 5 120 (spX8_barsNow aM) := by
  refine xSem_of (call := callX8_barsNow aM) (thrf := fun _ => "") (mI_law hi) (by decide +kernel) rfl ckX8_barsNow usX8_barsNow (crX8_barsNow l W9 aM hi) xThrOK_nil ?_ ?_
  · intro av M KF h
    obtain ⟨b, rfl, h⟩ := h
    exact ⟨by intro v hv; simp only [List.mem_cons, List.not_mem_nil, or_false] at hv; rcases hv with rfl | rfl <;> first | rfl | exact cat_rf, Nat.le_of_ble_eq_true rfl⟩
  intro av M KF h G hG
  obtain ⟨b, rfl, h⟩ := h
  rw [show (spX8_barsNow aM).1 _ M = _ from spcX8_barsNow] at hG
  try dsimp only at hG
  change G 0 [some (.ref (aM 0)), some (.int b), none, none] [] M 0 0
  obtain ⟨hB, h1, h2, h3, h4, h⟩ := h
  refine xgo0 hG (fun fu hfu => ?_)
  clear hG
  simp only [↓callX8_barsNow_0, ↓callX8_barsNow_1, ↓callX8_barsNow_2, ↓callX8_barsNow_3, ↓callX8_barsNow_4, kb_7, kb_8, kc_7, kc_8, ki_0, ↓ma_5, ↓mg_5, misa, ↓vm_aload_n, ↓vm_baload, ↓vm_bipush, ↓vm_getfield, ↓vm_goto, ↓vm_iconst, ↓vm_ifCond_eq, ↓vm_ifCond_gt, ↓vm_ifCond_le, ↓vm_ifCond_ne, ↓vm_if_icmp_eq, ↓vm_iload_n, ↓vm_invokevirtual, ↓vm_ireturn, ↓vm_istore_n, ↓xc_2, ↓tbX8_barsNow_0, ↓tbX8_barsNow_1, ↓tbX8_barsNow_2, ↓tbX8_barsNow_5, ↓tbX8_barsNow_6, ↓tbX8_barsNow_7, ↓tbX8_barsNow_8, ↓tbX8_barsNow_11, ↓tbX8_barsNow_12, ↓tbX8_barsNow_13, ↓tbX8_barsNow_16, ↓tbX8_barsNow_17, ↓tbX8_barsNow_18, ↓tbX8_barsNow_19, ↓tbX8_barsNow_22, ↓tbX8_barsNow_23, ↓tbX8_barsNow_24, ↓tbX8_barsNow_27, ↓tbX8_barsNow_28, ↓tbX8_barsNow_29, ↓tbX8_barsNow_32, ↓tbX8_barsNow_35, ↓tbX8_barsNow_37, ↓tbX8_barsNow_40, ↓tbX8_barsNow_41, ↓tbX8_barsNow_42, ↓tbX8_barsNow_43, ↓tbX8_barsNow_44, ↓tbX8_barsNow_47, ↓tbX8_barsNow_50, ↓tbX8_barsNow_51, ↓tbX8_barsNow_52, ↓tbX8_barsNow_55, ↓tbX8_barsNow_56, ↓tbX8_barsNow_59, ↓tbX8_barsNow_61, ↓tbX8_barsNow_64, ↓tbX8_barsNow_65, hfu, xstep0, xJ1_hit, xJ1_go, xJ2_hit1, xJ2_hit2, xJ2_go, ↓xif_t, ↓xif_f, seval, ↓xca_eq, ↓xre_l, ↓xre_r, xmask_t, xmask_f, xmask_nil, ↓xst_eq, xX_eq, eI_eq, eMc_eq, eMs_eq, eF_eq, eThr_eq, ↓xS1_mk, ↓xSI_mk, ↓xSR_mk, ↓xLI_0, ↓xLI_s, ↓xLR_0, ↓xLR_s, vRef_ref, vRef_null, vRef_rf, cat_int, cat_ref, cat_null, cat_rf, rf_some, rf_none, rf_null, rf_eq, rf_ref, ref_rf, ref_null, ref_ref, xOk_0, xOk_1, xOk_2r, xOk_2n, xOk_2f, vOpt_rf, vOpt_ref, vOpt_null, List.set_cons_zero, List.set_cons_succ, List.take_succ_cons, List.take_zero, List.drop_succ_cons, List.drop_zero, List.reverse_cons, List.reverse_nil, List.nil_append, List.cons_append, List.append_nil, List.length_cons, List.length_nil, List.map_cons, List.map_nil, List.sum_cons, List.sum_nil, Option.toList_some, Option.toList_none, xRecv_mk, true_and, and_true, true_implies, Nat.reduceAdd, Nat.reduceLeDiff, Nat.zero_le, Nat.le_refl, Nat.add_zero, Nat.zero_add, reduceIte, not_true_eq_false, not_false_eq_true, false_implies, and_self, implies_true, eq_self, Nat.reduceEqDiff, List.cons.injEq, xsn_1, xsn_2, false_and, and_false, or_false, false_or, or_true, true_or, xsn_3, xsn_4, h1, h2, h3, bi_0, ↓spwX8_early, spcX8_early, ↓spwX8_nextOf, spcX8_nextOf, ↓spwX8_meets, spcX8_meets, ↓spwX8_boatsIn, spcX8_boatsIn, ↓spwX8_aheadAt, spcX8_aheadAt]
  try simp only [xif_e]
  have hn := hB.1
  unfold mBar at h
  grind [bi]
