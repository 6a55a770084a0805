/-! The twin's methods: tows made up, and let go. -/
noncomputable def mUb (M : mS) (a b : Int32) : Int32 := if ((M.2 23 a.toNatClampNeg = 2 ∧ M.2 23 b.toNatClampNeg = 1) ∨ (M.2 23 a.toNatClampNeg = 1 ∧ M.2 23 b.toNatClampNeg = 2)) ∧ 0 < M.2 24 a.toNatClampNeg ∧ 0 < M.2 24 b.toNatClampNeg then 1 else 0
theorem mUb_01 (M : mS) (a b : Int32) : mUb M a b = 0 ∨ mUb M a b = 1 := by unfold mUb; split <;> simp
noncomputable def mDg (M : mS) (w n m : Nat) : Nat → Bool
  | 0 => false
  | k + 1 => mDg M w n m k || decide (k % n + 1 < n ∧ k + 1 < m ∧ mUb M (M.2 41 (12 * w + k)) (M.2 41 (12 * w + k + 1)) = 1) || decide (k + n < m ∧ mUb M (M.2 41 (12 * w + k)) (M.2 41 (12 * w + k + n)) = 1)
def mWk (M : mS) (w : Nat) : Prop := ∃ n, M.2 40 w = nI n ∧ 0 < n ∧ n ≤ 4
def mTn (M : mS) (w : Nat) (m : Int32) : Prop := ∃ c, m = nI c ∧ c ≤ 12 ∧ ∀ k, k < c → vp_in (M.2 41 (12 * w + k)) 24
noncomputable def mDgr (M : mS) (w m : Nat) : Bool := mDg M w (M.2 40 w).toNatClampNeg m m

def tbX8_areUnlike : List (Nat × xHint) := [(0, .aload_n 0, 0, 0, 0, []), (1, .getfield 62, 9, 23, 2, []), (4, .iload_n 1, 1, 0, 0, []), (5, .iaload, 23, 0, 0, []), (6, .iconst 2, 0, 0, 0, []), (7, .if_icmp .ne 13, 20, 0, 0, []), (10, .aload_n 0, 0, 0, 0, []), (11, .getfield 62, 9, 23, 2, []), (14, .iload_n 2, 2, 0, 0, []), (15, .iaload, 23, 0, 0, []), (16, .iconst 1, 0, 0, 0, []), (17, .if_icmp .eq 23, 40, 0, 0, []), (20, .aload_n 0, 0, 0, 0, []), (21, .getfield 62, 9, 23, 2, []), (24, .iload_n 1, 1, 0, 0, []), (25, .iaload, 23, 0, 0, []), (26, .iconst 1, 0, 0, 0, []), (27, .if_icmp .ne 17, 44, 0, 0, []), (30, .aload_n 0, 0, 0, 0, []), (31, .getfield 62, 9, 23, 2, []), (34, .iload_n 2, 2, 0, 0, []), (35, .iaload, 23, 0, 0, []), (36, .iconst 2, 0, 0, 0, []), (37, .if_icmp .ne 7, 44, 0, 0, []), (40, .iconst 1, 0, 0, 0, []), (41, .goto 4, 45, 0, 0, []), (44, .iconst 0, 0, 0, 0, []), (45, .istore_n 3, 3, 0, 0, []), (46, .iload_n 3, 3, 0, 0, []), (47, .ifCond .eq 25, 72, 0, 0, []), (50, .aload_n 0, 0, 0, 0, []), (51, .getfield 65, 9, 24, 2, []), (54, .iload_n 1, 1, 0, 0, []), (55, .iaload, 24, 0, 0, []), (56, .ifCond .le 16, 72, 0, 0, []), (59, .aload_n 0, 0, 0, 0, []), (60, .getfield 65, 9, 24, 2, []), (63, .iload_n 2, 2, 0, 0, []), (64, .iaload, 24, 0, 0, []), (65, .ifCond .le 7, 72, 0, 0, []), (68, .iconst 1, 0, 0, 0, []), (69, .goto 4, 73, 0, 0, []), (72, .iconst 0, 0, 0, 0, []), (73, .ireturn, 1, 0, 0, [])]
def clX8_areUnlike : List (Instr × Nat × Nat × Nat) := []
def thX8_areUnlike : List (Nat × Nat) := []
theorem ckX8_areUnlike : tbX8_areUnlike.all (xRow RX8 cX8_areUnlike wsX8_areUnlike vwCl [9] clX8_areUnlike thX8_areUnlike 4 (yX8_areUnlike.name == "<init>") (some .boolean)) = true := xRow_q 0xac030400a70407009e2e1c4100b42a10009e2e1b4100b42a1900991d3e030400a7040700a0052e1c3e00b42a1100a0042e1b3e00b42a17009f042e1c3e00b42a0d00a0052e1b3e00b42a 74 (by decide +kernel) (by decide +kernel)
theorem usX8_areUnlike : xUse wsX8_areUnlike vwCl [9] = true := xUse_g rfl (lw_good lwl_X8_areUnlike lwl_X80 (by decide +kernel)) xUse_n
theorem tbX8_areUnlike_0 {k : Instr → Nat → Nat → Nat → List Nat → Prop} : xse (xFind tbX8_areUnlike 0) k = k (.aload_n 0) 0 0 0 [] := rfl
theorem tbX8_areUnlike_1 {k : Instr → Nat → Nat → Nat → List Nat → Prop} : xse (xFind tbX8_areUnlike 1) k = k (.getfield 62) 9 23 2 [] := rfl
theorem tbX8_areUnlike_4 {k : Instr → Nat → Nat → Nat → List Nat → Prop} : xse (xFind tbX8_areUnlike 4) k = k (.iload_n 1) 1 0 0 [] := rfl
theorem tbX8_areUnlike_5 {k : Instr → Nat → Nat → Nat → List Nat → Prop} : xse (xFind tbX8_areUnlike 5) k = k (.iaload) 23 0 0 [] := rfl
theorem tbX8_areUnlike_6 {k : Instr → Nat → Nat → Nat → List Nat → Prop} : xse (xFind tbX8_areUnlike 6) k = k (.iconst 2) 0 0 0 [] := rfl
theorem tbX8_areUnlike_7 {k : Instr → Nat → Nat → Nat → List Nat → Prop} : xse (xFind tbX8_areUnlike 7) k = k (.if_icmp .ne 13) 20 0 0 [] := rfl
theorem tbX8_areUnlike_10 {k : Instr → Nat → Nat → Nat → List Nat → Prop} : xse (xFind tbX8_areUnlike 10) k = k (.aload_n 0) 0 0 0 [] := rfl
theorem tbX8_areUnlike_11 {k : Instr → Nat → Nat → Nat → List Nat → Prop} : xse (xFind tbX8_areUnlike 11) k = k (.getfield 62) 9 23 2 [] := rfl
theorem tbX8_areUnlike_14 {k : Instr → Nat → Nat → Nat → List Nat → Prop} : xse (xFind tbX8_areUnlike 14) k = k (.iload_n 2) 2 0 0 [] := rfl
theorem tbX8_areUnlike_15 {k : Instr → Nat → Nat → Nat → List Nat → Prop} : xse (xFind tbX8_areUnlike 15) k = k (.iaload) 23 0 0 [] := rfl
theorem tbX8_areUnlike_16 {k : Instr → Nat → Nat → Nat → List Nat → Prop} : xse (xFind tbX8_areUnlike 16) k = k (.iconst 1) 0 0 0 [] := rfl
theorem tbX8_areUnlike_17 {k : Instr → Nat → Nat → Nat → List Nat → Prop} : xse (xFind tbX8_areUnlike 17) k = k (.if_icmp .eq 23) 40 0 0 [] := rfl
theorem tbX8_areUnlike_20 {k : Instr → Nat → Nat → Nat → List Nat → Prop} : xse (xFind tbX8_areUnlike 20) k = k (.aload_n 0) 0 0 0 [] := rfl
theorem tbX8_areUnlike_21 {k : Instr → Nat → Nat → Nat → List Nat → Prop} : xse (xFind tbX8_areUnlike 21) k = k (.getfield 62) 9 23 2 [] := rfl
theorem tbX8_areUnlike_24 {k : Instr → Nat → Nat → Nat → List Nat → Prop} : xse (xFind tbX8_areUnlike 24) k = k (.iload_n 1) 1 0 0 [] := rfl
theorem tbX8_areUnlike_25 {k : Instr → Nat → Nat → Nat → List Nat → Prop} : xse (xFind tbX8_areUnlike 25) k = k (.iaload) 23 0 0 [] := rfl
theorem tbX8_areUnlike_26 {k : Instr → Nat → Nat → Nat → List Nat → Prop} : xse (xFind tbX8_areUnlike 26) k = k (.iconst 1) 0 0 0 [] := rfl
theorem tbX8_areUnlike_27 {k : Instr → Nat → Nat → Nat → List Nat → Prop} : xse (xFind tbX8_areUnlike 27) k = k (.if_icmp .ne 17) 44 0 0 [] := rfl
theorem tbX8_areUnlike_30 {k : Instr → Nat → Nat → Nat → List Nat → Prop} : xse (xFind tbX8_areUnlike 30) k = k (.aload_n 0) 0 0 0 [] := rfl
theorem tbX8_areUnlike_31 {k : Instr → Nat → Nat → Nat → List Nat → Prop} : xse (xFind tbX8_areUnlike 31) k = k (.getfield 62) 9 23 2 [] := rfl
theorem tbX8_areUnlike_34 {k : Instr → Nat → Nat → Nat → List Nat → Prop} : xse (xFind tbX8_areUnlike 34) k = k (.iload_n 2) 2 0 0 [] := rfl
theorem tbX8_areUnlike_35 {k : Instr → Nat → Nat → Nat → List Nat → Prop} : xse (xFind tbX8_areUnlike 35) k = k (.iaload) 23 0 0 [] := rfl
theorem tbX8_areUnlike_36 {k : Instr → Nat → Nat → Nat → List Nat → Prop} : xse (xFind tbX8_areUnlike 36) k = k (.iconst 2) 0 0 0 [] := rfl
theorem tbX8_areUnlike_37 {k : Instr → Nat → Nat → Nat → List Nat → Prop} : xse (xFind tbX8_areUnlike 37) k = k (.if_icmp .ne 7) 44 0 0 [] := rfl
theorem tbX8_areUnlike_40 {k : Instr → Nat → Nat → Nat → List Nat → Prop} : xse (xFind tbX8_areUnlike 40) k = k (.iconst 1) 0 0 0 [] := rfl
theorem tbX8_areUnlike_41 {k : Instr → Nat → Nat → Nat → List Nat → Prop} : xse (xFind tbX8_areUnlike 41) k = k (.goto 4) 45 0 0 [] := rfl
theorem tbX8_areUnlike_44 {k : Instr → Nat → Nat → Nat → List Nat → Prop} : xse (xFind tbX8_areUnlike 44) k = k (.iconst 0) 0 0 0 [] := rfl
theorem tbX8_areUnlike_45 {k : Instr → Nat → Nat → Nat → List Nat → Prop} : xse (xFind tbX8_areUnlike 45) k = k (.istore_n 3) 3 0 0 [] := rfl
theorem tbX8_areUnlike_46 {k : Instr → Nat → Nat → Nat → List Nat → Prop} : xse (xFind tbX8_areUnlike 46) k = k (.iload_n 3) 3 0 0 [] := rfl
theorem tbX8_areUnlike_47 {k : Instr → Nat → Nat → Nat → List Nat → Prop} : xse (xFind tbX8_areUnlike 47) k = k (.ifCond .eq 25) 72 0 0 [] := rfl
theorem tbX8_areUnlike_50 {k : Instr → Nat → Nat → Nat → List Nat → Prop} : xse (xFind tbX8_areUnlike 50) k = k (.aload_n 0) 0 0 0 [] := rfl
theorem tbX8_areUnlike_51 {k : Instr → Nat → Nat → Nat → List Nat → Prop} : xse (xFind tbX8_areUnlike 51) k = k (.getfield 65) 9 24 2 [] := rfl
theorem tbX8_areUnlike_54 {k : Instr → Nat → Nat → Nat → List Nat → Prop} : xse (xFind tbX8_areUnlike 54) k = k (.iload_n 1) 1 0 0 [] := rfl
theorem tbX8_areUnlike_55 {k : Instr → Nat → Nat → Nat → List Nat → Prop} : xse (xFind tbX8_areUnlike 55) k = k (.iaload) 24 0 0 [] := rfl
theorem tbX8_areUnlike_56 {k : Instr → Nat → Nat → Nat → List Nat → Prop} : xse (xFind tbX8_areUnlike 56) k = k (.ifCond .le 16) 72 0 0 [] := rfl
theorem tbX8_areUnlike_59 {k : Instr → Nat → Nat → Nat → List Nat → Prop} : xse (xFind tbX8_areUnlike 59) k = k (.aload_n 0) 0 0 0 [] := rfl
theorem tbX8_areUnlike_60 {k : Instr → Nat → Nat → Nat → List Nat → Prop} : xse (xFind tbX8_areUnlike 60) k = k (.getfield 65) 9 24 2 [] := rfl
theorem tbX8_areUnlike_63 {k : Instr → Nat → Nat → Nat → List Nat → Prop} : xse (xFind tbX8_areUnlike 63) k = k (.iload_n 2) 2 0 0 [] := rfl
theorem tbX8_areUnlike_64 {k : Instr → Nat → Nat → Nat → List Nat → Prop} : xse (xFind tbX8_areUnlike 64) k = k (.iaload) 24 0 0 [] := rfl
theorem tbX8_areUnlike_65 {k : Instr → Nat → Nat → Nat → List Nat → Prop} : xse (xFind tbX8_areUnlike 65) k = k (.ifCond .le 7) 72 0 0 [] := rfl
theorem tbX8_areUnlike_68 {k : Instr → Nat → Nat → Nat → List Nat → Prop} : xse (xFind tbX8_areUnlike 68) k = k (.iconst 1) 0 0 0 [] := rfl
theorem tbX8_areUnlike_69 {k : Instr → Nat → Nat → Nat → List Nat → Prop} : xse (xFind tbX8_areUnlike 69) k = k (.goto 4) 73 0 0 [] := rfl
theorem tbX8_areUnlike_72 {k : Instr → Nat → Nat → Nat → List Nat → Prop} : xse (xFind tbX8_areUnlike 72) k = k (.iconst 0) 0 0 0 [] := rfl
theorem tbX8_areUnlike_73 {k : Instr → Nat → Nat → Nat → List Nat → Prop} : xse (xFind tbX8_areUnlike 73) k = k (.ireturn) 1 0 0 [] := rfl

def spX8_areUnlike (aM : Nat → Nat) : xSp mS := (fun av M => (0, 0), fun av M K => ∃ (a : Int32) (b : Int32), av = [.ref (aM 0), .int a, .int b] ∧ (vp_in a 24 ∧ vp_in b 24 ∧ K (rI (mUb M a b)) M))
theorem spcX8_areUnlike {av : List Value} {M : mS} {aM : Nat → Nat} : (spX8_areUnlike aM).1 av M = (0, 0) := rfl
theorem spwX8_areUnlike {M : mS} {aM : Nat → Nat} {K : xRes → mS → Prop} {a : Int32} {b : Int32} : (spX8_areUnlike aM).2 [.ref (aM 0), .int a, .int b] M K = (vp_in a 24 ∧ vp_in b 24 ∧ K (rI (mUb M a b)) M) :=
  propext ⟨fun h => by
    simp only [spX8_areUnlike] at h
    obtain ⟨_, _, e, h⟩ := h
    simp only [List.cons.injEq, Value.int.injEq, Value.ref.injEq, rf_eq, and_true, true_and] at e
    obtain ⟨rfl, rfl⟩ := e
    exact h, fun h => ⟨_, _, rfl, h⟩⟩

set_option maxHeartbeats 4000000 in
set_option maxRecDepth 20000 in
theorem semX8_areUnlike (l : Launch) (W9 : xWd) (aM : Nat → Nat) (hi : mInj aM) : xSem l W9 (mI aM) yX8_areUnlike wsX8_areUnlike 0 0 (spX8_areUnlike aM) := by
  refine xSem_of (call := fun _ => none) (thrf := fun _ => "") (mI_law hi) (by decide +kernel) rfl ckX8_areUnlike usX8_areUnlike xCallsOK_nil xThrOK_nil ?_ ?_
  · intro av M KF h
    obtain ⟨a, b, rfl, h⟩ := h
    exact ⟨by intro v hv; simp only [List.mem_cons, List.not_mem_nil, or_false] at hv; rcases hv with rfl | rfl | rfl <;> first | rfl | exact cat_rf, Nat.le_of_ble_eq_true rfl⟩
  intro av M KF h G hG
  obtain ⟨a, b, rfl, h⟩ := h
  rw [show (spX8_areUnlike aM).1 _ M = _ from spcX8_areUnlike] at hG
  try dsimp only at hG
  change G 0 [some (.ref (aM 0)), some (.int a), some (.int b), none] [] M 0 0
  obtain ⟨h1, h2, h⟩ := h
  refine xgo0 hG (fun fu hfu => ?_)
  clear hG
  simp only [ki_0, ki_1, ki_2, ↓ma_23, ↓ma_24, ↓mg_23, ↓mg_24, ↓vm_aload_n, ↓vm_getfield, ↓vm_goto, ↓vm_iaload, ↓vm_iconst, ↓vm_ifCond_eq, ↓vm_ifCond_le, ↓vm_if_icmp_eq, ↓vm_if_icmp_ne, ↓vm_iload_n, ↓vm_ireturn, ↓vm_istore_n, ↓tbX8_areUnlike_0, ↓tbX8_areUnlike_1, ↓tbX8_areUnlike_4, ↓tbX8_areUnlike_5, ↓tbX8_areUnlike_6, ↓tbX8_areUnlike_7, ↓tbX8_areUnlike_10, ↓tbX8_areUnlike_11, ↓tbX8_areUnlike_14, ↓tbX8_areUnlike_15, ↓tbX8_areUnlike_16, ↓tbX8_areUnlike_17, ↓tbX8_areUnlike_20, ↓tbX8_areUnlike_21, ↓tbX8_areUnlike_24, ↓tbX8_areUnlike_25, ↓tbX8_areUnlike_26, ↓tbX8_areUnlike_27, ↓tbX8_areUnlike_30, ↓tbX8_areUnlike_31, ↓tbX8_areUnlike_34, ↓tbX8_areUnlike_35, ↓tbX8_areUnlike_36, ↓tbX8_areUnlike_37, ↓tbX8_areUnlike_40, ↓tbX8_areUnlike_41, ↓tbX8_areUnlike_44, ↓tbX8_areUnlike_45, ↓tbX8_areUnlike_46, ↓tbX8_areUnlike_47, ↓tbX8_areUnlike_50, ↓tbX8_areUnlike_51, ↓tbX8_areUnlike_54, ↓tbX8_areUnlike_55, ↓tbX8_areUnlike_56, ↓tbX8_areUnlike_59, ↓tbX8_areUnlike_60, ↓tbX8_areUnlike_63, ↓tbX8_areUnlike_64, ↓tbX8_areUnlike_65, ↓tbX8_areUnlike_68, ↓tbX8_areUnlike_69, ↓tbX8_areUnlike_72, ↓tbX8_areUnlike_73, hfu, xstep0, xJ1_hit, xJ1_go, xJ2_hit1, xJ2_hit2, xJ2_go, ↓xif_t, ↓xif_f, seval, ↓xca_eq, ↓xre_l, ↓xre_r, xmask_t, xmask_f, xmask_nil, ↓xst_eq, xX_eq, eI_eq, eMc_eq, eMs_eq, eF_eq, eThr_eq, ↓xS1_mk, ↓xSI_mk, ↓xSR_mk, ↓xLI_0, ↓xLI_s, ↓xLR_0, ↓xLR_s, vRef_ref, vRef_null, vRef_rf, cat_int, cat_ref, cat_null, cat_rf, rf_some, rf_none, rf_null, rf_eq, rf_ref, ref_rf, ref_null, ref_ref, xOk_0, xOk_1, xOk_2r, xOk_2n, xOk_2f, vOpt_rf, vOpt_ref, vOpt_null, List.set_cons_zero, List.set_cons_succ, List.take_succ_cons, List.take_zero, List.drop_succ_cons, List.drop_zero, List.reverse_cons, List.reverse_nil, List.nil_append, List.cons_append, List.append_nil, List.length_cons, List.length_nil, List.map_cons, List.map_nil, List.sum_cons, List.sum_nil, Option.toList_some, Option.toList_none, xRecv_mk, true_and, and_true, true_implies, Nat.reduceAdd, Nat.reduceLeDiff, Nat.zero_le, Nat.le_refl, Nat.add_zero, Nat.zero_add, reduceIte, not_true_eq_false, not_false_eq_true, false_implies, and_self, implies_true, eq_self, Nat.reduceEqDiff, List.cons.injEq, xsn_1, xsn_2, false_and, and_false, or_false, false_or, or_true, true_or, xsn_3, xsn_4, h1, h2]
  try simp only [xif_e]
  unfold mUb at h
  repeat' (first | with_reducible apply And.intro | with_reducible intro _)
  all_goals grind [bi]

def tbX8_isDangerous : List (Nat × xHint) := [(0, .aload_n 0, 0, 0, 0, []), (1, .getfield 110, 9, 40, 2, []), (4, .iload_n 1, 1, 0, 0, []), (5, .iaload, 40, 0, 0, []), (6, .istore_n 3, 3, 0, 0, []), (7, .iconst 0, 0, 0, 0, []), (8, .istore 4, 4, 0, 0, []), (10, .iconst 0, 0, 0, 0, []), (11, .istore 5, 5, 0, 0, []), (13, .iload 5, 5, 0, 0, []), (15, .iload_n 2, 2, 0, 0, []), (16, .if_icmp .ge 125, 141, 0, 0, []), (19, .iload 4, 4, 0, 0, []), (21, .ifCond .ne 54, 75, 0, 0, []), (24, .iload 5, 5, 0, 0, []), (26, .iload_n 3, 3, 0, 0, []), (27, .irem, 0, 0, 0, []), (28, .iconst 1, 0, 0, 0, []), (29, .iadd, 0, 0, 0, []), (30, .iload_n 3, 3, 0, 0, []), (31, .if_icmp .ge 48, 79, 0, 0, []), (34, .iload 5, 5, 0, 0, []), (36, .iconst 1, 0, 0, 0, []), (37, .iadd, 0, 0, 0, []), (38, .iload_n 2, 2, 0, 0, []), (39, .if_icmp .ge 40, 79, 0, 0, []), (42, .aload_n 0, 0, 0, 0, []), (43, .aload_n 0, 0, 0, 0, []), (44, .getfield 113, 9, 41, 2, []), (47, .bipush 12, 0, 0, 0, []), (49, .iload_n 1, 1, 0, 0, []), (50, .imul, 0, 0, 0, []), (51, .iload 5, 5, 0, 0, []), (53, .iadd, 0, 0, 0, []), (54, .iaload, 41, 0, 0, []), (55, .aload_n 0, 0, 0, 0, []), (56, .getfield 113, 9, 41, 2, []), (59, .bipush 12, 0, 0, 0, []), (61, .iload_n 1, 1, 0, 0, []), (62, .imul, 0, 0, 0, []), (63, .iload 5, 5, 0, 0, []), (65, .iadd, 0, 0, 0, []), (66, .iconst 1, 0, 0, 0, []), (67, .iadd, 0, 0, 0, []), (68, .iaload, 41, 0, 0, []), (69, .invokevirtual 256, 0, 3, 9, []), (72, .ifCond .eq 7, 79, 0, 0, []), (75, .iconst 1, 0, 0, 0, []), (76, .goto 4, 80, 0, 0, []), (79, .iconst 0, 0, 0, 0, []), (80, .istore 4, 4, 0, 0, []), (82, .iload 4, 4, 0, 0, []), (84, .ifCond .ne 44, 128, 0, 0, []), (87, .iload 5, 5, 0, 0, []), (89, .iload_n 3, 3, 0, 0, []), (90, .iadd, 0, 0, 0, []), (91, .iload_n 2, 2, 0, 0, []), (92, .if_icmp .ge 40, 132, 0, 0, []), (95, .aload_n 0, 0, 0, 0, []), (96, .aload_n 0, 0, 0, 0, []), (97, .getfield 113, 9, 41, 2, []), (100, .bipush 12, 0, 0, 0, []), (102, .iload_n 1, 1, 0, 0, []), (103, .imul, 0, 0, 0, []), (104, .iload 5, 5, 0, 0, []), (106, .iadd, 0, 0, 0, []), (107, .iaload, 41, 0, 0, []), (108, .aload_n 0, 0, 0, 0, []), (109, .getfield 113, 9, 41, 2, []), (112, .bipush 12, 0, 0, 0, []), (114, .iload_n 1, 1, 0, 0, []), (115, .imul, 0, 0, 0, []), (116, .iload 5, 5, 0, 0, []), (118, .iadd, 0, 0, 0, []), (119, .iload_n 3, 3, 0, 0, []), (120, .iadd, 0, 0, 0, []), (121, .iaload, 41, 0, 0, []), (122, .invokevirtual 256, 0, 3, 9, []), (125, .ifCond .eq 7, 132, 0, 0, []), (128, .iconst 1, 0, 0, 0, []), (129, .goto 4, 133, 0, 0, []), (132, .iconst 0, 0, 0, 0, []), (133, .istore 4, 4, 0, 0, []), (135, .iinc 5 1, 5, 0, 0, []), (138, .goto (-125), 13, 0, 0, []), (141, .iload 4, 4, 0, 0, []), (143, .ireturn, 1, 0, 0, [])]
def clX8_isDangerous : List (Instr × Nat × Nat × Nat) := [(.invokevirtual 256, 0, 3, 9)]
def thX8_isDangerous : List (Nat × Nat) := []
theorem ckX8_isDangerous : tbX8_isDangerous.all (xRow RX8 cX8_isDangerous wsX8_isDangerous vwCl [9] clX8_isDangerous thX8_isDangerous 6 (yX8_isDangerous.name == "<init>") (some .boolean)) = true := xRow_q 0xac041583ffa70105840436030400a7040700990001b62e601d600515681b0c107100b42a2e600515681b0c107100b42a2a2800a21c601d05152c009a04150436030400a7040700990001b62e6004600515681b0c107100b42a2e600515681b0c107100b42a2a2800a21c600405153000a21d6004701d051536009a04157d00a21c05150536030436033e2e1b6e00b42a 144 (by decide +kernel) (by decide +kernel)
theorem usX8_isDangerous : xUse wsX8_isDangerous vwCl [9] = true := xUse_g rfl (lw_good lwl_X8_isDangerous lwl_X80 (by decide +kernel)) xUse_n
theorem tbX8_isDangerous_0 {k : Instr → Nat → Nat → Nat → List Nat → Prop} : xse (xFind tbX8_isDangerous 0) k = k (.aload_n 0) 0 0 0 [] := rfl
theorem tbX8_isDangerous_1 {k : Instr → Nat → Nat → Nat → List Nat → Prop} : xse (xFind tbX8_isDangerous 1) k = k (.getfield 110) 9 40 2 [] := rfl
theorem tbX8_isDangerous_4 {k : Instr → Nat → Nat → Nat → List Nat → Prop} : xse (xFind tbX8_isDangerous 4) k = k (.iload_n 1) 1 0 0 [] := rfl
theorem tbX8_isDangerous_5 {k : Instr → Nat → Nat → Nat → List Nat → Prop} : xse (xFind tbX8_isDangerous 5) k = k (.iaload) 40 0 0 [] := rfl
theorem tbX8_isDangerous_6 {k : Instr → Nat → Nat → Nat → List Nat → Prop} : xse (xFind tbX8_isDangerous 6) k = k (.istore_n 3) 3 0 0 [] := rfl
theorem tbX8_isDangerous_7 {k : Instr → Nat → Nat → Nat → List Nat → Prop} : xse (xFind tbX8_isDangerous 7) k = k (.iconst 0) 0 0 0 [] := rfl
theorem tbX8_isDangerous_8 {k : Instr → Nat → Nat → Nat → List Nat → Prop} : xse (xFind tbX8_isDangerous 8) k = k (.istore 4) 4 0 0 [] := rfl
theorem tbX8_isDangerous_10 {k : Instr → Nat → Nat → Nat → List Nat → Prop} : xse (xFind tbX8_isDangerous 10) k = k (.iconst 0) 0 0 0 [] := rfl
theorem tbX8_isDangerous_11 {k : Instr → Nat → Nat → Nat → List Nat → Prop} : xse (xFind tbX8_isDangerous 11) k = k (.istore 5) 5 0 0 [] := rfl
theorem tbX8_isDangerous_13 {k : Instr → Nat → Nat → Nat → List Nat → Prop} : xse (xFind tbX8_isDangerous 13) k = k (.iload 5) 5 0 0 [] := rfl
theorem tbX8_isDangerous_15 {k : Instr → Nat → Nat → Nat → List Nat → Prop} : xse (xFind tbX8_isDangerous 15) k = k (.iload_n 2) 2 0 0 [] := rfl
theorem tbX8_isDangerous_16 {k : Instr → Nat → Nat → Nat → List Nat → Prop} : xse (xFind tbX8_isDangerous 16) k = k (.if_icmp .ge 125) 141 0 0 [] := rfl
theorem tbX8_isDangerous_19 {k : Instr → Nat → Nat → Nat → List Nat → Prop} : xse (xFind tbX8_isDangerous 19) k = k (.iload 4) 4 0 0 [] := rfl
theorem tbX8_isDangerous_21 {k : Instr → Nat → Nat → Nat → List Nat → Prop} : xse (xFind tbX8_isDangerous 21) k = k (.ifCond .ne 54) 75 0 0 [] := rfl
theorem tbX8_isDangerous_24 {k : Instr → Nat → Nat → Nat → List Nat → Prop} : xse (xFind tbX8_isDangerous 24) k = k (.iload 5) 5 0 0 [] := rfl
theorem tbX8_isDangerous_26 {k : Instr → Nat → Nat → Nat → List Nat → Prop} : xse (xFind tbX8_isDangerous 26) k = k (.iload_n 3) 3 0 0 [] := rfl
theorem tbX8_isDangerous_27 {k : Instr → Nat → Nat → Nat → List Nat → Prop} : xse (xFind tbX8_isDangerous 27) k = k (.irem) 0 0 0 [] := rfl
theorem tbX8_isDangerous_28 {k : Instr → Nat → Nat → Nat → List Nat → Prop} : xse (xFind tbX8_isDangerous 28) k = k (.iconst 1) 0 0 0 [] := rfl
theorem tbX8_isDangerous_29 {k : Instr → Nat → Nat → Nat → List Nat → Prop} : xse (xFind tbX8_isDangerous 29) k = k (.iadd) 0 0 0 [] := rfl
theorem tbX8_isDangerous_30 {k : Instr → Nat → Nat → Nat → List Nat → Prop} : xse (xFind tbX8_isDangerous 30) k = k (.iload_n 3) 3 0 0 [] := rfl
theorem tbX8_isDangerous_31 {k : Instr → Nat → Nat → Nat → List Nat → Prop} : xse (xFind tbX8_isDangerous 31) k = k (.if_icmp .ge 48) 79 0 0 [] := rfl
theorem tbX8_isDangerous_34 {k : Instr → Nat → Nat → Nat → List Nat → Prop} : xse (xFind tbX8_isDangerous 34) k = k (.iload 5) 5 0 0 [] := rfl
theorem tbX8_isDangerous_36 {k : Instr → Nat → Nat → Nat → List Nat → Prop} : xse (xFind tbX8_isDangerous 36) k = k (.iconst 1) 0 0 0 [] := rfl
theorem tbX8_isDangerous_37 {k : Instr → Nat → Nat → Nat → List Nat → Prop} : xse (xFind tbX8_isDangerous 37) k = k (.iadd) 0 0 0 [] := rfl
theorem tbX8_isDangerous_38 {k : Instr → Nat → Nat → Nat → List Nat → Prop} : xse (xFind tbX8_isDangerous 38) k = k (.iload_n 2) 2 0 0 [] := rfl
theorem tbX8_isDangerous_39 {k : Instr → Nat → Nat → Nat → List Nat → Prop} : xse (xFind tbX8_isDangerous 39) k = k (.if_icmp .ge 40) 79 0 0 [] := rfl
theorem tbX8_isDangerous_42 {k : Instr → Nat → Nat → Nat → List Nat → Prop} : xse (xFind tbX8_isDangerous 42) k = k (.aload_n 0) 0 0 0 [] := rfl
theorem tbX8_isDangerous_43 {k : Instr → Nat → Nat → Nat → List Nat → Prop} : xse (xFind tbX8_isDangerous 43) k = k (.aload_n 0) 0 0 0 [] := rfl
theorem tbX8_isDangerous_44 {k : Instr → Nat → Nat → Nat → List Nat → Prop} : xse (xFind tbX8_isDangerous 44) k = k (.getfield 113) 9 41 2 [] := rfl
theorem tbX8_isDangerous_47 {k : Instr → Nat → Nat → Nat → List Nat → Prop} : xse (xFind tbX8_isDangerous 47) k = k (.bipush 12) 0 0 0 [] := rfl
theorem tbX8_isDangerous_49 {k : Instr → Nat → Nat → Nat → List Nat → Prop} : xse (xFind tbX8_isDangerous 49) k = k (.iload_n 1) 1 0 0 [] := rfl
theorem tbX8_isDangerous_50 {k : Instr → Nat → Nat → Nat → List Nat → Prop} : xse (xFind tbX8_isDangerous 50) k = k (.imul) 0 0 0 [] := rfl
theorem tbX8_isDangerous_51 {k : Instr → Nat → Nat → Nat → List Nat → Prop} : xse (xFind tbX8_isDangerous 51) k = k (.iload 5) 5 0 0 [] := rfl
theorem tbX8_isDangerous_53 {k : Instr → Nat → Nat → Nat → List Nat → Prop} : xse (xFind tbX8_isDangerous 53) k = k (.iadd) 0 0 0 [] := rfl
theorem tbX8_isDangerous_54 {k : Instr → Nat → Nat → Nat → List Nat → Prop} : xse (xFind tbX8_isDangerous 54) k = k (.iaload) 41 0 0 [] := rfl
theorem tbX8_isDangerous_55 {k : Instr → Nat → Nat → Nat → List Nat → Prop} : xse (xFind tbX8_isDangerous 55) k = k (.aload_n 0) 0 0 0 [] := rfl
theorem tbX8_isDangerous_56 {k : Instr → Nat → Nat → Nat → List Nat → Prop} : xse (xFind tbX8_isDangerous 56) k = k (.getfield 113) 9 41 2 [] := rfl
theorem tbX8_isDangerous_59 {k : Instr → Nat → Nat → Nat → List Nat → Prop} : xse (xFind tbX8_isDangerous 59) k = k (.bipush 12) 0 0 0 [] := rfl
theorem tbX8_isDangerous_61 {k : Instr → Nat → Nat → Nat → List Nat → Prop} : xse (xFind tbX8_isDangerous 61) k = k (.iload_n 1) 1 0 0 [] := rfl
theorem tbX8_isDangerous_62 {k : Instr → Nat → Nat → Nat → List Nat → Prop} : xse (xFind tbX8_isDangerous 62) k = k (.imul) 0 0 0 [] := rfl
theorem tbX8_isDangerous_63 {k : Instr → Nat → Nat → Nat → List Nat → Prop} : xse (xFind tbX8_isDangerous 63) k = k (.iload 5) 5 0 0 [] := rfl
theorem tbX8_isDangerous_65 {k : Instr → Nat → Nat → Nat → List Nat → Prop} : xse (xFind tbX8_isDangerous 65) k = k (.iadd) 0 0 0 [] := rfl
theorem tbX8_isDangerous_66 {k : Instr → Nat → Nat → Nat → List Nat → Prop} : xse (xFind tbX8_isDangerous 66) k = k (.iconst 1) 0 0 0 [] := rfl
theorem tbX8_isDangerous_67 {k : Instr → Nat → Nat → Nat → List Nat → Prop} : xse (xFind tbX8_isDangerous 67) k = k (.iadd) 0 0 0 [] := rfl
theorem tbX8_isDangerous_68 {k : Instr → Nat → Nat → Nat → List Nat → Prop} : xse (xFind tbX8_isDangerous 68) k = k (.iaload) 41 0 0 [] := rfl
theorem tbX8_isDangerous_69 {k : Instr → Nat → Nat → Nat → List Nat → Prop} : xse (xFind tbX8_isDangerous 69) k = k (.invokevirtual 256) 0 3 9 [] := rfl
theorem tbX8_isDangerous_72 {k : Instr → Nat → Nat → Nat → List Nat → Prop} : xse (xFind tbX8_isDangerous 72) k = k (.ifCond .eq 7) 79 0 0 [] := rfl
theorem tbX8_isDangerous_75 {k : Instr → Nat → Nat → Nat → List Nat → Prop} : xse (xFind tbX8_isDangerous 75) k = k (.iconst 1) 0 0 0 [] := rfl
theorem tbX8_isDangerous_76 {k : Instr → Nat → Nat → Nat → List Nat → Prop} : xse (xFind tbX8_isDangerous 76) k = k (.goto 4) 80 0 0 [] := rfl
theorem tbX8_isDangerous_79 {k : Instr → Nat → Nat → Nat → List Nat → Prop} : xse (xFind tbX8_isDangerous 79) k = k (.iconst 0) 0 0 0 [] := rfl
theorem tbX8_isDangerous_80 {k : Instr → Nat → Nat → Nat → List Nat → Prop} : xse (xFind tbX8_isDangerous 80) k = k (.istore 4) 4 0 0 [] := rfl
theorem tbX8_isDangerous_82 {k : Instr → Nat → Nat → Nat → List Nat → Prop} : xse (xFind tbX8_isDangerous 82) k = k (.iload 4) 4 0 0 [] := rfl
theorem tbX8_isDangerous_84 {k : Instr → Nat → Nat → Nat → List Nat → Prop} : xse (xFind tbX8_isDangerous 84) k = k (.ifCond .ne 44) 128 0 0 [] := rfl
theorem tbX8_isDangerous_87 {k : Instr → Nat → Nat → Nat → List Nat → Prop} : xse (xFind tbX8_isDangerous 87) k = k (.iload 5) 5 0 0 [] := rfl
theorem tbX8_isDangerous_89 {k : Instr → Nat → Nat → Nat → List Nat → Prop} : xse (xFind tbX8_isDangerous 89) k = k (.iload_n 3) 3 0 0 [] := rfl
theorem tbX8_isDangerous_90 {k : Instr → Nat → Nat → Nat → List Nat → Prop} : xse (xFind tbX8_isDangerous 90) k = k (.iadd) 0 0 0 [] := rfl
theorem tbX8_isDangerous_91 {k : Instr → Nat → Nat → Nat → List Nat → Prop} : xse (xFind tbX8_isDangerous 91) k = k (.iload_n 2) 2 0 0 [] := rfl
theorem tbX8_isDangerous_92 {k : Instr → Nat → Nat → Nat → List Nat → Prop} : xse (xFind tbX8_isDangerous 92) k = k (.if_icmp .ge 40) 132 0 0 [] := rfl
theorem tbX8_isDangerous_95 {k : Instr → Nat → Nat → Nat → List Nat → Prop} : xse (xFind tbX8_isDangerous 95) k = k (.aload_n 0) 0 0 0 [] := rfl
theorem tbX8_isDangerous_96 {k : Instr → Nat → Nat → Nat → List Nat → Prop} : xse (xFind tbX8_isDangerous 96) k = k (.aload_n 0) 0 0 0 [] := rfl
theorem tbX8_isDangerous_97 {k : Instr → Nat → Nat → Nat → List Nat → Prop} : xse (xFind tbX8_isDangerous 97) k = k (.getfield 113) 9 41 2 [] := rfl
theorem tbX8_isDangerous_100 {k : Instr → Nat → Nat → Nat → List Nat → Prop} : xse (xFind tbX8_isDangerous 100) k = k (.bipush 12) 0 0 0 [] := rfl
theorem tbX8_isDangerous_102 {k : Instr → Nat → Nat → Nat → List Nat → Prop} : xse (xFind tbX8_isDangerous 102) k = k (.iload_n 1) 1 0 0 [] := rfl
theorem tbX8_isDangerous_103 {k : Instr → Nat → Nat → Nat → List Nat → Prop} : xse (xFind tbX8_isDangerous 103) k = k (.imul) 0 0 0 [] := rfl
theorem tbX8_isDangerous_104 {k : Instr → Nat → Nat → Nat → List Nat → Prop} : xse (xFind tbX8_isDangerous 104) k = k (.iload 5) 5 0 0 [] := rfl
theorem tbX8_isDangerous_106 {k : Instr → Nat → Nat → Nat → List Nat → Prop} : xse (xFind tbX8_isDangerous 106) k = k (.iadd) 0 0 0 [] := rfl
theorem tbX8_isDangerous_107 {k : Instr → Nat → Nat → Nat → List Nat → Prop} : xse (xFind tbX8_isDangerous 107) k = k (.iaload) 41 0 0 [] := rfl
theorem tbX8_isDangerous_108 {k : Instr → Nat → Nat → Nat → List Nat → Prop} : xse (xFind tbX8_isDangerous 108) k = k (.aload_n 0) 0 0 0 [] := rfl
theorem tbX8_isDangerous_109 {k : Instr → Nat → Nat → Nat → List Nat → Prop} : xse (xFind tbX8_isDangerous 109) k = k (.getfield 113) 9 41 2 [] := rfl
theorem tbX8_isDangerous_112 {k : Instr → Nat → Nat → Nat → List Nat → Prop} : xse (xFind tbX8_isDangerous 112) k = k (.bipush 12) 0 0 0 [] := rfl
theorem tbX8_isDangerous_114 {k : Instr → Nat → Nat → Nat → List Nat → Prop} : xse (xFind tbX8_isDangerous 114) k = k (.iload_n 1) 1 0 0 [] := rfl
theorem tbX8_isDangerous_115 {k : Instr → Nat → Nat → Nat → List Nat → Prop} : xse (xFind tbX8_isDangerous 115) k = k (.imul) 0 0 0 [] := rfl
theorem tbX8_isDangerous_116 {k : Instr → Nat → Nat → Nat → List Nat → Prop} : xse (xFind tbX8_isDangerous 116) k = k (.iload 5) 5 0 0 [] := rfl
theorem tbX8_isDangerous_118 {k : Instr → Nat → Nat → Nat → List Nat → Prop} : xse (xFind tbX8_isDangerous 118) k = k (.iadd) 0 0 0 [] := rfl
theorem tbX8_isDangerous_119 {k : Instr → Nat → Nat → Nat → List Nat → Prop} : xse (xFind tbX8_isDangerous 119) k = k (.iload_n 3) 3 0 0 [] := rfl
theorem tbX8_isDangerous_120 {k : Instr → Nat → Nat → Nat → List Nat → Prop} : xse (xFind tbX8_isDangerous 120) k = k (.iadd) 0 0 0 [] := rfl
theorem tbX8_isDangerous_121 {k : Instr → Nat → Nat → Nat → List Nat → Prop} : xse (xFind tbX8_isDangerous 121) k = k (.iaload) 41 0 0 [] := rfl
theorem tbX8_isDangerous_122 {k : Instr → Nat → Nat → Nat → List Nat → Prop} : xse (xFind tbX8_isDangerous 122) k = k (.invokevirtual 256) 0 3 9 [] := rfl
theorem tbX8_isDangerous_125 {k : Instr → Nat → Nat → Nat → List Nat → Prop} : xse (xFind tbX8_isDangerous 125) k = k (.ifCond .eq 7) 132 0 0 [] := rfl
theorem tbX8_isDangerous_128 {k : Instr → Nat → Nat → Nat → List Nat → Prop} : xse (xFind tbX8_isDangerous 128) k = k (.iconst 1) 0 0 0 [] := rfl
theorem tbX8_isDangerous_129 {k : Instr → Nat → Nat → Nat → List Nat → Prop} : xse (xFind tbX8_isDangerous 129) k = k (.goto 4) 133 0 0 [] := rfl
theorem tbX8_isDangerous_132 {k : Instr → Nat → Nat → Nat → List Nat → Prop} : xse (xFind tbX8_isDangerous 132) k = k (.iconst 0) 0 0 0 [] := rfl
theorem tbX8_isDangerous_133 {k : Instr → Nat → Nat → Nat → List Nat → Prop} : xse (xFind tbX8_isDangerous 133) k = k (.istore 4) 4 0 0 [] := rfl
theorem tbX8_isDangerous_135 {k : Instr → Nat → Nat → Nat → List Nat → Prop} : xse (xFind tbX8_isDangerous 135) k = k (.iinc 5 1) 5 0 0 [] := rfl
theorem tbX8_isDangerous_138 {k : Instr → Nat → Nat → Nat → List Nat → Prop} : xse (xFind tbX8_isDangerous 138) k = k (.goto (-125)) 13 0 0 [] := rfl
theorem tbX8_isDangerous_141 {k : Instr → Nat → Nat → Nat → List Nat → Prop} : xse (xFind tbX8_isDangerous 141) k = k (.iload 4) 4 0 0 [] := rfl
theorem tbX8_isDangerous_143 {k : Instr → Nat → Nat → Nat → List Nat → Prop} : xse (xFind tbX8_isDangerous 143) k = k (.ireturn) 1 0 0 [] := rfl

def spX8_isDangerous (aM : Nat → Nat) : xSp mS := (fun av M => (0, 0), fun av M K => ∃ (b : Int32) (m : Int32), av = [.ref (aM 0), .int b, .int m] ∧ (vp_in b 6 ∧ mWk M b.toNatClampNeg ∧ mTn M b.toNatClampNeg m ∧ K (rI (bi (mDgr M b.toNatClampNeg m.toNatClampNeg = true))) M))
theorem spcX8_isDangerous {av : List Value} {M : mS} {aM : Nat → Nat} : (spX8_isDangerous aM).1 av M = (0, 0) := rfl
theorem spwX8_isDangerous {M : mS} {aM : Nat → Nat} {K : xRes → mS → Prop} {b : Int32} {m : Int32} : (spX8_isDangerous aM).2 [.ref (aM 0), .int b, .int m] M K = (vp_in b 6 ∧ mWk M b.toNatClampNeg ∧ mTn M b.toNatClampNeg m ∧ K (rI (bi (mDgr M b.toNatClampNeg m.toNatClampNeg = true))) M) :=
  propext ⟨fun h => by
    simp only [spX8_isDangerous] at h
    obtain ⟨_, _, e, h⟩ := h
    simp only [List.cons.injEq, Value.int.injEq, Value.ref.injEq, rf_eq, and_true, true_and] at e
    obtain ⟨rfl, rfl⟩ := e
    exact h, fun h => ⟨_, _, rfl, h⟩⟩

def callX8_isDangerous (aM : Nat → Nat) : Nat → Option (xSp mS) := fun n => match n with | 0 => some (spX8_areUnlike aM) | _ => none

theorem callX8_isDangerous_0 {aM : Nat → Nat} {k : xSp mS → Prop} : xcs (callX8_isDangerous aM 0) k = k (spX8_areUnlike aM) := rfl

theorem crX8_isDangerous (l : Launch) (W9 : xWd) (aM : Nat → Nat) (hi : mInj aM) : xCallsOK l W9 (mI aM) (callX8_isDangerous aM) clX8_isDangerous RX8 wsX8_isDangerous 1 23 6 := by
  intro E A p e R s m args below meth c hI hF hL X
  exact List.forall_mem_cons.mpr ⟨⟨_, rfl, xCR_V X (by rw [hI]; exact (semX8_areUnlike l W9 aM hi)) gX8_isDangerous_X8_areUnlike rfl rfl (by decide +kernel) (by rw [hF, hL]; decide)⟩,
    fun _ h => nomatch h⟩

set_option maxHeartbeats 4000000 in
set_option maxRecDepth 20000 in
theorem semX8_isDangerous (l : Launch) (W9 : xWd) (aM : Nat → Nat) (hi : mInj aM) : xSem l W9 (mI aM) yX8_isDangerous wsX8_isDangerous 1 23 (spX8_isDangerous aM) := by
  refine xSem_of (call := callX8_isDangerous aM) (thrf := fun _ => "") (mI_law hi) (by decide +kernel) rfl ckX8_isDangerous usX8_isDangerous (crX8_isDangerous l W9 aM hi) xThrOK_nil ?_ ?_
  · intro av M KF h
    obtain ⟨b, m, rfl, h⟩ := h
    exact ⟨by intro v hv; simp only [List.mem_cons, List.not_mem_nil, or_false] at hv; rcases hv with rfl | rfl | rfl <;> first | rfl | exact cat_rf, Nat.le_of_ble_eq_true rfl⟩
  intro av M KF h G hG
  obtain ⟨b, m, rfl, h⟩ := h
  rw [show (spX8_isDangerous aM).1 _ M = _ from spcX8_isDangerous] at hG
  try dsimp only at hG
  change G 0 [some (.ref (aM 0)), some (.int b), some (.int m), none, none, none] [] M 0 0
  obtain ⟨h1, ⟨n, hn, hn0, hn4⟩, ⟨c, rfl, hc, ht⟩, h⟩ := h

  obtain ⟨w, hw, rfl⟩ := vp_in_of h1 (by omega)
  rw [ix_nI (by omega)] at ht hn h
  rw [ix_nI (by omega)] at h
  have hh : mDgr M w c = mDg M w n c c := by unfold mDgr; rw [hn, ix_nI (by omega)]
  rw [hh] at h
  have loop := xloop hG 13 [true, true, true, true, true, true] (fun j lv st S cs ss => lv = [some (.ref (aM 0)), some (.int (nI w)), some (.int (nI c)), some (.int (nI n)), some (.int (bi (mDg M w n c j = true))), some (.int (nI j))] ∧ st = [] ∧ M = S ∧ cs = 0 ∧ ss = 0) c (by
      rintro j hj lv st S cs ss ⟨rfl, rfl, rfl, rfl, rfl⟩ fu hfu
      have e0 : ¬ nI n = 0 := nI_ne0 hn0 (by omega)
      have hlt := Nat.mod_lt j hn0
      have e1 : nI j - nI j / nI n * nI n = nI (j % n) := pk_rem (by omega) hn0 (by omega)
      have e2 : (nI n ≤ nI (j % n + 1)) = (n ≤ j % n + 1) := le_nI (by omega) (by omega)
      have e3 : (nI c ≤ nI (j + 1)) = (c ≤ j + 1) := le_nI (by omega) (by omega)
      have e4 : (nI c ≤ nI (j + n)) = (c ≤ j + n) := le_nI (by omega) (by omega)
      have e5 : c ≤ j + 1 ∨ vp_in (nI (12 * w + j + 1)) 72 := by rcases Nat.lt_or_ge (j + 1) c with q | q; exact Or.inr (xin_nI (by omega) (by omega)); exact Or.inl q
      have e6 : c ≤ j + n ∨ vp_in (nI (12 * w + j + n)) 72 := by rcases Nat.lt_or_ge (j + n) c with q | q; exact Or.inr (xin_nI (by omega) (by omega)); exact Or.inl q
      have e7 : c ≤ j + n ∨ vp_in (M.2 41 (12 * w + j + n)) 24 := by rcases Nat.lt_or_ge (j + n) c with q | q; exact Or.inr (by have z := ht (j + n) q; rwa [← Nat.add_assoc] at z); exact Or.inl q
      have e8 : c ≤ j + 1 ∨ vp_in (M.2 41 (12 * w + j + 1)) 24 := by rcases Nat.lt_or_ge (j + 1) c with q | q; exact Or.inr (ht (j + 1) q); exact Or.inl q
      have e9 : c ≤ j + n ∨ (nI (12 * w + j + n)).toNatClampNeg = 12 * w + j + n := by rcases Nat.lt_or_ge (j + n) c with q | q; exact Or.inr (ix_nI (by omega)); exact Or.inl q
      have e10 : (nI (12 * w + j + 1)).toNatClampNeg = 12 * w + j + 1 := ix_nI (by omega)
      have hm : mDg M w n c (j + 1) = (mDg M w n c j || decide (j % n + 1 < n ∧ j + 1 < c ∧ mUb M (M.2 41 (12 * w + j)) (M.2 41 (12 * w + j + 1)) = 1) || decide (j + n < c ∧ mUb M (M.2 41 (12 * w + j)) (M.2 41 (12 * w + j + n)) = 1)) := rfl
      have hu := mUb_01 M (M.2 41 (12 * w + j)) (M.2 41 (12 * w + j + 1))
      have hv := mUb_01 M (M.2 41 (12 * w + j)) (M.2 41 (12 * w + j + n))
      simp only [↓callX8_isDangerous_0, kb_12, kc_12, ki_0, ki_1, ↓ma_40, ↓ma_41, ↓mg_40, ↓mg_41, misa, ↓vm_aload_n, ↓vm_bipush, ↓vm_getfield, ↓vm_goto, ↓vm_iadd, ↓vm_iaload, ↓vm_iconst, ↓vm_ifCond_eq, ↓vm_ifCond_ne, ↓vm_if_icmp_ge, ↓vm_iinc, ↓vm_iload, ↓vm_iload_n, ↓vm_imul, ↓vm_invokevirtual, ↓vm_irem, ↓vm_ireturn, ↓vm_istore, ↓vm_istore_n, ↓xc_3, ↓tbX8_isDangerous_0, ↓tbX8_isDangerous_1, ↓tbX8_isDangerous_4, ↓tbX8_isDangerous_5, ↓tbX8_isDangerous_6, ↓tbX8_isDangerous_7, ↓tbX8_isDangerous_8, ↓tbX8_isDangerous_10, ↓tbX8_isDangerous_11, ↓tbX8_isDangerous_13, ↓tbX8_isDangerous_15, ↓tbX8_isDangerous_16, ↓tbX8_isDangerous_19, ↓tbX8_isDangerous_21, ↓tbX8_isDangerous_24, ↓tbX8_isDangerous_26, ↓tbX8_isDangerous_27, ↓tbX8_isDangerous_28, ↓tbX8_isDangerous_29, ↓tbX8_isDangerous_30, ↓tbX8_isDangerous_31, ↓tbX8_isDangerous_34, ↓tbX8_isDangerous_36, ↓tbX8_isDangerous_37, ↓tbX8_isDangerous_38, ↓tbX8_isDangerous_39, ↓tbX8_isDangerous_42, ↓tbX8_isDangerous_43, ↓tbX8_isDangerous_44, ↓tbX8_isDangerous_47, ↓tbX8_isDangerous_49, ↓tbX8_isDangerous_50, ↓tbX8_isDangerous_51, ↓tbX8_isDangerous_53, ↓tbX8_isDangerous_54, ↓tbX8_isDangerous_55, ↓tbX8_isDangerous_56, ↓tbX8_isDangerous_59, ↓tbX8_isDangerous_61, ↓tbX8_isDangerous_62, ↓tbX8_isDangerous_63, ↓tbX8_isDangerous_65, ↓tbX8_isDangerous_66, ↓tbX8_isDangerous_67, ↓tbX8_isDangerous_68, ↓tbX8_isDangerous_69, ↓tbX8_isDangerous_72, ↓tbX8_isDangerous_75, ↓tbX8_isDangerous_76, ↓tbX8_isDangerous_79, ↓tbX8_isDangerous_80, ↓tbX8_isDangerous_82, ↓tbX8_isDangerous_84, ↓tbX8_isDangerous_87, ↓tbX8_isDangerous_89, ↓tbX8_isDangerous_90, ↓tbX8_isDangerous_91, ↓tbX8_isDangerous_92, ↓tbX8_isDangerous_95, ↓tbX8_isDangerous_96, ↓tbX8_isDangerous_97, ↓tbX8_isDangerous_100, ↓tbX8_isDangerous_102, ↓tbX8_isDangerous_103, ↓tbX8_isDangerous_104, ↓tbX8_isDangerous_106, ↓tbX8_isDangerous_107, ↓tbX8_isDangerous_108, ↓tbX8_isDangerous_109, ↓tbX8_isDangerous_112, ↓tbX8_isDangerous_114, ↓tbX8_isDangerous_115, ↓tbX8_isDangerous_116, ↓tbX8_isDangerous_118, ↓tbX8_isDangerous_119, ↓tbX8_isDangerous_120, ↓tbX8_isDangerous_121, ↓tbX8_isDangerous_122, ↓tbX8_isDangerous_125, ↓tbX8_isDangerous_128, ↓tbX8_isDangerous_129, ↓tbX8_isDangerous_132, ↓tbX8_isDangerous_133, ↓tbX8_isDangerous_135, ↓tbX8_isDangerous_138, ↓tbX8_isDangerous_141, ↓tbX8_isDangerous_143, hfu, xstep0, xJ1_hit, xJ1_go, xJ2_hit1, xJ2_hit2, xJ2_go, ↓xif_t, ↓xif_f, seval, ↓xca_eq, ↓xre_l, ↓xre_r, xmask_t, xmask_f, xmask_nil, ↓xst_eq, xX_eq, eI_eq, eMc_eq, eMs_eq, eF_eq, eThr_eq, ↓xS1_mk, ↓xSI_mk, ↓xSR_mk, ↓xLI_0, ↓xLI_s, ↓xLR_0, ↓xLR_s, vRef_ref, vRef_null, vRef_rf, cat_int, cat_ref, cat_null, cat_rf, rf_some, rf_none, rf_null, rf_eq, rf_ref, ref_rf, ref_null, ref_ref, xOk_0, xOk_1, xOk_2r, xOk_2n, xOk_2f, vOpt_rf, vOpt_ref, vOpt_null, List.set_cons_zero, List.set_cons_succ, List.take_succ_cons, List.take_zero, List.drop_succ_cons, List.drop_zero, List.reverse_cons, List.reverse_nil, List.nil_append, List.cons_append, List.append_nil, List.length_cons, List.length_nil, List.map_cons, List.map_nil, List.sum_cons, List.sum_nil, Option.toList_some, Option.toList_none, xRecv_mk, true_and, and_true, true_implies, Nat.reduceAdd, Nat.reduceLeDiff, Nat.zero_le, Nat.le_refl, Nat.add_zero, Nat.zero_add, reduceIte, not_true_eq_false, not_false_eq_true, false_implies, and_self, implies_true, eq_self, Nat.reduceEqDiff, List.cons.injEq, xsn_1, xsn_2, false_and, and_false, or_false, false_or, or_true, true_or, xsn_3, xsn_4, ↓spwX8_areUnlike, spcX8_areUnlike, h1, hn, bi_0, ge_nI hj (show c < 1000 by omega), e0, m12_nI, add_nI, nI1, e1, e2, e3, e4, xin_nI (show 12 * w + j < 72 by omega) (by omega), ix_nI (show 12 * w + j < 1000 by omega), ht j hj, e10]
      try simp only [xif_e]
      rw [hm]
      simp only [Bool.or_eq_true, decide_eq_true_eq]
      repeat' (first | with_reducible apply And.intro | with_reducible intro _)
      all_goals grind [bi]) (by
      rintro lv st S cs ss ⟨rfl, rfl, rfl, rfl, rfl⟩ fu hfu
      simp only [↓callX8_isDangerous_0, kb_12, kc_12, ki_0, ki_1, ↓ma_40, ↓ma_41, ↓mg_40, ↓mg_41, misa, ↓vm_aload_n, ↓vm_bipush, ↓vm_getfield, ↓vm_goto, ↓vm_iadd, ↓vm_iaload, ↓vm_iconst, ↓vm_ifCond_eq, ↓vm_ifCond_ne, ↓vm_if_icmp_ge, ↓vm_iinc, ↓vm_iload, ↓vm_iload_n, ↓vm_imul, ↓vm_invokevirtual, ↓vm_irem, ↓vm_ireturn, ↓vm_istore, ↓vm_istore_n, ↓xc_3, ↓tbX8_isDangerous_0, ↓tbX8_isDangerous_1, ↓tbX8_isDangerous_4, ↓tbX8_isDangerous_5, ↓tbX8_isDangerous_6, ↓tbX8_isDangerous_7, ↓tbX8_isDangerous_8, ↓tbX8_isDangerous_10, ↓tbX8_isDangerous_11, ↓tbX8_isDangerous_13, ↓tbX8_isDangerous_15, ↓tbX8_isDangerous_16, ↓tbX8_isDangerous_19, ↓tbX8_isDangerous_21, ↓tbX8_isDangerous_24, ↓tbX8_isDangerous_26, ↓tbX8_isDangerous_27, ↓tbX8_isDangerous_28, ↓tbX8_isDangerous_29, ↓tbX8_isDangerous_30, ↓tbX8_isDangerous_31, ↓tbX8_isDangerous_34, ↓tbX8_isDangerous_36, ↓tbX8_isDangerous_37, ↓tbX8_isDangerous_38, ↓tbX8_isDangerous_39, ↓tbX8_isDangerous_42, ↓tbX8_isDangerous_43, ↓tbX8_isDangerous_44, ↓tbX8_isDangerous_47, ↓tbX8_isDangerous_49, ↓tbX8_isDangerous_50, ↓tbX8_isDangerous_51, ↓tbX8_isDangerous_53, ↓tbX8_isDangerous_54, ↓tbX8_isDangerous_55, ↓tbX8_isDangerous_56, ↓tbX8_isDangerous_59, ↓tbX8_isDangerous_61, ↓tbX8_isDangerous_62, ↓tbX8_isDangerous_63, ↓tbX8_isDangerous_65, ↓tbX8_isDangerous_66, ↓tbX8_isDangerous_67, ↓tbX8_isDangerous_68, ↓tbX8_isDangerous_69, ↓tbX8_isDangerous_72, ↓tbX8_isDangerous_75, ↓tbX8_isDangerous_76, ↓tbX8_isDangerous_79, ↓tbX8_isDangerous_80, ↓tbX8_isDangerous_82, ↓tbX8_isDangerous_84, ↓tbX8_isDangerous_87, ↓tbX8_isDangerous_89, ↓tbX8_isDangerous_90, ↓tbX8_isDangerous_91, ↓tbX8_isDangerous_92, ↓tbX8_isDangerous_95, ↓tbX8_isDangerous_96, ↓tbX8_isDangerous_97, ↓tbX8_isDangerous_100, ↓tbX8_isDangerous_102, ↓tbX8_isDangerous_103, ↓tbX8_isDangerous_104, ↓tbX8_isDangerous_106, ↓tbX8_isDangerous_107, ↓tbX8_isDangerous_108, ↓tbX8_isDangerous_109, ↓tbX8_isDangerous_112, ↓tbX8_isDangerous_114, ↓tbX8_isDangerous_115, ↓tbX8_isDangerous_116, ↓tbX8_isDangerous_118, ↓tbX8_isDangerous_119, ↓tbX8_isDangerous_120, ↓tbX8_isDangerous_121, ↓tbX8_isDangerous_122, ↓tbX8_isDangerous_125, ↓tbX8_isDangerous_128, ↓tbX8_isDangerous_129, ↓tbX8_isDangerous_132, ↓tbX8_isDangerous_133, ↓tbX8_isDangerous_135, ↓tbX8_isDangerous_138, ↓tbX8_isDangerous_141, ↓tbX8_isDangerous_143, hfu, xstep0, xJ1_hit, xJ1_go, xJ2_hit1, xJ2_hit2, xJ2_go, ↓xif_t, ↓xif_f, seval, ↓xca_eq, ↓xre_l, ↓xre_r, xmask_t, xmask_f, xmask_nil, ↓xst_eq, xX_eq, eI_eq, eMc_eq, eMs_eq, eF_eq, eThr_eq, ↓xS1_mk, ↓xSI_mk, ↓xSR_mk, ↓xLI_0, ↓xLI_s, ↓xLR_0, ↓xLR_s, vRef_ref, vRef_null, vRef_rf, cat_int, cat_ref, cat_null, cat_rf, rf_some, rf_none, rf_null, rf_eq, rf_ref, ref_rf, ref_null, ref_ref, xOk_0, xOk_1, xOk_2r, xOk_2n, xOk_2f, vOpt_rf, vOpt_ref, vOpt_null, List.set_cons_zero, List.set_cons_succ, List.take_succ_cons, List.take_zero, List.drop_succ_cons, List.drop_zero, List.reverse_cons, List.reverse_nil, List.nil_append, List.cons_append, List.append_nil, List.length_cons, List.length_nil, List.map_cons, List.map_nil, List.sum_cons, List.sum_nil, Option.toList_some, Option.toList_none, xRecv_mk, true_and, and_true, true_implies, Nat.reduceAdd, Nat.reduceLeDiff, Nat.zero_le, Nat.le_refl, Nat.add_zero, Nat.zero_add, reduceIte, not_true_eq_false, not_false_eq_true, false_implies, and_self, implies_true, eq_self, Nat.reduceEqDiff, List.cons.injEq, xsn_1, xsn_2, false_and, and_false, or_false, false_or, or_true, true_or, xsn_3, xsn_4, ↓spwX8_areUnlike, spcX8_areUnlike, le_nI_self]
      try simp only [xif_e]
      exact ⟨bi_01 _, h⟩)
  refine xgo hG (mb := [true, true, true, true, true, true]) (loop 0 (Nat.zero_le c)) (pc := 0) (fun fu hfu => ?_)
  simp only [↓callX8_isDangerous_0, kb_12, kc_12, ki_0, ki_1, ↓ma_40, ↓ma_41, ↓mg_40, ↓mg_41, misa, ↓vm_aload_n, ↓vm_bipush, ↓vm_getfield, ↓vm_goto, ↓vm_iadd, ↓vm_iaload, ↓vm_iconst, ↓vm_ifCond_eq, ↓vm_ifCond_ne, ↓vm_if_icmp_ge, ↓vm_iinc, ↓vm_iload, ↓vm_iload_n, ↓vm_imul, ↓vm_invokevirtual, ↓vm_irem, ↓vm_ireturn, ↓vm_istore, ↓vm_istore_n, ↓xc_3, ↓tbX8_isDangerous_0, ↓tbX8_isDangerous_1, ↓tbX8_isDangerous_4, ↓tbX8_isDangerous_5, ↓tbX8_isDangerous_6, ↓tbX8_isDangerous_7, ↓tbX8_isDangerous_8, ↓tbX8_isDangerous_10, ↓tbX8_isDangerous_11, ↓tbX8_isDangerous_13, ↓tbX8_isDangerous_15, ↓tbX8_isDangerous_16, ↓tbX8_isDangerous_19, ↓tbX8_isDangerous_21, ↓tbX8_isDangerous_24, ↓tbX8_isDangerous_26, ↓tbX8_isDangerous_27, ↓tbX8_isDangerous_28, ↓tbX8_isDangerous_29, ↓tbX8_isDangerous_30, ↓tbX8_isDangerous_31, ↓tbX8_isDangerous_34, ↓tbX8_isDangerous_36, ↓tbX8_isDangerous_37, ↓tbX8_isDangerous_38, ↓tbX8_isDangerous_39, ↓tbX8_isDangerous_42, ↓tbX8_isDangerous_43, ↓tbX8_isDangerous_44, ↓tbX8_isDangerous_47, ↓tbX8_isDangerous_49, ↓tbX8_isDangerous_50, ↓tbX8_isDangerous_51, ↓tbX8_isDangerous_53, ↓tbX8_isDangerous_54, ↓tbX8_isDangerous_55, ↓tbX8_isDangerous_56, ↓tbX8_isDangerous_59, ↓tbX8_isDangerous_61, ↓tbX8_isDangerous_62, ↓tbX8_isDangerous_63, ↓tbX8_isDangerous_65, ↓tbX8_isDangerous_66, ↓tbX8_isDangerous_67, ↓tbX8_isDangerous_68, ↓tbX8_isDangerous_69, ↓tbX8_isDangerous_72, ↓tbX8_isDangerous_75, ↓tbX8_isDangerous_76, ↓tbX8_isDangerous_79, ↓tbX8_isDangerous_80, ↓tbX8_isDangerous_82, ↓tbX8_isDangerous_84, ↓tbX8_isDangerous_87, ↓tbX8_isDangerous_89, ↓tbX8_isDangerous_90, ↓tbX8_isDangerous_91, ↓tbX8_isDangerous_92, ↓tbX8_isDangerous_95, ↓tbX8_isDangerous_96, ↓tbX8_isDangerous_97, ↓tbX8_isDangerous_100, ↓tbX8_isDangerous_102, ↓tbX8_isDangerous_103, ↓tbX8_isDangerous_104, ↓tbX8_isDangerous_106, ↓tbX8_isDangerous_107, ↓tbX8_isDangerous_108, ↓tbX8_isDangerous_109, ↓tbX8_isDangerous_112, ↓tbX8_isDangerous_114, ↓tbX8_isDangerous_115, ↓tbX8_isDangerous_116, ↓tbX8_isDangerous_118, ↓tbX8_isDangerous_119, ↓tbX8_isDangerous_120, ↓tbX8_isDangerous_121, ↓tbX8_isDangerous_122, ↓tbX8_isDangerous_125, ↓tbX8_isDangerous_128, ↓tbX8_isDangerous_129, ↓tbX8_isDangerous_132, ↓tbX8_isDangerous_133, ↓tbX8_isDangerous_135, ↓tbX8_isDangerous_138, ↓tbX8_isDangerous_141, ↓tbX8_isDangerous_143, hfu, xstep0, xJ1_hit, xJ1_go, xJ2_hit1, xJ2_hit2, xJ2_go, ↓xif_t, ↓xif_f, seval, ↓xca_eq, ↓xre_l, ↓xre_r, xmask_t, xmask_f, xmask_nil, ↓xst_eq, xX_eq, eI_eq, eMc_eq, eMs_eq, eF_eq, eThr_eq, ↓xS1_mk, ↓xSI_mk, ↓xSR_mk, ↓xLI_0, ↓xLI_s, ↓xLR_0, ↓xLR_s, vRef_ref, vRef_null, vRef_rf, cat_int, cat_ref, cat_null, cat_rf, rf_some, rf_none, rf_null, rf_eq, rf_ref, ref_rf, ref_null, ref_ref, xOk_0, xOk_1, xOk_2r, xOk_2n, xOk_2f, vOpt_rf, vOpt_ref, vOpt_null, List.set_cons_zero, List.set_cons_succ, List.take_succ_cons, List.take_zero, List.drop_succ_cons, List.drop_zero, List.reverse_cons, List.reverse_nil, List.nil_append, List.cons_append, List.append_nil, List.length_cons, List.length_nil, List.map_cons, List.map_nil, List.sum_cons, List.sum_nil, Option.toList_some, Option.toList_none, xRecv_mk, true_and, and_true, true_implies, Nat.reduceAdd, Nat.reduceLeDiff, Nat.zero_le, Nat.le_refl, Nat.add_zero, Nat.zero_add, reduceIte, not_true_eq_false, not_false_eq_true, false_implies, and_self, implies_true, eq_self, Nat.reduceEqDiff, List.cons.injEq, xsn_1, xsn_2, false_and, and_false, or_false, false_or, or_true, true_or, xsn_3, xsn_4, ↓spwX8_areUnlike, spcX8_areUnlike, h1, hn, ix_nI (show w < 1000 by omega)]
  try simp only [xif_e]
  simp [mDg, bi, nI_0]

/-- a row moves up by a place, or down, from lo on -/
def mShL (M : mS) (a lo : Nat) : Nat → mS
  | 0 => M
  | k + 1 => mAst (mShL M a lo k) a (lo + k) ((mShL M a lo k).2 a (lo + k + 1))
theorem mShL_1 (M : mS) (a lo : Nat) : ∀ k, (mShL M a lo k).1 = M.1
  | 0 => rfl
  | k + 1 => mShL_1 M a lo k
theorem mShL_2 (M : mS) (a lo : Nat) : ∀ k b i, (mShL M a lo k).2 b i = if b = a ∧ lo ≤ i ∧ i < lo + k then M.2 b (i + 1) else M.2 b i
  | 0, b, i => by
    rw [if_neg (by omega)]
    rfl
  | k + 1, b, i => by
    show (if b = a ∧ i = lo + k then (mShL M a lo k).2 a (lo + k + 1) else (mShL M a lo k).2 b i) = _
    rw [mShL_2 M a lo k, mShL_2 M a lo k]
    by_cases hb : b = a
    · subst hb
      by_cases hi : i = lo + k
      · subst hi
        rw [if_pos ⟨rfl, rfl⟩, if_neg (by omega), if_pos (by omega)]
      · rw [if_neg (by omega)]
        by_cases hr : lo ≤ i ∧ i < lo + k
        · rw [if_pos ⟨rfl, hr⟩, if_pos (by omega)]
        · rw [if_neg (by omega), if_neg (by omega)]
    · rw [if_neg (fun q => hb q.1), if_neg (fun q => hb q.1), if_neg (fun q => hb q.1)]
def mShR (M : mS) (a hi : Nat) : Nat → mS
  | 0 => M
  | k + 1 => mAst (mShR M a hi k) a (hi - k) ((mShR M a hi k).2 a (hi - k - 1))
theorem mShR_1 (M : mS) (a hi : Nat) : ∀ k, (mShR M a hi k).1 = M.1
  | 0 => rfl
  | k + 1 => mShR_1 M a hi k
theorem mShR_2 (M : mS) (a hi : Nat) : ∀ k, k ≤ hi → ∀ b i, (mShR M a hi k).2 b i = if b = a ∧ hi < i + k ∧ i ≤ hi then M.2 b (i - 1) else M.2 b i
  | 0, _, b, i => by
    rw [if_neg (by omega)]
    rfl
  | k + 1, h, b, i => by
    show (if b = a ∧ i = hi - k then (mShR M a hi k).2 a (hi - k - 1) else (mShR M a hi k).2 b i) = _
    rw [mShR_2 M a hi k (by omega), mShR_2 M a hi k (by omega)]
    by_cases hb : b = a
    · subst hb
      by_cases he : i = hi - k
      · subst he
        rw [if_pos ⟨rfl, rfl⟩, if_neg (by omega), if_pos (by omega)]
      · rw [if_neg (by omega)]
        by_cases hr : hi < i + k ∧ i ≤ hi
        · rw [if_pos ⟨rfl, hr⟩, if_pos (by omega)]
        · rw [if_neg (by omega), if_neg (by omega)]
    · rw [if_neg (fun q => hb q.1), if_neg (fun q => hb q.1), if_neg (fun q => hb q.1)]
/-- the barge at the place p goes out of the tow w of n barges -/
def mLv (M : mS) (w p n : Nat) : mS := mShL (mAst M 42 w (nI (n - 1))) 41 (12 * w + p) (n - 1 - p)
def mRt (M : mS) (w p n : Nat) (g : Int32) : mS := mAst (mAst (mShR M 41 (12 * w + n) (n - p)) 41 (12 * w + p) g) 42 w (nI (n + 1))
theorem mLv_back {M : mS} {w p n : Nat} {g : Int32} (hp : p < n) (hn : n ≤ 12) (h1 : M.2 41 (12 * w + p) = g) (h2 : M.2 42 w = nI n) : mRt (mLv M w p n) w p (n - 1) g = M := by
  refine Prod.ext ?_ ?_
  · show (mShR _ _ _ _).1 = _
    rw [mShR_1]
    show (mShL _ _ _ _).1 = _
    rw [mShL_1]
    rfl
  · funext b i
    show (if b = 42 ∧ i = w then nI (n - 1 + 1) else if b = 41 ∧ i = 12 * w + p then g else (mShR (mLv M w p n) 41 (12 * w + (n - 1)) (n - 1 - p)).2 b i) = _
    rw [mShR_2 _ _ _ _ (by omega)]
    unfold mLv
    rw [mShL_2, mShL_2]
    simp only [mAst_2]
    by_cases h42 : b = 42
    · subst h42
      by_cases hi : i = w
      · subst hi
        simp [h2, show n - 1 + 1 = n by omega]
      · simp [hi]
    · by_cases h41 : b = 41
      · subst h41
        by_cases hi : i = 12 * w + p
        · subst hi
          simp [h1]
        · by_cases hr : 12 * w + (n - 1) < i + (n - 1 - p) ∧ i ≤ 12 * w + (n - 1)
          · have hj : i - 1 + 1 = i := by omega
            simp [hi, hr, show 12 * w + p ≤ i - 1 ∧ i - 1 < 12 * w + p + (n - 1 - p) by omega, hj]
          · have hq : ¬ (12 * w + p ≤ i ∧ i < 12 * w + p + (n - 1 - p)) := by omega
            simp [hi, hr, hq]
      · simp [h42, h41]

def tbX8_leaves : List (Nat × xHint) := [(0, .aload_n 0, 0, 0, 0, []), (1, .getfield 116, 9, 42, 2, []), (4, .iload_n 1, 1, 0, 0, []), (5, .dup2, 0, 0, 0, []), (6, .iaload, 42, 0, 0, []), (7, .iconst 1, 0, 0, 0, []), (8, .isub, 0, 0, 0, []), (9, .iastore, 42, 0, 0, []), (10, .bipush 12, 0, 0, 0, []), (12, .iload_n 1, 1, 0, 0, []), (13, .imul, 0, 0, 0, []), (14, .iload_n 2, 2, 0, 0, []), (15, .iadd, 0, 0, 0, []), (16, .istore_n 3, 3, 0, 0, []), (17, .iload_n 3, 3, 0, 0, []), (18, .bipush 12, 0, 0, 0, []), (20, .iload_n 1, 1, 0, 0, []), (21, .imul, 0, 0, 0, []), (22, .aload_n 0, 0, 0, 0, []), (23, .getfield 116, 9, 42, 2, []), (26, .iload_n 1, 1, 0, 0, []), (27, .iaload, 42, 0, 0, []), (28, .iadd, 0, 0, 0, []), (29, .if_icmp .ge 23, 52, 0, 0, []), (32, .aload_n 0, 0, 0, 0, []), (33, .getfield 113, 9, 41, 2, []), (36, .iload_n 3, 3, 0, 0, []), (37, .aload_n 0, 0, 0, 0, []), (38, .getfield 113, 9, 41, 2, []), (41, .iload_n 3, 3, 0, 0, []), (42, .iconst 1, 0, 0, 0, []), (43, .iadd, 0, 0, 0, []), (44, .iaload, 41, 0, 0, []), (45, .iastore, 41, 0, 0, []), (46, .iinc 3 1, 3, 0, 0, []), (49, .goto (-32), 17, 0, 0, []), (52, .return_, 0, 0, 0, [])]
def clX8_leaves : List (Instr × Nat × Nat × Nat) := []
def thX8_leaves : List (Nat × Nat) := []
theorem ckX8_leaves : tbX8_leaves.all (xRow RX8 cX8_leaves wsX8_leaves vwCl [9] clX8_leaves thX8_leaves 4 (yX8_leaves.name == "<init>") none) = true := xRow_q 0xb1e0ffa70103844f2e60041d7100b42a1d7100b42a1700a2602e1b7400b42a681b0c101d3e601c681b0c104f64042e5c1b7400b42a 53 (by decide +kernel) (by decide +kernel)
theorem usX8_leaves : xUse wsX8_leaves vwCl [9] = true := xUse_g rfl (lw_good lwl_X8_leaves lwl_X80 (by decide +kernel)) xUse_n
theorem tbX8_leaves_0 {k : Instr → Nat → Nat → Nat → List Nat → Prop} : xse (xFind tbX8_leaves 0) k = k (.aload_n 0) 0 0 0 [] := rfl
theorem tbX8_leaves_1 {k : Instr → Nat → Nat → Nat → List Nat → Prop} : xse (xFind tbX8_leaves 1) k = k (.getfield 116) 9 42 2 [] := rfl
theorem tbX8_leaves_4 {k : Instr → Nat → Nat → Nat → List Nat → Prop} : xse (xFind tbX8_leaves 4) k = k (.iload_n 1) 1 0 0 [] := rfl
theorem tbX8_leaves_5 {k : Instr → Nat → Nat → Nat → List Nat → Prop} : xse (xFind tbX8_leaves 5) k = k (.dup2) 0 0 0 [] := rfl
theorem tbX8_leaves_6 {k : Instr → Nat → Nat → Nat → List Nat → Prop} : xse (xFind tbX8_leaves 6) k = k (.iaload) 42 0 0 [] := rfl
theorem tbX8_leaves_7 {k : Instr → Nat → Nat → Nat → List Nat → Prop} : xse (xFind tbX8_leaves 7) k = k (.iconst 1) 0 0 0 [] := rfl
theorem tbX8_leaves_8 {k : Instr → Nat → Nat → Nat → List Nat → Prop} : xse (xFind tbX8_leaves 8) k = k (.isub) 0 0 0 [] := rfl
theorem tbX8_leaves_9 {k : Instr → Nat → Nat → Nat → List Nat → Prop} : xse (xFind tbX8_leaves 9) k = k (.iastore) 42 0 0 [] := rfl
theorem tbX8_leaves_10 {k : Instr → Nat → Nat → Nat → List Nat → Prop} : xse (xFind tbX8_leaves 10) k = k (.bipush 12) 0 0 0 [] := rfl
theorem tbX8_leaves_12 {k : Instr → Nat → Nat → Nat → List Nat → Prop} : xse (xFind tbX8_leaves 12) k = k (.iload_n 1) 1 0 0 [] := rfl
theorem tbX8_leaves_13 {k : Instr → Nat → Nat → Nat → List Nat → Prop} : xse (xFind tbX8_leaves 13) k = k (.imul) 0 0 0 [] := rfl
theorem tbX8_leaves_14 {k : Instr → Nat → Nat → Nat → List Nat → Prop} : xse (xFind tbX8_leaves 14) k = k (.iload_n 2) 2 0 0 [] := rfl
theorem tbX8_leaves_15 {k : Instr → Nat → Nat → Nat → List Nat → Prop} : xse (xFind tbX8_leaves 15) k = k (.iadd) 0 0 0 [] := rfl
theorem tbX8_leaves_16 {k : Instr → Nat → Nat → Nat → List Nat → Prop} : xse (xFind tbX8_leaves 16) k = k (.istore_n 3) 3 0 0 [] := rfl
theorem tbX8_leaves_17 {k : Instr → Nat → Nat → Nat → List Nat → Prop} : xse (xFind tbX8_leaves 17) k = k (.iload_n 3) 3 0 0 [] := rfl
theorem tbX8_leaves_18 {k : Instr → Nat → Nat → Nat → List Nat → Prop} : xse (xFind tbX8_leaves 18) k = k (.bipush 12) 0 0 0 [] := rfl
theorem tbX8_leaves_20 {k : Instr → Nat → Nat → Nat → List Nat → Prop} : xse (xFind tbX8_leaves 20) k = k (.iload_n 1) 1 0 0 [] := rfl
theorem tbX8_leaves_21 {k : Instr → Nat → Nat → Nat → List Nat → Prop} : xse (xFind tbX8_leaves 21) k = k (.imul) 0 0 0 [] := rfl
theorem tbX8_leaves_22 {k : Instr → Nat → Nat → Nat → List Nat → Prop} : xse (xFind tbX8_leaves 22) k = k (.aload_n 0) 0 0 0 [] := rfl
theorem tbX8_leaves_23 {k : Instr → Nat → Nat → Nat → List Nat → Prop} : xse (xFind tbX8_leaves 23) k = k (.getfield 116) 9 42 2 [] := rfl
theorem tbX8_leaves_26 {k : Instr → Nat → Nat → Nat → List Nat → Prop} : xse (xFind tbX8_leaves 26) k = k (.iload_n 1) 1 0 0 [] := rfl
theorem tbX8_leaves_27 {k : Instr → Nat → Nat → Nat → List Nat → Prop} : xse (xFind tbX8_leaves 27) k = k (.iaload) 42 0 0 [] := rfl
theorem tbX8_leaves_28 {k : Instr → Nat → Nat → Nat → List Nat → Prop} : xse (xFind tbX8_leaves 28) k = k (.iadd) 0 0 0 [] := rfl
theorem tbX8_leaves_29 {k : Instr → Nat → Nat → Nat → List Nat → Prop} : xse (xFind tbX8_leaves 29) k = k (.if_icmp .ge 23) 52 0 0 [] := rfl
theorem tbX8_leaves_32 {k : Instr → Nat → Nat → Nat → List Nat → Prop} : xse (xFind tbX8_leaves 32) k = k (.aload_n 0) 0 0 0 [] := rfl
theorem tbX8_leaves_33 {k : Instr → Nat → Nat → Nat → List Nat → Prop} : xse (xFind tbX8_leaves 33) k = k (.getfield 113) 9 41 2 [] := rfl
theorem tbX8_leaves_36 {k : Instr → Nat → Nat → Nat → List Nat → Prop} : xse (xFind tbX8_leaves 36) k = k (.iload_n 3) 3 0 0 [] := rfl
theorem tbX8_leaves_37 {k : Instr → Nat → Nat → Nat → List Nat → Prop} : xse (xFind tbX8_leaves 37) k = k (.aload_n 0) 0 0 0 [] := rfl
theorem tbX8_leaves_38 {k : Instr → Nat → Nat → Nat → List Nat → Prop} : xse (xFind tbX8_leaves 38) k = k (.getfield 113) 9 41 2 [] := rfl
theorem tbX8_leaves_41 {k : Instr → Nat → Nat → Nat → List Nat → Prop} : xse (xFind tbX8_leaves 41) k = k (.iload_n 3) 3 0 0 [] := rfl
theorem tbX8_leaves_42 {k : Instr → Nat → Nat → Nat → List Nat → Prop} : xse (xFind tbX8_leaves 42) k = k (.iconst 1) 0 0 0 [] := rfl
theorem tbX8_leaves_43 {k : Instr → Nat → Nat → Nat → List Nat → Prop} : xse (xFind tbX8_leaves 43) k = k (.iadd) 0 0 0 [] := rfl
theorem tbX8_leaves_44 {k : Instr → Nat → Nat → Nat → List Nat → Prop} : xse (xFind tbX8_leaves 44) k = k (.iaload) 41 0 0 [] := rfl
theorem tbX8_leaves_45 {k : Instr → Nat → Nat → Nat → List Nat → Prop} : xse (xFind tbX8_leaves 45) k = k (.iastore) 41 0 0 [] := rfl
theorem tbX8_leaves_46 {k : Instr → Nat → Nat → Nat → List Nat → Prop} : xse (xFind tbX8_leaves 46) k = k (.iinc 3 1) 3 0 0 [] := rfl
theorem tbX8_leaves_49 {k : Instr → Nat → Nat → Nat → List Nat → Prop} : xse (xFind tbX8_leaves 49) k = k (.goto (-32)) 17 0 0 [] := rfl
theorem tbX8_leaves_52 {k : Instr → Nat → Nat → Nat → List Nat → Prop} : xse (xFind tbX8_leaves 52) k = k (.return_) 0 0 0 [] := rfl

def spX8_leaves (aM : Nat → Nat) : xSp mS := (fun av M => (0, 0), fun av M K => ∃ (b : Int32) (p : Int32), av = [.ref (aM 0), .int b, .int p] ∧ ((∃ w k n, b = nI w ∧ w < 6 ∧ p = nI k ∧ M.2 42 w = nI n ∧ k < n ∧ n ≤ 12 ∧ K rV (mLv M w k n))))
theorem spcX8_leaves {av : List Value} {M : mS} {aM : Nat → Nat} : (spX8_leaves aM).1 av M = (0, 0) := rfl
theorem spwX8_leaves {M : mS} {aM : Nat → Nat} {K : xRes → mS → Prop} {b : Int32} {p : Int32} : (spX8_leaves aM).2 [.ref (aM 0), .int b, .int p] M K = ((∃ w k n, b = nI w ∧ w < 6 ∧ p = nI k ∧ M.2 42 w = nI n ∧ k < n ∧ n ≤ 12 ∧ K rV (mLv M w k n))) :=
  propext ⟨fun h => by
    simp only [spX8_leaves] at h
    obtain ⟨_, _, e, h⟩ := h
    simp only [List.cons.injEq, Value.int.injEq, Value.ref.injEq, rf_eq, and_true, true_and] at e
    obtain ⟨rfl, rfl⟩ := e
    exact h, fun h => ⟨_, _, rfl, h⟩⟩

set_option maxHeartbeats 4000000 in
set_option maxRecDepth 20000 in
theorem semX8_leaves (l : Launch) (W9 : xWd) (aM : Nat → Nat) (hi : mInj aM) : xSem l W9 (mI aM) yX8_leaves wsX8_leaves 0 0 (spX8_leaves aM) := by
  refine xSem_of (call := fun _ => none) (thrf := fun _ => "") (mI_law hi) (by decide +kernel) rfl ckX8_leaves usX8_leaves xCallsOK_nil xThrOK_nil ?_ ?_
  · intro av M KF h
    obtain ⟨b, p, rfl, h⟩ := h
    exact ⟨by intro v hv; simp only [List.mem_cons, List.not_mem_nil, or_false] at hv; rcases hv with rfl | rfl | rfl <;> first | rfl | exact cat_rf, Nat.le_of_ble_eq_true rfl⟩
  intro av M KF h G hG
  obtain ⟨b, p, rfl, h⟩ := h
  rw [show (spX8_leaves aM).1 _ M = _ from spcX8_leaves] at hG
  try dsimp only at hG
  change G 0 [some (.ref (aM 0)), some (.int b), some (.int p), none] [] M 0 0
  obtain ⟨w, k, n, rfl, hw, rfl, hn, hk, hn12, h⟩ := h

  have h1 : vp_in (nI w) 6 := xin_nI hw (by omega)
  have loop := xloop hG 17 [true, true, true, true] (fun j lv st S cs ss => lv = [some (.ref (aM 0)), some (.int (nI w)), some (.int (nI k)), some (.int (nI (12 * w + k + j)))] ∧ st = [] ∧ S = mShL (mAst M 42 w (nI (n - 1))) 41 (12 * w + k) j ∧ cs = 0 ∧ ss = 0) (n - 1 - k) (by
      rintro j hj lv st S cs ss ⟨rfl, rfl, rfl, rfl, rfl⟩ fu hfu
      have e1 : (mShL (mAst M 42 w (nI (n - 1))) 41 (12 * w + k) j).2 42 w = nI (n - 1) := by rw [mShL_2]; simp [mAst_2]
      have e2 : (nI (12 * w + (n - 1)) ≤ nI (12 * w + k + j)) = False := by rw [le_nI (by omega) (by omega)]; simp; omega
      simp only [kb_12, kc_12, ki_1, ↓ma_41, ↓ma_42, ↓mg_41, ↓mg_42, ↓ms_41, ↓ms_42, ↓vm_aload_n, ↓vm_bipush, ↓vm_dup2, ↓vm_getfield, ↓vm_goto, ↓vm_iadd, ↓vm_iaload, ↓vm_iastore, ↓vm_iconst, ↓vm_if_icmp_ge, ↓vm_iinc, ↓vm_iload_n, ↓vm_imul, ↓vm_istore_n, ↓vm_isub, ↓vm_return_, ↓tbX8_leaves_0, ↓tbX8_leaves_1, ↓tbX8_leaves_4, ↓tbX8_leaves_5, ↓tbX8_leaves_6, ↓tbX8_leaves_7, ↓tbX8_leaves_8, ↓tbX8_leaves_9, ↓tbX8_leaves_10, ↓tbX8_leaves_12, ↓tbX8_leaves_13, ↓tbX8_leaves_14, ↓tbX8_leaves_15, ↓tbX8_leaves_16, ↓tbX8_leaves_17, ↓tbX8_leaves_18, ↓tbX8_leaves_20, ↓tbX8_leaves_21, ↓tbX8_leaves_22, ↓tbX8_leaves_23, ↓tbX8_leaves_26, ↓tbX8_leaves_27, ↓tbX8_leaves_28, ↓tbX8_leaves_29, ↓tbX8_leaves_32, ↓tbX8_leaves_33, ↓tbX8_leaves_36, ↓tbX8_leaves_37, ↓tbX8_leaves_38, ↓tbX8_leaves_41, ↓tbX8_leaves_42, ↓tbX8_leaves_43, ↓tbX8_leaves_44, ↓tbX8_leaves_45, ↓tbX8_leaves_46, ↓tbX8_leaves_49, ↓tbX8_leaves_52, hfu, xstep0, xJ1_hit, xJ1_go, xJ2_hit1, xJ2_hit2, xJ2_go, ↓xif_t, ↓xif_f, seval, ↓xca_eq, ↓xre_l, ↓xre_r, xmask_t, xmask_f, xmask_nil, ↓xst_eq, xX_eq, eI_eq, eMc_eq, eMs_eq, eF_eq, eThr_eq, ↓xS1_mk, ↓xSI_mk, ↓xSR_mk, ↓xLI_0, ↓xLI_s, ↓xLR_0, ↓xLR_s, vRef_ref, vRef_null, vRef_rf, cat_int, cat_ref, cat_null, cat_rf, rf_some, rf_none, rf_null, rf_eq, rf_ref, ref_rf, ref_null, ref_ref, xOk_0, xOk_1, xOk_2r, xOk_2n, xOk_2f, vOpt_rf, vOpt_ref, vOpt_null, List.set_cons_zero, List.set_cons_succ, List.take_succ_cons, List.take_zero, List.drop_succ_cons, List.drop_zero, List.reverse_cons, List.reverse_nil, List.nil_append, List.cons_append, List.append_nil, List.length_cons, List.length_nil, List.map_cons, List.map_nil, List.sum_cons, List.sum_nil, Option.toList_some, Option.toList_none, xRecv_mk, true_and, and_true, true_implies, Nat.reduceAdd, Nat.reduceLeDiff, Nat.zero_le, Nat.le_refl, Nat.add_zero, Nat.zero_add, reduceIte, not_true_eq_false, not_false_eq_true, false_implies, and_self, implies_true, eq_self, Nat.reduceEqDiff, List.cons.injEq, xsn_1, xsn_2, false_and, and_false, or_false, false_or, or_true, true_or, xsn_3, xsn_4, mAst_1, mAst_2, mSet_1, mSet_2, h1, ix_nI (show w < 1000 by omega), e1, m12_nI, add_nI, e2, nI1, xin_nI (show 12 * w + k + j < 72 by omega) (by omega), xin_nI (show 12 * w + k + j + 1 < 72 by omega) (by omega), ix_nI (show 12 * w + k + j < 1000 by omega), ix_nI (show 12 * w + k + j + 1 < 1000 by omega)]
      try simp only [xif_e]
      repeat' (first | rfl | apply And.intro)) (by
      rintro lv st S cs ss ⟨rfl, rfl, rfl, rfl, rfl⟩ fu hfu
      have e1 : (mShL (mAst M 42 w (nI (n - 1))) 41 (12 * w + k) (n - 1 - k)).2 42 w = nI (n - 1) := by rw [mShL_2]; simp [mAst_2]
      have e2 : (nI (12 * w + (n - 1)) ≤ nI (12 * w + k + (n - 1 - k))) = True := by rw [le_nI (by omega) (by omega)]; simp; omega
      simp only [kb_12, kc_12, ki_1, ↓ma_41, ↓ma_42, ↓mg_41, ↓mg_42, ↓ms_41, ↓ms_42, ↓vm_aload_n, ↓vm_bipush, ↓vm_dup2, ↓vm_getfield, ↓vm_goto, ↓vm_iadd, ↓vm_iaload, ↓vm_iastore, ↓vm_iconst, ↓vm_if_icmp_ge, ↓vm_iinc, ↓vm_iload_n, ↓vm_imul, ↓vm_istore_n, ↓vm_isub, ↓vm_return_, ↓tbX8_leaves_0, ↓tbX8_leaves_1, ↓tbX8_leaves_4, ↓tbX8_leaves_5, ↓tbX8_leaves_6, ↓tbX8_leaves_7, ↓tbX8_leaves_8, ↓tbX8_leaves_9, ↓tbX8_leaves_10, ↓tbX8_leaves_12, ↓tbX8_leaves_13, ↓tbX8_leaves_14, ↓tbX8_leaves_15, ↓tbX8_leaves_16, ↓tbX8_leaves_17, ↓tbX8_leaves_18, ↓tbX8_leaves_20, ↓tbX8_leaves_21, ↓tbX8_leaves_22, ↓tbX8_leaves_23, ↓tbX8_leaves_26, ↓tbX8_leaves_27, ↓tbX8_leaves_28, ↓tbX8_leaves_29, ↓tbX8_leaves_32, ↓tbX8_leaves_33, ↓tbX8_leaves_36, ↓tbX8_leaves_37, ↓tbX8_leaves_38, ↓tbX8_leaves_41, ↓tbX8_leaves_42, ↓tbX8_leaves_43, ↓tbX8_leaves_44, ↓tbX8_leaves_45, ↓tbX8_leaves_46, ↓tbX8_leaves_49, ↓tbX8_leaves_52, hfu, xstep0, xJ1_hit, xJ1_go, xJ2_hit1, xJ2_hit2, xJ2_go, ↓xif_t, ↓xif_f, seval, ↓xca_eq, ↓xre_l, ↓xre_r, xmask_t, xmask_f, xmask_nil, ↓xst_eq, xX_eq, eI_eq, eMc_eq, eMs_eq, eF_eq, eThr_eq, ↓xS1_mk, ↓xSI_mk, ↓xSR_mk, ↓xLI_0, ↓xLI_s, ↓xLR_0, ↓xLR_s, vRef_ref, vRef_null, vRef_rf, cat_int, cat_ref, cat_null, cat_rf, rf_some, rf_none, rf_null, rf_eq, rf_ref, ref_rf, ref_null, ref_ref, xOk_0, xOk_1, xOk_2r, xOk_2n, xOk_2f, vOpt_rf, vOpt_ref, vOpt_null, List.set_cons_zero, List.set_cons_succ, List.take_succ_cons, List.take_zero, List.drop_succ_cons, List.drop_zero, List.reverse_cons, List.reverse_nil, List.nil_append, List.cons_append, List.append_nil, List.length_cons, List.length_nil, List.map_cons, List.map_nil, List.sum_cons, List.sum_nil, Option.toList_some, Option.toList_none, xRecv_mk, true_and, and_true, true_implies, Nat.reduceAdd, Nat.reduceLeDiff, Nat.zero_le, Nat.le_refl, Nat.add_zero, Nat.zero_add, reduceIte, not_true_eq_false, not_false_eq_true, false_implies, and_self, implies_true, eq_self, Nat.reduceEqDiff, List.cons.injEq, xsn_1, xsn_2, false_and, and_false, or_false, false_or, or_true, true_or, xsn_3, xsn_4, mAst_1, mAst_2, mSet_1, mSet_2, h1, ix_nI (show w < 1000 by omega), e1, m12_nI, add_nI, e2]
      try simp only [xif_e]
      exact h)
  refine xgo hG (mb := [true, true, true, true]) (loop 0 (Nat.zero_le _)) (pc := 0) (fun fu hfu => ?_)
  simp only [kb_12, kc_12, ki_1, ↓ma_41, ↓ma_42, ↓mg_41, ↓mg_42, ↓ms_41, ↓ms_42, ↓vm_aload_n, ↓vm_bipush, ↓vm_dup2, ↓vm_getfield, ↓vm_goto, ↓vm_iadd, ↓vm_iaload, ↓vm_iastore, ↓vm_iconst, ↓vm_if_icmp_ge, ↓vm_iinc, ↓vm_iload_n, ↓vm_imul, ↓vm_istore_n, ↓vm_isub, ↓vm_return_, ↓tbX8_leaves_0, ↓tbX8_leaves_1, ↓tbX8_leaves_4, ↓tbX8_leaves_5, ↓tbX8_leaves_6, ↓tbX8_leaves_7, ↓tbX8_leaves_8, ↓tbX8_leaves_9, ↓tbX8_leaves_10, ↓tbX8_leaves_12, ↓tbX8_leaves_13, ↓tbX8_leaves_14, ↓tbX8_leaves_15, ↓tbX8_leaves_16, ↓tbX8_leaves_17, ↓tbX8_leaves_18, ↓tbX8_leaves_20, ↓tbX8_leaves_21, ↓tbX8_leaves_22, ↓tbX8_leaves_23, ↓tbX8_leaves_26, ↓tbX8_leaves_27, ↓tbX8_leaves_28, ↓tbX8_leaves_29, ↓tbX8_leaves_32, ↓tbX8_leaves_33, ↓tbX8_leaves_36, ↓tbX8_leaves_37, ↓tbX8_leaves_38, ↓tbX8_leaves_41, ↓tbX8_leaves_42, ↓tbX8_leaves_43, ↓tbX8_leaves_44, ↓tbX8_leaves_45, ↓tbX8_leaves_46, ↓tbX8_leaves_49, ↓tbX8_leaves_52, hfu, xstep0, xJ1_hit, xJ1_go, xJ2_hit1, xJ2_hit2, xJ2_go, ↓xif_t, ↓xif_f, seval, ↓xca_eq, ↓xre_l, ↓xre_r, xmask_t, xmask_f, xmask_nil, ↓xst_eq, xX_eq, eI_eq, eMc_eq, eMs_eq, eF_eq, eThr_eq, ↓xS1_mk, ↓xSI_mk, ↓xSR_mk, ↓xLI_0, ↓xLI_s, ↓xLR_0, ↓xLR_s, vRef_ref, vRef_null, vRef_rf, cat_int, cat_ref, cat_null, cat_rf, rf_some, rf_none, rf_null, rf_eq, rf_ref, ref_rf, ref_null, ref_ref, xOk_0, xOk_1, xOk_2r, xOk_2n, xOk_2f, vOpt_rf, vOpt_ref, vOpt_null, List.set_cons_zero, List.set_cons_succ, List.take_succ_cons, List.take_zero, List.drop_succ_cons, List.drop_zero, List.reverse_cons, List.reverse_nil, List.nil_append, List.cons_append, List.append_nil, List.length_cons, List.length_nil, List.map_cons, List.map_nil, List.sum_cons, List.sum_nil, Option.toList_some, Option.toList_none, xRecv_mk, true_and, and_true, true_implies, Nat.reduceAdd, Nat.reduceLeDiff, Nat.zero_le, Nat.le_refl, Nat.add_zero, Nat.zero_add, reduceIte, not_true_eq_false, not_false_eq_true, false_implies, and_self, implies_true, eq_self, Nat.reduceEqDiff, List.cons.injEq, xsn_1, xsn_2, false_and, and_false, or_false, false_or, or_true, true_or, xsn_3, xsn_4, mAst_1, mAst_2, mSet_1, mSet_2, h1, ix_nI (show w < 1000 by omega), hn, m12_nI, add_nI, sub1_nI (show 0 < n by omega)]
  try simp only [xif_e]
  repeat' (first | rfl | apply And.intro)

def tbX8_returns : List (Nat × xHint) := [(0, .bipush 12, 0, 0, 0, []), (2, .iload_n 1, 1, 0, 0, []), (3, .imul, 0, 0, 0, []), (4, .aload_n 0, 0, 0, 0, []), (5, .getfield 116, 9, 42, 2, []), (8, .iload_n 1, 1, 0, 0, []), (9, .iaload, 42, 0, 0, []), (10, .iadd, 0, 0, 0, []), (11, .istore 4, 4, 0, 0, []), (13, .iload 4, 4, 0, 0, []), (15, .bipush 12, 0, 0, 0, []), (17, .iload_n 1, 1, 0, 0, []), (18, .imul, 0, 0, 0, []), (19, .iload_n 2, 2, 0, 0, []), (20, .iadd, 0, 0, 0, []), (21, .if_icmp .le 25, 46, 0, 0, []), (24, .aload_n 0, 0, 0, 0, []), (25, .getfield 113, 9, 41, 2, []), (28, .iload 4, 4, 0, 0, []), (30, .aload_n 0, 0, 0, 0, []), (31, .getfield 113, 9, 41, 2, []), (34, .iload 4, 4, 0, 0, []), (36, .iconst 1, 0, 0, 0, []), (37, .isub, 0, 0, 0, []), (38, .iaload, 41, 0, 0, []), (39, .iastore, 41, 0, 0, []), (40, .iinc 4 (-1), 4, 0, 0, []), (43, .goto (-30), 13, 0, 0, []), (46, .aload_n 0, 0, 0, 0, []), (47, .getfield 113, 9, 41, 2, []), (50, .bipush 12, 0, 0, 0, []), (52, .iload_n 1, 1, 0, 0, []), (53, .imul, 0, 0, 0, []), (54, .iload_n 2, 2, 0, 0, []), (55, .iadd, 0, 0, 0, []), (56, .iload_n 3, 3, 0, 0, []), (57, .iastore, 41, 0, 0, []), (58, .aload_n 0, 0, 0, 0, []), (59, .getfield 116, 9, 42, 2, []), (62, .iload_n 1, 1, 0, 0, []), (63, .dup2, 0, 0, 0, []), (64, .iaload, 42, 0, 0, []), (65, .iconst 1, 0, 0, 0, []), (66, .iadd, 0, 0, 0, []), (67, .iastore, 42, 0, 0, []), (68, .return_, 0, 0, 0, [])]
def clX8_returns : List (Instr × Nat × Nat × Nat) := []
def thX8_returns : List (Nat × Nat) := []
theorem ckX8_returns : tbX8_returns.all (xRow RX8 cX8_returns wsX8_returns vwCl [9] clX8_returns thX8_returns 5 (yX8_returns.name == "<init>") none) = true := xRow_q 0xb14f60042e5c1b7400b42a4f1d601c681b0c107100b42ae2ffa7ff04844f2e640404157100b42a04157100b42a1900a4601c681b0c1004150436602e1b7400b42a681b0c10 69 (by decide +kernel) (by decide +kernel)
theorem usX8_returns : xUse wsX8_returns vwCl [9] = true := xUse_g rfl (lw_good lwl_X8_returns lwl_X80 (by decide +kernel)) xUse_n
theorem tbX8_returns_0 {k : Instr → Nat → Nat → Nat → List Nat → Prop} : xse (xFind tbX8_returns 0) k = k (.bipush 12) 0 0 0 [] := rfl
theorem tbX8_returns_2 {k : Instr → Nat → Nat → Nat → List Nat → Prop} : xse (xFind tbX8_returns 2) k = k (.iload_n 1) 1 0 0 [] := rfl
theorem tbX8_returns_3 {k : Instr → Nat → Nat → Nat → List Nat → Prop} : xse (xFind tbX8_returns 3) k = k (.imul) 0 0 0 [] := rfl
theorem tbX8_returns_4 {k : Instr → Nat → Nat → Nat → List Nat → Prop} : xse (xFind tbX8_returns 4) k = k (.aload_n 0) 0 0 0 [] := rfl
theorem tbX8_returns_5 {k : Instr → Nat → Nat → Nat → List Nat → Prop} : xse (xFind tbX8_returns 5) k = k (.getfield 116) 9 42 2 [] := rfl
theorem tbX8_returns_8 {k : Instr → Nat → Nat → Nat → List Nat → Prop} : xse (xFind tbX8_returns 8) k = k (.iload_n 1) 1 0 0 [] := rfl
theorem tbX8_returns_9 {k : Instr → Nat → Nat → Nat → List Nat → Prop} : xse (xFind tbX8_returns 9) k = k (.iaload) 42 0 0 [] := rfl
theorem tbX8_returns_10 {k : Instr → Nat → Nat → Nat → List Nat → Prop} : xse (xFind tbX8_returns 10) k = k (.iadd) 0 0 0 [] := rfl
theorem tbX8_returns_11 {k : Instr → Nat → Nat → Nat → List Nat → Prop} : xse (xFind tbX8_returns 11) k = k (.istore 4) 4 0 0 [] := rfl
theorem tbX8_returns_13 {k : Instr → Nat → Nat → Nat → List Nat → Prop} : xse (xFind tbX8_returns 13) k = k (.iload 4) 4 0 0 [] := rfl
theorem tbX8_returns_15 {k : Instr → Nat → Nat → Nat → List Nat → Prop} : xse (xFind tbX8_returns 15) k = k (.bipush 12) 0 0 0 [] := rfl
theorem tbX8_returns_17 {k : Instr → Nat → Nat → Nat → List Nat → Prop} : xse (xFind tbX8_returns 17) k = k (.iload_n 1) 1 0 0 [] := rfl
theorem tbX8_returns_18 {k : Instr → Nat → Nat → Nat → List Nat → Prop} : xse (xFind tbX8_returns 18) k = k (.imul) 0 0 0 [] := rfl
theorem tbX8_returns_19 {k : Instr → Nat → Nat → Nat → List Nat → Prop} : xse (xFind tbX8_returns 19) k = k (.iload_n 2) 2 0 0 [] := rfl
theorem tbX8_returns_20 {k : Instr → Nat → Nat → Nat → List Nat → Prop} : xse (xFind tbX8_returns 20) k = k (.iadd) 0 0 0 [] := rfl
theorem tbX8_returns_21 {k : Instr → Nat → Nat → Nat → List Nat → Prop} : xse (xFind tbX8_returns 21) k = k (.if_icmp .le 25) 46 0 0 [] := rfl
theorem tbX8_returns_24 {k : Instr → Nat → Nat → Nat → List Nat → Prop} : xse (xFind tbX8_returns 24) k = k (.aload_n 0) 0 0 0 [] := rfl
theorem tbX8_returns_25 {k : Instr → Nat → Nat → Nat → List Nat → Prop} : xse (xFind tbX8_returns 25) k = k (.getfield 113) 9 41 2 [] := rfl
theorem tbX8_returns_28 {k : Instr → Nat → Nat → Nat → List Nat → Prop} : xse (xFind tbX8_returns 28) k = k (.iload 4) 4 0 0 [] := rfl
theorem tbX8_returns_30 {k : Instr → Nat → Nat → Nat → List Nat → Prop} : xse (xFind tbX8_returns 30) k = k (.aload_n 0) 0 0 0 [] := rfl
theorem tbX8_returns_31 {k : Instr → Nat → Nat → Nat → List Nat → Prop} : xse (xFind tbX8_returns 31) k = k (.getfield 113) 9 41 2 [] := rfl
theorem tbX8_returns_34 {k : Instr → Nat → Nat → Nat → List Nat → Prop} : xse (xFind tbX8_returns 34) k = k (.iload 4) 4 0 0 [] := rfl
theorem tbX8_returns_36 {k : Instr → Nat → Nat → Nat → List Nat → Prop} : xse (xFind tbX8_returns 36) k = k (.iconst 1) 0 0 0 [] := rfl
theorem tbX8_returns_37 {k : Instr → Nat → Nat → Nat → List Nat → Prop} : xse (xFind tbX8_returns 37) k = k (.isub) 0 0 0 [] := rfl
theorem tbX8_returns_38 {k : Instr → Nat → Nat → Nat → List Nat → Prop} : xse (xFind tbX8_returns 38) k = k (.iaload) 41 0 0 [] := rfl
theorem tbX8_returns_39 {k : Instr → Nat → Nat → Nat → List Nat → Prop} : xse (xFind tbX8_returns 39) k = k (.iastore) 41 0 0 [] := rfl
theorem tbX8_returns_40 {k : Instr → Nat → Nat → Nat → List Nat → Prop} : xse (xFind tbX8_returns 40) k = k (.iinc 4 (-1)) 4 0 0 [] := rfl
theorem tbX8_returns_43 {k : Instr → Nat → Nat → Nat → List Nat → Prop} : xse (xFind tbX8_returns 43) k = k (.goto (-30)) 13 0 0 [] := rfl
theorem tbX8_returns_46 {k : Instr → Nat → Nat → Nat → List Nat → Prop} : xse (xFind tbX8_returns 46) k = k (.aload_n 0) 0 0 0 [] := rfl
theorem tbX8_returns_47 {k : Instr → Nat → Nat → Nat → List Nat → Prop} : xse (xFind tbX8_returns 47) k = k (.getfield 113) 9 41 2 [] := rfl
theorem tbX8_returns_50 {k : Instr → Nat → Nat → Nat → List Nat → Prop} : xse (xFind tbX8_returns 50) k = k (.bipush 12) 0 0 0 [] := rfl
theorem tbX8_returns_52 {k : Instr → Nat → Nat → Nat → List Nat → Prop} : xse (xFind tbX8_returns 52) k = k (.iload_n 1) 1 0 0 [] := rfl
theorem tbX8_returns_53 {k : Instr → Nat → Nat → Nat → List Nat → Prop} : xse (xFind tbX8_returns 53) k = k (.imul) 0 0 0 [] := rfl
theorem tbX8_returns_54 {k : Instr → Nat → Nat → Nat → List Nat → Prop} : xse (xFind tbX8_returns 54) k = k (.iload_n 2) 2 0 0 [] := rfl
theorem tbX8_returns_55 {k : Instr → Nat → Nat → Nat → List Nat → Prop} : xse (xFind tbX8_returns 55) k = k (.iadd) 0 0 0 [] := rfl
theorem tbX8_returns_56 {k : Instr → Nat → Nat → Nat → List Nat → Prop} : xse (xFind tbX8_returns 56) k = k (.iload_n 3) 3 0 0 [] := rfl
theorem tbX8_returns_57 {k : Instr → Nat → Nat → Nat → List Nat → Prop} : xse (xFind tbX8_returns 57) k = k (.iastore) 41 0 0 [] := rfl
theorem tbX8_returns_58 {k : Instr → Nat → Nat → Nat → List Nat → Prop} : xse (xFind tbX8_returns 58) k = k (.aload_n 0) 0 0 0 [] := rfl
theorem tbX8_returns_59 {k : Instr → Nat → Nat → Nat → List Nat → Prop} : xse (xFind tbX8_returns 59) k = k (.getfield 116) 9 42 2 [] := rfl
theorem tbX8_returns_62 {k : Instr → Nat → Nat → Nat → List Nat → Prop} : xse (xFind tbX8_returns 62) k = k (.iload_n 1) 1 0 0 [] := rfl
theorem tbX8_returns_63 {k : Instr → Nat → Nat → Nat → List Nat → Prop} : xse (xFind tbX8_returns 63) k = k (.dup2) 0 0 0 [] := rfl
theorem tbX8_returns_64 {k : Instr → Nat → Nat → Nat → List Nat → Prop} : xse (xFind tbX8_returns 64) k = k (.iaload) 42 0 0 [] := rfl
theorem tbX8_returns_65 {k : Instr → Nat → Nat → Nat → List Nat → Prop} : xse (xFind tbX8_returns 65) k = k (.iconst 1) 0 0 0 [] := rfl
theorem tbX8_returns_66 {k : Instr → Nat → Nat → Nat → List Nat → Prop} : xse (xFind tbX8_returns 66) k = k (.iadd) 0 0 0 [] := rfl
theorem tbX8_returns_67 {k : Instr → Nat → Nat → Nat → List Nat → Prop} : xse (xFind tbX8_returns 67) k = k (.iastore) 42 0 0 [] := rfl
theorem tbX8_returns_68 {k : Instr → Nat → Nat → Nat → List Nat → Prop} : xse (xFind tbX8_returns 68) k = k (.return_) 0 0 0 [] := rfl

def spX8_returns (aM : Nat → Nat) : xSp mS := (fun av M => (0, 0), fun av M K => ∃ (b : Int32) (p : Int32) (g : Int32), av = [.ref (aM 0), .int b, .int p, .int g] ∧ ((∃ w k n, b = nI w ∧ w < 6 ∧ p = nI k ∧ M.2 42 w = nI n ∧ k ≤ n ∧ n < 12 ∧ K rV (mRt M w k n g))))
theorem spcX8_returns {av : List Value} {M : mS} {aM : Nat → Nat} : (spX8_returns aM).1 av M = (0, 0) := rfl
theorem spwX8_returns {M : mS} {aM : Nat → Nat} {K : xRes → mS → Prop} {b : Int32} {p : Int32} {g : Int32} : (spX8_returns aM).2 [.ref (aM 0), .int b, .int p, .int g] M K = ((∃ w k n, b = nI w ∧ w < 6 ∧ p = nI k ∧ M.2 42 w = nI n ∧ k ≤ n ∧ n < 12 ∧ K rV (mRt M w k n g))) :=
  propext ⟨fun h => by
    simp only [spX8_returns] at h
    obtain ⟨_, _, _, e, h⟩ := h
    simp only [List.cons.injEq, Value.int.injEq, Value.ref.injEq, rf_eq, and_true, true_and] at e
    obtain ⟨rfl, rfl, rfl⟩ := e
    exact h, fun h => ⟨_, _, _, rfl, h⟩⟩

set_option maxHeartbeats 4000000 in
set_option maxRecDepth 20000 in
theorem semX8_returns (l : Launch) (W9 : xWd) (aM : Nat → Nat) (hi : mInj aM) : xSem l W9 (mI aM) yX8_returns wsX8_returns 0 0 (spX8_returns aM) := by
  refine xSem_of (call := fun _ => none) (thrf := fun _ => "") (mI_law hi) (by decide +kernel) rfl ckX8_returns usX8_returns xCallsOK_nil xThrOK_nil ?_ ?_
  · intro av M KF h
    obtain ⟨b, p, g, rfl, h⟩ := h
    exact ⟨by intro v hv; simp only [List.mem_cons, List.not_mem_nil, or_false] at hv; rcases hv with rfl | rfl | rfl | rfl <;> first | rfl | exact cat_rf, Nat.le_of_ble_eq_true rfl⟩
  intro av M KF h G hG
  obtain ⟨b, p, g, rfl, h⟩ := h
  rw [show (spX8_returns aM).1 _ M = _ from spcX8_returns] at hG
  try dsimp only at hG
  change G 0 [some (.ref (aM 0)), some (.int b), some (.int p), some (.int g), none] [] M 0 0
  obtain ⟨w, k, n, rfl, hw, rfl, hn, hk, hn12, h⟩ := h

  have h1 : vp_in (nI w) 6 := xin_nI hw (by omega)
  have loop := xloop hG 13 [true, true, true, true, true] (fun j lv st S cs ss => lv = [some (.ref (aM 0)), some (.int (nI w)), some (.int (nI k)), some (.int g), some (.int (nI (12 * w + n - j)))] ∧ st = [] ∧ S = mShR M 41 (12 * w + n) j ∧ cs = 0 ∧ ss = 0) (n - k) (by
      rintro j hj lv st S cs ss ⟨rfl, rfl, rfl, rfl, rfl⟩ fu hfu
      have e2 : (nI (12 * w + n - j) ≤ nI (12 * w + k)) = False := by rw [le_nI (by omega) (by omega)]; simp; omega
      have e3 : nI (12 * w + n - j) - 1 = nI (12 * w + n - j - 1) := sub1_nI (by omega)
      have e4 : nI (12 * w + n - j) + -1 = nI (12 * w + n - j - 1) := by
        have z := pk_m1 (12 * w + n - j - 1)
        rwa [show 12 * w + n - j - 1 + 1 = 12 * w + n - j by omega] at z
      simp only [kb_12, kc_12, ki_1, ki_m1, ↓ma_41, ↓ma_42, ↓mg_41, ↓mg_42, ↓ms_41, ↓ms_42, ↓vm_aload_n, ↓vm_bipush, ↓vm_dup2, ↓vm_getfield, ↓vm_goto, ↓vm_iadd, ↓vm_iaload, ↓vm_iastore, ↓vm_iconst, ↓vm_if_icmp_le, ↓vm_iinc, ↓vm_iload, ↓vm_iload_n, ↓vm_imul, ↓vm_istore, ↓vm_isub, ↓vm_return_, ↓tbX8_returns_0, ↓tbX8_returns_2, ↓tbX8_returns_3, ↓tbX8_returns_4, ↓tbX8_returns_5, ↓tbX8_returns_8, ↓tbX8_returns_9, ↓tbX8_returns_10, ↓tbX8_returns_11, ↓tbX8_returns_13, ↓tbX8_returns_15, ↓tbX8_returns_17, ↓tbX8_returns_18, ↓tbX8_returns_19, ↓tbX8_returns_20, ↓tbX8_returns_21, ↓tbX8_returns_24, ↓tbX8_returns_25, ↓tbX8_returns_28, ↓tbX8_returns_30, ↓tbX8_returns_31, ↓tbX8_returns_34, ↓tbX8_returns_36, ↓tbX8_returns_37, ↓tbX8_returns_38, ↓tbX8_returns_39, ↓tbX8_returns_40, ↓tbX8_returns_43, ↓tbX8_returns_46, ↓tbX8_returns_47, ↓tbX8_returns_50, ↓tbX8_returns_52, ↓tbX8_returns_53, ↓tbX8_returns_54, ↓tbX8_returns_55, ↓tbX8_returns_56, ↓tbX8_returns_57, ↓tbX8_returns_58, ↓tbX8_returns_59, ↓tbX8_returns_62, ↓tbX8_returns_63, ↓tbX8_returns_64, ↓tbX8_returns_65, ↓tbX8_returns_66, ↓tbX8_returns_67, ↓tbX8_returns_68, hfu, xstep0, xJ1_hit, xJ1_go, xJ2_hit1, xJ2_hit2, xJ2_go, ↓xif_t, ↓xif_f, seval, ↓xca_eq, ↓xre_l, ↓xre_r, xmask_t, xmask_f, xmask_nil, ↓xst_eq, xX_eq, eI_eq, eMc_eq, eMs_eq, eF_eq, eThr_eq, ↓xS1_mk, ↓xSI_mk, ↓xSR_mk, ↓xLI_0, ↓xLI_s, ↓xLR_0, ↓xLR_s, vRef_ref, vRef_null, vRef_rf, cat_int, cat_ref, cat_null, cat_rf, rf_some, rf_none, rf_null, rf_eq, rf_ref, ref_rf, ref_null, ref_ref, xOk_0, xOk_1, xOk_2r, xOk_2n, xOk_2f, vOpt_rf, vOpt_ref, vOpt_null, List.set_cons_zero, List.set_cons_succ, List.take_succ_cons, List.take_zero, List.drop_succ_cons, List.drop_zero, List.reverse_cons, List.reverse_nil, List.nil_append, List.cons_append, List.append_nil, List.length_cons, List.length_nil, List.map_cons, List.map_nil, List.sum_cons, List.sum_nil, Option.toList_some, Option.toList_none, xRecv_mk, true_and, and_true, true_implies, Nat.reduceAdd, Nat.reduceLeDiff, Nat.zero_le, Nat.le_refl, Nat.add_zero, Nat.zero_add, reduceIte, not_true_eq_false, not_false_eq_true, false_implies, and_self, implies_true, eq_self, Nat.reduceEqDiff, List.cons.injEq, xsn_1, xsn_2, false_and, and_false, or_false, false_or, or_true, true_or, xsn_3, xsn_4, mAst_1, mAst_2, mSet_1, mSet_2, m12_nI, add_nI, e2, e3, e4, xin_nI (show 12 * w + n - j < 72 by omega) (by omega), xin_nI (show 12 * w + n - j - 1 < 72 by omega) (by omega), ix_nI (show 12 * w + n - j < 1000 by omega), ix_nI (show 12 * w + n - j - 1 < 1000 by omega)]
      try simp only [xif_e]
      repeat' (first | rfl | apply And.intro)) (by
      rintro lv st S cs ss ⟨rfl, rfl, rfl, rfl, rfl⟩ fu hfu
      have e1 : (mShR M 41 (12 * w + n) (n - k)).2 42 w = nI n := by rw [mShR_2 _ _ _ _ (by omega)]; simp [hn]
      have e2 : (nI (12 * w + n - (n - k)) ≤ nI (12 * w + k)) = True := by rw [le_nI (by omega) (by omega)]; simp; omega
      simp only [kb_12, kc_12, ki_1, ki_m1, ↓ma_41, ↓ma_42, ↓mg_41, ↓mg_42, ↓ms_41, ↓ms_42, ↓vm_aload_n, ↓vm_bipush, ↓vm_dup2, ↓vm_getfield, ↓vm_goto, ↓vm_iadd, ↓vm_iaload, ↓vm_iastore, ↓vm_iconst, ↓vm_if_icmp_le, ↓vm_iinc, ↓vm_iload, ↓vm_iload_n, ↓vm_imul, ↓vm_istore, ↓vm_isub, ↓vm_return_, ↓tbX8_returns_0, ↓tbX8_returns_2, ↓tbX8_returns_3, ↓tbX8_returns_4, ↓tbX8_returns_5, ↓tbX8_returns_8, ↓tbX8_returns_9, ↓tbX8_returns_10, ↓tbX8_returns_11, ↓tbX8_returns_13, ↓tbX8_returns_15, ↓tbX8_returns_17, ↓tbX8_returns_18, ↓tbX8_returns_19, ↓tbX8_returns_20, ↓tbX8_returns_21, ↓tbX8_returns_24, ↓tbX8_returns_25, ↓tbX8_returns_28, ↓tbX8_returns_30, ↓tbX8_returns_31, ↓tbX8_returns_34, ↓tbX8_returns_36, ↓tbX8_returns_37, ↓tbX8_returns_38, ↓tbX8_returns_39, ↓tbX8_returns_40, ↓tbX8_returns_43, ↓tbX8_returns_46, ↓tbX8_returns_47, ↓tbX8_returns_50, ↓tbX8_returns_52, ↓tbX8_returns_53, ↓tbX8_returns_54, ↓tbX8_returns_55, ↓tbX8_returns_56, ↓tbX8_returns_57, ↓tbX8_returns_58, ↓tbX8_returns_59, ↓tbX8_returns_62, ↓tbX8_returns_63, ↓tbX8_returns_64, ↓tbX8_returns_65, ↓tbX8_returns_66, ↓tbX8_returns_67, ↓tbX8_returns_68, hfu, xstep0, xJ1_hit, xJ1_go, xJ2_hit1, xJ2_hit2, xJ2_go, ↓xif_t, ↓xif_f, seval, ↓xca_eq, ↓xre_l, ↓xre_r, xmask_t, xmask_f, xmask_nil, ↓xst_eq, xX_eq, eI_eq, eMc_eq, eMs_eq, eF_eq, eThr_eq, ↓xS1_mk, ↓xSI_mk, ↓xSR_mk, ↓xLI_0, ↓xLI_s, ↓xLR_0, ↓xLR_s, vRef_ref, vRef_null, vRef_rf, cat_int, cat_ref, cat_null, cat_rf, rf_some, rf_none, rf_null, rf_eq, rf_ref, ref_rf, ref_null, ref_ref, xOk_0, xOk_1, xOk_2r, xOk_2n, xOk_2f, vOpt_rf, vOpt_ref, vOpt_null, List.set_cons_zero, List.set_cons_succ, List.take_succ_cons, List.take_zero, List.drop_succ_cons, List.drop_zero, List.reverse_cons, List.reverse_nil, List.nil_append, List.cons_append, List.append_nil, List.length_cons, List.length_nil, List.map_cons, List.map_nil, List.sum_cons, List.sum_nil, Option.toList_some, Option.toList_none, xRecv_mk, true_and, and_true, true_implies, Nat.reduceAdd, Nat.reduceLeDiff, Nat.zero_le, Nat.le_refl, Nat.add_zero, Nat.zero_add, reduceIte, not_true_eq_false, not_false_eq_true, false_implies, and_self, implies_true, eq_self, Nat.reduceEqDiff, List.cons.injEq, xsn_1, xsn_2, false_and, and_false, or_false, false_or, or_true, true_or, xsn_3, xsn_4, mAst_1, mAst_2, mSet_1, mSet_2, h1, ix_nI (show w < 1000 by omega), e1, m12_nI, add_nI, e2, xin_nI (show 12 * w + k < 72 by omega) (by omega), ix_nI (show 12 * w + k < 1000 by omega), nI1]
      try simp only [xif_e]
      exact h)
  refine xgo hG (mb := [true, true, true, true, true]) (loop 0 (Nat.zero_le _)) (pc := 0) (fun fu hfu => ?_)
  simp only [kb_12, kc_12, ki_1, ki_m1, ↓ma_41, ↓ma_42, ↓mg_41, ↓mg_42, ↓ms_41, ↓ms_42, ↓vm_aload_n, ↓vm_bipush, ↓vm_dup2, ↓vm_getfield, ↓vm_goto, ↓vm_iadd, ↓vm_iaload, ↓vm_iastore, ↓vm_iconst, ↓vm_if_icmp_le, ↓vm_iinc, ↓vm_iload, ↓vm_iload_n, ↓vm_imul, ↓vm_istore, ↓vm_isub, ↓vm_return_, ↓tbX8_returns_0, ↓tbX8_returns_2, ↓tbX8_returns_3, ↓tbX8_returns_4, ↓tbX8_returns_5, ↓tbX8_returns_8, ↓tbX8_returns_9, ↓tbX8_returns_10, ↓tbX8_returns_11, ↓tbX8_returns_13, ↓tbX8_returns_15, ↓tbX8_returns_17, ↓tbX8_returns_18, ↓tbX8_returns_19, ↓tbX8_returns_20, ↓tbX8_returns_21, ↓tbX8_returns_24, ↓tbX8_returns_25, ↓tbX8_returns_28, ↓tbX8_returns_30, ↓tbX8_returns_31, ↓tbX8_returns_34, ↓tbX8_returns_36, ↓tbX8_returns_37, ↓tbX8_returns_38, ↓tbX8_returns_39, ↓tbX8_returns_40, ↓tbX8_returns_43, ↓tbX8_returns_46, ↓tbX8_returns_47, ↓tbX8_returns_50, ↓tbX8_returns_52, ↓tbX8_returns_53, ↓tbX8_returns_54, ↓tbX8_returns_55, ↓tbX8_returns_56, ↓tbX8_returns_57, ↓tbX8_returns_58, ↓tbX8_returns_59, ↓tbX8_returns_62, ↓tbX8_returns_63, ↓tbX8_returns_64, ↓tbX8_returns_65, ↓tbX8_returns_66, ↓tbX8_returns_67, ↓tbX8_returns_68, hfu, xstep0, xJ1_hit, xJ1_go, xJ2_hit1, xJ2_hit2, xJ2_go, ↓xif_t, ↓xif_f, seval, ↓xca_eq, ↓xre_l, ↓xre_r, xmask_t, xmask_f, xmask_nil, ↓xst_eq, xX_eq, eI_eq, eMc_eq, eMs_eq, eF_eq, eThr_eq, ↓xS1_mk, ↓xSI_mk, ↓xSR_mk, ↓xLI_0, ↓xLI_s, ↓xLR_0, ↓xLR_s, vRef_ref, vRef_null, vRef_rf, cat_int, cat_ref, cat_null, cat_rf, rf_some, rf_none, rf_null, rf_eq, rf_ref, ref_rf, ref_null, ref_ref, xOk_0, xOk_1, xOk_2r, xOk_2n, xOk_2f, vOpt_rf, vOpt_ref, vOpt_null, List.set_cons_zero, List.set_cons_succ, List.take_succ_cons, List.take_zero, List.drop_succ_cons, List.drop_zero, List.reverse_cons, List.reverse_nil, List.nil_append, List.cons_append, List.append_nil, List.length_cons, List.length_nil, List.map_cons, List.map_nil, List.sum_cons, List.sum_nil, Option.toList_some, Option.toList_none, xRecv_mk, true_and, and_true, true_implies, Nat.reduceAdd, Nat.reduceLeDiff, Nat.zero_le, Nat.le_refl, Nat.add_zero, Nat.zero_add, reduceIte, not_true_eq_false, not_false_eq_true, false_implies, and_self, implies_true, eq_self, Nat.reduceEqDiff, List.cons.injEq, xsn_1, xsn_2, false_and, and_false, or_false, false_or, or_true, true_or, xsn_3, xsn_4, mAst_1, mAst_2, mSet_1, mSet_2, h1, ix_nI (show w < 1000 by omega), hn, m12_nI, add_nI]
  try simp only [xif_e]
  repeat' (first | rfl | apply And.intro)
