/-! The twin's methods: to couple, to drop. -/
abbrev mCcd (M : mS) (b g : Int32) : Prop := M.2 34 b.toNatClampNeg = -1 ∧ M.2 28 g.toNatClampNeg = -1 ∧ M.2 27 g.toNatClampNeg / 2 = M.2 33 b.toNatClampNeg ∧ ¬ M.2 42 b.toNatClampNeg = 12
def mCc1 (M : mS) (b g : Int32) : mS := if mCcd M b g then mAst M 41 (12 * b + M.2 42 b.toNatClampNeg).toNatClampNeg g else M
noncomputable def mCcr (M : mS) (b g : Int32) : Int32 := if mCcd M b g ∧ ¬ mDgr (mCc1 M b g) b.toNatClampNeg (M.2 42 b.toNatClampNeg + 1).toNatClampNeg = true then 1 else 0
theorem mCcr_01 (M : mS) (b g : Int32) : mCcr M b g = 0 ∨ mCcr M b g = 1 := by unfold mCcr; split <;> simp
theorem mTk_in {M : mS} {b : Int32} (h1 : vp_in b 6) (h : mTk M b.toNatClampNeg) (h12 : ¬ M.2 42 b.toNatClampNeg = 12) : vp_in (12 * b + M.2 42 b.toNatClampNeg) 72 := by
  obtain ⟨w, hw, rfl⟩ := vp_in_of h1 (by omega)
  obtain ⟨n, hn, hn12, -⟩ := h
  rw [hn, m12_nI, add_nI]
  have : n ≠ 12 := fun q => h12 (by rw [hn, q]; rfl)
  exact xin_nI (by omega) (by omega)
theorem mTn_next {M : mS} {b g : Int32} (h1 : vp_in b 6) (h2 : vp_in g 24) (h : mTk M b.toNatClampNeg) (h12 : ¬ M.2 42 b.toNatClampNeg = 12) : mTn (mAst M 41 (12 * b + M.2 42 b.toNatClampNeg).toNatClampNeg g) b.toNatClampNeg (M.2 42 b.toNatClampNeg + 1) := by
  obtain ⟨w, hw, rfl⟩ := vp_in_of h1 (by omega)
  obtain ⟨n, hn, hn12, ht⟩ := h
  rw [ix_nI (by omega)] at *
  have : n ≠ 12 := fun q => h12 (by rw [hn, q]; rfl)
  refine ⟨n + 1, by rw [hn, nI1], by omega, fun k hk => ?_⟩
  rw [hn, m12_nI, add_nI, ix_nI (by omega)]
  rw [mAst_2]
  show vp_in (if 41 = 41 ∧ 12 * w + k = 12 * w + n then g else M.2 41 (12 * w + k)) 24
  split
  · exact h2
  · exact ht k (by omega)

def tbX8_canCouple : List (Nat × xHint) := [(0, .aload_n 0, 0, 0, 0, []), (1, .iload_n 1, 1, 0, 0, []), (2, .invokevirtual 250, 0, 2, 9, []), (5, .ifCond .eq 39, 44, 0, 0, []), (8, .aload_n 0, 0, 0, 0, []), (9, .iload_n 2, 2, 0, 0, []), (10, .invokevirtual 210, 1, 2, 9, []), (13, .ifCond .eq 31, 44, 0, 0, []), (16, .aload_n 0, 0, 0, 0, []), (17, .getfield 74, 9, 27, 2, []), (20, .iload_n 2, 2, 0, 0, []), (21, .iaload, 27, 0, 0, []), (22, .iconst 2, 0, 0, 0, []), (23, .idiv, 0, 0, 0, []), (24, .aload_n 0, 0, 0, 0, []), (25, .getfield 89, 9, 33, 2, []), (28, .iload_n 1, 1, 0, 0, []), (29, .iaload, 33, 0, 0, []), (30, .if_icmp .ne 14, 44, 0, 0, []), (33, .aload_n 0, 0, 0, 0, []), (34, .getfield 116, 9, 42, 2, []), (37, .iload_n 1, 1, 0, 0, []), (38, .iaload, 42, 0, 0, []), (39, .bipush 12, 0, 0, 0, []), (41, .if_icmp .ne 5, 46, 0, 0, []), (44, .iconst 0, 0, 0, 0, []), (45, .ireturn, 1, 0, 0, []), (46, .aload_n 0, 0, 0, 0, []), (47, .getfield 113, 9, 41, 2, []), (50, .bipush 12, 0, 0, 0, []), (52, .iload_n 1, 1, 0, 0, []), (53, .imul, 0, 0, 0, []), (54, .aload_n 0, 0, 0, 0, []), (55, .getfield 116, 9, 42, 2, []), (58, .iload_n 1, 1, 0, 0, []), (59, .iaload, 42, 0, 0, []), (60, .iadd, 0, 0, 0, []), (61, .iload_n 2, 2, 0, 0, []), (62, .iastore, 41, 0, 0, []), (63, .aload_n 0, 0, 0, 0, []), (64, .iload_n 1, 1, 0, 0, []), (65, .aload_n 0, 0, 0, 0, []), (66, .getfield 116, 9, 42, 2, []), (69, .iload_n 1, 1, 0, 0, []), (70, .iaload, 42, 0, 0, []), (71, .iconst 1, 0, 0, 0, []), (72, .iadd, 0, 0, 0, []), (73, .invokevirtual 259, 2, 3, 9, []), (76, .ifCond .ne 7, 83, 0, 0, []), (79, .iconst 1, 0, 0, 0, []), (80, .goto 4, 84, 0, 0, []), (83, .iconst 0, 0, 0, 0, []), (84, .ireturn, 1, 0, 0, [])]
def clX8_canCouple : List (Instr × Nat × Nat × Nat) := [(.invokevirtual 250, 0, 2, 9), (.invokevirtual 210, 1, 2, 9), (.invokevirtual 259, 2, 3, 9)]
def thX8_canCouple : List (Nat × Nat) := []
theorem ckX8_canCouple : tbX8_canCouple.all (xRow RX8 cX8_canCouple wsX8_canCouple vwCl [9] clX8_canCouple thX8_canCouple 3 (yX8_canCouple.name == "<init>") (some .boolean)) = true := xRow_q 0xac030400a70407009a0301b660042e1b7400b42a1b2a4f1c602e1b7400b42a681b0c107100b42aac030500a00c102e1b7400b42a0e00a02e1b5900b42a6c052e1c4a00b42a1f0099d200b61c2a270099fa00b61b2a 85 (by decide +kernel) (by decide +kernel)
theorem usX8_canCouple : xUse wsX8_canCouple vwCl [9] = true := xUse_g rfl (lw_good lwl_X8_canCouple lwl_X80 (by decide +kernel)) xUse_n
theorem tbX8_canCouple_0 {k : Instr → Nat → Nat → Nat → List Nat → Prop} : xse (xFind tbX8_canCouple 0) k = k (.aload_n 0) 0 0 0 [] := rfl
theorem tbX8_canCouple_1 {k : Instr → Nat → Nat → Nat → List Nat → Prop} : xse (xFind tbX8_canCouple 1) k = k (.iload_n 1) 1 0 0 [] := rfl
theorem tbX8_canCouple_2 {k : Instr → Nat → Nat → Nat → List Nat → Prop} : xse (xFind tbX8_canCouple 2) k = k (.invokevirtual 250) 0 2 9 [] := rfl
theorem tbX8_canCouple_5 {k : Instr → Nat → Nat → Nat → List Nat → Prop} : xse (xFind tbX8_canCouple 5) k = k (.ifCond .eq 39) 44 0 0 [] := rfl
theorem tbX8_canCouple_8 {k : Instr → Nat → Nat → Nat → List Nat → Prop} : xse (xFind tbX8_canCouple 8) k = k (.aload_n 0) 0 0 0 [] := rfl
theorem tbX8_canCouple_9 {k : Instr → Nat → Nat → Nat → List Nat → Prop} : xse (xFind tbX8_canCouple 9) k = k (.iload_n 2) 2 0 0 [] := rfl
theorem tbX8_canCouple_10 {k : Instr → Nat → Nat → Nat → List Nat → Prop} : xse (xFind tbX8_canCouple 10) k = k (.invokevirtual 210) 1 2 9 [] := rfl
theorem tbX8_canCouple_13 {k : Instr → Nat → Nat → Nat → List Nat → Prop} : xse (xFind tbX8_canCouple 13) k = k (.ifCond .eq 31) 44 0 0 [] := rfl
theorem tbX8_canCouple_16 {k : Instr → Nat → Nat → Nat → List Nat → Prop} : xse (xFind tbX8_canCouple 16) k = k (.aload_n 0) 0 0 0 [] := rfl
theorem tbX8_canCouple_17 {k : Instr → Nat → Nat → Nat → List Nat → Prop} : xse (xFind tbX8_canCouple 17) k = k (.getfield 74) 9 27 2 [] := rfl
theorem tbX8_canCouple_20 {k : Instr → Nat → Nat → Nat → List Nat → Prop} : xse (xFind tbX8_canCouple 20) k = k (.iload_n 2) 2 0 0 [] := rfl
theorem tbX8_canCouple_21 {k : Instr → Nat → Nat → Nat → List Nat → Prop} : xse (xFind tbX8_canCouple 21) k = k (.iaload) 27 0 0 [] := rfl
theorem tbX8_canCouple_22 {k : Instr → Nat → Nat → Nat → List Nat → Prop} : xse (xFind tbX8_canCouple 22) k = k (.iconst 2) 0 0 0 [] := rfl
theorem tbX8_canCouple_23 {k : Instr → Nat → Nat → Nat → List Nat → Prop} : xse (xFind tbX8_canCouple 23) k = k (.idiv) 0 0 0 [] := rfl
theorem tbX8_canCouple_24 {k : Instr → Nat → Nat → Nat → List Nat → Prop} : xse (xFind tbX8_canCouple 24) k = k (.aload_n 0) 0 0 0 [] := rfl
theorem tbX8_canCouple_25 {k : Instr → Nat → Nat → Nat → List Nat → Prop} : xse (xFind tbX8_canCouple 25) k = k (.getfield 89) 9 33 2 [] := rfl
theorem tbX8_canCouple_28 {k : Instr → Nat → Nat → Nat → List Nat → Prop} : xse (xFind tbX8_canCouple 28) k = k (.iload_n 1) 1 0 0 [] := rfl
theorem tbX8_canCouple_29 {k : Instr → Nat → Nat → Nat → List Nat → Prop} : xse (xFind tbX8_canCouple 29) k = k (.iaload) 33 0 0 [] := rfl
theorem tbX8_canCouple_30 {k : Instr → Nat → Nat → Nat → List Nat → Prop} : xse (xFind tbX8_canCouple 30) k = k (.if_icmp .ne 14) 44 0 0 [] := rfl
theorem tbX8_canCouple_33 {k : Instr → Nat → Nat → Nat → List Nat → Prop} : xse (xFind tbX8_canCouple 33) k = k (.aload_n 0) 0 0 0 [] := rfl
theorem tbX8_canCouple_34 {k : Instr → Nat → Nat → Nat → List Nat → Prop} : xse (xFind tbX8_canCouple 34) k = k (.getfield 116) 9 42 2 [] := rfl
theorem tbX8_canCouple_37 {k : Instr → Nat → Nat → Nat → List Nat → Prop} : xse (xFind tbX8_canCouple 37) k = k (.iload_n 1) 1 0 0 [] := rfl
theorem tbX8_canCouple_38 {k : Instr → Nat → Nat → Nat → List Nat → Prop} : xse (xFind tbX8_canCouple 38) k = k (.iaload) 42 0 0 [] := rfl
theorem tbX8_canCouple_39 {k : Instr → Nat → Nat → Nat → List Nat → Prop} : xse (xFind tbX8_canCouple 39) k = k (.bipush 12) 0 0 0 [] := rfl
theorem tbX8_canCouple_41 {k : Instr → Nat → Nat → Nat → List Nat → Prop} : xse (xFind tbX8_canCouple 41) k = k (.if_icmp .ne 5) 46 0 0 [] := rfl
theorem tbX8_canCouple_44 {k : Instr → Nat → Nat → Nat → List Nat → Prop} : xse (xFind tbX8_canCouple 44) k = k (.iconst 0) 0 0 0 [] := rfl
theorem tbX8_canCouple_45 {k : Instr → Nat → Nat → Nat → List Nat → Prop} : xse (xFind tbX8_canCouple 45) k = k (.ireturn) 1 0 0 [] := rfl
theorem tbX8_canCouple_46 {k : Instr → Nat → Nat → Nat → List Nat → Prop} : xse (xFind tbX8_canCouple 46) k = k (.aload_n 0) 0 0 0 [] := rfl
theorem tbX8_canCouple_47 {k : Instr → Nat → Nat → Nat → List Nat → Prop} : xse (xFind tbX8_canCouple 47) k = k (.getfield 113) 9 41 2 [] := rfl
theorem tbX8_canCouple_50 {k : Instr → Nat → Nat → Nat → List Nat → Prop} : xse (xFind tbX8_canCouple 50) k = k (.bipush 12) 0 0 0 [] := rfl
theorem tbX8_canCouple_52 {k : Instr → Nat → Nat → Nat → List Nat → Prop} : xse (xFind tbX8_canCouple 52) k = k (.iload_n 1) 1 0 0 [] := rfl
theorem tbX8_canCouple_53 {k : Instr → Nat → Nat → Nat → List Nat → Prop} : xse (xFind tbX8_canCouple 53) k = k (.imul) 0 0 0 [] := rfl
theorem tbX8_canCouple_54 {k : Instr → Nat → Nat → Nat → List Nat → Prop} : xse (xFind tbX8_canCouple 54) k = k (.aload_n 0) 0 0 0 [] := rfl
theorem tbX8_canCouple_55 {k : Instr → Nat → Nat → Nat → List Nat → Prop} : xse (xFind tbX8_canCouple 55) k = k (.getfield 116) 9 42 2 [] := rfl
theorem tbX8_canCouple_58 {k : Instr → Nat → Nat → Nat → List Nat → Prop} : xse (xFind tbX8_canCouple 58) k = k (.iload_n 1) 1 0 0 [] := rfl
theorem tbX8_canCouple_59 {k : Instr → Nat → Nat → Nat → List Nat → Prop} : xse (xFind tbX8_canCouple 59) k = k (.iaload) 42 0 0 [] := rfl
theorem tbX8_canCouple_60 {k : Instr → Nat → Nat → Nat → List Nat → Prop} : xse (xFind tbX8_canCouple 60) k = k (.iadd) 0 0 0 [] := rfl
theorem tbX8_canCouple_61 {k : Instr → Nat → Nat → Nat → List Nat → Prop} : xse (xFind tbX8_canCouple 61) k = k (.iload_n 2) 2 0 0 [] := rfl
theorem tbX8_canCouple_62 {k : Instr → Nat → Nat → Nat → List Nat → Prop} : xse (xFind tbX8_canCouple 62) k = k (.iastore) 41 0 0 [] := rfl
theorem tbX8_canCouple_63 {k : Instr → Nat → Nat → Nat → List Nat → Prop} : xse (xFind tbX8_canCouple 63) k = k (.aload_n 0) 0 0 0 [] := rfl
theorem tbX8_canCouple_64 {k : Instr → Nat → Nat → Nat → List Nat → Prop} : xse (xFind tbX8_canCouple 64) k = k (.iload_n 1) 1 0 0 [] := rfl
theorem tbX8_canCouple_65 {k : Instr → Nat → Nat → Nat → List Nat → Prop} : xse (xFind tbX8_canCouple 65) k = k (.aload_n 0) 0 0 0 [] := rfl
theorem tbX8_canCouple_66 {k : Instr → Nat → Nat → Nat → List Nat → Prop} : xse (xFind tbX8_canCouple 66) k = k (.getfield 116) 9 42 2 [] := rfl
theorem tbX8_canCouple_69 {k : Instr → Nat → Nat → Nat → List Nat → Prop} : xse (xFind tbX8_canCouple 69) k = k (.iload_n 1) 1 0 0 [] := rfl
theorem tbX8_canCouple_70 {k : Instr → Nat → Nat → Nat → List Nat → Prop} : xse (xFind tbX8_canCouple 70) k = k (.iaload) 42 0 0 [] := rfl
theorem tbX8_canCouple_71 {k : Instr → Nat → Nat → Nat → List Nat → Prop} : xse (xFind tbX8_canCouple 71) k = k (.iconst 1) 0 0 0 [] := rfl
theorem tbX8_canCouple_72 {k : Instr → Nat → Nat → Nat → List Nat → Prop} : xse (xFind tbX8_canCouple 72) k = k (.iadd) 0 0 0 [] := rfl
theorem tbX8_canCouple_73 {k : Instr → Nat → Nat → Nat → List Nat → Prop} : xse (xFind tbX8_canCouple 73) k = k (.invokevirtual 259) 2 3 9 [] := rfl
theorem tbX8_canCouple_76 {k : Instr → Nat → Nat → Nat → List Nat → Prop} : xse (xFind tbX8_canCouple 76) k = k (.ifCond .ne 7) 83 0 0 [] := rfl
theorem tbX8_canCouple_79 {k : Instr → Nat → Nat → Nat → List Nat → Prop} : xse (xFind tbX8_canCouple 79) k = k (.iconst 1) 0 0 0 [] := rfl
theorem tbX8_canCouple_80 {k : Instr → Nat → Nat → Nat → List Nat → Prop} : xse (xFind tbX8_canCouple 80) k = k (.goto 4) 84 0 0 [] := rfl
theorem tbX8_canCouple_83 {k : Instr → Nat → Nat → Nat → List Nat → Prop} : xse (xFind tbX8_canCouple 83) k = k (.iconst 0) 0 0 0 [] := rfl
theorem tbX8_canCouple_84 {k : Instr → Nat → Nat → Nat → List Nat → Prop} : xse (xFind tbX8_canCouple 84) k = k (.ireturn) 1 0 0 [] := rfl

def spX8_canCouple (aM : Nat → Nat) : xSp mS := (fun av M => (0, 0), fun av M K => ∃ (b : Int32) (g : Int32), av = [.ref (aM 0), .int b, .int g] ∧ (vp_in b 6 ∧ vp_in g 24 ∧ mWk M b.toNatClampNeg ∧ mTk M b.toNatClampNeg ∧ K (rI (mCcr M b g)) (mCc1 M b g)))
theorem spcX8_canCouple {av : List Value} {M : mS} {aM : Nat → Nat} : (spX8_canCouple aM).1 av M = (0, 0) := rfl
theorem spwX8_canCouple {M : mS} {aM : Nat → Nat} {K : xRes → mS → Prop} {b : Int32} {g : Int32} : (spX8_canCouple aM).2 [.ref (aM 0), .int b, .int g] M K = (vp_in b 6 ∧ vp_in g 24 ∧ mWk M b.toNatClampNeg ∧ mTk M b.toNatClampNeg ∧ K (rI (mCcr M b g)) (mCc1 M b g)) :=
  propext ⟨fun h => by
    simp only [spX8_canCouple] at h
    obtain ⟨_, _, e, h⟩ := h
    simp only [List.cons.injEq, Value.int.injEq, Value.ref.injEq, rf_eq, and_true, true_and] at e
    obtain ⟨rfl, rfl⟩ := e
    exact h, fun h => ⟨_, _, rfl, h⟩⟩

def callX8_canCouple (aM : Nat → Nat) : Nat → Option (xSp mS) := fun n => match n with | 0 => some (spX8_stands aM) | 1 => some (spX8_isTied aM) | 2 => some (spX8_isDangerous aM) | _ => none

theorem callX8_canCouple_0 {aM : Nat → Nat} {k : xSp mS → Prop} : xcs (callX8_canCouple aM 0) k = k (spX8_stands aM) := rfl

theorem callX8_canCouple_1 {aM : Nat → Nat} {k : xSp mS → Prop} : xcs (callX8_canCouple aM 1) k = k (spX8_isTied aM) := rfl

theorem callX8_canCouple_2 {aM : Nat → Nat} {k : xSp mS → Prop} : xcs (callX8_canCouple aM 2) k = k (spX8_isDangerous aM) := rfl

theorem crX8_canCouple (l : Launch) (W9 : xWd) (aM : Nat → Nat) (hi : mInj aM) : xCallsOK l W9 (mI aM) (callX8_canCouple aM) clX8_canCouple RX8 wsX8_canCouple 2 48 3 := by
  intro E A p e R s m args below meth c hI hF hL X
  exact List.forall_mem_cons.mpr ⟨⟨_, rfl, xCR_V X (by rw [hI]; exact (semX8_stands l W9 aM hi)) gX8_canCouple_X8_stands rfl rfl (by decide +kernel) (by rw [hF, hL]; decide)⟩,
    List.forall_mem_cons.mpr ⟨⟨_, rfl, xCR_V X (by rw [hI]; exact (semX8_isTied l W9 aM hi)) gX8_canCouple_X8_isTied rfl rfl (by decide +kernel) (by rw [hF, hL]; decide)⟩,
    List.forall_mem_cons.mpr ⟨⟨_, rfl, xCR_V X (by rw [hI]; exact (semX8_isDangerous l W9 aM hi)) gX8_canCouple_X8_isDangerous rfl rfl (by decide +kernel) (by rw [hF, hL]; decide)⟩,
    fun _ h => nomatch h⟩⟩⟩

set_option maxHeartbeats 4000000 in
set_option maxRecDepth 20000 in
theorem semX8_canCouple (l : Launch) (W9 : xWd) (aM : Nat → Nat) (hi : mInj aM) : xSem l W9 (mI aM) yX8_canCouple wsX8_canCouple 2 48 (spX8_canCouple aM) := by
  refine xSem_of (call := callX8_canCouple aM) (thrf := fun _ => "") (mI_law hi) (by decide +kernel) rfl ckX8_canCouple usX8_canCouple (crX8_canCouple l W9 aM hi) xThrOK_nil ?_ ?_
  · intro av M KF h
    obtain ⟨b, g, rfl, h⟩ := h
    exact ⟨by intro v hv; simp only [List.mem_cons, List.not_mem_nil, or_false] at hv; rcases hv with rfl | rfl | rfl <;> first | rfl | exact cat_rf, Nat.le_of_ble_eq_true rfl⟩
  intro av M KF h G hG
  obtain ⟨b, g, rfl, h⟩ := h
  rw [show (spX8_canCouple aM).1 _ M = _ from spcX8_canCouple] at hG
  try dsimp only at hG
  change G 0 [some (.ref (aM 0)), some (.int b), some (.int g)] [] M 0 0
  obtain ⟨h1, h2, hW, hT, h⟩ := h

  by_cases hc : mCcd M b g
  · have e1 : mCc1 M b g = mAst M 41 (12 * b + M.2 42 b.toNatClampNeg).toNatClampNeg g := if_pos hc
    have h3 := mTk_in h1 hT hc.2.2.2
    have h4 := mTn_next h1 h2 hT hc.2.2.2
    have h5 : mWk (mAst M 41 (12 * b + M.2 42 b.toNatClampNeg).toNatClampNeg g) b.toNatClampNeg := hW
    unfold mCcr at h
    rw [e1] at h
    obtain ⟨c1, c2, c3, c4⟩ := hc
    refine xgo0 hG (fun fu hfu => ?_)
    simp only [↓callX8_canCouple_0, ↓callX8_canCouple_1, ↓callX8_canCouple_2, kb_12, kc_12, ki_0, ki_1, ki_2, ↓ma_27, ↓ma_33, ↓ma_42, ↓mg_27, ↓mg_33, ↓mg_41, ↓mg_42, misa, ↓ms_41, ↓vm_aload_n, ↓vm_bipush, ↓vm_getfield, ↓vm_goto, ↓vm_iadd, ↓vm_iaload, ↓vm_iastore, ↓vm_iconst, ↓vm_idiv, ↓vm_ifCond_eq, ↓vm_ifCond_ne, ↓vm_if_icmp_ne, ↓vm_iload_n, ↓vm_imul, ↓vm_invokevirtual, ↓vm_ireturn, ↓xc_2, ↓xc_3, ↓tbX8_canCouple_0, ↓tbX8_canCouple_1, ↓tbX8_canCouple_2, ↓tbX8_canCouple_5, ↓tbX8_canCouple_8, ↓tbX8_canCouple_9, ↓tbX8_canCouple_10, ↓tbX8_canCouple_13, ↓tbX8_canCouple_16, ↓tbX8_canCouple_17, ↓tbX8_canCouple_20, ↓tbX8_canCouple_21, ↓tbX8_canCouple_22, ↓tbX8_canCouple_23, ↓tbX8_canCouple_24, ↓tbX8_canCouple_25, ↓tbX8_canCouple_28, ↓tbX8_canCouple_29, ↓tbX8_canCouple_30, ↓tbX8_canCouple_33, ↓tbX8_canCouple_34, ↓tbX8_canCouple_37, ↓tbX8_canCouple_38, ↓tbX8_canCouple_39, ↓tbX8_canCouple_41, ↓tbX8_canCouple_44, ↓tbX8_canCouple_45, ↓tbX8_canCouple_46, ↓tbX8_canCouple_47, ↓tbX8_canCouple_50, ↓tbX8_canCouple_52, ↓tbX8_canCouple_53, ↓tbX8_canCouple_54, ↓tbX8_canCouple_55, ↓tbX8_canCouple_58, ↓tbX8_canCouple_59, ↓tbX8_canCouple_60, ↓tbX8_canCouple_61, ↓tbX8_canCouple_62, ↓tbX8_canCouple_63, ↓tbX8_canCouple_64, ↓tbX8_canCouple_65, ↓tbX8_canCouple_66, ↓tbX8_canCouple_69, ↓tbX8_canCouple_70, ↓tbX8_canCouple_71, ↓tbX8_canCouple_72, ↓tbX8_canCouple_73, ↓tbX8_canCouple_76, ↓tbX8_canCouple_79, ↓tbX8_canCouple_80, ↓tbX8_canCouple_83, ↓tbX8_canCouple_84, hfu, xstep0, xJ1_hit, xJ1_go, xJ2_hit1, xJ2_hit2, xJ2_go, ↓xif_t, ↓xif_f, seval, ↓xca_eq, ↓xre_l, ↓xre_r, xmask_t, xmask_f, xmask_nil, ↓xst_eq, xX_eq, eI_eq, eMc_eq, eMs_eq, eF_eq, eThr_eq, ↓xS1_mk, ↓xSI_mk, ↓xSR_mk, ↓xLI_0, ↓xLI_s, ↓xLR_0, ↓xLR_s, vRef_ref, vRef_null, vRef_rf, cat_int, cat_ref, cat_null, cat_rf, rf_some, rf_none, rf_null, rf_eq, rf_ref, ref_rf, ref_null, ref_ref, xOk_0, xOk_1, xOk_2r, xOk_2n, xOk_2f, vOpt_rf, vOpt_ref, vOpt_null, List.set_cons_zero, List.set_cons_succ, List.take_succ_cons, List.take_zero, List.drop_succ_cons, List.drop_zero, List.reverse_cons, List.reverse_nil, List.nil_append, List.cons_append, List.append_nil, List.length_cons, List.length_nil, List.map_cons, List.map_nil, List.sum_cons, List.sum_nil, Option.toList_some, Option.toList_none, xRecv_mk, true_and, and_true, true_implies, Nat.reduceAdd, Nat.reduceLeDiff, Nat.zero_le, Nat.le_refl, Nat.add_zero, Nat.zero_add, reduceIte, not_true_eq_false, not_false_eq_true, false_implies, and_self, implies_true, eq_self, Nat.reduceEqDiff, List.cons.injEq, xsn_1, xsn_2, false_and, and_false, or_false, false_or, or_true, true_or, xsn_3, xsn_4, mAst_1, mAst_2, mSet_1, mSet_2, bi_0, ↓spwX8_stands, spcX8_stands, ↓spwX8_isTied, spcX8_isTied, ↓spwX8_isDangerous, spcX8_isDangerous, h1, h2, h3, h4, h5, c1, c2, c3, c4]
    try simp only [xif_e]
    repeat' (first | with_reducible apply And.intro | with_reducible intro _)
    all_goals grind [bi]
  · have e1 : mCc1 M b g = M := if_neg hc
    unfold mCcr at h
    rw [e1, if_neg (fun q => hc q.1)] at h
    refine xgo0 hG (fun fu hfu => ?_)
    have h3 := @mTk_in M b h1 hT
    simp only [↓callX8_canCouple_0, ↓callX8_canCouple_1, ↓callX8_canCouple_2, kb_12, kc_12, ki_0, ki_1, ki_2, ↓ma_27, ↓ma_33, ↓ma_42, ↓mg_27, ↓mg_33, ↓mg_41, ↓mg_42, misa, ↓ms_41, ↓vm_aload_n, ↓vm_bipush, ↓vm_getfield, ↓vm_goto, ↓vm_iadd, ↓vm_iaload, ↓vm_iastore, ↓vm_iconst, ↓vm_idiv, ↓vm_ifCond_eq, ↓vm_ifCond_ne, ↓vm_if_icmp_ne, ↓vm_iload_n, ↓vm_imul, ↓vm_invokevirtual, ↓vm_ireturn, ↓xc_2, ↓xc_3, ↓tbX8_canCouple_0, ↓tbX8_canCouple_1, ↓tbX8_canCouple_2, ↓tbX8_canCouple_5, ↓tbX8_canCouple_8, ↓tbX8_canCouple_9, ↓tbX8_canCouple_10, ↓tbX8_canCouple_13, ↓tbX8_canCouple_16, ↓tbX8_canCouple_17, ↓tbX8_canCouple_20, ↓tbX8_canCouple_21, ↓tbX8_canCouple_22, ↓tbX8_canCouple_23, ↓tbX8_canCouple_24, ↓tbX8_canCouple_25, ↓tbX8_canCouple_28, ↓tbX8_canCouple_29, ↓tbX8_canCouple_30, ↓tbX8_canCouple_33, ↓tbX8_canCouple_34, ↓tbX8_canCouple_37, ↓tbX8_canCouple_38, ↓tbX8_canCouple_39, ↓tbX8_canCouple_41, ↓tbX8_canCouple_44, ↓tbX8_canCouple_45, ↓tbX8_canCouple_46, ↓tbX8_canCouple_47, ↓tbX8_canCouple_50, ↓tbX8_canCouple_52, ↓tbX8_canCouple_53, ↓tbX8_canCouple_54, ↓tbX8_canCouple_55, ↓tbX8_canCouple_58, ↓tbX8_canCouple_59, ↓tbX8_canCouple_60, ↓tbX8_canCouple_61, ↓tbX8_canCouple_62, ↓tbX8_canCouple_63, ↓tbX8_canCouple_64, ↓tbX8_canCouple_65, ↓tbX8_canCouple_66, ↓tbX8_canCouple_69, ↓tbX8_canCouple_70, ↓tbX8_canCouple_71, ↓tbX8_canCouple_72, ↓tbX8_canCouple_73, ↓tbX8_canCouple_76, ↓tbX8_canCouple_79, ↓tbX8_canCouple_80, ↓tbX8_canCouple_83, ↓tbX8_canCouple_84, hfu, xstep0, xJ1_hit, xJ1_go, xJ2_hit1, xJ2_hit2, xJ2_go, ↓xif_t, ↓xif_f, seval, ↓xca_eq, ↓xre_l, ↓xre_r, xmask_t, xmask_f, xmask_nil, ↓xst_eq, xX_eq, eI_eq, eMc_eq, eMs_eq, eF_eq, eThr_eq, ↓xS1_mk, ↓xSI_mk, ↓xSR_mk, ↓xLI_0, ↓xLI_s, ↓xLR_0, ↓xLR_s, vRef_ref, vRef_null, vRef_rf, cat_int, cat_ref, cat_null, cat_rf, rf_some, rf_none, rf_null, rf_eq, rf_ref, ref_rf, ref_null, ref_ref, xOk_0, xOk_1, xOk_2r, xOk_2n, xOk_2f, vOpt_rf, vOpt_ref, vOpt_null, List.set_cons_zero, List.set_cons_succ, List.take_succ_cons, List.take_zero, List.drop_succ_cons, List.drop_zero, List.reverse_cons, List.reverse_nil, List.nil_append, List.cons_append, List.append_nil, List.length_cons, List.length_nil, List.map_cons, List.map_nil, List.sum_cons, List.sum_nil, Option.toList_some, Option.toList_none, xRecv_mk, true_and, and_true, true_implies, Nat.reduceAdd, Nat.reduceLeDiff, Nat.zero_le, Nat.le_refl, Nat.add_zero, Nat.zero_add, reduceIte, not_true_eq_false, not_false_eq_true, false_implies, and_self, implies_true, eq_self, Nat.reduceEqDiff, List.cons.injEq, xsn_1, xsn_2, false_and, and_false, or_false, false_or, or_true, true_or, xsn_3, xsn_4, mAst_1, mAst_2, mSet_1, mSet_2, bi_0, ↓spwX8_stands, spcX8_stands, ↓spwX8_isTied, spcX8_isTied, ↓spwX8_isDangerous, spcX8_isDangerous, h1, h2]
    try simp only [xif_e]
    repeat' (first | with_reducible apply And.intro | with_reducible intro _)
    all_goals grind [bi]

def tOf (M : mS) (g : Int32) : Nat := (M.2 27 g.toNatClampNeg).toNatClampNeg
def nT (M : mS) (t : Nat) : Nat := (M.2 18 t).toNatClampNeg
def mTd (M : mS) : Prop := ∀ t, t < 16 → M.2 18 t = nI (nT M t) ∧ nT M t ≤ 5
/-- the barge at the place p goes out of the tier t of n barges -/
def mLt (M : mS) (t p n : Nat) : mS := mShL (mAst M 18 t (nI (n - 1))) 19 (5 * t + p) (n - 1 - p)
def mCpl (M : mS) (b g : Int32) (t p n : Nat) : mS :=
  mSet (mAst (mAst (mAst (mLt M t p n) 28 g.toNatClampNeg b) 42 b.toNatClampNeg (M.2 42 b.toNatClampNeg + 1)) 39 b.toNatClampNeg (M.2 39 b.toNatClampNeg + (2 + nI (n - 1 - p)))) 56 (M.1 56 + 3 * nI (n - 1 - p))
noncomputable def oCouple (M : mS) (b g : Int32) : Int32 × mS :=
  if ¬ ((0 ≤ b ∧ b ≤ M.1 29 - 1) ∧ 0 ≤ g ∧ g ≤ M.1 22 - 1) then (0, mSet M 0 1)
  else if mCcr M b g = 0 then (0, mSet (mCc1 M b g) 0 2)
  else (M.2 42 b.toNatClampNeg + 1, mCpl (mSet (mCc1 M b g) 0 0) b g (tOf M g) (mPlc M g) (nT M (tOf M g)))

def tbX8_couple : List (Nat × xHint) := [(0, .aload_n 0, 0, 0, 0, []), (1, .iload_n 1, 1, 0, 0, []), (2, .invokevirtual 247, 0, 2, 9, []), (5, .ifCond .eq 15, 20, 0, 0, []), (8, .aload_n 0, 0, 0, 0, []), (9, .iload_n 2, 2, 0, 0, []), (10, .invokevirtual 234, 1, 2, 9, []), (13, .ifCond .eq 7, 20, 0, 0, []), (16, .iconst 1, 0, 0, 0, []), (17, .goto 4, 21, 0, 0, []), (20, .iconst 0, 0, 0, 0, []), (21, .istore_n 3, 3, 0, 0, []), (22, .aload_n 0, 0, 0, 0, []), (23, .iload_n 3, 3, 0, 0, []), (24, .ifCond .ne 7, 31, 0, 0, []), (27, .iconst 1, 0, 0, 0, []), (28, .goto 17, 45, 0, 0, []), (31, .aload_n 0, 0, 0, 0, []), (32, .iload_n 1, 1, 0, 0, []), (33, .iload_n 2, 2, 0, 0, []), (34, .invokevirtual 262, 2, 3, 9, []), (37, .ifCond .eq 7, 44, 0, 0, []), (40, .iconst 0, 0, 0, 0, []), (41, .goto 4, 45, 0, 0, []), (44, .iconst 2, 0, 0, 0, []), (45, .invokevirtual 183, 3, 2, 9, []), (48, .ifCond .ne 5, 53, 0, 0, []), (51, .iconst 0, 0, 0, 0, []), (52, .ireturn, 0, 0, 0, []), (53, .aload_n 0, 0, 0, 0, []), (54, .iload_n 2, 2, 0, 0, []), (55, .invokevirtual 216, 4, 2, 9, []), (58, .istore 4, 4, 0, 0, []), (60, .aload_n 0, 0, 0, 0, []), (61, .getfield 74, 9, 27, 2, []), (64, .iload_n 2, 2, 0, 0, []), (65, .iaload, 27, 0, 0, []), (66, .istore 5, 5, 0, 0, []), (68, .aload_n 0, 0, 0, 0, []), (69, .iload_n 2, 2, 0, 0, []), (70, .invokevirtual 213, 5, 2, 9, []), (73, .istore 6, 6, 0, 0, []), (75, .aload_n 0, 0, 0, 0, []), (76, .getfield 50, 9, 18, 2, []), (79, .iload 5, 5, 0, 0, []), (81, .dup2, 0, 0, 0, []), (82, .iaload, 18, 0, 0, []), (83, .iconst 1, 0, 0, 0, []), (84, .isub, 0, 0, 0, []), (85, .iastore, 18, 0, 0, []), (86, .iconst 5, 0, 0, 0, []), (87, .iload 5, 5, 0, 0, []), (89, .imul, 0, 0, 0, []), (90, .iload 6, 6, 0, 0, []), (92, .iadd, 0, 0, 0, []), (93, .istore 7, 7, 0, 0, []), (95, .iload 7, 7, 0, 0, []), (97, .iconst 5, 0, 0, 0, []), (98, .iload 5, 5, 0, 0, []), (100, .imul, 0, 0, 0, []), (101, .aload_n 0, 0, 0, 0, []), (102, .getfield 50, 9, 18, 2, []), (105, .iload 5, 5, 0, 0, []), (107, .iaload, 18, 0, 0, []), (108, .iadd, 0, 0, 0, []), (109, .if_icmp .ge 25, 134, 0, 0, []), (112, .aload_n 0, 0, 0, 0, []), (113, .getfield 53, 9, 19, 2, []), (116, .iload 7, 7, 0, 0, []), (118, .aload_n 0, 0, 0, 0, []), (119, .getfield 53, 9, 19, 2, []), (122, .iload 7, 7, 0, 0, []), (124, .iconst 1, 0, 0, 0, []), (125, .iadd, 0, 0, 0, []), (126, .iaload, 19, 0, 0, []), (127, .iastore, 19, 0, 0, []), (128, .iinc 7 1, 7, 0, 0, []), (131, .goto (-36), 95, 0, 0, []), (134, .aload_n 0, 0, 0, 0, []), (135, .getfield 77, 9, 28, 2, []), (138, .iload_n 2, 2, 0, 0, []), (139, .iload_n 1, 1, 0, 0, []), (140, .iastore, 28, 0, 0, []), (141, .aload_n 0, 0, 0, 0, []), (142, .getfield 116, 9, 42, 2, []), (145, .iload_n 1, 1, 0, 0, []), (146, .dup2, 0, 0, 0, []), (147, .iaload, 42, 0, 0, []), (148, .iconst 1, 0, 0, 0, []), (149, .iadd, 0, 0, 0, []), (150, .iastore, 42, 0, 0, []), (151, .aload_n 0, 0, 0, 0, []), (152, .getfield 107, 9, 39, 2, []), (155, .iload_n 1, 1, 0, 0, []), (156, .dup2, 0, 0, 0, []), (157, .iaload, 39, 0, 0, []), (158, .iconst 2, 0, 0, 0, []), (159, .iload 4, 4, 0, 0, []), (161, .iadd, 0, 0, 0, []), (162, .iadd, 0, 0, 0, []), (163, .iastore, 39, 0, 0, []), (164, .aload_n 0, 0, 0, 0, []), (165, .dup, 0, 0, 0, []), (166, .getfield 265, 9, 56, 0, []), (169, .iconst 3, 0, 0, 0, []), (170, .iload 4, 4, 0, 0, []), (172, .imul, 0, 0, 0, []), (173, .iadd, 0, 0, 0, []), (174, .putfield 265, 9, 56, 0, []), (177, .aload_n 0, 0, 0, 0, []), (178, .getfield 116, 9, 42, 2, []), (181, .iload_n 1, 1, 0, 0, []), (182, .iaload, 42, 0, 0, []), (183, .ireturn, 0, 0, 0, [])]
def clX8_couple : List (Instr × Nat × Nat × Nat) := [(.invokevirtual 247, 0, 2, 9), (.invokevirtual 234, 1, 2, 9), (.invokevirtual 262, 2, 3, 9), (.invokevirtual 183, 3, 2, 9), (.invokevirtual 216, 4, 2, 9), (.invokevirtual 213, 5, 2, 9)]
def thX8_couple : List (Nat × Nat) := []
theorem ckX8_couple : tbX8_couple.all (xRow RX8 cX8_couple wsX8_couple vwCl [9] clX8_couple thX8_couple 8 (yX8_couple.name == "<init>") (some .int)) = true := xRow_q 0xac2e1b7400b42a0901b560680415060901b4592a4f60600415052e5c1b6b00b42a4f60042e5c1b7400b42a4f1b1c4d00b42adcffa70107844f2e600407153500b42a07153500b42a1900a2602e05153200b42a6805150807150736600615680515084f64042e5c05153200b42a0636d500b61c2a05362e1c4a00b42a0436d800b61c2aac0305009ab700b6050400a7030700990601b61c1b2a1100a70407009a1d2a3e030400a704070099ea00b61c2a0f0099f700b61b2a 184 (by decide +kernel) (by decide +kernel)
theorem usX8_couple : xUse wsX8_couple vwCl [9] = true := xUse_g rfl (lw_good lwl_X8_couple lwl_X80 (by decide +kernel)) xUse_n
theorem tbX8_couple_0 {k : Instr → Nat → Nat → Nat → List Nat → Prop} : xse (xFind tbX8_couple 0) k = k (.aload_n 0) 0 0 0 [] := rfl
theorem tbX8_couple_1 {k : Instr → Nat → Nat → Nat → List Nat → Prop} : xse (xFind tbX8_couple 1) k = k (.iload_n 1) 1 0 0 [] := rfl
theorem tbX8_couple_2 {k : Instr → Nat → Nat → Nat → List Nat → Prop} : xse (xFind tbX8_couple 2) k = k (.invokevirtual 247) 0 2 9 [] := rfl
theorem tbX8_couple_5 {k : Instr → Nat → Nat → Nat → List Nat → Prop} : xse (xFind tbX8_couple 5) k = k (.ifCond .eq 15) 20 0 0 [] := rfl
theorem tbX8_couple_8 {k : Instr → Nat → Nat → Nat → List Nat → Prop} : xse (xFind tbX8_couple 8) k = k (.aload_n 0) 0 0 0 [] := rfl
theorem tbX8_couple_9 {k : Instr → Nat → Nat → Nat → List Nat → Prop} : xse (xFind tbX8_couple 9) k = k (.iload_n 2) 2 0 0 [] := rfl
theorem tbX8_couple_10 {k : Instr → Nat → Nat → Nat → List Nat → Prop} : xse (xFind tbX8_couple 10) k = k (.invokevirtual 234) 1 2 9 [] := rfl
theorem tbX8_couple_13 {k : Instr → Nat → Nat → Nat → List Nat → Prop} : xse (xFind tbX8_couple 13) k = k (.ifCond .eq 7) 20 0 0 [] := rfl
theorem tbX8_couple_16 {k : Instr → Nat → Nat → Nat → List Nat → Prop} : xse (xFind tbX8_couple 16) k = k (.iconst 1) 0 0 0 [] := rfl
theorem tbX8_couple_17 {k : Instr → Nat → Nat → Nat → List Nat → Prop} : xse (xFind tbX8_couple 17) k = k (.goto 4) 21 0 0 [] := rfl
theorem tbX8_couple_20 {k : Instr → Nat → Nat → Nat → List Nat → Prop} : xse (xFind tbX8_couple 20) k = k (.iconst 0) 0 0 0 [] := rfl
theorem tbX8_couple_21 {k : Instr → Nat → Nat → Nat → List Nat → Prop} : xse (xFind tbX8_couple 21) k = k (.istore_n 3) 3 0 0 [] := rfl
theorem tbX8_couple_22 {k : Instr → Nat → Nat → Nat → List Nat → Prop} : xse (xFind tbX8_couple 22) k = k (.aload_n 0) 0 0 0 [] := rfl
theorem tbX8_couple_23 {k : Instr → Nat → Nat → Nat → List Nat → Prop} : xse (xFind tbX8_couple 23) k = k (.iload_n 3) 3 0 0 [] := rfl
theorem tbX8_couple_24 {k : Instr → Nat → Nat → Nat → List Nat → Prop} : xse (xFind tbX8_couple 24) k = k (.ifCond .ne 7) 31 0 0 [] := rfl
theorem tbX8_couple_27 {k : Instr → Nat → Nat → Nat → List Nat → Prop} : xse (xFind tbX8_couple 27) k = k (.iconst 1) 0 0 0 [] := rfl
theorem tbX8_couple_28 {k : Instr → Nat → Nat → Nat → List Nat → Prop} : xse (xFind tbX8_couple 28) k = k (.goto 17) 45 0 0 [] := rfl
theorem tbX8_couple_31 {k : Instr → Nat → Nat → Nat → List Nat → Prop} : xse (xFind tbX8_couple 31) k = k (.aload_n 0) 0 0 0 [] := rfl
theorem tbX8_couple_32 {k : Instr → Nat → Nat → Nat → List Nat → Prop} : xse (xFind tbX8_couple 32) k = k (.iload_n 1) 1 0 0 [] := rfl
theorem tbX8_couple_33 {k : Instr → Nat → Nat → Nat → List Nat → Prop} : xse (xFind tbX8_couple 33) k = k (.iload_n 2) 2 0 0 [] := rfl
theorem tbX8_couple_34 {k : Instr → Nat → Nat → Nat → List Nat → Prop} : xse (xFind tbX8_couple 34) k = k (.invokevirtual 262) 2 3 9 [] := rfl
theorem tbX8_couple_37 {k : Instr → Nat → Nat → Nat → List Nat → Prop} : xse (xFind tbX8_couple 37) k = k (.ifCond .eq 7) 44 0 0 [] := rfl
theorem tbX8_couple_40 {k : Instr → Nat → Nat → Nat → List Nat → Prop} : xse (xFind tbX8_couple 40) k = k (.iconst 0) 0 0 0 [] := rfl
theorem tbX8_couple_41 {k : Instr → Nat → Nat → Nat → List Nat → Prop} : xse (xFind tbX8_couple 41) k = k (.goto 4) 45 0 0 [] := rfl
theorem tbX8_couple_44 {k : Instr → Nat → Nat → Nat → List Nat → Prop} : xse (xFind tbX8_couple 44) k = k (.iconst 2) 0 0 0 [] := rfl
theorem tbX8_couple_45 {k : Instr → Nat → Nat → Nat → List Nat → Prop} : xse (xFind tbX8_couple 45) k = k (.invokevirtual 183) 3 2 9 [] := rfl
theorem tbX8_couple_48 {k : Instr → Nat → Nat → Nat → List Nat → Prop} : xse (xFind tbX8_couple 48) k = k (.ifCond .ne 5) 53 0 0 [] := rfl
theorem tbX8_couple_51 {k : Instr → Nat → Nat → Nat → List Nat → Prop} : xse (xFind tbX8_couple 51) k = k (.iconst 0) 0 0 0 [] := rfl
theorem tbX8_couple_52 {k : Instr → Nat → Nat → Nat → List Nat → Prop} : xse (xFind tbX8_couple 52) k = k (.ireturn) 0 0 0 [] := rfl
theorem tbX8_couple_53 {k : Instr → Nat → Nat → Nat → List Nat → Prop} : xse (xFind tbX8_couple 53) k = k (.aload_n 0) 0 0 0 [] := rfl
theorem tbX8_couple_54 {k : Instr → Nat → Nat → Nat → List Nat → Prop} : xse (xFind tbX8_couple 54) k = k (.iload_n 2) 2 0 0 [] := rfl
theorem tbX8_couple_55 {k : Instr → Nat → Nat → Nat → List Nat → Prop} : xse (xFind tbX8_couple 55) k = k (.invokevirtual 216) 4 2 9 [] := rfl
theorem tbX8_couple_58 {k : Instr → Nat → Nat → Nat → List Nat → Prop} : xse (xFind tbX8_couple 58) k = k (.istore 4) 4 0 0 [] := rfl
theorem tbX8_couple_60 {k : Instr → Nat → Nat → Nat → List Nat → Prop} : xse (xFind tbX8_couple 60) k = k (.aload_n 0) 0 0 0 [] := rfl
theorem tbX8_couple_61 {k : Instr → Nat → Nat → Nat → List Nat → Prop} : xse (xFind tbX8_couple 61) k = k (.getfield 74) 9 27 2 [] := rfl
theorem tbX8_couple_64 {k : Instr → Nat → Nat → Nat → List Nat → Prop} : xse (xFind tbX8_couple 64) k = k (.iload_n 2) 2 0 0 [] := rfl
theorem tbX8_couple_65 {k : Instr → Nat → Nat → Nat → List Nat → Prop} : xse (xFind tbX8_couple 65) k = k (.iaload) 27 0 0 [] := rfl
theorem tbX8_couple_66 {k : Instr → Nat → Nat → Nat → List Nat → Prop} : xse (xFind tbX8_couple 66) k = k (.istore 5) 5 0 0 [] := rfl
theorem tbX8_couple_68 {k : Instr → Nat → Nat → Nat → List Nat → Prop} : xse (xFind tbX8_couple 68) k = k (.aload_n 0) 0 0 0 [] := rfl
theorem tbX8_couple_69 {k : Instr → Nat → Nat → Nat → List Nat → Prop} : xse (xFind tbX8_couple 69) k = k (.iload_n 2) 2 0 0 [] := rfl
theorem tbX8_couple_70 {k : Instr → Nat → Nat → Nat → List Nat → Prop} : xse (xFind tbX8_couple 70) k = k (.invokevirtual 213) 5 2 9 [] := rfl
theorem tbX8_couple_73 {k : Instr → Nat → Nat → Nat → List Nat → Prop} : xse (xFind tbX8_couple 73) k = k (.istore 6) 6 0 0 [] := rfl
theorem tbX8_couple_75 {k : Instr → Nat → Nat → Nat → List Nat → Prop} : xse (xFind tbX8_couple 75) k = k (.aload_n 0) 0 0 0 [] := rfl
theorem tbX8_couple_76 {k : Instr → Nat → Nat → Nat → List Nat → Prop} : xse (xFind tbX8_couple 76) k = k (.getfield 50) 9 18 2 [] := rfl
theorem tbX8_couple_79 {k : Instr → Nat → Nat → Nat → List Nat → Prop} : xse (xFind tbX8_couple 79) k = k (.iload 5) 5 0 0 [] := rfl
theorem tbX8_couple_81 {k : Instr → Nat → Nat → Nat → List Nat → Prop} : xse (xFind tbX8_couple 81) k = k (.dup2) 0 0 0 [] := rfl
theorem tbX8_couple_82 {k : Instr → Nat → Nat → Nat → List Nat → Prop} : xse (xFind tbX8_couple 82) k = k (.iaload) 18 0 0 [] := rfl
theorem tbX8_couple_83 {k : Instr → Nat → Nat → Nat → List Nat → Prop} : xse (xFind tbX8_couple 83) k = k (.iconst 1) 0 0 0 [] := rfl
theorem tbX8_couple_84 {k : Instr → Nat → Nat → Nat → List Nat → Prop} : xse (xFind tbX8_couple 84) k = k (.isub) 0 0 0 [] := rfl
theorem tbX8_couple_85 {k : Instr → Nat → Nat → Nat → List Nat → Prop} : xse (xFind tbX8_couple 85) k = k (.iastore) 18 0 0 [] := rfl
theorem tbX8_couple_86 {k : Instr → Nat → Nat → Nat → List Nat → Prop} : xse (xFind tbX8_couple 86) k = k (.iconst 5) 0 0 0 [] := rfl
theorem tbX8_couple_87 {k : Instr → Nat → Nat → Nat → List Nat → Prop} : xse (xFind tbX8_couple 87) k = k (.iload 5) 5 0 0 [] := rfl
theorem tbX8_couple_89 {k : Instr → Nat → Nat → Nat → List Nat → Prop} : xse (xFind tbX8_couple 89) k = k (.imul) 0 0 0 [] := rfl
theorem tbX8_couple_90 {k : Instr → Nat → Nat → Nat → List Nat → Prop} : xse (xFind tbX8_couple 90) k = k (.iload 6) 6 0 0 [] := rfl
theorem tbX8_couple_92 {k : Instr → Nat → Nat → Nat → List Nat → Prop} : xse (xFind tbX8_couple 92) k = k (.iadd) 0 0 0 [] := rfl
theorem tbX8_couple_93 {k : Instr → Nat → Nat → Nat → List Nat → Prop} : xse (xFind tbX8_couple 93) k = k (.istore 7) 7 0 0 [] := rfl
theorem tbX8_couple_95 {k : Instr → Nat → Nat → Nat → List Nat → Prop} : xse (xFind tbX8_couple 95) k = k (.iload 7) 7 0 0 [] := rfl
theorem tbX8_couple_97 {k : Instr → Nat → Nat → Nat → List Nat → Prop} : xse (xFind tbX8_couple 97) k = k (.iconst 5) 0 0 0 [] := rfl
theorem tbX8_couple_98 {k : Instr → Nat → Nat → Nat → List Nat → Prop} : xse (xFind tbX8_couple 98) k = k (.iload 5) 5 0 0 [] := rfl
theorem tbX8_couple_100 {k : Instr → Nat → Nat → Nat → List Nat → Prop} : xse (xFind tbX8_couple 100) k = k (.imul) 0 0 0 [] := rfl
theorem tbX8_couple_101 {k : Instr → Nat → Nat → Nat → List Nat → Prop} : xse (xFind tbX8_couple 101) k = k (.aload_n 0) 0 0 0 [] := rfl
theorem tbX8_couple_102 {k : Instr → Nat → Nat → Nat → List Nat → Prop} : xse (xFind tbX8_couple 102) k = k (.getfield 50) 9 18 2 [] := rfl
theorem tbX8_couple_105 {k : Instr → Nat → Nat → Nat → List Nat → Prop} : xse (xFind tbX8_couple 105) k = k (.iload 5) 5 0 0 [] := rfl
theorem tbX8_couple_107 {k : Instr → Nat → Nat → Nat → List Nat → Prop} : xse (xFind tbX8_couple 107) k = k (.iaload) 18 0 0 [] := rfl
theorem tbX8_couple_108 {k : Instr → Nat → Nat → Nat → List Nat → Prop} : xse (xFind tbX8_couple 108) k = k (.iadd) 0 0 0 [] := rfl
theorem tbX8_couple_109 {k : Instr → Nat → Nat → Nat → List Nat → Prop} : xse (xFind tbX8_couple 109) k = k (.if_icmp .ge 25) 134 0 0 [] := rfl
theorem tbX8_couple_112 {k : Instr → Nat → Nat → Nat → List Nat → Prop} : xse (xFind tbX8_couple 112) k = k (.aload_n 0) 0 0 0 [] := rfl
theorem tbX8_couple_113 {k : Instr → Nat → Nat → Nat → List Nat → Prop} : xse (xFind tbX8_couple 113) k = k (.getfield 53) 9 19 2 [] := rfl
theorem tbX8_couple_116 {k : Instr → Nat → Nat → Nat → List Nat → Prop} : xse (xFind tbX8_couple 116) k = k (.iload 7) 7 0 0 [] := rfl
theorem tbX8_couple_118 {k : Instr → Nat → Nat → Nat → List Nat → Prop} : xse (xFind tbX8_couple 118) k = k (.aload_n 0) 0 0 0 [] := rfl
theorem tbX8_couple_119 {k : Instr → Nat → Nat → Nat → List Nat → Prop} : xse (xFind tbX8_couple 119) k = k (.getfield 53) 9 19 2 [] := rfl
theorem tbX8_couple_122 {k : Instr → Nat → Nat → Nat → List Nat → Prop} : xse (xFind tbX8_couple 122) k = k (.iload 7) 7 0 0 [] := rfl
theorem tbX8_couple_124 {k : Instr → Nat → Nat → Nat → List Nat → Prop} : xse (xFind tbX8_couple 124) k = k (.iconst 1) 0 0 0 [] := rfl
theorem tbX8_couple_125 {k : Instr → Nat → Nat → Nat → List Nat → Prop} : xse (xFind tbX8_couple 125) k = k (.iadd) 0 0 0 [] := rfl
theorem tbX8_couple_126 {k : Instr → Nat → Nat → Nat → List Nat → Prop} : xse (xFind tbX8_couple 126) k = k (.iaload) 19 0 0 [] := rfl
theorem tbX8_couple_127 {k : Instr → Nat → Nat → Nat → List Nat → Prop} : xse (xFind tbX8_couple 127) k = k (.iastore) 19 0 0 [] := rfl
theorem tbX8_couple_128 {k : Instr → Nat → Nat → Nat → List Nat → Prop} : xse (xFind tbX8_couple 128) k = k (.iinc 7 1) 7 0 0 [] := rfl
theorem tbX8_couple_131 {k : Instr → Nat → Nat → Nat → List Nat → Prop} : xse (xFind tbX8_couple 131) k = k (.goto (-36)) 95 0 0 [] := rfl
theorem tbX8_couple_134 {k : Instr → Nat → Nat → Nat → List Nat → Prop} : xse (xFind tbX8_couple 134) k = k (.aload_n 0) 0 0 0 [] := rfl
theorem tbX8_couple_135 {k : Instr → Nat → Nat → Nat → List Nat → Prop} : xse (xFind tbX8_couple 135) k = k (.getfield 77) 9 28 2 [] := rfl
theorem tbX8_couple_138 {k : Instr → Nat → Nat → Nat → List Nat → Prop} : xse (xFind tbX8_couple 138) k = k (.iload_n 2) 2 0 0 [] := rfl
theorem tbX8_couple_139 {k : Instr → Nat → Nat → Nat → List Nat → Prop} : xse (xFind tbX8_couple 139) k = k (.iload_n 1) 1 0 0 [] := rfl
theorem tbX8_couple_140 {k : Instr → Nat → Nat → Nat → List Nat → Prop} : xse (xFind tbX8_couple 140) k = k (.iastore) 28 0 0 [] := rfl
theorem tbX8_couple_141 {k : Instr → Nat → Nat → Nat → List Nat → Prop} : xse (xFind tbX8_couple 141) k = k (.aload_n 0) 0 0 0 [] := rfl
theorem tbX8_couple_142 {k : Instr → Nat → Nat → Nat → List Nat → Prop} : xse (xFind tbX8_couple 142) k = k (.getfield 116) 9 42 2 [] := rfl
theorem tbX8_couple_145 {k : Instr → Nat → Nat → Nat → List Nat → Prop} : xse (xFind tbX8_couple 145) k = k (.iload_n 1) 1 0 0 [] := rfl
theorem tbX8_couple_146 {k : Instr → Nat → Nat → Nat → List Nat → Prop} : xse (xFind tbX8_couple 146) k = k (.dup2) 0 0 0 [] := rfl
theorem tbX8_couple_147 {k : Instr → Nat → Nat → Nat → List Nat → Prop} : xse (xFind tbX8_couple 147) k = k (.iaload) 42 0 0 [] := rfl
theorem tbX8_couple_148 {k : Instr → Nat → Nat → Nat → List Nat → Prop} : xse (xFind tbX8_couple 148) k = k (.iconst 1) 0 0 0 [] := rfl
theorem tbX8_couple_149 {k : Instr → Nat → Nat → Nat → List Nat → Prop} : xse (xFind tbX8_couple 149) k = k (.iadd) 0 0 0 [] := rfl
theorem tbX8_couple_150 {k : Instr → Nat → Nat → Nat → List Nat → Prop} : xse (xFind tbX8_couple 150) k = k (.iastore) 42 0 0 [] := rfl
theorem tbX8_couple_151 {k : Instr → Nat → Nat → Nat → List Nat → Prop} : xse (xFind tbX8_couple 151) k = k (.aload_n 0) 0 0 0 [] := rfl
theorem tbX8_couple_152 {k : Instr → Nat → Nat → Nat → List Nat → Prop} : xse (xFind tbX8_couple 152) k = k (.getfield 107) 9 39 2 [] := rfl
theorem tbX8_couple_155 {k : Instr → Nat → Nat → Nat → List Nat → Prop} : xse (xFind tbX8_couple 155) k = k (.iload_n 1) 1 0 0 [] := rfl
theorem tbX8_couple_156 {k : Instr → Nat → Nat → Nat → List Nat → Prop} : xse (xFind tbX8_couple 156) k = k (.dup2) 0 0 0 [] := rfl
theorem tbX8_couple_157 {k : Instr → Nat → Nat → Nat → List Nat → Prop} : xse (xFind tbX8_couple 157) k = k (.iaload) 39 0 0 [] := rfl
theorem tbX8_couple_158 {k : Instr → Nat → Nat → Nat → List Nat → Prop} : xse (xFind tbX8_couple 158) k = k (.iconst 2) 0 0 0 [] := rfl
theorem tbX8_couple_159 {k : Instr → Nat → Nat → Nat → List Nat → Prop} : xse (xFind tbX8_couple 159) k = k (.iload 4) 4 0 0 [] := rfl
theorem tbX8_couple_161 {k : Instr → Nat → Nat → Nat → List Nat → Prop} : xse (xFind tbX8_couple 161) k = k (.iadd) 0 0 0 [] := rfl
theorem tbX8_couple_162 {k : Instr → Nat → Nat → Nat → List Nat → Prop} : xse (xFind tbX8_couple 162) k = k (.iadd) 0 0 0 [] := rfl
theorem tbX8_couple_163 {k : Instr → Nat → Nat → Nat → List Nat → Prop} : xse (xFind tbX8_couple 163) k = k (.iastore) 39 0 0 [] := rfl
theorem tbX8_couple_164 {k : Instr → Nat → Nat → Nat → List Nat → Prop} : xse (xFind tbX8_couple 164) k = k (.aload_n 0) 0 0 0 [] := rfl
theorem tbX8_couple_165 {k : Instr → Nat → Nat → Nat → List Nat → Prop} : xse (xFind tbX8_couple 165) k = k (.dup) 0 0 0 [] := rfl
theorem tbX8_couple_166 {k : Instr → Nat → Nat → Nat → List Nat → Prop} : xse (xFind tbX8_couple 166) k = k (.getfield 265) 9 56 0 [] := rfl
theorem tbX8_couple_169 {k : Instr → Nat → Nat → Nat → List Nat → Prop} : xse (xFind tbX8_couple 169) k = k (.iconst 3) 0 0 0 [] := rfl
theorem tbX8_couple_170 {k : Instr → Nat → Nat → Nat → List Nat → Prop} : xse (xFind tbX8_couple 170) k = k (.iload 4) 4 0 0 [] := rfl
theorem tbX8_couple_172 {k : Instr → Nat → Nat → Nat → List Nat → Prop} : xse (xFind tbX8_couple 172) k = k (.imul) 0 0 0 [] := rfl
theorem tbX8_couple_173 {k : Instr → Nat → Nat → Nat → List Nat → Prop} : xse (xFind tbX8_couple 173) k = k (.iadd) 0 0 0 [] := rfl
theorem tbX8_couple_174 {k : Instr → Nat → Nat → Nat → List Nat → Prop} : xse (xFind tbX8_couple 174) k = k (.putfield 265) 9 56 0 [] := rfl
theorem tbX8_couple_177 {k : Instr → Nat → Nat → Nat → List Nat → Prop} : xse (xFind tbX8_couple 177) k = k (.aload_n 0) 0 0 0 [] := rfl
theorem tbX8_couple_178 {k : Instr → Nat → Nat → Nat → List Nat → Prop} : xse (xFind tbX8_couple 178) k = k (.getfield 116) 9 42 2 [] := rfl
theorem tbX8_couple_181 {k : Instr → Nat → Nat → Nat → List Nat → Prop} : xse (xFind tbX8_couple 181) k = k (.iload_n 1) 1 0 0 [] := rfl
theorem tbX8_couple_182 {k : Instr → Nat → Nat → Nat → List Nat → Prop} : xse (xFind tbX8_couple 182) k = k (.iaload) 42 0 0 [] := rfl
theorem tbX8_couple_183 {k : Instr → Nat → Nat → Nat → List Nat → Prop} : xse (xFind tbX8_couple 183) k = k (.ireturn) 0 0 0 [] := rfl

def spX8_couple (aM : Nat → Nat) : xSp mS := (fun av M => (0, 0), fun av M K => ∃ (b : Int32) (g : Int32), av = [.ref (aM 0), .int b, .int g] ∧ ((M.1 29 = nI (nBt M) ∧ nBt M ≤ 6) ∧ (M.1 22 = nI (nBg M) ∧ nBg M ≤ 24) ∧ mTd M ∧ (iBt M b → mWk M b.toNatClampNeg ∧ mTk M b.toNatClampNeg) ∧ (iBg M g → mPl M g (mPlc M g) ∧ (M.2 28 g.toNatClampNeg = -1 → mPlc M g < nT M (tOf M g))) ∧ K (rI (oCouple M b g).1) (oCouple M b g).2))
theorem spcX8_couple {av : List Value} {M : mS} {aM : Nat → Nat} : (spX8_couple aM).1 av M = (0, 0) := rfl
theorem spwX8_couple {M : mS} {aM : Nat → Nat} {K : xRes → mS → Prop} {b : Int32} {g : Int32} : (spX8_couple aM).2 [.ref (aM 0), .int b, .int g] M K = ((M.1 29 = nI (nBt M) ∧ nBt M ≤ 6) ∧ (M.1 22 = nI (nBg M) ∧ nBg M ≤ 24) ∧ mTd M ∧ (iBt M b → mWk M b.toNatClampNeg ∧ mTk M b.toNatClampNeg) ∧ (iBg M g → mPl M g (mPlc M g) ∧ (M.2 28 g.toNatClampNeg = -1 → mPlc M g < nT M (tOf M g))) ∧ K (rI (oCouple M b g).1) (oCouple M b g).2) :=
  propext ⟨fun h => by
    simp only [spX8_couple] at h
    obtain ⟨_, _, e, h⟩ := h
    simp only [List.cons.injEq, Value.int.injEq, Value.ref.injEq, rf_eq, and_true, true_and] at e
    obtain ⟨rfl, rfl⟩ := e
    exact h, fun h => ⟨_, _, rfl, h⟩⟩

def callX8_couple (aM : Nat → Nat) : Nat → Option (xSp mS) := fun n => match n with | 0 => some (spX8_isBoat aM) | 1 => some (spX8_isBarge aM) | 2 => some (spX8_canCouple aM) | 3 => some (spX8_holds aM) | 4 => some (spX8_outside aM) | 5 => some (spX8_placeOf aM) | _ => none

theorem callX8_couple_0 {aM : Nat → Nat} {k : xSp mS → Prop} : xcs (callX8_couple aM 0) k = k (spX8_isBoat aM) := rfl

theorem callX8_couple_1 {aM : Nat → Nat} {k : xSp mS → Prop} : xcs (callX8_couple aM 1) k = k (spX8_isBarge aM) := rfl

theorem callX8_couple_2 {aM : Nat → Nat} {k : xSp mS → Prop} : xcs (callX8_couple aM 2) k = k (spX8_canCouple aM) := rfl

theorem callX8_couple_3 {aM : Nat → Nat} {k : xSp mS → Prop} : xcs (callX8_couple aM 3) k = k (spX8_holds aM) := rfl

theorem callX8_couple_4 {aM : Nat → Nat} {k : xSp mS → Prop} : xcs (callX8_couple aM 4) k = k (spX8_outside aM) := rfl

theorem callX8_couple_5 {aM : Nat → Nat} {k : xSp mS → Prop} : xcs (callX8_couple aM 5) k = k (spX8_placeOf aM) := rfl

theorem crX8_couple (l : Launch) (W9 : xWd) (aM : Nat → Nat) (hi : mInj aM) : xCallsOK l W9 (mI aM) (callX8_couple aM) clX8_couple RX8 wsX8_couple 3 70 8 := by
  intro E A p e R s m args below meth c hI hF hL X
  exact List.forall_mem_cons.mpr ⟨⟨_, rfl, xCR_V X (by rw [hI]; exact (semX8_isBoat l W9 aM hi)) gX8_couple_X8_isBoat rfl rfl (by decide +kernel) (by rw [hF, hL]; decide)⟩,
    List.forall_mem_cons.mpr ⟨⟨_, rfl, xCR_V X (by rw [hI]; exact (semX8_isBarge l W9 aM hi)) gX8_couple_X8_isBarge rfl rfl (by decide +kernel) (by rw [hF, hL]; decide)⟩,
    List.forall_mem_cons.mpr ⟨⟨_, rfl, xCR_V X (by rw [hI]; exact (semX8_canCouple l W9 aM hi)) gX8_couple_X8_canCouple rfl rfl (by decide +kernel) (by rw [hF, hL]; decide)⟩,
    List.forall_mem_cons.mpr ⟨⟨_, rfl, xCR_V X (by rw [hI]; exact (semX8_holds l W9 aM hi)) gX8_couple_X8_holds rfl rfl (by decide +kernel) (by rw [hF, hL]; decide)⟩,
    List.forall_mem_cons.mpr ⟨⟨_, rfl, xCR_V X (by rw [hI]; exact (semX8_outside l W9 aM hi)) gX8_couple_X8_outside rfl rfl (by decide +kernel) (by rw [hF, hL]; decide)⟩,
    List.forall_mem_cons.mpr ⟨⟨_, rfl, xCR_V X (by rw [hI]; exact (semX8_placeOf l W9 aM hi)) gX8_couple_X8_placeOf rfl rfl (by decide +kernel) (by rw [hF, hL]; decide)⟩,
    fun _ h => nomatch h⟩⟩⟩⟩⟩⟩

set_option maxHeartbeats 4000000 in
set_option maxRecDepth 20000 in
theorem semX8_couple (l : Launch) (W9 : xWd) (aM : Nat → Nat) (hi : mInj aM) : xSem l W9 (mI aM) yX8_couple wsX8_couple 3 70 (spX8_couple aM) := by
  refine xSem_of (call := callX8_couple aM) (thrf := fun _ => "") (mI_law hi) (by decide +kernel) rfl ckX8_couple usX8_couple (crX8_couple l W9 aM hi) xThrOK_nil ?_ ?_
  · intro av M KF h
    obtain ⟨b, g, rfl, h⟩ := h
    exact ⟨by intro v hv; simp only [List.mem_cons, List.not_mem_nil, or_false] at hv; rcases hv with rfl | rfl | rfl <;> first | rfl | exact cat_rf, Nat.le_of_ble_eq_true rfl⟩
  intro av M KF h G hG
  obtain ⟨b, g, rfl, h⟩ := h
  rw [show (spX8_couple aM).1 _ M = _ from spcX8_couple] at hG
  try dsimp only at hG
  change G 0 [some (.ref (aM 0)), some (.int b), some (.int g), none, none, none, none, none] [] M 0 0
  obtain ⟨hb, hg, htd, hB, hGg, h⟩ := h

  have h6 := @in_bt M b hb
  have h7 := @in_bg M g hg
  by_cases hi : ((0 ≤ b ∧ b ≤ M.1 29 - 1) ∧ 0 ≤ g ∧ g ≤ M.1 22 - 1)
  · obtain ⟨hi1, hi2⟩ := hi
    have i1 := h6 hi1.1 hi1.2
    have i2 := h7 hi2.1 hi2.2
    obtain ⟨hW, hT⟩ := hB hi1
    obtain ⟨hP, hpl⟩ := hGg hi2
    have h01 := mCcr_01 M b g
    unfold oCouple at h
    rw [if_neg (fun q => q ⟨hi1, hi2⟩)] at h
    by_cases hr : mCcr M b g = 0
    · rw [if_pos hr] at h
      refine xgo0 hG (fun fu hfu => ?_)
      simp only [↓callX8_couple_0, ↓callX8_couple_1, ↓callX8_couple_2, ↓callX8_couple_3, ↓callX8_couple_4, ↓callX8_couple_5, ki_0, ki_1, ki_2, ki_3, ki_5, ↓ma_18, ↓ma_19, ↓ma_27, ↓ma_39, ↓ma_42, ↓mg_18, ↓mg_19, ↓mg_27, ↓mg_28, ↓mg_39, ↓mg_42, ↓mg_56, misa, ↓mp_56, ↓ms_18, ↓ms_19, ↓ms_28, ↓ms_39, ↓ms_42, ↓vm_aload_n, ↓vm_dup, ↓vm_dup2, ↓vm_getfield, ↓vm_goto, ↓vm_iadd, ↓vm_iaload, ↓vm_iastore, ↓vm_iconst, ↓vm_ifCond_eq, ↓vm_ifCond_ne, ↓vm_if_icmp_ge, ↓vm_iinc, ↓vm_iload, ↓vm_iload_n, ↓vm_imul, ↓vm_invokevirtual, ↓vm_ireturn, ↓vm_istore, ↓vm_istore_n, ↓vm_isub, ↓vm_putfield, ↓xc_2, ↓xc_3, ↓tbX8_couple_0, ↓tbX8_couple_1, ↓tbX8_couple_2, ↓tbX8_couple_5, ↓tbX8_couple_8, ↓tbX8_couple_9, ↓tbX8_couple_10, ↓tbX8_couple_13, ↓tbX8_couple_16, ↓tbX8_couple_17, ↓tbX8_couple_20, ↓tbX8_couple_21, ↓tbX8_couple_22, ↓tbX8_couple_23, ↓tbX8_couple_24, ↓tbX8_couple_27, ↓tbX8_couple_28, ↓tbX8_couple_31, ↓tbX8_couple_32, ↓tbX8_couple_33, ↓tbX8_couple_34, ↓tbX8_couple_37, ↓tbX8_couple_40, ↓tbX8_couple_41, ↓tbX8_couple_44, ↓tbX8_couple_45, ↓tbX8_couple_48, ↓tbX8_couple_51, ↓tbX8_couple_52, ↓tbX8_couple_53, ↓tbX8_couple_54, ↓tbX8_couple_55, ↓tbX8_couple_58, ↓tbX8_couple_60, ↓tbX8_couple_61, ↓tbX8_couple_64, ↓tbX8_couple_65, ↓tbX8_couple_66, ↓tbX8_couple_68, ↓tbX8_couple_69, ↓tbX8_couple_70, ↓tbX8_couple_73, ↓tbX8_couple_75, ↓tbX8_couple_76, ↓tbX8_couple_79, ↓tbX8_couple_81, ↓tbX8_couple_82, ↓tbX8_couple_83, ↓tbX8_couple_84, ↓tbX8_couple_85, ↓tbX8_couple_86, ↓tbX8_couple_87, ↓tbX8_couple_89, ↓tbX8_couple_90, ↓tbX8_couple_92, ↓tbX8_couple_93, ↓tbX8_couple_95, ↓tbX8_couple_97, ↓tbX8_couple_98, ↓tbX8_couple_100, ↓tbX8_couple_101, ↓tbX8_couple_102, ↓tbX8_couple_105, ↓tbX8_couple_107, ↓tbX8_couple_108, ↓tbX8_couple_109, ↓tbX8_couple_112, ↓tbX8_couple_113, ↓tbX8_couple_116, ↓tbX8_couple_118, ↓tbX8_couple_119, ↓tbX8_couple_122, ↓tbX8_couple_124, ↓tbX8_couple_125, ↓tbX8_couple_126, ↓tbX8_couple_127, ↓tbX8_couple_128, ↓tbX8_couple_131, ↓tbX8_couple_134, ↓tbX8_couple_135, ↓tbX8_couple_138, ↓tbX8_couple_139, ↓tbX8_couple_140, ↓tbX8_couple_141, ↓tbX8_couple_142, ↓tbX8_couple_145, ↓tbX8_couple_146, ↓tbX8_couple_147, ↓tbX8_couple_148, ↓tbX8_couple_149, ↓tbX8_couple_150, ↓tbX8_couple_151, ↓tbX8_couple_152, ↓tbX8_couple_155, ↓tbX8_couple_156, ↓tbX8_couple_157, ↓tbX8_couple_158, ↓tbX8_couple_159, ↓tbX8_couple_161, ↓tbX8_couple_162, ↓tbX8_couple_163, ↓tbX8_couple_164, ↓tbX8_couple_165, ↓tbX8_couple_166, ↓tbX8_couple_169, ↓tbX8_couple_170, ↓tbX8_couple_172, ↓tbX8_couple_173, ↓tbX8_couple_174, ↓tbX8_couple_177, ↓tbX8_couple_178, ↓tbX8_couple_181, ↓tbX8_couple_182, ↓tbX8_couple_183, hfu, xstep0, xJ1_hit, xJ1_go, xJ2_hit1, xJ2_hit2, xJ2_go, ↓xif_t, ↓xif_f, seval, ↓xca_eq, ↓xre_l, ↓xre_r, xmask_t, xmask_f, xmask_nil, ↓xst_eq, xX_eq, eI_eq, eMc_eq, eMs_eq, eF_eq, eThr_eq, ↓xS1_mk, ↓xSI_mk, ↓xSR_mk, ↓xLI_0, ↓xLI_s, ↓xLR_0, ↓xLR_s, vRef_ref, vRef_null, vRef_rf, cat_int, cat_ref, cat_null, cat_rf, rf_some, rf_none, rf_null, rf_eq, rf_ref, ref_rf, ref_null, ref_ref, xOk_0, xOk_1, xOk_2r, xOk_2n, xOk_2f, vOpt_rf, vOpt_ref, vOpt_null, List.set_cons_zero, List.set_cons_succ, List.take_succ_cons, List.take_zero, List.drop_succ_cons, List.drop_zero, List.reverse_cons, List.reverse_nil, List.nil_append, List.cons_append, List.append_nil, List.length_cons, List.length_nil, List.map_cons, List.map_nil, List.sum_cons, List.sum_nil, Option.toList_some, Option.toList_none, xRecv_mk, true_and, and_true, true_implies, Nat.reduceAdd, Nat.reduceLeDiff, Nat.zero_le, Nat.le_refl, Nat.add_zero, Nat.zero_add, reduceIte, not_true_eq_false, not_false_eq_true, false_implies, and_self, implies_true, eq_self, Nat.reduceEqDiff, List.cons.injEq, xsn_1, xsn_2, false_and, and_false, or_false, false_or, or_true, true_or, xsn_3, xsn_4, mAst_1, mAst_2, mSet_1, mSet_2, bi_0, ↓spwX8_isBoat, spcX8_isBoat, ↓spwX8_isBarge, spcX8_isBarge, ↓spwX8_canCouple, spcX8_canCouple, ↓spwX8_holds, spcX8_holds, ↓spwX8_outside, spcX8_outside, ↓spwX8_placeOf, spcX8_placeOf, hi1, hi2, i1, i2, hW, hT, hr]
      try simp only [xif_e]
      exact h
    · rw [if_neg hr] at h
      have hcd : mCcd M b g := by
        by_cases q : mCcd M b g
        · exact q
        · exact absurd (if_neg (fun z => q z.1)) hr
      have e1 : mCc1 M b g = mAst M 41 (12 * b + M.2 42 b.toNatClampNeg).toNatClampNeg g := if_pos hcd
      have c2 := hcd.2.1
      rw [e1] at h
      obtain ⟨w, hw, rfl⟩ := vp_in_of i1 (by omega)
      generalize hp0 : mPlc M g = p at *
      have hpn := hpl c2
      obtain ⟨hp5, t, ht, ht16⟩ : p < 5 ∧ ∃ t, M.2 27 g.toNatClampNeg = nI t ∧ t < 16 := by
        rcases hP.2 with ⟨-, a, t, b, c, -⟩ | ⟨hne, -⟩
        · exact ⟨a, t, b, c⟩
        · exact absurd c2 hne
      have htO : tOf M g = t := by unfold tOf; rw [ht, ix_nI (by omega)]
      rw [htO] at hpn h
      obtain ⟨hn1, hn5⟩ := htd t ht16
      generalize nT M t = n at *
      rw [ix_nI (show w < 1000 by omega)] at *
      generalize hM2 : mSet (mAst M 41 (12 * nI w + M.2 42 w).toNatClampNeg g) 0 0 = M2 at *
      have hpl2 : mPl M2 g p := by
        rw [← hM2]
        exact ⟨hP.1, Or.inl (by
          rcases hP.2 with z | ⟨hne, -⟩
          · exact z
          · exact absurd c2 hne)⟩
      have f18 : M2.2 18 = M.2 18 := by rw [← hM2]; rfl
      have f27 : M2.2 27 = M.2 27 := by rw [← hM2]; rfl
      have f28 : M2.2 28 = M.2 28 := by rw [← hM2]; rfl
      have f42 : M2.2 42 = M.2 42 := by rw [← hM2]; rfl
      have f39 : M2.2 39 = M.2 39 := by rw [← hM2]; rfl
      have f56 : M2.1 56 = M.1 56 := by rw [← hM2]; rfl
      have hp2 : mPlc M2 g = p := mPlc_of hpl2
      have hpl3 : mPl M2 g (mPlc M2 g) := by rw [hp2]; exact hpl2
      have hout : mOut M2 g p = nI (n - 1 - p) := by
        unfold mOut
        rw [f28, if_pos c2, f27, f18, ht, ix_nI (by omega), hn1, sub1_nI (by omega), pk_sub (by omega)]
      have e18 : ∀ k, (mShL (mAst M2 18 t (nI (n - 1))) 19 (5 * t + p) k).2 18 t = nI (n - 1) := fun k => by rw [mShL_2]; simp [mAst_2]
      have e42 : ∀ k, (mShL (mAst M2 18 t (nI (n - 1))) 19 (5 * t + p) k).2 42 w = M.2 42 w := fun k => by rw [mShL_2]; simp [mAst_2, f42]
      have e39 : ∀ k, (mShL (mAst M2 18 t (nI (n - 1))) 19 (5 * t + p) k).2 39 w = M.2 39 w := fun k => by rw [mShL_2]; simp [mAst_2, f39]
      have e56 : ∀ k, (mShL (mAst M2 18 t (nI (n - 1))) 19 (5 * t + p) k).1 56 = M.1 56 := fun k => by rw [mShL_1]; simp [mAst_1, f56]
      unfold mCpl mLt at h
      rw [f42, f39, f56, ix_nI (show w < 1000 by omega)] at h
      have loop := xloop hG 95 [true, true, true, false, true, true, false, true] (fun j lv st S cs ss => lv = [some (.ref (aM 0)), some (.int (nI w)), some (.int g), none, some (.int (nI (n - 1 - p))), some (.int (nI t)), none, some (.int (nI (5 * t + p + j)))] ∧ st = [] ∧ mShL (mAst M2 18 t (nI (n - 1))) 19 (5 * t + p) j = S ∧ cs = 0 ∧ ss = 0) (n - 1 - p) (by
          rintro j hj lv st S cs ss ⟨rfl, rfl, rfl, rfl, rfl⟩ fu hfu
          have e2 : (nI (5 * t + (n - 1)) ≤ nI (5 * t + p + j)) = False := by rw [le_nI (by omega) (by omega)]; simp; omega
          simp only [↓callX8_couple_0, ↓callX8_couple_1, ↓callX8_couple_2, ↓callX8_couple_3, ↓callX8_couple_4, ↓callX8_couple_5, ki_0, ki_1, ki_2, ki_3, ki_5, ↓ma_18, ↓ma_19, ↓ma_27, ↓ma_39, ↓ma_42, ↓mg_18, ↓mg_19, ↓mg_27, ↓mg_28, ↓mg_39, ↓mg_42, ↓mg_56, misa, ↓mp_56, ↓ms_18, ↓ms_19, ↓ms_28, ↓ms_39, ↓ms_42, ↓vm_aload_n, ↓vm_dup, ↓vm_dup2, ↓vm_getfield, ↓vm_goto, ↓vm_iadd, ↓vm_iaload, ↓vm_iastore, ↓vm_iconst, ↓vm_ifCond_eq, ↓vm_ifCond_ne, ↓vm_if_icmp_ge, ↓vm_iinc, ↓vm_iload, ↓vm_iload_n, ↓vm_imul, ↓vm_invokevirtual, ↓vm_ireturn, ↓vm_istore, ↓vm_istore_n, ↓vm_isub, ↓vm_putfield, ↓xc_2, ↓xc_3, ↓tbX8_couple_0, ↓tbX8_couple_1, ↓tbX8_couple_2, ↓tbX8_couple_5, ↓tbX8_couple_8, ↓tbX8_couple_9, ↓tbX8_couple_10, ↓tbX8_couple_13, ↓tbX8_couple_16, ↓tbX8_couple_17, ↓tbX8_couple_20, ↓tbX8_couple_21, ↓tbX8_couple_22, ↓tbX8_couple_23, ↓tbX8_couple_24, ↓tbX8_couple_27, ↓tbX8_couple_28, ↓tbX8_couple_31, ↓tbX8_couple_32, ↓tbX8_couple_33, ↓tbX8_couple_34, ↓tbX8_couple_37, ↓tbX8_couple_40, ↓tbX8_couple_41, ↓tbX8_couple_44, ↓tbX8_couple_45, ↓tbX8_couple_48, ↓tbX8_couple_51, ↓tbX8_couple_52, ↓tbX8_couple_53, ↓tbX8_couple_54, ↓tbX8_couple_55, ↓tbX8_couple_58, ↓tbX8_couple_60, ↓tbX8_couple_61, ↓tbX8_couple_64, ↓tbX8_couple_65, ↓tbX8_couple_66, ↓tbX8_couple_68, ↓tbX8_couple_69, ↓tbX8_couple_70, ↓tbX8_couple_73, ↓tbX8_couple_75, ↓tbX8_couple_76, ↓tbX8_couple_79, ↓tbX8_couple_81, ↓tbX8_couple_82, ↓tbX8_couple_83, ↓tbX8_couple_84, ↓tbX8_couple_85, ↓tbX8_couple_86, ↓tbX8_couple_87, ↓tbX8_couple_89, ↓tbX8_couple_90, ↓tbX8_couple_92, ↓tbX8_couple_93, ↓tbX8_couple_95, ↓tbX8_couple_97, ↓tbX8_couple_98, ↓tbX8_couple_100, ↓tbX8_couple_101, ↓tbX8_couple_102, ↓tbX8_couple_105, ↓tbX8_couple_107, ↓tbX8_couple_108, ↓tbX8_couple_109, ↓tbX8_couple_112, ↓tbX8_couple_113, ↓tbX8_couple_116, ↓tbX8_couple_118, ↓tbX8_couple_119, ↓tbX8_couple_122, ↓tbX8_couple_124, ↓tbX8_couple_125, ↓tbX8_couple_126, ↓tbX8_couple_127, ↓tbX8_couple_128, ↓tbX8_couple_131, ↓tbX8_couple_134, ↓tbX8_couple_135, ↓tbX8_couple_138, ↓tbX8_couple_139, ↓tbX8_couple_140, ↓tbX8_couple_141, ↓tbX8_couple_142, ↓tbX8_couple_145, ↓tbX8_couple_146, ↓tbX8_couple_147, ↓tbX8_couple_148, ↓tbX8_couple_149, ↓tbX8_couple_150, ↓tbX8_couple_151, ↓tbX8_couple_152, ↓tbX8_couple_155, ↓tbX8_couple_156, ↓tbX8_couple_157, ↓tbX8_couple_158, ↓tbX8_couple_159, ↓tbX8_couple_161, ↓tbX8_couple_162, ↓tbX8_couple_163, ↓tbX8_couple_164, ↓tbX8_couple_165, ↓tbX8_couple_166, ↓tbX8_couple_169, ↓tbX8_couple_170, ↓tbX8_couple_172, ↓tbX8_couple_173, ↓tbX8_couple_174, ↓tbX8_couple_177, ↓tbX8_couple_178, ↓tbX8_couple_181, ↓tbX8_couple_182, ↓tbX8_couple_183, hfu, xstep0, xJ1_hit, xJ1_go, xJ2_hit1, xJ2_hit2, xJ2_go, ↓xif_t, ↓xif_f, seval, ↓xca_eq, ↓xre_l, ↓xre_r, xmask_t, xmask_f, xmask_nil, ↓xst_eq, xX_eq, eI_eq, eMc_eq, eMs_eq, eF_eq, eThr_eq, ↓xS1_mk, ↓xSI_mk, ↓xSR_mk, ↓xLI_0, ↓xLI_s, ↓xLR_0, ↓xLR_s, vRef_ref, vRef_null, vRef_rf, cat_int, cat_ref, cat_null, cat_rf, rf_some, rf_none, rf_null, rf_eq, rf_ref, ref_rf, ref_null, ref_ref, xOk_0, xOk_1, xOk_2r, xOk_2n, xOk_2f, vOpt_rf, vOpt_ref, vOpt_null, List.set_cons_zero, List.set_cons_succ, List.take_succ_cons, List.take_zero, List.drop_succ_cons, List.drop_zero, List.reverse_cons, List.reverse_nil, List.nil_append, List.cons_append, List.append_nil, List.length_cons, List.length_nil, List.map_cons, List.map_nil, List.sum_cons, List.sum_nil, Option.toList_some, Option.toList_none, xRecv_mk, true_and, and_true, true_implies, Nat.reduceAdd, Nat.reduceLeDiff, Nat.zero_le, Nat.le_refl, Nat.add_zero, Nat.zero_add, reduceIte, not_true_eq_false, not_false_eq_true, false_implies, and_self, implies_true, eq_self, Nat.reduceEqDiff, List.cons.injEq, xsn_1, xsn_2, false_and, and_false, or_false, false_or, or_true, true_or, xsn_3, xsn_4, mAst_1, mAst_2, mSet_1, mSet_2, bi_0, ↓spwX8_isBoat, spcX8_isBoat, ↓spwX8_isBarge, spcX8_isBarge, ↓spwX8_canCouple, spcX8_canCouple, ↓spwX8_holds, spcX8_holds, ↓spwX8_outside, spcX8_outside, ↓spwX8_placeOf, spcX8_placeOf, xin_nI ht16 (show 16 ≤ 1000 by omega), ix_nI (show t < 1000 by omega), e18, m5_nI, add_nI, e2, nI1, xin_nI (show 5 * t + p + j < 80 by omega) (by omega), xin_nI (show 5 * t + p + j + 1 < 80 by omega) (by omega), ix_nI (show 5 * t + p + j < 1000 by omega), ix_nI (show 5 * t + p + j + 1 < 1000 by omega)]
          try simp only [xif_e]
          repeat' (first | rfl | apply And.intro)) (by
          rintro lv st S cs ss ⟨rfl, rfl, rfl, rfl, rfl⟩ fu hfu
          have e2 : (nI (5 * t + (n - 1)) ≤ nI (5 * t + p + (n - 1 - p))) = True := by rw [le_nI (by omega) (by omega)]; simp; omega
          simp only [↓callX8_couple_0, ↓callX8_couple_1, ↓callX8_couple_2, ↓callX8_couple_3, ↓callX8_couple_4, ↓callX8_couple_5, ki_0, ki_1, ki_2, ki_3, ki_5, ↓ma_18, ↓ma_19, ↓ma_27, ↓ma_39, ↓ma_42, ↓mg_18, ↓mg_19, ↓mg_27, ↓mg_28, ↓mg_39, ↓mg_42, ↓mg_56, misa, ↓mp_56, ↓ms_18, ↓ms_19, ↓ms_28, ↓ms_39, ↓ms_42, ↓vm_aload_n, ↓vm_dup, ↓vm_dup2, ↓vm_getfield, ↓vm_goto, ↓vm_iadd, ↓vm_iaload, ↓vm_iastore, ↓vm_iconst, ↓vm_ifCond_eq, ↓vm_ifCond_ne, ↓vm_if_icmp_ge, ↓vm_iinc, ↓vm_iload, ↓vm_iload_n, ↓vm_imul, ↓vm_invokevirtual, ↓vm_ireturn, ↓vm_istore, ↓vm_istore_n, ↓vm_isub, ↓vm_putfield, ↓xc_2, ↓xc_3, ↓tbX8_couple_0, ↓tbX8_couple_1, ↓tbX8_couple_2, ↓tbX8_couple_5, ↓tbX8_couple_8, ↓tbX8_couple_9, ↓tbX8_couple_10, ↓tbX8_couple_13, ↓tbX8_couple_16, ↓tbX8_couple_17, ↓tbX8_couple_20, ↓tbX8_couple_21, ↓tbX8_couple_22, ↓tbX8_couple_23, ↓tbX8_couple_24, ↓tbX8_couple_27, ↓tbX8_couple_28, ↓tbX8_couple_31, ↓tbX8_couple_32, ↓tbX8_couple_33, ↓tbX8_couple_34, ↓tbX8_couple_37, ↓tbX8_couple_40, ↓tbX8_couple_41, ↓tbX8_couple_44, ↓tbX8_couple_45, ↓tbX8_couple_48, ↓tbX8_couple_51, ↓tbX8_couple_52, ↓tbX8_couple_53, ↓tbX8_couple_54, ↓tbX8_couple_55, ↓tbX8_couple_58, ↓tbX8_couple_60, ↓tbX8_couple_61, ↓tbX8_couple_64, ↓tbX8_couple_65, ↓tbX8_couple_66, ↓tbX8_couple_68, ↓tbX8_couple_69, ↓tbX8_couple_70, ↓tbX8_couple_73, ↓tbX8_couple_75, ↓tbX8_couple_76, ↓tbX8_couple_79, ↓tbX8_couple_81, ↓tbX8_couple_82, ↓tbX8_couple_83, ↓tbX8_couple_84, ↓tbX8_couple_85, ↓tbX8_couple_86, ↓tbX8_couple_87, ↓tbX8_couple_89, ↓tbX8_couple_90, ↓tbX8_couple_92, ↓tbX8_couple_93, ↓tbX8_couple_95, ↓tbX8_couple_97, ↓tbX8_couple_98, ↓tbX8_couple_100, ↓tbX8_couple_101, ↓tbX8_couple_102, ↓tbX8_couple_105, ↓tbX8_couple_107, ↓tbX8_couple_108, ↓tbX8_couple_109, ↓tbX8_couple_112, ↓tbX8_couple_113, ↓tbX8_couple_116, ↓tbX8_couple_118, ↓tbX8_couple_119, ↓tbX8_couple_122, ↓tbX8_couple_124, ↓tbX8_couple_125, ↓tbX8_couple_126, ↓tbX8_couple_127, ↓tbX8_couple_128, ↓tbX8_couple_131, ↓tbX8_couple_134, ↓tbX8_couple_135, ↓tbX8_couple_138, ↓tbX8_couple_139, ↓tbX8_couple_140, ↓tbX8_couple_141, ↓tbX8_couple_142, ↓tbX8_couple_145, ↓tbX8_couple_146, ↓tbX8_couple_147, ↓tbX8_couple_148, ↓tbX8_couple_149, ↓tbX8_couple_150, ↓tbX8_couple_151, ↓tbX8_couple_152, ↓tbX8_couple_155, ↓tbX8_couple_156, ↓tbX8_couple_157, ↓tbX8_couple_158, ↓tbX8_couple_159, ↓tbX8_couple_161, ↓tbX8_couple_162, ↓tbX8_couple_163, ↓tbX8_couple_164, ↓tbX8_couple_165, ↓tbX8_couple_166, ↓tbX8_couple_169, ↓tbX8_couple_170, ↓tbX8_couple_172, ↓tbX8_couple_173, ↓tbX8_couple_174, ↓tbX8_couple_177, ↓tbX8_couple_178, ↓tbX8_couple_181, ↓tbX8_couple_182, ↓tbX8_couple_183, hfu, xstep0, xJ1_hit, xJ1_go, xJ2_hit1, xJ2_hit2, xJ2_go, ↓xif_t, ↓xif_f, seval, ↓xca_eq, ↓xre_l, ↓xre_r, xmask_t, xmask_f, xmask_nil, ↓xst_eq, xX_eq, eI_eq, eMc_eq, eMs_eq, eF_eq, eThr_eq, ↓xS1_mk, ↓xSI_mk, ↓xSR_mk, ↓xLI_0, ↓xLI_s, ↓xLR_0, ↓xLR_s, vRef_ref, vRef_null, vRef_rf, cat_int, cat_ref, cat_null, cat_rf, rf_some, rf_none, rf_null, rf_eq, rf_ref, ref_rf, ref_null, ref_ref, xOk_0, xOk_1, xOk_2r, xOk_2n, xOk_2f, vOpt_rf, vOpt_ref, vOpt_null, List.set_cons_zero, List.set_cons_succ, List.take_succ_cons, List.take_zero, List.drop_succ_cons, List.drop_zero, List.reverse_cons, List.reverse_nil, List.nil_append, List.cons_append, List.append_nil, List.length_cons, List.length_nil, List.map_cons, List.map_nil, List.sum_cons, List.sum_nil, Option.toList_some, Option.toList_none, xRecv_mk, true_and, and_true, true_implies, Nat.reduceAdd, Nat.reduceLeDiff, Nat.zero_le, Nat.le_refl, Nat.add_zero, Nat.zero_add, reduceIte, not_true_eq_false, not_false_eq_true, false_implies, and_self, implies_true, eq_self, Nat.reduceEqDiff, List.cons.injEq, xsn_1, xsn_2, false_and, and_false, or_false, false_or, or_true, true_or, xsn_3, xsn_4, mAst_1, mAst_2, mSet_1, mSet_2, bi_0, ↓spwX8_isBoat, spcX8_isBoat, ↓spwX8_isBarge, spcX8_isBarge, ↓spwX8_canCouple, spcX8_canCouple, ↓spwX8_holds, spcX8_holds, ↓spwX8_outside, spcX8_outside, ↓spwX8_placeOf, spcX8_placeOf, i1, i2, xin_nI ht16 (show 16 ≤ 1000 by omega), ix_nI (show t < 1000 by omega), ix_nI (show w < 1000 by omega), e18, e42, e39, e56, m5_nI, add_nI, e2]
          try simp only [xif_e]
          exact h)
      have c53 : ∀ lv st S cs ss, (lv = [some (.ref (aM 0)), some (.int (nI w)), some (.int g), none, none, none, none, none] ∧ st = [] ∧ M2 = S ∧ cs = 0 ∧ ss = 0) → G 53 lv st S cs ss := by
        rintro lv st S cs ss ⟨rfl, rfl, rfl, rfl, (rfl)⟩
        refine xgo hG (mb := [true, true, true, false, true, true, false, true]) (loop 0 (Nat.zero_le _)) (fun fu hfu => ?_)
        simp only [↓callX8_couple_0, ↓callX8_couple_1, ↓callX8_couple_2, ↓callX8_couple_3, ↓callX8_couple_4, ↓callX8_couple_5, ki_0, ki_1, ki_2, ki_3, ki_5, ↓ma_18, ↓ma_19, ↓ma_27, ↓ma_39, ↓ma_42, ↓mg_18, ↓mg_19, ↓mg_27, ↓mg_28, ↓mg_39, ↓mg_42, ↓mg_56, misa, ↓mp_56, ↓ms_18, ↓ms_19, ↓ms_28, ↓ms_39, ↓ms_42, ↓vm_aload_n, ↓vm_dup, ↓vm_dup2, ↓vm_getfield, ↓vm_goto, ↓vm_iadd, ↓vm_iaload, ↓vm_iastore, ↓vm_iconst, ↓vm_ifCond_eq, ↓vm_ifCond_ne, ↓vm_if_icmp_ge, ↓vm_iinc, ↓vm_iload, ↓vm_iload_n, ↓vm_imul, ↓vm_invokevirtual, ↓vm_ireturn, ↓vm_istore, ↓vm_istore_n, ↓vm_isub, ↓vm_putfield, ↓xc_2, ↓xc_3, ↓tbX8_couple_0, ↓tbX8_couple_1, ↓tbX8_couple_2, ↓tbX8_couple_5, ↓tbX8_couple_8, ↓tbX8_couple_9, ↓tbX8_couple_10, ↓tbX8_couple_13, ↓tbX8_couple_16, ↓tbX8_couple_17, ↓tbX8_couple_20, ↓tbX8_couple_21, ↓tbX8_couple_22, ↓tbX8_couple_23, ↓tbX8_couple_24, ↓tbX8_couple_27, ↓tbX8_couple_28, ↓tbX8_couple_31, ↓tbX8_couple_32, ↓tbX8_couple_33, ↓tbX8_couple_34, ↓tbX8_couple_37, ↓tbX8_couple_40, ↓tbX8_couple_41, ↓tbX8_couple_44, ↓tbX8_couple_45, ↓tbX8_couple_48, ↓tbX8_couple_51, ↓tbX8_couple_52, ↓tbX8_couple_53, ↓tbX8_couple_54, ↓tbX8_couple_55, ↓tbX8_couple_58, ↓tbX8_couple_60, ↓tbX8_couple_61, ↓tbX8_couple_64, ↓tbX8_couple_65, ↓tbX8_couple_66, ↓tbX8_couple_68, ↓tbX8_couple_69, ↓tbX8_couple_70, ↓tbX8_couple_73, ↓tbX8_couple_75, ↓tbX8_couple_76, ↓tbX8_couple_79, ↓tbX8_couple_81, ↓tbX8_couple_82, ↓tbX8_couple_83, ↓tbX8_couple_84, ↓tbX8_couple_85, ↓tbX8_couple_86, ↓tbX8_couple_87, ↓tbX8_couple_89, ↓tbX8_couple_90, ↓tbX8_couple_92, ↓tbX8_couple_93, ↓tbX8_couple_95, ↓tbX8_couple_97, ↓tbX8_couple_98, ↓tbX8_couple_100, ↓tbX8_couple_101, ↓tbX8_couple_102, ↓tbX8_couple_105, ↓tbX8_couple_107, ↓tbX8_couple_108, ↓tbX8_couple_109, ↓tbX8_couple_112, ↓tbX8_couple_113, ↓tbX8_couple_116, ↓tbX8_couple_118, ↓tbX8_couple_119, ↓tbX8_couple_122, ↓tbX8_couple_124, ↓tbX8_couple_125, ↓tbX8_couple_126, ↓tbX8_couple_127, ↓tbX8_couple_128, ↓tbX8_couple_131, ↓tbX8_couple_134, ↓tbX8_couple_135, ↓tbX8_couple_138, ↓tbX8_couple_139, ↓tbX8_couple_140, ↓tbX8_couple_141, ↓tbX8_couple_142, ↓tbX8_couple_145, ↓tbX8_couple_146, ↓tbX8_couple_147, ↓tbX8_couple_148, ↓tbX8_couple_149, ↓tbX8_couple_150, ↓tbX8_couple_151, ↓tbX8_couple_152, ↓tbX8_couple_155, ↓tbX8_couple_156, ↓tbX8_couple_157, ↓tbX8_couple_158, ↓tbX8_couple_159, ↓tbX8_couple_161, ↓tbX8_couple_162, ↓tbX8_couple_163, ↓tbX8_couple_164, ↓tbX8_couple_165, ↓tbX8_couple_166, ↓tbX8_couple_169, ↓tbX8_couple_170, ↓tbX8_couple_172, ↓tbX8_couple_173, ↓tbX8_couple_174, ↓tbX8_couple_177, ↓tbX8_couple_178, ↓tbX8_couple_181, ↓tbX8_couple_182, ↓tbX8_couple_183, hfu, xstep0, xJ1_hit, xJ1_go, xJ2_hit1, xJ2_hit2, xJ2_go, ↓xif_t, ↓xif_f, seval, ↓xca_eq, ↓xre_l, ↓xre_r, xmask_t, xmask_f, xmask_nil, ↓xst_eq, xX_eq, eI_eq, eMc_eq, eMs_eq, eF_eq, eThr_eq, ↓xS1_mk, ↓xSI_mk, ↓xSR_mk, ↓xLI_0, ↓xLI_s, ↓xLR_0, ↓xLR_s, vRef_ref, vRef_null, vRef_rf, cat_int, cat_ref, cat_null, cat_rf, rf_some, rf_none, rf_null, rf_eq, rf_ref, ref_rf, ref_null, ref_ref, xOk_0, xOk_1, xOk_2r, xOk_2n, xOk_2f, vOpt_rf, vOpt_ref, vOpt_null, List.set_cons_zero, List.set_cons_succ, List.take_succ_cons, List.take_zero, List.drop_succ_cons, List.drop_zero, List.reverse_cons, List.reverse_nil, List.nil_append, List.cons_append, List.append_nil, List.length_cons, List.length_nil, List.map_cons, List.map_nil, List.sum_cons, List.sum_nil, Option.toList_some, Option.toList_none, xRecv_mk, true_and, and_true, true_implies, Nat.reduceAdd, Nat.reduceLeDiff, Nat.zero_le, Nat.le_refl, Nat.add_zero, Nat.zero_add, reduceIte, not_true_eq_false, not_false_eq_true, false_implies, and_self, implies_true, eq_self, Nat.reduceEqDiff, List.cons.injEq, xsn_1, xsn_2, false_and, and_false, or_false, false_or, or_true, true_or, xsn_3, xsn_4, mAst_1, mAst_2, mSet_1, mSet_2, bi_0, ↓spwX8_isBoat, spcX8_isBoat, ↓spwX8_isBarge, spcX8_isBarge, ↓spwX8_canCouple, spcX8_canCouple, ↓spwX8_holds, spcX8_holds, ↓spwX8_outside, spcX8_outside, ↓spwX8_placeOf, spcX8_placeOf, i2, hpl3, hpl2, hp2, hout, f18, f27, ht, hn1, xin_nI ht16 (show 16 ≤ 1000 by omega), ix_nI (show t < 1000 by omega), sub1_nI (show 0 < n by omega), m5_nI, add_nI]
        try simp only [xif_e]
        repeat' (first | rfl | apply And.intro)
      have hr1 : mCcr M (nI w) g = 1 := h01.resolve_left hr
      refine xgo hG (mb := [true, true, true, false, false, false, false, false]) c53 (pc := 0) (fun fu hfu => ?_)
      simp only [↓callX8_couple_0, ↓callX8_couple_1, ↓callX8_couple_2, ↓callX8_couple_3, ↓callX8_couple_4, ↓callX8_couple_5, ki_0, ki_1, ki_2, ki_3, ki_5, ↓ma_18, ↓ma_19, ↓ma_27, ↓ma_39, ↓ma_42, ↓mg_18, ↓mg_19, ↓mg_27, ↓mg_28, ↓mg_39, ↓mg_42, ↓mg_56, misa, ↓mp_56, ↓ms_18, ↓ms_19, ↓ms_28, ↓ms_39, ↓ms_42, ↓vm_aload_n, ↓vm_dup, ↓vm_dup2, ↓vm_getfield, ↓vm_goto, ↓vm_iadd, ↓vm_iaload, ↓vm_iastore, ↓vm_iconst, ↓vm_ifCond_eq, ↓vm_ifCond_ne, ↓vm_if_icmp_ge, ↓vm_iinc, ↓vm_iload, ↓vm_iload_n, ↓vm_imul, ↓vm_invokevirtual, ↓vm_ireturn, ↓vm_istore, ↓vm_istore_n, ↓vm_isub, ↓vm_putfield, ↓xc_2, ↓xc_3, ↓tbX8_couple_0, ↓tbX8_couple_1, ↓tbX8_couple_2, ↓tbX8_couple_5, ↓tbX8_couple_8, ↓tbX8_couple_9, ↓tbX8_couple_10, ↓tbX8_couple_13, ↓tbX8_couple_16, ↓tbX8_couple_17, ↓tbX8_couple_20, ↓tbX8_couple_21, ↓tbX8_couple_22, ↓tbX8_couple_23, ↓tbX8_couple_24, ↓tbX8_couple_27, ↓tbX8_couple_28, ↓tbX8_couple_31, ↓tbX8_couple_32, ↓tbX8_couple_33, ↓tbX8_couple_34, ↓tbX8_couple_37, ↓tbX8_couple_40, ↓tbX8_couple_41, ↓tbX8_couple_44, ↓tbX8_couple_45, ↓tbX8_couple_48, ↓tbX8_couple_51, ↓tbX8_couple_52, ↓tbX8_couple_53, ↓tbX8_couple_54, ↓tbX8_couple_55, ↓tbX8_couple_58, ↓tbX8_couple_60, ↓tbX8_couple_61, ↓tbX8_couple_64, ↓tbX8_couple_65, ↓tbX8_couple_66, ↓tbX8_couple_68, ↓tbX8_couple_69, ↓tbX8_couple_70, ↓tbX8_couple_73, ↓tbX8_couple_75, ↓tbX8_couple_76, ↓tbX8_couple_79, ↓tbX8_couple_81, ↓tbX8_couple_82, ↓tbX8_couple_83, ↓tbX8_couple_84, ↓tbX8_couple_85, ↓tbX8_couple_86, ↓tbX8_couple_87, ↓tbX8_couple_89, ↓tbX8_couple_90, ↓tbX8_couple_92, ↓tbX8_couple_93, ↓tbX8_couple_95, ↓tbX8_couple_97, ↓tbX8_couple_98, ↓tbX8_couple_100, ↓tbX8_couple_101, ↓tbX8_couple_102, ↓tbX8_couple_105, ↓tbX8_couple_107, ↓tbX8_couple_108, ↓tbX8_couple_109, ↓tbX8_couple_112, ↓tbX8_couple_113, ↓tbX8_couple_116, ↓tbX8_couple_118, ↓tbX8_couple_119, ↓tbX8_couple_122, ↓tbX8_couple_124, ↓tbX8_couple_125, ↓tbX8_couple_126, ↓tbX8_couple_127, ↓tbX8_couple_128, ↓tbX8_couple_131, ↓tbX8_couple_134, ↓tbX8_couple_135, ↓tbX8_couple_138, ↓tbX8_couple_139, ↓tbX8_couple_140, ↓tbX8_couple_141, ↓tbX8_couple_142, ↓tbX8_couple_145, ↓tbX8_couple_146, ↓tbX8_couple_147, ↓tbX8_couple_148, ↓tbX8_couple_149, ↓tbX8_couple_150, ↓tbX8_couple_151, ↓tbX8_couple_152, ↓tbX8_couple_155, ↓tbX8_couple_156, ↓tbX8_couple_157, ↓tbX8_couple_158, ↓tbX8_couple_159, ↓tbX8_couple_161, ↓tbX8_couple_162, ↓tbX8_couple_163, ↓tbX8_couple_164, ↓tbX8_couple_165, ↓tbX8_couple_166, ↓tbX8_couple_169, ↓tbX8_couple_170, ↓tbX8_couple_172, ↓tbX8_couple_173, ↓tbX8_couple_174, ↓tbX8_couple_177, ↓tbX8_couple_178, ↓tbX8_couple_181, ↓tbX8_couple_182, ↓tbX8_couple_183, hfu, xstep0, xJ1_hit, xJ1_go, xJ2_hit1, xJ2_hit2, xJ2_go, ↓xif_t, ↓xif_f, seval, ↓xca_eq, ↓xre_l, ↓xre_r, xmask_t, xmask_f, xmask_nil, ↓xst_eq, xX_eq, eI_eq, eMc_eq, eMs_eq, eF_eq, eThr_eq, ↓xS1_mk, ↓xSI_mk, ↓xSR_mk, ↓xLI_0, ↓xLI_s, ↓xLR_0, ↓xLR_s, vRef_ref, vRef_null, vRef_rf, cat_int, cat_ref, cat_null, cat_rf, rf_some, rf_none, rf_null, rf_eq, rf_ref, ref_rf, ref_null, ref_ref, xOk_0, xOk_1, xOk_2r, xOk_2n, xOk_2f, vOpt_rf, vOpt_ref, vOpt_null, List.set_cons_zero, List.set_cons_succ, List.take_succ_cons, List.take_zero, List.drop_succ_cons, List.drop_zero, List.reverse_cons, List.reverse_nil, List.nil_append, List.cons_append, List.append_nil, List.length_cons, List.length_nil, List.map_cons, List.map_nil, List.sum_cons, List.sum_nil, Option.toList_some, Option.toList_none, xRecv_mk, true_and, and_true, true_implies, Nat.reduceAdd, Nat.reduceLeDiff, Nat.zero_le, Nat.le_refl, Nat.add_zero, Nat.zero_add, reduceIte, not_true_eq_false, not_false_eq_true, false_implies, and_self, implies_true, eq_self, Nat.reduceEqDiff, List.cons.injEq, xsn_1, xsn_2, false_and, and_false, or_false, false_or, or_true, true_or, xsn_3, xsn_4, mAst_1, mAst_2, mSet_1, mSet_2, bi_0, ↓spwX8_isBoat, spcX8_isBoat, ↓spwX8_isBarge, spcX8_isBarge, ↓spwX8_canCouple, spcX8_canCouple, ↓spwX8_holds, spcX8_holds, ↓spwX8_outside, spcX8_outside, ↓spwX8_placeOf, spcX8_placeOf, hi1, hi2, i1, i2, hW, hT, hr1, ix_nI (show w < 1000 by omega), e1, hM2]
      try simp only [xif_e]
      repeat' (first | rfl | apply And.intro)
  · unfold oCouple at h
    rw [if_pos hi] at h
    refine xgo hG (mb := []) (head := 53) (P := fun _ _ _ _ _ => False) (fun _ _ _ _ _ q => q.elim) (fun fu hfu => ?_)
    simp only [↓callX8_couple_0, ↓callX8_couple_1, ↓callX8_couple_2, ↓callX8_couple_3, ↓callX8_couple_4, ↓callX8_couple_5, ki_0, ki_1, ki_2, ki_3, ki_5, ↓ma_18, ↓ma_19, ↓ma_27, ↓ma_39, ↓ma_42, ↓mg_18, ↓mg_19, ↓mg_27, ↓mg_28, ↓mg_39, ↓mg_42, ↓mg_56, misa, ↓mp_56, ↓ms_18, ↓ms_19, ↓ms_28, ↓ms_39, ↓ms_42, ↓vm_aload_n, ↓vm_dup, ↓vm_dup2, ↓vm_getfield, ↓vm_goto, ↓vm_iadd, ↓vm_iaload, ↓vm_iastore, ↓vm_iconst, ↓vm_ifCond_eq, ↓vm_ifCond_ne, ↓vm_if_icmp_ge, ↓vm_iinc, ↓vm_iload, ↓vm_iload_n, ↓vm_imul, ↓vm_invokevirtual, ↓vm_ireturn, ↓vm_istore, ↓vm_istore_n, ↓vm_isub, ↓vm_putfield, ↓xc_2, ↓xc_3, ↓tbX8_couple_0, ↓tbX8_couple_1, ↓tbX8_couple_2, ↓tbX8_couple_5, ↓tbX8_couple_8, ↓tbX8_couple_9, ↓tbX8_couple_10, ↓tbX8_couple_13, ↓tbX8_couple_16, ↓tbX8_couple_17, ↓tbX8_couple_20, ↓tbX8_couple_21, ↓tbX8_couple_22, ↓tbX8_couple_23, ↓tbX8_couple_24, ↓tbX8_couple_27, ↓tbX8_couple_28, ↓tbX8_couple_31, ↓tbX8_couple_32, ↓tbX8_couple_33, ↓tbX8_couple_34, ↓tbX8_couple_37, ↓tbX8_couple_40, ↓tbX8_couple_41, ↓tbX8_couple_44, ↓tbX8_couple_45, ↓tbX8_couple_48, ↓tbX8_couple_51, ↓tbX8_couple_52, ↓tbX8_couple_53, ↓tbX8_couple_54, ↓tbX8_couple_55, ↓tbX8_couple_58, ↓tbX8_couple_60, ↓tbX8_couple_61, ↓tbX8_couple_64, ↓tbX8_couple_65, ↓tbX8_couple_66, ↓tbX8_couple_68, ↓tbX8_couple_69, ↓tbX8_couple_70, ↓tbX8_couple_73, ↓tbX8_couple_75, ↓tbX8_couple_76, ↓tbX8_couple_79, ↓tbX8_couple_81, ↓tbX8_couple_82, ↓tbX8_couple_83, ↓tbX8_couple_84, ↓tbX8_couple_85, ↓tbX8_couple_86, ↓tbX8_couple_87, ↓tbX8_couple_89, ↓tbX8_couple_90, ↓tbX8_couple_92, ↓tbX8_couple_93, ↓tbX8_couple_95, ↓tbX8_couple_97, ↓tbX8_couple_98, ↓tbX8_couple_100, ↓tbX8_couple_101, ↓tbX8_couple_102, ↓tbX8_couple_105, ↓tbX8_couple_107, ↓tbX8_couple_108, ↓tbX8_couple_109, ↓tbX8_couple_112, ↓tbX8_couple_113, ↓tbX8_couple_116, ↓tbX8_couple_118, ↓tbX8_couple_119, ↓tbX8_couple_122, ↓tbX8_couple_124, ↓tbX8_couple_125, ↓tbX8_couple_126, ↓tbX8_couple_127, ↓tbX8_couple_128, ↓tbX8_couple_131, ↓tbX8_couple_134, ↓tbX8_couple_135, ↓tbX8_couple_138, ↓tbX8_couple_139, ↓tbX8_couple_140, ↓tbX8_couple_141, ↓tbX8_couple_142, ↓tbX8_couple_145, ↓tbX8_couple_146, ↓tbX8_couple_147, ↓tbX8_couple_148, ↓tbX8_couple_149, ↓tbX8_couple_150, ↓tbX8_couple_151, ↓tbX8_couple_152, ↓tbX8_couple_155, ↓tbX8_couple_156, ↓tbX8_couple_157, ↓tbX8_couple_158, ↓tbX8_couple_159, ↓tbX8_couple_161, ↓tbX8_couple_162, ↓tbX8_couple_163, ↓tbX8_couple_164, ↓tbX8_couple_165, ↓tbX8_couple_166, ↓tbX8_couple_169, ↓tbX8_couple_170, ↓tbX8_couple_172, ↓tbX8_couple_173, ↓tbX8_couple_174, ↓tbX8_couple_177, ↓tbX8_couple_178, ↓tbX8_couple_181, ↓tbX8_couple_182, ↓tbX8_couple_183, hfu, xstep0, xJ1_hit, xJ1_go, xJ2_hit1, xJ2_hit2, xJ2_go, ↓xif_t, ↓xif_f, seval, ↓xca_eq, ↓xre_l, ↓xre_r, xmask_t, xmask_f, xmask_nil, ↓xst_eq, xX_eq, eI_eq, eMc_eq, eMs_eq, eF_eq, eThr_eq, ↓xS1_mk, ↓xSI_mk, ↓xSR_mk, ↓xLI_0, ↓xLI_s, ↓xLR_0, ↓xLR_s, vRef_ref, vRef_null, vRef_rf, cat_int, cat_ref, cat_null, cat_rf, rf_some, rf_none, rf_null, rf_eq, rf_ref, ref_rf, ref_null, ref_ref, xOk_0, xOk_1, xOk_2r, xOk_2n, xOk_2f, vOpt_rf, vOpt_ref, vOpt_null, List.set_cons_zero, List.set_cons_succ, List.take_succ_cons, List.take_zero, List.drop_succ_cons, List.drop_zero, List.reverse_cons, List.reverse_nil, List.nil_append, List.cons_append, List.append_nil, List.length_cons, List.length_nil, List.map_cons, List.map_nil, List.sum_cons, List.sum_nil, Option.toList_some, Option.toList_none, xRecv_mk, true_and, and_true, true_implies, Nat.reduceAdd, Nat.reduceLeDiff, Nat.zero_le, Nat.le_refl, Nat.add_zero, Nat.zero_add, reduceIte, not_true_eq_false, not_false_eq_true, false_implies, and_self, implies_true, eq_self, Nat.reduceEqDiff, List.cons.injEq, xsn_1, xsn_2, false_and, and_false, or_false, false_or, or_true, true_or, xsn_3, xsn_4, mAst_1, mAst_2, mSet_1, mSet_2, bi_0, ↓spwX8_isBoat, spcX8_isBoat, ↓spwX8_isBarge, spcX8_isBarge, ↓spwX8_canCouple, spcX8_canCouple, ↓spwX8_holds, spcX8_holds, ↓spwX8_outside, spcX8_outside, ↓spwX8_placeOf, spcX8_placeOf]
    try simp only [xif_e]
    repeat' (first | with_reducible apply And.intro | with_reducible intro _)
    all_goals grind [bi]

def mCdr (M : mS) (b g t : Int32) : Prop := M.2 34 b.toNatClampNeg = -1 ∧ M.2 28 g.toNatClampNeg = b ∧ M.2 18 (2 * M.2 33 b.toNatClampNeg + t).toNatClampNeg < M.2 17 (2 * M.2 33 b.toNatClampNeg + t).toNatClampNeg
noncomputable def mCdI (M : mS) (b g : Int32) : Int32 := bi (¬ mDgr (mLv M b.toNatClampNeg (mPlc M g) (M.2 42 b.toNatClampNeg).toNatClampNeg) b.toNatClampNeg ((M.2 42 b.toNatClampNeg).toNatClampNeg - 1) = true)
theorem mTn_less {M : mS} {w p n : Nat} (hn : M.2 42 w = nI n) (hp : p < n) (hn12 : n ≤ 12) (ht : ∀ k, k < n → vp_in (M.2 41 (12 * w + k)) 24) : mTn (mLv M w p n) w (nI (n - 1)) := by
  refine ⟨n - 1, rfl, by omega, fun k hk => ?_⟩
  unfold mLv
  rw [mShL_2]
  simp only [mAst_2]
  split
  · have z := ht (k + 1) (by omega)
    rw [if_neg (by omega)]
    exact z
  · rw [if_neg (by omega)]
    exact ht k (by omega)
theorem mLv_42 {M : mS} {w p n : Nat} : (mLv M w p n).2 42 w = nI (n - 1) := by
  unfold mLv
  rw [mShL_2]
  simp [mAst_2]
theorem mLv_at {M : mS} {w p n b i : Nat} (h : b ≠ 41) (h2 : b ≠ 42) : (mLv M w p n).2 b i = M.2 b i := by
  unfold mLv
  rw [mShL_2]
  simp [mAst_2, h, h2]
theorem mLv_1 {M : mS} {w p n : Nat} : (mLv M w p n).1 = M.1 := by
  unfold mLv
  rw [mShL_1]
  rfl

def tbX8_canDrop : List (Nat × xHint) := [(0, .aload_n 0, 0, 0, 0, []), (1, .iload_n 1, 1, 0, 0, []), (2, .invokevirtual 250, 0, 2, 9, []), (5, .ifCond .eq 30, 35, 0, 0, []), (8, .aload_n 0, 0, 0, 0, []), (9, .getfield 77, 9, 28, 2, []), (12, .iload_n 2, 2, 0, 0, []), (13, .iaload, 28, 0, 0, []), (14, .iload_n 1, 1, 0, 0, []), (15, .if_icmp .ne 20, 35, 0, 0, []), (18, .aload_n 0, 0, 0, 0, []), (19, .iconst 2, 0, 0, 0, []), (20, .aload_n 0, 0, 0, 0, []), (21, .getfield 89, 9, 33, 2, []), (24, .iload_n 1, 1, 0, 0, []), (25, .iaload, 33, 0, 0, []), (26, .imul, 0, 0, 0, []), (27, .iload_n 3, 3, 0, 0, []), (28, .iadd, 0, 0, 0, []), (29, .invokevirtual 200, 1, 2, 9, []), (32, .ifCond .ne 5, 37, 0, 0, []), (35, .iconst 0, 0, 0, 0, []), (36, .ireturn, 1, 0, 0, []), (37, .aload_n 0, 0, 0, 0, []), (38, .iload_n 2, 2, 0, 0, []), (39, .invokevirtual 213, 2, 2, 9, []), (42, .istore 4, 4, 0, 0, []), (44, .aload_n 0, 0, 0, 0, []), (45, .iload_n 1, 1, 0, 0, []), (46, .iload 4, 4, 0, 0, []), (48, .invokevirtual 268, 3, 3, 9, []), (51, .aload_n 0, 0, 0, 0, []), (52, .iload_n 1, 1, 0, 0, []), (53, .aload_n 0, 0, 0, 0, []), (54, .getfield 116, 9, 42, 2, []), (57, .iload_n 1, 1, 0, 0, []), (58, .iaload, 42, 0, 0, []), (59, .invokevirtual 259, 4, 3, 9, []), (62, .ifCond .ne 7, 69, 0, 0, []), (65, .iconst 1, 0, 0, 0, []), (66, .goto 4, 70, 0, 0, []), (69, .iconst 0, 0, 0, 0, []), (70, .istore 5, 5, 0, 0, []), (72, .aload_n 0, 0, 0, 0, []), (73, .iload_n 1, 1, 0, 0, []), (74, .iload 4, 4, 0, 0, []), (76, .iload_n 2, 2, 0, 0, []), (77, .invokevirtual 271, 5, 4, 9, []), (80, .iload 5, 5, 0, 0, []), (82, .ireturn, 1, 0, 0, [])]
def clX8_canDrop : List (Instr × Nat × Nat × Nat) := [(.invokevirtual 250, 0, 2, 9), (.invokevirtual 200, 1, 2, 9), (.invokevirtual 213, 2, 2, 9), (.invokevirtual 268, 3, 3, 9), (.invokevirtual 259, 4, 3, 9), (.invokevirtual 271, 5, 4, 9)]
def thX8_canDrop : List (Nat × Nat) := []
theorem ckX8_canDrop : tbX8_canDrop.all (xRow RX8 cX8_canDrop wsX8_canDrop vwCl [9] clX8_canDrop thX8_canDrop 6 (yX8_canDrop.name == "<init>") (some .boolean)) = true := xRow_q 0xac05150f01b61c04151b2a0536030400a70407009a0301b62e1b7400b42a1b2a0c01b604151b2a0436d500b61c2aac0305009ac800b6601d682e1b5900b42a052a1400a01b2e1c4d00b42a1e0099fa00b61b2a 83 (by decide +kernel) (by decide +kernel)
theorem usX8_canDrop : xUse wsX8_canDrop vwCl [9] = true := xUse_g rfl (lw_good lwl_X8_canDrop lwl_X80 (by decide +kernel)) xUse_n
theorem tbX8_canDrop_0 {k : Instr → Nat → Nat → Nat → List Nat → Prop} : xse (xFind tbX8_canDrop 0) k = k (.aload_n 0) 0 0 0 [] := rfl
theorem tbX8_canDrop_1 {k : Instr → Nat → Nat → Nat → List Nat → Prop} : xse (xFind tbX8_canDrop 1) k = k (.iload_n 1) 1 0 0 [] := rfl
theorem tbX8_canDrop_2 {k : Instr → Nat → Nat → Nat → List Nat → Prop} : xse (xFind tbX8_canDrop 2) k = k (.invokevirtual 250) 0 2 9 [] := rfl
theorem tbX8_canDrop_5 {k : Instr → Nat → Nat → Nat → List Nat → Prop} : xse (xFind tbX8_canDrop 5) k = k (.ifCond .eq 30) 35 0 0 [] := rfl
theorem tbX8_canDrop_8 {k : Instr → Nat → Nat → Nat → List Nat → Prop} : xse (xFind tbX8_canDrop 8) k = k (.aload_n 0) 0 0 0 [] := rfl
theorem tbX8_canDrop_9 {k : Instr → Nat → Nat → Nat → List Nat → Prop} : xse (xFind tbX8_canDrop 9) k = k (.getfield 77) 9 28 2 [] := rfl
theorem tbX8_canDrop_12 {k : Instr → Nat → Nat → Nat → List Nat → Prop} : xse (xFind tbX8_canDrop 12) k = k (.iload_n 2) 2 0 0 [] := rfl
theorem tbX8_canDrop_13 {k : Instr → Nat → Nat → Nat → List Nat → Prop} : xse (xFind tbX8_canDrop 13) k = k (.iaload) 28 0 0 [] := rfl
theorem tbX8_canDrop_14 {k : Instr → Nat → Nat → Nat → List Nat → Prop} : xse (xFind tbX8_canDrop 14) k = k (.iload_n 1) 1 0 0 [] := rfl
theorem tbX8_canDrop_15 {k : Instr → Nat → Nat → Nat → List Nat → Prop} : xse (xFind tbX8_canDrop 15) k = k (.if_icmp .ne 20) 35 0 0 [] := rfl
theorem tbX8_canDrop_18 {k : Instr → Nat → Nat → Nat → List Nat → Prop} : xse (xFind tbX8_canDrop 18) k = k (.aload_n 0) 0 0 0 [] := rfl
theorem tbX8_canDrop_19 {k : Instr → Nat → Nat → Nat → List Nat → Prop} : xse (xFind tbX8_canDrop 19) k = k (.iconst 2) 0 0 0 [] := rfl
theorem tbX8_canDrop_20 {k : Instr → Nat → Nat → Nat → List Nat → Prop} : xse (xFind tbX8_canDrop 20) k = k (.aload_n 0) 0 0 0 [] := rfl
theorem tbX8_canDrop_21 {k : Instr → Nat → Nat → Nat → List Nat → Prop} : xse (xFind tbX8_canDrop 21) k = k (.getfield 89) 9 33 2 [] := rfl
theorem tbX8_canDrop_24 {k : Instr → Nat → Nat → Nat → List Nat → Prop} : xse (xFind tbX8_canDrop 24) k = k (.iload_n 1) 1 0 0 [] := rfl
theorem tbX8_canDrop_25 {k : Instr → Nat → Nat → Nat → List Nat → Prop} : xse (xFind tbX8_canDrop 25) k = k (.iaload) 33 0 0 [] := rfl
theorem tbX8_canDrop_26 {k : Instr → Nat → Nat → Nat → List Nat → Prop} : xse (xFind tbX8_canDrop 26) k = k (.imul) 0 0 0 [] := rfl
theorem tbX8_canDrop_27 {k : Instr → Nat → Nat → Nat → List Nat → Prop} : xse (xFind tbX8_canDrop 27) k = k (.iload_n 3) 3 0 0 [] := rfl
theorem tbX8_canDrop_28 {k : Instr → Nat → Nat → Nat → List Nat → Prop} : xse (xFind tbX8_canDrop 28) k = k (.iadd) 0 0 0 [] := rfl
theorem tbX8_canDrop_29 {k : Instr → Nat → Nat → Nat → List Nat → Prop} : xse (xFind tbX8_canDrop 29) k = k (.invokevirtual 200) 1 2 9 [] := rfl
theorem tbX8_canDrop_32 {k : Instr → Nat → Nat → Nat → List Nat → Prop} : xse (xFind tbX8_canDrop 32) k = k (.ifCond .ne 5) 37 0 0 [] := rfl
theorem tbX8_canDrop_35 {k : Instr → Nat → Nat → Nat → List Nat → Prop} : xse (xFind tbX8_canDrop 35) k = k (.iconst 0) 0 0 0 [] := rfl
theorem tbX8_canDrop_36 {k : Instr → Nat → Nat → Nat → List Nat → Prop} : xse (xFind tbX8_canDrop 36) k = k (.ireturn) 1 0 0 [] := rfl
theorem tbX8_canDrop_37 {k : Instr → Nat → Nat → Nat → List Nat → Prop} : xse (xFind tbX8_canDrop 37) k = k (.aload_n 0) 0 0 0 [] := rfl
theorem tbX8_canDrop_38 {k : Instr → Nat → Nat → Nat → List Nat → Prop} : xse (xFind tbX8_canDrop 38) k = k (.iload_n 2) 2 0 0 [] := rfl
theorem tbX8_canDrop_39 {k : Instr → Nat → Nat → Nat → List Nat → Prop} : xse (xFind tbX8_canDrop 39) k = k (.invokevirtual 213) 2 2 9 [] := rfl
theorem tbX8_canDrop_42 {k : Instr → Nat → Nat → Nat → List Nat → Prop} : xse (xFind tbX8_canDrop 42) k = k (.istore 4) 4 0 0 [] := rfl
theorem tbX8_canDrop_44 {k : Instr → Nat → Nat → Nat → List Nat → Prop} : xse (xFind tbX8_canDrop 44) k = k (.aload_n 0) 0 0 0 [] := rfl
theorem tbX8_canDrop_45 {k : Instr → Nat → Nat → Nat → List Nat → Prop} : xse (xFind tbX8_canDrop 45) k = k (.iload_n 1) 1 0 0 [] := rfl
theorem tbX8_canDrop_46 {k : Instr → Nat → Nat → Nat → List Nat → Prop} : xse (xFind tbX8_canDrop 46) k = k (.iload 4) 4 0 0 [] := rfl
theorem tbX8_canDrop_48 {k : Instr → Nat → Nat → Nat → List Nat → Prop} : xse (xFind tbX8_canDrop 48) k = k (.invokevirtual 268) 3 3 9 [] := rfl
theorem tbX8_canDrop_51 {k : Instr → Nat → Nat → Nat → List Nat → Prop} : xse (xFind tbX8_canDrop 51) k = k (.aload_n 0) 0 0 0 [] := rfl
theorem tbX8_canDrop_52 {k : Instr → Nat → Nat → Nat → List Nat → Prop} : xse (xFind tbX8_canDrop 52) k = k (.iload_n 1) 1 0 0 [] := rfl
theorem tbX8_canDrop_53 {k : Instr → Nat → Nat → Nat → List Nat → Prop} : xse (xFind tbX8_canDrop 53) k = k (.aload_n 0) 0 0 0 [] := rfl
theorem tbX8_canDrop_54 {k : Instr → Nat → Nat → Nat → List Nat → Prop} : xse (xFind tbX8_canDrop 54) k = k (.getfield 116) 9 42 2 [] := rfl
theorem tbX8_canDrop_57 {k : Instr → Nat → Nat → Nat → List Nat → Prop} : xse (xFind tbX8_canDrop 57) k = k (.iload_n 1) 1 0 0 [] := rfl
theorem tbX8_canDrop_58 {k : Instr → Nat → Nat → Nat → List Nat → Prop} : xse (xFind tbX8_canDrop 58) k = k (.iaload) 42 0 0 [] := rfl
theorem tbX8_canDrop_59 {k : Instr → Nat → Nat → Nat → List Nat → Prop} : xse (xFind tbX8_canDrop 59) k = k (.invokevirtual 259) 4 3 9 [] := rfl
theorem tbX8_canDrop_62 {k : Instr → Nat → Nat → Nat → List Nat → Prop} : xse (xFind tbX8_canDrop 62) k = k (.ifCond .ne 7) 69 0 0 [] := rfl
theorem tbX8_canDrop_65 {k : Instr → Nat → Nat → Nat → List Nat → Prop} : xse (xFind tbX8_canDrop 65) k = k (.iconst 1) 0 0 0 [] := rfl
theorem tbX8_canDrop_66 {k : Instr → Nat → Nat → Nat → List Nat → Prop} : xse (xFind tbX8_canDrop 66) k = k (.goto 4) 70 0 0 [] := rfl
theorem tbX8_canDrop_69 {k : Instr → Nat → Nat → Nat → List Nat → Prop} : xse (xFind tbX8_canDrop 69) k = k (.iconst 0) 0 0 0 [] := rfl
theorem tbX8_canDrop_70 {k : Instr → Nat → Nat → Nat → List Nat → Prop} : xse (xFind tbX8_canDrop 70) k = k (.istore 5) 5 0 0 [] := rfl
theorem tbX8_canDrop_72 {k : Instr → Nat → Nat → Nat → List Nat → Prop} : xse (xFind tbX8_canDrop 72) k = k (.aload_n 0) 0 0 0 [] := rfl
theorem tbX8_canDrop_73 {k : Instr → Nat → Nat → Nat → List Nat → Prop} : xse (xFind tbX8_canDrop 73) k = k (.iload_n 1) 1 0 0 [] := rfl
theorem tbX8_canDrop_74 {k : Instr → Nat → Nat → Nat → List Nat → Prop} : xse (xFind tbX8_canDrop 74) k = k (.iload 4) 4 0 0 [] := rfl
theorem tbX8_canDrop_76 {k : Instr → Nat → Nat → Nat → List Nat → Prop} : xse (xFind tbX8_canDrop 76) k = k (.iload_n 2) 2 0 0 [] := rfl
theorem tbX8_canDrop_77 {k : Instr → Nat → Nat → Nat → List Nat → Prop} : xse (xFind tbX8_canDrop 77) k = k (.invokevirtual 271) 5 4 9 [] := rfl
theorem tbX8_canDrop_80 {k : Instr → Nat → Nat → Nat → List Nat → Prop} : xse (xFind tbX8_canDrop 80) k = k (.iload 5) 5 0 0 [] := rfl
theorem tbX8_canDrop_82 {k : Instr → Nat → Nat → Nat → List Nat → Prop} : xse (xFind tbX8_canDrop 82) k = k (.ireturn) 1 0 0 [] := rfl

def spX8_canDrop (aM : Nat → Nat) : xSp mS := (fun av M => (0, 0), fun av M K => ∃ (b : Int32) (g : Int32) (t : Int32), av = [.ref (aM 0), .int b, .int g, .int t] ∧ (vp_in b 6 ∧ vp_in g 24 ∧ mWk M b.toNatClampNeg ∧ mTk M b.toNatClampNeg ∧ (M.2 34 b.toNatClampNeg = -1 → vp_in (2 * M.2 33 b.toNatClampNeg + t) 16) ∧ mPl M g (mPlc M g) ∧ (M.2 28 g.toNatClampNeg = b → mPlc M g < (M.2 42 b.toNatClampNeg).toNatClampNeg) ∧ (mCdr M b g t → K (rI (mCdI M b g)) M) ∧ (¬ mCdr M b g t → K (rI 0) M)))
theorem spcX8_canDrop {av : List Value} {M : mS} {aM : Nat → Nat} : (spX8_canDrop aM).1 av M = (0, 0) := rfl
theorem spwX8_canDrop {M : mS} {aM : Nat → Nat} {K : xRes → mS → Prop} {b : Int32} {g : Int32} {t : Int32} : (spX8_canDrop aM).2 [.ref (aM 0), .int b, .int g, .int t] M K = (vp_in b 6 ∧ vp_in g 24 ∧ mWk M b.toNatClampNeg ∧ mTk M b.toNatClampNeg ∧ (M.2 34 b.toNatClampNeg = -1 → vp_in (2 * M.2 33 b.toNatClampNeg + t) 16) ∧ mPl M g (mPlc M g) ∧ (M.2 28 g.toNatClampNeg = b → mPlc M g < (M.2 42 b.toNatClampNeg).toNatClampNeg) ∧ (mCdr M b g t → K (rI (mCdI M b g)) M) ∧ (¬ mCdr M b g t → K (rI 0) M)) :=
  propext ⟨fun h => by
    simp only [spX8_canDrop] at h
    obtain ⟨_, _, _, e, h⟩ := h
    simp only [List.cons.injEq, Value.int.injEq, Value.ref.injEq, rf_eq, and_true, true_and] at e
    obtain ⟨rfl, rfl, rfl⟩ := e
    exact h, fun h => ⟨_, _, _, rfl, h⟩⟩

def callX8_canDrop (aM : Nat → Nat) : Nat → Option (xSp mS) := fun n => match n with | 0 => some (spX8_stands aM) | 1 => some (spX8_hasRoom aM) | 2 => some (spX8_placeOf aM) | 3 => some (spX8_leaves aM) | 4 => some (spX8_isDangerous aM) | 5 => some (spX8_returns aM) | _ => none

theorem callX8_canDrop_0 {aM : Nat → Nat} {k : xSp mS → Prop} : xcs (callX8_canDrop aM 0) k = k (spX8_stands aM) := rfl

theorem callX8_canDrop_1 {aM : Nat → Nat} {k : xSp mS → Prop} : xcs (callX8_canDrop aM 1) k = k (spX8_hasRoom aM) := rfl

theorem callX8_canDrop_2 {aM : Nat → Nat} {k : xSp mS → Prop} : xcs (callX8_canDrop aM 2) k = k (spX8_placeOf aM) := rfl

theorem callX8_canDrop_3 {aM : Nat → Nat} {k : xSp mS → Prop} : xcs (callX8_canDrop aM 3) k = k (spX8_leaves aM) := rfl

theorem callX8_canDrop_4 {aM : Nat → Nat} {k : xSp mS → Prop} : xcs (callX8_canDrop aM 4) k = k (spX8_isDangerous aM) := rfl

theorem callX8_canDrop_5 {aM : Nat → Nat} {k : xSp mS → Prop} : xcs (callX8_canDrop aM 5) k = k (spX8_returns aM) := rfl

theorem crX8_canDrop (l : Launch) (W9 : xWd) (aM : Nat → Nat) (hi : mInj aM) : xCallsOK l W9 (mI aM) (callX8_canDrop aM) clX8_canDrop RX8 wsX8_canDrop 2 48 6 := by
  intro E A p e R s m args below meth c hI hF hL X
  exact List.forall_mem_cons.mpr ⟨⟨_, rfl, xCR_V X (by rw [hI]; exact (semX8_stands l W9 aM hi)) gX8_canDrop_X8_stands rfl rfl (by decide +kernel) (by rw [hF, hL]; decide)⟩,
    List.forall_mem_cons.mpr ⟨⟨_, rfl, xCR_V X (by rw [hI]; exact (semX8_hasRoom l W9 aM hi)) gX8_canDrop_X8_hasRoom rfl rfl (by decide +kernel) (by rw [hF, hL]; decide)⟩,
    List.forall_mem_cons.mpr ⟨⟨_, rfl, xCR_V X (by rw [hI]; exact (semX8_placeOf l W9 aM hi)) gX8_canDrop_X8_placeOf rfl rfl (by decide +kernel) (by rw [hF, hL]; decide)⟩,
    List.forall_mem_cons.mpr ⟨⟨_, rfl, xCR_V X (by rw [hI]; exact (semX8_leaves l W9 aM hi)) gX8_canDrop_X8_leaves rfl rfl (by decide +kernel) (by rw [hF, hL]; decide)⟩,
    List.forall_mem_cons.mpr ⟨⟨_, rfl, xCR_V X (by rw [hI]; exact (semX8_isDangerous l W9 aM hi)) gX8_canDrop_X8_isDangerous rfl rfl (by decide +kernel) (by rw [hF, hL]; decide)⟩,
    List.forall_mem_cons.mpr ⟨⟨_, rfl, xCR_V X (by rw [hI]; exact (semX8_returns l W9 aM hi)) gX8_canDrop_X8_returns rfl rfl (by decide +kernel) (by rw [hF, hL]; decide)⟩,
    fun _ h => nomatch h⟩⟩⟩⟩⟩⟩

set_option maxHeartbeats 4000000 in
set_option maxRecDepth 20000 in
theorem semX8_canDrop (l : Launch) (W9 : xWd) (aM : Nat → Nat) (hi : mInj aM) : xSem l W9 (mI aM) yX8_canDrop wsX8_canDrop 2 48 (spX8_canDrop aM) := by
  refine xSem_of (call := callX8_canDrop aM) (thrf := fun _ => "") (mI_law hi) (by decide +kernel) rfl ckX8_canDrop usX8_canDrop (crX8_canDrop l W9 aM hi) xThrOK_nil ?_ ?_
  · intro av M KF h
    obtain ⟨b, g, t, rfl, h⟩ := h
    exact ⟨by intro v hv; simp only [List.mem_cons, List.not_mem_nil, or_false] at hv; rcases hv with rfl | rfl | rfl | rfl <;> first | rfl | exact cat_rf, Nat.le_of_ble_eq_true rfl⟩
  intro av M KF h G hG
  obtain ⟨b, g, t, rfl, h⟩ := h
  rw [show (spX8_canDrop aM).1 _ M = _ from spcX8_canDrop] at hG
  try dsimp only at hG
  change G 0 [some (.ref (aM 0)), some (.int b), some (.int g), some (.int t), none, none] [] M 0 0
  obtain ⟨h1, h2, hW, hT, h16, hP, hpn, ha, hb⟩ := h

  by_cases hc : mCdr M b g t
  · have h := ha hc
    obtain ⟨c1, c2, c3⟩ := hc
    obtain ⟨w, hw, rfl⟩ := vp_in_of h1 (by omega)
    have h3 := h16 c1
    have h4 := hpn c2
    unfold mCdI at h
    generalize hp0 : mPlc M g = p at *
    rw [ix_nI (show w < 1000 by omega)] at *
    obtain ⟨n, hn, hn12, ht⟩ := hT
    rw [hn, ix_nI (show n < 1000 by omega)] at h h4
    have hg : M.2 41 (12 * w + p) = g := by
      rcases hP.2 with ⟨z, -⟩ | ⟨-, -, w2, z1, z2, -, z3⟩
      · rw [c2] at z
        exact absurd z (nI_m1 (by omega))
      · rw [c2, nI_eq (by omega) (by omega)] at z1
        rw [← z1] at z3
        exact z3
    have hback := mLv_back (M := M) (w := w) (p := p) (n := n) (g := g) h4 hn12 hg hn
    have d1 : mWk (mLv M w p n) w := by
      obtain ⟨m, q1, q2⟩ := hW
      exact ⟨m, by rw [mLv_at (by omega) (by omega)]; exact q1, q2⟩
    have d2 := mTn_less hn h4 hn12 ht
    have d3 : (nI (n - 1)).toNatClampNeg = n - 1 := ix_nI (by omega)
    have lv1 : ∃ w0 k n0, nI w = nI w0 ∧ w0 < 6 ∧ nI p = nI k ∧ M.2 42 w0 = nI n0 ∧ k < n0 ∧ n0 ≤ 12 ∧ True := ⟨w, p, n, rfl, hw, rfl, hn, h4, hn12, trivial⟩
    have c72 : ∀ lv st S cs ss, (lv = [some (.ref (aM 0)), some (.int (nI w)), some (.int g), none, some (.int (nI p)), some (.int (bi (¬ mDgr (mLv M w p n) w (n - 1) = true)))] ∧ st = [] ∧ mLv M w p n = S ∧ cs = 0 ∧ ss = 0) → G 72 lv st S cs ss := by
      rintro lv st S cs ss ⟨rfl, rfl, rfl, rfl, (rfl)⟩
      refine xgo0 hG (fun fu hfu => ?_)
      simp only [↓callX8_canDrop_0, ↓callX8_canDrop_1, ↓callX8_canDrop_2, ↓callX8_canDrop_3, ↓callX8_canDrop_4, ↓callX8_canDrop_5, ki_0, ki_1, ki_2, ↓ma_28, ↓ma_33, ↓ma_42, ↓mg_28, ↓mg_33, ↓mg_42, misa, ↓vm_aload_n, ↓vm_getfield, ↓vm_goto, ↓vm_iadd, ↓vm_iaload, ↓vm_iconst, ↓vm_ifCond_eq, ↓vm_ifCond_ne, ↓vm_if_icmp_ne, ↓vm_iload, ↓vm_iload_n, ↓vm_imul, ↓vm_invokevirtual, ↓vm_ireturn, ↓vm_istore, ↓xc_2, ↓xc_3, ↓xc_4, ↓tbX8_canDrop_0, ↓tbX8_canDrop_1, ↓tbX8_canDrop_2, ↓tbX8_canDrop_5, ↓tbX8_canDrop_8, ↓tbX8_canDrop_9, ↓tbX8_canDrop_12, ↓tbX8_canDrop_13, ↓tbX8_canDrop_14, ↓tbX8_canDrop_15, ↓tbX8_canDrop_18, ↓tbX8_canDrop_19, ↓tbX8_canDrop_20, ↓tbX8_canDrop_21, ↓tbX8_canDrop_24, ↓tbX8_canDrop_25, ↓tbX8_canDrop_26, ↓tbX8_canDrop_27, ↓tbX8_canDrop_28, ↓tbX8_canDrop_29, ↓tbX8_canDrop_32, ↓tbX8_canDrop_35, ↓tbX8_canDrop_36, ↓tbX8_canDrop_37, ↓tbX8_canDrop_38, ↓tbX8_canDrop_39, ↓tbX8_canDrop_42, ↓tbX8_canDrop_44, ↓tbX8_canDrop_45, ↓tbX8_canDrop_46, ↓tbX8_canDrop_48, ↓tbX8_canDrop_51, ↓tbX8_canDrop_52, ↓tbX8_canDrop_53, ↓tbX8_canDrop_54, ↓tbX8_canDrop_57, ↓tbX8_canDrop_58, ↓tbX8_canDrop_59, ↓tbX8_canDrop_62, ↓tbX8_canDrop_65, ↓tbX8_canDrop_66, ↓tbX8_canDrop_69, ↓tbX8_canDrop_70, ↓tbX8_canDrop_72, ↓tbX8_canDrop_73, ↓tbX8_canDrop_74, ↓tbX8_canDrop_76, ↓tbX8_canDrop_77, ↓tbX8_canDrop_80, ↓tbX8_canDrop_82, hfu, xstep0, xJ1_hit, xJ1_go, xJ2_hit1, xJ2_hit2, xJ2_go, ↓xif_t, ↓xif_f, seval, ↓xca_eq, ↓xre_l, ↓xre_r, xmask_t, xmask_f, xmask_nil, ↓xst_eq, xX_eq, eI_eq, eMc_eq, eMs_eq, eF_eq, eThr_eq, ↓xS1_mk, ↓xSI_mk, ↓xSR_mk, ↓xLI_0, ↓xLI_s, ↓xLR_0, ↓xLR_s, vRef_ref, vRef_null, vRef_rf, cat_int, cat_ref, cat_null, cat_rf, rf_some, rf_none, rf_null, rf_eq, rf_ref, ref_rf, ref_null, ref_ref, xOk_0, xOk_1, xOk_2r, xOk_2n, xOk_2f, vOpt_rf, vOpt_ref, vOpt_null, List.set_cons_zero, List.set_cons_succ, List.take_succ_cons, List.take_zero, List.drop_succ_cons, List.drop_zero, List.reverse_cons, List.reverse_nil, List.nil_append, List.cons_append, List.append_nil, List.length_cons, List.length_nil, List.map_cons, List.map_nil, List.sum_cons, List.sum_nil, Option.toList_some, Option.toList_none, xRecv_mk, true_and, and_true, true_implies, Nat.reduceAdd, Nat.reduceLeDiff, Nat.zero_le, Nat.le_refl, Nat.add_zero, Nat.zero_add, reduceIte, not_true_eq_false, not_false_eq_true, false_implies, and_self, implies_true, eq_self, Nat.reduceEqDiff, List.cons.injEq, xsn_1, xsn_2, false_and, and_false, or_false, false_or, or_true, true_or, xsn_3, xsn_4, mAst_1, mAst_2, mSet_1, mSet_2, bi_0, ↓spwX8_stands, spcX8_stands, ↓spwX8_hasRoom, spcX8_hasRoom, ↓spwX8_placeOf, spcX8_placeOf, ↓spwX8_leaves, spcX8_leaves, ↓spwX8_isDangerous, spcX8_isDangerous, ↓spwX8_returns, spcX8_returns]
      try simp only [xif_e]
      refine ⟨w, p, n - 1, rfl, hw, rfl, mLv_42, by omega, by omega, ?_⟩
      rw [hback]
      exact ⟨by grind [bi], h⟩
    have c51 : ∀ lv st S cs ss, (lv = [some (.ref (aM 0)), some (.int (nI w)), some (.int g), none, some (.int (nI p)), none] ∧ st = [] ∧ mLv M w p n = S ∧ cs = 0 ∧ ss = 0) → G 51 lv st S cs ss := by
      rintro lv st S cs ss ⟨rfl, rfl, rfl, rfl, (rfl)⟩
      refine xgo hG (mb := [true, true, true, false, true, true]) c72 (fun fu hfu => ?_)
      simp only [↓callX8_canDrop_0, ↓callX8_canDrop_1, ↓callX8_canDrop_2, ↓callX8_canDrop_3, ↓callX8_canDrop_4, ↓callX8_canDrop_5, ki_0, ki_1, ki_2, ↓ma_28, ↓ma_33, ↓ma_42, ↓mg_28, ↓mg_33, ↓mg_42, misa, ↓vm_aload_n, ↓vm_getfield, ↓vm_goto, ↓vm_iadd, ↓vm_iaload, ↓vm_iconst, ↓vm_ifCond_eq, ↓vm_ifCond_ne, ↓vm_if_icmp_ne, ↓vm_iload, ↓vm_iload_n, ↓vm_imul, ↓vm_invokevirtual, ↓vm_ireturn, ↓vm_istore, ↓xc_2, ↓xc_3, ↓xc_4, ↓tbX8_canDrop_0, ↓tbX8_canDrop_1, ↓tbX8_canDrop_2, ↓tbX8_canDrop_5, ↓tbX8_canDrop_8, ↓tbX8_canDrop_9, ↓tbX8_canDrop_12, ↓tbX8_canDrop_13, ↓tbX8_canDrop_14, ↓tbX8_canDrop_15, ↓tbX8_canDrop_18, ↓tbX8_canDrop_19, ↓tbX8_canDrop_20, ↓tbX8_canDrop_21, ↓tbX8_canDrop_24, ↓tbX8_canDrop_25, ↓tbX8_canDrop_26, ↓tbX8_canDrop_27, ↓tbX8_canDrop_28, ↓tbX8_canDrop_29, ↓tbX8_canDrop_32, ↓tbX8_canDrop_35, ↓tbX8_canDrop_36, ↓tbX8_canDrop_37, ↓tbX8_canDrop_38, ↓tbX8_canDrop_39, ↓tbX8_canDrop_42, ↓tbX8_canDrop_44, ↓tbX8_canDrop_45, ↓tbX8_canDrop_46, ↓tbX8_canDrop_48, ↓tbX8_canDrop_51, ↓tbX8_canDrop_52, ↓tbX8_canDrop_53, ↓tbX8_canDrop_54, ↓tbX8_canDrop_57, ↓tbX8_canDrop_58, ↓tbX8_canDrop_59, ↓tbX8_canDrop_62, ↓tbX8_canDrop_65, ↓tbX8_canDrop_66, ↓tbX8_canDrop_69, ↓tbX8_canDrop_70, ↓tbX8_canDrop_72, ↓tbX8_canDrop_73, ↓tbX8_canDrop_74, ↓tbX8_canDrop_76, ↓tbX8_canDrop_77, ↓tbX8_canDrop_80, ↓tbX8_canDrop_82, hfu, xstep0, xJ1_hit, xJ1_go, xJ2_hit1, xJ2_hit2, xJ2_go, ↓xif_t, ↓xif_f, seval, ↓xca_eq, ↓xre_l, ↓xre_r, xmask_t, xmask_f, xmask_nil, ↓xst_eq, xX_eq, eI_eq, eMc_eq, eMs_eq, eF_eq, eThr_eq, ↓xS1_mk, ↓xSI_mk, ↓xSR_mk, ↓xLI_0, ↓xLI_s, ↓xLR_0, ↓xLR_s, vRef_ref, vRef_null, vRef_rf, cat_int, cat_ref, cat_null, cat_rf, rf_some, rf_none, rf_null, rf_eq, rf_ref, ref_rf, ref_null, ref_ref, xOk_0, xOk_1, xOk_2r, xOk_2n, xOk_2f, vOpt_rf, vOpt_ref, vOpt_null, List.set_cons_zero, List.set_cons_succ, List.take_succ_cons, List.take_zero, List.drop_succ_cons, List.drop_zero, List.reverse_cons, List.reverse_nil, List.nil_append, List.cons_append, List.append_nil, List.length_cons, List.length_nil, List.map_cons, List.map_nil, List.sum_cons, List.sum_nil, Option.toList_some, Option.toList_none, xRecv_mk, true_and, and_true, true_implies, Nat.reduceAdd, Nat.reduceLeDiff, Nat.zero_le, Nat.le_refl, Nat.add_zero, Nat.zero_add, reduceIte, not_true_eq_false, not_false_eq_true, false_implies, and_self, implies_true, eq_self, Nat.reduceEqDiff, List.cons.injEq, xsn_1, xsn_2, false_and, and_false, or_false, false_or, or_true, true_or, xsn_3, xsn_4, mAst_1, mAst_2, mSet_1, mSet_2, bi_0, ↓spwX8_stands, spcX8_stands, ↓spwX8_hasRoom, spcX8_hasRoom, ↓spwX8_placeOf, spcX8_placeOf, ↓spwX8_leaves, spcX8_leaves, ↓spwX8_isDangerous, spcX8_isDangerous, ↓spwX8_returns, spcX8_returns, h1, mLv_42, ix_nI (show w < 1000 by omega), d1, d2, d3]
      try simp only [xif_e]
      grind [bi]
    refine xgo hG (mb := [true, true, true, false, true, false]) c51 (pc := 0) (fun fu hfu => ?_)
    simp only [↓callX8_canDrop_0, ↓callX8_canDrop_1, ↓callX8_canDrop_2, ↓callX8_canDrop_3, ↓callX8_canDrop_4, ↓callX8_canDrop_5, ki_0, ki_1, ki_2, ↓ma_28, ↓ma_33, ↓ma_42, ↓mg_28, ↓mg_33, ↓mg_42, misa, ↓vm_aload_n, ↓vm_getfield, ↓vm_goto, ↓vm_iadd, ↓vm_iaload, ↓vm_iconst, ↓vm_ifCond_eq, ↓vm_ifCond_ne, ↓vm_if_icmp_ne, ↓vm_iload, ↓vm_iload_n, ↓vm_imul, ↓vm_invokevirtual, ↓vm_ireturn, ↓vm_istore, ↓xc_2, ↓xc_3, ↓xc_4, ↓tbX8_canDrop_0, ↓tbX8_canDrop_1, ↓tbX8_canDrop_2, ↓tbX8_canDrop_5, ↓tbX8_canDrop_8, ↓tbX8_canDrop_9, ↓tbX8_canDrop_12, ↓tbX8_canDrop_13, ↓tbX8_canDrop_14, ↓tbX8_canDrop_15, ↓tbX8_canDrop_18, ↓tbX8_canDrop_19, ↓tbX8_canDrop_20, ↓tbX8_canDrop_21, ↓tbX8_canDrop_24, ↓tbX8_canDrop_25, ↓tbX8_canDrop_26, ↓tbX8_canDrop_27, ↓tbX8_canDrop_28, ↓tbX8_canDrop_29, ↓tbX8_canDrop_32, ↓tbX8_canDrop_35, ↓tbX8_canDrop_36, ↓tbX8_canDrop_37, ↓tbX8_canDrop_38, ↓tbX8_canDrop_39, ↓tbX8_canDrop_42, ↓tbX8_canDrop_44, ↓tbX8_canDrop_45, ↓tbX8_canDrop_46, ↓tbX8_canDrop_48, ↓tbX8_canDrop_51, ↓tbX8_canDrop_52, ↓tbX8_canDrop_53, ↓tbX8_canDrop_54, ↓tbX8_canDrop_57, ↓tbX8_canDrop_58, ↓tbX8_canDrop_59, ↓tbX8_canDrop_62, ↓tbX8_canDrop_65, ↓tbX8_canDrop_66, ↓tbX8_canDrop_69, ↓tbX8_canDrop_70, ↓tbX8_canDrop_72, ↓tbX8_canDrop_73, ↓tbX8_canDrop_74, ↓tbX8_canDrop_76, ↓tbX8_canDrop_77, ↓tbX8_canDrop_80, ↓tbX8_canDrop_82, hfu, xstep0, xJ1_hit, xJ1_go, xJ2_hit1, xJ2_hit2, xJ2_go, ↓xif_t, ↓xif_f, seval, ↓xca_eq, ↓xre_l, ↓xre_r, xmask_t, xmask_f, xmask_nil, ↓xst_eq, xX_eq, eI_eq, eMc_eq, eMs_eq, eF_eq, eThr_eq, ↓xS1_mk, ↓xSI_mk, ↓xSR_mk, ↓xLI_0, ↓xLI_s, ↓xLR_0, ↓xLR_s, vRef_ref, vRef_null, vRef_rf, cat_int, cat_ref, cat_null, cat_rf, rf_some, rf_none, rf_null, rf_eq, rf_ref, ref_rf, ref_null, ref_ref, xOk_0, xOk_1, xOk_2r, xOk_2n, xOk_2f, vOpt_rf, vOpt_ref, vOpt_null, List.set_cons_zero, List.set_cons_succ, List.take_succ_cons, List.take_zero, List.drop_succ_cons, List.drop_zero, List.reverse_cons, List.reverse_nil, List.nil_append, List.cons_append, List.append_nil, List.length_cons, List.length_nil, List.map_cons, List.map_nil, List.sum_cons, List.sum_nil, Option.toList_some, Option.toList_none, xRecv_mk, true_and, and_true, true_implies, Nat.reduceAdd, Nat.reduceLeDiff, Nat.zero_le, Nat.le_refl, Nat.add_zero, Nat.zero_add, reduceIte, not_true_eq_false, not_false_eq_true, false_implies, and_self, implies_true, eq_self, Nat.reduceEqDiff, List.cons.injEq, xsn_1, xsn_2, false_and, and_false, or_false, false_or, or_true, true_or, xsn_3, xsn_4, mAst_1, mAst_2, mSet_1, mSet_2, bi_0, ↓spwX8_stands, spcX8_stands, ↓spwX8_hasRoom, spcX8_hasRoom, ↓spwX8_placeOf, spcX8_placeOf, ↓spwX8_leaves, spcX8_leaves, ↓spwX8_isDangerous, spcX8_isDangerous, ↓spwX8_returns, spcX8_returns, h1, h2, ix_nI (show w < 1000 by omega), c1, c2, c3, h3, hp0, hP]
    try simp only [xif_e]
    refine ⟨w, p, n, rfl, hw, rfl, hn, h4, hn12, ?_⟩
    repeat' (first | rfl | apply And.intro)
  · have h := hb hc
    unfold mCdr at hc
    refine xgo hG (mb := []) (head := 37) (P := fun _ _ _ _ _ => False) (fun _ _ _ _ _ q => q.elim) (fun fu hfu => ?_)
    simp only [↓callX8_canDrop_0, ↓callX8_canDrop_1, ↓callX8_canDrop_2, ↓callX8_canDrop_3, ↓callX8_canDrop_4, ↓callX8_canDrop_5, ki_0, ki_1, ki_2, ↓ma_28, ↓ma_33, ↓ma_42, ↓mg_28, ↓mg_33, ↓mg_42, misa, ↓vm_aload_n, ↓vm_getfield, ↓vm_goto, ↓vm_iadd, ↓vm_iaload, ↓vm_iconst, ↓vm_ifCond_eq, ↓vm_ifCond_ne, ↓vm_if_icmp_ne, ↓vm_iload, ↓vm_iload_n, ↓vm_imul, ↓vm_invokevirtual, ↓vm_ireturn, ↓vm_istore, ↓xc_2, ↓xc_3, ↓xc_4, ↓tbX8_canDrop_0, ↓tbX8_canDrop_1, ↓tbX8_canDrop_2, ↓tbX8_canDrop_5, ↓tbX8_canDrop_8, ↓tbX8_canDrop_9, ↓tbX8_canDrop_12, ↓tbX8_canDrop_13, ↓tbX8_canDrop_14, ↓tbX8_canDrop_15, ↓tbX8_canDrop_18, ↓tbX8_canDrop_19, ↓tbX8_canDrop_20, ↓tbX8_canDrop_21, ↓tbX8_canDrop_24, ↓tbX8_canDrop_25, ↓tbX8_canDrop_26, ↓tbX8_canDrop_27, ↓tbX8_canDrop_28, ↓tbX8_canDrop_29, ↓tbX8_canDrop_32, ↓tbX8_canDrop_35, ↓tbX8_canDrop_36, ↓tbX8_canDrop_37, ↓tbX8_canDrop_38, ↓tbX8_canDrop_39, ↓tbX8_canDrop_42, ↓tbX8_canDrop_44, ↓tbX8_canDrop_45, ↓tbX8_canDrop_46, ↓tbX8_canDrop_48, ↓tbX8_canDrop_51, ↓tbX8_canDrop_52, ↓tbX8_canDrop_53, ↓tbX8_canDrop_54, ↓tbX8_canDrop_57, ↓tbX8_canDrop_58, ↓tbX8_canDrop_59, ↓tbX8_canDrop_62, ↓tbX8_canDrop_65, ↓tbX8_canDrop_66, ↓tbX8_canDrop_69, ↓tbX8_canDrop_70, ↓tbX8_canDrop_72, ↓tbX8_canDrop_73, ↓tbX8_canDrop_74, ↓tbX8_canDrop_76, ↓tbX8_canDrop_77, ↓tbX8_canDrop_80, ↓tbX8_canDrop_82, hfu, xstep0, xJ1_hit, xJ1_go, xJ2_hit1, xJ2_hit2, xJ2_go, ↓xif_t, ↓xif_f, seval, ↓xca_eq, ↓xre_l, ↓xre_r, xmask_t, xmask_f, xmask_nil, ↓xst_eq, xX_eq, eI_eq, eMc_eq, eMs_eq, eF_eq, eThr_eq, ↓xS1_mk, ↓xSI_mk, ↓xSR_mk, ↓xLI_0, ↓xLI_s, ↓xLR_0, ↓xLR_s, vRef_ref, vRef_null, vRef_rf, cat_int, cat_ref, cat_null, cat_rf, rf_some, rf_none, rf_null, rf_eq, rf_ref, ref_rf, ref_null, ref_ref, xOk_0, xOk_1, xOk_2r, xOk_2n, xOk_2f, vOpt_rf, vOpt_ref, vOpt_null, List.set_cons_zero, List.set_cons_succ, List.take_succ_cons, List.take_zero, List.drop_succ_cons, List.drop_zero, List.reverse_cons, List.reverse_nil, List.nil_append, List.cons_append, List.append_nil, List.length_cons, List.length_nil, List.map_cons, List.map_nil, List.sum_cons, List.sum_nil, Option.toList_some, Option.toList_none, xRecv_mk, true_and, and_true, true_implies, Nat.reduceAdd, Nat.reduceLeDiff, Nat.zero_le, Nat.le_refl, Nat.add_zero, Nat.zero_add, reduceIte, not_true_eq_false, not_false_eq_true, false_implies, and_self, implies_true, eq_self, Nat.reduceEqDiff, List.cons.injEq, xsn_1, xsn_2, false_and, and_false, or_false, false_or, or_true, true_or, xsn_3, xsn_4, mAst_1, mAst_2, mSet_1, mSet_2, bi_0, ↓spwX8_stands, spcX8_stands, ↓spwX8_hasRoom, spcX8_hasRoom, ↓spwX8_placeOf, spcX8_placeOf, ↓spwX8_leaves, spcX8_leaves, ↓spwX8_isDangerous, spcX8_isDangerous, ↓spwX8_returns, spcX8_returns, h1, h2]
    try simp only [xif_e]
    repeat' (first | with_reducible apply And.intro | with_reducible intro _)
    all_goals grind [bi]

noncomputable def oDrop (M : mS) (b g t : Int32) : Int32 × mS :=
  if ¬ (((0 ≤ b ∧ b ≤ M.1 29 - 1) ∧ 0 ≤ g ∧ g ≤ M.1 22 - 1) ∧ 0 ≤ t ∧ t ≤ 1) then (0, mSet M 0 1)
  else if ¬ (M.2 34 b.toNatClampNeg = -1 ∧ M.2 28 g.toNatClampNeg = b ∧ M.2 18 (2 * M.2 33 b.toNatClampNeg + t).toNatClampNeg < M.2 17 (2 * M.2 33 b.toNatClampNeg + t).toNatClampNeg) ∨ mCdI M b g = 0 then (0, mSet M 0 2)
  else (nI ((M.2 42 b.toNatClampNeg).toNatClampNeg - 1), mTies (mLv (mAst (mSet M 0 0) 39 b.toNatClampNeg (M.2 39 b.toNatClampNeg + nI ((M.2 42 b.toNatClampNeg).toNatClampNeg - mPlc M g))) b.toNatClampNeg (mPlc M g) (M.2 42 b.toNatClampNeg).toNatClampNeg) g (2 * M.2 33 b.toNatClampNeg + t))
theorem mCdI_01 (M : mS) (b g : Int32) : mCdI M b g = 0 ∨ mCdI M b g = 1 := bi_01 _

def tbX8_drop : List (Nat × xHint) := [(0, .aload_n 0, 0, 0, 0, []), (1, .iload_n 1, 1, 0, 0, []), (2, .invokevirtual 247, 0, 2, 9, []), (5, .ifCond .eq 24, 29, 0, 0, []), (8, .aload_n 0, 0, 0, 0, []), (9, .iload_n 2, 2, 0, 0, []), (10, .invokevirtual 234, 1, 2, 9, []), (13, .ifCond .eq 16, 29, 0, 0, []), (16, .iload_n 3, 3, 0, 0, []), (17, .iconst 0, 0, 0, 0, []), (18, .iconst 1, 0, 0, 0, []), (19, .invokestatic 159, 2, 3, 0, []), (22, .ifCond .eq 7, 29, 0, 0, []), (25, .iconst 1, 0, 0, 0, []), (26, .goto 4, 30, 0, 0, []), (29, .iconst 0, 0, 0, 0, []), (30, .istore 4, 4, 0, 0, []), (32, .aload_n 0, 0, 0, 0, []), (33, .iload 4, 4, 0, 0, []), (35, .ifCond .ne 7, 42, 0, 0, []), (38, .iconst 1, 0, 0, 0, []), (39, .goto 18, 57, 0, 0, []), (42, .aload_n 0, 0, 0, 0, []), (43, .iload_n 1, 1, 0, 0, []), (44, .iload_n 2, 2, 0, 0, []), (45, .iload_n 3, 3, 0, 0, []), (46, .invokevirtual 275, 3, 4, 9, []), (49, .ifCond .eq 7, 56, 0, 0, []), (52, .iconst 0, 0, 0, 0, []), (53, .goto 4, 57, 0, 0, []), (56, .iconst 2, 0, 0, 0, []), (57, .invokevirtual 183, 4, 2, 9, []), (60, .ifCond .ne 5, 65, 0, 0, []), (63, .iconst 0, 0, 0, 0, []), (64, .ireturn, 0, 0, 0, []), (65, .aload_n 0, 0, 0, 0, []), (66, .iload_n 2, 2, 0, 0, []), (67, .invokevirtual 213, 5, 2, 9, []), (70, .istore 5, 5, 0, 0, []), (72, .aload_n 0, 0, 0, 0, []), (73, .getfield 107, 9, 39, 2, []), (76, .iload_n 1, 1, 0, 0, []), (77, .dup2, 0, 0, 0, []), (78, .iaload, 39, 0, 0, []), (79, .aload_n 0, 0, 0, 0, []), (80, .getfield 116, 9, 42, 2, []), (83, .iload_n 1, 1, 0, 0, []), (84, .iaload, 42, 0, 0, []), (85, .iload 5, 5, 0, 0, []), (87, .isub, 0, 0, 0, []), (88, .iadd, 0, 0, 0, []), (89, .iastore, 39, 0, 0, []), (90, .aload_n 0, 0, 0, 0, []), (91, .iload_n 1, 1, 0, 0, []), (92, .iload 5, 5, 0, 0, []), (94, .invokevirtual 268, 6, 3, 9, []), (97, .aload_n 0, 0, 0, 0, []), (98, .iload_n 2, 2, 0, 0, []), (99, .iconst 2, 0, 0, 0, []), (100, .aload_n 0, 0, 0, 0, []), (101, .getfield 89, 9, 33, 2, []), (104, .iload_n 1, 1, 0, 0, []), (105, .iaload, 33, 0, 0, []), (106, .imul, 0, 0, 0, []), (107, .iload_n 3, 3, 0, 0, []), (108, .iadd, 0, 0, 0, []), (109, .invokevirtual 203, 7, 3, 9, []), (112, .aload_n 0, 0, 0, 0, []), (113, .getfield 116, 9, 42, 2, []), (116, .iload_n 1, 1, 0, 0, []), (117, .iaload, 42, 0, 0, []), (118, .ireturn, 0, 0, 0, [])]
def clX8_drop : List (Instr × Nat × Nat × Nat) := [(.invokevirtual 247, 0, 2, 9), (.invokevirtual 234, 1, 2, 9), (.invokestatic 159, 2, 3, 0), (.invokevirtual 275, 3, 4, 9), (.invokevirtual 183, 4, 2, 9), (.invokevirtual 213, 5, 2, 9), (.invokevirtual 268, 6, 3, 9), (.invokevirtual 203, 7, 3, 9)]
def thX8_drop : List (Nat × Nat) := []
theorem ckX8_drop : tbX8_drop.all (xRow RX8 cX8_drop wsX8_drop vwCl [9] clX8_drop thX8_drop 6 (yX8_drop.name == "<init>") (some .int)) = true := xRow_q 0xac2e1b7400b42acb00b6601d682e1b5900b42a051c2a0c01b605151b2a4f606405152e1b7400b42a2e5c1b6b00b42a0536d500b61c2aac0305009ab700b6050400a7030700991301b61d1c1b2a1200a70407009a04152a0436030400a7040700999f00b804031d100099ea00b61c2a180099f700b61b2a 119 (by decide +kernel) (by decide +kernel)
theorem usX8_drop : xUse wsX8_drop vwCl [9] = true := xUse_g rfl (lw_good lwl_X8_drop lwl_X80 (by decide +kernel)) xUse_n
theorem tbX8_drop_0 {k : Instr → Nat → Nat → Nat → List Nat → Prop} : xse (xFind tbX8_drop 0) k = k (.aload_n 0) 0 0 0 [] := rfl
theorem tbX8_drop_1 {k : Instr → Nat → Nat → Nat → List Nat → Prop} : xse (xFind tbX8_drop 1) k = k (.iload_n 1) 1 0 0 [] := rfl
theorem tbX8_drop_2 {k : Instr → Nat → Nat → Nat → List Nat → Prop} : xse (xFind tbX8_drop 2) k = k (.invokevirtual 247) 0 2 9 [] := rfl
theorem tbX8_drop_5 {k : Instr → Nat → Nat → Nat → List Nat → Prop} : xse (xFind tbX8_drop 5) k = k (.ifCond .eq 24) 29 0 0 [] := rfl
theorem tbX8_drop_8 {k : Instr → Nat → Nat → Nat → List Nat → Prop} : xse (xFind tbX8_drop 8) k = k (.aload_n 0) 0 0 0 [] := rfl
theorem tbX8_drop_9 {k : Instr → Nat → Nat → Nat → List Nat → Prop} : xse (xFind tbX8_drop 9) k = k (.iload_n 2) 2 0 0 [] := rfl
theorem tbX8_drop_10 {k : Instr → Nat → Nat → Nat → List Nat → Prop} : xse (xFind tbX8_drop 10) k = k (.invokevirtual 234) 1 2 9 [] := rfl
theorem tbX8_drop_13 {k : Instr → Nat → Nat → Nat → List Nat → Prop} : xse (xFind tbX8_drop 13) k = k (.ifCond .eq 16) 29 0 0 [] := rfl
theorem tbX8_drop_16 {k : Instr → Nat → Nat → Nat → List Nat → Prop} : xse (xFind tbX8_drop 16) k = k (.iload_n 3) 3 0 0 [] := rfl
theorem tbX8_drop_17 {k : Instr → Nat → Nat → Nat → List Nat → Prop} : xse (xFind tbX8_drop 17) k = k (.iconst 0) 0 0 0 [] := rfl
theorem tbX8_drop_18 {k : Instr → Nat → Nat → Nat → List Nat → Prop} : xse (xFind tbX8_drop 18) k = k (.iconst 1) 0 0 0 [] := rfl
theorem tbX8_drop_19 {k : Instr → Nat → Nat → Nat → List Nat → Prop} : xse (xFind tbX8_drop 19) k = k (.invokestatic 159) 2 3 0 [] := rfl
theorem tbX8_drop_22 {k : Instr → Nat → Nat → Nat → List Nat → Prop} : xse (xFind tbX8_drop 22) k = k (.ifCond .eq 7) 29 0 0 [] := rfl
theorem tbX8_drop_25 {k : Instr → Nat → Nat → Nat → List Nat → Prop} : xse (xFind tbX8_drop 25) k = k (.iconst 1) 0 0 0 [] := rfl
theorem tbX8_drop_26 {k : Instr → Nat → Nat → Nat → List Nat → Prop} : xse (xFind tbX8_drop 26) k = k (.goto 4) 30 0 0 [] := rfl
theorem tbX8_drop_29 {k : Instr → Nat → Nat → Nat → List Nat → Prop} : xse (xFind tbX8_drop 29) k = k (.iconst 0) 0 0 0 [] := rfl
theorem tbX8_drop_30 {k : Instr → Nat → Nat → Nat → List Nat → Prop} : xse (xFind tbX8_drop 30) k = k (.istore 4) 4 0 0 [] := rfl
theorem tbX8_drop_32 {k : Instr → Nat → Nat → Nat → List Nat → Prop} : xse (xFind tbX8_drop 32) k = k (.aload_n 0) 0 0 0 [] := rfl
theorem tbX8_drop_33 {k : Instr → Nat → Nat → Nat → List Nat → Prop} : xse (xFind tbX8_drop 33) k = k (.iload 4) 4 0 0 [] := rfl
theorem tbX8_drop_35 {k : Instr → Nat → Nat → Nat → List Nat → Prop} : xse (xFind tbX8_drop 35) k = k (.ifCond .ne 7) 42 0 0 [] := rfl
theorem tbX8_drop_38 {k : Instr → Nat → Nat → Nat → List Nat → Prop} : xse (xFind tbX8_drop 38) k = k (.iconst 1) 0 0 0 [] := rfl
theorem tbX8_drop_39 {k : Instr → Nat → Nat → Nat → List Nat → Prop} : xse (xFind tbX8_drop 39) k = k (.goto 18) 57 0 0 [] := rfl
theorem tbX8_drop_42 {k : Instr → Nat → Nat → Nat → List Nat → Prop} : xse (xFind tbX8_drop 42) k = k (.aload_n 0) 0 0 0 [] := rfl
theorem tbX8_drop_43 {k : Instr → Nat → Nat → Nat → List Nat → Prop} : xse (xFind tbX8_drop 43) k = k (.iload_n 1) 1 0 0 [] := rfl
theorem tbX8_drop_44 {k : Instr → Nat → Nat → Nat → List Nat → Prop} : xse (xFind tbX8_drop 44) k = k (.iload_n 2) 2 0 0 [] := rfl
theorem tbX8_drop_45 {k : Instr → Nat → Nat → Nat → List Nat → Prop} : xse (xFind tbX8_drop 45) k = k (.iload_n 3) 3 0 0 [] := rfl
theorem tbX8_drop_46 {k : Instr → Nat → Nat → Nat → List Nat → Prop} : xse (xFind tbX8_drop 46) k = k (.invokevirtual 275) 3 4 9 [] := rfl
theorem tbX8_drop_49 {k : Instr → Nat → Nat → Nat → List Nat → Prop} : xse (xFind tbX8_drop 49) k = k (.ifCond .eq 7) 56 0 0 [] := rfl
theorem tbX8_drop_52 {k : Instr → Nat → Nat → Nat → List Nat → Prop} : xse (xFind tbX8_drop 52) k = k (.iconst 0) 0 0 0 [] := rfl
theorem tbX8_drop_53 {k : Instr → Nat → Nat → Nat → List Nat → Prop} : xse (xFind tbX8_drop 53) k = k (.goto 4) 57 0 0 [] := rfl
theorem tbX8_drop_56 {k : Instr → Nat → Nat → Nat → List Nat → Prop} : xse (xFind tbX8_drop 56) k = k (.iconst 2) 0 0 0 [] := rfl
theorem tbX8_drop_57 {k : Instr → Nat → Nat → Nat → List Nat → Prop} : xse (xFind tbX8_drop 57) k = k (.invokevirtual 183) 4 2 9 [] := rfl
theorem tbX8_drop_60 {k : Instr → Nat → Nat → Nat → List Nat → Prop} : xse (xFind tbX8_drop 60) k = k (.ifCond .ne 5) 65 0 0 [] := rfl
theorem tbX8_drop_63 {k : Instr → Nat → Nat → Nat → List Nat → Prop} : xse (xFind tbX8_drop 63) k = k (.iconst 0) 0 0 0 [] := rfl
theorem tbX8_drop_64 {k : Instr → Nat → Nat → Nat → List Nat → Prop} : xse (xFind tbX8_drop 64) k = k (.ireturn) 0 0 0 [] := rfl
theorem tbX8_drop_65 {k : Instr → Nat → Nat → Nat → List Nat → Prop} : xse (xFind tbX8_drop 65) k = k (.aload_n 0) 0 0 0 [] := rfl
theorem tbX8_drop_66 {k : Instr → Nat → Nat → Nat → List Nat → Prop} : xse (xFind tbX8_drop 66) k = k (.iload_n 2) 2 0 0 [] := rfl
theorem tbX8_drop_67 {k : Instr → Nat → Nat → Nat → List Nat → Prop} : xse (xFind tbX8_drop 67) k = k (.invokevirtual 213) 5 2 9 [] := rfl
theorem tbX8_drop_70 {k : Instr → Nat → Nat → Nat → List Nat → Prop} : xse (xFind tbX8_drop 70) k = k (.istore 5) 5 0 0 [] := rfl
theorem tbX8_drop_72 {k : Instr → Nat → Nat → Nat → List Nat → Prop} : xse (xFind tbX8_drop 72) k = k (.aload_n 0) 0 0 0 [] := rfl
theorem tbX8_drop_73 {k : Instr → Nat → Nat → Nat → List Nat → Prop} : xse (xFind tbX8_drop 73) k = k (.getfield 107) 9 39 2 [] := rfl
theorem tbX8_drop_76 {k : Instr → Nat → Nat → Nat → List Nat → Prop} : xse (xFind tbX8_drop 76) k = k (.iload_n 1) 1 0 0 [] := rfl
theorem tbX8_drop_77 {k : Instr → Nat → Nat → Nat → List Nat → Prop} : xse (xFind tbX8_drop 77) k = k (.dup2) 0 0 0 [] := rfl
theorem tbX8_drop_78 {k : Instr → Nat → Nat → Nat → List Nat → Prop} : xse (xFind tbX8_drop 78) k = k (.iaload) 39 0 0 [] := rfl
theorem tbX8_drop_79 {k : Instr → Nat → Nat → Nat → List Nat → Prop} : xse (xFind tbX8_drop 79) k = k (.aload_n 0) 0 0 0 [] := rfl
theorem tbX8_drop_80 {k : Instr → Nat → Nat → Nat → List Nat → Prop} : xse (xFind tbX8_drop 80) k = k (.getfield 116) 9 42 2 [] := rfl
theorem tbX8_drop_83 {k : Instr → Nat → Nat → Nat → List Nat → Prop} : xse (xFind tbX8_drop 83) k = k (.iload_n 1) 1 0 0 [] := rfl
theorem tbX8_drop_84 {k : Instr → Nat → Nat → Nat → List Nat → Prop} : xse (xFind tbX8_drop 84) k = k (.iaload) 42 0 0 [] := rfl
theorem tbX8_drop_85 {k : Instr → Nat → Nat → Nat → List Nat → Prop} : xse (xFind tbX8_drop 85) k = k (.iload 5) 5 0 0 [] := rfl
theorem tbX8_drop_87 {k : Instr → Nat → Nat → Nat → List Nat → Prop} : xse (xFind tbX8_drop 87) k = k (.isub) 0 0 0 [] := rfl
theorem tbX8_drop_88 {k : Instr → Nat → Nat → Nat → List Nat → Prop} : xse (xFind tbX8_drop 88) k = k (.iadd) 0 0 0 [] := rfl
theorem tbX8_drop_89 {k : Instr → Nat → Nat → Nat → List Nat → Prop} : xse (xFind tbX8_drop 89) k = k (.iastore) 39 0 0 [] := rfl
theorem tbX8_drop_90 {k : Instr → Nat → Nat → Nat → List Nat → Prop} : xse (xFind tbX8_drop 90) k = k (.aload_n 0) 0 0 0 [] := rfl
theorem tbX8_drop_91 {k : Instr → Nat → Nat → Nat → List Nat → Prop} : xse (xFind tbX8_drop 91) k = k (.iload_n 1) 1 0 0 [] := rfl
theorem tbX8_drop_92 {k : Instr → Nat → Nat → Nat → List Nat → Prop} : xse (xFind tbX8_drop 92) k = k (.iload 5) 5 0 0 [] := rfl
theorem tbX8_drop_94 {k : Instr → Nat → Nat → Nat → List Nat → Prop} : xse (xFind tbX8_drop 94) k = k (.invokevirtual 268) 6 3 9 [] := rfl
theorem tbX8_drop_97 {k : Instr → Nat → Nat → Nat → List Nat → Prop} : xse (xFind tbX8_drop 97) k = k (.aload_n 0) 0 0 0 [] := rfl
theorem tbX8_drop_98 {k : Instr → Nat → Nat → Nat → List Nat → Prop} : xse (xFind tbX8_drop 98) k = k (.iload_n 2) 2 0 0 [] := rfl
theorem tbX8_drop_99 {k : Instr → Nat → Nat → Nat → List Nat → Prop} : xse (xFind tbX8_drop 99) k = k (.iconst 2) 0 0 0 [] := rfl
theorem tbX8_drop_100 {k : Instr → Nat → Nat → Nat → List Nat → Prop} : xse (xFind tbX8_drop 100) k = k (.aload_n 0) 0 0 0 [] := rfl
theorem tbX8_drop_101 {k : Instr → Nat → Nat → Nat → List Nat → Prop} : xse (xFind tbX8_drop 101) k = k (.getfield 89) 9 33 2 [] := rfl
theorem tbX8_drop_104 {k : Instr → Nat → Nat → Nat → List Nat → Prop} : xse (xFind tbX8_drop 104) k = k (.iload_n 1) 1 0 0 [] := rfl
theorem tbX8_drop_105 {k : Instr → Nat → Nat → Nat → List Nat → Prop} : xse (xFind tbX8_drop 105) k = k (.iaload) 33 0 0 [] := rfl
theorem tbX8_drop_106 {k : Instr → Nat → Nat → Nat → List Nat → Prop} : xse (xFind tbX8_drop 106) k = k (.imul) 0 0 0 [] := rfl
theorem tbX8_drop_107 {k : Instr → Nat → Nat → Nat → List Nat → Prop} : xse (xFind tbX8_drop 107) k = k (.iload_n 3) 3 0 0 [] := rfl
theorem tbX8_drop_108 {k : Instr → Nat → Nat → Nat → List Nat → Prop} : xse (xFind tbX8_drop 108) k = k (.iadd) 0 0 0 [] := rfl
theorem tbX8_drop_109 {k : Instr → Nat → Nat → Nat → List Nat → Prop} : xse (xFind tbX8_drop 109) k = k (.invokevirtual 203) 7 3 9 [] := rfl
theorem tbX8_drop_112 {k : Instr → Nat → Nat → Nat → List Nat → Prop} : xse (xFind tbX8_drop 112) k = k (.aload_n 0) 0 0 0 [] := rfl
theorem tbX8_drop_113 {k : Instr → Nat → Nat → Nat → List Nat → Prop} : xse (xFind tbX8_drop 113) k = k (.getfield 116) 9 42 2 [] := rfl
theorem tbX8_drop_116 {k : Instr → Nat → Nat → Nat → List Nat → Prop} : xse (xFind tbX8_drop 116) k = k (.iload_n 1) 1 0 0 [] := rfl
theorem tbX8_drop_117 {k : Instr → Nat → Nat → Nat → List Nat → Prop} : xse (xFind tbX8_drop 117) k = k (.iaload) 42 0 0 [] := rfl
theorem tbX8_drop_118 {k : Instr → Nat → Nat → Nat → List Nat → Prop} : xse (xFind tbX8_drop 118) k = k (.ireturn) 0 0 0 [] := rfl

def spX8_drop (aM : Nat → Nat) : xSp mS := (fun av M => (0, 0), fun av M K => ∃ (b : Int32) (g : Int32) (t : Int32), av = [.ref (aM 0), .int b, .int g, .int t] ∧ ((M.1 29 = nI (nBt M) ∧ nBt M ≤ 6) ∧ (M.1 22 = nI (nBg M) ∧ nBg M ≤ 24) ∧ (∀ t : Nat, t < 16 → M.2 18 t < M.2 17 t → ∃ n, M.2 18 t = nI n ∧ n < 5) ∧ (iBt M b → mWk M b.toNatClampNeg ∧ mTk M b.toNatClampNeg ∧ (M.2 34 b.toNatClampNeg = -1 → vp_in (M.2 33 b.toNatClampNeg) 8)) ∧ (iBg M g → mPl M g (mPlc M g) ∧ (M.2 28 g.toNatClampNeg = b → mPlc M g < (M.2 42 b.toNatClampNeg).toNatClampNeg)) ∧ K (rI (oDrop M b g t).1) (oDrop M b g t).2))
theorem spcX8_drop {av : List Value} {M : mS} {aM : Nat → Nat} : (spX8_drop aM).1 av M = (0, 0) := rfl
theorem spwX8_drop {M : mS} {aM : Nat → Nat} {K : xRes → mS → Prop} {b : Int32} {g : Int32} {t : Int32} : (spX8_drop aM).2 [.ref (aM 0), .int b, .int g, .int t] M K = ((M.1 29 = nI (nBt M) ∧ nBt M ≤ 6) ∧ (M.1 22 = nI (nBg M) ∧ nBg M ≤ 24) ∧ (∀ t : Nat, t < 16 → M.2 18 t < M.2 17 t → ∃ n, M.2 18 t = nI n ∧ n < 5) ∧ (iBt M b → mWk M b.toNatClampNeg ∧ mTk M b.toNatClampNeg ∧ (M.2 34 b.toNatClampNeg = -1 → vp_in (M.2 33 b.toNatClampNeg) 8)) ∧ (iBg M g → mPl M g (mPlc M g) ∧ (M.2 28 g.toNatClampNeg = b → mPlc M g < (M.2 42 b.toNatClampNeg).toNatClampNeg)) ∧ K (rI (oDrop M b g t).1) (oDrop M b g t).2) :=
  propext ⟨fun h => by
    simp only [spX8_drop] at h
    obtain ⟨_, _, _, e, h⟩ := h
    simp only [List.cons.injEq, Value.int.injEq, Value.ref.injEq, rf_eq, and_true, true_and] at e
    obtain ⟨rfl, rfl, rfl⟩ := e
    exact h, fun h => ⟨_, _, _, rfl, h⟩⟩

def callX8_drop (aM : Nat → Nat) : Nat → Option (xSp mS) := fun n => match n with | 0 => some (spX8_isBoat aM) | 1 => some (spX8_isBarge aM) | 2 => some (spX8_in aM) | 3 => some (spX8_canDrop aM) | 4 => some (spX8_holds aM) | 5 => some (spX8_placeOf aM) | 6 => some (spX8_leaves aM) | 7 => some (spX8_ties aM) | _ => none

theorem callX8_drop_0 {aM : Nat → Nat} {k : xSp mS → Prop} : xcs (callX8_drop aM 0) k = k (spX8_isBoat aM) := rfl

theorem callX8_drop_1 {aM : Nat → Nat} {k : xSp mS → Prop} : xcs (callX8_drop aM 1) k = k (spX8_isBarge aM) := rfl

theorem callX8_drop_2 {aM : Nat → Nat} {k : xSp mS → Prop} : xcs (callX8_drop aM 2) k = k (spX8_in aM) := rfl

theorem callX8_drop_3 {aM : Nat → Nat} {k : xSp mS → Prop} : xcs (callX8_drop aM 3) k = k (spX8_canDrop aM) := rfl

theorem callX8_drop_4 {aM : Nat → Nat} {k : xSp mS → Prop} : xcs (callX8_drop aM 4) k = k (spX8_holds aM) := rfl

theorem callX8_drop_5 {aM : Nat → Nat} {k : xSp mS → Prop} : xcs (callX8_drop aM 5) k = k (spX8_placeOf aM) := rfl

theorem callX8_drop_6 {aM : Nat → Nat} {k : xSp mS → Prop} : xcs (callX8_drop aM 6) k = k (spX8_leaves aM) := rfl

theorem callX8_drop_7 {aM : Nat → Nat} {k : xSp mS → Prop} : xcs (callX8_drop aM 7) k = k (spX8_ties aM) := rfl

theorem crX8_drop (l : Launch) (W9 : xWd) (aM : Nat → Nat) (hi : mInj aM) : xCallsOK l W9 (mI aM) (callX8_drop aM) clX8_drop RX8 wsX8_drop 3 73 6 := by
  intro E A p e R s m args below meth c hI hF hL X
  exact List.forall_mem_cons.mpr ⟨⟨_, rfl, xCR_V X (by rw [hI]; exact (semX8_isBoat l W9 aM hi)) gX8_drop_X8_isBoat rfl rfl (by decide +kernel) (by rw [hF, hL]; decide)⟩,
    List.forall_mem_cons.mpr ⟨⟨_, rfl, xCR_V X (by rw [hI]; exact (semX8_isBarge l W9 aM hi)) gX8_drop_X8_isBarge rfl rfl (by decide +kernel) (by rw [hF, hL]; decide)⟩,
    List.forall_mem_cons.mpr ⟨⟨_, rfl, xCR_S X (by rw [hI]; exact (semX8_in l W9 aM hi)) gX8_drop_X8_in rfl (by decide +kernel) (by rw [hF, hL]; decide)⟩,
    List.forall_mem_cons.mpr ⟨⟨_, rfl, xCR_V X (by rw [hI]; exact (semX8_canDrop l W9 aM hi)) gX8_drop_X8_canDrop rfl rfl (by decide +kernel) (by rw [hF, hL]; decide)⟩,
    List.forall_mem_cons.mpr ⟨⟨_, rfl, xCR_V X (by rw [hI]; exact (semX8_holds l W9 aM hi)) gX8_drop_X8_holds rfl rfl (by decide +kernel) (by rw [hF, hL]; decide)⟩,
    List.forall_mem_cons.mpr ⟨⟨_, rfl, xCR_V X (by rw [hI]; exact (semX8_placeOf l W9 aM hi)) gX8_drop_X8_placeOf rfl rfl (by decide +kernel) (by rw [hF, hL]; decide)⟩,
    List.forall_mem_cons.mpr ⟨⟨_, rfl, xCR_V X (by rw [hI]; exact (semX8_leaves l W9 aM hi)) gX8_drop_X8_leaves rfl rfl (by decide +kernel) (by rw [hF, hL]; decide)⟩,
    List.forall_mem_cons.mpr ⟨⟨_, rfl, xCR_V X (by rw [hI]; exact (semX8_ties l W9 aM hi)) gX8_drop_X8_ties rfl rfl (by decide +kernel) (by rw [hF, hL]; decide)⟩,
    fun _ h => nomatch h⟩⟩⟩⟩⟩⟩⟩⟩

set_option maxHeartbeats 4000000 in
set_option maxRecDepth 20000 in
theorem semX8_drop (l : Launch) (W9 : xWd) (aM : Nat → Nat) (hi : mInj aM) : xSem l W9 (mI aM) yX8_drop wsX8_drop 3 73 (spX8_drop aM) := by
  refine xSem_of (call := callX8_drop aM) (thrf := fun _ => "") (mI_law hi) (by decide +kernel) rfl ckX8_drop usX8_drop (crX8_drop l W9 aM hi) xThrOK_nil ?_ ?_
  · intro av M KF h
    obtain ⟨b, g, t, rfl, h⟩ := h
    exact ⟨by intro v hv; simp only [List.mem_cons, List.not_mem_nil, or_false] at hv; rcases hv with rfl | rfl | rfl | rfl <;> first | rfl | exact cat_rf, Nat.le_of_ble_eq_true rfl⟩
  intro av M KF h G hG
  obtain ⟨b, g, t, rfl, h⟩ := h
  rw [show (spX8_drop aM).1 _ M = _ from spcX8_drop] at hG
  try dsimp only at hG
  change G 0 [some (.ref (aM 0)), some (.int b), some (.int g), some (.int t), none, none] [] M 0 0
  obtain ⟨hb, hg, htd, hB, hGg, h⟩ := h

  have h6 := @in_bt M b hb
  have h7 := @in_bg M g hg
  by_cases hi : ((0 ≤ b ∧ b ≤ M.1 29 - 1) ∧ 0 ≤ g ∧ g ≤ M.1 22 - 1) ∧ 0 ≤ t ∧ t ≤ 1
  · obtain ⟨⟨hi1, hi2⟩, hi3⟩ := hi
    have i1 := h6 hi1.1 hi1.2
    have i2 := h7 hi2.1 hi2.2
    obtain ⟨hW, hT, h33⟩ := hB hi1
    obtain ⟨hP, hpl⟩ := hGg hi2
    have h16 : M.2 34 b.toNatClampNeg = -1 → vp_in (2 * M.2 33 b.toNatClampNeg + t) 16 := by
      intro q
      obtain ⟨x, hx, e⟩ := vp_in_of (h33 q) (by omega)
      obtain ⟨y, hy, e2⟩ := vp_in_of (in_le 1 (by omega) hi3.1 hi3.2) (by omega)
      rw [e, e2, show (2 : Int32) = nI 2 from rfl, pk_mul, nI_add]
      exact vp_in_nI (by omega) (by omega)
    unfold oDrop at h
    rw [if_neg (fun q => q ⟨⟨hi1, hi2⟩, hi3⟩)] at h
    have h01 := mCdI_01 M b g
    by_cases hc : mCdr M b g t
    · by_cases hr : mCdI M b g = 0
      · rw [if_pos (Or.inr hr)] at h
        refine xgo hG (mb := []) (head := 65) (P := fun _ _ _ _ _ => False) (fun _ _ _ _ _ q => q.elim) (fun fu hfu => ?_)
        simp only [↓callX8_drop_0, ↓callX8_drop_1, ↓callX8_drop_2, ↓callX8_drop_3, ↓callX8_drop_4, ↓callX8_drop_5, ↓callX8_drop_6, ↓callX8_drop_7, ki_0, ki_1, ki_2, ↓ma_33, ↓ma_39, ↓ma_42, ↓mg_33, ↓mg_39, ↓mg_42, misa, ↓ms_39, ↓vm_aload_n, ↓vm_dup2, ↓vm_getfield, ↓vm_goto, ↓vm_iadd, ↓vm_iaload, ↓vm_iastore, ↓vm_iconst, ↓vm_ifCond_eq, ↓vm_ifCond_ne, ↓vm_iload, ↓vm_iload_n, ↓vm_imul, ↓vm_invokestatic, ↓vm_invokevirtual, ↓vm_ireturn, ↓vm_istore, ↓vm_isub, ↓xc_2, ↓xc_3, ↓xc_4, ↓tbX8_drop_0, ↓tbX8_drop_1, ↓tbX8_drop_2, ↓tbX8_drop_5, ↓tbX8_drop_8, ↓tbX8_drop_9, ↓tbX8_drop_10, ↓tbX8_drop_13, ↓tbX8_drop_16, ↓tbX8_drop_17, ↓tbX8_drop_18, ↓tbX8_drop_19, ↓tbX8_drop_22, ↓tbX8_drop_25, ↓tbX8_drop_26, ↓tbX8_drop_29, ↓tbX8_drop_30, ↓tbX8_drop_32, ↓tbX8_drop_33, ↓tbX8_drop_35, ↓tbX8_drop_38, ↓tbX8_drop_39, ↓tbX8_drop_42, ↓tbX8_drop_43, ↓tbX8_drop_44, ↓tbX8_drop_45, ↓tbX8_drop_46, ↓tbX8_drop_49, ↓tbX8_drop_52, ↓tbX8_drop_53, ↓tbX8_drop_56, ↓tbX8_drop_57, ↓tbX8_drop_60, ↓tbX8_drop_63, ↓tbX8_drop_64, ↓tbX8_drop_65, ↓tbX8_drop_66, ↓tbX8_drop_67, ↓tbX8_drop_70, ↓tbX8_drop_72, ↓tbX8_drop_73, ↓tbX8_drop_76, ↓tbX8_drop_77, ↓tbX8_drop_78, ↓tbX8_drop_79, ↓tbX8_drop_80, ↓tbX8_drop_83, ↓tbX8_drop_84, ↓tbX8_drop_85, ↓tbX8_drop_87, ↓tbX8_drop_88, ↓tbX8_drop_89, ↓tbX8_drop_90, ↓tbX8_drop_91, ↓tbX8_drop_92, ↓tbX8_drop_94, ↓tbX8_drop_97, ↓tbX8_drop_98, ↓tbX8_drop_99, ↓tbX8_drop_100, ↓tbX8_drop_101, ↓tbX8_drop_104, ↓tbX8_drop_105, ↓tbX8_drop_106, ↓tbX8_drop_107, ↓tbX8_drop_108, ↓tbX8_drop_109, ↓tbX8_drop_112, ↓tbX8_drop_113, ↓tbX8_drop_116, ↓tbX8_drop_117, ↓tbX8_drop_118, hfu, xstep0, xJ1_hit, xJ1_go, xJ2_hit1, xJ2_hit2, xJ2_go, ↓xif_t, ↓xif_f, seval, ↓xca_eq, ↓xre_l, ↓xre_r, xmask_t, xmask_f, xmask_nil, ↓xst_eq, xX_eq, eI_eq, eMc_eq, eMs_eq, eF_eq, eThr_eq, ↓xS1_mk, ↓xSI_mk, ↓xSR_mk, ↓xLI_0, ↓xLI_s, ↓xLR_0, ↓xLR_s, vRef_ref, vRef_null, vRef_rf, cat_int, cat_ref, cat_null, cat_rf, rf_some, rf_none, rf_null, rf_eq, rf_ref, ref_rf, ref_null, ref_ref, xOk_0, xOk_1, xOk_2r, xOk_2n, xOk_2f, vOpt_rf, vOpt_ref, vOpt_null, List.set_cons_zero, List.set_cons_succ, List.take_succ_cons, List.take_zero, List.drop_succ_cons, List.drop_zero, List.reverse_cons, List.reverse_nil, List.nil_append, List.cons_append, List.append_nil, List.length_cons, List.length_nil, List.map_cons, List.map_nil, List.sum_cons, List.sum_nil, Option.toList_some, Option.toList_none, xRecv_mk, true_and, and_true, true_implies, Nat.reduceAdd, Nat.reduceLeDiff, Nat.zero_le, Nat.le_refl, Nat.add_zero, Nat.zero_add, reduceIte, not_true_eq_false, not_false_eq_true, false_implies, and_self, implies_true, eq_self, Nat.reduceEqDiff, List.cons.injEq, xsn_1, xsn_2, false_and, and_false, or_false, false_or, or_true, true_or, xsn_3, xsn_4, mAst_1, mAst_2, mSet_1, mSet_2, bi_0, ↓spwX8_isBoat, spcX8_isBoat, ↓spwX8_isBarge, spcX8_isBarge, ↓spwX8_in, spcX8_in, ↓spwX8_canDrop, spcX8_canDrop, ↓spwX8_holds, spcX8_holds, ↓spwX8_placeOf, spcX8_placeOf, ↓spwX8_leaves, spcX8_leaves, ↓spwX8_ties, spcX8_ties, hi1, hi2, hi3, i1, i2, hW, hT, hP, hr]
        try simp only [xif_e]
        exact ⟨h16, hpl, fun _ => h, fun q => absurd hc q⟩
      · have hr1 := h01.resolve_left hr
        rw [if_neg (fun q => q.elim (fun z => z hc) hr)] at h
        obtain ⟨w, hw, rfl⟩ := vp_in_of i1 (by omega)
        have hcd := hc
        obtain ⟨c1, c2, c3⟩ := hc
        generalize hp0 : mPlc M g = p at *
        have h4 := hpl c2
        have h3 := h16 c1
        rw [ix_nI (show w < 1000 by omega)] at *
        obtain ⟨n, hn, hn12, ht⟩ := hT
        rw [hn, ix_nI (show n < 1000 by omega)] at h h4
        generalize hu : (2 * M.2 33 w + t) = u at *
        obtain ⟨x, hx, rfl⟩ := vp_in_of h3 (by omega)
        rw [ix_nI (show x < 1000 by omega)] at c3
        obtain ⟨y, hy, hy5⟩ := htd x hx c3
        have hmp : mPl (mSet M 0 0) g p := hP
        have hmp2 : mPlc (mSet M 0 0) g = p := hp0
        have q1 : (mLv (mAst (mSet M 0 0) 39 w (M.2 39 w + nI (n - p))) w p n).2 33 w = M.2 33 w := mLv_at (by omega) (by omega)
        have q2 : (mLv (mAst (mSet M 0 0) 39 w (M.2 39 w + nI (n - p))) w p n).2 18 x = nI y := by rw [mLv_at (by omega) (by omega)]; exact hy
        have c65 : ∀ lv st S cs ss, (lv = [some (.ref (aM 0)), some (.int (nI w)), some (.int g), some (.int t), none, none] ∧ st = [] ∧ mSet M 0 0 = S ∧ cs = 0 ∧ ss = 0) → G 65 lv st S cs ss := by
          rintro lv st S cs ss ⟨rfl, rfl, rfl, rfl, (rfl)⟩
          refine xgo0 hG (fun fu hfu => ?_)
          simp only [↓callX8_drop_0, ↓callX8_drop_1, ↓callX8_drop_2, ↓callX8_drop_3, ↓callX8_drop_4, ↓callX8_drop_5, ↓callX8_drop_6, ↓callX8_drop_7, ki_0, ki_1, ki_2, ↓ma_33, ↓ma_39, ↓ma_42, ↓mg_33, ↓mg_39, ↓mg_42, misa, ↓ms_39, ↓vm_aload_n, ↓vm_dup2, ↓vm_getfield, ↓vm_goto, ↓vm_iadd, ↓vm_iaload, ↓vm_iastore, ↓vm_iconst, ↓vm_ifCond_eq, ↓vm_ifCond_ne, ↓vm_iload, ↓vm_iload_n, ↓vm_imul, ↓vm_invokestatic, ↓vm_invokevirtual, ↓vm_ireturn, ↓vm_istore, ↓vm_isub, ↓xc_2, ↓xc_3, ↓xc_4, ↓tbX8_drop_0, ↓tbX8_drop_1, ↓tbX8_drop_2, ↓tbX8_drop_5, ↓tbX8_drop_8, ↓tbX8_drop_9, ↓tbX8_drop_10, ↓tbX8_drop_13, ↓tbX8_drop_16, ↓tbX8_drop_17, ↓tbX8_drop_18, ↓tbX8_drop_19, ↓tbX8_drop_22, ↓tbX8_drop_25, ↓tbX8_drop_26, ↓tbX8_drop_29, ↓tbX8_drop_30, ↓tbX8_drop_32, ↓tbX8_drop_33, ↓tbX8_drop_35, ↓tbX8_drop_38, ↓tbX8_drop_39, ↓tbX8_drop_42, ↓tbX8_drop_43, ↓tbX8_drop_44, ↓tbX8_drop_45, ↓tbX8_drop_46, ↓tbX8_drop_49, ↓tbX8_drop_52, ↓tbX8_drop_53, ↓tbX8_drop_56, ↓tbX8_drop_57, ↓tbX8_drop_60, ↓tbX8_drop_63, ↓tbX8_drop_64, ↓tbX8_drop_65, ↓tbX8_drop_66, ↓tbX8_drop_67, ↓tbX8_drop_70, ↓tbX8_drop_72, ↓tbX8_drop_73, ↓tbX8_drop_76, ↓tbX8_drop_77, ↓tbX8_drop_78, ↓tbX8_drop_79, ↓tbX8_drop_80, ↓tbX8_drop_83, ↓tbX8_drop_84, ↓tbX8_drop_85, ↓tbX8_drop_87, ↓tbX8_drop_88, ↓tbX8_drop_89, ↓tbX8_drop_90, ↓tbX8_drop_91, ↓tbX8_drop_92, ↓tbX8_drop_94, ↓tbX8_drop_97, ↓tbX8_drop_98, ↓tbX8_drop_99, ↓tbX8_drop_100, ↓tbX8_drop_101, ↓tbX8_drop_104, ↓tbX8_drop_105, ↓tbX8_drop_106, ↓tbX8_drop_107, ↓tbX8_drop_108, ↓tbX8_drop_109, ↓tbX8_drop_112, ↓tbX8_drop_113, ↓tbX8_drop_116, ↓tbX8_drop_117, ↓tbX8_drop_118, hfu, xstep0, xJ1_hit, xJ1_go, xJ2_hit1, xJ2_hit2, xJ2_go, ↓xif_t, ↓xif_f, seval, ↓xca_eq, ↓xre_l, ↓xre_r, xmask_t, xmask_f, xmask_nil, ↓xst_eq, xX_eq, eI_eq, eMc_eq, eMs_eq, eF_eq, eThr_eq, ↓xS1_mk, ↓xSI_mk, ↓xSR_mk, ↓xLI_0, ↓xLI_s, ↓xLR_0, ↓xLR_s, vRef_ref, vRef_null, vRef_rf, cat_int, cat_ref, cat_null, cat_rf, rf_some, rf_none, rf_null, rf_eq, rf_ref, ref_rf, ref_null, ref_ref, xOk_0, xOk_1, xOk_2r, xOk_2n, xOk_2f, vOpt_rf, vOpt_ref, vOpt_null, List.set_cons_zero, List.set_cons_succ, List.take_succ_cons, List.take_zero, List.drop_succ_cons, List.drop_zero, List.reverse_cons, List.reverse_nil, List.nil_append, List.cons_append, List.append_nil, List.length_cons, List.length_nil, List.map_cons, List.map_nil, List.sum_cons, List.sum_nil, Option.toList_some, Option.toList_none, xRecv_mk, true_and, and_true, true_implies, Nat.reduceAdd, Nat.reduceLeDiff, Nat.zero_le, Nat.le_refl, Nat.add_zero, Nat.zero_add, reduceIte, not_true_eq_false, not_false_eq_true, false_implies, and_self, implies_true, eq_self, Nat.reduceEqDiff, List.cons.injEq, xsn_1, xsn_2, false_and, and_false, or_false, false_or, or_true, true_or, xsn_3, xsn_4, mAst_1, mAst_2, mSet_1, mSet_2, bi_0, ↓spwX8_isBoat, spcX8_isBoat, ↓spwX8_isBarge, spcX8_isBarge, ↓spwX8_in, spcX8_in, ↓spwX8_canDrop, spcX8_canDrop, ↓spwX8_holds, spcX8_holds, ↓spwX8_placeOf, spcX8_placeOf, ↓spwX8_leaves, spcX8_leaves, ↓spwX8_ties, spcX8_ties, i1, i2, hmp, hmp2, hn, ix_nI (show w < 1000 by omega), pk_sub (show p ≤ n by omega)]
          try simp only [xif_e]
          refine ⟨w, p, n, rfl, hw, rfl, hn, h4, hn12, ?_⟩
          simp only [q1, hu, h3, ix_nI (show x < 1000 by omega), q2, m5_nI, add_nI, xin_nI (show 5 * x + y < 80 by omega) (by omega)]
          refine ⟨trivial, trivial, ?_⟩
          have q3 : (mTies (mLv (mAst (mSet M 0 0) 39 w (M.2 39 w + nI (n - p))) w p n) g (nI x)).2 42 w = nI (n - 1) := by
            simp only [mTies, mAst_2]
            simp [mLv_42]
          rw [q3]
          exact h
        refine xgo hG (mb := [true, true, true, true, false, false]) c65 (pc := 0) (fun fu hfu => ?_)
        simp only [↓callX8_drop_0, ↓callX8_drop_1, ↓callX8_drop_2, ↓callX8_drop_3, ↓callX8_drop_4, ↓callX8_drop_5, ↓callX8_drop_6, ↓callX8_drop_7, ki_0, ki_1, ki_2, ↓ma_33, ↓ma_39, ↓ma_42, ↓mg_33, ↓mg_39, ↓mg_42, misa, ↓ms_39, ↓vm_aload_n, ↓vm_dup2, ↓vm_getfield, ↓vm_goto, ↓vm_iadd, ↓vm_iaload, ↓vm_iastore, ↓vm_iconst, ↓vm_ifCond_eq, ↓vm_ifCond_ne, ↓vm_iload, ↓vm_iload_n, ↓vm_imul, ↓vm_invokestatic, ↓vm_invokevirtual, ↓vm_ireturn, ↓vm_istore, ↓vm_isub, ↓xc_2, ↓xc_3, ↓xc_4, ↓tbX8_drop_0, ↓tbX8_drop_1, ↓tbX8_drop_2, ↓tbX8_drop_5, ↓tbX8_drop_8, ↓tbX8_drop_9, ↓tbX8_drop_10, ↓tbX8_drop_13, ↓tbX8_drop_16, ↓tbX8_drop_17, ↓tbX8_drop_18, ↓tbX8_drop_19, ↓tbX8_drop_22, ↓tbX8_drop_25, ↓tbX8_drop_26, ↓tbX8_drop_29, ↓tbX8_drop_30, ↓tbX8_drop_32, ↓tbX8_drop_33, ↓tbX8_drop_35, ↓tbX8_drop_38, ↓tbX8_drop_39, ↓tbX8_drop_42, ↓tbX8_drop_43, ↓tbX8_drop_44, ↓tbX8_drop_45, ↓tbX8_drop_46, ↓tbX8_drop_49, ↓tbX8_drop_52, ↓tbX8_drop_53, ↓tbX8_drop_56, ↓tbX8_drop_57, ↓tbX8_drop_60, ↓tbX8_drop_63, ↓tbX8_drop_64, ↓tbX8_drop_65, ↓tbX8_drop_66, ↓tbX8_drop_67, ↓tbX8_drop_70, ↓tbX8_drop_72, ↓tbX8_drop_73, ↓tbX8_drop_76, ↓tbX8_drop_77, ↓tbX8_drop_78, ↓tbX8_drop_79, ↓tbX8_drop_80, ↓tbX8_drop_83, ↓tbX8_drop_84, ↓tbX8_drop_85, ↓tbX8_drop_87, ↓tbX8_drop_88, ↓tbX8_drop_89, ↓tbX8_drop_90, ↓tbX8_drop_91, ↓tbX8_drop_92, ↓tbX8_drop_94, ↓tbX8_drop_97, ↓tbX8_drop_98, ↓tbX8_drop_99, ↓tbX8_drop_100, ↓tbX8_drop_101, ↓tbX8_drop_104, ↓tbX8_drop_105, ↓tbX8_drop_106, ↓tbX8_drop_107, ↓tbX8_drop_108, ↓tbX8_drop_109, ↓tbX8_drop_112, ↓tbX8_drop_113, ↓tbX8_drop_116, ↓tbX8_drop_117, ↓tbX8_drop_118, hfu, xstep0, xJ1_hit, xJ1_go, xJ2_hit1, xJ2_hit2, xJ2_go, ↓xif_t, ↓xif_f, seval, ↓xca_eq, ↓xre_l, ↓xre_r, xmask_t, xmask_f, xmask_nil, ↓xst_eq, xX_eq, eI_eq, eMc_eq, eMs_eq, eF_eq, eThr_eq, ↓xS1_mk, ↓xSI_mk, ↓xSR_mk, ↓xLI_0, ↓xLI_s, ↓xLR_0, ↓xLR_s, vRef_ref, vRef_null, vRef_rf, cat_int, cat_ref, cat_null, cat_rf, rf_some, rf_none, rf_null, rf_eq, rf_ref, ref_rf, ref_null, ref_ref, xOk_0, xOk_1, xOk_2r, xOk_2n, xOk_2f, vOpt_rf, vOpt_ref, vOpt_null, List.set_cons_zero, List.set_cons_succ, List.take_succ_cons, List.take_zero, List.drop_succ_cons, List.drop_zero, List.reverse_cons, List.reverse_nil, List.nil_append, List.cons_append, List.append_nil, List.length_cons, List.length_nil, List.map_cons, List.map_nil, List.sum_cons, List.sum_nil, Option.toList_some, Option.toList_none, xRecv_mk, true_and, and_true, true_implies, Nat.reduceAdd, Nat.reduceLeDiff, Nat.zero_le, Nat.le_refl, Nat.add_zero, Nat.zero_add, reduceIte, not_true_eq_false, not_false_eq_true, false_implies, and_self, implies_true, eq_self, Nat.reduceEqDiff, List.cons.injEq, xsn_1, xsn_2, false_and, and_false, or_false, false_or, or_true, true_or, xsn_3, xsn_4, mAst_1, mAst_2, mSet_1, mSet_2, bi_0, ↓spwX8_isBoat, spcX8_isBoat, ↓spwX8_isBarge, spcX8_isBarge, ↓spwX8_in, spcX8_in, ↓spwX8_canDrop, spcX8_canDrop, ↓spwX8_holds, spcX8_holds, ↓spwX8_placeOf, spcX8_placeOf, ↓spwX8_leaves, spcX8_leaves, ↓spwX8_ties, spcX8_ties, hi1, hi2, hi3, i1, i2, hW, hP, hp0, hr1, ix_nI (show w < 1000 by omega)]
        try simp only [xif_e]
        exact ⟨⟨n, hn, hn12, ht⟩, fun q => by rw [hu]; exact h3, fun _ => by rw [hn, ix_nI (by omega)]; exact h4, fun q => absurd hcd q⟩
    · have hc2 := hc
      unfold mCdr at hc2
      rw [if_pos (Or.inl hc2)] at h
      refine xgo hG (mb := []) (head := 65) (P := fun _ _ _ _ _ => False) (fun _ _ _ _ _ q => q.elim) (fun fu hfu => ?_)
      simp only [↓callX8_drop_0, ↓callX8_drop_1, ↓callX8_drop_2, ↓callX8_drop_3, ↓callX8_drop_4, ↓callX8_drop_5, ↓callX8_drop_6, ↓callX8_drop_7, ki_0, ki_1, ki_2, ↓ma_33, ↓ma_39, ↓ma_42, ↓mg_33, ↓mg_39, ↓mg_42, misa, ↓ms_39, ↓vm_aload_n, ↓vm_dup2, ↓vm_getfield, ↓vm_goto, ↓vm_iadd, ↓vm_iaload, ↓vm_iastore, ↓vm_iconst, ↓vm_ifCond_eq, ↓vm_ifCond_ne, ↓vm_iload, ↓vm_iload_n, ↓vm_imul, ↓vm_invokestatic, ↓vm_invokevirtual, ↓vm_ireturn, ↓vm_istore, ↓vm_isub, ↓xc_2, ↓xc_3, ↓xc_4, ↓tbX8_drop_0, ↓tbX8_drop_1, ↓tbX8_drop_2, ↓tbX8_drop_5, ↓tbX8_drop_8, ↓tbX8_drop_9, ↓tbX8_drop_10, ↓tbX8_drop_13, ↓tbX8_drop_16, ↓tbX8_drop_17, ↓tbX8_drop_18, ↓tbX8_drop_19, ↓tbX8_drop_22, ↓tbX8_drop_25, ↓tbX8_drop_26, ↓tbX8_drop_29, ↓tbX8_drop_30, ↓tbX8_drop_32, ↓tbX8_drop_33, ↓tbX8_drop_35, ↓tbX8_drop_38, ↓tbX8_drop_39, ↓tbX8_drop_42, ↓tbX8_drop_43, ↓tbX8_drop_44, ↓tbX8_drop_45, ↓tbX8_drop_46, ↓tbX8_drop_49, ↓tbX8_drop_52, ↓tbX8_drop_53, ↓tbX8_drop_56, ↓tbX8_drop_57, ↓tbX8_drop_60, ↓tbX8_drop_63, ↓tbX8_drop_64, ↓tbX8_drop_65, ↓tbX8_drop_66, ↓tbX8_drop_67, ↓tbX8_drop_70, ↓tbX8_drop_72, ↓tbX8_drop_73, ↓tbX8_drop_76, ↓tbX8_drop_77, ↓tbX8_drop_78, ↓tbX8_drop_79, ↓tbX8_drop_80, ↓tbX8_drop_83, ↓tbX8_drop_84, ↓tbX8_drop_85, ↓tbX8_drop_87, ↓tbX8_drop_88, ↓tbX8_drop_89, ↓tbX8_drop_90, ↓tbX8_drop_91, ↓tbX8_drop_92, ↓tbX8_drop_94, ↓tbX8_drop_97, ↓tbX8_drop_98, ↓tbX8_drop_99, ↓tbX8_drop_100, ↓tbX8_drop_101, ↓tbX8_drop_104, ↓tbX8_drop_105, ↓tbX8_drop_106, ↓tbX8_drop_107, ↓tbX8_drop_108, ↓tbX8_drop_109, ↓tbX8_drop_112, ↓tbX8_drop_113, ↓tbX8_drop_116, ↓tbX8_drop_117, ↓tbX8_drop_118, hfu, xstep0, xJ1_hit, xJ1_go, xJ2_hit1, xJ2_hit2, xJ2_go, ↓xif_t, ↓xif_f, seval, ↓xca_eq, ↓xre_l, ↓xre_r, xmask_t, xmask_f, xmask_nil, ↓xst_eq, xX_eq, eI_eq, eMc_eq, eMs_eq, eF_eq, eThr_eq, ↓xS1_mk, ↓xSI_mk, ↓xSR_mk, ↓xLI_0, ↓xLI_s, ↓xLR_0, ↓xLR_s, vRef_ref, vRef_null, vRef_rf, cat_int, cat_ref, cat_null, cat_rf, rf_some, rf_none, rf_null, rf_eq, rf_ref, ref_rf, ref_null, ref_ref, xOk_0, xOk_1, xOk_2r, xOk_2n, xOk_2f, vOpt_rf, vOpt_ref, vOpt_null, List.set_cons_zero, List.set_cons_succ, List.take_succ_cons, List.take_zero, List.drop_succ_cons, List.drop_zero, List.reverse_cons, List.reverse_nil, List.nil_append, List.cons_append, List.append_nil, List.length_cons, List.length_nil, List.map_cons, List.map_nil, List.sum_cons, List.sum_nil, Option.toList_some, Option.toList_none, xRecv_mk, true_and, and_true, true_implies, Nat.reduceAdd, Nat.reduceLeDiff, Nat.zero_le, Nat.le_refl, Nat.add_zero, Nat.zero_add, reduceIte, not_true_eq_false, not_false_eq_true, false_implies, and_self, implies_true, eq_self, Nat.reduceEqDiff, List.cons.injEq, xsn_1, xsn_2, false_and, and_false, or_false, false_or, or_true, true_or, xsn_3, xsn_4, mAst_1, mAst_2, mSet_1, mSet_2, bi_0, ↓spwX8_isBoat, spcX8_isBoat, ↓spwX8_isBarge, spcX8_isBarge, ↓spwX8_in, spcX8_in, ↓spwX8_canDrop, spcX8_canDrop, ↓spwX8_holds, spcX8_holds, ↓spwX8_placeOf, spcX8_placeOf, ↓spwX8_leaves, spcX8_leaves, ↓spwX8_ties, spcX8_ties, hi1, hi2, hi3, i1, i2, hW, hT, hP]
      try simp only [xif_e]
      exact ⟨h16, hpl, fun q => absurd q hc, fun _ => h⟩
  · unfold oDrop at h
    rw [if_pos hi] at h
    refine xgo hG (mb := []) (head := 65) (P := fun _ _ _ _ _ => False) (fun _ _ _ _ _ q => q.elim) (fun fu hfu => ?_)
    simp only [↓callX8_drop_0, ↓callX8_drop_1, ↓callX8_drop_2, ↓callX8_drop_3, ↓callX8_drop_4, ↓callX8_drop_5, ↓callX8_drop_6, ↓callX8_drop_7, ki_0, ki_1, ki_2, ↓ma_33, ↓ma_39, ↓ma_42, ↓mg_33, ↓mg_39, ↓mg_42, misa, ↓ms_39, ↓vm_aload_n, ↓vm_dup2, ↓vm_getfield, ↓vm_goto, ↓vm_iadd, ↓vm_iaload, ↓vm_iastore, ↓vm_iconst, ↓vm_ifCond_eq, ↓vm_ifCond_ne, ↓vm_iload, ↓vm_iload_n, ↓vm_imul, ↓vm_invokestatic, ↓vm_invokevirtual, ↓vm_ireturn, ↓vm_istore, ↓vm_isub, ↓xc_2, ↓xc_3, ↓xc_4, ↓tbX8_drop_0, ↓tbX8_drop_1, ↓tbX8_drop_2, ↓tbX8_drop_5, ↓tbX8_drop_8, ↓tbX8_drop_9, ↓tbX8_drop_10, ↓tbX8_drop_13, ↓tbX8_drop_16, ↓tbX8_drop_17, ↓tbX8_drop_18, ↓tbX8_drop_19, ↓tbX8_drop_22, ↓tbX8_drop_25, ↓tbX8_drop_26, ↓tbX8_drop_29, ↓tbX8_drop_30, ↓tbX8_drop_32, ↓tbX8_drop_33, ↓tbX8_drop_35, ↓tbX8_drop_38, ↓tbX8_drop_39, ↓tbX8_drop_42, ↓tbX8_drop_43, ↓tbX8_drop_44, ↓tbX8_drop_45, ↓tbX8_drop_46, ↓tbX8_drop_49, ↓tbX8_drop_52, ↓tbX8_drop_53, ↓tbX8_drop_56, ↓tbX8_drop_57, ↓tbX8_drop_60, ↓tbX8_drop_63, ↓tbX8_drop_64, ↓tbX8_drop_65, ↓tbX8_drop_66, ↓tbX8_drop_67, ↓tbX8_drop_70, ↓tbX8_drop_72, ↓tbX8_drop_73, ↓tbX8_drop_76, ↓tbX8_drop_77, ↓tbX8_drop_78, ↓tbX8_drop_79, ↓tbX8_drop_80, ↓tbX8_drop_83, ↓tbX8_drop_84, ↓tbX8_drop_85, ↓tbX8_drop_87, ↓tbX8_drop_88, ↓tbX8_drop_89, ↓tbX8_drop_90, ↓tbX8_drop_91, ↓tbX8_drop_92, ↓tbX8_drop_94, ↓tbX8_drop_97, ↓tbX8_drop_98, ↓tbX8_drop_99, ↓tbX8_drop_100, ↓tbX8_drop_101, ↓tbX8_drop_104, ↓tbX8_drop_105, ↓tbX8_drop_106, ↓tbX8_drop_107, ↓tbX8_drop_108, ↓tbX8_drop_109, ↓tbX8_drop_112, ↓tbX8_drop_113, ↓tbX8_drop_116, ↓tbX8_drop_117, ↓tbX8_drop_118, hfu, xstep0, xJ1_hit, xJ1_go, xJ2_hit1, xJ2_hit2, xJ2_go, ↓xif_t, ↓xif_f, seval, ↓xca_eq, ↓xre_l, ↓xre_r, xmask_t, xmask_f, xmask_nil, ↓xst_eq, xX_eq, eI_eq, eMc_eq, eMs_eq, eF_eq, eThr_eq, ↓xS1_mk, ↓xSI_mk, ↓xSR_mk, ↓xLI_0, ↓xLI_s, ↓xLR_0, ↓xLR_s, vRef_ref, vRef_null, vRef_rf, cat_int, cat_ref, cat_null, cat_rf, rf_some, rf_none, rf_null, rf_eq, rf_ref, ref_rf, ref_null, ref_ref, xOk_0, xOk_1, xOk_2r, xOk_2n, xOk_2f, vOpt_rf, vOpt_ref, vOpt_null, List.set_cons_zero, List.set_cons_succ, List.take_succ_cons, List.take_zero, List.drop_succ_cons, List.drop_zero, List.reverse_cons, List.reverse_nil, List.nil_append, List.cons_append, List.append_nil, List.length_cons, List.length_nil, List.map_cons, List.map_nil, List.sum_cons, List.sum_nil, Option.toList_some, Option.toList_none, xRecv_mk, true_and, and_true, true_implies, Nat.reduceAdd, Nat.reduceLeDiff, Nat.zero_le, Nat.le_refl, Nat.add_zero, Nat.zero_add, reduceIte, not_true_eq_false, not_false_eq_true, false_implies, and_self, implies_true, eq_self, Nat.reduceEqDiff, List.cons.injEq, xsn_1, xsn_2, false_and, and_false, or_false, false_or, or_true, true_or, xsn_3, xsn_4, mAst_1, mAst_2, mSet_1, mSet_2, bi_0, ↓spwX8_isBoat, spcX8_isBoat, ↓spwX8_isBarge, spcX8_isBarge, ↓spwX8_in, spcX8_in, ↓spwX8_canDrop, spcX8_canDrop, ↓spwX8_holds, spcX8_holds, ↓spwX8_placeOf, spcX8_placeOf, ↓spwX8_leaves, spcX8_leaves, ↓spwX8_ties, spcX8_ties]
    try simp only [xif_e]
    repeat' (first | with_reducible apply And.intro | with_reducible intro _)
    all_goals grind [bi]
