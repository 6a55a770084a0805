/-! The reference's drop, asking less. -/

def spX8_dropB (aM : Nat → Nat) : xSp mS := (fun av M => (0, 0), fun av M K => ∃ (b : Int32) (g : Int32) (t : Int32), av = [.ref (aM 0), .int b, .int g, .int t] ∧ ((M.1 29 = nI (nBt M) ∧ nBt M ≤ 6) ∧ (M.1 22 = nI (nBg M) ∧ nBg M ≤ 24) ∧ (∀ t : Nat, t < 16 → M.2 18 t < M.2 17 t → ∃ n, M.2 18 t = nI n ∧ n < 5) ∧ (iBt M b → mWk M b.toNatClampNeg ∧ mTk M b.toNatClampNeg ∧ (M.2 34 b.toNatClampNeg = -1 → vp_in (M.2 33 b.toNatClampNeg) 8)) ∧ (iBg M g → mPl M g (mPlc M g) ∧ (iBt M b → M.2 28 g.toNatClampNeg = b → mPlc M g < (M.2 42 b.toNatClampNeg).toNatClampNeg)) ∧ K (rI (oDrop M b g t).1) (oDrop M b g t).2))
theorem spcX8_dropB {av : List Value} {M : mS} {aM : Nat → Nat} : (spX8_dropB aM).1 av M = (0, 0) := rfl
theorem spwX8_dropB {M : mS} {aM : Nat → Nat} {K : xRes → mS → Prop} {b : Int32} {g : Int32} {t : Int32} : (spX8_dropB aM).2 [.ref (aM 0), .int b, .int g, .int t] M K = ((M.1 29 = nI (nBt M) ∧ nBt M ≤ 6) ∧ (M.1 22 = nI (nBg M) ∧ nBg M ≤ 24) ∧ (∀ t : Nat, t < 16 → M.2 18 t < M.2 17 t → ∃ n, M.2 18 t = nI n ∧ n < 5) ∧ (iBt M b → mWk M b.toNatClampNeg ∧ mTk M b.toNatClampNeg ∧ (M.2 34 b.toNatClampNeg = -1 → vp_in (M.2 33 b.toNatClampNeg) 8)) ∧ (iBg M g → mPl M g (mPlc M g) ∧ (iBt M b → M.2 28 g.toNatClampNeg = b → mPlc M g < (M.2 42 b.toNatClampNeg).toNatClampNeg)) ∧ K (rI (oDrop M b g t).1) (oDrop M b g t).2) :=
  propext ⟨fun h => by
    simp only [spX8_dropB] at h
    obtain ⟨_, _, _, e, h⟩ := h
    simp only [List.cons.injEq, Value.int.injEq, Value.ref.injEq, rf_eq, and_true, true_and] at e
    obtain ⟨rfl, rfl, rfl⟩ := e
    exact h, fun h => ⟨_, _, _, rfl, h⟩⟩

set_option maxHeartbeats 4000000 in
set_option maxRecDepth 20000 in
theorem semX8_dropB (l : Launch) (W9 : xWd) (aM : Nat → Nat) (hi : mInj aM) : xSem l W9 (mI aM) yX8_drop wsX8_drop 3 73 (spX8_dropB aM) := by
  refine xSem_of (call := callX8_drop aM) (thrf := fun _ => "") (mI_law hi) (by decide +kernel) rfl ckX8_drop usX8_drop (crX8_drop l W9 aM hi) xThrOK_nil ?_ ?_
  · intro av M KF h
    obtain ⟨b, g, t, rfl, h⟩ := h
    exact ⟨by intro v hv; simp only [List.mem_cons, List.not_mem_nil, or_false] at hv; rcases hv with rfl | rfl | rfl | rfl <;> first | rfl | exact cat_rf, Nat.le_of_ble_eq_true rfl⟩
  intro av M KF h G hG
  obtain ⟨b, g, t, rfl, h⟩ := h
  rw [show (spX8_dropB aM).1 _ M = _ from spcX8_dropB] at hG
  try dsimp only at hG
  change G 0 [some (.ref (aM 0)), some (.int b), some (.int g), some (.int t), none, none] [] M 0 0
  obtain ⟨hb, hg, htd, hB, hGg, h⟩ := h

  have h6 := @in_bt M b hb
  have h7 := @in_bg M g hg
  by_cases hi : ((0 ≤ b ∧ b ≤ M.1 29 - 1) ∧ 0 ≤ g ∧ g ≤ M.1 22 - 1) ∧ 0 ≤ t ∧ t ≤ 1
  · obtain ⟨⟨hi1, hi2⟩, hi3⟩ := hi
    have i1 := h6 hi1.1 hi1.2
    have i2 := h7 hi2.1 hi2.2
    obtain ⟨hW, hT, h33⟩ := hB hi1
    obtain ⟨hP, hpl0⟩ := hGg hi2
    have hpl := hpl0 hi1
    have h16 : M.2 34 b.toNatClampNeg = -1 → vp_in (2 * M.2 33 b.toNatClampNeg + t) 16 := by
      intro q
      obtain ⟨x, hx, e⟩ := vp_in_of (h33 q) (by omega)
      obtain ⟨y, hy, e2⟩ := vp_in_of (in_le 1 (by omega) hi3.1 hi3.2) (by omega)
      rw [e, e2, show (2 : Int32) = nI 2 from rfl, pk_mul, nI_add]
      exact vp_in_nI (by omega) (by omega)
    unfold oDrop at h
    rw [if_neg (fun q => q ⟨⟨hi1, hi2⟩, hi3⟩)] at h
    have h01 := mCdI_01 M b g
    by_cases hc : mCdr M b g t
    · by_cases hr : mCdI M b g = 0
      · rw [if_pos (Or.inr hr)] at h
        refine xgo hG (mb := []) (head := 65) (P := fun _ _ _ _ _ => False) (fun _ _ _ _ _ q => q.elim) (fun fu hfu => ?_)
        simp only [↓callX8_drop_0, ↓callX8_drop_1, ↓callX8_drop_2, ↓callX8_drop_3, ↓callX8_drop_4, ↓callX8_drop_5, ↓callX8_drop_6, ↓callX8_drop_7, ki_0, ki_1, ki_2, ↓ma_33, ↓ma_39, ↓ma_42, ↓mg_33, ↓mg_39, ↓mg_42, misa, ↓ms_39, ↓vm_aload_n, ↓vm_dup2, ↓vm_getfield, ↓vm_goto, ↓vm_iadd, ↓vm_iaload, ↓vm_iastore, ↓vm_iconst, ↓vm_ifCond_eq, ↓vm_ifCond_ne, ↓vm_iload, ↓vm_iload_n, ↓vm_imul, ↓vm_invokestatic, ↓vm_invokevirtual, ↓vm_ireturn, ↓vm_istore, ↓vm_isub, ↓xc_2, ↓xc_3, ↓xc_4, ↓tbX8_drop_0, ↓tbX8_drop_1, ↓tbX8_drop_2, ↓tbX8_drop_5, ↓tbX8_drop_8, ↓tbX8_drop_9, ↓tbX8_drop_10, ↓tbX8_drop_13, ↓tbX8_drop_16, ↓tbX8_drop_17, ↓tbX8_drop_18, ↓tbX8_drop_19, ↓tbX8_drop_22, ↓tbX8_drop_25, ↓tbX8_drop_26, ↓tbX8_drop_29, ↓tbX8_drop_30, ↓tbX8_drop_32, ↓tbX8_drop_33, ↓tbX8_drop_35, ↓tbX8_drop_38, ↓tbX8_drop_39, ↓tbX8_drop_42, ↓tbX8_drop_43, ↓tbX8_drop_44, ↓tbX8_drop_45, ↓tbX8_drop_46, ↓tbX8_drop_49, ↓tbX8_drop_52, ↓tbX8_drop_53, ↓tbX8_drop_56, ↓tbX8_drop_57, ↓tbX8_drop_60, ↓tbX8_drop_63, ↓tbX8_drop_64, ↓tbX8_drop_65, ↓tbX8_drop_66, ↓tbX8_drop_67, ↓tbX8_drop_70, ↓tbX8_drop_72, ↓tbX8_drop_73, ↓tbX8_drop_76, ↓tbX8_drop_77, ↓tbX8_drop_78, ↓tbX8_drop_79, ↓tbX8_drop_80, ↓tbX8_drop_83, ↓tbX8_drop_84, ↓tbX8_drop_85, ↓tbX8_drop_87, ↓tbX8_drop_88, ↓tbX8_drop_89, ↓tbX8_drop_90, ↓tbX8_drop_91, ↓tbX8_drop_92, ↓tbX8_drop_94, ↓tbX8_drop_97, ↓tbX8_drop_98, ↓tbX8_drop_99, ↓tbX8_drop_100, ↓tbX8_drop_101, ↓tbX8_drop_104, ↓tbX8_drop_105, ↓tbX8_drop_106, ↓tbX8_drop_107, ↓tbX8_drop_108, ↓tbX8_drop_109, ↓tbX8_drop_112, ↓tbX8_drop_113, ↓tbX8_drop_116, ↓tbX8_drop_117, ↓tbX8_drop_118, hfu, xstep0, xJ1_hit, xJ1_go, xJ2_hit1, xJ2_hit2, xJ2_go, ↓xif_t, ↓xif_f, seval, ↓xca_eq, ↓xre_l, ↓xre_r, xmask_t, xmask_f, xmask_nil, ↓xst_eq, xX_eq, eI_eq, eMc_eq, eMs_eq, eF_eq, eThr_eq, ↓xS1_mk, ↓xSI_mk, ↓xSR_mk, ↓xLI_0, ↓xLI_s, ↓xLR_0, ↓xLR_s, vRef_ref, vRef_null, vRef_rf, cat_int, cat_ref, cat_null, cat_rf, rf_some, rf_none, rf_null, rf_eq, rf_ref, ref_rf, ref_null, ref_ref, xOk_0, xOk_1, xOk_2r, xOk_2n, xOk_2f, vOpt_rf, vOpt_ref, vOpt_null, List.set_cons_zero, List.set_cons_succ, List.take_succ_cons, List.take_zero, List.drop_succ_cons, List.drop_zero, List.reverse_cons, List.reverse_nil, List.nil_append, List.cons_append, List.append_nil, List.length_cons, List.length_nil, List.map_cons, List.map_nil, List.sum_cons, List.sum_nil, Option.toList_some, Option.toList_none, xRecv_mk, true_and, and_true, true_implies, Nat.reduceAdd, Nat.reduceLeDiff, Nat.zero_le, Nat.le_refl, Nat.add_zero, Nat.zero_add, reduceIte, not_true_eq_false, not_false_eq_true, false_implies, and_self, implies_true, eq_self, Nat.reduceEqDiff, List.cons.injEq, xsn_1, xsn_2, false_and, and_false, or_false, false_or, or_true, true_or, xsn_3, xsn_4, mAst_1, mAst_2, mSet_1, mSet_2, bi_0, ↓spwX8_isBoat, spcX8_isBoat, ↓spwX8_isBarge, spcX8_isBarge, ↓spwX8_in, spcX8_in, ↓spwX8_canDrop, spcX8_canDrop, ↓spwX8_holds, spcX8_holds, ↓spwX8_placeOf, spcX8_placeOf, ↓spwX8_leaves, spcX8_leaves, ↓spwX8_ties, spcX8_ties, hi1, hi2, hi3, i1, i2, hW, hT, hP, hr]
        try simp only [xif_e]
        exact ⟨h16, hpl, fun _ => h, fun q => absurd hc q⟩
      · have hr1 := h01.resolve_left hr
        rw [if_neg (fun q => q.elim (fun z => z hc) hr)] at h
        obtain ⟨w, hw, rfl⟩ := vp_in_of i1 (by omega)
        have hcd := hc
        obtain ⟨c1, c2, c3⟩ := hc
        generalize hp0 : mPlc M g = p at *
        have h4 := hpl c2
        have h3 := h16 c1
        rw [ix_nI (show w < 1000 by omega)] at *
        obtain ⟨n, hn, hn12, ht⟩ := hT
        rw [hn, ix_nI (show n < 1000 by omega)] at h h4
        generalize hu : (2 * M.2 33 w + t) = u at *
        obtain ⟨x, hx, rfl⟩ := vp_in_of h3 (by omega)
        rw [ix_nI (show x < 1000 by omega)] at c3
        obtain ⟨y, hy, hy5⟩ := htd x hx c3
        have hmp : mPl (mSet M 0 0) g p := hP
        have hmp2 : mPlc (mSet M 0 0) g = p := hp0
        have q1 : (mLv (mAst (mSet M 0 0) 39 w (M.2 39 w + nI (n - p))) w p n).2 33 w = M.2 33 w := mLv_at (by omega) (by omega)
        have q2 : (mLv (mAst (mSet M 0 0) 39 w (M.2 39 w + nI (n - p))) w p n).2 18 x = nI y := by rw [mLv_at (by omega) (by omega)]; exact hy
        have c65 : ∀ lv st S cs ss, (lv = [some (.ref (aM 0)), some (.int (nI w)), some (.int g), some (.int t), none, none] ∧ st = [] ∧ mSet M 0 0 = S ∧ cs = 0 ∧ ss = 0) → G 65 lv st S cs ss := by
          rintro lv st S cs ss ⟨rfl, rfl, rfl, rfl, (rfl)⟩
          refine xgo0 hG (fun fu hfu => ?_)
          simp only [↓callX8_drop_0, ↓callX8_drop_1, ↓callX8_drop_2, ↓callX8_drop_3, ↓callX8_drop_4, ↓callX8_drop_5, ↓callX8_drop_6, ↓callX8_drop_7, ki_0, ki_1, ki_2, ↓ma_33, ↓ma_39, ↓ma_42, ↓mg_33, ↓mg_39, ↓mg_42, misa, ↓ms_39, ↓vm_aload_n, ↓vm_dup2, ↓vm_getfield, ↓vm_goto, ↓vm_iadd, ↓vm_iaload, ↓vm_iastore, ↓vm_iconst, ↓vm_ifCond_eq, ↓vm_ifCond_ne, ↓vm_iload, ↓vm_iload_n, ↓vm_imul, ↓vm_invokestatic, ↓vm_invokevirtual, ↓vm_ireturn, ↓vm_istore, ↓vm_isub, ↓xc_2, ↓xc_3, ↓xc_4, ↓tbX8_drop_0, ↓tbX8_drop_1, ↓tbX8_drop_2, ↓tbX8_drop_5, ↓tbX8_drop_8, ↓tbX8_drop_9, ↓tbX8_drop_10, ↓tbX8_drop_13, ↓tbX8_drop_16, ↓tbX8_drop_17, ↓tbX8_drop_18, ↓tbX8_drop_19, ↓tbX8_drop_22, ↓tbX8_drop_25, ↓tbX8_drop_26, ↓tbX8_drop_29, ↓tbX8_drop_30, ↓tbX8_drop_32, ↓tbX8_drop_33, ↓tbX8_drop_35, ↓tbX8_drop_38, ↓tbX8_drop_39, ↓tbX8_drop_42, ↓tbX8_drop_43, ↓tbX8_drop_44, ↓tbX8_drop_45, ↓tbX8_drop_46, ↓tbX8_drop_49, ↓tbX8_drop_52, ↓tbX8_drop_53, ↓tbX8_drop_56, ↓tbX8_drop_57, ↓tbX8_drop_60, ↓tbX8_drop_63, ↓tbX8_drop_64, ↓tbX8_drop_65, ↓tbX8_drop_66, ↓tbX8_drop_67, ↓tbX8_drop_70, ↓tbX8_drop_72, ↓tbX8_drop_73, ↓tbX8_drop_76, ↓tbX8_drop_77, ↓tbX8_drop_78, ↓tbX8_drop_79, ↓tbX8_drop_80, ↓tbX8_drop_83, ↓tbX8_drop_84, ↓tbX8_drop_85, ↓tbX8_drop_87, ↓tbX8_drop_88, ↓tbX8_drop_89, ↓tbX8_drop_90, ↓tbX8_drop_91, ↓tbX8_drop_92, ↓tbX8_drop_94, ↓tbX8_drop_97, ↓tbX8_drop_98, ↓tbX8_drop_99, ↓tbX8_drop_100, ↓tbX8_drop_101, ↓tbX8_drop_104, ↓tbX8_drop_105, ↓tbX8_drop_106, ↓tbX8_drop_107, ↓tbX8_drop_108, ↓tbX8_drop_109, ↓tbX8_drop_112, ↓tbX8_drop_113, ↓tbX8_drop_116, ↓tbX8_drop_117, ↓tbX8_drop_118, hfu, xstep0, xJ1_hit, xJ1_go, xJ2_hit1, xJ2_hit2, xJ2_go, ↓xif_t, ↓xif_f, seval, ↓xca_eq, ↓xre_l, ↓xre_r, xmask_t, xmask_f, xmask_nil, ↓xst_eq, xX_eq, eI_eq, eMc_eq, eMs_eq, eF_eq, eThr_eq, ↓xS1_mk, ↓xSI_mk, ↓xSR_mk, ↓xLI_0, ↓xLI_s, ↓xLR_0, ↓xLR_s, vRef_ref, vRef_null, vRef_rf, cat_int, cat_ref, cat_null, cat_rf, rf_some, rf_none, rf_null, rf_eq, rf_ref, ref_rf, ref_null, ref_ref, xOk_0, xOk_1, xOk_2r, xOk_2n, xOk_2f, vOpt_rf, vOpt_ref, vOpt_null, List.set_cons_zero, List.set_cons_succ, List.take_succ_cons, List.take_zero, List.drop_succ_cons, List.drop_zero, List.reverse_cons, List.reverse_nil, List.nil_append, List.cons_append, List.append_nil, List.length_cons, List.length_nil, List.map_cons, List.map_nil, List.sum_cons, List.sum_nil, Option.toList_some, Option.toList_none, xRecv_mk, true_and, and_true, true_implies, Nat.reduceAdd, Nat.reduceLeDiff, Nat.zero_le, Nat.le_refl, Nat.add_zero, Nat.zero_add, reduceIte, not_true_eq_false, not_false_eq_true, false_implies, and_self, implies_true, eq_self, Nat.reduceEqDiff, List.cons.injEq, xsn_1, xsn_2, false_and, and_false, or_false, false_or, or_true, true_or, xsn_3, xsn_4, mAst_1, mAst_2, mSet_1, mSet_2, bi_0, ↓spwX8_isBoat, spcX8_isBoat, ↓spwX8_isBarge, spcX8_isBarge, ↓spwX8_in, spcX8_in, ↓spwX8_canDrop, spcX8_canDrop, ↓spwX8_holds, spcX8_holds, ↓spwX8_placeOf, spcX8_placeOf, ↓spwX8_leaves, spcX8_leaves, ↓spwX8_ties, spcX8_ties, i1, i2, hmp, hmp2, hn, ix_nI (show w < 1000 by omega), pk_sub (show p ≤ n by omega)]
          try simp only [xif_e]
          refine ⟨w, p, n, rfl, hw, rfl, hn, h4, hn12, ?_⟩
          simp only [q1, hu, h3, ix_nI (show x < 1000 by omega), q2, m5_nI, add_nI, xin_nI (show 5 * x + y < 80 by omega) (by omega)]
          refine ⟨trivial, trivial, ?_⟩
          have q3 : (mTies (mLv (mAst (mSet M 0 0) 39 w (M.2 39 w + nI (n - p))) w p n) g (nI x)).2 42 w = nI (n - 1) := by
            simp only [mTies, mAst_2]
            simp [mLv_42]
          rw [q3]
          exact h
        refine xgo hG (mb := [true, true, true, true, false, false]) c65 (pc := 0) (fun fu hfu => ?_)
        simp only [↓callX8_drop_0, ↓callX8_drop_1, ↓callX8_drop_2, ↓callX8_drop_3, ↓callX8_drop_4, ↓callX8_drop_5, ↓callX8_drop_6, ↓callX8_drop_7, ki_0, ki_1, ki_2, ↓ma_33, ↓ma_39, ↓ma_42, ↓mg_33, ↓mg_39, ↓mg_42, misa, ↓ms_39, ↓vm_aload_n, ↓vm_dup2, ↓vm_getfield, ↓vm_goto, ↓vm_iadd, ↓vm_iaload, ↓vm_iastore, ↓vm_iconst, ↓vm_ifCond_eq, ↓vm_ifCond_ne, ↓vm_iload, ↓vm_iload_n, ↓vm_imul, ↓vm_invokestatic, ↓vm_invokevirtual, ↓vm_ireturn, ↓vm_istore, ↓vm_isub, ↓xc_2, ↓xc_3, ↓xc_4, ↓tbX8_drop_0, ↓tbX8_drop_1, ↓tbX8_drop_2, ↓tbX8_drop_5, ↓tbX8_drop_8, ↓tbX8_drop_9, ↓tbX8_drop_10, ↓tbX8_drop_13, ↓tbX8_drop_16, ↓tbX8_drop_17, ↓tbX8_drop_18, ↓tbX8_drop_19, ↓tbX8_drop_22, ↓tbX8_drop_25, ↓tbX8_drop_26, ↓tbX8_drop_29, ↓tbX8_drop_30, ↓tbX8_drop_32, ↓tbX8_drop_33, ↓tbX8_drop_35, ↓tbX8_drop_38, ↓tbX8_drop_39, ↓tbX8_drop_42, ↓tbX8_drop_43, ↓tbX8_drop_44, ↓tbX8_drop_45, ↓tbX8_drop_46, ↓tbX8_drop_49, ↓tbX8_drop_52, ↓tbX8_drop_53, ↓tbX8_drop_56, ↓tbX8_drop_57, ↓tbX8_drop_60, ↓tbX8_drop_63, ↓tbX8_drop_64, ↓tbX8_drop_65, ↓tbX8_drop_66, ↓tbX8_drop_67, ↓tbX8_drop_70, ↓tbX8_drop_72, ↓tbX8_drop_73, ↓tbX8_drop_76, ↓tbX8_drop_77, ↓tbX8_drop_78, ↓tbX8_drop_79, ↓tbX8_drop_80, ↓tbX8_drop_83, ↓tbX8_drop_84, ↓tbX8_drop_85, ↓tbX8_drop_87, ↓tbX8_drop_88, ↓tbX8_drop_89, ↓tbX8_drop_90, ↓tbX8_drop_91, ↓tbX8_drop_92, ↓tbX8_drop_94, ↓tbX8_drop_97, ↓tbX8_drop_98, ↓tbX8_drop_99, ↓tbX8_drop_100, ↓tbX8_drop_101, ↓tbX8_drop_104, ↓tbX8_drop_105, ↓tbX8_drop_106, ↓tbX8_drop_107, ↓tbX8_drop_108, ↓tbX8_drop_109, ↓tbX8_drop_112, ↓tbX8_drop_113, ↓tbX8_drop_116, ↓tbX8_drop_117, ↓tbX8_drop_118, hfu, xstep0, xJ1_hit, xJ1_go, xJ2_hit1, xJ2_hit2, xJ2_go, ↓xif_t, ↓xif_f, seval, ↓xca_eq, ↓xre_l, ↓xre_r, xmask_t, xmask_f, xmask_nil, ↓xst_eq, xX_eq, eI_eq, eMc_eq, eMs_eq, eF_eq, eThr_eq, ↓xS1_mk, ↓xSI_mk, ↓xSR_mk, ↓xLI_0, ↓xLI_s, ↓xLR_0, ↓xLR_s, vRef_ref, vRef_null, vRef_rf, cat_int, cat_ref, cat_null, cat_rf, rf_some, rf_none, rf_null, rf_eq, rf_ref, ref_rf, ref_null, ref_ref, xOk_0, xOk_1, xOk_2r, xOk_2n, xOk_2f, vOpt_rf, vOpt_ref, vOpt_null, List.set_cons_zero, List.set_cons_succ, List.take_succ_cons, List.take_zero, List.drop_succ_cons, List.drop_zero, List.reverse_cons, List.reverse_nil, List.nil_append, List.cons_append, List.append_nil, List.length_cons, List.length_nil, List.map_cons, List.map_nil, List.sum_cons, List.sum_nil, Option.toList_some, Option.toList_none, xRecv_mk, true_and, and_true, true_implies, Nat.reduceAdd, Nat.reduceLeDiff, Nat.zero_le, Nat.le_refl, Nat.add_zero, Nat.zero_add, reduceIte, not_true_eq_false, not_false_eq_true, false_implies, and_self, implies_true, eq_self, Nat.reduceEqDiff, List.cons.injEq, xsn_1, xsn_2, false_and, and_false, or_false, false_or, or_true, true_or, xsn_3, xsn_4, mAst_1, mAst_2, mSet_1, mSet_2, bi_0, ↓spwX8_isBoat, spcX8_isBoat, ↓spwX8_isBarge, spcX8_isBarge, ↓spwX8_in, spcX8_in, ↓spwX8_canDrop, spcX8_canDrop, ↓spwX8_holds, spcX8_holds, ↓spwX8_placeOf, spcX8_placeOf, ↓spwX8_leaves, spcX8_leaves, ↓spwX8_ties, spcX8_ties, hi1, hi2, hi3, i1, i2, hW, hP, hp0, hr1, ix_nI (show w < 1000 by omega)]
        try simp only [xif_e]
        exact ⟨⟨n, hn, hn12, ht⟩, fun q => by rw [hu]; exact h3, fun _ => by rw [hn, ix_nI (by omega)]; exact h4, fun q => absurd hcd q⟩
    · have hc2 := hc
      unfold mCdr at hc2
      rw [if_pos (Or.inl hc2)] at h
      refine xgo hG (mb := []) (head := 65) (P := fun _ _ _ _ _ => False) (fun _ _ _ _ _ q => q.elim) (fun fu hfu => ?_)
      simp only [↓callX8_drop_0, ↓callX8_drop_1, ↓callX8_drop_2, ↓callX8_drop_3, ↓callX8_drop_4, ↓callX8_drop_5, ↓callX8_drop_6, ↓callX8_drop_7, ki_0, ki_1, ki_2, ↓ma_33, ↓ma_39, ↓ma_42, ↓mg_33, ↓mg_39, ↓mg_42, misa, ↓ms_39, ↓vm_aload_n, ↓vm_dup2, ↓vm_getfield, ↓vm_goto, ↓vm_iadd, ↓vm_iaload, ↓vm_iastore, ↓vm_iconst, ↓vm_ifCond_eq, ↓vm_ifCond_ne, ↓vm_iload, ↓vm_iload_n, ↓vm_imul, ↓vm_invokestatic, ↓vm_invokevirtual, ↓vm_ireturn, ↓vm_istore, ↓vm_isub, ↓xc_2, ↓xc_3, ↓xc_4, ↓tbX8_drop_0, ↓tbX8_drop_1, ↓tbX8_drop_2, ↓tbX8_drop_5, ↓tbX8_drop_8, ↓tbX8_drop_9, ↓tbX8_drop_10, ↓tbX8_drop_13, ↓tbX8_drop_16, ↓tbX8_drop_17, ↓tbX8_drop_18, ↓tbX8_drop_19, ↓tbX8_drop_22, ↓tbX8_drop_25, ↓tbX8_drop_26, ↓tbX8_drop_29, ↓tbX8_drop_30, ↓tbX8_drop_32, ↓tbX8_drop_33, ↓tbX8_drop_35, ↓tbX8_drop_38, ↓tbX8_drop_39, ↓tbX8_drop_42, ↓tbX8_drop_43, ↓tbX8_drop_44, ↓tbX8_drop_45, ↓tbX8_drop_46, ↓tbX8_drop_49, ↓tbX8_drop_52, ↓tbX8_drop_53, ↓tbX8_drop_56, ↓tbX8_drop_57, ↓tbX8_drop_60, ↓tbX8_drop_63, ↓tbX8_drop_64, ↓tbX8_drop_65, ↓tbX8_drop_66, ↓tbX8_drop_67, ↓tbX8_drop_70, ↓tbX8_drop_72, ↓tbX8_drop_73, ↓tbX8_drop_76, ↓tbX8_drop_77, ↓tbX8_drop_78, ↓tbX8_drop_79, ↓tbX8_drop_80, ↓tbX8_drop_83, ↓tbX8_drop_84, ↓tbX8_drop_85, ↓tbX8_drop_87, ↓tbX8_drop_88, ↓tbX8_drop_89, ↓tbX8_drop_90, ↓tbX8_drop_91, ↓tbX8_drop_92, ↓tbX8_drop_94, ↓tbX8_drop_97, ↓tbX8_drop_98, ↓tbX8_drop_99, ↓tbX8_drop_100, ↓tbX8_drop_101, ↓tbX8_drop_104, ↓tbX8_drop_105, ↓tbX8_drop_106, ↓tbX8_drop_107, ↓tbX8_drop_108, ↓tbX8_drop_109, ↓tbX8_drop_112, ↓tbX8_drop_113, ↓tbX8_drop_116, ↓tbX8_drop_117, ↓tbX8_drop_118, hfu, xstep0, xJ1_hit, xJ1_go, xJ2_hit1, xJ2_hit2, xJ2_go, ↓xif_t, ↓xif_f, seval, ↓xca_eq, ↓xre_l, ↓xre_r, xmask_t, xmask_f, xmask_nil, ↓xst_eq, xX_eq, eI_eq, eMc_eq, eMs_eq, eF_eq, eThr_eq, ↓xS1_mk, ↓xSI_mk, ↓xSR_mk, ↓xLI_0, ↓xLI_s, ↓xLR_0, ↓xLR_s, vRef_ref, vRef_null, vRef_rf, cat_int, cat_ref, cat_null, cat_rf, rf_some, rf_none, rf_null, rf_eq, rf_ref, ref_rf, ref_null, ref_ref, xOk_0, xOk_1, xOk_2r, xOk_2n, xOk_2f, vOpt_rf, vOpt_ref, vOpt_null, List.set_cons_zero, List.set_cons_succ, List.take_succ_cons, List.take_zero, List.drop_succ_cons, List.drop_zero, List.reverse_cons, List.reverse_nil, List.nil_append, List.cons_append, List.append_nil, List.length_cons, List.length_nil, List.map_cons, List.map_nil, List.sum_cons, List.sum_nil, Option.toList_some, Option.toList_none, xRecv_mk, true_and, and_true, true_implies, Nat.reduceAdd, Nat.reduceLeDiff, Nat.zero_le, Nat.le_refl, Nat.add_zero, Nat.zero_add, reduceIte, not_true_eq_false, not_false_eq_true, false_implies, and_self, implies_true, eq_self, Nat.reduceEqDiff, List.cons.injEq, xsn_1, xsn_2, false_and, and_false, or_false, false_or, or_true, true_or, xsn_3, xsn_4, mAst_1, mAst_2, mSet_1, mSet_2, bi_0, ↓spwX8_isBoat, spcX8_isBoat, ↓spwX8_isBarge, spcX8_isBarge, ↓spwX8_in, spcX8_in, ↓spwX8_canDrop, spcX8_canDrop, ↓spwX8_holds, spcX8_holds, ↓spwX8_placeOf, spcX8_placeOf, ↓spwX8_leaves, spcX8_leaves, ↓spwX8_ties, spcX8_ties, hi1, hi2, hi3, i1, i2, hW, hT, hP]
      try simp only [xif_e]
      exact ⟨h16, hpl, fun q => absurd q hc, fun _ => h⟩
  · unfold oDrop at h
    rw [if_pos hi] at h
    refine xgo hG (mb := []) (head := 65) (P := fun _ _ _ _ _ => False) (fun _ _ _ _ _ q => q.elim) (fun fu hfu => ?_)
    simp only [↓callX8_drop_0, ↓callX8_drop_1, ↓callX8_drop_2, ↓callX8_drop_3, ↓callX8_drop_4, ↓callX8_drop_5, ↓callX8_drop_6, ↓callX8_drop_7, ki_0, ki_1, ki_2, ↓ma_33, ↓ma_39, ↓ma_42, ↓mg_33, ↓mg_39, ↓mg_42, misa, ↓ms_39, ↓vm_aload_n, ↓vm_dup2, ↓vm_getfield, ↓vm_goto, ↓vm_iadd, ↓vm_iaload, ↓vm_iastore, ↓vm_iconst, ↓vm_ifCond_eq, ↓vm_ifCond_ne, ↓vm_iload, ↓vm_iload_n, ↓vm_imul, ↓vm_invokestatic, ↓vm_invokevirtual, ↓vm_ireturn, ↓vm_istore, ↓vm_isub, ↓xc_2, ↓xc_3, ↓xc_4, ↓tbX8_drop_0, ↓tbX8_drop_1, ↓tbX8_drop_2, ↓tbX8_drop_5, ↓tbX8_drop_8, ↓tbX8_drop_9, ↓tbX8_drop_10, ↓tbX8_drop_13, ↓tbX8_drop_16, ↓tbX8_drop_17, ↓tbX8_drop_18, ↓tbX8_drop_19, ↓tbX8_drop_22, ↓tbX8_drop_25, ↓tbX8_drop_26, ↓tbX8_drop_29, ↓tbX8_drop_30, ↓tbX8_drop_32, ↓tbX8_drop_33, ↓tbX8_drop_35, ↓tbX8_drop_38, ↓tbX8_drop_39, ↓tbX8_drop_42, ↓tbX8_drop_43, ↓tbX8_drop_44, ↓tbX8_drop_45, ↓tbX8_drop_46, ↓tbX8_drop_49, ↓tbX8_drop_52, ↓tbX8_drop_53, ↓tbX8_drop_56, ↓tbX8_drop_57, ↓tbX8_drop_60, ↓tbX8_drop_63, ↓tbX8_drop_64, ↓tbX8_drop_65, ↓tbX8_drop_66, ↓tbX8_drop_67, ↓tbX8_drop_70, ↓tbX8_drop_72, ↓tbX8_drop_73, ↓tbX8_drop_76, ↓tbX8_drop_77, ↓tbX8_drop_78, ↓tbX8_drop_79, ↓tbX8_drop_80, ↓tbX8_drop_83, ↓tbX8_drop_84, ↓tbX8_drop_85, ↓tbX8_drop_87, ↓tbX8_drop_88, ↓tbX8_drop_89, ↓tbX8_drop_90, ↓tbX8_drop_91, ↓tbX8_drop_92, ↓tbX8_drop_94, ↓tbX8_drop_97, ↓tbX8_drop_98, ↓tbX8_drop_99, ↓tbX8_drop_100, ↓tbX8_drop_101, ↓tbX8_drop_104, ↓tbX8_drop_105, ↓tbX8_drop_106, ↓tbX8_drop_107, ↓tbX8_drop_108, ↓tbX8_drop_109, ↓tbX8_drop_112, ↓tbX8_drop_113, ↓tbX8_drop_116, ↓tbX8_drop_117, ↓tbX8_drop_118, hfu, xstep0, xJ1_hit, xJ1_go, xJ2_hit1, xJ2_hit2, xJ2_go, ↓xif_t, ↓xif_f, seval, ↓xca_eq, ↓xre_l, ↓xre_r, xmask_t, xmask_f, xmask_nil, ↓xst_eq, xX_eq, eI_eq, eMc_eq, eMs_eq, eF_eq, eThr_eq, ↓xS1_mk, ↓xSI_mk, ↓xSR_mk, ↓xLI_0, ↓xLI_s, ↓xLR_0, ↓xLR_s, vRef_ref, vRef_null, vRef_rf, cat_int, cat_ref, cat_null, cat_rf, rf_some, rf_none, rf_null, rf_eq, rf_ref, ref_rf, ref_null, ref_ref, xOk_0, xOk_1, xOk_2r, xOk_2n, xOk_2f, vOpt_rf, vOpt_ref, vOpt_null, List.set_cons_zero, List.set_cons_succ, List.take_succ_cons, List.take_zero, List.drop_succ_cons, List.drop_zero, List.reverse_cons, List.reverse_nil, List.nil_append, List.cons_append, List.append_nil, List.length_cons, List.length_nil, List.map_cons, List.map_nil, List.sum_cons, List.sum_nil, Option.toList_some, Option.toList_none, xRecv_mk, true_and, and_true, true_implies, Nat.reduceAdd, Nat.reduceLeDiff, Nat.zero_le, Nat.le_refl, Nat.add_zero, Nat.zero_add, reduceIte, not_true_eq_false, not_false_eq_true, false_implies, and_self, implies_true, eq_self, Nat.reduceEqDiff, List.cons.injEq, xsn_1, xsn_2, false_and, and_false, or_false, false_or, or_true, true_or, xsn_3, xsn_4, mAst_1, mAst_2, mSet_1, mSet_2, bi_0, ↓spwX8_isBoat, spcX8_isBoat, ↓spwX8_isBarge, spcX8_isBarge, ↓spwX8_in, spcX8_in, ↓spwX8_canDrop, spcX8_canDrop, ↓spwX8_holds, spcX8_holds, ↓spwX8_placeOf, spcX8_placeOf, ↓spwX8_leaves, spcX8_leaves, ↓spwX8_ties, spcX8_ties]
    try simp only [xif_e]
    repeat' (first | with_reducible apply And.intro | with_reducible intro _)
    all_goals grind [bi]

theorem N_dropB {aM : Nat → Nat} {M : mS} {b g t : Int32} {K : xRes → mS → Prop} (hi : iAll M) (hk : K (rI (oDrop M b g t).1) (oDrop M b g t).2) : (spX8_dropB aM).2 [.ref (aM 0), .int b, .int g, .int t] M K := by
  have hb29 := hi.1.1.2
  have hb22 := hi.1.2.1.2
  rw [spwX8_dropB]
  exact ⟨hi.1.1, hi.1.2.1, iAll_rm hi, fun h => by
    obtain ⟨x, hx, rfl⟩ := iAll_bt hi h
    rw [ix_nI (by omega)]
    exact ⟨(iAll_tk hi hx).2, (iAll_tk hi hx).1, fun h2 => iAll_p8 hi hx h2⟩, fun h => ⟨iAll_plb hi h, fun hb h2 => by
    obtain ⟨x, hx, rfl⟩ := iAll_bg hi h
    obtain ⟨v, hv, rfl⟩ := iAll_bt hi hb
    rw [ix_nI (by omega)] at h2
    obtain ⟨p, -, e, q⟩ := iAll_pl hi hx
    rw [e, ix_nI (by omega)]
    rcases q with ⟨z, -⟩ | ⟨w, hw, ew, hp⟩
    · rw [z] at h2; exact absurd h2.symm (nI_m1 (by omega))
    · rw [ew, eq_nI (by omega) (by omega)] at h2
      rw [← h2]
      exact hp⟩, hk⟩
