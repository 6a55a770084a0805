/-! The class: the cause for which a boat waits; where a barge is; hours waited. -/
noncomputable def cCs (S : cS) (o L b s : Nat) : Int32 :=
  if ¬ cErl S o b s = 0 then cErl S o b s
  else if cMt S L s b (lCn S L) = true then 7
  else if cFi S s 604 = 0 ∨ (cBz S L (cFi S s 600) (lCn S L) = false ∧ cFst S o L s = some b) then 0 else 8

def tbX7_causeFor : List (Nat × xHint) := [(0, .aload_n 0, 0, 0, 0, []), (1, .aload_n 1, 1, 0, 0, []), (2, .aload_n 2, 2, 0, 0, []), (3, .invokevirtual 471, 0, 3, 8, []), (6, .istore_n 3, 3, 0, 0, []), (7, .iload_n 3, 3, 0, 0, []), (8, .ifCond .eq 5, 13, 0, 0, []), (11, .iload_n 3, 3, 0, 0, []), (12, .ireturn, 0, 0, 0, []), (13, .aload_n 0, 0, 0, 0, []), (14, .aload_n 2, 2, 0, 0, []), (15, .aload_n 1, 1, 0, 0, []), (16, .invokevirtual 474, 1, 3, 8, []), (19, .ifCond .eq 6, 25, 0, 0, []), (22, .bipush 7, 0, 0, 0, []), (24, .ireturn, 0, 0, 0, []), (25, .aload_n 2, 2, 0, 0, []), (26, .getfield 442, 6, 4, 1, []), (29, .ifCond .eq 20, 49, 0, 0, []), (32, .aload_n 0, 0, 0, 0, []), (33, .aload_n 2, 2, 0, 0, []), (34, .invokevirtual 429, 2, 2, 8, []), (37, .ifCond .ne 16, 53, 0, 0, []), (40, .aload_n 0, 0, 0, 0, []), (41, .aload_n 2, 2, 0, 0, []), (42, .invokevirtual 478, 3, 2, 8, []), (45, .aload_n 1, 1, 0, 0, []), (46, .if_acmp .ne 7, 53, 0, 0, []), (49, .iconst 1, 0, 0, 0, []), (50, .goto 4, 54, 0, 0, []), (53, .iconst 0, 0, 0, 0, []), (54, .istore 4, 4, 0, 0, []), (56, .iload 4, 4, 0, 0, []), (58, .ifCond .eq 7, 65, 0, 0, []), (61, .iconst 0, 0, 0, 0, []), (62, .goto 5, 67, 0, 0, []), (65, .bipush 8, 0, 0, 0, []), (67, .ireturn, 0, 0, 0, [])]
def clX7_causeFor : List (Instr × Nat × Nat × Nat) := [(.invokevirtual 471, 0, 3, 8), (.invokevirtual 474, 1, 3, 8), (.invokevirtual 429, 2, 2, 8), (.invokevirtual 478, 3, 2, 8)]
def thX7_causeFor : List (Nat × Nat) := []
theorem ckX7_causeFor : tbX7_causeFor.all (xRow RX7 cX7_causeFor wsX7_causeFor vwCl [6] clX7_causeFor thX7_causeFor 5 (yX7_causeFor.name == "<init>") (some .int)) = true := xRow_q 0xac08100500a70307009904150436030400a7040700a62bde01b62c2a10009aad01b62c2a140099ba01b42cac0710060099da01b62b2c2aac1d0500991d3ed701b62c2b2a 68 (by decide +kernel) (by decide +kernel)
theorem usX7_causeFor : xUse wsX7_causeFor vwCl [6] = true := xUse_g rfl (lw_good lwl_X7_causeFor lwl_X50 (by decide +kernel)) xUse_n
theorem tbX7_causeFor_0 {k : Instr → Nat → Nat → Nat → List Nat → Prop} : xse (xFind tbX7_causeFor 0) k = k (.aload_n 0) 0 0 0 [] := rfl
theorem tbX7_causeFor_1 {k : Instr → Nat → Nat → Nat → List Nat → Prop} : xse (xFind tbX7_causeFor 1) k = k (.aload_n 1) 1 0 0 [] := rfl
theorem tbX7_causeFor_2 {k : Instr → Nat → Nat → Nat → List Nat → Prop} : xse (xFind tbX7_causeFor 2) k = k (.aload_n 2) 2 0 0 [] := rfl
theorem tbX7_causeFor_3 {k : Instr → Nat → Nat → Nat → List Nat → Prop} : xse (xFind tbX7_causeFor 3) k = k (.invokevirtual 471) 0 3 8 [] := rfl
theorem tbX7_causeFor_6 {k : Instr → Nat → Nat → Nat → List Nat → Prop} : xse (xFind tbX7_causeFor 6) k = k (.istore_n 3) 3 0 0 [] := rfl
theorem tbX7_causeFor_7 {k : Instr → Nat → Nat → Nat → List Nat → Prop} : xse (xFind tbX7_causeFor 7) k = k (.iload_n 3) 3 0 0 [] := rfl
theorem tbX7_causeFor_8 {k : Instr → Nat → Nat → Nat → List Nat → Prop} : xse (xFind tbX7_causeFor 8) k = k (.ifCond .eq 5) 13 0 0 [] := rfl
theorem tbX7_causeFor_11 {k : Instr → Nat → Nat → Nat → List Nat → Prop} : xse (xFind tbX7_causeFor 11) k = k (.iload_n 3) 3 0 0 [] := rfl
theorem tbX7_causeFor_12 {k : Instr → Nat → Nat → Nat → List Nat → Prop} : xse (xFind tbX7_causeFor 12) k = k (.ireturn) 0 0 0 [] := rfl
theorem tbX7_causeFor_13 {k : Instr → Nat → Nat → Nat → List Nat → Prop} : xse (xFind tbX7_causeFor 13) k = k (.aload_n 0) 0 0 0 [] := rfl
theorem tbX7_causeFor_14 {k : Instr → Nat → Nat → Nat → List Nat → Prop} : xse (xFind tbX7_causeFor 14) k = k (.aload_n 2) 2 0 0 [] := rfl
theorem tbX7_causeFor_15 {k : Instr → Nat → Nat → Nat → List Nat → Prop} : xse (xFind tbX7_causeFor 15) k = k (.aload_n 1) 1 0 0 [] := rfl
theorem tbX7_causeFor_16 {k : Instr → Nat → Nat → Nat → List Nat → Prop} : xse (xFind tbX7_causeFor 16) k = k (.invokevirtual 474) 1 3 8 [] := rfl
theorem tbX7_causeFor_19 {k : Instr → Nat → Nat → Nat → List Nat → Prop} : xse (xFind tbX7_causeFor 19) k = k (.ifCond .eq 6) 25 0 0 [] := rfl
theorem tbX7_causeFor_22 {k : Instr → Nat → Nat → Nat → List Nat → Prop} : xse (xFind tbX7_causeFor 22) k = k (.bipush 7) 0 0 0 [] := rfl
theorem tbX7_causeFor_24 {k : Instr → Nat → Nat → Nat → List Nat → Prop} : xse (xFind tbX7_causeFor 24) k = k (.ireturn) 0 0 0 [] := rfl
theorem tbX7_causeFor_25 {k : Instr → Nat → Nat → Nat → List Nat → Prop} : xse (xFind tbX7_causeFor 25) k = k (.aload_n 2) 2 0 0 [] := rfl
theorem tbX7_causeFor_26 {k : Instr → Nat → Nat → Nat → List Nat → Prop} : xse (xFind tbX7_causeFor 26) k = k (.getfield 442) 6 4 1 [] := rfl
theorem tbX7_causeFor_29 {k : Instr → Nat → Nat → Nat → List Nat → Prop} : xse (xFind tbX7_causeFor 29) k = k (.ifCond .eq 20) 49 0 0 [] := rfl
theorem tbX7_causeFor_32 {k : Instr → Nat → Nat → Nat → List Nat → Prop} : xse (xFind tbX7_causeFor 32) k = k (.aload_n 0) 0 0 0 [] := rfl
theorem tbX7_causeFor_33 {k : Instr → Nat → Nat → Nat → List Nat → Prop} : xse (xFind tbX7_causeFor 33) k = k (.aload_n 2) 2 0 0 [] := rfl
theorem tbX7_causeFor_34 {k : Instr → Nat → Nat → Nat → List Nat → Prop} : xse (xFind tbX7_causeFor 34) k = k (.invokevirtual 429) 2 2 8 [] := rfl
theorem tbX7_causeFor_37 {k : Instr → Nat → Nat → Nat → List Nat → Prop} : xse (xFind tbX7_causeFor 37) k = k (.ifCond .ne 16) 53 0 0 [] := rfl
theorem tbX7_causeFor_40 {k : Instr → Nat → Nat → Nat → List Nat → Prop} : xse (xFind tbX7_causeFor 40) k = k (.aload_n 0) 0 0 0 [] := rfl
theorem tbX7_causeFor_41 {k : Instr → Nat → Nat → Nat → List Nat → Prop} : xse (xFind tbX7_causeFor 41) k = k (.aload_n 2) 2 0 0 [] := rfl
theorem tbX7_causeFor_42 {k : Instr → Nat → Nat → Nat → List Nat → Prop} : xse (xFind tbX7_causeFor 42) k = k (.invokevirtual 478) 3 2 8 [] := rfl
theorem tbX7_causeFor_45 {k : Instr → Nat → Nat → Nat → List Nat → Prop} : xse (xFind tbX7_causeFor 45) k = k (.aload_n 1) 1 0 0 [] := rfl
theorem tbX7_causeFor_46 {k : Instr → Nat → Nat → Nat → List Nat → Prop} : xse (xFind tbX7_causeFor 46) k = k (.if_acmp .ne 7) 53 0 0 [] := rfl
theorem tbX7_causeFor_49 {k : Instr → Nat → Nat → Nat → List Nat → Prop} : xse (xFind tbX7_causeFor 49) k = k (.iconst 1) 0 0 0 [] := rfl
theorem tbX7_causeFor_50 {k : Instr → Nat → Nat → Nat → List Nat → Prop} : xse (xFind tbX7_causeFor 50) k = k (.goto 4) 54 0 0 [] := rfl
theorem tbX7_causeFor_53 {k : Instr → Nat → Nat → Nat → List Nat → Prop} : xse (xFind tbX7_causeFor 53) k = k (.iconst 0) 0 0 0 [] := rfl
theorem tbX7_causeFor_54 {k : Instr → Nat → Nat → Nat → List Nat → Prop} : xse (xFind tbX7_causeFor 54) k = k (.istore 4) 4 0 0 [] := rfl
theorem tbX7_causeFor_56 {k : Instr → Nat → Nat → Nat → List Nat → Prop} : xse (xFind tbX7_causeFor 56) k = k (.iload 4) 4 0 0 [] := rfl
theorem tbX7_causeFor_58 {k : Instr → Nat → Nat → Nat → List Nat → Prop} : xse (xFind tbX7_causeFor 58) k = k (.ifCond .eq 7) 65 0 0 [] := rfl
theorem tbX7_causeFor_61 {k : Instr → Nat → Nat → Nat → List Nat → Prop} : xse (xFind tbX7_causeFor 61) k = k (.iconst 0) 0 0 0 [] := rfl
theorem tbX7_causeFor_62 {k : Instr → Nat → Nat → Nat → List Nat → Prop} : xse (xFind tbX7_causeFor 62) k = k (.goto 5) 67 0 0 [] := rfl
theorem tbX7_causeFor_65 {k : Instr → Nat → Nat → Nat → List Nat → Prop} : xse (xFind tbX7_causeFor 65) k = k (.bipush 8) 0 0 0 [] := rfl
theorem tbX7_causeFor_67 {k : Instr → Nat → Nat → Nat → List Nat → Prop} : xse (xFind tbX7_causeFor 67) k = k (.ireturn) 0 0 0 [] := rfl

def spX7_causeFor (W9 : xWd) : xSp cS := (fun av S => (0, 0), fun av S K => ∃ (a : Nat) (b : Nat) (s : Nat), av = [.ref a, .ref b, .ref s] ∧ (cK S a = 9 ∧ (cIn S a 800 1 ∧ lAll S (cRf S a 800) 7) ∧ cIn S a 804 1 ∧ bAll S (cRf S a 804) ∧ cK S s = 7 ∧ bOk S b ∧ K (rI (cCs S a (cRf S a 804) b s)) S))
theorem spcX7_causeFor {av : List Value} {S : cS} {W9 : xWd} : (spX7_causeFor W9).1 av S = (0, 0) := rfl
theorem spwX7_causeFor {S : cS} {W9 : xWd} {K : xRes → cS → Prop} {a : Nat} {b : Nat} {s : Nat} : (spX7_causeFor W9).2 [.ref a, .ref b, .ref s] S K = (cK S a = 9 ∧ (cIn S a 800 1 ∧ lAll S (cRf S a 800) 7) ∧ cIn S a 804 1 ∧ bAll S (cRf S a 804) ∧ cK S s = 7 ∧ bOk S b ∧ K (rI (cCs S a (cRf S a 804) b s)) S) :=
  propext ⟨fun h => by
    simp only [spX7_causeFor] at h
    obtain ⟨_, _, _, e, h⟩ := h
    simp only [List.cons.injEq, Value.int.injEq, Value.ref.injEq, rf_eq, and_true, true_and] at e
    obtain ⟨rfl, rfl, rfl⟩ := e
    exact h, fun h => ⟨_, _, _, rfl, h⟩⟩

def callX7_causeFor (W9 : xWd) : Nat → Option (xSp cS) := fun n => match n with | 0 => some (spX7_causeAheadOfMeeting W9) | 1 => some (spX7_meetsIn W9) | 2 => some (spX7_isBusy W9) | 3 => some (spX7_firstInto W9) | _ => none

theorem callX7_causeFor_0 {W9 : xWd} {k : xSp cS → Prop} : xcs (callX7_causeFor W9 0) k = k (spX7_causeAheadOfMeeting W9) := rfl

theorem callX7_causeFor_1 {W9 : xWd} {k : xSp cS → Prop} : xcs (callX7_causeFor W9 1) k = k (spX7_meetsIn W9) := rfl

theorem callX7_causeFor_2 {W9 : xWd} {k : xSp cS → Prop} : xcs (callX7_causeFor W9 2) k = k (spX7_isBusy W9) := rfl

theorem callX7_causeFor_3 {W9 : xWd} {k : xSp cS → Prop} : xcs (callX7_causeFor W9 3) k = k (spX7_firstInto W9) := rfl

theorem crX7_causeFor (l : Launch) (hl : l.stackTraces = false) (W9 : xWd) : xCallsOK l W9 (cI) (callX7_causeFor W9) clX7_causeFor RX7 wsX7_causeFor 7 159 5 := by
  intro E A p e R s m args below meth c hI hF hL X
  exact List.forall_mem_cons.mpr ⟨⟨_, rfl, xCR_V X (by rw [hI]; exact (semX7_causeAheadOfMeeting l hl W9)) gX7_causeFor_X7_causeAheadOfMeeting rfl rfl (by decide +kernel) (by rw [hF, hL]; decide)⟩,
    List.forall_mem_cons.mpr ⟨⟨_, rfl, xCR_V X (by rw [hI]; exact (semX7_meetsIn l hl W9)) gX7_causeFor_X7_meetsIn rfl rfl (by decide +kernel) (by rw [hF, hL]; decide)⟩,
    List.forall_mem_cons.mpr ⟨⟨_, rfl, xCR_V X (by rw [hI]; exact (semX7_isBusy l hl W9)) gX7_causeFor_X7_isBusy rfl rfl (by decide +kernel) (by rw [hF, hL]; decide)⟩,
    List.forall_mem_cons.mpr ⟨⟨_, rfl, xCR_V X (by rw [hI]; exact (semX7_firstInto l hl W9)) gX7_causeFor_X7_firstInto rfl rfl (by decide +kernel) (by rw [hF, hL]; decide)⟩,
    fun _ h => nomatch h⟩⟩⟩⟩

set_option maxHeartbeats 4000000 in
set_option maxRecDepth 20000 in
theorem semX7_causeFor (l : Launch) (hl : l.stackTraces = false) (W9 : xWd) : xSem l W9 (cI) yX7_causeFor wsX7_causeFor 7 159 (spX7_causeFor W9) := by
  refine xSem_of (call := callX7_causeFor W9) (thrf := fun _ => "") cI_law (by decide +kernel) rfl ckX7_causeFor usX7_causeFor (crX7_causeFor l hl W9) xThrOK_nil ?_ ?_
  · intro av S KF h
    obtain ⟨a, b, s, rfl, h⟩ := h
    exact ⟨by intro v hv; simp only [List.mem_cons, List.not_mem_nil, or_false] at hv; rcases hv with rfl | rfl | rfl <;> first | rfl | exact cat_rf, Nat.le_of_ble_eq_true rfl⟩
  intro av S KF h G hG
  obtain ⟨a, b, s, rfl, h⟩ := h
  rw [show (spX7_causeFor W9).1 _ S = _ from spcX7_causeFor] at hG
  try dsimp only at hG
  change G 0 [some (.ref a), some (.ref b), some (.ref s), none, none] [] S 0 0
  obtain ⟨h0, hs, h1, h3, h4, hB, h⟩ := h

  obtain ⟨hs1, hs2⟩ := hs
  have h3a := h3.1
  generalize hL : cRf S a 804 = L at *
  unfold cCs at h
  refine xgo0 hG (fun fu hfu => ?_)
  by_cases c1 : cErl S a b s = 0
  · rw [if_neg (fun q => q c1)] at h
    by_cases c2 : cMt S L s b (lCn S L) = true
    · rw [if_pos c2] at h
      simp only [↓callX7_causeFor_0, ↓callX7_causeFor_1, ↓callX7_causeFor_2, ↓callX7_causeFor_3, ↓cg_6_4, cisa, kb_7, kb_8, kc_7, kc_8, ki_0, ki_1, ↓vm_aload_n, ↓vm_bipush, ↓vm_getfield, ↓vm_goto, ↓vm_iconst, ↓vm_ifCond_eq, ↓vm_ifCond_ne, ↓vm_if_acmp_ne, ↓vm_iload, ↓vm_iload_n, ↓vm_invokevirtual, ↓vm_ireturn, ↓vm_istore, ↓vm_istore_n, ↓xc_2, ↓xc_3, ↓tbX7_causeFor_0, ↓tbX7_causeFor_1, ↓tbX7_causeFor_2, ↓tbX7_causeFor_3, ↓tbX7_causeFor_6, ↓tbX7_causeFor_7, ↓tbX7_causeFor_8, ↓tbX7_causeFor_11, ↓tbX7_causeFor_12, ↓tbX7_causeFor_13, ↓tbX7_causeFor_14, ↓tbX7_causeFor_15, ↓tbX7_causeFor_16, ↓tbX7_causeFor_19, ↓tbX7_causeFor_22, ↓tbX7_causeFor_24, ↓tbX7_causeFor_25, ↓tbX7_causeFor_26, ↓tbX7_causeFor_29, ↓tbX7_causeFor_32, ↓tbX7_causeFor_33, ↓tbX7_causeFor_34, ↓tbX7_causeFor_37, ↓tbX7_causeFor_40, ↓tbX7_causeFor_41, ↓tbX7_causeFor_42, ↓tbX7_causeFor_45, ↓tbX7_causeFor_46, ↓tbX7_causeFor_49, ↓tbX7_causeFor_50, ↓tbX7_causeFor_53, ↓tbX7_causeFor_54, ↓tbX7_causeFor_56, ↓tbX7_causeFor_58, ↓tbX7_causeFor_61, ↓tbX7_causeFor_62, ↓tbX7_causeFor_65, ↓tbX7_causeFor_67, hfu, xstep0, xJ1_hit, xJ1_go, xJ2_hit1, xJ2_hit2, xJ2_go, ↓xif_t, ↓xif_f, seval, ↓xca_eq, ↓xre_l, ↓xre_r, xmask_t, xmask_f, xmask_nil, ↓xst_eq, xX_eq, eI_eq, eMc_eq, eMs_eq, eF_eq, eThr_eq, ↓xS1_mk, ↓xSI_mk, ↓xSR_mk, ↓xLI_0, ↓xLI_s, ↓xLR_0, ↓xLR_s, vRef_ref, vRef_null, vRef_rf, cat_int, cat_ref, cat_null, cat_rf, rf_some, rf_none, rf_null, rf_eq, rf_ref, ref_rf, ref_null, ref_ref, xOk_0, xOk_1, xOk_2r, xOk_2n, xOk_2f, vOpt_rf, vOpt_ref, vOpt_null, List.set_cons_zero, List.set_cons_succ, List.take_succ_cons, List.take_zero, List.drop_succ_cons, List.drop_zero, List.reverse_cons, List.reverse_nil, List.nil_append, List.cons_append, List.append_nil, List.length_cons, List.length_nil, List.map_cons, List.map_nil, List.sum_cons, List.sum_nil, Option.toList_some, Option.toList_none, xRecv_mk, true_and, and_true, true_implies, Nat.reduceAdd, Nat.reduceLeDiff, Nat.zero_le, Nat.le_refl, Nat.add_zero, Nat.zero_add, reduceIte, not_true_eq_false, not_false_eq_true, false_implies, and_self, implies_true, eq_self, Nat.reduceEqDiff, List.cons.injEq, xsn_1, xsn_2, false_and, and_false, or_false, false_or, or_true, true_or, xsn_3, xsn_4, ↓spwX7_causeAheadOfMeeting, spcX7_causeAheadOfMeeting, ↓spwX7_meetsIn, spcX7_meetsIn, ↓spwX7_isBusy, spcX7_isBusy, ↓spwX7_firstInto, spcX7_firstInto, h0, hs1, hs2, h1, hL, h3, h3a, h4, hB, c1, c2, bi_0]
      try simp only [xif_e]
      exact h
    · rw [if_neg c2] at h
      by_cases c3 : cFi S s 604 = 0
      · rw [if_pos (Or.inl c3)] at h
        simp only [↓callX7_causeFor_0, ↓callX7_causeFor_1, ↓callX7_causeFor_2, ↓callX7_causeFor_3, ↓cg_6_4, cisa, kb_7, kb_8, kc_7, kc_8, ki_0, ki_1, ↓vm_aload_n, ↓vm_bipush, ↓vm_getfield, ↓vm_goto, ↓vm_iconst, ↓vm_ifCond_eq, ↓vm_ifCond_ne, ↓vm_if_acmp_ne, ↓vm_iload, ↓vm_iload_n, ↓vm_invokevirtual, ↓vm_ireturn, ↓vm_istore, ↓vm_istore_n, ↓xc_2, ↓xc_3, ↓tbX7_causeFor_0, ↓tbX7_causeFor_1, ↓tbX7_causeFor_2, ↓tbX7_causeFor_3, ↓tbX7_causeFor_6, ↓tbX7_causeFor_7, ↓tbX7_causeFor_8, ↓tbX7_causeFor_11, ↓tbX7_causeFor_12, ↓tbX7_causeFor_13, ↓tbX7_causeFor_14, ↓tbX7_causeFor_15, ↓tbX7_causeFor_16, ↓tbX7_causeFor_19, ↓tbX7_causeFor_22, ↓tbX7_causeFor_24, ↓tbX7_causeFor_25, ↓tbX7_causeFor_26, ↓tbX7_causeFor_29, ↓tbX7_causeFor_32, ↓tbX7_causeFor_33, ↓tbX7_causeFor_34, ↓tbX7_causeFor_37, ↓tbX7_causeFor_40, ↓tbX7_causeFor_41, ↓tbX7_causeFor_42, ↓tbX7_causeFor_45, ↓tbX7_causeFor_46, ↓tbX7_causeFor_49, ↓tbX7_causeFor_50, ↓tbX7_causeFor_53, ↓tbX7_causeFor_54, ↓tbX7_causeFor_56, ↓tbX7_causeFor_58, ↓tbX7_causeFor_61, ↓tbX7_causeFor_62, ↓tbX7_causeFor_65, ↓tbX7_causeFor_67, hfu, xstep0, xJ1_hit, xJ1_go, xJ2_hit1, xJ2_hit2, xJ2_go, ↓xif_t, ↓xif_f, seval, ↓xca_eq, ↓xre_l, ↓xre_r, xmask_t, xmask_f, xmask_nil, ↓xst_eq, xX_eq, eI_eq, eMc_eq, eMs_eq, eF_eq, eThr_eq, ↓xS1_mk, ↓xSI_mk, ↓xSR_mk, ↓xLI_0, ↓xLI_s, ↓xLR_0, ↓xLR_s, vRef_ref, vRef_null, vRef_rf, cat_int, cat_ref, cat_null, cat_rf, rf_some, rf_none, rf_null, rf_eq, rf_ref, ref_rf, ref_null, ref_ref, xOk_0, xOk_1, xOk_2r, xOk_2n, xOk_2f, vOpt_rf, vOpt_ref, vOpt_null, List.set_cons_zero, List.set_cons_succ, List.take_succ_cons, List.take_zero, List.drop_succ_cons, List.drop_zero, List.reverse_cons, List.reverse_nil, List.nil_append, List.cons_append, List.append_nil, List.length_cons, List.length_nil, List.map_cons, List.map_nil, List.sum_cons, List.sum_nil, Option.toList_some, Option.toList_none, xRecv_mk, true_and, and_true, true_implies, Nat.reduceAdd, Nat.reduceLeDiff, Nat.zero_le, Nat.le_refl, Nat.add_zero, Nat.zero_add, reduceIte, not_true_eq_false, not_false_eq_true, false_implies, and_self, implies_true, eq_self, Nat.reduceEqDiff, List.cons.injEq, xsn_1, xsn_2, false_and, and_false, or_false, false_or, or_true, true_or, xsn_3, xsn_4, ↓spwX7_causeAheadOfMeeting, spcX7_causeAheadOfMeeting, ↓spwX7_meetsIn, spcX7_meetsIn, ↓spwX7_isBusy, spcX7_isBusy, ↓spwX7_firstInto, spcX7_firstInto, h0, hs1, hs2, h1, hL, h3, h3a, h4, hB, c1, c2, c3, bi_0]
        try simp only [xif_e]
        exact h
      · simp only [↓callX7_causeFor_0, ↓callX7_causeFor_1, ↓callX7_causeFor_2, ↓callX7_causeFor_3, ↓cg_6_4, cisa, kb_7, kb_8, kc_7, kc_8, ki_0, ki_1, ↓vm_aload_n, ↓vm_bipush, ↓vm_getfield, ↓vm_goto, ↓vm_iconst, ↓vm_ifCond_eq, ↓vm_ifCond_ne, ↓vm_if_acmp_ne, ↓vm_iload, ↓vm_iload_n, ↓vm_invokevirtual, ↓vm_ireturn, ↓vm_istore, ↓vm_istore_n, ↓xc_2, ↓xc_3, ↓tbX7_causeFor_0, ↓tbX7_causeFor_1, ↓tbX7_causeFor_2, ↓tbX7_causeFor_3, ↓tbX7_causeFor_6, ↓tbX7_causeFor_7, ↓tbX7_causeFor_8, ↓tbX7_causeFor_11, ↓tbX7_causeFor_12, ↓tbX7_causeFor_13, ↓tbX7_causeFor_14, ↓tbX7_causeFor_15, ↓tbX7_causeFor_16, ↓tbX7_causeFor_19, ↓tbX7_causeFor_22, ↓tbX7_causeFor_24, ↓tbX7_causeFor_25, ↓tbX7_causeFor_26, ↓tbX7_causeFor_29, ↓tbX7_causeFor_32, ↓tbX7_causeFor_33, ↓tbX7_causeFor_34, ↓tbX7_causeFor_37, ↓tbX7_causeFor_40, ↓tbX7_causeFor_41, ↓tbX7_causeFor_42, ↓tbX7_causeFor_45, ↓tbX7_causeFor_46, ↓tbX7_causeFor_49, ↓tbX7_causeFor_50, ↓tbX7_causeFor_53, ↓tbX7_causeFor_54, ↓tbX7_causeFor_56, ↓tbX7_causeFor_58, ↓tbX7_causeFor_61, ↓tbX7_causeFor_62, ↓tbX7_causeFor_65, ↓tbX7_causeFor_67, hfu, xstep0, xJ1_hit, xJ1_go, xJ2_hit1, xJ2_hit2, xJ2_go, ↓xif_t, ↓xif_f, seval, ↓xca_eq, ↓xre_l, ↓xre_r, xmask_t, xmask_f, xmask_nil, ↓xst_eq, xX_eq, eI_eq, eMc_eq, eMs_eq, eF_eq, eThr_eq, ↓xS1_mk, ↓xSI_mk, ↓xSR_mk, ↓xLI_0, ↓xLI_s, ↓xLR_0, ↓xLR_s, vRef_ref, vRef_null, vRef_rf, cat_int, cat_ref, cat_null, cat_rf, rf_some, rf_none, rf_null, rf_eq, rf_ref, ref_rf, ref_null, ref_ref, xOk_0, xOk_1, xOk_2r, xOk_2n, xOk_2f, vOpt_rf, vOpt_ref, vOpt_null, List.set_cons_zero, List.set_cons_succ, List.take_succ_cons, List.take_zero, List.drop_succ_cons, List.drop_zero, List.reverse_cons, List.reverse_nil, List.nil_append, List.cons_append, List.append_nil, List.length_cons, List.length_nil, List.map_cons, List.map_nil, List.sum_cons, List.sum_nil, Option.toList_some, Option.toList_none, xRecv_mk, true_and, and_true, true_implies, Nat.reduceAdd, Nat.reduceLeDiff, Nat.zero_le, Nat.le_refl, Nat.add_zero, Nat.zero_add, reduceIte, not_true_eq_false, not_false_eq_true, false_implies, and_self, implies_true, eq_self, Nat.reduceEqDiff, List.cons.injEq, xsn_1, xsn_2, false_and, and_false, or_false, false_or, or_true, true_or, xsn_3, xsn_4, ↓spwX7_causeAheadOfMeeting, spcX7_causeAheadOfMeeting, ↓spwX7_meetsIn, spcX7_meetsIn, ↓spwX7_isBusy, spcX7_isBusy, ↓spwX7_firstInto, spcX7_firstInto, h0, hs1, hs2, h1, hL, h3, h3a, h4, hB, c1, c2, c3, bi_0]
        try simp only [xif_e]
        repeat' (first | with_reducible apply And.intro | with_reducible intro _)
        all_goals grind
  · rw [if_pos c1] at h
    simp only [↓callX7_causeFor_0, ↓callX7_causeFor_1, ↓callX7_causeFor_2, ↓callX7_causeFor_3, ↓cg_6_4, cisa, kb_7, kb_8, kc_7, kc_8, ki_0, ki_1, ↓vm_aload_n, ↓vm_bipush, ↓vm_getfield, ↓vm_goto, ↓vm_iconst, ↓vm_ifCond_eq, ↓vm_ifCond_ne, ↓vm_if_acmp_ne, ↓vm_iload, ↓vm_iload_n, ↓vm_invokevirtual, ↓vm_ireturn, ↓vm_istore, ↓vm_istore_n, ↓xc_2, ↓xc_3, ↓tbX7_causeFor_0, ↓tbX7_causeFor_1, ↓tbX7_causeFor_2, ↓tbX7_causeFor_3, ↓tbX7_causeFor_6, ↓tbX7_causeFor_7, ↓tbX7_causeFor_8, ↓tbX7_causeFor_11, ↓tbX7_causeFor_12, ↓tbX7_causeFor_13, ↓tbX7_causeFor_14, ↓tbX7_causeFor_15, ↓tbX7_causeFor_16, ↓tbX7_causeFor_19, ↓tbX7_causeFor_22, ↓tbX7_causeFor_24, ↓tbX7_causeFor_25, ↓tbX7_causeFor_26, ↓tbX7_causeFor_29, ↓tbX7_causeFor_32, ↓tbX7_causeFor_33, ↓tbX7_causeFor_34, ↓tbX7_causeFor_37, ↓tbX7_causeFor_40, ↓tbX7_causeFor_41, ↓tbX7_causeFor_42, ↓tbX7_causeFor_45, ↓tbX7_causeFor_46, ↓tbX7_causeFor_49, ↓tbX7_causeFor_50, ↓tbX7_causeFor_53, ↓tbX7_causeFor_54, ↓tbX7_causeFor_56, ↓tbX7_causeFor_58, ↓tbX7_causeFor_61, ↓tbX7_causeFor_62, ↓tbX7_causeFor_65, ↓tbX7_causeFor_67, hfu, xstep0, xJ1_hit, xJ1_go, xJ2_hit1, xJ2_hit2, xJ2_go, ↓xif_t, ↓xif_f, seval, ↓xca_eq, ↓xre_l, ↓xre_r, xmask_t, xmask_f, xmask_nil, ↓xst_eq, xX_eq, eI_eq, eMc_eq, eMs_eq, eF_eq, eThr_eq, ↓xS1_mk, ↓xSI_mk, ↓xSR_mk, ↓xLI_0, ↓xLI_s, ↓xLR_0, ↓xLR_s, vRef_ref, vRef_null, vRef_rf, cat_int, cat_ref, cat_null, cat_rf, rf_some, rf_none, rf_null, rf_eq, rf_ref, ref_rf, ref_null, ref_ref, xOk_0, xOk_1, xOk_2r, xOk_2n, xOk_2f, vOpt_rf, vOpt_ref, vOpt_null, List.set_cons_zero, List.set_cons_succ, List.take_succ_cons, List.take_zero, List.drop_succ_cons, List.drop_zero, List.reverse_cons, List.reverse_nil, List.nil_append, List.cons_append, List.append_nil, List.length_cons, List.length_nil, List.map_cons, List.map_nil, List.sum_cons, List.sum_nil, Option.toList_some, Option.toList_none, xRecv_mk, true_and, and_true, true_implies, Nat.reduceAdd, Nat.reduceLeDiff, Nat.zero_le, Nat.le_refl, Nat.add_zero, Nat.zero_add, reduceIte, not_true_eq_false, not_false_eq_true, false_implies, and_self, implies_true, eq_self, Nat.reduceEqDiff, List.cons.injEq, xsn_1, xsn_2, false_and, and_false, or_false, false_or, or_true, true_or, xsn_3, xsn_4, ↓spwX7_causeAheadOfMeeting, spcX7_causeAheadOfMeeting, ↓spwX7_meetsIn, spcX7_meetsIn, ↓spwX7_isBusy, spcX7_isBusy, ↓spwX7_firstInto, spcX7_firstInto, h0, hs1, hs2, h1, hL, h3, h3a, h4, hB, c1, bi_0]
    try simp only [xif_e]
    exact h

def cWh (S : cS) (L r : Nat) : Int32 :=
  if 0 ≤ cFi S r 500 ∧ cFi S r 500 < cFi S L 2 then (if cFi S (lG S L (cFi S r 500).toNatClampNeg) 207 = -1 then 10 + cFi S (lG S L (cFi S r 500).toNatClampNeg) 206 else 20 + cFi S (lG S L (cFi S r 500).toNatClampNeg) 207) else cFi S r 501

def tbX7_whereIs : List (Nat × xHint) := [(0, .aload_n 1, 1, 0, 0, []), (1, .getfield 511, 5, 0, 0, []), (4, .ifCond .lt 17, 21, 0, 0, []), (7, .aload_n 1, 1, 0, 0, []), (8, .getfield 511, 5, 0, 0, []), (11, .aload_n 0, 0, 0, 0, []), (12, .getfield 25, 8, 4, 2, []), (15, .invokevirtual 108, 0, 1, 0, []), (18, .if_icmp .lt 8, 26, 0, 0, []), (21, .aload_n 1, 1, 0, 0, []), (22, .getfield 514, 5, 1, 0, []), (25, .ireturn, 0, 0, 0, []), (26, .aload_n 0, 0, 0, 0, []), (27, .getfield 25, 8, 4, 2, []), (30, .aload_n 1, 1, 0, 0, []), (31, .getfield 511, 5, 0, 0, []), (34, .invokevirtual 312, 1, 2, 0, []), (37, .checkcast 210, 2, 0, 0, []), (40, .astore_n 2, 2, 0, 0, []), (41, .aload_n 2, 2, 0, 0, []), (42, .invokevirtual 223, 2, 1, 2, []), (45, .ifCond .eq 13, 58, 0, 0, []), (48, .bipush 20, 0, 0, 0, []), (50, .aload_n 2, 2, 0, 0, []), (51, .getfield 332, 2, 7, 0, []), (54, .iadd, 0, 0, 0, []), (55, .goto 10, 65, 0, 0, []), (58, .bipush 10, 0, 0, 0, []), (60, .aload_n 2, 2, 0, 0, []), (61, .getfield 238, 2, 6, 0, []), (64, .iadd, 0, 0, 0, []), (65, .ireturn, 0, 0, 0, [])]
def clX7_whereIs : List (Instr × Nat × Nat × Nat) := [(.invokevirtual 108, 0, 1, 0), (.invokevirtual 312, 1, 2, 0), (.invokevirtual 223, 2, 1, 2)]
def thX7_whereIs : List (Nat × Nat) := []
theorem ckX7_whereIs : tbX7_whereIs.all (xRow RX7 cX7_whereIs wsX7_whereIs vwCl [2, 5, 8] clX7_whereIs thX7_whereIs 3 (yX7_whereIs.name == "<init>") (some .int)) = true := xRow_q 0xac60ee00b42c0a100a00a7604c01b42c14100d0099df00b62c4dd200c03801b6ff01b42b1900b42aac0202b42b0800a16c00b61900b42aff01b42b11009bff01b42b 66 (by decide +kernel) (by decide +kernel)
theorem usX7_whereIs : xUse wsX7_whereIs vwCl [2, 5, 8] = true := xUse_g rfl (lw_good lwl_X7_whereIs lwl_X10 (by decide +kernel)) (xUse_g rfl (lw_good lwl_X7_whereIs lwl_X40 (by decide +kernel)) (xUse_g rfl (lw_good lwl_X7_whereIs lwl_X70 (by decide +kernel)) xUse_n))
theorem tbX7_whereIs_0 {k : Instr → Nat → Nat → Nat → List Nat → Prop} : xse (xFind tbX7_whereIs 0) k = k (.aload_n 1) 1 0 0 [] := rfl
theorem tbX7_whereIs_1 {k : Instr → Nat → Nat → Nat → List Nat → Prop} : xse (xFind tbX7_whereIs 1) k = k (.getfield 511) 5 0 0 [] := rfl
theorem tbX7_whereIs_4 {k : Instr → Nat → Nat → Nat → List Nat → Prop} : xse (xFind tbX7_whereIs 4) k = k (.ifCond .lt 17) 21 0 0 [] := rfl
theorem tbX7_whereIs_7 {k : Instr → Nat → Nat → Nat → List Nat → Prop} : xse (xFind tbX7_whereIs 7) k = k (.aload_n 1) 1 0 0 [] := rfl
theorem tbX7_whereIs_8 {k : Instr → Nat → Nat → Nat → List Nat → Prop} : xse (xFind tbX7_whereIs 8) k = k (.getfield 511) 5 0 0 [] := rfl
theorem tbX7_whereIs_11 {k : Instr → Nat → Nat → Nat → List Nat → Prop} : xse (xFind tbX7_whereIs 11) k = k (.aload_n 0) 0 0 0 [] := rfl
theorem tbX7_whereIs_12 {k : Instr → Nat → Nat → Nat → List Nat → Prop} : xse (xFind tbX7_whereIs 12) k = k (.getfield 25) 8 4 2 [] := rfl
theorem tbX7_whereIs_15 {k : Instr → Nat → Nat → Nat → List Nat → Prop} : xse (xFind tbX7_whereIs 15) k = k (.invokevirtual 108) 0 1 0 [] := rfl
theorem tbX7_whereIs_18 {k : Instr → Nat → Nat → Nat → List Nat → Prop} : xse (xFind tbX7_whereIs 18) k = k (.if_icmp .lt 8) 26 0 0 [] := rfl
theorem tbX7_whereIs_21 {k : Instr → Nat → Nat → Nat → List Nat → Prop} : xse (xFind tbX7_whereIs 21) k = k (.aload_n 1) 1 0 0 [] := rfl
theorem tbX7_whereIs_22 {k : Instr → Nat → Nat → Nat → List Nat → Prop} : xse (xFind tbX7_whereIs 22) k = k (.getfield 514) 5 1 0 [] := rfl
theorem tbX7_whereIs_25 {k : Instr → Nat → Nat → Nat → List Nat → Prop} : xse (xFind tbX7_whereIs 25) k = k (.ireturn) 0 0 0 [] := rfl
theorem tbX7_whereIs_26 {k : Instr → Nat → Nat → Nat → List Nat → Prop} : xse (xFind tbX7_whereIs 26) k = k (.aload_n 0) 0 0 0 [] := rfl
theorem tbX7_whereIs_27 {k : Instr → Nat → Nat → Nat → List Nat → Prop} : xse (xFind tbX7_whereIs 27) k = k (.getfield 25) 8 4 2 [] := rfl
theorem tbX7_whereIs_30 {k : Instr → Nat → Nat → Nat → List Nat → Prop} : xse (xFind tbX7_whereIs 30) k = k (.aload_n 1) 1 0 0 [] := rfl
theorem tbX7_whereIs_31 {k : Instr → Nat → Nat → Nat → List Nat → Prop} : xse (xFind tbX7_whereIs 31) k = k (.getfield 511) 5 0 0 [] := rfl
theorem tbX7_whereIs_34 {k : Instr → Nat → Nat → Nat → List Nat → Prop} : xse (xFind tbX7_whereIs 34) k = k (.invokevirtual 312) 1 2 0 [] := rfl
theorem tbX7_whereIs_37 {k : Instr → Nat → Nat → Nat → List Nat → Prop} : xse (xFind tbX7_whereIs 37) k = k (.checkcast 210) 2 0 0 [] := rfl
theorem tbX7_whereIs_40 {k : Instr → Nat → Nat → Nat → List Nat → Prop} : xse (xFind tbX7_whereIs 40) k = k (.astore_n 2) 2 0 0 [] := rfl
theorem tbX7_whereIs_41 {k : Instr → Nat → Nat → Nat → List Nat → Prop} : xse (xFind tbX7_whereIs 41) k = k (.aload_n 2) 2 0 0 [] := rfl
theorem tbX7_whereIs_42 {k : Instr → Nat → Nat → Nat → List Nat → Prop} : xse (xFind tbX7_whereIs 42) k = k (.invokevirtual 223) 2 1 2 [] := rfl
theorem tbX7_whereIs_45 {k : Instr → Nat → Nat → Nat → List Nat → Prop} : xse (xFind tbX7_whereIs 45) k = k (.ifCond .eq 13) 58 0 0 [] := rfl
theorem tbX7_whereIs_48 {k : Instr → Nat → Nat → Nat → List Nat → Prop} : xse (xFind tbX7_whereIs 48) k = k (.bipush 20) 0 0 0 [] := rfl
theorem tbX7_whereIs_50 {k : Instr → Nat → Nat → Nat → List Nat → Prop} : xse (xFind tbX7_whereIs 50) k = k (.aload_n 2) 2 0 0 [] := rfl
theorem tbX7_whereIs_51 {k : Instr → Nat → Nat → Nat → List Nat → Prop} : xse (xFind tbX7_whereIs 51) k = k (.getfield 332) 2 7 0 [] := rfl
theorem tbX7_whereIs_54 {k : Instr → Nat → Nat → Nat → List Nat → Prop} : xse (xFind tbX7_whereIs 54) k = k (.iadd) 0 0 0 [] := rfl
theorem tbX7_whereIs_55 {k : Instr → Nat → Nat → Nat → List Nat → Prop} : xse (xFind tbX7_whereIs 55) k = k (.goto 10) 65 0 0 [] := rfl
theorem tbX7_whereIs_58 {k : Instr → Nat → Nat → Nat → List Nat → Prop} : xse (xFind tbX7_whereIs 58) k = k (.bipush 10) 0 0 0 [] := rfl
theorem tbX7_whereIs_60 {k : Instr → Nat → Nat → Nat → List Nat → Prop} : xse (xFind tbX7_whereIs 60) k = k (.aload_n 2) 2 0 0 [] := rfl
theorem tbX7_whereIs_61 {k : Instr → Nat → Nat → Nat → List Nat → Prop} : xse (xFind tbX7_whereIs 61) k = k (.getfield 238) 2 6 0 [] := rfl
theorem tbX7_whereIs_64 {k : Instr → Nat → Nat → Nat → List Nat → Prop} : xse (xFind tbX7_whereIs 64) k = k (.iadd) 0 0 0 [] := rfl
theorem tbX7_whereIs_65 {k : Instr → Nat → Nat → Nat → List Nat → Prop} : xse (xFind tbX7_whereIs 65) k = k (.ireturn) 0 0 0 [] := rfl

def spX7_whereIs (W9 : xWd) : xSp cS := (fun av S => (0, 0), fun av S K => ∃ (a : Nat) (r : Nat), av = [.ref a, .ref r] ∧ (cK S a = 9 ∧ cIn S a 804 1 ∧ lAll S (cRf S a 804) 3 ∧ cK S r = 6 ∧ K (rI (cWh S (cRf S a 804) r)) S))
theorem spcX7_whereIs {av : List Value} {S : cS} {W9 : xWd} : (spX7_whereIs W9).1 av S = (0, 0) := rfl
theorem spwX7_whereIs {S : cS} {W9 : xWd} {K : xRes → cS → Prop} {a : Nat} {r : Nat} : (spX7_whereIs W9).2 [.ref a, .ref r] S K = (cK S a = 9 ∧ cIn S a 804 1 ∧ lAll S (cRf S a 804) 3 ∧ cK S r = 6 ∧ K (rI (cWh S (cRf S a 804) r)) S) :=
  propext ⟨fun h => by
    simp only [spX7_whereIs] at h
    obtain ⟨_, _, e, h⟩ := h
    simp only [List.cons.injEq, Value.int.injEq, Value.ref.injEq, rf_eq, and_true, true_and] at e
    obtain ⟨rfl, rfl⟩ := e
    exact h, fun h => ⟨_, _, rfl, h⟩⟩

def callX7_whereIs (W9 : xWd) : Nat → Option (xSp cS) := fun n => match n with | 0 => some (spJx4a65c_size_8abf5 W9) | 1 => some (spJx4a65c_get_915e3 W9) | 2 => some (spX1_isUnderWay W9) | _ => none

theorem callX7_whereIs_0 {W9 : xWd} {k : xSp cS → Prop} : xcs (callX7_whereIs W9 0) k = k (spJx4a65c_size_8abf5 W9) := rfl

theorem callX7_whereIs_1 {W9 : xWd} {k : xSp cS → Prop} : xcs (callX7_whereIs W9 1) k = k (spJx4a65c_get_915e3 W9) := rfl

theorem callX7_whereIs_2 {W9 : xWd} {k : xSp cS → Prop} : xcs (callX7_whereIs W9 2) k = k (spX1_isUnderWay W9) := rfl

theorem crX7_whereIs (l : Launch) (hl : l.stackTraces = false) (W9 : xWd) : xCallsOK l W9 (cI) (callX7_whereIs W9) clX7_whereIs RX7 wsX7_whereIs 3 64 3 := by
  intro E A p e R s m args below meth c hI hF hL X
  exact List.forall_mem_cons.mpr ⟨⟨_, rfl, xCR_V X (by rw [hI]; exact (semJx4a65c_size_8abf5 l hl W9)) gX7_whereIs_Jx4a65c_size_8abf5 rfl rfl (by decide +kernel) (by rw [hF, hL]; decide)⟩,
    List.forall_mem_cons.mpr ⟨⟨_, rfl, xCR_V X (by rw [hI]; exact (semJx4a65c_get_915e3 l hl W9)) gX7_whereIs_Jx4a65c_get_915e3 rfl rfl (by decide +kernel) (by rw [hF, hL]; decide)⟩,
    List.forall_mem_cons.mpr ⟨⟨_, rfl, xCR_V X (by rw [hI]; exact (semX1_isUnderWay l hl W9)) gX7_whereIs_X1_isUnderWay rfl rfl (by decide +kernel) (by rw [hF, hL]; decide)⟩,
    fun _ h => nomatch h⟩⟩⟩

set_option maxHeartbeats 4000000 in
set_option maxRecDepth 20000 in
theorem semX7_whereIs (l : Launch) (hl : l.stackTraces = false) (W9 : xWd) : xSem l W9 (cI) yX7_whereIs wsX7_whereIs 3 64 (spX7_whereIs W9) := by
  refine xSem_of (call := callX7_whereIs W9) (thrf := fun _ => "") cI_law (by decide +kernel) rfl ckX7_whereIs usX7_whereIs (crX7_whereIs l hl W9) xThrOK_nil ?_ ?_
  · intro av S KF h
    obtain ⟨a, r, rfl, h⟩ := h
    exact ⟨by intro v hv; simp only [List.mem_cons, List.not_mem_nil, or_false] at hv; rcases hv with rfl | rfl <;> first | rfl | exact cat_rf, Nat.le_of_ble_eq_true rfl⟩
  intro av S KF h G hG
  obtain ⟨a, r, rfl, h⟩ := h
  rw [show (spX7_whereIs W9).1 _ S = _ from spcX7_whereIs] at hG
  try dsimp only at hG
  change G 0 [some (.ref a), some (.ref r), none] [] S 0 0
  obtain ⟨h0, ⟨h1, h2⟩, h3, h4, h⟩ := h

  obtain ⟨f1, f2, f3, f4⟩ := lAll_facts h3
  generalize hL : cRf S a 804 = L at *
  unfold cWh at h
  refine xgo0 hG (fun fu hfu => ?_)
  by_cases q : 0 ≤ cFi S r 500 ∧ cFi S r 500 < cFi S L 2
  · obtain ⟨g1, g2⟩ := lAll_at h3 q.1 q.2
    rw [if_pos q] at h
    have q1 : ¬ cFi S r 500 < 0 := fun z => Int32.lt_irrefl (Int32.lt_of_lt_of_le z q.1)
    simp only [↓callX7_whereIs_0, ↓callX7_whereIs_1, ↓callX7_whereIs_2, ↓cg_2_6, ↓cg_2_7, ↓cg_5_0, ↓cg_5_1, ↓cg_8_4, cisa, kb_10, kb_20, kc_10, kc_20, ↓vm_aload_n, ↓vm_astore_n, ↓vm_bipush, ↓vm_checkcast, ↓vm_getfield, ↓vm_goto, ↓vm_iadd, ↓vm_ifCond_eq, ↓vm_ifCond_lt, ↓vm_if_icmp_lt, ↓vm_invokevirtual, ↓vm_ireturn, ↓xc_1, ↓xc_2, ↓tbX7_whereIs_0, ↓tbX7_whereIs_1, ↓tbX7_whereIs_4, ↓tbX7_whereIs_7, ↓tbX7_whereIs_8, ↓tbX7_whereIs_11, ↓tbX7_whereIs_12, ↓tbX7_whereIs_15, ↓tbX7_whereIs_18, ↓tbX7_whereIs_21, ↓tbX7_whereIs_22, ↓tbX7_whereIs_25, ↓tbX7_whereIs_26, ↓tbX7_whereIs_27, ↓tbX7_whereIs_30, ↓tbX7_whereIs_31, ↓tbX7_whereIs_34, ↓tbX7_whereIs_37, ↓tbX7_whereIs_40, ↓tbX7_whereIs_41, ↓tbX7_whereIs_42, ↓tbX7_whereIs_45, ↓tbX7_whereIs_48, ↓tbX7_whereIs_50, ↓tbX7_whereIs_51, ↓tbX7_whereIs_54, ↓tbX7_whereIs_55, ↓tbX7_whereIs_58, ↓tbX7_whereIs_60, ↓tbX7_whereIs_61, ↓tbX7_whereIs_64, ↓tbX7_whereIs_65, hfu, xstep0, xJ1_hit, xJ1_go, xJ2_hit1, xJ2_hit2, xJ2_go, ↓xif_t, ↓xif_f, seval, ↓xca_eq, ↓xre_l, ↓xre_r, xmask_t, xmask_f, xmask_nil, ↓xst_eq, xX_eq, eI_eq, eMc_eq, eMs_eq, eF_eq, eThr_eq, ↓xS1_mk, ↓xSI_mk, ↓xSR_mk, ↓xLI_0, ↓xLI_s, ↓xLR_0, ↓xLR_s, vRef_ref, vRef_null, vRef_rf, cat_int, cat_ref, cat_null, cat_rf, rf_some, rf_none, rf_null, rf_eq, rf_ref, ref_rf, ref_null, ref_ref, xOk_0, xOk_1, xOk_2r, xOk_2n, xOk_2f, vOpt_rf, vOpt_ref, vOpt_null, List.set_cons_zero, List.set_cons_succ, List.take_succ_cons, List.take_zero, List.drop_succ_cons, List.drop_zero, List.reverse_cons, List.reverse_nil, List.nil_append, List.cons_append, List.append_nil, List.length_cons, List.length_nil, List.map_cons, List.map_nil, List.sum_cons, List.sum_nil, Option.toList_some, Option.toList_none, xRecv_mk, true_and, and_true, true_implies, Nat.reduceAdd, Nat.reduceLeDiff, Nat.zero_le, Nat.le_refl, Nat.add_zero, Nat.zero_add, reduceIte, not_true_eq_false, not_false_eq_true, false_implies, and_self, implies_true, eq_self, Nat.reduceEqDiff, List.cons.injEq, xsn_1, xsn_2, false_and, and_false, or_false, false_or, or_true, true_or, xsn_3, xsn_4, ↓spwJx4a65c_size_8abf5, spcJx4a65c_size_8abf5, ↓spwJx4a65c_get_915e3, spcJx4a65c_get_915e3, ↓spwX1_isUnderWay, spcX1_isUnderWay, h0, h1, hL, h4, f1, f2, q, q1, g1, g2, bi_0]
    try simp only [xif_e]
    repeat' (first | with_reducible apply And.intro | with_reducible intro _)
    all_goals grind
  · rw [if_neg q] at h
    simp only [↓callX7_whereIs_0, ↓callX7_whereIs_1, ↓callX7_whereIs_2, ↓cg_2_6, ↓cg_2_7, ↓cg_5_0, ↓cg_5_1, ↓cg_8_4, cisa, kb_10, kb_20, kc_10, kc_20, ↓vm_aload_n, ↓vm_astore_n, ↓vm_bipush, ↓vm_checkcast, ↓vm_getfield, ↓vm_goto, ↓vm_iadd, ↓vm_ifCond_eq, ↓vm_ifCond_lt, ↓vm_if_icmp_lt, ↓vm_invokevirtual, ↓vm_ireturn, ↓xc_1, ↓xc_2, ↓tbX7_whereIs_0, ↓tbX7_whereIs_1, ↓tbX7_whereIs_4, ↓tbX7_whereIs_7, ↓tbX7_whereIs_8, ↓tbX7_whereIs_11, ↓tbX7_whereIs_12, ↓tbX7_whereIs_15, ↓tbX7_whereIs_18, ↓tbX7_whereIs_21, ↓tbX7_whereIs_22, ↓tbX7_whereIs_25, ↓tbX7_whereIs_26, ↓tbX7_whereIs_27, ↓tbX7_whereIs_30, ↓tbX7_whereIs_31, ↓tbX7_whereIs_34, ↓tbX7_whereIs_37, ↓tbX7_whereIs_40, ↓tbX7_whereIs_41, ↓tbX7_whereIs_42, ↓tbX7_whereIs_45, ↓tbX7_whereIs_48, ↓tbX7_whereIs_50, ↓tbX7_whereIs_51, ↓tbX7_whereIs_54, ↓tbX7_whereIs_55, ↓tbX7_whereIs_58, ↓tbX7_whereIs_60, ↓tbX7_whereIs_61, ↓tbX7_whereIs_64, ↓tbX7_whereIs_65, hfu, xstep0, xJ1_hit, xJ1_go, xJ2_hit1, xJ2_hit2, xJ2_go, ↓xif_t, ↓xif_f, seval, ↓xca_eq, ↓xre_l, ↓xre_r, xmask_t, xmask_f, xmask_nil, ↓xst_eq, xX_eq, eI_eq, eMc_eq, eMs_eq, eF_eq, eThr_eq, ↓xS1_mk, ↓xSI_mk, ↓xSR_mk, ↓xLI_0, ↓xLI_s, ↓xLR_0, ↓xLR_s, vRef_ref, vRef_null, vRef_rf, cat_int, cat_ref, cat_null, cat_rf, rf_some, rf_none, rf_null, rf_eq, rf_ref, ref_rf, ref_null, ref_ref, xOk_0, xOk_1, xOk_2r, xOk_2n, xOk_2f, vOpt_rf, vOpt_ref, vOpt_null, List.set_cons_zero, List.set_cons_succ, List.take_succ_cons, List.take_zero, List.drop_succ_cons, List.drop_zero, List.reverse_cons, List.reverse_nil, List.nil_append, List.cons_append, List.append_nil, List.length_cons, List.length_nil, List.map_cons, List.map_nil, List.sum_cons, List.sum_nil, Option.toList_some, Option.toList_none, xRecv_mk, true_and, and_true, true_implies, Nat.reduceAdd, Nat.reduceLeDiff, Nat.zero_le, Nat.le_refl, Nat.add_zero, Nat.zero_add, reduceIte, not_true_eq_false, not_false_eq_true, false_implies, and_self, implies_true, eq_self, Nat.reduceEqDiff, List.cons.injEq, xsn_1, xsn_2, false_and, and_false, or_false, false_or, or_true, true_or, xsn_3, xsn_4, ↓spwJx4a65c_size_8abf5, spcJx4a65c_size_8abf5, ↓spwJx4a65c_get_915e3, spcJx4a65c_get_915e3, ↓spwX1_isUnderWay, spcX1_isUnderWay, h0, h1, hL, h4, f1]
    try simp only [xif_e]
    repeat' (first | with_reducible apply And.intro | with_reducible intro _)
    all_goals grind

def cWs (S : cS) (d : Nat) (z : Int32) : Nat → Int32
  | 0 => z
  | i + 1 => cWs S d z i + cRi S d i
def cWa (S : cS) (L : Nat) : Nat → Int32
  | 0 => 0
  | k + 1 => cWs S (cRf S (lG S L k) 214) (cWa S L k) 10
/-- the boats' hours waited -/
def bWt (S : cS) (L : Nat) : Prop := ∀ k, k < lCn S L → cIn S (lG S L k) 214 11 ∧ cLen S (cRf S (lG S L k) 214) = 10

def tbX7_waitedInAll : List (Nat × xHint) := [(0, .iconst 0, 0, 0, 0, []), (1, .istore_n 1, 1, 0, 0, []), (2, .iconst 0, 0, 0, 0, []), (3, .istore_n 2, 2, 0, 0, []), (4, .iload_n 2, 2, 0, 0, []), (5, .aload_n 0, 0, 0, 0, []), (6, .getfield 25, 8, 4, 2, []), (9, .invokevirtual 108, 0, 1, 0, []), (12, .if_icmp .ge 47, 59, 0, 0, []), (15, .aload_n 0, 0, 0, 0, []), (16, .getfield 25, 8, 4, 2, []), (19, .iload_n 2, 2, 0, 0, []), (20, .invokevirtual 312, 1, 2, 0, []), (23, .checkcast 210, 2, 0, 0, []), (26, .getfield 352, 2, 14, 2, []), (29, .astore_n 3, 3, 0, 0, []), (30, .iconst 0, 0, 0, 0, []), (31, .istore 4, 4, 0, 0, []), (33, .iload 4, 4, 0, 0, []), (35, .aload_n 3, 3, 0, 0, []), (36, .arraylength, 0, 0, 0, []), (37, .if_icmp .ge 16, 53, 0, 0, []), (40, .iload_n 1, 1, 0, 0, []), (41, .aload_n 3, 3, 0, 0, []), (42, .iload 4, 4, 0, 0, []), (44, .iaload, 0, 0, 0, []), (45, .iadd, 0, 0, 0, []), (46, .istore_n 1, 1, 0, 0, []), (47, .iinc 4 1, 4, 0, 0, []), (50, .goto (-17), 33, 0, 0, []), (53, .iinc 2 1, 2, 0, 0, []), (56, .goto (-52), 4, 0, 0, []), (59, .iload_n 1, 1, 0, 0, []), (60, .ireturn, 0, 0, 0, [])]
def clX7_waitedInAll : List (Instr × Nat × Nat × Nat) := [(.invokevirtual 108, 0, 1, 0), (.invokevirtual 312, 1, 2, 0)]
def thX7_waitedInAll : List (Nat × Nat) := []
theorem ckX7_waitedInAll : tbX7_waitedInAll.all (xRow RX7 cX7_waitedInAll wsX7_waitedInAll vwCl [2, 8] clX7_waitedInAll thX7_waitedInAll 5 (yX7_waitedInAll.name == "<init>") (some .int)) = true := xRow_q 0xac1bccffa7010284efffa70104843c602e04152d1b1000a2be2d04150436034e6001b4d200c03801b61c1900b42a2f00a26c00b61900b42a1c3d033c03 61 (by decide +kernel) (by decide +kernel)
theorem usX7_waitedInAll : xUse wsX7_waitedInAll vwCl [2, 8] = true := xUse_g rfl (lw_good lwl_X7_waitedInAll lwl_X10 (by decide +kernel)) (xUse_g rfl (lw_good lwl_X7_waitedInAll lwl_X70 (by decide +kernel)) xUse_n)
theorem tbX7_waitedInAll_0 {k : Instr → Nat → Nat → Nat → List Nat → Prop} : xse (xFind tbX7_waitedInAll 0) k = k (.iconst 0) 0 0 0 [] := rfl
theorem tbX7_waitedInAll_1 {k : Instr → Nat → Nat → Nat → List Nat → Prop} : xse (xFind tbX7_waitedInAll 1) k = k (.istore_n 1) 1 0 0 [] := rfl
theorem tbX7_waitedInAll_2 {k : Instr → Nat → Nat → Nat → List Nat → Prop} : xse (xFind tbX7_waitedInAll 2) k = k (.iconst 0) 0 0 0 [] := rfl
theorem tbX7_waitedInAll_3 {k : Instr → Nat → Nat → Nat → List Nat → Prop} : xse (xFind tbX7_waitedInAll 3) k = k (.istore_n 2) 2 0 0 [] := rfl
theorem tbX7_waitedInAll_4 {k : Instr → Nat → Nat → Nat → List Nat → Prop} : xse (xFind tbX7_waitedInAll 4) k = k (.iload_n 2) 2 0 0 [] := rfl
theorem tbX7_waitedInAll_5 {k : Instr → Nat → Nat → Nat → List Nat → Prop} : xse (xFind tbX7_waitedInAll 5) k = k (.aload_n 0) 0 0 0 [] := rfl
theorem tbX7_waitedInAll_6 {k : Instr → Nat → Nat → Nat → List Nat → Prop} : xse (xFind tbX7_waitedInAll 6) k = k (.getfield 25) 8 4 2 [] := rfl
theorem tbX7_waitedInAll_9 {k : Instr → Nat → Nat → Nat → List Nat → Prop} : xse (xFind tbX7_waitedInAll 9) k = k (.invokevirtual 108) 0 1 0 [] := rfl
theorem tbX7_waitedInAll_12 {k : Instr → Nat → Nat → Nat → List Nat → Prop} : xse (xFind tbX7_waitedInAll 12) k = k (.if_icmp .ge 47) 59 0 0 [] := rfl
theorem tbX7_waitedInAll_15 {k : Instr → Nat → Nat → Nat → List Nat → Prop} : xse (xFind tbX7_waitedInAll 15) k = k (.aload_n 0) 0 0 0 [] := rfl
theorem tbX7_waitedInAll_16 {k : Instr → Nat → Nat → Nat → List Nat → Prop} : xse (xFind tbX7_waitedInAll 16) k = k (.getfield 25) 8 4 2 [] := rfl
theorem tbX7_waitedInAll_19 {k : Instr → Nat → Nat → Nat → List Nat → Prop} : xse (xFind tbX7_waitedInAll 19) k = k (.iload_n 2) 2 0 0 [] := rfl
theorem tbX7_waitedInAll_20 {k : Instr → Nat → Nat → Nat → List Nat → Prop} : xse (xFind tbX7_waitedInAll 20) k = k (.invokevirtual 312) 1 2 0 [] := rfl
theorem tbX7_waitedInAll_23 {k : Instr → Nat → Nat → Nat → List Nat → Prop} : xse (xFind tbX7_waitedInAll 23) k = k (.checkcast 210) 2 0 0 [] := rfl
theorem tbX7_waitedInAll_26 {k : Instr → Nat → Nat → Nat → List Nat → Prop} : xse (xFind tbX7_waitedInAll 26) k = k (.getfield 352) 2 14 2 [] := rfl
theorem tbX7_waitedInAll_29 {k : Instr → Nat → Nat → Nat → List Nat → Prop} : xse (xFind tbX7_waitedInAll 29) k = k (.astore_n 3) 3 0 0 [] := rfl
theorem tbX7_waitedInAll_30 {k : Instr → Nat → Nat → Nat → List Nat → Prop} : xse (xFind tbX7_waitedInAll 30) k = k (.iconst 0) 0 0 0 [] := rfl
theorem tbX7_waitedInAll_31 {k : Instr → Nat → Nat → Nat → List Nat → Prop} : xse (xFind tbX7_waitedInAll 31) k = k (.istore 4) 4 0 0 [] := rfl
theorem tbX7_waitedInAll_33 {k : Instr → Nat → Nat → Nat → List Nat → Prop} : xse (xFind tbX7_waitedInAll 33) k = k (.iload 4) 4 0 0 [] := rfl
theorem tbX7_waitedInAll_35 {k : Instr → Nat → Nat → Nat → List Nat → Prop} : xse (xFind tbX7_waitedInAll 35) k = k (.aload_n 3) 3 0 0 [] := rfl
theorem tbX7_waitedInAll_36 {k : Instr → Nat → Nat → Nat → List Nat → Prop} : xse (xFind tbX7_waitedInAll 36) k = k (.arraylength) 0 0 0 [] := rfl
theorem tbX7_waitedInAll_37 {k : Instr → Nat → Nat → Nat → List Nat → Prop} : xse (xFind tbX7_waitedInAll 37) k = k (.if_icmp .ge 16) 53 0 0 [] := rfl
theorem tbX7_waitedInAll_40 {k : Instr → Nat → Nat → Nat → List Nat → Prop} : xse (xFind tbX7_waitedInAll 40) k = k (.iload_n 1) 1 0 0 [] := rfl
theorem tbX7_waitedInAll_41 {k : Instr → Nat → Nat → Nat → List Nat → Prop} : xse (xFind tbX7_waitedInAll 41) k = k (.aload_n 3) 3 0 0 [] := rfl
theorem tbX7_waitedInAll_42 {k : Instr → Nat → Nat → Nat → List Nat → Prop} : xse (xFind tbX7_waitedInAll 42) k = k (.iload 4) 4 0 0 [] := rfl
theorem tbX7_waitedInAll_44 {k : Instr → Nat → Nat → Nat → List Nat → Prop} : xse (xFind tbX7_waitedInAll 44) k = k (.iaload) 0 0 0 [] := rfl
theorem tbX7_waitedInAll_45 {k : Instr → Nat → Nat → Nat → List Nat → Prop} : xse (xFind tbX7_waitedInAll 45) k = k (.iadd) 0 0 0 [] := rfl
theorem tbX7_waitedInAll_46 {k : Instr → Nat → Nat → Nat → List Nat → Prop} : xse (xFind tbX7_waitedInAll 46) k = k (.istore_n 1) 1 0 0 [] := rfl
theorem tbX7_waitedInAll_47 {k : Instr → Nat → Nat → Nat → List Nat → Prop} : xse (xFind tbX7_waitedInAll 47) k = k (.iinc 4 1) 4 0 0 [] := rfl
theorem tbX7_waitedInAll_50 {k : Instr → Nat → Nat → Nat → List Nat → Prop} : xse (xFind tbX7_waitedInAll 50) k = k (.goto (-17)) 33 0 0 [] := rfl
theorem tbX7_waitedInAll_53 {k : Instr → Nat → Nat → Nat → List Nat → Prop} : xse (xFind tbX7_waitedInAll 53) k = k (.iinc 2 1) 2 0 0 [] := rfl
theorem tbX7_waitedInAll_56 {k : Instr → Nat → Nat → Nat → List Nat → Prop} : xse (xFind tbX7_waitedInAll 56) k = k (.goto (-52)) 4 0 0 [] := rfl
theorem tbX7_waitedInAll_59 {k : Instr → Nat → Nat → Nat → List Nat → Prop} : xse (xFind tbX7_waitedInAll 59) k = k (.iload_n 1) 1 0 0 [] := rfl
theorem tbX7_waitedInAll_60 {k : Instr → Nat → Nat → Nat → List Nat → Prop} : xse (xFind tbX7_waitedInAll 60) k = k (.ireturn) 0 0 0 [] := rfl

def spX7_waitedInAll (W9 : xWd) : xSp cS := (fun av S => (0, 0), fun av S K => ∃ (a : Nat), av = [.ref a] ∧ (cK S a = 9 ∧ cIn S a 804 1 ∧ lAll S (cRf S a 804) 3 ∧ bWt S (cRf S a 804) ∧ K (rI (cWa S (cRf S a 804) (lCn S (cRf S a 804)))) S))
theorem spcX7_waitedInAll {av : List Value} {S : cS} {W9 : xWd} : (spX7_waitedInAll W9).1 av S = (0, 0) := rfl
theorem spwX7_waitedInAll {S : cS} {W9 : xWd} {K : xRes → cS → Prop} {a : Nat} : (spX7_waitedInAll W9).2 [.ref a] S K = (cK S a = 9 ∧ cIn S a 804 1 ∧ lAll S (cRf S a 804) 3 ∧ bWt S (cRf S a 804) ∧ K (rI (cWa S (cRf S a 804) (lCn S (cRf S a 804)))) S) :=
  propext ⟨fun h => by
    simp only [spX7_waitedInAll] at h
    obtain ⟨_, e, h⟩ := h
    simp only [List.cons.injEq, Value.int.injEq, Value.ref.injEq, rf_eq, and_true, true_and] at e
    obtain rfl := e
    exact h, fun h => ⟨_, rfl, h⟩⟩

def callX7_waitedInAll (W9 : xWd) : Nat → Option (xSp cS) := fun n => match n with | 0 => some (spJx4a65c_size_8abf5 W9) | 1 => some (spJx4a65c_get_915e3 W9) | _ => none

theorem callX7_waitedInAll_0 {W9 : xWd} {k : xSp cS → Prop} : xcs (callX7_waitedInAll W9 0) k = k (spJx4a65c_size_8abf5 W9) := rfl

theorem callX7_waitedInAll_1 {W9 : xWd} {k : xSp cS → Prop} : xcs (callX7_waitedInAll W9 1) k = k (spJx4a65c_get_915e3 W9) := rfl

theorem crX7_waitedInAll (l : Launch) (hl : l.stackTraces = false) (W9 : xWd) : xCallsOK l W9 (cI) (callX7_waitedInAll W9) clX7_waitedInAll RX7 wsX7_waitedInAll 3 64 5 := by
  intro E A p e R s m args below meth c hI hF hL X
  exact List.forall_mem_cons.mpr ⟨⟨_, rfl, xCR_V X (by rw [hI]; exact (semJx4a65c_size_8abf5 l hl W9)) gX7_waitedInAll_Jx4a65c_size_8abf5 rfl rfl (by decide +kernel) (by rw [hF, hL]; decide)⟩,
    List.forall_mem_cons.mpr ⟨⟨_, rfl, xCR_V X (by rw [hI]; exact (semJx4a65c_get_915e3 l hl W9)) gX7_waitedInAll_Jx4a65c_get_915e3 rfl rfl (by decide +kernel) (by rw [hF, hL]; decide)⟩,
    fun _ h => nomatch h⟩⟩

set_option maxHeartbeats 4000000 in
set_option maxRecDepth 20000 in
theorem semX7_waitedInAll (l : Launch) (hl : l.stackTraces = false) (W9 : xWd) : xSem l W9 (cI) yX7_waitedInAll wsX7_waitedInAll 3 64 (spX7_waitedInAll W9) := by
  refine xSem_of (call := callX7_waitedInAll W9) (thrf := fun _ => "") cI_law (by decide +kernel) rfl ckX7_waitedInAll usX7_waitedInAll (crX7_waitedInAll l hl W9) xThrOK_nil ?_ ?_
  · intro av S KF h
    obtain ⟨a, rfl, h⟩ := h
    exact ⟨by intro v hv; simp only [List.mem_cons, List.not_mem_nil, or_false] at hv; rcases hv with rfl <;> first | rfl | exact cat_rf, Nat.le_of_ble_eq_true rfl⟩
  intro av S KF h G hG
  obtain ⟨a, rfl, h⟩ := h
  rw [show (spX7_waitedInAll W9).1 _ S = _ from spcX7_waitedInAll] at hG
  try dsimp only at hG
  change G 0 [some (.ref a), none, none, none, none] [] S 0 0
  obtain ⟨h0, ⟨h1, h2⟩, h3, hW, h⟩ := h

  obtain ⟨f1, f2, f3, f4⟩ := lAll_facts h3
  generalize hL : cRf S a 804 = L at *
  have loop := xloopG (G := G) 4 (fun j lv st S2 cs ss => lv = [some (.ref a), some (.int (cWa S L j)), some (.int (nI j)), none, none] ∧ st = [] ∧ S = S2 ∧ cs = 0 ∧ ss = 0) (lCn S L) (by
      rintro j hj hnext lv st S2 cs ss ⟨rfl, rfl, rfl, rfl, (rfl)⟩
      obtain ⟨g1, g2⟩ := h3.2 _ hj
      obtain ⟨⟨w1, w2⟩, w3⟩ := hW _ hj
      have e0 := ge_nI hj (show lCn S L < 1000 by omega)
      have e2 := lt0_nI hj (show lCn S L < 1000 by omega)
      have inner := xloop2 hG 33 [true, true, true, true, true] (fun i lv st S2 cs ss => lv = [some (.ref a), some (.int (cWs S (cRf S (lG S L j) 214) (cWa S L j) i)), some (.int (nI j)), some (.ref (cRf S (lG S L j) 214)), some (.int (nI i))] ∧ st = [] ∧ S = S2 ∧ cs = 0 ∧ ss = 0) 10 4 [true, true, true, false, false] _ hnext (by
          rintro i hi lv st S2 cs ss ⟨rfl, rfl, rfl, rfl, rfl⟩ fu hfu
          have e3 : ((10 : Int32) ≤ nI i) = False := ge_nI hi (show 10 < 1000 by omega)
          simp only [↓cald_0, ↓calen, ↓callX7_waitedInAll_0, ↓callX7_waitedInAll_1, ↓cg_2_14, ↓cg_8_4, cisa, ki_0, ki_1, ↓vm_aload_n, ↓vm_arraylength, ↓vm_astore_n, ↓vm_checkcast, ↓vm_getfield, ↓vm_goto, ↓vm_iadd, ↓vm_iaload, ↓vm_iconst, ↓vm_if_icmp_ge, ↓vm_iinc, ↓vm_iload, ↓vm_iload_n, ↓vm_invokevirtual, ↓vm_ireturn, ↓vm_istore, ↓vm_istore_n, ↓xc_1, ↓xc_2, ↓tbX7_waitedInAll_0, ↓tbX7_waitedInAll_1, ↓tbX7_waitedInAll_2, ↓tbX7_waitedInAll_3, ↓tbX7_waitedInAll_4, ↓tbX7_waitedInAll_5, ↓tbX7_waitedInAll_6, ↓tbX7_waitedInAll_9, ↓tbX7_waitedInAll_12, ↓tbX7_waitedInAll_15, ↓tbX7_waitedInAll_16, ↓tbX7_waitedInAll_19, ↓tbX7_waitedInAll_20, ↓tbX7_waitedInAll_23, ↓tbX7_waitedInAll_26, ↓tbX7_waitedInAll_29, ↓tbX7_waitedInAll_30, ↓tbX7_waitedInAll_31, ↓tbX7_waitedInAll_33, ↓tbX7_waitedInAll_35, ↓tbX7_waitedInAll_36, ↓tbX7_waitedInAll_37, ↓tbX7_waitedInAll_40, ↓tbX7_waitedInAll_41, ↓tbX7_waitedInAll_42, ↓tbX7_waitedInAll_44, ↓tbX7_waitedInAll_45, ↓tbX7_waitedInAll_46, ↓tbX7_waitedInAll_47, ↓tbX7_waitedInAll_50, ↓tbX7_waitedInAll_53, ↓tbX7_waitedInAll_56, ↓tbX7_waitedInAll_59, ↓tbX7_waitedInAll_60, hfu, xstep0, xJ1_hit, xJ1_go, xJ2_hit1, xJ2_hit2, xJ2_go, ↓xif_t, ↓xif_f, seval, ↓xca_eq, ↓xre_l, ↓xre_r, xmask_t, xmask_f, xmask_nil, ↓xst_eq, xX_eq, eI_eq, eMc_eq, eMs_eq, eF_eq, eThr_eq, ↓xS1_mk, ↓xSI_mk, ↓xSR_mk, ↓xLI_0, ↓xLI_s, ↓xLR_0, ↓xLR_s, vRef_ref, vRef_null, vRef_rf, cat_int, cat_ref, cat_null, cat_rf, rf_some, rf_none, rf_null, rf_eq, rf_ref, ref_rf, ref_null, ref_ref, xOk_0, xOk_1, xOk_2r, xOk_2n, xOk_2f, vOpt_rf, vOpt_ref, vOpt_null, List.set_cons_zero, List.set_cons_succ, List.take_succ_cons, List.take_zero, List.drop_succ_cons, List.drop_zero, List.reverse_cons, List.reverse_nil, List.nil_append, List.cons_append, List.append_nil, List.length_cons, List.length_nil, List.map_cons, List.map_nil, List.sum_cons, List.sum_nil, Option.toList_some, Option.toList_none, xRecv_mk, true_and, and_true, true_implies, Nat.reduceAdd, Nat.reduceLeDiff, Nat.zero_le, Nat.le_refl, Nat.add_zero, Nat.zero_add, reduceIte, not_true_eq_false, not_false_eq_true, false_implies, and_self, implies_true, eq_self, Nat.reduceEqDiff, List.cons.injEq, xsn_1, xsn_2, false_and, and_false, or_false, false_or, or_true, true_or, xsn_3, xsn_4, ↓spwJx4a65c_size_8abf5, spcJx4a65c_size_8abf5, ↓spwJx4a65c_get_915e3, spcJx4a65c_get_915e3, w2, w3, e3, xin_nI hi (show 10 ≤ 1000 by omega), ix_nI (show i < 1000 by omega), nI1]
          try simp only [xif_e]
          repeat' (first | rfl | apply And.intro)) (by
          rintro lv st S2 cs ss ⟨rfl, rfl, rfl, rfl, rfl⟩ fu hfu
          have e3 : ((10 : Int32) ≤ nI 10) = True := eq_true (Int32.le_refl _)
          simp only [↓cald_0, ↓calen, ↓callX7_waitedInAll_0, ↓callX7_waitedInAll_1, ↓cg_2_14, ↓cg_8_4, cisa, ki_0, ki_1, ↓vm_aload_n, ↓vm_arraylength, ↓vm_astore_n, ↓vm_checkcast, ↓vm_getfield, ↓vm_goto, ↓vm_iadd, ↓vm_iaload, ↓vm_iconst, ↓vm_if_icmp_ge, ↓vm_iinc, ↓vm_iload, ↓vm_iload_n, ↓vm_invokevirtual, ↓vm_ireturn, ↓vm_istore, ↓vm_istore_n, ↓xc_1, ↓xc_2, ↓tbX7_waitedInAll_0, ↓tbX7_waitedInAll_1, ↓tbX7_waitedInAll_2, ↓tbX7_waitedInAll_3, ↓tbX7_waitedInAll_4, ↓tbX7_waitedInAll_5, ↓tbX7_waitedInAll_6, ↓tbX7_waitedInAll_9, ↓tbX7_waitedInAll_12, ↓tbX7_waitedInAll_15, ↓tbX7_waitedInAll_16, ↓tbX7_waitedInAll_19, ↓tbX7_waitedInAll_20, ↓tbX7_waitedInAll_23, ↓tbX7_waitedInAll_26, ↓tbX7_waitedInAll_29, ↓tbX7_waitedInAll_30, ↓tbX7_waitedInAll_31, ↓tbX7_waitedInAll_33, ↓tbX7_waitedInAll_35, ↓tbX7_waitedInAll_36, ↓tbX7_waitedInAll_37, ↓tbX7_waitedInAll_40, ↓tbX7_waitedInAll_41, ↓tbX7_waitedInAll_42, ↓tbX7_waitedInAll_44, ↓tbX7_waitedInAll_45, ↓tbX7_waitedInAll_46, ↓tbX7_waitedInAll_47, ↓tbX7_waitedInAll_50, ↓tbX7_waitedInAll_53, ↓tbX7_waitedInAll_56, ↓tbX7_waitedInAll_59, ↓tbX7_waitedInAll_60, hfu, xstep0, xJ1_hit, xJ1_go, xJ2_hit1, xJ2_hit2, xJ2_go, ↓xif_t, ↓xif_f, seval, ↓xca_eq, ↓xre_l, ↓xre_r, xmask_t, xmask_f, xmask_nil, ↓xst_eq, xX_eq, eI_eq, eMc_eq, eMs_eq, eF_eq, eThr_eq, ↓xS1_mk, ↓xSI_mk, ↓xSR_mk, ↓xLI_0, ↓xLI_s, ↓xLR_0, ↓xLR_s, vRef_ref, vRef_null, vRef_rf, cat_int, cat_ref, cat_null, cat_rf, rf_some, rf_none, rf_null, rf_eq, rf_ref, ref_rf, ref_null, ref_ref, xOk_0, xOk_1, xOk_2r, xOk_2n, xOk_2f, vOpt_rf, vOpt_ref, vOpt_null, List.set_cons_zero, List.set_cons_succ, List.take_succ_cons, List.take_zero, List.drop_succ_cons, List.drop_zero, List.reverse_cons, List.reverse_nil, List.nil_append, List.cons_append, List.append_nil, List.length_cons, List.length_nil, List.map_cons, List.map_nil, List.sum_cons, List.sum_nil, Option.toList_some, Option.toList_none, xRecv_mk, true_and, and_true, true_implies, Nat.reduceAdd, Nat.reduceLeDiff, Nat.zero_le, Nat.le_refl, Nat.add_zero, Nat.zero_add, reduceIte, not_true_eq_false, not_false_eq_true, false_implies, and_self, implies_true, eq_self, Nat.reduceEqDiff, List.cons.injEq, xsn_1, xsn_2, false_and, and_false, or_false, false_or, or_true, true_or, xsn_3, xsn_4, ↓spwJx4a65c_size_8abf5, spcJx4a65c_size_8abf5, ↓spwJx4a65c_get_915e3, spcJx4a65c_get_915e3, w2, w3, e3, nI1]
          try simp only [xif_e]
          repeat' (first | rfl | apply And.intro))
      refine xgo hG (mb := [true, true, true, true, true]) (inner 0 (Nat.zero_le _)) (fun fu hfu => ?_)
      simp only [↓cald_0, ↓calen, ↓callX7_waitedInAll_0, ↓callX7_waitedInAll_1, ↓cg_2_14, ↓cg_8_4, cisa, ki_0, ki_1, ↓vm_aload_n, ↓vm_arraylength, ↓vm_astore_n, ↓vm_checkcast, ↓vm_getfield, ↓vm_goto, ↓vm_iadd, ↓vm_iaload, ↓vm_iconst, ↓vm_if_icmp_ge, ↓vm_iinc, ↓vm_iload, ↓vm_iload_n, ↓vm_invokevirtual, ↓vm_ireturn, ↓vm_istore, ↓vm_istore_n, ↓xc_1, ↓xc_2, ↓tbX7_waitedInAll_0, ↓tbX7_waitedInAll_1, ↓tbX7_waitedInAll_2, ↓tbX7_waitedInAll_3, ↓tbX7_waitedInAll_4, ↓tbX7_waitedInAll_5, ↓tbX7_waitedInAll_6, ↓tbX7_waitedInAll_9, ↓tbX7_waitedInAll_12, ↓tbX7_waitedInAll_15, ↓tbX7_waitedInAll_16, ↓tbX7_waitedInAll_19, ↓tbX7_waitedInAll_20, ↓tbX7_waitedInAll_23, ↓tbX7_waitedInAll_26, ↓tbX7_waitedInAll_29, ↓tbX7_waitedInAll_30, ↓tbX7_waitedInAll_31, ↓tbX7_waitedInAll_33, ↓tbX7_waitedInAll_35, ↓tbX7_waitedInAll_36, ↓tbX7_waitedInAll_37, ↓tbX7_waitedInAll_40, ↓tbX7_waitedInAll_41, ↓tbX7_waitedInAll_42, ↓tbX7_waitedInAll_44, ↓tbX7_waitedInAll_45, ↓tbX7_waitedInAll_46, ↓tbX7_waitedInAll_47, ↓tbX7_waitedInAll_50, ↓tbX7_waitedInAll_53, ↓tbX7_waitedInAll_56, ↓tbX7_waitedInAll_59, ↓tbX7_waitedInAll_60, hfu, xstep0, xJ1_hit, xJ1_go, xJ2_hit1, xJ2_hit2, xJ2_go, ↓xif_t, ↓xif_f, seval, ↓xca_eq, ↓xre_l, ↓xre_r, xmask_t, xmask_f, xmask_nil, ↓xst_eq, xX_eq, eI_eq, eMc_eq, eMs_eq, eF_eq, eThr_eq, ↓xS1_mk, ↓xSI_mk, ↓xSR_mk, ↓xLI_0, ↓xLI_s, ↓xLR_0, ↓xLR_s, vRef_ref, vRef_null, vRef_rf, cat_int, cat_ref, cat_null, cat_rf, rf_some, rf_none, rf_null, rf_eq, rf_ref, ref_rf, ref_null, ref_ref, xOk_0, xOk_1, xOk_2r, xOk_2n, xOk_2f, vOpt_rf, vOpt_ref, vOpt_null, List.set_cons_zero, List.set_cons_succ, List.take_succ_cons, List.take_zero, List.drop_succ_cons, List.drop_zero, List.reverse_cons, List.reverse_nil, List.nil_append, List.cons_append, List.append_nil, List.length_cons, List.length_nil, List.map_cons, List.map_nil, List.sum_cons, List.sum_nil, Option.toList_some, Option.toList_none, xRecv_mk, true_and, and_true, true_implies, Nat.reduceAdd, Nat.reduceLeDiff, Nat.zero_le, Nat.le_refl, Nat.add_zero, Nat.zero_add, reduceIte, not_true_eq_false, not_false_eq_true, false_implies, and_self, implies_true, eq_self, Nat.reduceEqDiff, List.cons.injEq, xsn_1, xsn_2, false_and, and_false, or_false, false_or, or_true, true_or, xsn_3, xsn_4, ↓spwJx4a65c_size_8abf5, spcJx4a65c_size_8abf5, ↓spwJx4a65c_get_915e3, spcJx4a65c_get_915e3, h0, h1, hL, f1, f2, f3, e0, pos_nI (show j < 1000 by omega), e2, ix_nI (show j < 1000 by omega), g1, g2, w1]
      try simp only [xif_e]
      repeat' (first | rfl | apply And.intro)) (by
      rintro lv st S2 cs ss ⟨rfl, rfl, rfl, rfl, (rfl)⟩
      refine xgo0 hG (fun fu hfu => ?_)
      simp only [↓cald_0, ↓calen, ↓callX7_waitedInAll_0, ↓callX7_waitedInAll_1, ↓cg_2_14, ↓cg_8_4, cisa, ki_0, ki_1, ↓vm_aload_n, ↓vm_arraylength, ↓vm_astore_n, ↓vm_checkcast, ↓vm_getfield, ↓vm_goto, ↓vm_iadd, ↓vm_iaload, ↓vm_iconst, ↓vm_if_icmp_ge, ↓vm_iinc, ↓vm_iload, ↓vm_iload_n, ↓vm_invokevirtual, ↓vm_ireturn, ↓vm_istore, ↓vm_istore_n, ↓xc_1, ↓xc_2, ↓tbX7_waitedInAll_0, ↓tbX7_waitedInAll_1, ↓tbX7_waitedInAll_2, ↓tbX7_waitedInAll_3, ↓tbX7_waitedInAll_4, ↓tbX7_waitedInAll_5, ↓tbX7_waitedInAll_6, ↓tbX7_waitedInAll_9, ↓tbX7_waitedInAll_12, ↓tbX7_waitedInAll_15, ↓tbX7_waitedInAll_16, ↓tbX7_waitedInAll_19, ↓tbX7_waitedInAll_20, ↓tbX7_waitedInAll_23, ↓tbX7_waitedInAll_26, ↓tbX7_waitedInAll_29, ↓tbX7_waitedInAll_30, ↓tbX7_waitedInAll_31, ↓tbX7_waitedInAll_33, ↓tbX7_waitedInAll_35, ↓tbX7_waitedInAll_36, ↓tbX7_waitedInAll_37, ↓tbX7_waitedInAll_40, ↓tbX7_waitedInAll_41, ↓tbX7_waitedInAll_42, ↓tbX7_waitedInAll_44, ↓tbX7_waitedInAll_45, ↓tbX7_waitedInAll_46, ↓tbX7_waitedInAll_47, ↓tbX7_waitedInAll_50, ↓tbX7_waitedInAll_53, ↓tbX7_waitedInAll_56, ↓tbX7_waitedInAll_59, ↓tbX7_waitedInAll_60, hfu, xstep0, xJ1_hit, xJ1_go, xJ2_hit1, xJ2_hit2, xJ2_go, ↓xif_t, ↓xif_f, seval, ↓xca_eq, ↓xre_l, ↓xre_r, xmask_t, xmask_f, xmask_nil, ↓xst_eq, xX_eq, eI_eq, eMc_eq, eMs_eq, eF_eq, eThr_eq, ↓xS1_mk, ↓xSI_mk, ↓xSR_mk, ↓xLI_0, ↓xLI_s, ↓xLR_0, ↓xLR_s, vRef_ref, vRef_null, vRef_rf, cat_int, cat_ref, cat_null, cat_rf, rf_some, rf_none, rf_null, rf_eq, rf_ref, ref_rf, ref_null, ref_ref, xOk_0, xOk_1, xOk_2r, xOk_2n, xOk_2f, vOpt_rf, vOpt_ref, vOpt_null, List.set_cons_zero, List.set_cons_succ, List.take_succ_cons, List.take_zero, List.drop_succ_cons, List.drop_zero, List.reverse_cons, List.reverse_nil, List.nil_append, List.cons_append, List.append_nil, List.length_cons, List.length_nil, List.map_cons, List.map_nil, List.sum_cons, List.sum_nil, Option.toList_some, Option.toList_none, xRecv_mk, true_and, and_true, true_implies, Nat.reduceAdd, Nat.reduceLeDiff, Nat.zero_le, Nat.le_refl, Nat.add_zero, Nat.zero_add, reduceIte, not_true_eq_false, not_false_eq_true, false_implies, and_self, implies_true, eq_self, Nat.reduceEqDiff, List.cons.injEq, xsn_1, xsn_2, false_and, and_false, or_false, false_or, or_true, true_or, xsn_3, xsn_4, ↓spwJx4a65c_size_8abf5, spcJx4a65c_size_8abf5, ↓spwJx4a65c_get_915e3, spcJx4a65c_get_915e3, h0, h1, hL, f1, f3, le_nI_self]
      try simp only [xif_e]
      exact h)
  refine xgo hG (mb := [true, true, true, false, false]) (loop 0 (Nat.zero_le _)) (pc := 0) (fun fu hfu => ?_)
  simp only [↓cald_0, ↓calen, ↓callX7_waitedInAll_0, ↓callX7_waitedInAll_1, ↓cg_2_14, ↓cg_8_4, cisa, ki_0, ki_1, ↓vm_aload_n, ↓vm_arraylength, ↓vm_astore_n, ↓vm_checkcast, ↓vm_getfield, ↓vm_goto, ↓vm_iadd, ↓vm_iaload, ↓vm_iconst, ↓vm_if_icmp_ge, ↓vm_iinc, ↓vm_iload, ↓vm_iload_n, ↓vm_invokevirtual, ↓vm_ireturn, ↓vm_istore, ↓vm_istore_n, ↓xc_1, ↓xc_2, ↓tbX7_waitedInAll_0, ↓tbX7_waitedInAll_1, ↓tbX7_waitedInAll_2, ↓tbX7_waitedInAll_3, ↓tbX7_waitedInAll_4, ↓tbX7_waitedInAll_5, ↓tbX7_waitedInAll_6, ↓tbX7_waitedInAll_9, ↓tbX7_waitedInAll_12, ↓tbX7_waitedInAll_15, ↓tbX7_waitedInAll_16, ↓tbX7_waitedInAll_19, ↓tbX7_waitedInAll_20, ↓tbX7_waitedInAll_23, ↓tbX7_waitedInAll_26, ↓tbX7_waitedInAll_29, ↓tbX7_waitedInAll_30, ↓tbX7_waitedInAll_31, ↓tbX7_waitedInAll_33, ↓tbX7_waitedInAll_35, ↓tbX7_waitedInAll_36, ↓tbX7_waitedInAll_37, ↓tbX7_waitedInAll_40, ↓tbX7_waitedInAll_41, ↓tbX7_waitedInAll_42, ↓tbX7_waitedInAll_44, ↓tbX7_waitedInAll_45, ↓tbX7_waitedInAll_46, ↓tbX7_waitedInAll_47, ↓tbX7_waitedInAll_50, ↓tbX7_waitedInAll_53, ↓tbX7_waitedInAll_56, ↓tbX7_waitedInAll_59, ↓tbX7_waitedInAll_60, hfu, xstep0, xJ1_hit, xJ1_go, xJ2_hit1, xJ2_hit2, xJ2_go, ↓xif_t, ↓xif_f, seval, ↓xca_eq, ↓xre_l, ↓xre_r, xmask_t, xmask_f, xmask_nil, ↓xst_eq, xX_eq, eI_eq, eMc_eq, eMs_eq, eF_eq, eThr_eq, ↓xS1_mk, ↓xSI_mk, ↓xSR_mk, ↓xLI_0, ↓xLI_s, ↓xLR_0, ↓xLR_s, vRef_ref, vRef_null, vRef_rf, cat_int, cat_ref, cat_null, cat_rf, rf_some, rf_none, rf_null, rf_eq, rf_ref, ref_rf, ref_null, ref_ref, xOk_0, xOk_1, xOk_2r, xOk_2n, xOk_2f, vOpt_rf, vOpt_ref, vOpt_null, List.set_cons_zero, List.set_cons_succ, List.take_succ_cons, List.take_zero, List.drop_succ_cons, List.drop_zero, List.reverse_cons, List.reverse_nil, List.nil_append, List.cons_append, List.append_nil, List.length_cons, List.length_nil, List.map_cons, List.map_nil, List.sum_cons, List.sum_nil, Option.toList_some, Option.toList_none, xRecv_mk, true_and, and_true, true_implies, Nat.reduceAdd, Nat.reduceLeDiff, Nat.zero_le, Nat.le_refl, Nat.add_zero, Nat.zero_add, reduceIte, not_true_eq_false, not_false_eq_true, false_implies, and_self, implies_true, eq_self, Nat.reduceEqDiff, List.cons.injEq, xsn_1, xsn_2, false_and, and_false, or_false, false_or, or_true, true_or, xsn_3, xsn_4, ↓spwJx4a65c_size_8abf5, spcJx4a65c_size_8abf5, ↓spwJx4a65c_get_915e3, spcJx4a65c_get_915e3]
  try simp only [xif_e]
  repeat' (first | rfl | apply And.intro)
