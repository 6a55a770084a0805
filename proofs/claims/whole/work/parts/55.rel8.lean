/-! To tell, with what it costs: a page only where the last one is full. -/
def stC (S : cS) (st : Nat) : Nat × Nat := if cFi S (cRf S st 701) 401 = 64 then (2, 67) else (0, 0)
def tlC (av : List Value) (S : cS) : Nat × Nat := match av with
  | .ref a :: _ => stC S a
  | _ => (0, 0)
def enC (av : List Value) (S : cS) : Nat × Nat := match av with
  | .ref a :: _ => stC S (cRf S a 806)
  | _ => (0, 0)

def spX6_tellB (W9 : xWd) : xSp cS := (fun av S => tlC av S, fun av S K => ∃ (a : Nat) (e : Int32) (w : Int32) (p : Int32), av = [.ref a, .int e, .int w, .int p] ∧ (∃ N x u, stL S a N x u ∧ ∀ S2, tlR S a N x u (cNote e w p) S2 → K rV S2))
theorem spcX6_tellB {av : List Value} {S : cS} {W9 : xWd} : (spX6_tellB W9).1 av S = tlC av S := rfl
theorem spwX6_tellB {S : cS} {W9 : xWd} {K : xRes → cS → Prop} {a : Nat} {e : Int32} {w : Int32} {p : Int32} : (spX6_tellB W9).2 [.ref a, .int e, .int w, .int p] S K = (∃ N x u, stL S a N x u ∧ ∀ S2, tlR S a N x u (cNote e w p) S2 → K rV S2) :=
  propext ⟨fun h => by
    simp only [spX6_tellB] at h
    obtain ⟨_, _, _, _, e, h⟩ := h
    simp only [List.cons.injEq, Value.int.injEq, Value.ref.injEq, rf_eq, and_true, true_and] at e
    obtain ⟨rfl, rfl, rfl, rfl⟩ := e
    exact h, fun h => ⟨_, _, _, _, rfl, h⟩⟩

set_option maxHeartbeats 1500000 in
set_option maxRecDepth 20000 in
theorem semX6_tellB (l : Launch) (hl : l.stackTraces = false) (W9 : xWd) : xSem l W9 (cI) yX6_tell wsX6_tell 2 40 (spX6_tellB W9) := by
  refine xSem_of (call := callX6_tell W9) (thrf := fun _ => "") cI_law (by decide +kernel) rfl ckX6_tell usX6_tell (crX6_tell l hl W9) xThrOK_nil ?_ ?_
  · intro av S KF h
    obtain ⟨a, e, w, p, rfl, h⟩ := h
    exact ⟨by intro v hv; simp only [List.mem_cons, List.not_mem_nil, or_false] at hv; rcases hv with rfl | rfl | rfl | rfl <;> first | rfl | exact cat_rf, Nat.le_of_ble_eq_true rfl⟩
  intro av S KF h G hG
  obtain ⟨a, e, w, p, rfl, h⟩ := h
  rw [show (spX6_tellB W9).1 _ S = _ from spcX6_tellB] at hG
  try dsimp only at hG
  change G 0 [some (.ref a), some (.int e), some (.int w), some (.int p), none] [] S 0 0
  obtain ⟨N, x, u, ⟨h0, h1, h2, h3, h4, ⟨h5, h6⟩, h7, h8, h9⟩, hT⟩ := h

  have hCost : stC S a = (if u = 64 then (2, 67) else (0, 0)) := by
    unfold stC
    have z : cRf S a 701 = x := by unfold cRf; rw [h3]; rfl
    rw [z, h8, show (64 : Int32) = nI 64 from rfl]
    by_cases c : u = 64
    · rw [if_pos c, if_pos (by rw [c])]
    · rw [if_neg c, if_neg (fun y => c (by rw [eq_nI (by omega) (by omega)] at y; exact y))]
  change xClosed _ _ _ (stC S a).1 (stC S a).2 _ _ G at hG
  rw [hCost] at hG
  generalize hmc : (if u = 64 then ((2, 67) : Nat × Nat) else (0, 0)) = C at hG
  have e0 := big_N h2
  have e1 : cRf S a 701 = x := by unfold cRf; rw [h3]; rfl
  have hA : u < 64 → KF rV (cTl1 S a N x u (cNote e w p)) := fun z => hT _ (Or.inl ⟨z, rfl⟩)
  have hB : u = 64 → ∀ q, cDead S q → ∀ q2, cDead (cNewO S q 4) q2 → KF rV (cTl2 S a N x q q2 (cNote e w p)) := fun z q hq q2 hq2 => hT _ (Or.inr ⟨z, q, q2, hq, hq2, rfl⟩)
  unfold cNote at hA hB
  have c45 : ∀ (S1 : cS) (x1 d u1 cs ss : Nat), cs ≤ C.1 → ss ≤ C.2 → cK S1 a = 8 → cFi S1 a 702 = nI N → cFr S1 a 701 = some x1 → cK S1 x1 = 5 → cFr S1 x1 400 = some d → cK S1 d = 11 → cLen S1 d = 64 → cFi S1 x1 401 = nI u1 → u1 < 64 → x1 ≠ a → KF rV (cSetI (cSetI (cAst S1 d u1 (e <<< (16 &&& 31) ||| w <<< (8 &&& 31) ||| p)) x1 401 (nI (u1 + 1))) a 702 (nI (N + 1))) → G 45 [some (.ref a), some (.int e), some (.int w), some (.int p), none] [] S1 cs ss := by
    intro S1 x1 d u1 cs ss i1 i2 i3 i4 i5 i6 i7 i8 i9 i10 i11 i12 hk
    have f1 : cRf S1 x1 400 = d := by unfold cRf; rw [i7]; rfl
    have f2 : cIn S1 x1 400 11 := ⟨by rw [f1]; exact i7, by rw [f1]; exact i8⟩
    have f3 : (a = x1) = False := eq_false (fun z => i12 z.symm)
    have f4 : cLen S1 (cRf S1 x1 400) = 64 := by rw [f1]; exact i9
    refine xgo0 hG (fun fu hfu => ?_)
    simp only [↓callX6_tell_0, ↓callX6_tell_1, ↓callX6_tell_2, ↓cg_7_1, ↓cg_7_2, cisa, ↓cnew, ↓cp_7_2, ↓cpf_4_2, ↓cpf_7_1, ↓cpn_4_2, ↓cpn_7_1, ↓cpr_4_2, ↓cpr_7_1, kb_16, kb_8, kc_16, kc_8, ki_1, ks_8192, kt_8192, ↓vm_aload, ↓vm_aload_n, ↓vm_astore, ↓vm_bipush, ↓vm_dup, ↓vm_getfield, ↓vm_iadd, ↓vm_iconst, ↓vm_ifCond_eq, ↓vm_if_icmp_lt, ↓vm_iload_n, ↓vm_invokespecial, ↓vm_invokevirtual, ↓vm_ior, ↓vm_ishl, ↓vm_newO, ↓vm_putfield, ↓vm_return_, ↓vm_sipush, ↓xc_1, ↓xc_2, ↓tbX6_tell_0, ↓tbX6_tell_1, ↓tbX6_tell_4, ↓tbX6_tell_7, ↓tbX6_tell_10, ↓tbX6_tell_11, ↓tbX6_tell_12, ↓tbX6_tell_15, ↓tbX6_tell_18, ↓tbX6_tell_21, ↓tbX6_tell_24, ↓tbX6_tell_25, ↓tbX6_tell_28, ↓tbX6_tell_30, ↓tbX6_tell_31, ↓tbX6_tell_34, ↓tbX6_tell_36, ↓tbX6_tell_39, ↓tbX6_tell_40, ↓tbX6_tell_42, ↓tbX6_tell_45, ↓tbX6_tell_46, ↓tbX6_tell_49, ↓tbX6_tell_50, ↓tbX6_tell_52, ↓tbX6_tell_53, ↓tbX6_tell_54, ↓tbX6_tell_56, ↓tbX6_tell_57, ↓tbX6_tell_58, ↓tbX6_tell_59, ↓tbX6_tell_60, ↓tbX6_tell_63, ↓tbX6_tell_64, ↓tbX6_tell_65, ↓tbX6_tell_68, ↓tbX6_tell_69, ↓tbX6_tell_70, ↓tbX6_tell_73, hfu, xstep0, xJ1_hit, xJ1_go, xJ2_hit1, xJ2_hit2, xJ2_go, ↓xif_t, ↓xif_f, seval, ↓xca_eq, ↓xre_l, ↓xre_r, xmask_t, xmask_f, xmask_nil, ↓xst_eq, xX_eq, eI_eq, eMc_eq, eMs_eq, eF_eq, eThr_eq, ↓xS1_mk, ↓xSI_mk, ↓xSR_mk, ↓xLI_0, ↓xLI_s, ↓xLR_0, ↓xLR_s, vRef_ref, vRef_null, vRef_rf, cat_int, cat_ref, cat_null, cat_rf, rf_some, rf_none, rf_null, rf_eq, rf_ref, ref_rf, ref_null, ref_ref, xOk_0, xOk_1, xOk_2r, xOk_2n, xOk_2f, vOpt_rf, vOpt_ref, vOpt_null, List.set_cons_zero, List.set_cons_succ, List.take_succ_cons, List.take_zero, List.drop_succ_cons, List.drop_zero, List.reverse_cons, List.reverse_nil, List.nil_append, List.cons_append, List.append_nil, List.length_cons, List.length_nil, List.map_cons, List.map_nil, List.sum_cons, List.sum_nil, Option.toList_some, Option.toList_none, xRecv_mk, true_and, and_true, true_implies, Nat.reduceAdd, Nat.reduceLeDiff, Nat.zero_le, Nat.le_refl, Nat.add_zero, Nat.zero_add, reduceIte, not_true_eq_false, not_false_eq_true, false_implies, and_self, implies_true, eq_self, Nat.reduceEqDiff, List.cons.injEq, xsn_1, xsn_2, false_and, and_false, or_false, false_or, or_true, true_or, xsn_3, xsn_4, cK_ast, cFr_ast, cLen_ast, cFi_ast, ↓spwX3_isFull, spcX3_isFull, ↓spwX3_init, spcX3_init, ↓spwX3_write, spcX3_write, i3, i5, i6, f2]
    try simp only [xif_e]
    refine ⟨by omega, by omega, u1, i10, by rw [f4]; exact i11, f4, ?_⟩
    simp only [cK_setI, cK_ast, i3, cFi_setI, cFi_ast, f3, i4, nI1, f1, false_and, if_false, true_and]
    first | exact ⟨i1, i2, hk⟩ | exact hk | grind
  have hxa : x ≠ a := fun z => by rw [z] at h4; omega
  by_cases c : u < 64
  · have e2 : (64 : Int32) ≤ nI u ↔ False := by
      have := ge_nI c (show 64 < 1000 by omega)
      rw [show (64 : Int32) = nI 64 from rfl, this]
    have e2 := propext e2
    have e3 : bi ((64 : Int32) ≤ nI u) = 0 := bi_f (fun z => e2.mp z)
    refine xgo hG (head := 45) (mb := [true, true, true, true, false]) (P := fun lv st S1 cs ss => lv = [some (.ref a), some (.int e), some (.int w), some (.int p), none] ∧ st = [] ∧ S = S1 ∧ cs = 0 ∧ ss = 0) (fun lv st S1 cs ss hP => ?_) (fun fu hfu => ?_)
    · obtain ⟨rfl, rfl, rfl, rfl, rfl⟩ := hP
      exact c45 S x (cRf S x 400) u 0 0 (Nat.zero_le _) (Nat.zero_le _) h0 h1 h3 h4 h5 h6 h7 h8 c hxa (hA c)
    · have h56 : cIn S x 400 11 := ⟨h5, h6⟩
      simp only [↓callX6_tell_0, ↓callX6_tell_1, ↓callX6_tell_2, ↓cg_7_1, ↓cg_7_2, cisa, ↓cnew, ↓cp_7_2, ↓cpf_4_2, ↓cpf_7_1, ↓cpn_4_2, ↓cpn_7_1, ↓cpr_4_2, ↓cpr_7_1, kb_16, kb_8, kc_16, kc_8, ki_1, ks_8192, kt_8192, ↓vm_aload, ↓vm_aload_n, ↓vm_astore, ↓vm_bipush, ↓vm_dup, ↓vm_getfield, ↓vm_iadd, ↓vm_iconst, ↓vm_ifCond_eq, ↓vm_if_icmp_lt, ↓vm_iload_n, ↓vm_invokespecial, ↓vm_invokevirtual, ↓vm_ior, ↓vm_ishl, ↓vm_newO, ↓vm_putfield, ↓vm_return_, ↓vm_sipush, ↓xc_1, ↓xc_2, ↓tbX6_tell_0, ↓tbX6_tell_1, ↓tbX6_tell_4, ↓tbX6_tell_7, ↓tbX6_tell_10, ↓tbX6_tell_11, ↓tbX6_tell_12, ↓tbX6_tell_15, ↓tbX6_tell_18, ↓tbX6_tell_21, ↓tbX6_tell_24, ↓tbX6_tell_25, ↓tbX6_tell_28, ↓tbX6_tell_30, ↓tbX6_tell_31, ↓tbX6_tell_34, ↓tbX6_tell_36, ↓tbX6_tell_39, ↓tbX6_tell_40, ↓tbX6_tell_42, ↓tbX6_tell_45, ↓tbX6_tell_46, ↓tbX6_tell_49, ↓tbX6_tell_50, ↓tbX6_tell_52, ↓tbX6_tell_53, ↓tbX6_tell_54, ↓tbX6_tell_56, ↓tbX6_tell_57, ↓tbX6_tell_58, ↓tbX6_tell_59, ↓tbX6_tell_60, ↓tbX6_tell_63, ↓tbX6_tell_64, ↓tbX6_tell_65, ↓tbX6_tell_68, ↓tbX6_tell_69, ↓tbX6_tell_70, ↓tbX6_tell_73, hfu, xstep0, xJ1_hit, xJ1_go, xJ2_hit1, xJ2_hit2, xJ2_go, ↓xif_t, ↓xif_f, seval, ↓xca_eq, ↓xre_l, ↓xre_r, xmask_t, xmask_f, xmask_nil, ↓xst_eq, xX_eq, eI_eq, eMc_eq, eMs_eq, eF_eq, eThr_eq, ↓xS1_mk, ↓xSI_mk, ↓xSR_mk, ↓xLI_0, ↓xLI_s, ↓xLR_0, ↓xLR_s, vRef_ref, vRef_null, vRef_rf, cat_int, cat_ref, cat_null, cat_rf, rf_some, rf_none, rf_null, rf_eq, rf_ref, ref_rf, ref_null, ref_ref, xOk_0, xOk_1, xOk_2r, xOk_2n, xOk_2f, vOpt_rf, vOpt_ref, vOpt_null, List.set_cons_zero, List.set_cons_succ, List.take_succ_cons, List.take_zero, List.drop_succ_cons, List.drop_zero, List.reverse_cons, List.reverse_nil, List.nil_append, List.cons_append, List.append_nil, List.length_cons, List.length_nil, List.map_cons, List.map_nil, List.sum_cons, List.sum_nil, Option.toList_some, Option.toList_none, xRecv_mk, true_and, and_true, true_implies, Nat.reduceAdd, Nat.reduceLeDiff, Nat.zero_le, Nat.le_refl, Nat.add_zero, Nat.zero_add, reduceIte, not_true_eq_false, not_false_eq_true, false_implies, and_self, implies_true, eq_self, Nat.reduceEqDiff, List.cons.injEq, xsn_1, xsn_2, false_and, and_false, or_false, false_or, or_true, true_or, xsn_3, xsn_4, cK_ast, cFr_ast, cLen_ast, cFi_ast, ↓spwX3_isFull, spcX3_isFull, ↓spwX3_init, spcX3_init, ↓spwX3_write, spcX3_write, h0, h1, e0, h3, h4, h56, h7, h8, e3]
      try simp only [xif_e]
  · have hu : u = 64 := by omega
    have hr := hB hu
    subst hu
    rw [if_pos rfl] at hmc
    subst hmc
    have e3 : bi ((64 : Int32) ≤ nI 64) = 1 := bi_t (Int32.le_refl _)
    have c24 : ∀ q, cDead S q → ∀ q2, cDead (cNewO S q 4) q2 → G 45 [some (.ref a), some (.int e), some (.int w), some (.int p), none] [] (cSetR (cSetR (cPg S q q2) x 402 (some q)) a 701 (some q)) 2 67 := by
      intro q hq q2 hq2
      obtain ⟨m1, m2⟩ := (dead_nO (by omega)).mp hq2
      have n1 := ne_dead h0 (by omega) hq
      have n2 := ne_dead h0 (by omega) m2
      have n3 := ne_dead h4 (by omega) hq
      have n4 := ne_dead h4 (by omega) m2
      have n5 := ne_dead' h0 (by omega) hq
      have n6 : (q = q2) = False := eq_false (fun z => m1 z.symm)
      have n7 : (q2 = q) = False := eq_false m1
      have n8 := ne_dead' h4 (by omega) hq
      have n9 : (x = a) = False := eq_false hxa
      refine c45 _ q q2 0 2 67 (by omega) (by omega) ?_ ?_ ?_ ?_ ?_ ?_ ?_ ?_ (by omega) (fun z => n5.mp z) (hr q hq q2 hq2)
      all_goals unfold cPg
      all_goals simp only [cK_setR, cFi_setR, cFr_setR, cLen_setR, cK_newI, cFi_newI, cFr_newI, cLen_newI, cK_newO, cFi_newO, cFr_newO, h0, h1, n1, n2, n3, n4, n5, n6, n7, n8, n9, Nat.reduceEqDiff, and_true, true_and, false_and, and_false, and_self, if_true, if_false]
      all_goals first | rfl | exact h0 | exact h1
    have c24b : ∀ q, cDead S q → G 24 [some (.ref a), some (.int e), some (.int w), some (.int p), none] [.ref q] (cNewO S q 4) 1 3 := by
      intro q hq
      have n1 := ne_dead h0 (by omega) hq
      have n3 := ne_dead h4 (by omega) hq
      refine xgo hG (head := 45) (mb := [true, true, true, true, false]) (P := fun lv st S1 cs ss => ∃ q2, cDead (cNewO S q 4) q2 ∧ lv = [some (.ref a), some (.int e), some (.int w), some (.int p), none] ∧ st = [] ∧ S1 = cSetR (cSetR (cPg S q q2) x 402 (some q)) a 701 (some q) ∧ cs = 2 ∧ ss = 67) (fun lv st S1 cs ss hP => ?_) (fun fu hfu => ?_)
      · obtain ⟨q2, hq2, rfl, rfl, rfl, rfl, rfl⟩ := hP
        exact c24 q hq q2 hq2
      · simp only [↓callX6_tell_0, ↓callX6_tell_1, ↓callX6_tell_2, ↓cg_7_1, ↓cg_7_2, cisa, ↓cnew, ↓cp_7_2, ↓cpf_4_2, ↓cpf_7_1, ↓cpn_4_2, ↓cpn_7_1, ↓cpr_4_2, ↓cpr_7_1, kb_16, kb_8, kc_16, kc_8, ki_1, ks_8192, kt_8192, ↓vm_aload, ↓vm_aload_n, ↓vm_astore, ↓vm_bipush, ↓vm_dup, ↓vm_getfield, ↓vm_iadd, ↓vm_iconst, ↓vm_ifCond_eq, ↓vm_if_icmp_lt, ↓vm_iload_n, ↓vm_invokespecial, ↓vm_invokevirtual, ↓vm_ior, ↓vm_ishl, ↓vm_newO, ↓vm_putfield, ↓vm_return_, ↓vm_sipush, ↓xc_1, ↓xc_2, ↓tbX6_tell_0, ↓tbX6_tell_1, ↓tbX6_tell_4, ↓tbX6_tell_7, ↓tbX6_tell_10, ↓tbX6_tell_11, ↓tbX6_tell_12, ↓tbX6_tell_15, ↓tbX6_tell_18, ↓tbX6_tell_21, ↓tbX6_tell_24, ↓tbX6_tell_25, ↓tbX6_tell_28, ↓tbX6_tell_30, ↓tbX6_tell_31, ↓tbX6_tell_34, ↓tbX6_tell_36, ↓tbX6_tell_39, ↓tbX6_tell_40, ↓tbX6_tell_42, ↓tbX6_tell_45, ↓tbX6_tell_46, ↓tbX6_tell_49, ↓tbX6_tell_50, ↓tbX6_tell_52, ↓tbX6_tell_53, ↓tbX6_tell_54, ↓tbX6_tell_56, ↓tbX6_tell_57, ↓tbX6_tell_58, ↓tbX6_tell_59, ↓tbX6_tell_60, ↓tbX6_tell_63, ↓tbX6_tell_64, ↓tbX6_tell_65, ↓tbX6_tell_68, ↓tbX6_tell_69, ↓tbX6_tell_70, ↓tbX6_tell_73, hfu, xstep0, xJ1_hit, xJ1_go, xJ2_hit1, xJ2_hit2, xJ2_go, ↓xif_t, ↓xif_f, seval, ↓xca_eq, ↓xre_l, ↓xre_r, xmask_t, xmask_f, xmask_nil, ↓xst_eq, xX_eq, eI_eq, eMc_eq, eMs_eq, eF_eq, eThr_eq, ↓xS1_mk, ↓xSI_mk, ↓xSR_mk, ↓xLI_0, ↓xLI_s, ↓xLR_0, ↓xLR_s, vRef_ref, vRef_null, vRef_rf, cat_int, cat_ref, cat_null, cat_rf, rf_some, rf_none, rf_null, rf_eq, rf_ref, ref_rf, ref_null, ref_ref, xOk_0, xOk_1, xOk_2r, xOk_2n, xOk_2f, vOpt_rf, vOpt_ref, vOpt_null, List.set_cons_zero, List.set_cons_succ, List.take_succ_cons, List.take_zero, List.drop_succ_cons, List.drop_zero, List.reverse_cons, List.reverse_nil, List.nil_append, List.cons_append, List.append_nil, List.length_cons, List.length_nil, List.map_cons, List.map_nil, List.sum_cons, List.sum_nil, Option.toList_some, Option.toList_none, xRecv_mk, true_and, and_true, true_implies, Nat.reduceAdd, Nat.reduceLeDiff, Nat.zero_le, Nat.le_refl, Nat.add_zero, Nat.zero_add, reduceIte, not_true_eq_false, not_false_eq_true, false_implies, and_self, implies_true, eq_self, Nat.reduceEqDiff, List.cons.injEq, xsn_1, xsn_2, false_and, and_false, or_false, false_or, or_true, true_or, xsn_3, xsn_4, cK_ast, cFr_ast, cLen_ast, cFi_ast, ↓spwX3_isFull, spcX3_isFull, ↓spwX3_init, spcX3_init, ↓spwX3_write, spcX3_write, cK_newO, cFr_newO, cK_newI, cFr_newI, cK_setR, cFr_setR, h0, h3, h4, n1, n3]
        try simp only [xif_e]
        intro q2 hq2
        obtain ⟨m1, m2⟩ := (dead_nO (by omega)).mp hq2
        have n2 := ne_dead h0 (by omega) m2
        have n4 := ne_dead h4 (by omega) m2
        simp only [n2, n4, if_false, true_and, false_and, h0, h4]
        first | exact ⟨q2, hq2, rfl⟩ | exact ⟨q2, hq2, rfl, rfl⟩ | exact ⟨q2, hq2, rfl, rfl, rfl⟩ | exact ⟨q2, hq2, rfl, rfl, rfl, rfl, rfl⟩ | grind
    refine xgo hG (head := 24) (mb := [true, true, true, true, false]) (P := fun lv st S1 cs ss => ∃ q, cDead S q ∧ lv = [some (.ref a), some (.int e), some (.int w), some (.int p), none] ∧ st = [.ref q] ∧ S1 = cNewO S q 4 ∧ cs = 1 ∧ ss = 3) (fun lv st S1 cs ss hP => ?_) (fun fu hfu => ?_)
    · obtain ⟨q, hq, rfl, rfl, rfl, rfl, rfl⟩ := hP
      exact c24b q hq
    · have h56 : cIn S x 400 11 := ⟨h5, h6⟩
      simp only [↓callX6_tell_0, ↓callX6_tell_1, ↓callX6_tell_2, ↓cg_7_1, ↓cg_7_2, cisa, ↓cnew, ↓cp_7_2, ↓cpf_4_2, ↓cpf_7_1, ↓cpn_4_2, ↓cpn_7_1, ↓cpr_4_2, ↓cpr_7_1, kb_16, kb_8, kc_16, kc_8, ki_1, ks_8192, kt_8192, ↓vm_aload, ↓vm_aload_n, ↓vm_astore, ↓vm_bipush, ↓vm_dup, ↓vm_getfield, ↓vm_iadd, ↓vm_iconst, ↓vm_ifCond_eq, ↓vm_if_icmp_lt, ↓vm_iload_n, ↓vm_invokespecial, ↓vm_invokevirtual, ↓vm_ior, ↓vm_ishl, ↓vm_newO, ↓vm_putfield, ↓vm_return_, ↓vm_sipush, ↓xc_1, ↓xc_2, ↓tbX6_tell_0, ↓tbX6_tell_1, ↓tbX6_tell_4, ↓tbX6_tell_7, ↓tbX6_tell_10, ↓tbX6_tell_11, ↓tbX6_tell_12, ↓tbX6_tell_15, ↓tbX6_tell_18, ↓tbX6_tell_21, ↓tbX6_tell_24, ↓tbX6_tell_25, ↓tbX6_tell_28, ↓tbX6_tell_30, ↓tbX6_tell_31, ↓tbX6_tell_34, ↓tbX6_tell_36, ↓tbX6_tell_39, ↓tbX6_tell_40, ↓tbX6_tell_42, ↓tbX6_tell_45, ↓tbX6_tell_46, ↓tbX6_tell_49, ↓tbX6_tell_50, ↓tbX6_tell_52, ↓tbX6_tell_53, ↓tbX6_tell_54, ↓tbX6_tell_56, ↓tbX6_tell_57, ↓tbX6_tell_58, ↓tbX6_tell_59, ↓tbX6_tell_60, ↓tbX6_tell_63, ↓tbX6_tell_64, ↓tbX6_tell_65, ↓tbX6_tell_68, ↓tbX6_tell_69, ↓tbX6_tell_70, ↓tbX6_tell_73, hfu, xstep0, xJ1_hit, xJ1_go, xJ2_hit1, xJ2_hit2, xJ2_go, ↓xif_t, ↓xif_f, seval, ↓xca_eq, ↓xre_l, ↓xre_r, xmask_t, xmask_f, xmask_nil, ↓xst_eq, xX_eq, eI_eq, eMc_eq, eMs_eq, eF_eq, eThr_eq, ↓xS1_mk, ↓xSI_mk, ↓xSR_mk, ↓xLI_0, ↓xLI_s, ↓xLR_0, ↓xLR_s, vRef_ref, vRef_null, vRef_rf, cat_int, cat_ref, cat_null, cat_rf, rf_some, rf_none, rf_null, rf_eq, rf_ref, ref_rf, ref_null, ref_ref, xOk_0, xOk_1, xOk_2r, xOk_2n, xOk_2f, vOpt_rf, vOpt_ref, vOpt_null, List.set_cons_zero, List.set_cons_succ, List.take_succ_cons, List.take_zero, List.drop_succ_cons, List.drop_zero, List.reverse_cons, List.reverse_nil, List.nil_append, List.cons_append, List.append_nil, List.length_cons, List.length_nil, List.map_cons, List.map_nil, List.sum_cons, List.sum_nil, Option.toList_some, Option.toList_none, xRecv_mk, true_and, and_true, true_implies, Nat.reduceAdd, Nat.reduceLeDiff, Nat.zero_le, Nat.le_refl, Nat.add_zero, Nat.zero_add, reduceIte, not_true_eq_false, not_false_eq_true, false_implies, and_self, implies_true, eq_self, Nat.reduceEqDiff, List.cons.injEq, xsn_1, xsn_2, false_and, and_false, or_false, false_or, or_true, true_or, xsn_3, xsn_4, cK_ast, cFr_ast, cLen_ast, cFi_ast, ↓spwX3_isFull, spcX3_isFull, ↓spwX3_init, spcX3_init, ↓spwX3_write, spcX3_write, h0, h1, e0, h3, h4, h56, h7, h8, e3]
      try simp only [xif_e]
      intro q hq
      first | exact ⟨q, hq, rfl⟩ | exact ⟨q, hq, rfl, rfl⟩ | exact ⟨q, hq, rfl, rfl, rfl⟩ | exact ⟨q, hq, rfl, rfl, rfl, rfl, rfl⟩

/-- the whole relation -/
def rLat (d : Nat → Nat → Nat) (S : cS) (M : mS) (np : Nat) : Prop := (∀ g, g < nBg M → lq d S 0 1 (nI g) np = (if M.2 28 g = -1 then cNote 0 (nI g) (M.2 27 g / 2) else cNote 1 (nI g) (M.2 28 g))) ∧ ∀ w, w < nBt M → lq d S 2 3 (nI w) np = (if M.2 34 w = -1 then cNote 2 (nI w) (M.2 33 w) else cNote 3 (nI w) (M.2 34 w))
def RRd (W9 : xWd) (B a : Nat) (d : Nat → Nat → Nat) (S : cS) (M : mS) (np N : Nat) : Prop := dInj d ∧ d 9 0 = a ∧ iAll M ∧ R0 W9 d S M ∧ rPg d S np N ∧ rLat d S M np ∧ N + ways M (nBt M) ≤ B ∧ B ≤ 8000
def RR (W9 : xWd) (B a : Nat) (S : cS) (M : mS) : Prop := ∃ d np N, RRd W9 B a d S M np N
def RRu (W9 : xWd) (B a : Nat) (S : cS) (M : mS) (U : Nat) : Prop := ∃ d np N, RRd W9 B a d S M np N ∧ pU S d (np - 1) = U
theorem rPg.keep {d : Nat → Nat → Nat} {S S2 : cS} {np N : Nat} {X : Nat → Prop} (h : rPg d S np N) (hc : chg S S2 X) (h9 : ¬ X (d 9 2)) (h11 : ∀ j, ¬ X (d 11 j)) (h12 : ∀ j, ¬ X (d 12 j)) : rPg d S2 np N ∧ (∀ j, pU S2 d j = pU S d j) ∧ ∀ e f w n, lq d S2 e f w n = lq d S e f w n := by
  have hU : ∀ j, pU S2 d j = pU S d j := fun j => by unfold pU; rw [(hc.1 _ (h11 j)).1]
  obtain ⟨⟨a1, a2, a3, a4⟩, a5, a6⟩ := h
  refine ⟨⟨⟨(hc.2.2.1 _).trans a1, by rw [(hc.1 _ h9).2.1]; exact a2, by rw [(hc.1 _ h9).2.1]; exact a3, by rw [(hc.1 _ h9).1]; exact a4⟩, a5, fun j hj => ?_⟩, hU, fun e f w n => lq_same n (fun j _ => ⟨hU j, (hc.1 _ (h12 j)).2.2⟩)⟩
  obtain ⟨b1, b2, b3, b4, b5, b6⟩ := a6 j hj
  rw [hc.2.2.1, hc.2.2.1, hc.2.2.2, hU, (hc.1 _ (h11 j)).1, (hc.1 _ (h11 j)).2.1]
  exact ⟨b1, b2, b3, b4, b5, b6⟩
theorem rLat_boat {d d2 : Nat → Nat → Nat} {S S2 : cS} {M M2 : mS} {np np2 e w p : Nat} (hi : iAll M) (hl : rLat d S M np) (hq : ∀ f g x, lq d2 S2 f g x np2 = if mtc (cNote (nI e) (nI w) (nI p)) f g x then cNote (nI e) (nI w) (nI p) else lq d S f g x np) (he : e = 2 ∨ e = 3) (hw : w < nBt M) (hp : p < 8) (c22 : M2.1 22 = M.1 22) (c29 : M2.1 29 = M.1 29) (m27 : M2.2 27 = M.2 27) (m28 : M2.2 28 = M.2 28) (hs : ∀ x, x ≠ w → M2.2 34 x = M.2 34 x ∧ M2.2 33 x = M.2 33 x) (hv : (if M2.2 34 w = -1 then cNote 2 (nI w) (M2.2 33 w) else cNote 3 (nI w) (M2.2 34 w)) = cNote (nI e) (nI w) (nI p)) : rLat d2 S2 M2 np2 := by
  have n22 : nBg M2 = nBg M := by unfold nBg; rw [c22]
  have n29 : nBt M2 = nBt M := by unfold nBt; rw [c29]
  have hb := hi.1.1.2
  obtain ⟨z1, z2, -⟩ := note_dec e (by omega) w (by omega) p hp
  refine ⟨fun g hg => ?_, fun x hx => ?_⟩
  · rw [n22] at hg
    rw [hq, if_neg, m27, m28]
    · exact hl.1 g hg
    · rintro ⟨y, -⟩
      rw [z1] at y
      rcases he with rfl | rfl <;> rcases y with y | y <;> exact absurd y (by decide)
  · rw [n29] at hx
    rw [hq]
    by_cases c : x = w
    · subst c
      rw [if_pos, hv]
      refine ⟨?_, z2⟩
      rw [z1]
      rcases he with rfl | rfl
      · exact Or.inl rfl
      · exact Or.inr rfl
    · rw [if_neg, (hs x c).1, (hs x c).2]
      · exact hl.2 x hx
      · rintro ⟨-, y⟩
        rw [z2, eq_nI (by omega) (by omega)] at y
        exact c y.symm
theorem stC_of {d : Nat → Nat → Nat} {S : cS} {np N : Nat} (h : rPg d S np N) : stC S (d 9 2) = if pU S d (np - 1) = 64 then (2, 67) else (0, 0) := by
  have hnp := h.2.1
  obtain ⟨-, -, -, -, ⟨b1, b2⟩, -⟩ := h.2.2 (np - 1) (by omega)
  unfold stC
  have e : cRf S (d 9 2) 701 = d 11 (np - 1) := by unfold cRf; rw [h.1.2.2.1]; rfl
  rw [e, b1, show (64 : Int32) = nI 64 from rfl]
  by_cases c : pU S d (np - 1) = 64
  · rw [if_pos c, if_pos (by rw [c])]
  · rw [if_neg c, if_neg (fun y => c (by rw [eq_nI (by omega) (by omega)] at y; exact y))]

/-- a boat sets out -/
def cOut (S : cS) (b s : Nat) (e u o : Int32) : cS := cSetI (cSetI (cSetI (cSetI (cSetI (cSetI (cSetI S b 204 (cFi S b 204 - cFi S b 201 * o)) b 206 (-1)) b 207 e) b 208 u) b 209 o) s 612 (if u = cFi S s 611 then cFi S s 612 + 1 else 1)) s 611 u
theorem R0_out {W9 : xWd} {d : Nat → Nat → Nat} {S : cS} {M : mS} {w j : Nat} (hd : dInj d) (h : R0 W9 d S M) (hi : iAll M) (hw : w < nBt M) (hs : M.2 34 w = -1) (hj : j < 7) (ej : mNext M (nI w) = nI j) : R0 W9 d (cOut S (d 4 w) (d 0 j) (nI j) (mUp M (nI w)) (mHrs M (nI j) (nI w) (mUp M (nI w)))) (mEnt M w) := by
  have hB0 := h.2.2.2.2.2.1
  have e6 : (nI j).toNatClampNeg = j := ix_nI (by omega)
  generalize hu : mUp M (nI w) = u at *
  generalize ho : mHrs M (nI j) (nI w) u = o at *
  have hch : chg S (cOut S (d 4 w) (d 0 j) (nI j) u o) (fun b => b = d 4 w ∨ b = d 0 j) := ((((((chg.rf.sI (Or.inl rfl)).sI (Or.inl rfl)).sI (Or.inl rfl)).sI (Or.inl rfl)).sI (Or.inl rfl)).sI (Or.inr rfl)).sI (Or.inr rfl)
  have nbs : ∀ x y, d 4 x ≠ d 0 y := fun x y => hd.ne (by omega)
  have hI : ∀ k, cFi (cOut S (d 4 w) (d 0 j) (nI j) u o) (d 4 w) k = if k = 209 then o else if k = 208 then u else if k = 207 then nI j else if k = 206 then -1 else if k = 204 then cFi S (d 4 w) 204 - cFi S (d 4 w) 201 * o else cFi S (d 4 w) k := fun k => by
    unfold cOut
    rw [cFi_setI, if_neg (fun z => nbs _ _ z.1), cFi_setI, if_neg (fun z => nbs _ _ z.1)]
    simp only [cFi_setI, true_and]
  have hq : ∀ x g, g ≠ 611 → g ≠ 612 → cFi (cOut S (d 4 w) (d 0 j) (nI j) u o) (d 0 x) g = cFi S (d 0 x) g := fun x g a b => by
    unfold cOut
    rw [cFi_setI, if_neg (fun z => a z.2), cFi_setI, if_neg (fun z => b z.2)]
    simp only [cFi_setI]
    rw [if_neg (fun z => nbs _ _ z.1.symm), if_neg (fun z => nbs _ _ z.1.symm), if_neg (fun z => nbs _ _ z.1.symm), if_neg (fun z => nbs _ _ z.1.symm), if_neg (fun z => nbs _ _ z.1.symm)]
  have hFr : cFr (cOut S (d 4 w) (d 0 j) (nI j) u o) = cFr S := rfl
  have hRi : cRi (cOut S (d 4 w) (d 0 j) (nI j) u o) = cRi S := rfl
  have h611 : cFi (cOut S (d 4 w) (d 0 j) (nI j) u o) (d 0 j) 611 = u := by unfold cOut; rw [cFi_setI, if_pos ⟨rfl, rfl⟩]
  have h612 : cFi (cOut S (d 4 w) (d 0 j) (nI j) u o) (d 0 j) 612 = if u = cFi S (d 0 j) 611 then cFi S (d 0 j) 612 + 1 else 1 := by unfold cOut; rw [cFi_setI, if_neg (fun z => by omega), cFi_setI, if_pos ⟨rfl, rfl⟩]
  have hsec : ∀ x, x ≠ j → ∀ g, cFi (cOut S (d 4 w) (d 0 j) (nI j) u o) (d 0 x) g = cFi S (d 0 x) g := fun x hx g => congrFun (hch.1 _ (fun z => z.elim (fun y => nbs _ _ y.symm) (fun y => hx (hd _ _ _ _ y).2))).1 g
  have hm : ∀ k, k ≠ 32 → k ≠ 36 → k ≠ 34 → k ≠ 35 → k ≠ 16 → k ≠ 15 → (mEnt M w).2 k = M.2 k := fun k a b c e f g => mEnt_k ⟨a, b, c, e, f, g⟩
  have hX : ∀ (k i : Nat), k ≠ 4 → k ≠ 0 → ¬ (d k i = d 4 w ∨ d k i = d 0 j) := fun k i a b z => z.elim (fun y => a (hd _ _ _ _ y).1) (fun y => b (hd _ _ _ _ y).1)
  refine R0_bt h hch (fun k i _ a b e => hX k i a e) (fun k => by rw [mEnt_1]) (fun k a1 a2 a3 a4 a5 a6 => hm k (by omega) (by omega) (by omega) (by omega) a2 a1) ?_ ?_ ?_ ?_
  · intro x hx
    obtain ⟨g0, g600, g601, g602, g603, g604, g605, g606, g607, g608, g609, g610, g611, g612⟩ := h.1 x hx
    refine ⟨(hch.2.2.1 _).trans g0, by rw [hq x 600 (by omega) (by omega)]; exact g600, by rw [hq x 601 (by omega) (by omega), hm 6 (by omega) (by omega) (by omega) (by omega) (by omega) (by omega)]; exact g601, by rw [hq x 602 (by omega) (by omega), hm 7 (by omega) (by omega) (by omega) (by omega) (by omega) (by omega)]; exact g602, by rw [hq x 603 (by omega) (by omega), hm 8 (by omega) (by omega) (by omega) (by omega) (by omega) (by omega)]; exact g603, by rw [hq x 604 (by omega) (by omega), hm 5 (by omega) (by omega) (by omega) (by omega) (by omega) (by omega)]; exact g604, by rw [hq x 605 (by omega) (by omega), hm 9 (by omega) (by omega) (by omega) (by omega) (by omega) (by omega)]; exact g605, by rw [hq x 606 (by omega) (by omega), hm 10 (by omega) (by omega) (by omega) (by omega) (by omega) (by omega)]; exact g606, by rw [hq x 607 (by omega) (by omega), hm 5 (by omega) (by omega) (by omega) (by omega) (by omega) (by omega), hm 11 (by omega) (by omega) (by omega) (by omega) (by omega) (by omega)]; exact g607, by rw [hq x 608 (by omega) (by omega), hm 12 (by omega) (by omega) (by omega) (by omega) (by omega) (by omega)]; exact g608, by rw [hq x 609 (by omega) (by omega), hm 13 (by omega) (by omega) (by omega) (by omega) (by omega) (by omega)]; exact g609, by rw [hq x 610 (by omega) (by omega), hm 14 (by omega) (by omega) (by omega) (by omega) (by omega) (by omega)]; exact g610, fun z => ?_, fun z => ?_⟩
    · rw [hm 5 (by omega) (by omega) (by omega) (by omega) (by omega) (by omega)] at z
      rw [mEnt_s.1, ej, e6, hu]
      by_cases c : x = j
      · subst c
        rw [if_pos ⟨z, rfl⟩]
        exact h611
      · rw [if_neg (fun y => c y.2), hsec x c]
        exact g611 z
    · rw [hm 5 (by omega) (by omega) (by omega) (by omega) (by omega) (by omega)] at z
      rw [mEnt_s.2, ej, e6, hu]
      by_cases c : x = j
      · subst c
        rw [if_pos ⟨z, rfl⟩, h612, g611 z, g612 z]
        by_cases c2 : M.2 15 x = u
        · rw [if_pos c2, if_pos c2.symm]
        · rw [if_neg c2, if_neg (fun y => c2 y.symm)]
      · rw [if_neg (fun y => c y.2), hsec x c]
        exact g612 z
  · intro v hv
    rw [show nBt (mEnt M w) = nBt M from nBt_eq (by rw [mEnt_1])] at hv
    by_cases c : v = w
    · subst c
      obtain ⟨h0, h200, h201, h202, h203, h204, h205, h206, h207, h208, h209, h210, h211, h213, h214⟩ := hB0 v hv
      have ve := mEnt_v (M := M) (w := v) (v := v)
      rw [if_pos rfl, if_pos rfl, if_pos rfl, if_pos rfl, ej, hu, ho] at ve
      have hne : ¬ nI j = -1 := nI_m1 (by omega)
      refine ⟨(hch.2.2.1 _).trans h0, ?_⟩
      rw [ve.1, ve.2.1, ve.2.2.1, ve.2.2.2]
      simp only [hI, hFr, Nat.reduceEqDiff, if_true, if_false, hne, not_false_eq_true, true_implies, false_implies, hm 30 (by omega) (by omega) (by omega) (by omega) (by omega) (by omega), hm 31 (by omega) (by omega) (by omega) (by omega) (by omega) (by omega), hm 39 (by omega) (by omega) (by omega) (by omega) (by omega) (by omega), hm 37 (by omega) (by omega) (by omega) (by omega) (by omega) (by omega), hm 43 (by omega) (by omega) (by omega) (by omega) (by omega) (by omega)]
      refine ⟨h200, h201, h202, h203, by rw [h204, h201], h205, trivial, trivial, trivial, trivial, h210, trivial, h213, h214⟩
    · have ve := mEnt_v (M := M) (w := w) (v := v)
      rw [if_neg c, if_neg c, if_neg c, if_neg c] at ve
      exact rowB.mono (hB0 v hv) (hch.sm (fun z => z.elim (fun y => c (hd _ _ _ _ y).2) (fun y => nbs _ _ y))) (by rw [hm 30 (by omega) (by omega) (by omega) (by omega) (by omega) (by omega)]) (by rw [hm 31 (by omega) (by omega) (by omega) (by omega) (by omega) (by omega)]) ve.2.2.2 (by rw [hm 33 (by omega) (by omega) (by omega) (by omega) (by omega) (by omega)]) ve.1 ve.2.1 ve.2.2.1 (by rw [hm 37 (by omega) (by omega) (by omega) (by omega) (by omega) (by omega)]) (by rw [hm 38 (by omega) (by omega) (by omega) (by omega) (by omega) (by omega)]) (by rw [hm 39 (by omega) (by omega) (by omega) (by omega) (by omega) (by omega)]) (by rw [hm 43 (by omega) (by omega) (by omega) (by omega) (by omega) (by omega)])
  · intro v hv x hx
    rw [show nBt (mEnt M w) = nBt M from nBt_eq (by rw [mEnt_1])] at hv
    have e212 : cFi (cOut S (d 4 w) (d 0 j) (nI j) u o) (d 4 v) 212 = cFi S (d 4 v) 212 := by
      by_cases c : v = w
      · rw [c, hI]; simp only [Nat.reduceEqDiff, if_false]
      · exact congrFun (hch.1 _ (fun z => z.elim (fun y => c (hd _ _ _ _ y).2) (fun y => nbs _ _ y))).1 212
    rw [e212, hm 45 (by omega) (by omega) (by omega) (by omega) (by omega) (by omega)]
    exact h.2.2.2.2.2.2.1 v hv x hx
  · intro v hv
    rw [show nBt (mEnt M w) = nBt M from nBt_eq (by rw [mEnt_1])] at hv
    obtain ⟨a1, a2, a3⟩ := h.2.2.2.2.2.2.2.1 v hv
    rw [hch.2.2.1, hch.2.2.2, hRi, hm 44 (by omega) (by omega) (by omega) (by omega) (by omega) (by omega)]
    exact ⟨a1, a2, a3⟩
