/-! The class: calls that change something, without lists. -/

def tbX7_reach : List (Nat × xHint) := [(0, .aload_n 0, 0, 0, 0, []), (1, .iload_n 1, 1, 0, 0, []), (2, .invokevirtual 53, 0, 2, 8, []), (5, .astore 6, 6, 0, 0, []), (7, .iload_n 2, 2, 0, 0, []), (8, .iconst 1, 0, 0, 0, []), (9, .bipush 9, 0, 0, 0, []), (11, .invokestatic 57, 1, 3, 0, []), (14, .iload_n 3, 3, 0, 0, []), (15, .bipush 10, 0, 0, 0, []), (17, .bipush 99, 0, 0, 0, []), (19, .invokestatic 57, 1, 3, 0, []), (22, .iload 4, 4, 0, 0, []), (24, .iconst 1, 0, 0, 0, []), (25, .iconst 4, 0, 0, 0, []), (26, .invokestatic 57, 1, 3, 0, []), (29, .aload_n 0, 0, 0, 0, []), (30, .aload 6, 6, 0, 0, []), (32, .invokevirtual 61, 2, 2, 8, []), (35, .aload 6, 6, 0, 0, []), (37, .iload_n 2, 2, 0, 0, []), (38, .iload_n 3, 3, 0, 0, []), (39, .iload 4, 4, 0, 0, []), (41, .iload 5, 5, 0, 0, []), (43, .invokevirtual 65, 3, 5, 6, []), (46, .return_, 0, 0, 0, [])]
def clX7_reach : List (Instr × Nat × Nat × Nat) := [(.invokevirtual 53, 0, 2, 8), (.invokestatic 57, 1, 3, 0), (.invokevirtual 61, 2, 2, 8), (.invokevirtual 65, 3, 5, 6)]
def thX7_reach : List (Nat × Nat) := []
theorem ckX7_reach : tbX7_reach.all (xRow RX7 cX7_reach wsX7_reach vwCl [] clX7_reach thX7_reach 7 (yX7_reach.name == "<init>") none) = true := xRow_q 0xb14100b6051504151d1c06193d00b606192a3900b8070404153900b863100a101d3900b80910041c063a3500b61b2a 47 (by decide +kernel) (by decide +kernel)
theorem usX7_reach : xUse wsX7_reach vwCl [] = true := xUse_n
theorem tbX7_reach_0 {k : Instr → Nat → Nat → Nat → List Nat → Prop} : xse (xFind tbX7_reach 0) k = k (.aload_n 0) 0 0 0 [] := rfl
theorem tbX7_reach_1 {k : Instr → Nat → Nat → Nat → List Nat → Prop} : xse (xFind tbX7_reach 1) k = k (.iload_n 1) 1 0 0 [] := rfl
theorem tbX7_reach_2 {k : Instr → Nat → Nat → Nat → List Nat → Prop} : xse (xFind tbX7_reach 2) k = k (.invokevirtual 53) 0 2 8 [] := rfl
theorem tbX7_reach_5 {k : Instr → Nat → Nat → Nat → List Nat → Prop} : xse (xFind tbX7_reach 5) k = k (.astore 6) 6 0 0 [] := rfl
theorem tbX7_reach_7 {k : Instr → Nat → Nat → Nat → List Nat → Prop} : xse (xFind tbX7_reach 7) k = k (.iload_n 2) 2 0 0 [] := rfl
theorem tbX7_reach_8 {k : Instr → Nat → Nat → Nat → List Nat → Prop} : xse (xFind tbX7_reach 8) k = k (.iconst 1) 0 0 0 [] := rfl
theorem tbX7_reach_9 {k : Instr → Nat → Nat → Nat → List Nat → Prop} : xse (xFind tbX7_reach 9) k = k (.bipush 9) 0 0 0 [] := rfl
theorem tbX7_reach_11 {k : Instr → Nat → Nat → Nat → List Nat → Prop} : xse (xFind tbX7_reach 11) k = k (.invokestatic 57) 1 3 0 [] := rfl
theorem tbX7_reach_14 {k : Instr → Nat → Nat → Nat → List Nat → Prop} : xse (xFind tbX7_reach 14) k = k (.iload_n 3) 3 0 0 [] := rfl
theorem tbX7_reach_15 {k : Instr → Nat → Nat → Nat → List Nat → Prop} : xse (xFind tbX7_reach 15) k = k (.bipush 10) 0 0 0 [] := rfl
theorem tbX7_reach_17 {k : Instr → Nat → Nat → Nat → List Nat → Prop} : xse (xFind tbX7_reach 17) k = k (.bipush 99) 0 0 0 [] := rfl
theorem tbX7_reach_19 {k : Instr → Nat → Nat → Nat → List Nat → Prop} : xse (xFind tbX7_reach 19) k = k (.invokestatic 57) 1 3 0 [] := rfl
theorem tbX7_reach_22 {k : Instr → Nat → Nat → Nat → List Nat → Prop} : xse (xFind tbX7_reach 22) k = k (.iload 4) 4 0 0 [] := rfl
theorem tbX7_reach_24 {k : Instr → Nat → Nat → Nat → List Nat → Prop} : xse (xFind tbX7_reach 24) k = k (.iconst 1) 0 0 0 [] := rfl
theorem tbX7_reach_25 {k : Instr → Nat → Nat → Nat → List Nat → Prop} : xse (xFind tbX7_reach 25) k = k (.iconst 4) 0 0 0 [] := rfl
theorem tbX7_reach_26 {k : Instr → Nat → Nat → Nat → List Nat → Prop} : xse (xFind tbX7_reach 26) k = k (.invokestatic 57) 1 3 0 [] := rfl
theorem tbX7_reach_29 {k : Instr → Nat → Nat → Nat → List Nat → Prop} : xse (xFind tbX7_reach 29) k = k (.aload_n 0) 0 0 0 [] := rfl
theorem tbX7_reach_30 {k : Instr → Nat → Nat → Nat → List Nat → Prop} : xse (xFind tbX7_reach 30) k = k (.aload 6) 6 0 0 [] := rfl
theorem tbX7_reach_32 {k : Instr → Nat → Nat → Nat → List Nat → Prop} : xse (xFind tbX7_reach 32) k = k (.invokevirtual 61) 2 2 8 [] := rfl
theorem tbX7_reach_35 {k : Instr → Nat → Nat → Nat → List Nat → Prop} : xse (xFind tbX7_reach 35) k = k (.aload 6) 6 0 0 [] := rfl
theorem tbX7_reach_37 {k : Instr → Nat → Nat → Nat → List Nat → Prop} : xse (xFind tbX7_reach 37) k = k (.iload_n 2) 2 0 0 [] := rfl
theorem tbX7_reach_38 {k : Instr → Nat → Nat → Nat → List Nat → Prop} : xse (xFind tbX7_reach 38) k = k (.iload_n 3) 3 0 0 [] := rfl
theorem tbX7_reach_39 {k : Instr → Nat → Nat → Nat → List Nat → Prop} : xse (xFind tbX7_reach 39) k = k (.iload 4) 4 0 0 [] := rfl
theorem tbX7_reach_41 {k : Instr → Nat → Nat → Nat → List Nat → Prop} : xse (xFind tbX7_reach 41) k = k (.iload 5) 5 0 0 [] := rfl
theorem tbX7_reach_43 {k : Instr → Nat → Nat → Nat → List Nat → Prop} : xse (xFind tbX7_reach 43) k = k (.invokevirtual 65) 3 5 6 [] := rfl
theorem tbX7_reach_46 {k : Instr → Nat → Nat → Nat → List Nat → Prop} : xse (xFind tbX7_reach 46) k = k (.return_) 0 0 0 [] := rfl

def spX7_reach (W9 : xWd) : xSp cS := (fun av S => (5, 30), fun av S K => ∃ (a : Nat) (s : Int32) (ho : Int32) (d : Int32) (w : Int32) (z : Int32), av = [.ref a, .int s, .int ho, .int d, .int w, .int z] ∧ ((z = 0 ∨ z = 1) ∧ (cK S a = 9 ∧ (cIn S a 800 1 ∧ lAll S (cRf S a 800) 7) ∧ (cIn S a 804 1 ∧ lAll S (cRf S a 804) 3) ∧ (¬ (0 ≤ s ∧ s < cFi S (cRf S a 800) 2) → K (rX "java/lang/IndexOutOfBoundsException") S) ∧ (0 ≤ s ∧ s < cFi S (cRf S a 800) 2 → (¬ ((1 ≤ ho ∧ ho ≤ 9) ∧ (10 ≤ d ∧ d ≤ 99) ∧ 1 ≤ w ∧ w ≤ 4) → K (rX "java/lang/IllegalArgumentException") S) ∧ (((1 ≤ ho ∧ ho ≤ 9) ∧ (10 ≤ d ∧ d ≤ 99) ∧ 1 ≤ w ∧ w ≤ 4) → (¬ (cBz S (cRf S a 804) (cFi S (lG S (cRf S a 800) s.toNatClampNeg) 600) (lCn S (cRf S a 804)) = false) → K (rX "java/lang/IllegalStateException") S) ∧ ((cBz S (cRf S a 804) (cFi S (lG S (cRf S a 800) s.toNatClampNeg) 600) (lCn S (cRf S a 804)) = false) → K rV (cSetI (cSetI (cSetI (cSetI (cSetI S (lG S (cRf S a 800) s.toNatClampNeg) 604 0) (lG S (cRf S a 800) s.toNatClampNeg) 605 ho) (lG S (cRf S a 800) s.toNatClampNeg) 601 d) (lG S (cRf S a 800) s.toNatClampNeg) 606 w) (lG S (cRf S a 800) s.toNatClampNeg) 607 z)))))))
theorem spcX7_reach {av : List Value} {S : cS} {W9 : xWd} : (spX7_reach W9).1 av S = (5, 30) := rfl
theorem spwX7_reach {S : cS} {W9 : xWd} {K : xRes → cS → Prop} {a : Nat} {s : Int32} {ho : Int32} {d : Int32} {w : Int32} {z : Int32} : (spX7_reach W9).2 [.ref a, .int s, .int ho, .int d, .int w, .int z] S K = ((z = 0 ∨ z = 1) ∧ (cK S a = 9 ∧ (cIn S a 800 1 ∧ lAll S (cRf S a 800) 7) ∧ (cIn S a 804 1 ∧ lAll S (cRf S a 804) 3) ∧ (¬ (0 ≤ s ∧ s < cFi S (cRf S a 800) 2) → K (rX "java/lang/IndexOutOfBoundsException") S) ∧ (0 ≤ s ∧ s < cFi S (cRf S a 800) 2 → (¬ ((1 ≤ ho ∧ ho ≤ 9) ∧ (10 ≤ d ∧ d ≤ 99) ∧ 1 ≤ w ∧ w ≤ 4) → K (rX "java/lang/IllegalArgumentException") S) ∧ (((1 ≤ ho ∧ ho ≤ 9) ∧ (10 ≤ d ∧ d ≤ 99) ∧ 1 ≤ w ∧ w ≤ 4) → (¬ (cBz S (cRf S a 804) (cFi S (lG S (cRf S a 800) s.toNatClampNeg) 600) (lCn S (cRf S a 804)) = false) → K (rX "java/lang/IllegalStateException") S) ∧ ((cBz S (cRf S a 804) (cFi S (lG S (cRf S a 800) s.toNatClampNeg) 600) (lCn S (cRf S a 804)) = false) → K rV (cSetI (cSetI (cSetI (cSetI (cSetI S (lG S (cRf S a 800) s.toNatClampNeg) 604 0) (lG S (cRf S a 800) s.toNatClampNeg) 605 ho) (lG S (cRf S a 800) s.toNatClampNeg) 601 d) (lG S (cRf S a 800) s.toNatClampNeg) 606 w) (lG S (cRf S a 800) s.toNatClampNeg) 607 z)))))) :=
  propext ⟨fun h => by
    simp only [spX7_reach] at h
    obtain ⟨_, _, _, _, _, _, e, h⟩ := h
    simp only [List.cons.injEq, Value.int.injEq, Value.ref.injEq, rf_eq, and_true, true_and] at e
    obtain ⟨rfl, rfl, rfl, rfl, rfl, rfl⟩ := e
    exact h, fun h => ⟨_, _, _, _, _, _, rfl, h⟩⟩

def callX7_reach (W9 : xWd) : Nat → Option (xSp cS) := fun n => match n with | 0 => some (spX7_needSection W9) | 1 => some (spX7_needWithin W9) | 2 => some (spX7_needNoBoatIn W9) | 3 => some (spX5_becomeReach W9) | _ => none

theorem callX7_reach_0 {W9 : xWd} {k : xSp cS → Prop} : xcs (callX7_reach W9 0) k = k (spX7_needSection W9) := rfl

theorem callX7_reach_1 {W9 : xWd} {k : xSp cS → Prop} : xcs (callX7_reach W9 1) k = k (spX7_needWithin W9) := rfl

theorem callX7_reach_2 {W9 : xWd} {k : xSp cS → Prop} : xcs (callX7_reach W9 2) k = k (spX7_needNoBoatIn W9) := rfl

theorem callX7_reach_3 {W9 : xWd} {k : xSp cS → Prop} : xcs (callX7_reach W9 3) k = k (spX5_becomeReach W9) := rfl

theorem crX7_reach (l : Launch) (hl : l.stackTraces = false) (W9 : xWd) : xCallsOK l W9 (cI) (callX7_reach W9) clX7_reach RX7 wsX7_reach 8 131 7 := by
  intro E A p e R s m args below meth c hI hF hL X
  exact List.forall_mem_cons.mpr ⟨⟨_, rfl, xCR_V X (by rw [hI]; exact (semX7_needSection l hl W9)) gX7_reach_X7_needSection rfl rfl (by decide +kernel) (by rw [hF, hL]; decide)⟩,
    List.forall_mem_cons.mpr ⟨⟨_, rfl, xCR_S X (by rw [hI]; exact (semX7_needWithin l hl W9)) gX7_reach_X7_needWithin rfl (by decide +kernel) (by rw [hF, hL]; decide)⟩,
    List.forall_mem_cons.mpr ⟨⟨_, rfl, xCR_V X (by rw [hI]; exact (semX7_needNoBoatIn l hl W9)) gX7_reach_X7_needNoBoatIn rfl rfl (by decide +kernel) (by rw [hF, hL]; decide)⟩,
    List.forall_mem_cons.mpr ⟨⟨_, rfl, xCR_V X (by rw [hI]; exact (semX5_becomeReach l hl W9)) gX7_reach_X5_becomeReach rfl rfl (by decide +kernel) (by rw [hF, hL]; decide)⟩,
    fun _ h => nomatch h⟩⟩⟩⟩

set_option maxHeartbeats 4000000 in
set_option maxRecDepth 20000 in
theorem semX7_reach (l : Launch) (hl : l.stackTraces = false) (W9 : xWd) : xSem l W9 (cI) yX7_reach wsX7_reach 8 131 (spX7_reach W9) := by
  refine xSem_of (call := callX7_reach W9) (thrf := fun _ => "") cI_law (by decide +kernel) rfl ckX7_reach usX7_reach (crX7_reach l hl W9) xThrOK_nil ?_ ?_
  · intro av S KF h
    obtain ⟨a, s, ho, d, w, z, rfl, h⟩ := h
    exact ⟨by intro v hv; simp only [List.mem_cons, List.not_mem_nil, or_false] at hv; rcases hv with rfl | rfl | rfl | rfl | rfl | rfl <;> first | rfl | exact cat_rf, Nat.le_of_ble_eq_true rfl⟩
  intro av S KF h G hG
  obtain ⟨a, s, ho, d, w, z, rfl, h⟩ := h
  rw [show (spX7_reach W9).1 _ S = _ from spcX7_reach] at hG
  try dsimp only at hG
  change G 0 [some (.ref a), some (.int s), some (.int ho), some (.int d), some (.int w), some (.int z), none] [] S 0 0
  obtain ⟨hz01, h0, ⟨h1, h2⟩, ⟨h3, h4⟩, hbad, hok⟩ := h

  by_cases q : 0 ≤ s ∧ s < cFi S (cRf S a 800) 2
  · have hz := hok q
    obtain ⟨g1, g2⟩ := lAll_at h2 q.1 q.2
    have gj := (lOk_in h2.1 q.1 q.2).2.2
    generalize hb0 : (lG S (cRf S a 800) s.toNatClampNeg) = g at *
    refine xgo0 hG (fun fu hfu => ?_)
    simp only [↓callX7_reach_0, ↓callX7_reach_1, ↓callX7_reach_2, ↓callX7_reach_3, cisa, kb_10, kb_9, kb_99, kc_10, kc_9, kc_99, ki_1, ki_4, ↓vm_aload, ↓vm_aload_n, ↓vm_astore, ↓vm_bipush, ↓vm_iconst, ↓vm_iload, ↓vm_iload_n, ↓vm_invokestatic, ↓vm_invokevirtual, ↓vm_return_, ↓xc_2, ↓xc_3, ↓xc_5, ↓tbX7_reach_0, ↓tbX7_reach_1, ↓tbX7_reach_2, ↓tbX7_reach_5, ↓tbX7_reach_7, ↓tbX7_reach_8, ↓tbX7_reach_9, ↓tbX7_reach_11, ↓tbX7_reach_14, ↓tbX7_reach_15, ↓tbX7_reach_17, ↓tbX7_reach_19, ↓tbX7_reach_22, ↓tbX7_reach_24, ↓tbX7_reach_25, ↓tbX7_reach_26, ↓tbX7_reach_29, ↓tbX7_reach_30, ↓tbX7_reach_32, ↓tbX7_reach_35, ↓tbX7_reach_37, ↓tbX7_reach_38, ↓tbX7_reach_39, ↓tbX7_reach_41, ↓tbX7_reach_43, ↓tbX7_reach_46, hfu, xstep0, xJ1_hit, xJ1_go, xJ2_hit1, xJ2_hit2, xJ2_go, ↓xif_t, ↓xif_f, seval, ↓xca_eq, ↓xre_l, ↓xre_r, xmask_t, xmask_f, xmask_nil, ↓xst_eq, xX_eq, eI_eq, eMc_eq, eMs_eq, eF_eq, eThr_eq, ↓xS1_mk, ↓xSI_mk, ↓xSR_mk, ↓xLI_0, ↓xLI_s, ↓xLR_0, ↓xLR_s, vRef_ref, vRef_null, vRef_rf, cat_int, cat_ref, cat_null, cat_rf, rf_some, rf_none, rf_null, rf_eq, rf_ref, ref_rf, ref_null, ref_ref, xOk_0, xOk_1, xOk_2r, xOk_2n, xOk_2f, vOpt_rf, vOpt_ref, vOpt_null, List.set_cons_zero, List.set_cons_succ, List.take_succ_cons, List.take_zero, List.drop_succ_cons, List.drop_zero, List.reverse_cons, List.reverse_nil, List.nil_append, List.cons_append, List.append_nil, List.length_cons, List.length_nil, List.map_cons, List.map_nil, List.sum_cons, List.sum_nil, Option.toList_some, Option.toList_none, xRecv_mk, true_and, and_true, true_implies, Nat.reduceAdd, Nat.reduceLeDiff, Nat.zero_le, Nat.le_refl, Nat.add_zero, Nat.zero_add, reduceIte, not_true_eq_false, not_false_eq_true, false_implies, and_self, implies_true, eq_self, Nat.reduceEqDiff, List.cons.injEq, xsn_1, xsn_2, false_and, and_false, or_false, false_or, or_true, true_or, xsn_3, xsn_4, cK_setI, cFi_setI, cFr_setI, cLen_setI, cRi_setI, ↓spwX7_needSection, spcX7_needSection, ↓spwX7_needWithin, spcX7_needWithin, ↓spwX7_needNoBoatIn, spcX7_needNoBoatIn, ↓spwX5_becomeReach, spcX5_becomeReach, h0, h1, h2, q, hb0, g2, h3, h4, hz01]
    try simp only [xif_e]
    repeat' (first | with_reducible apply And.intro | with_reducible intro _)
    all_goals grind (splits := 30) [bi]
  · have h := hbad q
    refine xgo hG (mb := []) (head := 6) (P := fun _ _ _ _ _ => False) (fun _ _ _ _ _ q => q.elim) (pc := 0) (fun fu hfu => ?_)
    simp only [↓callX7_reach_0, ↓callX7_reach_1, ↓callX7_reach_2, ↓callX7_reach_3, cisa, kb_10, kb_9, kb_99, kc_10, kc_9, kc_99, ki_1, ki_4, ↓vm_aload, ↓vm_aload_n, ↓vm_astore, ↓vm_bipush, ↓vm_iconst, ↓vm_iload, ↓vm_iload_n, ↓vm_invokestatic, ↓vm_invokevirtual, ↓vm_return_, ↓xc_2, ↓xc_3, ↓xc_5, ↓tbX7_reach_0, ↓tbX7_reach_1, ↓tbX7_reach_2, ↓tbX7_reach_5, ↓tbX7_reach_7, ↓tbX7_reach_8, ↓tbX7_reach_9, ↓tbX7_reach_11, ↓tbX7_reach_14, ↓tbX7_reach_15, ↓tbX7_reach_17, ↓tbX7_reach_19, ↓tbX7_reach_22, ↓tbX7_reach_24, ↓tbX7_reach_25, ↓tbX7_reach_26, ↓tbX7_reach_29, ↓tbX7_reach_30, ↓tbX7_reach_32, ↓tbX7_reach_35, ↓tbX7_reach_37, ↓tbX7_reach_38, ↓tbX7_reach_39, ↓tbX7_reach_41, ↓tbX7_reach_43, ↓tbX7_reach_46, hfu, xstep0, xJ1_hit, xJ1_go, xJ2_hit1, xJ2_hit2, xJ2_go, ↓xif_t, ↓xif_f, seval, ↓xca_eq, ↓xre_l, ↓xre_r, xmask_t, xmask_f, xmask_nil, ↓xst_eq, xX_eq, eI_eq, eMc_eq, eMs_eq, eF_eq, eThr_eq, ↓xS1_mk, ↓xSI_mk, ↓xSR_mk, ↓xLI_0, ↓xLI_s, ↓xLR_0, ↓xLR_s, vRef_ref, vRef_null, vRef_rf, cat_int, cat_ref, cat_null, cat_rf, rf_some, rf_none, rf_null, rf_eq, rf_ref, ref_rf, ref_null, ref_ref, xOk_0, xOk_1, xOk_2r, xOk_2n, xOk_2f, vOpt_rf, vOpt_ref, vOpt_null, List.set_cons_zero, List.set_cons_succ, List.take_succ_cons, List.take_zero, List.drop_succ_cons, List.drop_zero, List.reverse_cons, List.reverse_nil, List.nil_append, List.cons_append, List.append_nil, List.length_cons, List.length_nil, List.map_cons, List.map_nil, List.sum_cons, List.sum_nil, Option.toList_some, Option.toList_none, xRecv_mk, true_and, and_true, true_implies, Nat.reduceAdd, Nat.reduceLeDiff, Nat.zero_le, Nat.le_refl, Nat.add_zero, Nat.zero_add, reduceIte, not_true_eq_false, not_false_eq_true, false_implies, and_self, implies_true, eq_self, Nat.reduceEqDiff, List.cons.injEq, xsn_1, xsn_2, false_and, and_false, or_false, false_or, or_true, true_or, xsn_3, xsn_4, cK_setI, cFi_setI, cFr_setI, cLen_setI, cRi_setI, ↓spwX7_needSection, spcX7_needSection, ↓spwX7_needWithin, spcX7_needWithin, ↓spwX7_needNoBoatIn, spcX7_needNoBoatIn, ↓spwX5_becomeReach, spcX5_becomeReach, h0, h1, h2, q]
    try simp only [xif_e]
    first | exact h | grind

def tbX7_lock : List (Nat × xHint) := [(0, .aload_n 0, 0, 0, 0, []), (1, .iload_n 1, 1, 0, 0, []), (2, .invokevirtual 53, 0, 2, 8, []), (5, .astore 5, 5, 0, 0, []), (7, .iload_n 2, 2, 0, 0, []), (8, .iconst 1, 0, 0, 0, []), (9, .bipush 9, 0, 0, 0, []), (11, .invokestatic 57, 1, 3, 0, []), (14, .iload_n 3, 3, 0, 0, []), (15, .iconst 1, 0, 0, 0, []), (16, .iconst 3, 0, 0, 0, []), (17, .invokestatic 57, 1, 3, 0, []), (20, .aload_n 0, 0, 0, 0, []), (21, .aload 5, 5, 0, 0, []), (23, .invokevirtual 61, 2, 2, 8, []), (26, .aload 5, 5, 0, 0, []), (28, .iload_n 2, 2, 0, 0, []), (29, .iload_n 3, 3, 0, 0, []), (30, .iload 4, 4, 0, 0, []), (32, .invokevirtual 69, 3, 4, 6, []), (35, .return_, 0, 0, 0, [])]
def clX7_lock : List (Instr × Nat × Nat × Nat) := [(.invokevirtual 53, 0, 2, 8), (.invokestatic 57, 1, 3, 0), (.invokevirtual 61, 2, 2, 8), (.invokevirtual 69, 3, 4, 6)]
def thX7_lock : List (Nat × Nat) := []
theorem ckX7_lock : tbX7_lock.all (xRow RX7 cX7_lock wsX7_lock vwCl [] clX7_lock thX7_lock 6 (yX7_lock.name == "<init>") none) = true := xRow_q 0xb14500b604151d1c05193d00b605192a3900b806041d3900b80910041c053a3500b61b2a 36 (by decide +kernel) (by decide +kernel)
theorem usX7_lock : xUse wsX7_lock vwCl [] = true := xUse_n
theorem tbX7_lock_0 {k : Instr → Nat → Nat → Nat → List Nat → Prop} : xse (xFind tbX7_lock 0) k = k (.aload_n 0) 0 0 0 [] := rfl
theorem tbX7_lock_1 {k : Instr → Nat → Nat → Nat → List Nat → Prop} : xse (xFind tbX7_lock 1) k = k (.iload_n 1) 1 0 0 [] := rfl
theorem tbX7_lock_2 {k : Instr → Nat → Nat → Nat → List Nat → Prop} : xse (xFind tbX7_lock 2) k = k (.invokevirtual 53) 0 2 8 [] := rfl
theorem tbX7_lock_5 {k : Instr → Nat → Nat → Nat → List Nat → Prop} : xse (xFind tbX7_lock 5) k = k (.astore 5) 5 0 0 [] := rfl
theorem tbX7_lock_7 {k : Instr → Nat → Nat → Nat → List Nat → Prop} : xse (xFind tbX7_lock 7) k = k (.iload_n 2) 2 0 0 [] := rfl
theorem tbX7_lock_8 {k : Instr → Nat → Nat → Nat → List Nat → Prop} : xse (xFind tbX7_lock 8) k = k (.iconst 1) 0 0 0 [] := rfl
theorem tbX7_lock_9 {k : Instr → Nat → Nat → Nat → List Nat → Prop} : xse (xFind tbX7_lock 9) k = k (.bipush 9) 0 0 0 [] := rfl
theorem tbX7_lock_11 {k : Instr → Nat → Nat → Nat → List Nat → Prop} : xse (xFind tbX7_lock 11) k = k (.invokestatic 57) 1 3 0 [] := rfl
theorem tbX7_lock_14 {k : Instr → Nat → Nat → Nat → List Nat → Prop} : xse (xFind tbX7_lock 14) k = k (.iload_n 3) 3 0 0 [] := rfl
theorem tbX7_lock_15 {k : Instr → Nat → Nat → Nat → List Nat → Prop} : xse (xFind tbX7_lock 15) k = k (.iconst 1) 0 0 0 [] := rfl
theorem tbX7_lock_16 {k : Instr → Nat → Nat → Nat → List Nat → Prop} : xse (xFind tbX7_lock 16) k = k (.iconst 3) 0 0 0 [] := rfl
theorem tbX7_lock_17 {k : Instr → Nat → Nat → Nat → List Nat → Prop} : xse (xFind tbX7_lock 17) k = k (.invokestatic 57) 1 3 0 [] := rfl
theorem tbX7_lock_20 {k : Instr → Nat → Nat → Nat → List Nat → Prop} : xse (xFind tbX7_lock 20) k = k (.aload_n 0) 0 0 0 [] := rfl
theorem tbX7_lock_21 {k : Instr → Nat → Nat → Nat → List Nat → Prop} : xse (xFind tbX7_lock 21) k = k (.aload 5) 5 0 0 [] := rfl
theorem tbX7_lock_23 {k : Instr → Nat → Nat → Nat → List Nat → Prop} : xse (xFind tbX7_lock 23) k = k (.invokevirtual 61) 2 2 8 [] := rfl
theorem tbX7_lock_26 {k : Instr → Nat → Nat → Nat → List Nat → Prop} : xse (xFind tbX7_lock 26) k = k (.aload 5) 5 0 0 [] := rfl
theorem tbX7_lock_28 {k : Instr → Nat → Nat → Nat → List Nat → Prop} : xse (xFind tbX7_lock 28) k = k (.iload_n 2) 2 0 0 [] := rfl
theorem tbX7_lock_29 {k : Instr → Nat → Nat → Nat → List Nat → Prop} : xse (xFind tbX7_lock 29) k = k (.iload_n 3) 3 0 0 [] := rfl
theorem tbX7_lock_30 {k : Instr → Nat → Nat → Nat → List Nat → Prop} : xse (xFind tbX7_lock 30) k = k (.iload 4) 4 0 0 [] := rfl
theorem tbX7_lock_32 {k : Instr → Nat → Nat → Nat → List Nat → Prop} : xse (xFind tbX7_lock 32) k = k (.invokevirtual 69) 3 4 6 [] := rfl
theorem tbX7_lock_35 {k : Instr → Nat → Nat → Nat → List Nat → Prop} : xse (xFind tbX7_lock 35) k = k (.return_) 0 0 0 [] := rfl

def spX7_lock (W9 : xWd) : xSp cS := (fun av S => (4, 24), fun av S K => ∃ (a : Nat) (s : Int32) (c : Int32) (t : Int32) (z : Int32), av = [.ref a, .int s, .int c, .int t, .int z] ∧ ((z = 0 ∨ z = 1) ∧ (cK S a = 9 ∧ (cIn S a 800 1 ∧ lAll S (cRf S a 800) 7) ∧ (cIn S a 804 1 ∧ lAll S (cRf S a 804) 3) ∧ (¬ (0 ≤ s ∧ s < cFi S (cRf S a 800) 2) → K (rX "java/lang/IndexOutOfBoundsException") S) ∧ (0 ≤ s ∧ s < cFi S (cRf S a 800) 2 → (¬ ((1 ≤ c ∧ c ≤ 9) ∧ 1 ≤ t ∧ t ≤ 3) → K (rX "java/lang/IllegalArgumentException") S) ∧ (((1 ≤ c ∧ c ≤ 9) ∧ 1 ≤ t ∧ t ≤ 3) → (¬ (cBz S (cRf S a 804) (cFi S (lG S (cRf S a 800) s.toNatClampNeg) 600) (lCn S (cRf S a 804)) = false) → K (rX "java/lang/IllegalStateException") S) ∧ ((cBz S (cRf S a 804) (cFi S (lG S (cRf S a 800) s.toNatClampNeg) 600) (lCn S (cRf S a 804)) = false) → K rV (cSetI (cSetI (cSetI (cSetI (cSetI (cSetI (cSetI S (lG S (cRf S a 800) s.toNatClampNeg) 604 1) (lG S (cRf S a 800) s.toNatClampNeg) 607 0) (lG S (cRf S a 800) s.toNatClampNeg) 608 c) (lG S (cRf S a 800) s.toNatClampNeg) 609 t) (lG S (cRf S a 800) s.toNatClampNeg) 610 z) (lG S (cRf S a 800) s.toNatClampNeg) 611 0) (lG S (cRf S a 800) s.toNatClampNeg) 612 0)))))))
theorem spcX7_lock {av : List Value} {S : cS} {W9 : xWd} : (spX7_lock W9).1 av S = (4, 24) := rfl
theorem spwX7_lock {S : cS} {W9 : xWd} {K : xRes → cS → Prop} {a : Nat} {s : Int32} {c : Int32} {t : Int32} {z : Int32} : (spX7_lock W9).2 [.ref a, .int s, .int c, .int t, .int z] S K = ((z = 0 ∨ z = 1) ∧ (cK S a = 9 ∧ (cIn S a 800 1 ∧ lAll S (cRf S a 800) 7) ∧ (cIn S a 804 1 ∧ lAll S (cRf S a 804) 3) ∧ (¬ (0 ≤ s ∧ s < cFi S (cRf S a 800) 2) → K (rX "java/lang/IndexOutOfBoundsException") S) ∧ (0 ≤ s ∧ s < cFi S (cRf S a 800) 2 → (¬ ((1 ≤ c ∧ c ≤ 9) ∧ 1 ≤ t ∧ t ≤ 3) → K (rX "java/lang/IllegalArgumentException") S) ∧ (((1 ≤ c ∧ c ≤ 9) ∧ 1 ≤ t ∧ t ≤ 3) → (¬ (cBz S (cRf S a 804) (cFi S (lG S (cRf S a 800) s.toNatClampNeg) 600) (lCn S (cRf S a 804)) = false) → K (rX "java/lang/IllegalStateException") S) ∧ ((cBz S (cRf S a 804) (cFi S (lG S (cRf S a 800) s.toNatClampNeg) 600) (lCn S (cRf S a 804)) = false) → K rV (cSetI (cSetI (cSetI (cSetI (cSetI (cSetI (cSetI S (lG S (cRf S a 800) s.toNatClampNeg) 604 1) (lG S (cRf S a 800) s.toNatClampNeg) 607 0) (lG S (cRf S a 800) s.toNatClampNeg) 608 c) (lG S (cRf S a 800) s.toNatClampNeg) 609 t) (lG S (cRf S a 800) s.toNatClampNeg) 610 z) (lG S (cRf S a 800) s.toNatClampNeg) 611 0) (lG S (cRf S a 800) s.toNatClampNeg) 612 0)))))) :=
  propext ⟨fun h => by
    simp only [spX7_lock] at h
    obtain ⟨_, _, _, _, _, e, h⟩ := h
    simp only [List.cons.injEq, Value.int.injEq, Value.ref.injEq, rf_eq, and_true, true_and] at e
    obtain ⟨rfl, rfl, rfl, rfl, rfl⟩ := e
    exact h, fun h => ⟨_, _, _, _, _, rfl, h⟩⟩

def callX7_lock (W9 : xWd) : Nat → Option (xSp cS) := fun n => match n with | 0 => some (spX7_needSection W9) | 1 => some (spX7_needWithin W9) | 2 => some (spX7_needNoBoatIn W9) | 3 => some (spX5_becomeLock W9) | _ => none

theorem callX7_lock_0 {W9 : xWd} {k : xSp cS → Prop} : xcs (callX7_lock W9 0) k = k (spX7_needSection W9) := rfl

theorem callX7_lock_1 {W9 : xWd} {k : xSp cS → Prop} : xcs (callX7_lock W9 1) k = k (spX7_needWithin W9) := rfl

theorem callX7_lock_2 {W9 : xWd} {k : xSp cS → Prop} : xcs (callX7_lock W9 2) k = k (spX7_needNoBoatIn W9) := rfl

theorem callX7_lock_3 {W9 : xWd} {k : xSp cS → Prop} : xcs (callX7_lock W9 3) k = k (spX5_becomeLock W9) := rfl

theorem crX7_lock (l : Launch) (hl : l.stackTraces = false) (W9 : xWd) : xCallsOK l W9 (cI) (callX7_lock W9) clX7_lock RX7 wsX7_lock 8 131 6 := by
  intro E A p e R s m args below meth c hI hF hL X
  exact List.forall_mem_cons.mpr ⟨⟨_, rfl, xCR_V X (by rw [hI]; exact (semX7_needSection l hl W9)) gX7_lock_X7_needSection rfl rfl (by decide +kernel) (by rw [hF, hL]; decide)⟩,
    List.forall_mem_cons.mpr ⟨⟨_, rfl, xCR_S X (by rw [hI]; exact (semX7_needWithin l hl W9)) gX7_lock_X7_needWithin rfl (by decide +kernel) (by rw [hF, hL]; decide)⟩,
    List.forall_mem_cons.mpr ⟨⟨_, rfl, xCR_V X (by rw [hI]; exact (semX7_needNoBoatIn l hl W9)) gX7_lock_X7_needNoBoatIn rfl rfl (by decide +kernel) (by rw [hF, hL]; decide)⟩,
    List.forall_mem_cons.mpr ⟨⟨_, rfl, xCR_V X (by rw [hI]; exact (semX5_becomeLock l hl W9)) gX7_lock_X5_becomeLock rfl rfl (by decide +kernel) (by rw [hF, hL]; decide)⟩,
    fun _ h => nomatch h⟩⟩⟩⟩

set_option maxHeartbeats 4000000 in
set_option maxRecDepth 20000 in
theorem semX7_lock (l : Launch) (hl : l.stackTraces = false) (W9 : xWd) : xSem l W9 (cI) yX7_lock wsX7_lock 8 131 (spX7_lock W9) := by
  refine xSem_of (call := callX7_lock W9) (thrf := fun _ => "") cI_law (by decide +kernel) rfl ckX7_lock usX7_lock (crX7_lock l hl W9) xThrOK_nil ?_ ?_
  · intro av S KF h
    obtain ⟨a, s, c, t, z, rfl, h⟩ := h
    exact ⟨by intro v hv; simp only [List.mem_cons, List.not_mem_nil, or_false] at hv; rcases hv with rfl | rfl | rfl | rfl | rfl <;> first | rfl | exact cat_rf, Nat.le_of_ble_eq_true rfl⟩
  intro av S KF h G hG
  obtain ⟨a, s, c, t, z, rfl, h⟩ := h
  rw [show (spX7_lock W9).1 _ S = _ from spcX7_lock] at hG
  try dsimp only at hG
  change G 0 [some (.ref a), some (.int s), some (.int c), some (.int t), some (.int z), none] [] S 0 0
  obtain ⟨hz01, h0, ⟨h1, h2⟩, ⟨h3, h4⟩, hbad, hok⟩ := h

  by_cases q : 0 ≤ s ∧ s < cFi S (cRf S a 800) 2
  · have hz := hok q
    obtain ⟨g1, g2⟩ := lAll_at h2 q.1 q.2
    have gj := (lOk_in h2.1 q.1 q.2).2.2
    generalize hb0 : (lG S (cRf S a 800) s.toNatClampNeg) = g at *
    refine xgo0 hG (fun fu hfu => ?_)
    simp only [↓callX7_lock_0, ↓callX7_lock_1, ↓callX7_lock_2, ↓callX7_lock_3, cisa, kb_9, kc_9, ki_1, ki_3, ↓vm_aload, ↓vm_aload_n, ↓vm_astore, ↓vm_bipush, ↓vm_iconst, ↓vm_iload, ↓vm_iload_n, ↓vm_invokestatic, ↓vm_invokevirtual, ↓vm_return_, ↓xc_2, ↓xc_3, ↓xc_4, ↓tbX7_lock_0, ↓tbX7_lock_1, ↓tbX7_lock_2, ↓tbX7_lock_5, ↓tbX7_lock_7, ↓tbX7_lock_8, ↓tbX7_lock_9, ↓tbX7_lock_11, ↓tbX7_lock_14, ↓tbX7_lock_15, ↓tbX7_lock_16, ↓tbX7_lock_17, ↓tbX7_lock_20, ↓tbX7_lock_21, ↓tbX7_lock_23, ↓tbX7_lock_26, ↓tbX7_lock_28, ↓tbX7_lock_29, ↓tbX7_lock_30, ↓tbX7_lock_32, ↓tbX7_lock_35, hfu, xstep0, xJ1_hit, xJ1_go, xJ2_hit1, xJ2_hit2, xJ2_go, ↓xif_t, ↓xif_f, seval, ↓xca_eq, ↓xre_l, ↓xre_r, xmask_t, xmask_f, xmask_nil, ↓xst_eq, xX_eq, eI_eq, eMc_eq, eMs_eq, eF_eq, eThr_eq, ↓xS1_mk, ↓xSI_mk, ↓xSR_mk, ↓xLI_0, ↓xLI_s, ↓xLR_0, ↓xLR_s, vRef_ref, vRef_null, vRef_rf, cat_int, cat_ref, cat_null, cat_rf, rf_some, rf_none, rf_null, rf_eq, rf_ref, ref_rf, ref_null, ref_ref, xOk_0, xOk_1, xOk_2r, xOk_2n, xOk_2f, vOpt_rf, vOpt_ref, vOpt_null, List.set_cons_zero, List.set_cons_succ, List.take_succ_cons, List.take_zero, List.drop_succ_cons, List.drop_zero, List.reverse_cons, List.reverse_nil, List.nil_append, List.cons_append, List.append_nil, List.length_cons, List.length_nil, List.map_cons, List.map_nil, List.sum_cons, List.sum_nil, Option.toList_some, Option.toList_none, xRecv_mk, true_and, and_true, true_implies, Nat.reduceAdd, Nat.reduceLeDiff, Nat.zero_le, Nat.le_refl, Nat.add_zero, Nat.zero_add, reduceIte, not_true_eq_false, not_false_eq_true, false_implies, and_self, implies_true, eq_self, Nat.reduceEqDiff, List.cons.injEq, xsn_1, xsn_2, false_and, and_false, or_false, false_or, or_true, true_or, xsn_3, xsn_4, cK_setI, cFi_setI, cFr_setI, cLen_setI, cRi_setI, ↓spwX7_needSection, spcX7_needSection, ↓spwX7_needWithin, spcX7_needWithin, ↓spwX7_needNoBoatIn, spcX7_needNoBoatIn, ↓spwX5_becomeLock, spcX5_becomeLock, h0, h1, h2, q, hb0, g2, h3, h4, hz01]
    try simp only [xif_e]
    repeat' (first | with_reducible apply And.intro | with_reducible intro _)
    all_goals grind (splits := 30) [bi]
  · have h := hbad q
    refine xgo hG (mb := []) (head := 6) (P := fun _ _ _ _ _ => False) (fun _ _ _ _ _ q => q.elim) (pc := 0) (fun fu hfu => ?_)
    simp only [↓callX7_lock_0, ↓callX7_lock_1, ↓callX7_lock_2, ↓callX7_lock_3, cisa, kb_9, kc_9, ki_1, ki_3, ↓vm_aload, ↓vm_aload_n, ↓vm_astore, ↓vm_bipush, ↓vm_iconst, ↓vm_iload, ↓vm_iload_n, ↓vm_invokestatic, ↓vm_invokevirtual, ↓vm_return_, ↓xc_2, ↓xc_3, ↓xc_4, ↓tbX7_lock_0, ↓tbX7_lock_1, ↓tbX7_lock_2, ↓tbX7_lock_5, ↓tbX7_lock_7, ↓tbX7_lock_8, ↓tbX7_lock_9, ↓tbX7_lock_11, ↓tbX7_lock_14, ↓tbX7_lock_15, ↓tbX7_lock_16, ↓tbX7_lock_17, ↓tbX7_lock_20, ↓tbX7_lock_21, ↓tbX7_lock_23, ↓tbX7_lock_26, ↓tbX7_lock_28, ↓tbX7_lock_29, ↓tbX7_lock_30, ↓tbX7_lock_32, ↓tbX7_lock_35, hfu, xstep0, xJ1_hit, xJ1_go, xJ2_hit1, xJ2_hit2, xJ2_go, ↓xif_t, ↓xif_f, seval, ↓xca_eq, ↓xre_l, ↓xre_r, xmask_t, xmask_f, xmask_nil, ↓xst_eq, xX_eq, eI_eq, eMc_eq, eMs_eq, eF_eq, eThr_eq, ↓xS1_mk, ↓xSI_mk, ↓xSR_mk, ↓xLI_0, ↓xLI_s, ↓xLR_0, ↓xLR_s, vRef_ref, vRef_null, vRef_rf, cat_int, cat_ref, cat_null, cat_rf, rf_some, rf_none, rf_null, rf_eq, rf_ref, ref_rf, ref_null, ref_ref, xOk_0, xOk_1, xOk_2r, xOk_2n, xOk_2f, vOpt_rf, vOpt_ref, vOpt_null, List.set_cons_zero, List.set_cons_succ, List.take_succ_cons, List.take_zero, List.drop_succ_cons, List.drop_zero, List.reverse_cons, List.reverse_nil, List.nil_append, List.cons_append, List.append_nil, List.length_cons, List.length_nil, List.map_cons, List.map_nil, List.sum_cons, List.sum_nil, Option.toList_some, Option.toList_none, xRecv_mk, true_and, and_true, true_implies, Nat.reduceAdd, Nat.reduceLeDiff, Nat.zero_le, Nat.le_refl, Nat.add_zero, Nat.zero_add, reduceIte, not_true_eq_false, not_false_eq_true, false_implies, and_self, implies_true, eq_self, Nat.reduceEqDiff, List.cons.injEq, xsn_1, xsn_2, false_and, and_false, or_false, false_or, or_true, true_or, xsn_3, xsn_4, cK_setI, cFi_setI, cFr_setI, cLen_setI, cRi_setI, ↓spwX7_needSection, spcX7_needSection, ↓spwX7_needWithin, spcX7_needWithin, ↓spwX7_needNoBoatIn, spcX7_needNoBoatIn, ↓spwX5_becomeLock, spcX5_becomeLock, h0, h1, h2, q]
    try simp only [xif_e]
    first | exact h | grind

def tbX7_dredge : List (Nat × xHint) := [(0, .aload_n 0, 0, 0, 0, []), (1, .iload_n 1, 1, 0, 0, []), (2, .invokevirtual 53, 0, 2, 8, []), (5, .astore_n 3, 3, 0, 0, []), (6, .iload_n 2, 2, 0, 0, []), (7, .iconst 1, 0, 0, 0, []), (8, .bipush 20, 0, 0, 0, []), (10, .invokestatic 57, 1, 3, 0, []), (13, .aload_n 3, 3, 0, 0, []), (14, .getfield 73, 6, 1, 0, []), (17, .iload_n 2, 2, 0, 0, []), (18, .iadd, 0, 0, 0, []), (19, .bipush 99, 0, 0, 0, []), (21, .if_icmp .gt 7, 28, 0, 0, []), (24, .iconst 1, 0, 0, 0, []), (25, .goto 4, 29, 0, 0, []), (28, .iconst 0, 0, 0, 0, []), (29, .invokestatic 77, 2, 1, 0, []), (32, .aload_n 3, 3, 0, 0, []), (33, .dup, 0, 0, 0, []), (34, .getfield 73, 6, 1, 0, []), (37, .iload_n 2, 2, 0, 0, []), (38, .iadd, 0, 0, 0, []), (39, .putfield 73, 6, 1, 0, []), (42, .aload_n 3, 3, 0, 0, []), (43, .getfield 73, 6, 1, 0, []), (46, .ireturn, 0, 0, 0, [])]
def clX7_dredge : List (Instr × Nat × Nat × Nat) := [(.invokevirtual 53, 0, 2, 8), (.invokestatic 57, 1, 3, 0), (.invokestatic 77, 2, 1, 0)]
def thX7_dredge : List (Nat × Nat) := []
theorem ckX7_dredge : tbX7_dredge.all (xRow RX7 cX7_dredge wsX7_dredge vwCl [6] clX7_dredge thX7_dredge 4 (yX7_dredge.name == "<init>") (some .int)) = true := xRow_q 0xac4900b42d4900b5601c4900b4592d4d00b8030400a7040700a36310601c4900b42d3900b81410041c4e3500b61b2a 47 (by decide +kernel) (by decide +kernel)
theorem usX7_dredge : xUse wsX7_dredge vwCl [6] = true := xUse_g rfl (lw_good lwl_X7_dredge lwl_X50 (by decide +kernel)) xUse_n
theorem tbX7_dredge_0 {k : Instr → Nat → Nat → Nat → List Nat → Prop} : xse (xFind tbX7_dredge 0) k = k (.aload_n 0) 0 0 0 [] := rfl
theorem tbX7_dredge_1 {k : Instr → Nat → Nat → Nat → List Nat → Prop} : xse (xFind tbX7_dredge 1) k = k (.iload_n 1) 1 0 0 [] := rfl
theorem tbX7_dredge_2 {k : Instr → Nat → Nat → Nat → List Nat → Prop} : xse (xFind tbX7_dredge 2) k = k (.invokevirtual 53) 0 2 8 [] := rfl
theorem tbX7_dredge_5 {k : Instr → Nat → Nat → Nat → List Nat → Prop} : xse (xFind tbX7_dredge 5) k = k (.astore_n 3) 3 0 0 [] := rfl
theorem tbX7_dredge_6 {k : Instr → Nat → Nat → Nat → List Nat → Prop} : xse (xFind tbX7_dredge 6) k = k (.iload_n 2) 2 0 0 [] := rfl
theorem tbX7_dredge_7 {k : Instr → Nat → Nat → Nat → List Nat → Prop} : xse (xFind tbX7_dredge 7) k = k (.iconst 1) 0 0 0 [] := rfl
theorem tbX7_dredge_8 {k : Instr → Nat → Nat → Nat → List Nat → Prop} : xse (xFind tbX7_dredge 8) k = k (.bipush 20) 0 0 0 [] := rfl
theorem tbX7_dredge_10 {k : Instr → Nat → Nat → Nat → List Nat → Prop} : xse (xFind tbX7_dredge 10) k = k (.invokestatic 57) 1 3 0 [] := rfl
theorem tbX7_dredge_13 {k : Instr → Nat → Nat → Nat → List Nat → Prop} : xse (xFind tbX7_dredge 13) k = k (.aload_n 3) 3 0 0 [] := rfl
theorem tbX7_dredge_14 {k : Instr → Nat → Nat → Nat → List Nat → Prop} : xse (xFind tbX7_dredge 14) k = k (.getfield 73) 6 1 0 [] := rfl
theorem tbX7_dredge_17 {k : Instr → Nat → Nat → Nat → List Nat → Prop} : xse (xFind tbX7_dredge 17) k = k (.iload_n 2) 2 0 0 [] := rfl
theorem tbX7_dredge_18 {k : Instr → Nat → Nat → Nat → List Nat → Prop} : xse (xFind tbX7_dredge 18) k = k (.iadd) 0 0 0 [] := rfl
theorem tbX7_dredge_19 {k : Instr → Nat → Nat → Nat → List Nat → Prop} : xse (xFind tbX7_dredge 19) k = k (.bipush 99) 0 0 0 [] := rfl
theorem tbX7_dredge_21 {k : Instr → Nat → Nat → Nat → List Nat → Prop} : xse (xFind tbX7_dredge 21) k = k (.if_icmp .gt 7) 28 0 0 [] := rfl
theorem tbX7_dredge_24 {k : Instr → Nat → Nat → Nat → List Nat → Prop} : xse (xFind tbX7_dredge 24) k = k (.iconst 1) 0 0 0 [] := rfl
theorem tbX7_dredge_25 {k : Instr → Nat → Nat → Nat → List Nat → Prop} : xse (xFind tbX7_dredge 25) k = k (.goto 4) 29 0 0 [] := rfl
theorem tbX7_dredge_28 {k : Instr → Nat → Nat → Nat → List Nat → Prop} : xse (xFind tbX7_dredge 28) k = k (.iconst 0) 0 0 0 [] := rfl
theorem tbX7_dredge_29 {k : Instr → Nat → Nat → Nat → List Nat → Prop} : xse (xFind tbX7_dredge 29) k = k (.invokestatic 77) 2 1 0 [] := rfl
theorem tbX7_dredge_32 {k : Instr → Nat → Nat → Nat → List Nat → Prop} : xse (xFind tbX7_dredge 32) k = k (.aload_n 3) 3 0 0 [] := rfl
theorem tbX7_dredge_33 {k : Instr → Nat → Nat → Nat → List Nat → Prop} : xse (xFind tbX7_dredge 33) k = k (.dup) 0 0 0 [] := rfl
theorem tbX7_dredge_34 {k : Instr → Nat → Nat → Nat → List Nat → Prop} : xse (xFind tbX7_dredge 34) k = k (.getfield 73) 6 1 0 [] := rfl
theorem tbX7_dredge_37 {k : Instr → Nat → Nat → Nat → List Nat → Prop} : xse (xFind tbX7_dredge 37) k = k (.iload_n 2) 2 0 0 [] := rfl
theorem tbX7_dredge_38 {k : Instr → Nat → Nat → Nat → List Nat → Prop} : xse (xFind tbX7_dredge 38) k = k (.iadd) 0 0 0 [] := rfl
theorem tbX7_dredge_39 {k : Instr → Nat → Nat → Nat → List Nat → Prop} : xse (xFind tbX7_dredge 39) k = k (.putfield 73) 6 1 0 [] := rfl
theorem tbX7_dredge_42 {k : Instr → Nat → Nat → Nat → List Nat → Prop} : xse (xFind tbX7_dredge 42) k = k (.aload_n 3) 3 0 0 [] := rfl
theorem tbX7_dredge_43 {k : Instr → Nat → Nat → Nat → List Nat → Prop} : xse (xFind tbX7_dredge 43) k = k (.getfield 73) 6 1 0 [] := rfl
theorem tbX7_dredge_46 {k : Instr → Nat → Nat → Nat → List Nat → Prop} : xse (xFind tbX7_dredge 46) k = k (.ireturn) 0 0 0 [] := rfl

def spX7_dredge (W9 : xWd) : xSp cS := (fun av S => (3, 18), fun av S K => ∃ (a : Nat) (s : Int32) (y : Int32), av = [.ref a, .int s, .int y] ∧ (cK S a = 9 ∧ (cIn S a 800 1 ∧ lAll S (cRf S a 800) 7) ∧ (¬ (0 ≤ s ∧ s < cFi S (cRf S a 800) 2) → K (rX "java/lang/IndexOutOfBoundsException") S) ∧ (0 ≤ s ∧ s < cFi S (cRf S a 800) 2 → (¬ (1 ≤ y ∧ y ≤ 20) → K (rX "java/lang/IllegalArgumentException") S) ∧ ((1 ≤ y ∧ y ≤ 20) → (¬ (cFi S (lG S (cRf S a 800) s.toNatClampNeg) 601 + y ≤ 99) → K (rX "java/lang/IllegalStateException") S) ∧ ((cFi S (lG S (cRf S a 800) s.toNatClampNeg) 601 + y ≤ 99) → K (rI (cFi S (lG S (cRf S a 800) s.toNatClampNeg) 601 + y)) (cSetI S (lG S (cRf S a 800) s.toNatClampNeg) 601 (cFi S (lG S (cRf S a 800) s.toNatClampNeg) 601 + y)))))))
theorem spcX7_dredge {av : List Value} {S : cS} {W9 : xWd} : (spX7_dredge W9).1 av S = (3, 18) := rfl
theorem spwX7_dredge {S : cS} {W9 : xWd} {K : xRes → cS → Prop} {a : Nat} {s : Int32} {y : Int32} : (spX7_dredge W9).2 [.ref a, .int s, .int y] S K = (cK S a = 9 ∧ (cIn S a 800 1 ∧ lAll S (cRf S a 800) 7) ∧ (¬ (0 ≤ s ∧ s < cFi S (cRf S a 800) 2) → K (rX "java/lang/IndexOutOfBoundsException") S) ∧ (0 ≤ s ∧ s < cFi S (cRf S a 800) 2 → (¬ (1 ≤ y ∧ y ≤ 20) → K (rX "java/lang/IllegalArgumentException") S) ∧ ((1 ≤ y ∧ y ≤ 20) → (¬ (cFi S (lG S (cRf S a 800) s.toNatClampNeg) 601 + y ≤ 99) → K (rX "java/lang/IllegalStateException") S) ∧ ((cFi S (lG S (cRf S a 800) s.toNatClampNeg) 601 + y ≤ 99) → K (rI (cFi S (lG S (cRf S a 800) s.toNatClampNeg) 601 + y)) (cSetI S (lG S (cRf S a 800) s.toNatClampNeg) 601 (cFi S (lG S (cRf S a 800) s.toNatClampNeg) 601 + y)))))) :=
  propext ⟨fun h => by
    simp only [spX7_dredge] at h
    obtain ⟨_, _, _, e, h⟩ := h
    simp only [List.cons.injEq, Value.int.injEq, Value.ref.injEq, rf_eq, and_true, true_and] at e
    obtain ⟨rfl, rfl, rfl⟩ := e
    exact h, fun h => ⟨_, _, _, rfl, h⟩⟩

def callX7_dredge (W9 : xWd) : Nat → Option (xSp cS) := fun n => match n with | 0 => some (spX7_needSection W9) | 1 => some (spX7_needWithin W9) | 2 => some (spX7_needState W9) | _ => none

theorem callX7_dredge_0 {W9 : xWd} {k : xSp cS → Prop} : xcs (callX7_dredge W9 0) k = k (spX7_needSection W9) := rfl

theorem callX7_dredge_1 {W9 : xWd} {k : xSp cS → Prop} : xcs (callX7_dredge W9 1) k = k (spX7_needWithin W9) := rfl

theorem callX7_dredge_2 {W9 : xWd} {k : xSp cS → Prop} : xcs (callX7_dredge W9 2) k = k (spX7_needState W9) := rfl

theorem crX7_dredge (l : Launch) (hl : l.stackTraces = false) (W9 : xWd) : xCallsOK l W9 (cI) (callX7_dredge W9) clX7_dredge RX7 wsX7_dredge 7 112 4 := by
  intro E A p e R s m args below meth c hI hF hL X
  exact List.forall_mem_cons.mpr ⟨⟨_, rfl, xCR_V X (by rw [hI]; exact (semX7_needSection l hl W9)) gX7_dredge_X7_needSection rfl rfl (by decide +kernel) (by rw [hF, hL]; decide)⟩,
    List.forall_mem_cons.mpr ⟨⟨_, rfl, xCR_S X (by rw [hI]; exact (semX7_needWithin l hl W9)) gX7_dredge_X7_needWithin rfl (by decide +kernel) (by rw [hF, hL]; decide)⟩,
    List.forall_mem_cons.mpr ⟨⟨_, rfl, xCR_S X (by rw [hI]; exact (semX7_needState l hl W9)) gX7_dredge_X7_needState rfl (by decide +kernel) (by rw [hF, hL]; decide)⟩,
    fun _ h => nomatch h⟩⟩⟩

set_option maxHeartbeats 4000000 in
set_option maxRecDepth 20000 in
theorem semX7_dredge (l : Launch) (hl : l.stackTraces = false) (W9 : xWd) : xSem l W9 (cI) yX7_dredge wsX7_dredge 7 112 (spX7_dredge W9) := by
  refine xSem_of (call := callX7_dredge W9) (thrf := fun _ => "") cI_law (by decide +kernel) rfl ckX7_dredge usX7_dredge (crX7_dredge l hl W9) xThrOK_nil ?_ ?_
  · intro av S KF h
    obtain ⟨a, s, y, rfl, h⟩ := h
    exact ⟨by intro v hv; simp only [List.mem_cons, List.not_mem_nil, or_false] at hv; rcases hv with rfl | rfl | rfl <;> first | rfl | exact cat_rf, Nat.le_of_ble_eq_true rfl⟩
  intro av S KF h G hG
  obtain ⟨a, s, y, rfl, h⟩ := h
  rw [show (spX7_dredge W9).1 _ S = _ from spcX7_dredge] at hG
  try dsimp only at hG
  change G 0 [some (.ref a), some (.int s), some (.int y), none] [] S 0 0
  obtain ⟨h0, ⟨h1, h2⟩, hbad, hok⟩ := h

  by_cases q : 0 ≤ s ∧ s < cFi S (cRf S a 800) 2
  · have hz := hok q
    obtain ⟨g1, g2⟩ := lAll_at h2 q.1 q.2
    have gj := (lOk_in h2.1 q.1 q.2).2.2
    generalize hb0 : (lG S (cRf S a 800) s.toNatClampNeg) = g at *
    refine xgo0 hG (fun fu hfu => ?_)
    simp only [↓callX7_dredge_0, ↓callX7_dredge_1, ↓callX7_dredge_2, ↓cg_6_1, cisa, ↓cp_6_1, kb_20, kb_99, kc_20, kc_99, ki_0, ki_1, ↓vm_aload_n, ↓vm_astore_n, ↓vm_bipush, ↓vm_dup, ↓vm_getfield, ↓vm_goto, ↓vm_iadd, ↓vm_iconst, ↓vm_if_icmp_gt, ↓vm_iload_n, ↓vm_invokestatic, ↓vm_invokevirtual, ↓vm_ireturn, ↓vm_putfield, ↓xc_1, ↓xc_2, ↓xc_3, ↓tbX7_dredge_0, ↓tbX7_dredge_1, ↓tbX7_dredge_2, ↓tbX7_dredge_5, ↓tbX7_dredge_6, ↓tbX7_dredge_7, ↓tbX7_dredge_8, ↓tbX7_dredge_10, ↓tbX7_dredge_13, ↓tbX7_dredge_14, ↓tbX7_dredge_17, ↓tbX7_dredge_18, ↓tbX7_dredge_19, ↓tbX7_dredge_21, ↓tbX7_dredge_24, ↓tbX7_dredge_25, ↓tbX7_dredge_28, ↓tbX7_dredge_29, ↓tbX7_dredge_32, ↓tbX7_dredge_33, ↓tbX7_dredge_34, ↓tbX7_dredge_37, ↓tbX7_dredge_38, ↓tbX7_dredge_39, ↓tbX7_dredge_42, ↓tbX7_dredge_43, ↓tbX7_dredge_46, hfu, xstep0, xJ1_hit, xJ1_go, xJ2_hit1, xJ2_hit2, xJ2_go, ↓xif_t, ↓xif_f, seval, ↓xca_eq, ↓xre_l, ↓xre_r, xmask_t, xmask_f, xmask_nil, ↓xst_eq, xX_eq, eI_eq, eMc_eq, eMs_eq, eF_eq, eThr_eq, ↓xS1_mk, ↓xSI_mk, ↓xSR_mk, ↓xLI_0, ↓xLI_s, ↓xLR_0, ↓xLR_s, vRef_ref, vRef_null, vRef_rf, cat_int, cat_ref, cat_null, cat_rf, rf_some, rf_none, rf_null, rf_eq, rf_ref, ref_rf, ref_null, ref_ref, xOk_0, xOk_1, xOk_2r, xOk_2n, xOk_2f, vOpt_rf, vOpt_ref, vOpt_null, List.set_cons_zero, List.set_cons_succ, List.take_succ_cons, List.take_zero, List.drop_succ_cons, List.drop_zero, List.reverse_cons, List.reverse_nil, List.nil_append, List.cons_append, List.append_nil, List.length_cons, List.length_nil, List.map_cons, List.map_nil, List.sum_cons, List.sum_nil, Option.toList_some, Option.toList_none, xRecv_mk, true_and, and_true, true_implies, Nat.reduceAdd, Nat.reduceLeDiff, Nat.zero_le, Nat.le_refl, Nat.add_zero, Nat.zero_add, reduceIte, not_true_eq_false, not_false_eq_true, false_implies, and_self, implies_true, eq_self, Nat.reduceEqDiff, List.cons.injEq, xsn_1, xsn_2, false_and, and_false, or_false, false_or, or_true, true_or, xsn_3, xsn_4, cK_setI, cFi_setI, cFr_setI, cLen_setI, cRi_setI, ↓spwX7_needSection, spcX7_needSection, ↓spwX7_needWithin, spcX7_needWithin, ↓spwX7_needState, spcX7_needState, h0, h1, h2, q, hb0, g2]
    try simp only [xif_e]
    repeat' (first | with_reducible apply And.intro | with_reducible intro _)
    all_goals grind (splits := 30) [bi]
  · have h := hbad q
    refine xgo hG (mb := []) (head := 6) (P := fun _ _ _ _ _ => False) (fun _ _ _ _ _ q => q.elim) (pc := 0) (fun fu hfu => ?_)
    simp only [↓callX7_dredge_0, ↓callX7_dredge_1, ↓callX7_dredge_2, ↓cg_6_1, cisa, ↓cp_6_1, kb_20, kb_99, kc_20, kc_99, ki_0, ki_1, ↓vm_aload_n, ↓vm_astore_n, ↓vm_bipush, ↓vm_dup, ↓vm_getfield, ↓vm_goto, ↓vm_iadd, ↓vm_iconst, ↓vm_if_icmp_gt, ↓vm_iload_n, ↓vm_invokestatic, ↓vm_invokevirtual, ↓vm_ireturn, ↓vm_putfield, ↓xc_1, ↓xc_2, ↓xc_3, ↓tbX7_dredge_0, ↓tbX7_dredge_1, ↓tbX7_dredge_2, ↓tbX7_dredge_5, ↓tbX7_dredge_6, ↓tbX7_dredge_7, ↓tbX7_dredge_8, ↓tbX7_dredge_10, ↓tbX7_dredge_13, ↓tbX7_dredge_14, ↓tbX7_dredge_17, ↓tbX7_dredge_18, ↓tbX7_dredge_19, ↓tbX7_dredge_21, ↓tbX7_dredge_24, ↓tbX7_dredge_25, ↓tbX7_dredge_28, ↓tbX7_dredge_29, ↓tbX7_dredge_32, ↓tbX7_dredge_33, ↓tbX7_dredge_34, ↓tbX7_dredge_37, ↓tbX7_dredge_38, ↓tbX7_dredge_39, ↓tbX7_dredge_42, ↓tbX7_dredge_43, ↓tbX7_dredge_46, hfu, xstep0, xJ1_hit, xJ1_go, xJ2_hit1, xJ2_hit2, xJ2_go, ↓xif_t, ↓xif_f, seval, ↓xca_eq, ↓xre_l, ↓xre_r, xmask_t, xmask_f, xmask_nil, ↓xst_eq, xX_eq, eI_eq, eMc_eq, eMs_eq, eF_eq, eThr_eq, ↓xS1_mk, ↓xSI_mk, ↓xSR_mk, ↓xLI_0, ↓xLI_s, ↓xLR_0, ↓xLR_s, vRef_ref, vRef_null, vRef_rf, cat_int, cat_ref, cat_null, cat_rf, rf_some, rf_none, rf_null, rf_eq, rf_ref, ref_rf, ref_null, ref_ref, xOk_0, xOk_1, xOk_2r, xOk_2n, xOk_2f, vOpt_rf, vOpt_ref, vOpt_null, List.set_cons_zero, List.set_cons_succ, List.take_succ_cons, List.take_zero, List.drop_succ_cons, List.drop_zero, List.reverse_cons, List.reverse_nil, List.nil_append, List.cons_append, List.append_nil, List.length_cons, List.length_nil, List.map_cons, List.map_nil, List.sum_cons, List.sum_nil, Option.toList_some, Option.toList_none, xRecv_mk, true_and, and_true, true_implies, Nat.reduceAdd, Nat.reduceLeDiff, Nat.zero_le, Nat.le_refl, Nat.add_zero, Nat.zero_add, reduceIte, not_true_eq_false, not_false_eq_true, false_implies, and_self, implies_true, eq_self, Nat.reduceEqDiff, List.cons.injEq, xsn_1, xsn_2, false_and, and_false, or_false, false_or, or_true, true_or, xsn_3, xsn_4, cK_setI, cFi_setI, cFr_setI, cLen_setI, cRi_setI, ↓spwX7_needSection, spcX7_needSection, ↓spwX7_needWithin, spcX7_needWithin, ↓spwX7_needState, spcX7_needState, h0, h1, h2, q]
    try simp only [xif_e]
    first | exact h | grind

def tbX7_stage : List (Nat × xHint) := [(0, .iload_n 1, 1, 0, 0, []), (1, .bipush (-30), 0, 0, 0, []), (3, .bipush 60, 0, 0, 0, []), (5, .invokestatic 57, 0, 3, 0, []), (8, .iload_n 2, 2, 0, 0, []), (9, .bipush (-9), 0, 0, 0, []), (11, .bipush 9, 0, 0, 0, []), (13, .invokestatic 57, 0, 3, 0, []), (16, .aload_n 0, 0, 0, 0, []), (17, .getfield 81, 8, 8, 0, []), (20, .istore_n 3, 3, 0, 0, []), (21, .aload_n 0, 0, 0, 0, []), (22, .iload_n 1, 1, 0, 0, []), (23, .putfield 81, 8, 8, 0, []), (26, .aload_n 0, 0, 0, 0, []), (27, .iload_n 2, 2, 0, 0, []), (28, .putfield 84, 8, 9, 0, []), (31, .iload_n 3, 3, 0, 0, []), (32, .ireturn, 0, 0, 0, [])]
def clX7_stage : List (Instr × Nat × Nat × Nat) := [(.invokestatic 57, 0, 3, 0)]
def thX7_stage : List (Nat × Nat) := []
theorem ckX7_stage : tbX7_stage.all (xRow RX7 cX7_stage wsX7_stage vwCl [8] clX7_stage thX7_stage 4 (yX7_stage.name == "<init>") (some .int)) = true := xRow_q 0xac1d5400b51c2a5100b51b2a3e5100b42a3900b80910f7101c3900b83c10e2101b 33 (by decide +kernel) (by decide +kernel)
theorem usX7_stage : xUse wsX7_stage vwCl [8] = true := xUse_g rfl (lw_good lwl_X7_stage lwl_X70 (by decide +kernel)) xUse_n
theorem tbX7_stage_0 {k : Instr → Nat → Nat → Nat → List Nat → Prop} : xse (xFind tbX7_stage 0) k = k (.iload_n 1) 1 0 0 [] := rfl
theorem tbX7_stage_1 {k : Instr → Nat → Nat → Nat → List Nat → Prop} : xse (xFind tbX7_stage 1) k = k (.bipush (-30)) 0 0 0 [] := rfl
theorem tbX7_stage_3 {k : Instr → Nat → Nat → Nat → List Nat → Prop} : xse (xFind tbX7_stage 3) k = k (.bipush 60) 0 0 0 [] := rfl
theorem tbX7_stage_5 {k : Instr → Nat → Nat → Nat → List Nat → Prop} : xse (xFind tbX7_stage 5) k = k (.invokestatic 57) 0 3 0 [] := rfl
theorem tbX7_stage_8 {k : Instr → Nat → Nat → Nat → List Nat → Prop} : xse (xFind tbX7_stage 8) k = k (.iload_n 2) 2 0 0 [] := rfl
theorem tbX7_stage_9 {k : Instr → Nat → Nat → Nat → List Nat → Prop} : xse (xFind tbX7_stage 9) k = k (.bipush (-9)) 0 0 0 [] := rfl
theorem tbX7_stage_11 {k : Instr → Nat → Nat → Nat → List Nat → Prop} : xse (xFind tbX7_stage 11) k = k (.bipush 9) 0 0 0 [] := rfl
theorem tbX7_stage_13 {k : Instr → Nat → Nat → Nat → List Nat → Prop} : xse (xFind tbX7_stage 13) k = k (.invokestatic 57) 0 3 0 [] := rfl
theorem tbX7_stage_16 {k : Instr → Nat → Nat → Nat → List Nat → Prop} : xse (xFind tbX7_stage 16) k = k (.aload_n 0) 0 0 0 [] := rfl
theorem tbX7_stage_17 {k : Instr → Nat → Nat → Nat → List Nat → Prop} : xse (xFind tbX7_stage 17) k = k (.getfield 81) 8 8 0 [] := rfl
theorem tbX7_stage_20 {k : Instr → Nat → Nat → Nat → List Nat → Prop} : xse (xFind tbX7_stage 20) k = k (.istore_n 3) 3 0 0 [] := rfl
theorem tbX7_stage_21 {k : Instr → Nat → Nat → Nat → List Nat → Prop} : xse (xFind tbX7_stage 21) k = k (.aload_n 0) 0 0 0 [] := rfl
theorem tbX7_stage_22 {k : Instr → Nat → Nat → Nat → List Nat → Prop} : xse (xFind tbX7_stage 22) k = k (.iload_n 1) 1 0 0 [] := rfl
theorem tbX7_stage_23 {k : Instr → Nat → Nat → Nat → List Nat → Prop} : xse (xFind tbX7_stage 23) k = k (.putfield 81) 8 8 0 [] := rfl
theorem tbX7_stage_26 {k : Instr → Nat → Nat → Nat → List Nat → Prop} : xse (xFind tbX7_stage 26) k = k (.aload_n 0) 0 0 0 [] := rfl
theorem tbX7_stage_27 {k : Instr → Nat → Nat → Nat → List Nat → Prop} : xse (xFind tbX7_stage 27) k = k (.iload_n 2) 2 0 0 [] := rfl
theorem tbX7_stage_28 {k : Instr → Nat → Nat → Nat → List Nat → Prop} : xse (xFind tbX7_stage 28) k = k (.putfield 84) 8 9 0 [] := rfl
theorem tbX7_stage_31 {k : Instr → Nat → Nat → Nat → List Nat → Prop} : xse (xFind tbX7_stage 31) k = k (.iload_n 3) 3 0 0 [] := rfl
theorem tbX7_stage_32 {k : Instr → Nat → Nat → Nat → List Nat → Prop} : xse (xFind tbX7_stage 32) k = k (.ireturn) 0 0 0 [] := rfl

def spX7_stage (W9 : xWd) : xSp cS := (fun av S => (2, 12), fun av S K => ∃ (a : Nat) (v : Int32) (f : Int32), av = [.ref a, .int v, .int f] ∧ (cK S a = 9 ∧ (¬ ((-30 ≤ v ∧ v ≤ 60) ∧ -9 ≤ f ∧ f ≤ 9) → K (rX "java/lang/IllegalArgumentException") S) ∧ (((-30 ≤ v ∧ v ≤ 60) ∧ -9 ≤ f ∧ f ≤ 9) → K (rI (cFi S a 808)) (cSetI (cSetI S a 808 v) a 809 f))))
theorem spcX7_stage {av : List Value} {S : cS} {W9 : xWd} : (spX7_stage W9).1 av S = (2, 12) := rfl
theorem spwX7_stage {S : cS} {W9 : xWd} {K : xRes → cS → Prop} {a : Nat} {v : Int32} {f : Int32} : (spX7_stage W9).2 [.ref a, .int v, .int f] S K = (cK S a = 9 ∧ (¬ ((-30 ≤ v ∧ v ≤ 60) ∧ -9 ≤ f ∧ f ≤ 9) → K (rX "java/lang/IllegalArgumentException") S) ∧ (((-30 ≤ v ∧ v ≤ 60) ∧ -9 ≤ f ∧ f ≤ 9) → K (rI (cFi S a 808)) (cSetI (cSetI S a 808 v) a 809 f))) :=
  propext ⟨fun h => by
    simp only [spX7_stage] at h
    obtain ⟨_, _, _, e, h⟩ := h
    simp only [List.cons.injEq, Value.int.injEq, Value.ref.injEq, rf_eq, and_true, true_and] at e
    obtain ⟨rfl, rfl, rfl⟩ := e
    exact h, fun h => ⟨_, _, _, rfl, h⟩⟩

def callX7_stage (W9 : xWd) : Nat → Option (xSp cS) := fun n => match n with | 0 => some (spX7_needWithin W9) | _ => none

theorem callX7_stage_0 {W9 : xWd} {k : xSp cS → Prop} : xcs (callX7_stage W9 0) k = k (spX7_needWithin W9) := rfl

theorem crX7_stage (l : Launch) (hl : l.stackTraces = false) (W9 : xWd) : xCallsOK l W9 (cI) (callX7_stage W9) clX7_stage RX7 wsX7_stage 7 112 4 := by
  intro E A p e R s m args below meth c hI hF hL X
  exact List.forall_mem_cons.mpr ⟨⟨_, rfl, xCR_S X (by rw [hI]; exact (semX7_needWithin l hl W9)) gX7_stage_X7_needWithin rfl (by decide +kernel) (by rw [hF, hL]; decide)⟩,
    fun _ h => nomatch h⟩

set_option maxHeartbeats 4000000 in
set_option maxRecDepth 20000 in
theorem semX7_stage (l : Launch) (hl : l.stackTraces = false) (W9 : xWd) : xSem l W9 (cI) yX7_stage wsX7_stage 7 112 (spX7_stage W9) := by
  refine xSem_of (call := callX7_stage W9) (thrf := fun _ => "") cI_law (by decide +kernel) rfl ckX7_stage usX7_stage (crX7_stage l hl W9) xThrOK_nil ?_ ?_
  · intro av S KF h
    obtain ⟨a, v, f, rfl, h⟩ := h
    exact ⟨by intro v hv; simp only [List.mem_cons, List.not_mem_nil, or_false] at hv; rcases hv with rfl | rfl | rfl <;> first | rfl | exact cat_rf, Nat.le_of_ble_eq_true rfl⟩
  intro av S KF h G hG
  obtain ⟨a, v, f, rfl, h⟩ := h
  rw [show (spX7_stage W9).1 _ S = _ from spcX7_stage] at hG
  try dsimp only at hG
  change G 0 [some (.ref a), some (.int v), some (.int f), none] [] S 0 0
  obtain ⟨h0, h1, h2⟩ := h
  refine xgo0 hG (fun fu hfu => ?_)
  clear hG
  simp only [↓callX7_stage_0, ↓cg_8_8, ↓cp_8_8, ↓cp_8_9, kb_60, kb_9, kb_m30, kb_m9, kc_60, kc_9, kc_m30, kc_m9, ↓vm_aload_n, ↓vm_bipush, ↓vm_getfield, ↓vm_iload_n, ↓vm_invokestatic, ↓vm_ireturn, ↓vm_istore_n, ↓vm_putfield, ↓xc_3, ↓tbX7_stage_0, ↓tbX7_stage_1, ↓tbX7_stage_3, ↓tbX7_stage_5, ↓tbX7_stage_8, ↓tbX7_stage_9, ↓tbX7_stage_11, ↓tbX7_stage_13, ↓tbX7_stage_16, ↓tbX7_stage_17, ↓tbX7_stage_20, ↓tbX7_stage_21, ↓tbX7_stage_22, ↓tbX7_stage_23, ↓tbX7_stage_26, ↓tbX7_stage_27, ↓tbX7_stage_28, ↓tbX7_stage_31, ↓tbX7_stage_32, hfu, xstep0, xJ1_hit, xJ1_go, xJ2_hit1, xJ2_hit2, xJ2_go, ↓xif_t, ↓xif_f, seval, ↓xca_eq, ↓xre_l, ↓xre_r, xmask_t, xmask_f, xmask_nil, ↓xst_eq, xX_eq, eI_eq, eMc_eq, eMs_eq, eF_eq, eThr_eq, ↓xS1_mk, ↓xSI_mk, ↓xSR_mk, ↓xLI_0, ↓xLI_s, ↓xLR_0, ↓xLR_s, vRef_ref, vRef_null, vRef_rf, cat_int, cat_ref, cat_null, cat_rf, rf_some, rf_none, rf_null, rf_eq, rf_ref, ref_rf, ref_null, ref_ref, xOk_0, xOk_1, xOk_2r, xOk_2n, xOk_2f, vOpt_rf, vOpt_ref, vOpt_null, List.set_cons_zero, List.set_cons_succ, List.take_succ_cons, List.take_zero, List.drop_succ_cons, List.drop_zero, List.reverse_cons, List.reverse_nil, List.nil_append, List.cons_append, List.append_nil, List.length_cons, List.length_nil, List.map_cons, List.map_nil, List.sum_cons, List.sum_nil, Option.toList_some, Option.toList_none, xRecv_mk, true_and, and_true, true_implies, Nat.reduceAdd, Nat.reduceLeDiff, Nat.zero_le, Nat.le_refl, Nat.add_zero, Nat.zero_add, reduceIte, not_true_eq_false, not_false_eq_true, false_implies, and_self, implies_true, eq_self, Nat.reduceEqDiff, List.cons.injEq, xsn_1, xsn_2, false_and, and_false, or_false, false_or, or_true, true_or, xsn_3, xsn_4, h0, cK_setI, cFi_setI, cFr_setI, cLen_setI, cRi_setI, ↓spwX7_needWithin, spcX7_needWithin]
  try simp only [xif_e]
  repeat' (first | with_reducible apply And.intro | with_reducible intro _)
  all_goals grind

def tbX7_weather : List (Nat × xHint) := [(0, .aload_n 0, 0, 0, 0, []), (1, .iload_n 1, 1, 0, 0, []), (2, .invokevirtual 53, 0, 2, 8, []), (5, .astore 4, 4, 0, 0, []), (7, .iload_n 2, 2, 0, 0, []), (8, .iconst 0, 0, 0, 0, []), (9, .iconst 3, 0, 0, 0, []), (10, .invokestatic 57, 1, 3, 0, []), (13, .aload 4, 4, 0, 0, []), (15, .getfield 87, 6, 2, 0, []), (18, .istore 5, 5, 0, 0, []), (20, .aload 4, 4, 0, 0, []), (22, .iload_n 2, 2, 0, 0, []), (23, .putfield 87, 6, 2, 0, []), (26, .aload 4, 4, 0, 0, []), (28, .iload_n 3, 3, 0, 0, []), (29, .putfield 90, 6, 3, 1, []), (32, .iload 5, 5, 0, 0, []), (34, .ireturn, 0, 0, 0, [])]
def clX7_weather : List (Instr × Nat × Nat × Nat) := [(.invokevirtual 53, 0, 2, 8), (.invokestatic 57, 1, 3, 0)]
def thX7_weather : List (Nat × Nat) := []
theorem ckX7_weather : tbX7_weather.all (xRow RX7 cX7_weather wsX7_weather vwCl [6] clX7_weather thX7_weather 6 (yX7_weather.name == "<init>") (some .int)) = true := xRow_q 0xac05155a00b51d04195700b51c041905365700b404193900b806031c043a3500b61b2a 35 (by decide +kernel) (by decide +kernel)
theorem usX7_weather : xUse wsX7_weather vwCl [6] = true := xUse_g rfl (lw_good lwl_X7_weather lwl_X50 (by decide +kernel)) xUse_n
theorem tbX7_weather_0 {k : Instr → Nat → Nat → Nat → List Nat → Prop} : xse (xFind tbX7_weather 0) k = k (.aload_n 0) 0 0 0 [] := rfl
theorem tbX7_weather_1 {k : Instr → Nat → Nat → Nat → List Nat → Prop} : xse (xFind tbX7_weather 1) k = k (.iload_n 1) 1 0 0 [] := rfl
theorem tbX7_weather_2 {k : Instr → Nat → Nat → Nat → List Nat → Prop} : xse (xFind tbX7_weather 2) k = k (.invokevirtual 53) 0 2 8 [] := rfl
theorem tbX7_weather_5 {k : Instr → Nat → Nat → Nat → List Nat → Prop} : xse (xFind tbX7_weather 5) k = k (.astore 4) 4 0 0 [] := rfl
theorem tbX7_weather_7 {k : Instr → Nat → Nat → Nat → List Nat → Prop} : xse (xFind tbX7_weather 7) k = k (.iload_n 2) 2 0 0 [] := rfl
theorem tbX7_weather_8 {k : Instr → Nat → Nat → Nat → List Nat → Prop} : xse (xFind tbX7_weather 8) k = k (.iconst 0) 0 0 0 [] := rfl
theorem tbX7_weather_9 {k : Instr → Nat → Nat → Nat → List Nat → Prop} : xse (xFind tbX7_weather 9) k = k (.iconst 3) 0 0 0 [] := rfl
theorem tbX7_weather_10 {k : Instr → Nat → Nat → Nat → List Nat → Prop} : xse (xFind tbX7_weather 10) k = k (.invokestatic 57) 1 3 0 [] := rfl
theorem tbX7_weather_13 {k : Instr → Nat → Nat → Nat → List Nat → Prop} : xse (xFind tbX7_weather 13) k = k (.aload 4) 4 0 0 [] := rfl
theorem tbX7_weather_15 {k : Instr → Nat → Nat → Nat → List Nat → Prop} : xse (xFind tbX7_weather 15) k = k (.getfield 87) 6 2 0 [] := rfl
theorem tbX7_weather_18 {k : Instr → Nat → Nat → Nat → List Nat → Prop} : xse (xFind tbX7_weather 18) k = k (.istore 5) 5 0 0 [] := rfl
theorem tbX7_weather_20 {k : Instr → Nat → Nat → Nat → List Nat → Prop} : xse (xFind tbX7_weather 20) k = k (.aload 4) 4 0 0 [] := rfl
theorem tbX7_weather_22 {k : Instr → Nat → Nat → Nat → List Nat → Prop} : xse (xFind tbX7_weather 22) k = k (.iload_n 2) 2 0 0 [] := rfl
theorem tbX7_weather_23 {k : Instr → Nat → Nat → Nat → List Nat → Prop} : xse (xFind tbX7_weather 23) k = k (.putfield 87) 6 2 0 [] := rfl
theorem tbX7_weather_26 {k : Instr → Nat → Nat → Nat → List Nat → Prop} : xse (xFind tbX7_weather 26) k = k (.aload 4) 4 0 0 [] := rfl
theorem tbX7_weather_28 {k : Instr → Nat → Nat → Nat → List Nat → Prop} : xse (xFind tbX7_weather 28) k = k (.iload_n 3) 3 0 0 [] := rfl
theorem tbX7_weather_29 {k : Instr → Nat → Nat → Nat → List Nat → Prop} : xse (xFind tbX7_weather 29) k = k (.putfield 90) 6 3 1 [] := rfl
theorem tbX7_weather_32 {k : Instr → Nat → Nat → Nat → List Nat → Prop} : xse (xFind tbX7_weather 32) k = k (.iload 5) 5 0 0 [] := rfl
theorem tbX7_weather_34 {k : Instr → Nat → Nat → Nat → List Nat → Prop} : xse (xFind tbX7_weather 34) k = k (.ireturn) 0 0 0 [] := rfl

def spX7_weather (W9 : xWd) : xSp cS := (fun av S => (2, 12), fun av S K => ∃ (a : Nat) (s : Int32) (i : Int32) (z : Int32), av = [.ref a, .int s, .int i, .int z] ∧ ((z = 0 ∨ z = 1) ∧ (cK S a = 9 ∧ (cIn S a 800 1 ∧ lAll S (cRf S a 800) 7) ∧ (¬ (0 ≤ s ∧ s < cFi S (cRf S a 800) 2) → K (rX "java/lang/IndexOutOfBoundsException") S) ∧ (0 ≤ s ∧ s < cFi S (cRf S a 800) 2 → (¬ (0 ≤ i ∧ i ≤ 3) → K (rX "java/lang/IllegalArgumentException") S) ∧ ((0 ≤ i ∧ i ≤ 3) → K (rI (cFi S (lG S (cRf S a 800) s.toNatClampNeg) 602)) (cSetI (cSetI S (lG S (cRf S a 800) s.toNatClampNeg) 602 i) (lG S (cRf S a 800) s.toNatClampNeg) 603 z))))))
theorem spcX7_weather {av : List Value} {S : cS} {W9 : xWd} : (spX7_weather W9).1 av S = (2, 12) := rfl
theorem spwX7_weather {S : cS} {W9 : xWd} {K : xRes → cS → Prop} {a : Nat} {s : Int32} {i : Int32} {z : Int32} : (spX7_weather W9).2 [.ref a, .int s, .int i, .int z] S K = ((z = 0 ∨ z = 1) ∧ (cK S a = 9 ∧ (cIn S a 800 1 ∧ lAll S (cRf S a 800) 7) ∧ (¬ (0 ≤ s ∧ s < cFi S (cRf S a 800) 2) → K (rX "java/lang/IndexOutOfBoundsException") S) ∧ (0 ≤ s ∧ s < cFi S (cRf S a 800) 2 → (¬ (0 ≤ i ∧ i ≤ 3) → K (rX "java/lang/IllegalArgumentException") S) ∧ ((0 ≤ i ∧ i ≤ 3) → K (rI (cFi S (lG S (cRf S a 800) s.toNatClampNeg) 602)) (cSetI (cSetI S (lG S (cRf S a 800) s.toNatClampNeg) 602 i) (lG S (cRf S a 800) s.toNatClampNeg) 603 z))))) :=
  propext ⟨fun h => by
    simp only [spX7_weather] at h
    obtain ⟨_, _, _, _, e, h⟩ := h
    simp only [List.cons.injEq, Value.int.injEq, Value.ref.injEq, rf_eq, and_true, true_and] at e
    obtain ⟨rfl, rfl, rfl, rfl⟩ := e
    exact h, fun h => ⟨_, _, _, _, rfl, h⟩⟩

def callX7_weather (W9 : xWd) : Nat → Option (xSp cS) := fun n => match n with | 0 => some (spX7_needSection W9) | 1 => some (spX7_needWithin W9) | _ => none

theorem callX7_weather_0 {W9 : xWd} {k : xSp cS → Prop} : xcs (callX7_weather W9 0) k = k (spX7_needSection W9) := rfl

theorem callX7_weather_1 {W9 : xWd} {k : xSp cS → Prop} : xcs (callX7_weather W9 1) k = k (spX7_needWithin W9) := rfl

theorem crX7_weather (l : Launch) (hl : l.stackTraces = false) (W9 : xWd) : xCallsOK l W9 (cI) (callX7_weather W9) clX7_weather RX7 wsX7_weather 7 112 6 := by
  intro E A p e R s m args below meth c hI hF hL X
  exact List.forall_mem_cons.mpr ⟨⟨_, rfl, xCR_V X (by rw [hI]; exact (semX7_needSection l hl W9)) gX7_weather_X7_needSection rfl rfl (by decide +kernel) (by rw [hF, hL]; decide)⟩,
    List.forall_mem_cons.mpr ⟨⟨_, rfl, xCR_S X (by rw [hI]; exact (semX7_needWithin l hl W9)) gX7_weather_X7_needWithin rfl (by decide +kernel) (by rw [hF, hL]; decide)⟩,
    fun _ h => nomatch h⟩⟩

set_option maxHeartbeats 4000000 in
set_option maxRecDepth 20000 in
theorem semX7_weather (l : Launch) (hl : l.stackTraces = false) (W9 : xWd) : xSem l W9 (cI) yX7_weather wsX7_weather 7 112 (spX7_weather W9) := by
  refine xSem_of (call := callX7_weather W9) (thrf := fun _ => "") cI_law (by decide +kernel) rfl ckX7_weather usX7_weather (crX7_weather l hl W9) xThrOK_nil ?_ ?_
  · intro av S KF h
    obtain ⟨a, s, i, z, rfl, h⟩ := h
    exact ⟨by intro v hv; simp only [List.mem_cons, List.not_mem_nil, or_false] at hv; rcases hv with rfl | rfl | rfl | rfl <;> first | rfl | exact cat_rf, Nat.le_of_ble_eq_true rfl⟩
  intro av S KF h G hG
  obtain ⟨a, s, i, z, rfl, h⟩ := h
  rw [show (spX7_weather W9).1 _ S = _ from spcX7_weather] at hG
  try dsimp only at hG
  change G 0 [some (.ref a), some (.int s), some (.int i), some (.int z), none, none] [] S 0 0
  obtain ⟨hz01, h0, ⟨h1, h2⟩, hbad, hok⟩ := h

  by_cases q : 0 ≤ s ∧ s < cFi S (cRf S a 800) 2
  · have hz := hok q
    obtain ⟨g1, g2⟩ := lAll_at h2 q.1 q.2
    have gj := (lOk_in h2.1 q.1 q.2).2.2
    generalize hb0 : (lG S (cRf S a 800) s.toNatClampNeg) = g at *
    refine xgo0 hG (fun fu hfu => ?_)
    simp only [↓callX7_weather_0, ↓callX7_weather_1, ↓cg_6_2, cisa, ↓cp_6_2, ↓cp_6_3, ki_0, ki_3, ↓vm_aload, ↓vm_aload_n, ↓vm_astore, ↓vm_getfield, ↓vm_iconst, ↓vm_iload, ↓vm_iload_n, ↓vm_invokestatic, ↓vm_invokevirtual, ↓vm_ireturn, ↓vm_istore, ↓vm_putfield, ↓xc_2, ↓xc_3, ↓tbX7_weather_0, ↓tbX7_weather_1, ↓tbX7_weather_2, ↓tbX7_weather_5, ↓tbX7_weather_7, ↓tbX7_weather_8, ↓tbX7_weather_9, ↓tbX7_weather_10, ↓tbX7_weather_13, ↓tbX7_weather_15, ↓tbX7_weather_18, ↓tbX7_weather_20, ↓tbX7_weather_22, ↓tbX7_weather_23, ↓tbX7_weather_26, ↓tbX7_weather_28, ↓tbX7_weather_29, ↓tbX7_weather_32, ↓tbX7_weather_34, hfu, xstep0, xJ1_hit, xJ1_go, xJ2_hit1, xJ2_hit2, xJ2_go, ↓xif_t, ↓xif_f, seval, ↓xca_eq, ↓xre_l, ↓xre_r, xmask_t, xmask_f, xmask_nil, ↓xst_eq, xX_eq, eI_eq, eMc_eq, eMs_eq, eF_eq, eThr_eq, ↓xS1_mk, ↓xSI_mk, ↓xSR_mk, ↓xLI_0, ↓xLI_s, ↓xLR_0, ↓xLR_s, vRef_ref, vRef_null, vRef_rf, cat_int, cat_ref, cat_null, cat_rf, rf_some, rf_none, rf_null, rf_eq, rf_ref, ref_rf, ref_null, ref_ref, xOk_0, xOk_1, xOk_2r, xOk_2n, xOk_2f, vOpt_rf, vOpt_ref, vOpt_null, List.set_cons_zero, List.set_cons_succ, List.take_succ_cons, List.take_zero, List.drop_succ_cons, List.drop_zero, List.reverse_cons, List.reverse_nil, List.nil_append, List.cons_append, List.append_nil, List.length_cons, List.length_nil, List.map_cons, List.map_nil, List.sum_cons, List.sum_nil, Option.toList_some, Option.toList_none, xRecv_mk, true_and, and_true, true_implies, Nat.reduceAdd, Nat.reduceLeDiff, Nat.zero_le, Nat.le_refl, Nat.add_zero, Nat.zero_add, reduceIte, not_true_eq_false, not_false_eq_true, false_implies, and_self, implies_true, eq_self, Nat.reduceEqDiff, List.cons.injEq, xsn_1, xsn_2, false_and, and_false, or_false, false_or, or_true, true_or, xsn_3, xsn_4, cK_setI, cFi_setI, cFr_setI, cLen_setI, cRi_setI, ↓spwX7_needSection, spcX7_needSection, ↓spwX7_needWithin, spcX7_needWithin, h0, h1, h2, q, hb0, g2, hz01]
    try simp only [xif_e]
    repeat' (first | with_reducible apply And.intro | with_reducible intro _)
    all_goals grind (splits := 30) [bi]
  · have h := hbad q
    refine xgo hG (mb := []) (head := 6) (P := fun _ _ _ _ _ => False) (fun _ _ _ _ _ q => q.elim) (pc := 0) (fun fu hfu => ?_)
    simp only [↓callX7_weather_0, ↓callX7_weather_1, ↓cg_6_2, cisa, ↓cp_6_2, ↓cp_6_3, ki_0, ki_3, ↓vm_aload, ↓vm_aload_n, ↓vm_astore, ↓vm_getfield, ↓vm_iconst, ↓vm_iload, ↓vm_iload_n, ↓vm_invokestatic, ↓vm_invokevirtual, ↓vm_ireturn, ↓vm_istore, ↓vm_putfield, ↓xc_2, ↓xc_3, ↓tbX7_weather_0, ↓tbX7_weather_1, ↓tbX7_weather_2, ↓tbX7_weather_5, ↓tbX7_weather_7, ↓tbX7_weather_8, ↓tbX7_weather_9, ↓tbX7_weather_10, ↓tbX7_weather_13, ↓tbX7_weather_15, ↓tbX7_weather_18, ↓tbX7_weather_20, ↓tbX7_weather_22, ↓tbX7_weather_23, ↓tbX7_weather_26, ↓tbX7_weather_28, ↓tbX7_weather_29, ↓tbX7_weather_32, ↓tbX7_weather_34, hfu, xstep0, xJ1_hit, xJ1_go, xJ2_hit1, xJ2_hit2, xJ2_go, ↓xif_t, ↓xif_f, seval, ↓xca_eq, ↓xre_l, ↓xre_r, xmask_t, xmask_f, xmask_nil, ↓xst_eq, xX_eq, eI_eq, eMc_eq, eMs_eq, eF_eq, eThr_eq, ↓xS1_mk, ↓xSI_mk, ↓xSR_mk, ↓xLI_0, ↓xLI_s, ↓xLR_0, ↓xLR_s, vRef_ref, vRef_null, vRef_rf, cat_int, cat_ref, cat_null, cat_rf, rf_some, rf_none, rf_null, rf_eq, rf_ref, ref_rf, ref_null, ref_ref, xOk_0, xOk_1, xOk_2r, xOk_2n, xOk_2f, vOpt_rf, vOpt_ref, vOpt_null, List.set_cons_zero, List.set_cons_succ, List.take_succ_cons, List.take_zero, List.drop_succ_cons, List.drop_zero, List.reverse_cons, List.reverse_nil, List.nil_append, List.cons_append, List.append_nil, List.length_cons, List.length_nil, List.map_cons, List.map_nil, List.sum_cons, List.sum_nil, Option.toList_some, Option.toList_none, xRecv_mk, true_and, and_true, true_implies, Nat.reduceAdd, Nat.reduceLeDiff, Nat.zero_le, Nat.le_refl, Nat.add_zero, Nat.zero_add, reduceIte, not_true_eq_false, not_false_eq_true, false_implies, and_self, implies_true, eq_self, Nat.reduceEqDiff, List.cons.injEq, xsn_1, xsn_2, false_and, and_false, or_false, false_or, or_true, true_or, xsn_3, xsn_4, cK_setI, cFi_setI, cFr_setI, cLen_setI, cRi_setI, ↓spwX7_needSection, spcX7_needSection, ↓spwX7_needWithin, spcX7_needWithin, h0, h1, h2, q]
    try simp only [xif_e]
    first | exact h | grind

def tbX7_fog : List (Nat × xHint) := [(0, .aload_n 0, 0, 0, 0, []), (1, .getfield 94, 8, 10, 1, []), (4, .istore_n 2, 2, 0, 0, []), (5, .aload_n 0, 0, 0, 0, []), (6, .iload_n 1, 1, 0, 0, []), (7, .putfield 94, 8, 10, 1, []), (10, .iload_n 2, 2, 0, 0, []), (11, .ireturn, 1, 0, 0, [])]
def clX7_fog : List (Instr × Nat × Nat × Nat) := []
def thX7_fog : List (Nat × Nat) := []
theorem ckX7_fog : tbX7_fog.all (xRow RX7 cX7_fog wsX7_fog vwCl [8] clX7_fog thX7_fog 3 (yX7_fog.name == "<init>") (some .boolean)) = true := xRow_q 0xac1c5e00b51b2a3d5e00b42a 12 (by decide +kernel) (by decide +kernel)
theorem usX7_fog : xUse wsX7_fog vwCl [8] = true := xUse_g rfl (lw_good lwl_X7_fog lwl_X70 (by decide +kernel)) xUse_n
theorem tbX7_fog_0 {k : Instr → Nat → Nat → Nat → List Nat → Prop} : xse (xFind tbX7_fog 0) k = k (.aload_n 0) 0 0 0 [] := rfl
theorem tbX7_fog_1 {k : Instr → Nat → Nat → Nat → List Nat → Prop} : xse (xFind tbX7_fog 1) k = k (.getfield 94) 8 10 1 [] := rfl
theorem tbX7_fog_4 {k : Instr → Nat → Nat → Nat → List Nat → Prop} : xse (xFind tbX7_fog 4) k = k (.istore_n 2) 2 0 0 [] := rfl
theorem tbX7_fog_5 {k : Instr → Nat → Nat → Nat → List Nat → Prop} : xse (xFind tbX7_fog 5) k = k (.aload_n 0) 0 0 0 [] := rfl
theorem tbX7_fog_6 {k : Instr → Nat → Nat → Nat → List Nat → Prop} : xse (xFind tbX7_fog 6) k = k (.iload_n 1) 1 0 0 [] := rfl
theorem tbX7_fog_7 {k : Instr → Nat → Nat → Nat → List Nat → Prop} : xse (xFind tbX7_fog 7) k = k (.putfield 94) 8 10 1 [] := rfl
theorem tbX7_fog_10 {k : Instr → Nat → Nat → Nat → List Nat → Prop} : xse (xFind tbX7_fog 10) k = k (.iload_n 2) 2 0 0 [] := rfl
theorem tbX7_fog_11 {k : Instr → Nat → Nat → Nat → List Nat → Prop} : xse (xFind tbX7_fog 11) k = k (.ireturn) 1 0 0 [] := rfl

def spX7_fog (W9 : xWd) : xSp cS := (fun av S => (0, 0), fun av S K => ∃ (a : Nat) (z : Int32), av = [.ref a, .int z] ∧ ((z = 0 ∨ z = 1) ∧ (cK S a = 9 ∧ (cFi S a 810 = 0 ∨ cFi S a 810 = 1) ∧ K (rI (cFi S a 810)) (cSetI S a 810 z))))
theorem spcX7_fog {av : List Value} {S : cS} {W9 : xWd} : (spX7_fog W9).1 av S = (0, 0) := rfl
theorem spwX7_fog {S : cS} {W9 : xWd} {K : xRes → cS → Prop} {a : Nat} {z : Int32} : (spX7_fog W9).2 [.ref a, .int z] S K = ((z = 0 ∨ z = 1) ∧ (cK S a = 9 ∧ (cFi S a 810 = 0 ∨ cFi S a 810 = 1) ∧ K (rI (cFi S a 810)) (cSetI S a 810 z))) :=
  propext ⟨fun h => by
    simp only [spX7_fog] at h
    obtain ⟨_, _, e, h⟩ := h
    simp only [List.cons.injEq, Value.int.injEq, Value.ref.injEq, rf_eq, and_true, true_and] at e
    obtain ⟨rfl, rfl⟩ := e
    exact h, fun h => ⟨_, _, rfl, h⟩⟩

set_option maxHeartbeats 4000000 in
set_option maxRecDepth 20000 in
theorem semX7_fog (l : Launch) (hl : l.stackTraces = false) (W9 : xWd) : xSem l W9 (cI) yX7_fog wsX7_fog 0 0 (spX7_fog W9) := by
  refine xSem_of (call := fun _ => none) (thrf := fun _ => "") cI_law (by decide +kernel) rfl ckX7_fog usX7_fog xCallsOK_nil xThrOK_nil ?_ ?_
  · intro av S KF h
    obtain ⟨a, z, rfl, h⟩ := h
    exact ⟨by intro v hv; simp only [List.mem_cons, List.not_mem_nil, or_false] at hv; rcases hv with rfl | rfl <;> first | rfl | exact cat_rf, Nat.le_of_ble_eq_true rfl⟩
  intro av S KF h G hG
  obtain ⟨a, z, rfl, h⟩ := h
  rw [show (spX7_fog W9).1 _ S = _ from spcX7_fog] at hG
  try dsimp only at hG
  change G 0 [some (.ref a), some (.int z), none] [] S 0 0
  obtain ⟨hz, h0, h1, h⟩ := h
  refine xgo0 hG (fun fu hfu => ?_)
  clear hG
  simp only [↓cg_8_10, ↓cp_8_10, ↓vm_aload_n, ↓vm_getfield, ↓vm_iload_n, ↓vm_ireturn, ↓vm_istore_n, ↓vm_putfield, ↓tbX7_fog_0, ↓tbX7_fog_1, ↓tbX7_fog_4, ↓tbX7_fog_5, ↓tbX7_fog_6, ↓tbX7_fog_7, ↓tbX7_fog_10, ↓tbX7_fog_11, hfu, xstep0, xJ1_hit, xJ1_go, xJ2_hit1, xJ2_hit2, xJ2_go, ↓xif_t, ↓xif_f, seval, ↓xca_eq, ↓xre_l, ↓xre_r, xmask_t, xmask_f, xmask_nil, ↓xst_eq, xX_eq, eI_eq, eMc_eq, eMs_eq, eF_eq, eThr_eq, ↓xS1_mk, ↓xSI_mk, ↓xSR_mk, ↓xLI_0, ↓xLI_s, ↓xLR_0, ↓xLR_s, vRef_ref, vRef_null, vRef_rf, cat_int, cat_ref, cat_null, cat_rf, rf_some, rf_none, rf_null, rf_eq, rf_ref, ref_rf, ref_null, ref_ref, xOk_0, xOk_1, xOk_2r, xOk_2n, xOk_2f, vOpt_rf, vOpt_ref, vOpt_null, List.set_cons_zero, List.set_cons_succ, List.take_succ_cons, List.take_zero, List.drop_succ_cons, List.drop_zero, List.reverse_cons, List.reverse_nil, List.nil_append, List.cons_append, List.append_nil, List.length_cons, List.length_nil, List.map_cons, List.map_nil, List.sum_cons, List.sum_nil, Option.toList_some, Option.toList_none, xRecv_mk, true_and, and_true, true_implies, Nat.reduceAdd, Nat.reduceLeDiff, Nat.zero_le, Nat.le_refl, Nat.add_zero, Nat.zero_add, reduceIte, not_true_eq_false, not_false_eq_true, false_implies, and_self, implies_true, eq_self, Nat.reduceEqDiff, List.cons.injEq, xsn_1, xsn_2, false_and, and_false, or_false, false_or, or_true, true_or, xsn_3, xsn_4, h0, hz, cK_setI, cFi_setI, cFr_setI, cLen_setI, cRi_setI]
  try simp only [xif_e]
  exact ⟨h1, h⟩

def tbX7_bank : List (Nat × xHint) := [(0, .aload_n 0, 0, 0, 0, []), (1, .iload_n 1, 1, 0, 0, []), (2, .iload_n 2, 2, 0, 0, []), (3, .invokevirtual 97, 0, 3, 8, []), (6, .astore 4, 4, 0, 0, []), (8, .iload_n 3, 3, 0, 0, []), (9, .iconst 0, 0, 0, 0, []), (10, .iconst 5, 0, 0, 0, []), (11, .invokestatic 57, 1, 3, 0, []), (14, .aload 4, 4, 0, 0, []), (16, .invokevirtual 101, 2, 1, 5, []), (19, .iload_n 3, 3, 0, 0, []), (20, .if_icmp .gt 7, 27, 0, 0, []), (23, .iconst 1, 0, 0, 0, []), (24, .goto 4, 28, 0, 0, []), (27, .iconst 0, 0, 0, 0, []), (28, .invokestatic 77, 3, 1, 0, []), (31, .aload 4, 4, 0, 0, []), (33, .getfield 105, 5, 3, 0, []), (36, .istore 5, 5, 0, 0, []), (38, .aload 4, 4, 0, 0, []), (40, .iload_n 3, 3, 0, 0, []), (41, .putfield 105, 5, 3, 0, []), (44, .iload 5, 5, 0, 0, []), (46, .ireturn, 0, 0, 0, [])]
def clX7_bank : List (Instr × Nat × Nat × Nat) := [(.invokevirtual 97, 0, 3, 8), (.invokestatic 57, 1, 3, 0), (.invokevirtual 101, 2, 1, 5), (.invokestatic 77, 3, 1, 0)]
def thX7_bank : List (Nat × Nat) := []
theorem ckX7_bank : tbX7_bank.all (xRow RX7 cX7_bank wsX7_bank vwCl [5] clX7_bank thX7_bank 6 (yX7_bank.name == "<init>") (some .int)) = true := xRow_q 0xac05156900b51d041905366900b404194d00b8030400a7040700a31d6500b604193900b808031d043a6100b61c1b2a 47 (by decide +kernel) (by decide +kernel)
theorem usX7_bank : xUse wsX7_bank vwCl [5] = true := xUse_g rfl (lw_good lwl_X7_bank lwl_X40 (by decide +kernel)) xUse_n
theorem tbX7_bank_0 {k : Instr → Nat → Nat → Nat → List Nat → Prop} : xse (xFind tbX7_bank 0) k = k (.aload_n 0) 0 0 0 [] := rfl
theorem tbX7_bank_1 {k : Instr → Nat → Nat → Nat → List Nat → Prop} : xse (xFind tbX7_bank 1) k = k (.iload_n 1) 1 0 0 [] := rfl
theorem tbX7_bank_2 {k : Instr → Nat → Nat → Nat → List Nat → Prop} : xse (xFind tbX7_bank 2) k = k (.iload_n 2) 2 0 0 [] := rfl
theorem tbX7_bank_3 {k : Instr → Nat → Nat → Nat → List Nat → Prop} : xse (xFind tbX7_bank 3) k = k (.invokevirtual 97) 0 3 8 [] := rfl
theorem tbX7_bank_6 {k : Instr → Nat → Nat → Nat → List Nat → Prop} : xse (xFind tbX7_bank 6) k = k (.astore 4) 4 0 0 [] := rfl
theorem tbX7_bank_8 {k : Instr → Nat → Nat → Nat → List Nat → Prop} : xse (xFind tbX7_bank 8) k = k (.iload_n 3) 3 0 0 [] := rfl
theorem tbX7_bank_9 {k : Instr → Nat → Nat → Nat → List Nat → Prop} : xse (xFind tbX7_bank 9) k = k (.iconst 0) 0 0 0 [] := rfl
theorem tbX7_bank_10 {k : Instr → Nat → Nat → Nat → List Nat → Prop} : xse (xFind tbX7_bank 10) k = k (.iconst 5) 0 0 0 [] := rfl
theorem tbX7_bank_11 {k : Instr → Nat → Nat → Nat → List Nat → Prop} : xse (xFind tbX7_bank 11) k = k (.invokestatic 57) 1 3 0 [] := rfl
theorem tbX7_bank_14 {k : Instr → Nat → Nat → Nat → List Nat → Prop} : xse (xFind tbX7_bank 14) k = k (.aload 4) 4 0 0 [] := rfl
theorem tbX7_bank_16 {k : Instr → Nat → Nat → Nat → List Nat → Prop} : xse (xFind tbX7_bank 16) k = k (.invokevirtual 101) 2 1 5 [] := rfl
theorem tbX7_bank_19 {k : Instr → Nat → Nat → Nat → List Nat → Prop} : xse (xFind tbX7_bank 19) k = k (.iload_n 3) 3 0 0 [] := rfl
theorem tbX7_bank_20 {k : Instr → Nat → Nat → Nat → List Nat → Prop} : xse (xFind tbX7_bank 20) k = k (.if_icmp .gt 7) 27 0 0 [] := rfl
theorem tbX7_bank_23 {k : Instr → Nat → Nat → Nat → List Nat → Prop} : xse (xFind tbX7_bank 23) k = k (.iconst 1) 0 0 0 [] := rfl
theorem tbX7_bank_24 {k : Instr → Nat → Nat → Nat → List Nat → Prop} : xse (xFind tbX7_bank 24) k = k (.goto 4) 28 0 0 [] := rfl
theorem tbX7_bank_27 {k : Instr → Nat → Nat → Nat → List Nat → Prop} : xse (xFind tbX7_bank 27) k = k (.iconst 0) 0 0 0 [] := rfl
theorem tbX7_bank_28 {k : Instr → Nat → Nat → Nat → List Nat → Prop} : xse (xFind tbX7_bank 28) k = k (.invokestatic 77) 3 1 0 [] := rfl
theorem tbX7_bank_31 {k : Instr → Nat → Nat → Nat → List Nat → Prop} : xse (xFind tbX7_bank 31) k = k (.aload 4) 4 0 0 [] := rfl
theorem tbX7_bank_33 {k : Instr → Nat → Nat → Nat → List Nat → Prop} : xse (xFind tbX7_bank 33) k = k (.getfield 105) 5 3 0 [] := rfl
theorem tbX7_bank_36 {k : Instr → Nat → Nat → Nat → List Nat → Prop} : xse (xFind tbX7_bank 36) k = k (.istore 5) 5 0 0 [] := rfl
theorem tbX7_bank_38 {k : Instr → Nat → Nat → Nat → List Nat → Prop} : xse (xFind tbX7_bank 38) k = k (.aload 4) 4 0 0 [] := rfl
theorem tbX7_bank_40 {k : Instr → Nat → Nat → Nat → List Nat → Prop} : xse (xFind tbX7_bank 40) k = k (.iload_n 3) 3 0 0 [] := rfl
theorem tbX7_bank_41 {k : Instr → Nat → Nat → Nat → List Nat → Prop} : xse (xFind tbX7_bank 41) k = k (.putfield 105) 5 3 0 [] := rfl
theorem tbX7_bank_44 {k : Instr → Nat → Nat → Nat → List Nat → Prop} : xse (xFind tbX7_bank 44) k = k (.iload 5) 5 0 0 [] := rfl
theorem tbX7_bank_46 {k : Instr → Nat → Nat → Nat → List Nat → Prop} : xse (xFind tbX7_bank 46) k = k (.ireturn) 0 0 0 [] := rfl

def spX7_bank (W9 : xWd) : xSp cS := (fun av S => (5, 30), fun av S K => ∃ (a : Nat) (p : Int32) (t : Int32) (m : Int32), av = [.ref a, .int p, .int t, .int m] ∧ (cK S a = 9 ∧ (cIn S a 801 1 ∧ lAll S (cRf S a 801) 6) ∧ cFi S (cRf S a 801) 2 = 16 ∧ (∀ j, j < lCn S (cRf S a 801) → cIn S (lG S (cRf S a 801) j) 505 1) ∧ (¬ ((0 ≤ p ∧ p < 8) ∧ 0 ≤ t ∧ t < 2) → K (rX "java/lang/IndexOutOfBoundsException") S) ∧ (((0 ≤ p ∧ p < 8) ∧ 0 ≤ t ∧ t < 2) → (¬ (0 ≤ m ∧ m ≤ 5) → K (rX "java/lang/IllegalArgumentException") S) ∧ ((0 ≤ m ∧ m ≤ 5) → (¬ (cFi S (cRf S (lG S (cRf S a 801) (p * 2 + t).toNatClampNeg) 505) 2 ≤ m) → K (rX "java/lang/IllegalStateException") S) ∧ ((cFi S (cRf S (lG S (cRf S a 801) (p * 2 + t).toNatClampNeg) 505) 2 ≤ m) → K (rI (cFi S (lG S (cRf S a 801) (p * 2 + t).toNatClampNeg) 503)) (cSetI S (lG S (cRf S a 801) (p * 2 + t).toNatClampNeg) 503 m))))))
theorem spcX7_bank {av : List Value} {S : cS} {W9 : xWd} : (spX7_bank W9).1 av S = (5, 30) := rfl
theorem spwX7_bank {S : cS} {W9 : xWd} {K : xRes → cS → Prop} {a : Nat} {p : Int32} {t : Int32} {m : Int32} : (spX7_bank W9).2 [.ref a, .int p, .int t, .int m] S K = (cK S a = 9 ∧ (cIn S a 801 1 ∧ lAll S (cRf S a 801) 6) ∧ cFi S (cRf S a 801) 2 = 16 ∧ (∀ j, j < lCn S (cRf S a 801) → cIn S (lG S (cRf S a 801) j) 505 1) ∧ (¬ ((0 ≤ p ∧ p < 8) ∧ 0 ≤ t ∧ t < 2) → K (rX "java/lang/IndexOutOfBoundsException") S) ∧ (((0 ≤ p ∧ p < 8) ∧ 0 ≤ t ∧ t < 2) → (¬ (0 ≤ m ∧ m ≤ 5) → K (rX "java/lang/IllegalArgumentException") S) ∧ ((0 ≤ m ∧ m ≤ 5) → (¬ (cFi S (cRf S (lG S (cRf S a 801) (p * 2 + t).toNatClampNeg) 505) 2 ≤ m) → K (rX "java/lang/IllegalStateException") S) ∧ ((cFi S (cRf S (lG S (cRf S a 801) (p * 2 + t).toNatClampNeg) 505) 2 ≤ m) → K (rI (cFi S (lG S (cRf S a 801) (p * 2 + t).toNatClampNeg) 503)) (cSetI S (lG S (cRf S a 801) (p * 2 + t).toNatClampNeg) 503 m))))) :=
  propext ⟨fun h => by
    simp only [spX7_bank] at h
    obtain ⟨_, _, _, _, e, h⟩ := h
    simp only [List.cons.injEq, Value.int.injEq, Value.ref.injEq, rf_eq, and_true, true_and] at e
    obtain ⟨rfl, rfl, rfl, rfl⟩ := e
    exact h, fun h => ⟨_, _, _, _, rfl, h⟩⟩

def callX7_bank (W9 : xWd) : Nat → Option (xSp cS) := fun n => match n with | 0 => some (spX7_needTier W9) | 1 => some (spX7_needWithin W9) | 2 => some (spX4_size W9) | 3 => some (spX7_needState W9) | _ => none

theorem callX7_bank_0 {W9 : xWd} {k : xSp cS → Prop} : xcs (callX7_bank W9 0) k = k (spX7_needTier W9) := rfl

theorem callX7_bank_1 {W9 : xWd} {k : xSp cS → Prop} : xcs (callX7_bank W9 1) k = k (spX7_needWithin W9) := rfl

theorem callX7_bank_2 {W9 : xWd} {k : xSp cS → Prop} : xcs (callX7_bank W9 2) k = k (spX4_size W9) := rfl

theorem callX7_bank_3 {W9 : xWd} {k : xSp cS → Prop} : xcs (callX7_bank W9 3) k = k (spX7_needState W9) := rfl

theorem crX7_bank (l : Launch) (hl : l.stackTraces = false) (W9 : xWd) : xCallsOK l W9 (cI) (callX7_bank W9) clX7_bank RX7 wsX7_bank 9 154 6 := by
  intro E A p e R s m args below meth c hI hF hL X
  exact List.forall_mem_cons.mpr ⟨⟨_, rfl, xCR_V X (by rw [hI]; exact (semX7_needTier l hl W9)) gX7_bank_X7_needTier rfl rfl (by decide +kernel) (by rw [hF, hL]; decide)⟩,
    List.forall_mem_cons.mpr ⟨⟨_, rfl, xCR_S X (by rw [hI]; exact (semX7_needWithin l hl W9)) gX7_bank_X7_needWithin rfl (by decide +kernel) (by rw [hF, hL]; decide)⟩,
    List.forall_mem_cons.mpr ⟨⟨_, rfl, xCR_V X (by rw [hI]; exact (semX4_size l hl W9)) gX7_bank_X4_size rfl rfl (by decide +kernel) (by rw [hF, hL]; decide)⟩,
    List.forall_mem_cons.mpr ⟨⟨_, rfl, xCR_S X (by rw [hI]; exact (semX7_needState l hl W9)) gX7_bank_X7_needState rfl (by decide +kernel) (by rw [hF, hL]; decide)⟩,
    fun _ h => nomatch h⟩⟩⟩⟩

set_option maxHeartbeats 4000000 in
set_option maxRecDepth 20000 in
theorem semX7_bank (l : Launch) (hl : l.stackTraces = false) (W9 : xWd) : xSem l W9 (cI) yX7_bank wsX7_bank 9 154 (spX7_bank W9) := by
  refine xSem_of (call := callX7_bank W9) (thrf := fun _ => "") cI_law (by decide +kernel) rfl ckX7_bank usX7_bank (crX7_bank l hl W9) xThrOK_nil ?_ ?_
  · intro av S KF h
    obtain ⟨a, p, t, m, rfl, h⟩ := h
    exact ⟨by intro v hv; simp only [List.mem_cons, List.not_mem_nil, or_false] at hv; rcases hv with rfl | rfl | rfl | rfl <;> first | rfl | exact cat_rf, Nat.le_of_ble_eq_true rfl⟩
  intro av S KF h G hG
  obtain ⟨a, p, t, m, rfl, h⟩ := h
  rw [show (spX7_bank W9).1 _ S = _ from spcX7_bank] at hG
  try dsimp only at hG
  change G 0 [some (.ref a), some (.int p), some (.int t), some (.int m), none, none] [] S 0 0
  obtain ⟨h0, ⟨h1, h2⟩, h3, h4, hbad, hok⟩ := h

  by_cases q : (0 ≤ p ∧ p < 8) ∧ 0 ≤ t ∧ t < 2
  · have hz := hok q
    have q1 : 0 ≤ p * 2 + t ∧ p * 2 + t < cFi S (cRf S a 801) 2 := by rw [h3]; grind
    obtain ⟨g1, g2⟩ := lAll_at h2 q1.1 q1.2
    obtain ⟨g3, g4⟩ := h4 _ (lOk_in h2.1 q1.1 q1.2).2.2
    have g5 : cIn S (lG S (cRf S a 801) (p * 2 + t).toNatClampNeg) 505 1 := ⟨g3, g4⟩
    generalize hb0 : lG S (cRf S a 801) (p * 2 + t).toNatClampNeg = g at *
    refine xgo0 hG (fun fu hfu => ?_)
    simp only [↓callX7_bank_0, ↓callX7_bank_1, ↓callX7_bank_2, ↓callX7_bank_3, ↓cg_5_3, cisa, ↓cp_5_3, ki_0, ki_1, ki_5, ↓vm_aload, ↓vm_aload_n, ↓vm_astore, ↓vm_getfield, ↓vm_goto, ↓vm_iconst, ↓vm_if_icmp_gt, ↓vm_iload, ↓vm_iload_n, ↓vm_invokestatic, ↓vm_invokevirtual, ↓vm_ireturn, ↓vm_istore, ↓vm_putfield, ↓xc_1, ↓xc_3, ↓tbX7_bank_0, ↓tbX7_bank_1, ↓tbX7_bank_2, ↓tbX7_bank_3, ↓tbX7_bank_6, ↓tbX7_bank_8, ↓tbX7_bank_9, ↓tbX7_bank_10, ↓tbX7_bank_11, ↓tbX7_bank_14, ↓tbX7_bank_16, ↓tbX7_bank_19, ↓tbX7_bank_20, ↓tbX7_bank_23, ↓tbX7_bank_24, ↓tbX7_bank_27, ↓tbX7_bank_28, ↓tbX7_bank_31, ↓tbX7_bank_33, ↓tbX7_bank_36, ↓tbX7_bank_38, ↓tbX7_bank_40, ↓tbX7_bank_41, ↓tbX7_bank_44, ↓tbX7_bank_46, hfu, xstep0, xJ1_hit, xJ1_go, xJ2_hit1, xJ2_hit2, xJ2_go, ↓xif_t, ↓xif_f, seval, ↓xca_eq, ↓xre_l, ↓xre_r, xmask_t, xmask_f, xmask_nil, ↓xst_eq, xX_eq, eI_eq, eMc_eq, eMs_eq, eF_eq, eThr_eq, ↓xS1_mk, ↓xSI_mk, ↓xSR_mk, ↓xLI_0, ↓xLI_s, ↓xLR_0, ↓xLR_s, vRef_ref, vRef_null, vRef_rf, cat_int, cat_ref, cat_null, cat_rf, rf_some, rf_none, rf_null, rf_eq, rf_ref, ref_rf, ref_null, ref_ref, xOk_0, xOk_1, xOk_2r, xOk_2n, xOk_2f, vOpt_rf, vOpt_ref, vOpt_null, List.set_cons_zero, List.set_cons_succ, List.take_succ_cons, List.take_zero, List.drop_succ_cons, List.drop_zero, List.reverse_cons, List.reverse_nil, List.nil_append, List.cons_append, List.append_nil, List.length_cons, List.length_nil, List.map_cons, List.map_nil, List.sum_cons, List.sum_nil, Option.toList_some, Option.toList_none, xRecv_mk, true_and, and_true, true_implies, Nat.reduceAdd, Nat.reduceLeDiff, Nat.zero_le, Nat.le_refl, Nat.add_zero, Nat.zero_add, reduceIte, not_true_eq_false, not_false_eq_true, false_implies, and_self, implies_true, eq_self, Nat.reduceEqDiff, List.cons.injEq, xsn_1, xsn_2, false_and, and_false, or_false, false_or, or_true, true_or, xsn_3, xsn_4, cK_setI, cFi_setI, cFr_setI, cLen_setI, cRi_setI, ↓spwX7_needTier, spcX7_needTier, ↓spwX7_needWithin, spcX7_needWithin, ↓spwX4_size, spcX4_size, ↓spwX7_needState, spcX7_needState, h0, h1, h2, h3, q, hb0, g2, g3, g4, g5]
    try simp only [xif_e]
    repeat' (first | with_reducible apply And.intro | with_reducible intro _)
    all_goals grind (splits := 30) [bi]
  · have h := hbad q
    refine xgo hG (mb := []) (head := 7) (P := fun _ _ _ _ _ => False) (fun _ _ _ _ _ q => q.elim) (pc := 0) (fun fu hfu => ?_)
    simp only [↓callX7_bank_0, ↓callX7_bank_1, ↓callX7_bank_2, ↓callX7_bank_3, ↓cg_5_3, cisa, ↓cp_5_3, ki_0, ki_1, ki_5, ↓vm_aload, ↓vm_aload_n, ↓vm_astore, ↓vm_getfield, ↓vm_goto, ↓vm_iconst, ↓vm_if_icmp_gt, ↓vm_iload, ↓vm_iload_n, ↓vm_invokestatic, ↓vm_invokevirtual, ↓vm_ireturn, ↓vm_istore, ↓vm_putfield, ↓xc_1, ↓xc_3, ↓tbX7_bank_0, ↓tbX7_bank_1, ↓tbX7_bank_2, ↓tbX7_bank_3, ↓tbX7_bank_6, ↓tbX7_bank_8, ↓tbX7_bank_9, ↓tbX7_bank_10, ↓tbX7_bank_11, ↓tbX7_bank_14, ↓tbX7_bank_16, ↓tbX7_bank_19, ↓tbX7_bank_20, ↓tbX7_bank_23, ↓tbX7_bank_24, ↓tbX7_bank_27, ↓tbX7_bank_28, ↓tbX7_bank_31, ↓tbX7_bank_33, ↓tbX7_bank_36, ↓tbX7_bank_38, ↓tbX7_bank_40, ↓tbX7_bank_41, ↓tbX7_bank_44, ↓tbX7_bank_46, hfu, xstep0, xJ1_hit, xJ1_go, xJ2_hit1, xJ2_hit2, xJ2_go, ↓xif_t, ↓xif_f, seval, ↓xca_eq, ↓xre_l, ↓xre_r, xmask_t, xmask_f, xmask_nil, ↓xst_eq, xX_eq, eI_eq, eMc_eq, eMs_eq, eF_eq, eThr_eq, ↓xS1_mk, ↓xSI_mk, ↓xSR_mk, ↓xLI_0, ↓xLI_s, ↓xLR_0, ↓xLR_s, vRef_ref, vRef_null, vRef_rf, cat_int, cat_ref, cat_null, cat_rf, rf_some, rf_none, rf_null, rf_eq, rf_ref, ref_rf, ref_null, ref_ref, xOk_0, xOk_1, xOk_2r, xOk_2n, xOk_2f, vOpt_rf, vOpt_ref, vOpt_null, List.set_cons_zero, List.set_cons_succ, List.take_succ_cons, List.take_zero, List.drop_succ_cons, List.drop_zero, List.reverse_cons, List.reverse_nil, List.nil_append, List.cons_append, List.append_nil, List.length_cons, List.length_nil, List.map_cons, List.map_nil, List.sum_cons, List.sum_nil, Option.toList_some, Option.toList_none, xRecv_mk, true_and, and_true, true_implies, Nat.reduceAdd, Nat.reduceLeDiff, Nat.zero_le, Nat.le_refl, Nat.add_zero, Nat.zero_add, reduceIte, not_true_eq_false, not_false_eq_true, false_implies, and_self, implies_true, eq_self, Nat.reduceEqDiff, List.cons.injEq, xsn_1, xsn_2, false_and, and_false, or_false, false_or, or_true, true_or, xsn_3, xsn_4, cK_setI, cFi_setI, cFr_setI, cLen_setI, cRi_setI, ↓spwX7_needTier, spcX7_needTier, ↓spwX7_needWithin, spcX7_needWithin, ↓spwX4_size, spcX4_size, ↓spwX7_needState, spcX7_needState, h0, h1, h2, h3, q]
    try simp only [xif_e]
    first | exact h | grind

def tbX7_divert : List (Nat × xHint) := [(0, .aload_n 0, 0, 0, 0, []), (1, .iload_n 1, 1, 0, 0, []), (2, .invokevirtual 140, 0, 2, 8, []), (5, .astore_n 3, 3, 0, 0, []), (6, .iload_n 2, 2, 0, 0, []), (7, .invokestatic 128, 1, 1, 0, []), (10, .iload_n 2, 2, 0, 0, []), (11, .aload_n 3, 3, 0, 0, []), (12, .getfield 144, 3, 2, 0, []), (15, .if_icmp .eq 15, 30, 0, 0, []), (18, .iload_n 2, 2, 0, 0, []), (19, .aload_n 3, 3, 0, 0, []), (20, .getfield 147, 3, 3, 0, []), (23, .if_icmp .eq 7, 30, 0, 0, []), (26, .iconst 1, 0, 0, 0, []), (27, .goto 4, 31, 0, 0, []), (30, .iconst 0, 0, 0, 0, []), (31, .invokestatic 131, 2, 1, 0, []), (34, .aload_n 3, 3, 0, 0, []), (35, .getfield 147, 3, 3, 0, []), (38, .istore 4, 4, 0, 0, []), (40, .aload_n 3, 3, 0, 0, []), (41, .iload_n 2, 2, 0, 0, []), (42, .putfield 147, 3, 3, 0, []), (45, .aload_n 3, 3, 0, 0, []), (46, .dup, 0, 0, 0, []), (47, .getfield 150, 3, 10, 0, []), (50, .iconst 1, 0, 0, 0, []), (51, .iadd, 0, 0, 0, []), (52, .putfield 150, 3, 10, 0, []), (55, .iload 4, 4, 0, 0, []), (57, .ireturn, 0, 0, 0, [])]
def clX7_divert : List (Instr × Nat × Nat × Nat) := [(.invokevirtual 140, 0, 2, 8), (.invokestatic 128, 1, 1, 0), (.invokestatic 131, 2, 1, 0)]
def thX7_divert : List (Nat × Nat) := []
theorem ckX7_divert : tbX7_divert.all (xRow RX7 cX7_divert wsX7_divert vwCl [3] clX7_divert thX7_divert 5 (yX7_divert.name == "<init>") (some .int)) = true := xRow_q 0xac04159600b560049600b4592d9300b51c2d04369300b42d8300b8030400a70407009f9300b42d1c0f009f9000b42d1c8000b81c4e8c00b61b2a 58 (by decide +kernel) (by decide +kernel)
theorem usX7_divert : xUse wsX7_divert vwCl [3] = true := xUse_g rfl (lw_good lwl_X7_divert lwl_X20 (by decide +kernel)) xUse_n
theorem tbX7_divert_0 {k : Instr → Nat → Nat → Nat → List Nat → Prop} : xse (xFind tbX7_divert 0) k = k (.aload_n 0) 0 0 0 [] := rfl
theorem tbX7_divert_1 {k : Instr → Nat → Nat → Nat → List Nat → Prop} : xse (xFind tbX7_divert 1) k = k (.iload_n 1) 1 0 0 [] := rfl
theorem tbX7_divert_2 {k : Instr → Nat → Nat → Nat → List Nat → Prop} : xse (xFind tbX7_divert 2) k = k (.invokevirtual 140) 0 2 8 [] := rfl
theorem tbX7_divert_5 {k : Instr → Nat → Nat → Nat → List Nat → Prop} : xse (xFind tbX7_divert 5) k = k (.astore_n 3) 3 0 0 [] := rfl
theorem tbX7_divert_6 {k : Instr → Nat → Nat → Nat → List Nat → Prop} : xse (xFind tbX7_divert 6) k = k (.iload_n 2) 2 0 0 [] := rfl
theorem tbX7_divert_7 {k : Instr → Nat → Nat → Nat → List Nat → Prop} : xse (xFind tbX7_divert 7) k = k (.invokestatic 128) 1 1 0 [] := rfl
theorem tbX7_divert_10 {k : Instr → Nat → Nat → Nat → List Nat → Prop} : xse (xFind tbX7_divert 10) k = k (.iload_n 2) 2 0 0 [] := rfl
theorem tbX7_divert_11 {k : Instr → Nat → Nat → Nat → List Nat → Prop} : xse (xFind tbX7_divert 11) k = k (.aload_n 3) 3 0 0 [] := rfl
theorem tbX7_divert_12 {k : Instr → Nat → Nat → Nat → List Nat → Prop} : xse (xFind tbX7_divert 12) k = k (.getfield 144) 3 2 0 [] := rfl
theorem tbX7_divert_15 {k : Instr → Nat → Nat → Nat → List Nat → Prop} : xse (xFind tbX7_divert 15) k = k (.if_icmp .eq 15) 30 0 0 [] := rfl
theorem tbX7_divert_18 {k : Instr → Nat → Nat → Nat → List Nat → Prop} : xse (xFind tbX7_divert 18) k = k (.iload_n 2) 2 0 0 [] := rfl
theorem tbX7_divert_19 {k : Instr → Nat → Nat → Nat → List Nat → Prop} : xse (xFind tbX7_divert 19) k = k (.aload_n 3) 3 0 0 [] := rfl
theorem tbX7_divert_20 {k : Instr → Nat → Nat → Nat → List Nat → Prop} : xse (xFind tbX7_divert 20) k = k (.getfield 147) 3 3 0 [] := rfl
theorem tbX7_divert_23 {k : Instr → Nat → Nat → Nat → List Nat → Prop} : xse (xFind tbX7_divert 23) k = k (.if_icmp .eq 7) 30 0 0 [] := rfl
theorem tbX7_divert_26 {k : Instr → Nat → Nat → Nat → List Nat → Prop} : xse (xFind tbX7_divert 26) k = k (.iconst 1) 0 0 0 [] := rfl
theorem tbX7_divert_27 {k : Instr → Nat → Nat → Nat → List Nat → Prop} : xse (xFind tbX7_divert 27) k = k (.goto 4) 31 0 0 [] := rfl
theorem tbX7_divert_30 {k : Instr → Nat → Nat → Nat → List Nat → Prop} : xse (xFind tbX7_divert 30) k = k (.iconst 0) 0 0 0 [] := rfl
theorem tbX7_divert_31 {k : Instr → Nat → Nat → Nat → List Nat → Prop} : xse (xFind tbX7_divert 31) k = k (.invokestatic 131) 2 1 0 [] := rfl
theorem tbX7_divert_34 {k : Instr → Nat → Nat → Nat → List Nat → Prop} : xse (xFind tbX7_divert 34) k = k (.aload_n 3) 3 0 0 [] := rfl
theorem tbX7_divert_35 {k : Instr → Nat → Nat → Nat → List Nat → Prop} : xse (xFind tbX7_divert 35) k = k (.getfield 147) 3 3 0 [] := rfl
theorem tbX7_divert_38 {k : Instr → Nat → Nat → Nat → List Nat → Prop} : xse (xFind tbX7_divert 38) k = k (.istore 4) 4 0 0 [] := rfl
theorem tbX7_divert_40 {k : Instr → Nat → Nat → Nat → List Nat → Prop} : xse (xFind tbX7_divert 40) k = k (.aload_n 3) 3 0 0 [] := rfl
theorem tbX7_divert_41 {k : Instr → Nat → Nat → Nat → List Nat → Prop} : xse (xFind tbX7_divert 41) k = k (.iload_n 2) 2 0 0 [] := rfl
theorem tbX7_divert_42 {k : Instr → Nat → Nat → Nat → List Nat → Prop} : xse (xFind tbX7_divert 42) k = k (.putfield 147) 3 3 0 [] := rfl
theorem tbX7_divert_45 {k : Instr → Nat → Nat → Nat → List Nat → Prop} : xse (xFind tbX7_divert 45) k = k (.aload_n 3) 3 0 0 [] := rfl
theorem tbX7_divert_46 {k : Instr → Nat → Nat → Nat → List Nat → Prop} : xse (xFind tbX7_divert 46) k = k (.dup) 0 0 0 [] := rfl
theorem tbX7_divert_47 {k : Instr → Nat → Nat → Nat → List Nat → Prop} : xse (xFind tbX7_divert 47) k = k (.getfield 150) 3 10 0 [] := rfl
theorem tbX7_divert_50 {k : Instr → Nat → Nat → Nat → List Nat → Prop} : xse (xFind tbX7_divert 50) k = k (.iconst 1) 0 0 0 [] := rfl
theorem tbX7_divert_51 {k : Instr → Nat → Nat → Nat → List Nat → Prop} : xse (xFind tbX7_divert 51) k = k (.iadd) 0 0 0 [] := rfl
theorem tbX7_divert_52 {k : Instr → Nat → Nat → Nat → List Nat → Prop} : xse (xFind tbX7_divert 52) k = k (.putfield 150) 3 10 0 [] := rfl
theorem tbX7_divert_55 {k : Instr → Nat → Nat → Nat → List Nat → Prop} : xse (xFind tbX7_divert 55) k = k (.iload 4) 4 0 0 [] := rfl
theorem tbX7_divert_57 {k : Instr → Nat → Nat → Nat → List Nat → Prop} : xse (xFind tbX7_divert 57) k = k (.ireturn) 0 0 0 [] := rfl

def spX7_divert (W9 : xWd) : xSp cS := (fun av S => (3, 18), fun av S K => ∃ (a : Nat) (c : Int32) (t : Int32), av = [.ref a, .int c, .int t] ∧ (cK S a = 9 ∧ (cIn S a 803 1 ∧ lAll S (cRf S a 803) 4) ∧ (¬ (0 ≤ c ∧ c < cFi S (cRf S a 803) 2) → K (rX "java/lang/IndexOutOfBoundsException") S) ∧ (0 ≤ c ∧ c < cFi S (cRf S a 803) 2 → (¬ (0 ≤ t ∧ t < 8) → K (rX "java/lang/IndexOutOfBoundsException") S) ∧ ((0 ≤ t ∧ t < 8) → (¬ (¬ t = cFi S (lG S (cRf S a 803) c.toNatClampNeg) 302 ∧ ¬ t = cFi S (lG S (cRf S a 803) c.toNatClampNeg) 303) → K (rX "java/lang/IllegalArgumentException") S) ∧ ((¬ t = cFi S (lG S (cRf S a 803) c.toNatClampNeg) 302 ∧ ¬ t = cFi S (lG S (cRf S a 803) c.toNatClampNeg) 303) → K (rI (cFi S (lG S (cRf S a 803) c.toNatClampNeg) 303)) (cSetI (cSetI S (lG S (cRf S a 803) c.toNatClampNeg) 303 t) (lG S (cRf S a 803) c.toNatClampNeg) 310 (cFi S (lG S (cRf S a 803) c.toNatClampNeg) 310 + 1)))))))
theorem spcX7_divert {av : List Value} {S : cS} {W9 : xWd} : (spX7_divert W9).1 av S = (3, 18) := rfl
theorem spwX7_divert {S : cS} {W9 : xWd} {K : xRes → cS → Prop} {a : Nat} {c : Int32} {t : Int32} : (spX7_divert W9).2 [.ref a, .int c, .int t] S K = (cK S a = 9 ∧ (cIn S a 803 1 ∧ lAll S (cRf S a 803) 4) ∧ (¬ (0 ≤ c ∧ c < cFi S (cRf S a 803) 2) → K (rX "java/lang/IndexOutOfBoundsException") S) ∧ (0 ≤ c ∧ c < cFi S (cRf S a 803) 2 → (¬ (0 ≤ t ∧ t < 8) → K (rX "java/lang/IndexOutOfBoundsException") S) ∧ ((0 ≤ t ∧ t < 8) → (¬ (¬ t = cFi S (lG S (cRf S a 803) c.toNatClampNeg) 302 ∧ ¬ t = cFi S (lG S (cRf S a 803) c.toNatClampNeg) 303) → K (rX "java/lang/IllegalArgumentException") S) ∧ ((¬ t = cFi S (lG S (cRf S a 803) c.toNatClampNeg) 302 ∧ ¬ t = cFi S (lG S (cRf S a 803) c.toNatClampNeg) 303) → K (rI (cFi S (lG S (cRf S a 803) c.toNatClampNeg) 303)) (cSetI (cSetI S (lG S (cRf S a 803) c.toNatClampNeg) 303 t) (lG S (cRf S a 803) c.toNatClampNeg) 310 (cFi S (lG S (cRf S a 803) c.toNatClampNeg) 310 + 1)))))) :=
  propext ⟨fun h => by
    simp only [spX7_divert] at h
    obtain ⟨_, _, _, e, h⟩ := h
    simp only [List.cons.injEq, Value.int.injEq, Value.ref.injEq, rf_eq, and_true, true_and] at e
    obtain ⟨rfl, rfl, rfl⟩ := e
    exact h, fun h => ⟨_, _, _, rfl, h⟩⟩

def callX7_divert (W9 : xWd) : Nat → Option (xSp cS) := fun n => match n with | 0 => some (spX7_needContract W9) | 1 => some (spX7_needPoint W9) | 2 => some (spX7_needArgument W9) | _ => none

theorem callX7_divert_0 {W9 : xWd} {k : xSp cS → Prop} : xcs (callX7_divert W9 0) k = k (spX7_needContract W9) := rfl

theorem callX7_divert_1 {W9 : xWd} {k : xSp cS → Prop} : xcs (callX7_divert W9 1) k = k (spX7_needPoint W9) := rfl

theorem callX7_divert_2 {W9 : xWd} {k : xSp cS → Prop} : xcs (callX7_divert W9 2) k = k (spX7_needArgument W9) := rfl

theorem crX7_divert (l : Launch) (hl : l.stackTraces = false) (W9 : xWd) : xCallsOK l W9 (cI) (callX7_divert W9) clX7_divert RX7 wsX7_divert 8 131 5 := by
  intro E A p e R s m args below meth c hI hF hL X
  exact List.forall_mem_cons.mpr ⟨⟨_, rfl, xCR_V X (by rw [hI]; exact (semX7_needContract l hl W9)) gX7_divert_X7_needContract rfl rfl (by decide +kernel) (by rw [hF, hL]; decide)⟩,
    List.forall_mem_cons.mpr ⟨⟨_, rfl, xCR_S X (by rw [hI]; exact (semX7_needPoint l hl W9)) gX7_divert_X7_needPoint rfl (by decide +kernel) (by rw [hF, hL]; decide)⟩,
    List.forall_mem_cons.mpr ⟨⟨_, rfl, xCR_S X (by rw [hI]; exact (semX7_needArgument l hl W9)) gX7_divert_X7_needArgument rfl (by decide +kernel) (by rw [hF, hL]; decide)⟩,
    fun _ h => nomatch h⟩⟩⟩

set_option maxHeartbeats 4000000 in
set_option maxRecDepth 20000 in
theorem semX7_divert (l : Launch) (hl : l.stackTraces = false) (W9 : xWd) : xSem l W9 (cI) yX7_divert wsX7_divert 8 131 (spX7_divert W9) := by
  refine xSem_of (call := callX7_divert W9) (thrf := fun _ => "") cI_law (by decide +kernel) rfl ckX7_divert usX7_divert (crX7_divert l hl W9) xThrOK_nil ?_ ?_
  · intro av S KF h
    obtain ⟨a, c, t, rfl, h⟩ := h
    exact ⟨by intro v hv; simp only [List.mem_cons, List.not_mem_nil, or_false] at hv; rcases hv with rfl | rfl | rfl <;> first | rfl | exact cat_rf, Nat.le_of_ble_eq_true rfl⟩
  intro av S KF h G hG
  obtain ⟨a, c, t, rfl, h⟩ := h
  rw [show (spX7_divert W9).1 _ S = _ from spcX7_divert] at hG
  try dsimp only at hG
  change G 0 [some (.ref a), some (.int c), some (.int t), none, none] [] S 0 0
  obtain ⟨h0, ⟨h1, h2⟩, hbad, hok⟩ := h

  by_cases q : 0 ≤ c ∧ c < cFi S (cRf S a 803) 2
  · have hz := hok q
    obtain ⟨g1, g2⟩ := lAll_at h2 q.1 q.2
    have gj := (lOk_in h2.1 q.1 q.2).2.2
    generalize hb0 : (lG S (cRf S a 803) c.toNatClampNeg) = g at *
    refine xgo0 hG (fun fu hfu => ?_)
    simp only [↓callX7_divert_0, ↓callX7_divert_1, ↓callX7_divert_2, ↓cg_3_10, ↓cg_3_2, ↓cg_3_3, cisa, ↓cp_3_10, ↓cp_3_3, ki_0, ki_1, ↓vm_aload_n, ↓vm_astore_n, ↓vm_dup, ↓vm_getfield, ↓vm_goto, ↓vm_iadd, ↓vm_iconst, ↓vm_if_icmp_eq, ↓vm_iload, ↓vm_iload_n, ↓vm_invokestatic, ↓vm_invokevirtual, ↓vm_ireturn, ↓vm_istore, ↓vm_putfield, ↓xc_1, ↓xc_2, ↓tbX7_divert_0, ↓tbX7_divert_1, ↓tbX7_divert_2, ↓tbX7_divert_5, ↓tbX7_divert_6, ↓tbX7_divert_7, ↓tbX7_divert_10, ↓tbX7_divert_11, ↓tbX7_divert_12, ↓tbX7_divert_15, ↓tbX7_divert_18, ↓tbX7_divert_19, ↓tbX7_divert_20, ↓tbX7_divert_23, ↓tbX7_divert_26, ↓tbX7_divert_27, ↓tbX7_divert_30, ↓tbX7_divert_31, ↓tbX7_divert_34, ↓tbX7_divert_35, ↓tbX7_divert_38, ↓tbX7_divert_40, ↓tbX7_divert_41, ↓tbX7_divert_42, ↓tbX7_divert_45, ↓tbX7_divert_46, ↓tbX7_divert_47, ↓tbX7_divert_50, ↓tbX7_divert_51, ↓tbX7_divert_52, ↓tbX7_divert_55, ↓tbX7_divert_57, hfu, xstep0, xJ1_hit, xJ1_go, xJ2_hit1, xJ2_hit2, xJ2_go, ↓xif_t, ↓xif_f, seval, ↓xca_eq, ↓xre_l, ↓xre_r, xmask_t, xmask_f, xmask_nil, ↓xst_eq, xX_eq, eI_eq, eMc_eq, eMs_eq, eF_eq, eThr_eq, ↓xS1_mk, ↓xSI_mk, ↓xSR_mk, ↓xLI_0, ↓xLI_s, ↓xLR_0, ↓xLR_s, vRef_ref, vRef_null, vRef_rf, cat_int, cat_ref, cat_null, cat_rf, rf_some, rf_none, rf_null, rf_eq, rf_ref, ref_rf, ref_null, ref_ref, xOk_0, xOk_1, xOk_2r, xOk_2n, xOk_2f, vOpt_rf, vOpt_ref, vOpt_null, List.set_cons_zero, List.set_cons_succ, List.take_succ_cons, List.take_zero, List.drop_succ_cons, List.drop_zero, List.reverse_cons, List.reverse_nil, List.nil_append, List.cons_append, List.append_nil, List.length_cons, List.length_nil, List.map_cons, List.map_nil, List.sum_cons, List.sum_nil, Option.toList_some, Option.toList_none, xRecv_mk, true_and, and_true, true_implies, Nat.reduceAdd, Nat.reduceLeDiff, Nat.zero_le, Nat.le_refl, Nat.add_zero, Nat.zero_add, reduceIte, not_true_eq_false, not_false_eq_true, false_implies, and_self, implies_true, eq_self, Nat.reduceEqDiff, List.cons.injEq, xsn_1, xsn_2, false_and, and_false, or_false, false_or, or_true, true_or, xsn_3, xsn_4, cK_setI, cFi_setI, cFr_setI, cLen_setI, cRi_setI, ↓spwX7_needContract, spcX7_needContract, ↓spwX7_needPoint, spcX7_needPoint, ↓spwX7_needArgument, spcX7_needArgument, h0, h1, h2, q, hb0, g2]
    try simp only [xif_e]
    repeat' (first | with_reducible apply And.intro | with_reducible intro _)
    all_goals grind (splits := 30) [bi]
  · have h := hbad q
    refine xgo hG (mb := []) (head := 6) (P := fun _ _ _ _ _ => False) (fun _ _ _ _ _ q => q.elim) (pc := 0) (fun fu hfu => ?_)
    simp only [↓callX7_divert_0, ↓callX7_divert_1, ↓callX7_divert_2, ↓cg_3_10, ↓cg_3_2, ↓cg_3_3, cisa, ↓cp_3_10, ↓cp_3_3, ki_0, ki_1, ↓vm_aload_n, ↓vm_astore_n, ↓vm_dup, ↓vm_getfield, ↓vm_goto, ↓vm_iadd, ↓vm_iconst, ↓vm_if_icmp_eq, ↓vm_iload, ↓vm_iload_n, ↓vm_invokestatic, ↓vm_invokevirtual, ↓vm_ireturn, ↓vm_istore, ↓vm_putfield, ↓xc_1, ↓xc_2, ↓tbX7_divert_0, ↓tbX7_divert_1, ↓tbX7_divert_2, ↓tbX7_divert_5, ↓tbX7_divert_6, ↓tbX7_divert_7, ↓tbX7_divert_10, ↓tbX7_divert_11, ↓tbX7_divert_12, ↓tbX7_divert_15, ↓tbX7_divert_18, ↓tbX7_divert_19, ↓tbX7_divert_20, ↓tbX7_divert_23, ↓tbX7_divert_26, ↓tbX7_divert_27, ↓tbX7_divert_30, ↓tbX7_divert_31, ↓tbX7_divert_34, ↓tbX7_divert_35, ↓tbX7_divert_38, ↓tbX7_divert_40, ↓tbX7_divert_41, ↓tbX7_divert_42, ↓tbX7_divert_45, ↓tbX7_divert_46, ↓tbX7_divert_47, ↓tbX7_divert_50, ↓tbX7_divert_51, ↓tbX7_divert_52, ↓tbX7_divert_55, ↓tbX7_divert_57, hfu, xstep0, xJ1_hit, xJ1_go, xJ2_hit1, xJ2_hit2, xJ2_go, ↓xif_t, ↓xif_f, seval, ↓xca_eq, ↓xre_l, ↓xre_r, xmask_t, xmask_f, xmask_nil, ↓xst_eq, xX_eq, eI_eq, eMc_eq, eMs_eq, eF_eq, eThr_eq, ↓xS1_mk, ↓xSI_mk, ↓xSR_mk, ↓xLI_0, ↓xLI_s, ↓xLR_0, ↓xLR_s, vRef_ref, vRef_null, vRef_rf, cat_int, cat_ref, cat_null, cat_rf, rf_some, rf_none, rf_null, rf_eq, rf_ref, ref_rf, ref_null, ref_ref, xOk_0, xOk_1, xOk_2r, xOk_2n, xOk_2f, vOpt_rf, vOpt_ref, vOpt_null, List.set_cons_zero, List.set_cons_succ, List.take_succ_cons, List.take_zero, List.drop_succ_cons, List.drop_zero, List.reverse_cons, List.reverse_nil, List.nil_append, List.cons_append, List.append_nil, List.length_cons, List.length_nil, List.map_cons, List.map_nil, List.sum_cons, List.sum_nil, Option.toList_some, Option.toList_none, xRecv_mk, true_and, and_true, true_implies, Nat.reduceAdd, Nat.reduceLeDiff, Nat.zero_le, Nat.le_refl, Nat.add_zero, Nat.zero_add, reduceIte, not_true_eq_false, not_false_eq_true, false_implies, and_self, implies_true, eq_self, Nat.reduceEqDiff, List.cons.injEq, xsn_1, xsn_2, false_and, and_false, or_false, false_or, or_true, true_or, xsn_3, xsn_4, cK_setI, cFi_setI, cFr_setI, cLen_setI, cRi_setI, ↓spwX7_needContract, spcX7_needContract, ↓spwX7_needPoint, spcX7_needPoint, ↓spwX7_needArgument, spcX7_needArgument, h0, h1, h2, q]
    try simp only [xif_e]
    first | exact h | grind

def tbX7_fuel : List (Nat × xHint) := [(0, .aload_n 0, 0, 0, 0, []), (1, .iload_n 1, 1, 0, 0, []), (2, .invokevirtual 219, 0, 2, 8, []), (5, .astore_n 3, 3, 0, 0, []), (6, .iload_n 2, 2, 0, 0, []), (7, .iconst 1, 0, 0, 0, []), (8, .sipush 999, 0, 0, 0, []), (11, .invokestatic 57, 1, 3, 0, []), (14, .aload_n 3, 3, 0, 0, []), (15, .invokevirtual 223, 2, 1, 2, []), (18, .ifCond .ne 19, 37, 0, 0, []), (21, .aload_n 3, 3, 0, 0, []), (22, .getfield 226, 2, 4, 0, []), (25, .iload_n 2, 2, 0, 0, []), (26, .iadd, 0, 0, 0, []), (27, .sipush 999, 0, 0, 0, []), (30, .if_icmp .gt 7, 37, 0, 0, []), (33, .iconst 1, 0, 0, 0, []), (34, .goto 4, 38, 0, 0, []), (37, .iconst 0, 0, 0, 0, []), (38, .invokestatic 77, 3, 1, 0, []), (41, .aload_n 3, 3, 0, 0, []), (42, .dup, 0, 0, 0, []), (43, .getfield 226, 2, 4, 0, []), (46, .iload_n 2, 2, 0, 0, []), (47, .iadd, 0, 0, 0, []), (48, .putfield 226, 2, 4, 0, []), (51, .aload_n 0, 0, 0, 0, []), (52, .dup, 0, 0, 0, []), (53, .getfield 229, 8, 13, 0, []), (56, .iload_n 2, 2, 0, 0, []), (57, .iadd, 0, 0, 0, []), (58, .putfield 229, 8, 13, 0, []), (61, .aload_n 3, 3, 0, 0, []), (62, .getfield 226, 2, 4, 0, []), (65, .ireturn, 0, 0, 0, [])]
def clX7_fuel : List (Instr × Nat × Nat × Nat) := [(.invokevirtual 219, 0, 2, 8), (.invokestatic 57, 1, 3, 0), (.invokevirtual 223, 2, 1, 2), (.invokestatic 77, 3, 1, 0)]
def thX7_fuel : List (Nat × Nat) := []
theorem ckX7_fuel : tbX7_fuel.all (xRow RX7 cX7_fuel wsX7_fuel vwCl [2, 8] clX7_fuel thX7_fuel 4 (yX7_fuel.name == "<init>") (some .int)) = true := xRow_q 0xace200b42de500b5601ce500b4592ae200b5601ce200b4592d4d00b8030400a7040700a3e70311601ce200b42d13009adf00b62d3900b8e70311041c4edb00b61b2a 66 (by decide +kernel) (by decide +kernel)
theorem usX7_fuel : xUse wsX7_fuel vwCl [2, 8] = true := xUse_g rfl (lw_good lwl_X7_fuel lwl_X10 (by decide +kernel)) (xUse_g rfl (lw_good lwl_X7_fuel lwl_X70 (by decide +kernel)) xUse_n)
theorem tbX7_fuel_0 {k : Instr → Nat → Nat → Nat → List Nat → Prop} : xse (xFind tbX7_fuel 0) k = k (.aload_n 0) 0 0 0 [] := rfl
theorem tbX7_fuel_1 {k : Instr → Nat → Nat → Nat → List Nat → Prop} : xse (xFind tbX7_fuel 1) k = k (.iload_n 1) 1 0 0 [] := rfl
theorem tbX7_fuel_2 {k : Instr → Nat → Nat → Nat → List Nat → Prop} : xse (xFind tbX7_fuel 2) k = k (.invokevirtual 219) 0 2 8 [] := rfl
theorem tbX7_fuel_5 {k : Instr → Nat → Nat → Nat → List Nat → Prop} : xse (xFind tbX7_fuel 5) k = k (.astore_n 3) 3 0 0 [] := rfl
theorem tbX7_fuel_6 {k : Instr → Nat → Nat → Nat → List Nat → Prop} : xse (xFind tbX7_fuel 6) k = k (.iload_n 2) 2 0 0 [] := rfl
theorem tbX7_fuel_7 {k : Instr → Nat → Nat → Nat → List Nat → Prop} : xse (xFind tbX7_fuel 7) k = k (.iconst 1) 0 0 0 [] := rfl
theorem tbX7_fuel_8 {k : Instr → Nat → Nat → Nat → List Nat → Prop} : xse (xFind tbX7_fuel 8) k = k (.sipush 999) 0 0 0 [] := rfl
theorem tbX7_fuel_11 {k : Instr → Nat → Nat → Nat → List Nat → Prop} : xse (xFind tbX7_fuel 11) k = k (.invokestatic 57) 1 3 0 [] := rfl
theorem tbX7_fuel_14 {k : Instr → Nat → Nat → Nat → List Nat → Prop} : xse (xFind tbX7_fuel 14) k = k (.aload_n 3) 3 0 0 [] := rfl
theorem tbX7_fuel_15 {k : Instr → Nat → Nat → Nat → List Nat → Prop} : xse (xFind tbX7_fuel 15) k = k (.invokevirtual 223) 2 1 2 [] := rfl
theorem tbX7_fuel_18 {k : Instr → Nat → Nat → Nat → List Nat → Prop} : xse (xFind tbX7_fuel 18) k = k (.ifCond .ne 19) 37 0 0 [] := rfl
theorem tbX7_fuel_21 {k : Instr → Nat → Nat → Nat → List Nat → Prop} : xse (xFind tbX7_fuel 21) k = k (.aload_n 3) 3 0 0 [] := rfl
theorem tbX7_fuel_22 {k : Instr → Nat → Nat → Nat → List Nat → Prop} : xse (xFind tbX7_fuel 22) k = k (.getfield 226) 2 4 0 [] := rfl
theorem tbX7_fuel_25 {k : Instr → Nat → Nat → Nat → List Nat → Prop} : xse (xFind tbX7_fuel 25) k = k (.iload_n 2) 2 0 0 [] := rfl
theorem tbX7_fuel_26 {k : Instr → Nat → Nat → Nat → List Nat → Prop} : xse (xFind tbX7_fuel 26) k = k (.iadd) 0 0 0 [] := rfl
theorem tbX7_fuel_27 {k : Instr → Nat → Nat → Nat → List Nat → Prop} : xse (xFind tbX7_fuel 27) k = k (.sipush 999) 0 0 0 [] := rfl
theorem tbX7_fuel_30 {k : Instr → Nat → Nat → Nat → List Nat → Prop} : xse (xFind tbX7_fuel 30) k = k (.if_icmp .gt 7) 37 0 0 [] := rfl
theorem tbX7_fuel_33 {k : Instr → Nat → Nat → Nat → List Nat → Prop} : xse (xFind tbX7_fuel 33) k = k (.iconst 1) 0 0 0 [] := rfl
theorem tbX7_fuel_34 {k : Instr → Nat → Nat → Nat → List Nat → Prop} : xse (xFind tbX7_fuel 34) k = k (.goto 4) 38 0 0 [] := rfl
theorem tbX7_fuel_37 {k : Instr → Nat → Nat → Nat → List Nat → Prop} : xse (xFind tbX7_fuel 37) k = k (.iconst 0) 0 0 0 [] := rfl
theorem tbX7_fuel_38 {k : Instr → Nat → Nat → Nat → List Nat → Prop} : xse (xFind tbX7_fuel 38) k = k (.invokestatic 77) 3 1 0 [] := rfl
theorem tbX7_fuel_41 {k : Instr → Nat → Nat → Nat → List Nat → Prop} : xse (xFind tbX7_fuel 41) k = k (.aload_n 3) 3 0 0 [] := rfl
theorem tbX7_fuel_42 {k : Instr → Nat → Nat → Nat → List Nat → Prop} : xse (xFind tbX7_fuel 42) k = k (.dup) 0 0 0 [] := rfl
theorem tbX7_fuel_43 {k : Instr → Nat → Nat → Nat → List Nat → Prop} : xse (xFind tbX7_fuel 43) k = k (.getfield 226) 2 4 0 [] := rfl
theorem tbX7_fuel_46 {k : Instr → Nat → Nat → Nat → List Nat → Prop} : xse (xFind tbX7_fuel 46) k = k (.iload_n 2) 2 0 0 [] := rfl
theorem tbX7_fuel_47 {k : Instr → Nat → Nat → Nat → List Nat → Prop} : xse (xFind tbX7_fuel 47) k = k (.iadd) 0 0 0 [] := rfl
theorem tbX7_fuel_48 {k : Instr → Nat → Nat → Nat → List Nat → Prop} : xse (xFind tbX7_fuel 48) k = k (.putfield 226) 2 4 0 [] := rfl
theorem tbX7_fuel_51 {k : Instr → Nat → Nat → Nat → List Nat → Prop} : xse (xFind tbX7_fuel 51) k = k (.aload_n 0) 0 0 0 [] := rfl
theorem tbX7_fuel_52 {k : Instr → Nat → Nat → Nat → List Nat → Prop} : xse (xFind tbX7_fuel 52) k = k (.dup) 0 0 0 [] := rfl
theorem tbX7_fuel_53 {k : Instr → Nat → Nat → Nat → List Nat → Prop} : xse (xFind tbX7_fuel 53) k = k (.getfield 229) 8 13 0 [] := rfl
theorem tbX7_fuel_56 {k : Instr → Nat → Nat → Nat → List Nat → Prop} : xse (xFind tbX7_fuel 56) k = k (.iload_n 2) 2 0 0 [] := rfl
theorem tbX7_fuel_57 {k : Instr → Nat → Nat → Nat → List Nat → Prop} : xse (xFind tbX7_fuel 57) k = k (.iadd) 0 0 0 [] := rfl
theorem tbX7_fuel_58 {k : Instr → Nat → Nat → Nat → List Nat → Prop} : xse (xFind tbX7_fuel 58) k = k (.putfield 229) 8 13 0 [] := rfl
theorem tbX7_fuel_61 {k : Instr → Nat → Nat → Nat → List Nat → Prop} : xse (xFind tbX7_fuel 61) k = k (.aload_n 3) 3 0 0 [] := rfl
theorem tbX7_fuel_62 {k : Instr → Nat → Nat → Nat → List Nat → Prop} : xse (xFind tbX7_fuel 62) k = k (.getfield 226) 2 4 0 [] := rfl
theorem tbX7_fuel_65 {k : Instr → Nat → Nat → Nat → List Nat → Prop} : xse (xFind tbX7_fuel 65) k = k (.ireturn) 0 0 0 [] := rfl

def spX7_fuel (W9 : xWd) : xSp cS := (fun av S => (3, 18), fun av S K => ∃ (a : Nat) (b : Int32) (u : Int32), av = [.ref a, .int b, .int u] ∧ (cK S a = 9 ∧ (cIn S a 804 1 ∧ lAll S (cRf S a 804) 3) ∧ (¬ (0 ≤ b ∧ b < cFi S (cRf S a 804) 2) → K (rX "java/lang/IndexOutOfBoundsException") S) ∧ (0 ≤ b ∧ b < cFi S (cRf S a 804) 2 → (¬ (1 ≤ u ∧ u ≤ 999) → K (rX "java/lang/IllegalArgumentException") S) ∧ ((1 ≤ u ∧ u ≤ 999) → (¬ (cFi S (lG S (cRf S a 804) b.toNatClampNeg) 207 = -1 ∧ cFi S (lG S (cRf S a 804) b.toNatClampNeg) 204 + u ≤ 999) → K (rX "java/lang/IllegalStateException") S) ∧ ((cFi S (lG S (cRf S a 804) b.toNatClampNeg) 207 = -1 ∧ cFi S (lG S (cRf S a 804) b.toNatClampNeg) 204 + u ≤ 999) → K (rI (cFi S (lG S (cRf S a 804) b.toNatClampNeg) 204 + u)) (cSetI (cSetI S (lG S (cRf S a 804) b.toNatClampNeg) 204 (cFi S (lG S (cRf S a 804) b.toNatClampNeg) 204 + u)) a 813 (cFi S a 813 + u)))))))
theorem spcX7_fuel {av : List Value} {S : cS} {W9 : xWd} : (spX7_fuel W9).1 av S = (3, 18) := rfl
theorem spwX7_fuel {S : cS} {W9 : xWd} {K : xRes → cS → Prop} {a : Nat} {b : Int32} {u : Int32} : (spX7_fuel W9).2 [.ref a, .int b, .int u] S K = (cK S a = 9 ∧ (cIn S a 804 1 ∧ lAll S (cRf S a 804) 3) ∧ (¬ (0 ≤ b ∧ b < cFi S (cRf S a 804) 2) → K (rX "java/lang/IndexOutOfBoundsException") S) ∧ (0 ≤ b ∧ b < cFi S (cRf S a 804) 2 → (¬ (1 ≤ u ∧ u ≤ 999) → K (rX "java/lang/IllegalArgumentException") S) ∧ ((1 ≤ u ∧ u ≤ 999) → (¬ (cFi S (lG S (cRf S a 804) b.toNatClampNeg) 207 = -1 ∧ cFi S (lG S (cRf S a 804) b.toNatClampNeg) 204 + u ≤ 999) → K (rX "java/lang/IllegalStateException") S) ∧ ((cFi S (lG S (cRf S a 804) b.toNatClampNeg) 207 = -1 ∧ cFi S (lG S (cRf S a 804) b.toNatClampNeg) 204 + u ≤ 999) → K (rI (cFi S (lG S (cRf S a 804) b.toNatClampNeg) 204 + u)) (cSetI (cSetI S (lG S (cRf S a 804) b.toNatClampNeg) 204 (cFi S (lG S (cRf S a 804) b.toNatClampNeg) 204 + u)) a 813 (cFi S a 813 + u)))))) :=
  propext ⟨fun h => by
    simp only [spX7_fuel] at h
    obtain ⟨_, _, _, e, h⟩ := h
    simp only [List.cons.injEq, Value.int.injEq, Value.ref.injEq, rf_eq, and_true, true_and] at e
    obtain ⟨rfl, rfl, rfl⟩ := e
    exact h, fun h => ⟨_, _, _, rfl, h⟩⟩

def callX7_fuel (W9 : xWd) : Nat → Option (xSp cS) := fun n => match n with | 0 => some (spX7_needBoat W9) | 1 => some (spX7_needWithin W9) | 2 => some (spX1_isUnderWay W9) | 3 => some (spX7_needState W9) | _ => none

theorem callX7_fuel_0 {W9 : xWd} {k : xSp cS → Prop} : xcs (callX7_fuel W9 0) k = k (spX7_needBoat W9) := rfl

theorem callX7_fuel_1 {W9 : xWd} {k : xSp cS → Prop} : xcs (callX7_fuel W9 1) k = k (spX7_needWithin W9) := rfl

theorem callX7_fuel_2 {W9 : xWd} {k : xSp cS → Prop} : xcs (callX7_fuel W9 2) k = k (spX1_isUnderWay W9) := rfl

theorem callX7_fuel_3 {W9 : xWd} {k : xSp cS → Prop} : xcs (callX7_fuel W9 3) k = k (spX7_needState W9) := rfl

theorem crX7_fuel (l : Launch) (hl : l.stackTraces = false) (W9 : xWd) : xCallsOK l W9 (cI) (callX7_fuel W9) clX7_fuel RX7 wsX7_fuel 7 112 4 := by
  intro E A p e R s m args below meth c hI hF hL X
  exact List.forall_mem_cons.mpr ⟨⟨_, rfl, xCR_V X (by rw [hI]; exact (semX7_needBoat l hl W9)) gX7_fuel_X7_needBoat rfl rfl (by decide +kernel) (by rw [hF, hL]; decide)⟩,
    List.forall_mem_cons.mpr ⟨⟨_, rfl, xCR_S X (by rw [hI]; exact (semX7_needWithin l hl W9)) gX7_fuel_X7_needWithin rfl (by decide +kernel) (by rw [hF, hL]; decide)⟩,
    List.forall_mem_cons.mpr ⟨⟨_, rfl, xCR_V X (by rw [hI]; exact (semX1_isUnderWay l hl W9)) gX7_fuel_X1_isUnderWay rfl rfl (by decide +kernel) (by rw [hF, hL]; decide)⟩,
    List.forall_mem_cons.mpr ⟨⟨_, rfl, xCR_S X (by rw [hI]; exact (semX7_needState l hl W9)) gX7_fuel_X7_needState rfl (by decide +kernel) (by rw [hF, hL]; decide)⟩,
    fun _ h => nomatch h⟩⟩⟩⟩

set_option maxHeartbeats 4000000 in
set_option maxRecDepth 20000 in
theorem semX7_fuel (l : Launch) (hl : l.stackTraces = false) (W9 : xWd) : xSem l W9 (cI) yX7_fuel wsX7_fuel 7 112 (spX7_fuel W9) := by
  refine xSem_of (call := callX7_fuel W9) (thrf := fun _ => "") cI_law (by decide +kernel) rfl ckX7_fuel usX7_fuel (crX7_fuel l hl W9) xThrOK_nil ?_ ?_
  · intro av S KF h
    obtain ⟨a, b, u, rfl, h⟩ := h
    exact ⟨by intro v hv; simp only [List.mem_cons, List.not_mem_nil, or_false] at hv; rcases hv with rfl | rfl | rfl <;> first | rfl | exact cat_rf, Nat.le_of_ble_eq_true rfl⟩
  intro av S KF h G hG
  obtain ⟨a, b, u, rfl, h⟩ := h
  rw [show (spX7_fuel W9).1 _ S = _ from spcX7_fuel] at hG
  try dsimp only at hG
  change G 0 [some (.ref a), some (.int b), some (.int u), none] [] S 0 0
  obtain ⟨h0, ⟨h1, h2⟩, hbad, hok⟩ := h

  by_cases q : 0 ≤ b ∧ b < cFi S (cRf S a 804) 2
  · have hz := hok q
    obtain ⟨g1, g2⟩ := lAll_at h2 q.1 q.2
    have gj := (lOk_in h2.1 q.1 q.2).2.2
    have hne : (a = lG S (cRf S a 804) b.toNatClampNeg) = False := eq_false (fun z => by rw [← z] at g2; omega)
    have hne2 : (lG S (cRf S a 804) b.toNatClampNeg = a) = False := eq_false (fun z => by rw [z] at g2; omega)
    generalize hb0 : (lG S (cRf S a 804) b.toNatClampNeg) = g at *
    refine xgo0 hG (fun fu hfu => ?_)
    simp only [↓callX7_fuel_0, ↓callX7_fuel_1, ↓callX7_fuel_2, ↓callX7_fuel_3, ↓cg_2_4, ↓cg_8_13, cisa, ↓cp_2_4, ↓cp_8_13, ki_0, ki_1, ks_999, kt_999, ↓vm_aload_n, ↓vm_astore_n, ↓vm_dup, ↓vm_getfield, ↓vm_goto, ↓vm_iadd, ↓vm_iconst, ↓vm_ifCond_ne, ↓vm_if_icmp_gt, ↓vm_iload_n, ↓vm_invokestatic, ↓vm_invokevirtual, ↓vm_ireturn, ↓vm_putfield, ↓vm_sipush, ↓xc_1, ↓xc_2, ↓xc_3, ↓tbX7_fuel_0, ↓tbX7_fuel_1, ↓tbX7_fuel_2, ↓tbX7_fuel_5, ↓tbX7_fuel_6, ↓tbX7_fuel_7, ↓tbX7_fuel_8, ↓tbX7_fuel_11, ↓tbX7_fuel_14, ↓tbX7_fuel_15, ↓tbX7_fuel_18, ↓tbX7_fuel_21, ↓tbX7_fuel_22, ↓tbX7_fuel_25, ↓tbX7_fuel_26, ↓tbX7_fuel_27, ↓tbX7_fuel_30, ↓tbX7_fuel_33, ↓tbX7_fuel_34, ↓tbX7_fuel_37, ↓tbX7_fuel_38, ↓tbX7_fuel_41, ↓tbX7_fuel_42, ↓tbX7_fuel_43, ↓tbX7_fuel_46, ↓tbX7_fuel_47, ↓tbX7_fuel_48, ↓tbX7_fuel_51, ↓tbX7_fuel_52, ↓tbX7_fuel_53, ↓tbX7_fuel_56, ↓tbX7_fuel_57, ↓tbX7_fuel_58, ↓tbX7_fuel_61, ↓tbX7_fuel_62, ↓tbX7_fuel_65, hfu, xstep0, xJ1_hit, xJ1_go, xJ2_hit1, xJ2_hit2, xJ2_go, ↓xif_t, ↓xif_f, seval, ↓xca_eq, ↓xre_l, ↓xre_r, xmask_t, xmask_f, xmask_nil, ↓xst_eq, xX_eq, eI_eq, eMc_eq, eMs_eq, eF_eq, eThr_eq, ↓xS1_mk, ↓xSI_mk, ↓xSR_mk, ↓xLI_0, ↓xLI_s, ↓xLR_0, ↓xLR_s, vRef_ref, vRef_null, vRef_rf, cat_int, cat_ref, cat_null, cat_rf, rf_some, rf_none, rf_null, rf_eq, rf_ref, ref_rf, ref_null, ref_ref, xOk_0, xOk_1, xOk_2r, xOk_2n, xOk_2f, vOpt_rf, vOpt_ref, vOpt_null, List.set_cons_zero, List.set_cons_succ, List.take_succ_cons, List.take_zero, List.drop_succ_cons, List.drop_zero, List.reverse_cons, List.reverse_nil, List.nil_append, List.cons_append, List.append_nil, List.length_cons, List.length_nil, List.map_cons, List.map_nil, List.sum_cons, List.sum_nil, Option.toList_some, Option.toList_none, xRecv_mk, true_and, and_true, true_implies, Nat.reduceAdd, Nat.reduceLeDiff, Nat.zero_le, Nat.le_refl, Nat.add_zero, Nat.zero_add, reduceIte, not_true_eq_false, not_false_eq_true, false_implies, and_self, implies_true, eq_self, Nat.reduceEqDiff, List.cons.injEq, xsn_1, xsn_2, false_and, and_false, or_false, false_or, or_true, true_or, xsn_3, xsn_4, cK_setI, cFi_setI, cFr_setI, cLen_setI, cRi_setI, ↓spwX7_needBoat, spcX7_needBoat, ↓spwX7_needWithin, spcX7_needWithin, ↓spwX1_isUnderWay, spcX1_isUnderWay, ↓spwX7_needState, spcX7_needState, h0, h1, h2, q, hb0, g2, hne, hne2, bi_0]
    try simp only [xif_e]
    repeat' (first | with_reducible apply And.intro | with_reducible intro _)
    all_goals grind (splits := 30) [bi]
  · have h := hbad q
    refine xgo hG (mb := []) (head := 6) (P := fun _ _ _ _ _ => False) (fun _ _ _ _ _ q => q.elim) (pc := 0) (fun fu hfu => ?_)
    simp only [↓callX7_fuel_0, ↓callX7_fuel_1, ↓callX7_fuel_2, ↓callX7_fuel_3, ↓cg_2_4, ↓cg_8_13, cisa, ↓cp_2_4, ↓cp_8_13, ki_0, ki_1, ks_999, kt_999, ↓vm_aload_n, ↓vm_astore_n, ↓vm_dup, ↓vm_getfield, ↓vm_goto, ↓vm_iadd, ↓vm_iconst, ↓vm_ifCond_ne, ↓vm_if_icmp_gt, ↓vm_iload_n, ↓vm_invokestatic, ↓vm_invokevirtual, ↓vm_ireturn, ↓vm_putfield, ↓vm_sipush, ↓xc_1, ↓xc_2, ↓xc_3, ↓tbX7_fuel_0, ↓tbX7_fuel_1, ↓tbX7_fuel_2, ↓tbX7_fuel_5, ↓tbX7_fuel_6, ↓tbX7_fuel_7, ↓tbX7_fuel_8, ↓tbX7_fuel_11, ↓tbX7_fuel_14, ↓tbX7_fuel_15, ↓tbX7_fuel_18, ↓tbX7_fuel_21, ↓tbX7_fuel_22, ↓tbX7_fuel_25, ↓tbX7_fuel_26, ↓tbX7_fuel_27, ↓tbX7_fuel_30, ↓tbX7_fuel_33, ↓tbX7_fuel_34, ↓tbX7_fuel_37, ↓tbX7_fuel_38, ↓tbX7_fuel_41, ↓tbX7_fuel_42, ↓tbX7_fuel_43, ↓tbX7_fuel_46, ↓tbX7_fuel_47, ↓tbX7_fuel_48, ↓tbX7_fuel_51, ↓tbX7_fuel_52, ↓tbX7_fuel_53, ↓tbX7_fuel_56, ↓tbX7_fuel_57, ↓tbX7_fuel_58, ↓tbX7_fuel_61, ↓tbX7_fuel_62, ↓tbX7_fuel_65, hfu, xstep0, xJ1_hit, xJ1_go, xJ2_hit1, xJ2_hit2, xJ2_go, ↓xif_t, ↓xif_f, seval, ↓xca_eq, ↓xre_l, ↓xre_r, xmask_t, xmask_f, xmask_nil, ↓xst_eq, xX_eq, eI_eq, eMc_eq, eMs_eq, eF_eq, eThr_eq, ↓xS1_mk, ↓xSI_mk, ↓xSR_mk, ↓xLI_0, ↓xLI_s, ↓xLR_0, ↓xLR_s, vRef_ref, vRef_null, vRef_rf, cat_int, cat_ref, cat_null, cat_rf, rf_some, rf_none, rf_null, rf_eq, rf_ref, ref_rf, ref_null, ref_ref, xOk_0, xOk_1, xOk_2r, xOk_2n, xOk_2f, vOpt_rf, vOpt_ref, vOpt_null, List.set_cons_zero, List.set_cons_succ, List.take_succ_cons, List.take_zero, List.drop_succ_cons, List.drop_zero, List.reverse_cons, List.reverse_nil, List.nil_append, List.cons_append, List.append_nil, List.length_cons, List.length_nil, List.map_cons, List.map_nil, List.sum_cons, List.sum_nil, Option.toList_some, Option.toList_none, xRecv_mk, true_and, and_true, true_implies, Nat.reduceAdd, Nat.reduceLeDiff, Nat.zero_le, Nat.le_refl, Nat.add_zero, Nat.zero_add, reduceIte, not_true_eq_false, not_false_eq_true, false_implies, and_self, implies_true, eq_self, Nat.reduceEqDiff, List.cons.injEq, xsn_1, xsn_2, false_and, and_false, or_false, false_or, or_true, true_or, xsn_3, xsn_4, cK_setI, cFi_setI, cFr_setI, cLen_setI, cRi_setI, ↓spwX7_needBoat, spcX7_needBoat, ↓spwX7_needWithin, spcX7_needWithin, ↓spwX1_isUnderWay, spcX1_isUnderWay, ↓spwX7_needState, spcX7_needState, h0, h1, h2, q]
    try simp only [xif_e]
    first | exact h | grind

def tbX7_wide : List (Nat × xHint) := [(0, .aload_n 0, 0, 0, 0, []), (1, .iload_n 1, 1, 0, 0, []), (2, .invokevirtual 219, 0, 2, 8, []), (5, .astore_n 3, 3, 0, 0, []), (6, .iload_n 2, 2, 0, 0, []), (7, .iconst 1, 0, 0, 0, []), (8, .iconst 4, 0, 0, 0, []), (9, .invokestatic 57, 1, 3, 0, []), (12, .aload_n 3, 3, 0, 0, []), (13, .getfield 232, 2, 3, 2, []), (16, .invokevirtual 101, 2, 1, 5, []), (19, .ifCond .ne 7, 26, 0, 0, []), (22, .iconst 1, 0, 0, 0, []), (23, .goto 4, 27, 0, 0, []), (26, .iconst 0, 0, 0, 0, []), (27, .invokestatic 77, 3, 1, 0, []), (30, .aload_n 3, 3, 0, 0, []), (31, .getfield 232, 2, 3, 2, []), (34, .getfield 235, 5, 4, 0, []), (37, .istore 4, 4, 0, 0, []), (39, .aload_n 3, 3, 0, 0, []), (40, .getfield 232, 2, 3, 2, []), (43, .iload_n 2, 2, 0, 0, []), (44, .putfield 235, 5, 4, 0, []), (47, .iload 4, 4, 0, 0, []), (49, .ireturn, 0, 0, 0, [])]
def clX7_wide : List (Instr × Nat × Nat × Nat) := [(.invokevirtual 219, 0, 2, 8), (.invokestatic 57, 1, 3, 0), (.invokevirtual 101, 2, 1, 5), (.invokestatic 77, 3, 1, 0)]
def thX7_wide : List (Nat × Nat) := []
theorem ckX7_wide : tbX7_wide.all (xRow RX7 cX7_wide wsX7_wide vwCl [2, 5] clX7_wide thX7_wide 5 (yX7_wide.name == "<init>") (some .int)) = true := xRow_q 0xac0415eb00b51ce800b42d0436eb00b4e800b42d4d00b8030400a70407009a6500b6e800b42d3900b807041c4edb00b61b2a 50 (by decide +kernel) (by decide +kernel)
theorem usX7_wide : xUse wsX7_wide vwCl [2, 5] = true := xUse_g rfl (lw_good lwl_X7_wide lwl_X10 (by decide +kernel)) (xUse_g rfl (lw_good lwl_X7_wide lwl_X40 (by decide +kernel)) xUse_n)
theorem tbX7_wide_0 {k : Instr → Nat → Nat → Nat → List Nat → Prop} : xse (xFind tbX7_wide 0) k = k (.aload_n 0) 0 0 0 [] := rfl
theorem tbX7_wide_1 {k : Instr → Nat → Nat → Nat → List Nat → Prop} : xse (xFind tbX7_wide 1) k = k (.iload_n 1) 1 0 0 [] := rfl
theorem tbX7_wide_2 {k : Instr → Nat → Nat → Nat → List Nat → Prop} : xse (xFind tbX7_wide 2) k = k (.invokevirtual 219) 0 2 8 [] := rfl
theorem tbX7_wide_5 {k : Instr → Nat → Nat → Nat → List Nat → Prop} : xse (xFind tbX7_wide 5) k = k (.astore_n 3) 3 0 0 [] := rfl
theorem tbX7_wide_6 {k : Instr → Nat → Nat → Nat → List Nat → Prop} : xse (xFind tbX7_wide 6) k = k (.iload_n 2) 2 0 0 [] := rfl
theorem tbX7_wide_7 {k : Instr → Nat → Nat → Nat → List Nat → Prop} : xse (xFind tbX7_wide 7) k = k (.iconst 1) 0 0 0 [] := rfl
theorem tbX7_wide_8 {k : Instr → Nat → Nat → Nat → List Nat → Prop} : xse (xFind tbX7_wide 8) k = k (.iconst 4) 0 0 0 [] := rfl
theorem tbX7_wide_9 {k : Instr → Nat → Nat → Nat → List Nat → Prop} : xse (xFind tbX7_wide 9) k = k (.invokestatic 57) 1 3 0 [] := rfl
theorem tbX7_wide_12 {k : Instr → Nat → Nat → Nat → List Nat → Prop} : xse (xFind tbX7_wide 12) k = k (.aload_n 3) 3 0 0 [] := rfl
theorem tbX7_wide_13 {k : Instr → Nat → Nat → Nat → List Nat → Prop} : xse (xFind tbX7_wide 13) k = k (.getfield 232) 2 3 2 [] := rfl
theorem tbX7_wide_16 {k : Instr → Nat → Nat → Nat → List Nat → Prop} : xse (xFind tbX7_wide 16) k = k (.invokevirtual 101) 2 1 5 [] := rfl
theorem tbX7_wide_19 {k : Instr → Nat → Nat → Nat → List Nat → Prop} : xse (xFind tbX7_wide 19) k = k (.ifCond .ne 7) 26 0 0 [] := rfl
theorem tbX7_wide_22 {k : Instr → Nat → Nat → Nat → List Nat → Prop} : xse (xFind tbX7_wide 22) k = k (.iconst 1) 0 0 0 [] := rfl
theorem tbX7_wide_23 {k : Instr → Nat → Nat → Nat → List Nat → Prop} : xse (xFind tbX7_wide 23) k = k (.goto 4) 27 0 0 [] := rfl
theorem tbX7_wide_26 {k : Instr → Nat → Nat → Nat → List Nat → Prop} : xse (xFind tbX7_wide 26) k = k (.iconst 0) 0 0 0 [] := rfl
theorem tbX7_wide_27 {k : Instr → Nat → Nat → Nat → List Nat → Prop} : xse (xFind tbX7_wide 27) k = k (.invokestatic 77) 3 1 0 [] := rfl
theorem tbX7_wide_30 {k : Instr → Nat → Nat → Nat → List Nat → Prop} : xse (xFind tbX7_wide 30) k = k (.aload_n 3) 3 0 0 [] := rfl
theorem tbX7_wide_31 {k : Instr → Nat → Nat → Nat → List Nat → Prop} : xse (xFind tbX7_wide 31) k = k (.getfield 232) 2 3 2 [] := rfl
theorem tbX7_wide_34 {k : Instr → Nat → Nat → Nat → List Nat → Prop} : xse (xFind tbX7_wide 34) k = k (.getfield 235) 5 4 0 [] := rfl
theorem tbX7_wide_37 {k : Instr → Nat → Nat → Nat → List Nat → Prop} : xse (xFind tbX7_wide 37) k = k (.istore 4) 4 0 0 [] := rfl
theorem tbX7_wide_39 {k : Instr → Nat → Nat → Nat → List Nat → Prop} : xse (xFind tbX7_wide 39) k = k (.aload_n 3) 3 0 0 [] := rfl
theorem tbX7_wide_40 {k : Instr → Nat → Nat → Nat → List Nat → Prop} : xse (xFind tbX7_wide 40) k = k (.getfield 232) 2 3 2 [] := rfl
theorem tbX7_wide_43 {k : Instr → Nat → Nat → Nat → List Nat → Prop} : xse (xFind tbX7_wide 43) k = k (.iload_n 2) 2 0 0 [] := rfl
theorem tbX7_wide_44 {k : Instr → Nat → Nat → Nat → List Nat → Prop} : xse (xFind tbX7_wide 44) k = k (.putfield 235) 5 4 0 [] := rfl
theorem tbX7_wide_47 {k : Instr → Nat → Nat → Nat → List Nat → Prop} : xse (xFind tbX7_wide 47) k = k (.iload 4) 4 0 0 [] := rfl
theorem tbX7_wide_49 {k : Instr → Nat → Nat → Nat → List Nat → Prop} : xse (xFind tbX7_wide 49) k = k (.ireturn) 0 0 0 [] := rfl

def spX7_wide (W9 : xWd) : xSp cS := (fun av S => (3, 18), fun av S K => ∃ (a : Nat) (b : Int32) (n : Int32), av = [.ref a, .int b, .int n] ∧ (cK S a = 9 ∧ (cIn S a 804 1 ∧ lAll S (cRf S a 804) 3) ∧ (∀ j, j < lCn S (cRf S a 804) → bOk S (lG S (cRf S a 804) j)) ∧ (¬ (0 ≤ b ∧ b < cFi S (cRf S a 804) 2) → K (rX "java/lang/IndexOutOfBoundsException") S) ∧ (0 ≤ b ∧ b < cFi S (cRf S a 804) 2 → (¬ (1 ≤ n ∧ n ≤ 4) → K (rX "java/lang/IllegalArgumentException") S) ∧ ((1 ≤ n ∧ n ≤ 4) → (¬ (rN S (cRf S (lG S (cRf S a 804) b.toNatClampNeg) 203) = 0) → K (rX "java/lang/IllegalStateException") S) ∧ ((rN S (cRf S (lG S (cRf S a 804) b.toNatClampNeg) 203) = 0) → K (rI (cFi S (cRf S (lG S (cRf S a 804) b.toNatClampNeg) 203) 504)) (cSetI S (cRf S (lG S (cRf S a 804) b.toNatClampNeg) 203) 504 n))))))
theorem spcX7_wide {av : List Value} {S : cS} {W9 : xWd} : (spX7_wide W9).1 av S = (3, 18) := rfl
theorem spwX7_wide {S : cS} {W9 : xWd} {K : xRes → cS → Prop} {a : Nat} {b : Int32} {n : Int32} : (spX7_wide W9).2 [.ref a, .int b, .int n] S K = (cK S a = 9 ∧ (cIn S a 804 1 ∧ lAll S (cRf S a 804) 3) ∧ (∀ j, j < lCn S (cRf S a 804) → bOk S (lG S (cRf S a 804) j)) ∧ (¬ (0 ≤ b ∧ b < cFi S (cRf S a 804) 2) → K (rX "java/lang/IndexOutOfBoundsException") S) ∧ (0 ≤ b ∧ b < cFi S (cRf S a 804) 2 → (¬ (1 ≤ n ∧ n ≤ 4) → K (rX "java/lang/IllegalArgumentException") S) ∧ ((1 ≤ n ∧ n ≤ 4) → (¬ (rN S (cRf S (lG S (cRf S a 804) b.toNatClampNeg) 203) = 0) → K (rX "java/lang/IllegalStateException") S) ∧ ((rN S (cRf S (lG S (cRf S a 804) b.toNatClampNeg) 203) = 0) → K (rI (cFi S (cRf S (lG S (cRf S a 804) b.toNatClampNeg) 203) 504)) (cSetI S (cRf S (lG S (cRf S a 804) b.toNatClampNeg) 203) 504 n))))) :=
  propext ⟨fun h => by
    simp only [spX7_wide] at h
    obtain ⟨_, _, _, e, h⟩ := h
    simp only [List.cons.injEq, Value.int.injEq, Value.ref.injEq, rf_eq, and_true, true_and] at e
    obtain ⟨rfl, rfl, rfl⟩ := e
    exact h, fun h => ⟨_, _, _, rfl, h⟩⟩

def callX7_wide (W9 : xWd) : Nat → Option (xSp cS) := fun n => match n with | 0 => some (spX7_needBoat W9) | 1 => some (spX7_needWithin W9) | 2 => some (spX4_size W9) | 3 => some (spX7_needState W9) | _ => none

theorem callX7_wide_0 {W9 : xWd} {k : xSp cS → Prop} : xcs (callX7_wide W9 0) k = k (spX7_needBoat W9) := rfl

theorem callX7_wide_1 {W9 : xWd} {k : xSp cS → Prop} : xcs (callX7_wide W9 1) k = k (spX7_needWithin W9) := rfl

theorem callX7_wide_2 {W9 : xWd} {k : xSp cS → Prop} : xcs (callX7_wide W9 2) k = k (spX4_size W9) := rfl

theorem callX7_wide_3 {W9 : xWd} {k : xSp cS → Prop} : xcs (callX7_wide W9 3) k = k (spX7_needState W9) := rfl

theorem crX7_wide (l : Launch) (hl : l.stackTraces = false) (W9 : xWd) : xCallsOK l W9 (cI) (callX7_wide W9) clX7_wide RX7 wsX7_wide 7 112 5 := by
  intro E A p e R s m args below meth c hI hF hL X
  exact List.forall_mem_cons.mpr ⟨⟨_, rfl, xCR_V X (by rw [hI]; exact (semX7_needBoat l hl W9)) gX7_wide_X7_needBoat rfl rfl (by decide +kernel) (by rw [hF, hL]; decide)⟩,
    List.forall_mem_cons.mpr ⟨⟨_, rfl, xCR_S X (by rw [hI]; exact (semX7_needWithin l hl W9)) gX7_wide_X7_needWithin rfl (by decide +kernel) (by rw [hF, hL]; decide)⟩,
    List.forall_mem_cons.mpr ⟨⟨_, rfl, xCR_V X (by rw [hI]; exact (semX4_size l hl W9)) gX7_wide_X4_size rfl rfl (by decide +kernel) (by rw [hF, hL]; decide)⟩,
    List.forall_mem_cons.mpr ⟨⟨_, rfl, xCR_S X (by rw [hI]; exact (semX7_needState l hl W9)) gX7_wide_X7_needState rfl (by decide +kernel) (by rw [hF, hL]; decide)⟩,
    fun _ h => nomatch h⟩⟩⟩⟩

set_option maxHeartbeats 4000000 in
set_option maxRecDepth 20000 in
theorem semX7_wide (l : Launch) (hl : l.stackTraces = false) (W9 : xWd) : xSem l W9 (cI) yX7_wide wsX7_wide 7 112 (spX7_wide W9) := by
  refine xSem_of (call := callX7_wide W9) (thrf := fun _ => "") cI_law (by decide +kernel) rfl ckX7_wide usX7_wide (crX7_wide l hl W9) xThrOK_nil ?_ ?_
  · intro av S KF h
    obtain ⟨a, b, n, rfl, h⟩ := h
    exact ⟨by intro v hv; simp only [List.mem_cons, List.not_mem_nil, or_false] at hv; rcases hv with rfl | rfl | rfl <;> first | rfl | exact cat_rf, Nat.le_of_ble_eq_true rfl⟩
  intro av S KF h G hG
  obtain ⟨a, b, n, rfl, h⟩ := h
  rw [show (spX7_wide W9).1 _ S = _ from spcX7_wide] at hG
  try dsimp only at hG
  change G 0 [some (.ref a), some (.int b), some (.int n), none, none] [] S 0 0
  obtain ⟨h0, ⟨h1, h2⟩, h3, hbad, hok⟩ := h

  by_cases q : 0 ≤ b ∧ b < cFi S (cRf S a 804) 2
  · have hz := hok q
    obtain ⟨g1, g2⟩ := lAll_at h2 q.1 q.2
    have gj := (lOk_in h2.1 q.1 q.2).2.2
    obtain ⟨b1, ⟨b2, b2b⟩, b3⟩ := h3 _ gj
    obtain ⟨f1, f2, f3, f4, f5, f6⟩ := rOk_facts b3
    have f7 := b3.2.1
    have f8 : cRf S (cRf S (lG S (cRf S a 804) b.toNatClampNeg) 203) 505 = rL S (cRf S (lG S (cRf S a 804) b.toNatClampNeg) 203) := rfl
    have e0 : (nI (rN S (cRf S (lG S (cRf S a 804) b.toNatClampNeg) 203)) = 0) = (rN S (cRf S (lG S (cRf S a 804) b.toNatClampNeg) 203) = 0) := by rw [show (0 : Int32) = nI 0 from rfl, eq_nI (by omega) (by omega)]
    generalize hb0 : (lG S (cRf S a 804) b.toNatClampNeg) = g at *
    refine xgo0 hG (fun fu hfu => ?_)
    simp only [↓callX7_wide_0, ↓callX7_wide_1, ↓callX7_wide_2, ↓callX7_wide_3, ↓cg_2_3, ↓cg_5_4, cisa, ↓cp_5_4, ki_0, ki_1, ki_4, ↓vm_aload_n, ↓vm_astore_n, ↓vm_getfield, ↓vm_goto, ↓vm_iconst, ↓vm_ifCond_ne, ↓vm_iload, ↓vm_iload_n, ↓vm_invokestatic, ↓vm_invokevirtual, ↓vm_ireturn, ↓vm_istore, ↓vm_putfield, ↓xc_1, ↓xc_2, ↓xc_3, ↓tbX7_wide_0, ↓tbX7_wide_1, ↓tbX7_wide_2, ↓tbX7_wide_5, ↓tbX7_wide_6, ↓tbX7_wide_7, ↓tbX7_wide_8, ↓tbX7_wide_9, ↓tbX7_wide_12, ↓tbX7_wide_13, ↓tbX7_wide_16, ↓tbX7_wide_19, ↓tbX7_wide_22, ↓tbX7_wide_23, ↓tbX7_wide_26, ↓tbX7_wide_27, ↓tbX7_wide_30, ↓tbX7_wide_31, ↓tbX7_wide_34, ↓tbX7_wide_37, ↓tbX7_wide_39, ↓tbX7_wide_40, ↓tbX7_wide_43, ↓tbX7_wide_44, ↓tbX7_wide_47, ↓tbX7_wide_49, hfu, xstep0, xJ1_hit, xJ1_go, xJ2_hit1, xJ2_hit2, xJ2_go, ↓xif_t, ↓xif_f, seval, ↓xca_eq, ↓xre_l, ↓xre_r, xmask_t, xmask_f, xmask_nil, ↓xst_eq, xX_eq, eI_eq, eMc_eq, eMs_eq, eF_eq, eThr_eq, ↓xS1_mk, ↓xSI_mk, ↓xSR_mk, ↓xLI_0, ↓xLI_s, ↓xLR_0, ↓xLR_s, vRef_ref, vRef_null, vRef_rf, cat_int, cat_ref, cat_null, cat_rf, rf_some, rf_none, rf_null, rf_eq, rf_ref, ref_rf, ref_null, ref_ref, xOk_0, xOk_1, xOk_2r, xOk_2n, xOk_2f, vOpt_rf, vOpt_ref, vOpt_null, List.set_cons_zero, List.set_cons_succ, List.take_succ_cons, List.take_zero, List.drop_succ_cons, List.drop_zero, List.reverse_cons, List.reverse_nil, List.nil_append, List.cons_append, List.append_nil, List.length_cons, List.length_nil, List.map_cons, List.map_nil, List.sum_cons, List.sum_nil, Option.toList_some, Option.toList_none, xRecv_mk, true_and, and_true, true_implies, Nat.reduceAdd, Nat.reduceLeDiff, Nat.zero_le, Nat.le_refl, Nat.add_zero, Nat.zero_add, reduceIte, not_true_eq_false, not_false_eq_true, false_implies, and_self, implies_true, eq_self, Nat.reduceEqDiff, List.cons.injEq, xsn_1, xsn_2, false_and, and_false, or_false, false_or, or_true, true_or, xsn_3, xsn_4, cK_setI, cFi_setI, cFr_setI, cLen_setI, cRi_setI, ↓spwX7_needBoat, spcX7_needBoat, ↓spwX7_needWithin, spcX7_needWithin, ↓spwX4_size, spcX4_size, ↓spwX7_needState, spcX7_needState, h0, h1, h2, q, hb0, g2, b2, b2b, f1, f5, f7, f8, e0]
    try simp only [xif_e]
    repeat' (first | with_reducible apply And.intro | with_reducible intro _)
    all_goals grind (splits := 30) [bi]
  · have h := hbad q
    refine xgo hG (mb := []) (head := 6) (P := fun _ _ _ _ _ => False) (fun _ _ _ _ _ q => q.elim) (pc := 0) (fun fu hfu => ?_)
    simp only [↓callX7_wide_0, ↓callX7_wide_1, ↓callX7_wide_2, ↓callX7_wide_3, ↓cg_2_3, ↓cg_5_4, cisa, ↓cp_5_4, ki_0, ki_1, ki_4, ↓vm_aload_n, ↓vm_astore_n, ↓vm_getfield, ↓vm_goto, ↓vm_iconst, ↓vm_ifCond_ne, ↓vm_iload, ↓vm_iload_n, ↓vm_invokestatic, ↓vm_invokevirtual, ↓vm_ireturn, ↓vm_istore, ↓vm_putfield, ↓xc_1, ↓xc_2, ↓xc_3, ↓tbX7_wide_0, ↓tbX7_wide_1, ↓tbX7_wide_2, ↓tbX7_wide_5, ↓tbX7_wide_6, ↓tbX7_wide_7, ↓tbX7_wide_8, ↓tbX7_wide_9, ↓tbX7_wide_12, ↓tbX7_wide_13, ↓tbX7_wide_16, ↓tbX7_wide_19, ↓tbX7_wide_22, ↓tbX7_wide_23, ↓tbX7_wide_26, ↓tbX7_wide_27, ↓tbX7_wide_30, ↓tbX7_wide_31, ↓tbX7_wide_34, ↓tbX7_wide_37, ↓tbX7_wide_39, ↓tbX7_wide_40, ↓tbX7_wide_43, ↓tbX7_wide_44, ↓tbX7_wide_47, ↓tbX7_wide_49, hfu, xstep0, xJ1_hit, xJ1_go, xJ2_hit1, xJ2_hit2, xJ2_go, ↓xif_t, ↓xif_f, seval, ↓xca_eq, ↓xre_l, ↓xre_r, xmask_t, xmask_f, xmask_nil, ↓xst_eq, xX_eq, eI_eq, eMc_eq, eMs_eq, eF_eq, eThr_eq, ↓xS1_mk, ↓xSI_mk, ↓xSR_mk, ↓xLI_0, ↓xLI_s, ↓xLR_0, ↓xLR_s, vRef_ref, vRef_null, vRef_rf, cat_int, cat_ref, cat_null, cat_rf, rf_some, rf_none, rf_null, rf_eq, rf_ref, ref_rf, ref_null, ref_ref, xOk_0, xOk_1, xOk_2r, xOk_2n, xOk_2f, vOpt_rf, vOpt_ref, vOpt_null, List.set_cons_zero, List.set_cons_succ, List.take_succ_cons, List.take_zero, List.drop_succ_cons, List.drop_zero, List.reverse_cons, List.reverse_nil, List.nil_append, List.cons_append, List.append_nil, List.length_cons, List.length_nil, List.map_cons, List.map_nil, List.sum_cons, List.sum_nil, Option.toList_some, Option.toList_none, xRecv_mk, true_and, and_true, true_implies, Nat.reduceAdd, Nat.reduceLeDiff, Nat.zero_le, Nat.le_refl, Nat.add_zero, Nat.zero_add, reduceIte, not_true_eq_false, not_false_eq_true, false_implies, and_self, implies_true, eq_self, Nat.reduceEqDiff, List.cons.injEq, xsn_1, xsn_2, false_and, and_false, or_false, false_or, or_true, true_or, xsn_3, xsn_4, cK_setI, cFi_setI, cFr_setI, cLen_setI, cRi_setI, ↓spwX7_needBoat, spcX7_needBoat, ↓spwX7_needWithin, spcX7_needWithin, ↓spwX4_size, spcX4_size, ↓spwX7_needState, spcX7_needState, h0, h1, h2, q]
    try simp only [xif_e]
    first | exact h | grind

def tbX7_go : List (Nat × xHint) := [(0, .aload_n 0, 0, 0, 0, []), (1, .iload_n 1, 1, 0, 0, []), (2, .invokevirtual 219, 0, 2, 8, []), (5, .astore_n 3, 3, 0, 0, []), (6, .iload_n 2, 2, 0, 0, []), (7, .invokestatic 128, 1, 1, 0, []), (10, .aload_n 3, 3, 0, 0, []), (11, .getfield 275, 2, 10, 0, []), (14, .istore 4, 4, 0, 0, []), (16, .aload_n 3, 3, 0, 0, []), (17, .aload_n 3, 3, 0, 0, []), (18, .getfield 238, 2, 6, 0, []), (21, .iload_n 2, 2, 0, 0, []), (22, .if_icmp .ne 7, 29, 0, 0, []), (25, .iconst (-1), 0, 0, 0, []), (26, .goto 4, 30, 0, 0, []), (29, .iload_n 2, 2, 0, 0, []), (30, .putfield 275, 2, 10, 0, []), (33, .aload_n 3, 3, 0, 0, []), (34, .aload_n 0, 0, 0, 0, []), (35, .getfield 193, 8, 7, 0, []), (38, .putfield 278, 2, 11, 0, []), (41, .iload 4, 4, 0, 0, []), (43, .ireturn, 0, 0, 0, [])]
def clX7_go : List (Instr × Nat × Nat × Nat) := [(.invokevirtual 219, 0, 2, 8), (.invokestatic 128, 1, 1, 0)]
def thX7_go : List (Nat × Nat) := []
theorem ckX7_go : tbX7_go.all (xRow RX7 cX7_go wsX7_go vwCl [2, 8] clX7_go thX7_go 5 (yX7_go.name == "<init>") (some .int)) = true := xRow_q 0xac04151601b5c100b42a2d1301b51c0400a7020700a01cee00b42d2d04361301b42d8000b81c4edb00b61b2a 44 (by decide +kernel) (by decide +kernel)
theorem usX7_go : xUse wsX7_go vwCl [2, 8] = true := xUse_g rfl (lw_good lwl_X7_go lwl_X10 (by decide +kernel)) (xUse_g rfl (lw_good lwl_X7_go lwl_X70 (by decide +kernel)) xUse_n)
theorem tbX7_go_0 {k : Instr → Nat → Nat → Nat → List Nat → Prop} : xse (xFind tbX7_go 0) k = k (.aload_n 0) 0 0 0 [] := rfl
theorem tbX7_go_1 {k : Instr → Nat → Nat → Nat → List Nat → Prop} : xse (xFind tbX7_go 1) k = k (.iload_n 1) 1 0 0 [] := rfl
theorem tbX7_go_2 {k : Instr → Nat → Nat → Nat → List Nat → Prop} : xse (xFind tbX7_go 2) k = k (.invokevirtual 219) 0 2 8 [] := rfl
theorem tbX7_go_5 {k : Instr → Nat → Nat → Nat → List Nat → Prop} : xse (xFind tbX7_go 5) k = k (.astore_n 3) 3 0 0 [] := rfl
theorem tbX7_go_6 {k : Instr → Nat → Nat → Nat → List Nat → Prop} : xse (xFind tbX7_go 6) k = k (.iload_n 2) 2 0 0 [] := rfl
theorem tbX7_go_7 {k : Instr → Nat → Nat → Nat → List Nat → Prop} : xse (xFind tbX7_go 7) k = k (.invokestatic 128) 1 1 0 [] := rfl
theorem tbX7_go_10 {k : Instr → Nat → Nat → Nat → List Nat → Prop} : xse (xFind tbX7_go 10) k = k (.aload_n 3) 3 0 0 [] := rfl
theorem tbX7_go_11 {k : Instr → Nat → Nat → Nat → List Nat → Prop} : xse (xFind tbX7_go 11) k = k (.getfield 275) 2 10 0 [] := rfl
theorem tbX7_go_14 {k : Instr → Nat → Nat → Nat → List Nat → Prop} : xse (xFind tbX7_go 14) k = k (.istore 4) 4 0 0 [] := rfl
theorem tbX7_go_16 {k : Instr → Nat → Nat → Nat → List Nat → Prop} : xse (xFind tbX7_go 16) k = k (.aload_n 3) 3 0 0 [] := rfl
theorem tbX7_go_17 {k : Instr → Nat → Nat → Nat → List Nat → Prop} : xse (xFind tbX7_go 17) k = k (.aload_n 3) 3 0 0 [] := rfl
theorem tbX7_go_18 {k : Instr → Nat → Nat → Nat → List Nat → Prop} : xse (xFind tbX7_go 18) k = k (.getfield 238) 2 6 0 [] := rfl
theorem tbX7_go_21 {k : Instr → Nat → Nat → Nat → List Nat → Prop} : xse (xFind tbX7_go 21) k = k (.iload_n 2) 2 0 0 [] := rfl
theorem tbX7_go_22 {k : Instr → Nat → Nat → Nat → List Nat → Prop} : xse (xFind tbX7_go 22) k = k (.if_icmp .ne 7) 29 0 0 [] := rfl
theorem tbX7_go_25 {k : Instr → Nat → Nat → Nat → List Nat → Prop} : xse (xFind tbX7_go 25) k = k (.iconst (-1)) 0 0 0 [] := rfl
theorem tbX7_go_26 {k : Instr → Nat → Nat → Nat → List Nat → Prop} : xse (xFind tbX7_go 26) k = k (.goto 4) 30 0 0 [] := rfl
theorem tbX7_go_29 {k : Instr → Nat → Nat → Nat → List Nat → Prop} : xse (xFind tbX7_go 29) k = k (.iload_n 2) 2 0 0 [] := rfl
theorem tbX7_go_30 {k : Instr → Nat → Nat → Nat → List Nat → Prop} : xse (xFind tbX7_go 30) k = k (.putfield 275) 2 10 0 [] := rfl
theorem tbX7_go_33 {k : Instr → Nat → Nat → Nat → List Nat → Prop} : xse (xFind tbX7_go 33) k = k (.aload_n 3) 3 0 0 [] := rfl
theorem tbX7_go_34 {k : Instr → Nat → Nat → Nat → List Nat → Prop} : xse (xFind tbX7_go 34) k = k (.aload_n 0) 0 0 0 [] := rfl
theorem tbX7_go_35 {k : Instr → Nat → Nat → Nat → List Nat → Prop} : xse (xFind tbX7_go 35) k = k (.getfield 193) 8 7 0 [] := rfl
theorem tbX7_go_38 {k : Instr → Nat → Nat → Nat → List Nat → Prop} : xse (xFind tbX7_go 38) k = k (.putfield 278) 2 11 0 [] := rfl
theorem tbX7_go_41 {k : Instr → Nat → Nat → Nat → List Nat → Prop} : xse (xFind tbX7_go 41) k = k (.iload 4) 4 0 0 [] := rfl
theorem tbX7_go_43 {k : Instr → Nat → Nat → Nat → List Nat → Prop} : xse (xFind tbX7_go 43) k = k (.ireturn) 0 0 0 [] := rfl

def spX7_go (W9 : xWd) : xSp cS := (fun av S => (2, 12), fun av S K => ∃ (a : Nat) (b : Int32) (p : Int32), av = [.ref a, .int b, .int p] ∧ (cK S a = 9 ∧ (cIn S a 804 1 ∧ lAll S (cRf S a 804) 3) ∧ (¬ (0 ≤ b ∧ b < cFi S (cRf S a 804) 2) → K (rX "java/lang/IndexOutOfBoundsException") S) ∧ (0 ≤ b ∧ b < cFi S (cRf S a 804) 2 → (¬ (0 ≤ p ∧ p < 8) → K (rX "java/lang/IndexOutOfBoundsException") S) ∧ ((0 ≤ p ∧ p < 8) → K (rI (cFi S (lG S (cRf S a 804) b.toNatClampNeg) 210)) (cSetI (cSetI S (lG S (cRf S a 804) b.toNatClampNeg) 210 (if cFi S (lG S (cRf S a 804) b.toNatClampNeg) 206 = p then -1 else p)) (lG S (cRf S a 804) b.toNatClampNeg) 211 (cFi S a 807))))))
theorem spcX7_go {av : List Value} {S : cS} {W9 : xWd} : (spX7_go W9).1 av S = (2, 12) := rfl
theorem spwX7_go {S : cS} {W9 : xWd} {K : xRes → cS → Prop} {a : Nat} {b : Int32} {p : Int32} : (spX7_go W9).2 [.ref a, .int b, .int p] S K = (cK S a = 9 ∧ (cIn S a 804 1 ∧ lAll S (cRf S a 804) 3) ∧ (¬ (0 ≤ b ∧ b < cFi S (cRf S a 804) 2) → K (rX "java/lang/IndexOutOfBoundsException") S) ∧ (0 ≤ b ∧ b < cFi S (cRf S a 804) 2 → (¬ (0 ≤ p ∧ p < 8) → K (rX "java/lang/IndexOutOfBoundsException") S) ∧ ((0 ≤ p ∧ p < 8) → K (rI (cFi S (lG S (cRf S a 804) b.toNatClampNeg) 210)) (cSetI (cSetI S (lG S (cRf S a 804) b.toNatClampNeg) 210 (if cFi S (lG S (cRf S a 804) b.toNatClampNeg) 206 = p then -1 else p)) (lG S (cRf S a 804) b.toNatClampNeg) 211 (cFi S a 807))))) :=
  propext ⟨fun h => by
    simp only [spX7_go] at h
    obtain ⟨_, _, _, e, h⟩ := h
    simp only [List.cons.injEq, Value.int.injEq, Value.ref.injEq, rf_eq, and_true, true_and] at e
    obtain ⟨rfl, rfl, rfl⟩ := e
    exact h, fun h => ⟨_, _, _, rfl, h⟩⟩

def callX7_go (W9 : xWd) : Nat → Option (xSp cS) := fun n => match n with | 0 => some (spX7_needBoat W9) | 1 => some (spX7_needPoint W9) | _ => none

theorem callX7_go_0 {W9 : xWd} {k : xSp cS → Prop} : xcs (callX7_go W9 0) k = k (spX7_needBoat W9) := rfl

theorem callX7_go_1 {W9 : xWd} {k : xSp cS → Prop} : xcs (callX7_go W9 1) k = k (spX7_needPoint W9) := rfl

theorem crX7_go (l : Launch) (hl : l.stackTraces = false) (W9 : xWd) : xCallsOK l W9 (cI) (callX7_go W9) clX7_go RX7 wsX7_go 8 131 5 := by
  intro E A p e R s m args below meth c hI hF hL X
  exact List.forall_mem_cons.mpr ⟨⟨_, rfl, xCR_V X (by rw [hI]; exact (semX7_needBoat l hl W9)) gX7_go_X7_needBoat rfl rfl (by decide +kernel) (by rw [hF, hL]; decide)⟩,
    List.forall_mem_cons.mpr ⟨⟨_, rfl, xCR_S X (by rw [hI]; exact (semX7_needPoint l hl W9)) gX7_go_X7_needPoint rfl (by decide +kernel) (by rw [hF, hL]; decide)⟩,
    fun _ h => nomatch h⟩⟩

set_option maxHeartbeats 4000000 in
set_option maxRecDepth 20000 in
theorem semX7_go (l : Launch) (hl : l.stackTraces = false) (W9 : xWd) : xSem l W9 (cI) yX7_go wsX7_go 8 131 (spX7_go W9) := by
  refine xSem_of (call := callX7_go W9) (thrf := fun _ => "") cI_law (by decide +kernel) rfl ckX7_go usX7_go (crX7_go l hl W9) xThrOK_nil ?_ ?_
  · intro av S KF h
    obtain ⟨a, b, p, rfl, h⟩ := h
    exact ⟨by intro v hv; simp only [List.mem_cons, List.not_mem_nil, or_false] at hv; rcases hv with rfl | rfl | rfl <;> first | rfl | exact cat_rf, Nat.le_of_ble_eq_true rfl⟩
  intro av S KF h G hG
  obtain ⟨a, b, p, rfl, h⟩ := h
  rw [show (spX7_go W9).1 _ S = _ from spcX7_go] at hG
  try dsimp only at hG
  change G 0 [some (.ref a), some (.int b), some (.int p), none, none] [] S 0 0
  obtain ⟨h0, ⟨h1, h2⟩, hbad, hok⟩ := h

  by_cases q : 0 ≤ b ∧ b < cFi S (cRf S a 804) 2
  · have hz := hok q
    obtain ⟨g1, g2⟩ := lAll_at h2 q.1 q.2
    have hne2 : (a = lG S (cRf S a 804) b.toNatClampNeg) = False := eq_false (fun z => by rw [← z] at g2; omega)
    generalize hb0 : (lG S (cRf S a 804) b.toNatClampNeg) = g at *
    refine xgo0 hG (fun fu hfu => ?_)
    simp only [↓callX7_go_0, ↓callX7_go_1, ↓cg_2_10, ↓cg_2_6, ↓cg_8_7, cisa, ↓cp_2_10, ↓cp_2_11, ki_m1, ↓vm_aload_n, ↓vm_astore_n, ↓vm_getfield, ↓vm_goto, ↓vm_iconst, ↓vm_if_icmp_ne, ↓vm_iload, ↓vm_iload_n, ↓vm_invokestatic, ↓vm_invokevirtual, ↓vm_ireturn, ↓vm_istore, ↓vm_putfield, ↓xc_1, ↓xc_2, ↓tbX7_go_0, ↓tbX7_go_1, ↓tbX7_go_2, ↓tbX7_go_5, ↓tbX7_go_6, ↓tbX7_go_7, ↓tbX7_go_10, ↓tbX7_go_11, ↓tbX7_go_14, ↓tbX7_go_16, ↓tbX7_go_17, ↓tbX7_go_18, ↓tbX7_go_21, ↓tbX7_go_22, ↓tbX7_go_25, ↓tbX7_go_26, ↓tbX7_go_29, ↓tbX7_go_30, ↓tbX7_go_33, ↓tbX7_go_34, ↓tbX7_go_35, ↓tbX7_go_38, ↓tbX7_go_41, ↓tbX7_go_43, hfu, xstep0, xJ1_hit, xJ1_go, xJ2_hit1, xJ2_hit2, xJ2_go, ↓xif_t, ↓xif_f, seval, ↓xca_eq, ↓xre_l, ↓xre_r, xmask_t, xmask_f, xmask_nil, ↓xst_eq, xX_eq, eI_eq, eMc_eq, eMs_eq, eF_eq, eThr_eq, ↓xS1_mk, ↓xSI_mk, ↓xSR_mk, ↓xLI_0, ↓xLI_s, ↓xLR_0, ↓xLR_s, vRef_ref, vRef_null, vRef_rf, cat_int, cat_ref, cat_null, cat_rf, rf_some, rf_none, rf_null, rf_eq, rf_ref, ref_rf, ref_null, ref_ref, xOk_0, xOk_1, xOk_2r, xOk_2n, xOk_2f, vOpt_rf, vOpt_ref, vOpt_null, List.set_cons_zero, List.set_cons_succ, List.take_succ_cons, List.take_zero, List.drop_succ_cons, List.drop_zero, List.reverse_cons, List.reverse_nil, List.nil_append, List.cons_append, List.append_nil, List.length_cons, List.length_nil, List.map_cons, List.map_nil, List.sum_cons, List.sum_nil, Option.toList_some, Option.toList_none, xRecv_mk, true_and, and_true, true_implies, Nat.reduceAdd, Nat.reduceLeDiff, Nat.zero_le, Nat.le_refl, Nat.add_zero, Nat.zero_add, reduceIte, not_true_eq_false, not_false_eq_true, false_implies, and_self, implies_true, eq_self, Nat.reduceEqDiff, List.cons.injEq, xsn_1, xsn_2, false_and, and_false, or_false, false_or, or_true, true_or, xsn_3, xsn_4, cK_setI, cFi_setI, cFr_setI, cLen_setI, cRi_setI, ↓spwX7_needBoat, spcX7_needBoat, ↓spwX7_needPoint, spcX7_needPoint, h0, h1, h2, q, hb0, g2, hne2]
    try simp only [xif_e]
    repeat' (first | with_reducible apply And.intro | with_reducible intro _)
    all_goals grind (splits := 30) [bi]
  · have h := hbad q
    refine xgo hG (mb := []) (head := 6) (P := fun _ _ _ _ _ => False) (fun _ _ _ _ _ q => q.elim) (pc := 0) (fun fu hfu => ?_)
    simp only [↓callX7_go_0, ↓callX7_go_1, ↓cg_2_10, ↓cg_2_6, ↓cg_8_7, cisa, ↓cp_2_10, ↓cp_2_11, ki_m1, ↓vm_aload_n, ↓vm_astore_n, ↓vm_getfield, ↓vm_goto, ↓vm_iconst, ↓vm_if_icmp_ne, ↓vm_iload, ↓vm_iload_n, ↓vm_invokestatic, ↓vm_invokevirtual, ↓vm_ireturn, ↓vm_istore, ↓vm_putfield, ↓xc_1, ↓xc_2, ↓tbX7_go_0, ↓tbX7_go_1, ↓tbX7_go_2, ↓tbX7_go_5, ↓tbX7_go_6, ↓tbX7_go_7, ↓tbX7_go_10, ↓tbX7_go_11, ↓tbX7_go_14, ↓tbX7_go_16, ↓tbX7_go_17, ↓tbX7_go_18, ↓tbX7_go_21, ↓tbX7_go_22, ↓tbX7_go_25, ↓tbX7_go_26, ↓tbX7_go_29, ↓tbX7_go_30, ↓tbX7_go_33, ↓tbX7_go_34, ↓tbX7_go_35, ↓tbX7_go_38, ↓tbX7_go_41, ↓tbX7_go_43, hfu, xstep0, xJ1_hit, xJ1_go, xJ2_hit1, xJ2_hit2, xJ2_go, ↓xif_t, ↓xif_f, seval, ↓xca_eq, ↓xre_l, ↓xre_r, xmask_t, xmask_f, xmask_nil, ↓xst_eq, xX_eq, eI_eq, eMc_eq, eMs_eq, eF_eq, eThr_eq, ↓xS1_mk, ↓xSI_mk, ↓xSR_mk, ↓xLI_0, ↓xLI_s, ↓xLR_0, ↓xLR_s, vRef_ref, vRef_null, vRef_rf, cat_int, cat_ref, cat_null, cat_rf, rf_some, rf_none, rf_null, rf_eq, rf_ref, ref_rf, ref_null, ref_ref, xOk_0, xOk_1, xOk_2r, xOk_2n, xOk_2f, vOpt_rf, vOpt_ref, vOpt_null, List.set_cons_zero, List.set_cons_succ, List.take_succ_cons, List.take_zero, List.drop_succ_cons, List.drop_zero, List.reverse_cons, List.reverse_nil, List.nil_append, List.cons_append, List.append_nil, List.length_cons, List.length_nil, List.map_cons, List.map_nil, List.sum_cons, List.sum_nil, Option.toList_some, Option.toList_none, xRecv_mk, true_and, and_true, true_implies, Nat.reduceAdd, Nat.reduceLeDiff, Nat.zero_le, Nat.le_refl, Nat.add_zero, Nat.zero_add, reduceIte, not_true_eq_false, not_false_eq_true, false_implies, and_self, implies_true, eq_self, Nat.reduceEqDiff, List.cons.injEq, xsn_1, xsn_2, false_and, and_false, or_false, false_or, or_true, true_or, xsn_3, xsn_4, cK_setI, cFi_setI, cFr_setI, cLen_setI, cRi_setI, ↓spwX7_needBoat, spcX7_needBoat, ↓spwX7_needPoint, spcX7_needPoint, h0, h1, h2, q]
    try simp only [xif_e]
    first | exact h | grind
