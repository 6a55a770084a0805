/-! The class: what lets a boat go, over its objects. -/
def cBz (S : cS) (L : Nat) (x : Int32) : Nat → Bool
  | 0 => false
  | k + 1 => cBz S L x k || decide (cFi S (lG S L k) 207 = x)
theorem cBz_t {S : cS} {L : Nat} {x : Int32} {k : Nat} (h : cFi S (lG S L k) 207 = x) : ∀ n, k < n → cBz S L x n = true
  | 0, hk => by omega
  | n + 1, hk => by
    show (cBz S L x n || decide (cFi S (lG S L n) 207 = x)) = true
    by_cases e : k = n
    · subst e
      rw [decide_eq_true h]
      simp
    · rw [cBz_t h n (by omega)]
      rfl

def tbX7_isBusy : List (Nat × xHint) := [(0, .iconst 0, 0, 0, 0, []), (1, .istore_n 2, 2, 0, 0, []), (2, .iload_n 2, 2, 0, 0, []), (3, .aload_n 0, 0, 0, 0, []), (4, .getfield 25, 8, 4, 2, []), (7, .invokevirtual 108, 0, 1, 0, []), (10, .if_icmp .ge 32, 42, 0, 0, []), (13, .aload_n 0, 0, 0, 0, []), (14, .getfield 25, 8, 4, 2, []), (17, .iload_n 2, 2, 0, 0, []), (18, .invokevirtual 312, 1, 2, 0, []), (21, .checkcast 210, 2, 0, 0, []), (24, .getfield 332, 2, 7, 0, []), (27, .aload_n 1, 1, 0, 0, []), (28, .getfield 463, 6, 0, 0, []), (31, .if_icmp .ne 5, 36, 0, 0, []), (34, .iconst 1, 0, 0, 0, []), (35, .ireturn, 1, 0, 0, []), (36, .iinc 2 1, 2, 0, 0, []), (39, .goto (-37), 2, 0, 0, []), (42, .iconst 0, 0, 0, 0, []), (43, .ireturn, 1, 0, 0, [])]
def clX7_isBusy : List (Instr × Nat × Nat × Nat) := [(.invokevirtual 108, 0, 1, 0), (.invokevirtual 312, 1, 2, 0)]
def thX7_isBusy : List (Nat × Nat) := []
theorem ckX7_isBusy : tbX7_isBusy.all (xRow RX7 cX7_isBusy wsX7_isBusy vwCl [2, 6, 8] clX7_isBusy thX7_isBusy 3 (yX7_isBusy.name == "<init>") (some .boolean)) = true := xRow_q 0xac03dbffa7010284ac040500a0cf01b42b4c01b4d200c03801b61c1900b42a2000a26c00b61900b42a1c3d03 44 (by decide +kernel) (by decide +kernel)
theorem usX7_isBusy : xUse wsX7_isBusy vwCl [2, 6, 8] = true := xUse_g rfl (lw_good lwl_X7_isBusy lwl_X10 (by decide +kernel)) (xUse_g rfl (lw_good lwl_X7_isBusy lwl_X50 (by decide +kernel)) (xUse_g rfl (lw_good lwl_X7_isBusy lwl_X70 (by decide +kernel)) xUse_n))
theorem tbX7_isBusy_0 {k : Instr → Nat → Nat → Nat → List Nat → Prop} : xse (xFind tbX7_isBusy 0) k = k (.iconst 0) 0 0 0 [] := rfl
theorem tbX7_isBusy_1 {k : Instr → Nat → Nat → Nat → List Nat → Prop} : xse (xFind tbX7_isBusy 1) k = k (.istore_n 2) 2 0 0 [] := rfl
theorem tbX7_isBusy_2 {k : Instr → Nat → Nat → Nat → List Nat → Prop} : xse (xFind tbX7_isBusy 2) k = k (.iload_n 2) 2 0 0 [] := rfl
theorem tbX7_isBusy_3 {k : Instr → Nat → Nat → Nat → List Nat → Prop} : xse (xFind tbX7_isBusy 3) k = k (.aload_n 0) 0 0 0 [] := rfl
theorem tbX7_isBusy_4 {k : Instr → Nat → Nat → Nat → List Nat → Prop} : xse (xFind tbX7_isBusy 4) k = k (.getfield 25) 8 4 2 [] := rfl
theorem tbX7_isBusy_7 {k : Instr → Nat → Nat → Nat → List Nat → Prop} : xse (xFind tbX7_isBusy 7) k = k (.invokevirtual 108) 0 1 0 [] := rfl
theorem tbX7_isBusy_10 {k : Instr → Nat → Nat → Nat → List Nat → Prop} : xse (xFind tbX7_isBusy 10) k = k (.if_icmp .ge 32) 42 0 0 [] := rfl
theorem tbX7_isBusy_13 {k : Instr → Nat → Nat → Nat → List Nat → Prop} : xse (xFind tbX7_isBusy 13) k = k (.aload_n 0) 0 0 0 [] := rfl
theorem tbX7_isBusy_14 {k : Instr → Nat → Nat → Nat → List Nat → Prop} : xse (xFind tbX7_isBusy 14) k = k (.getfield 25) 8 4 2 [] := rfl
theorem tbX7_isBusy_17 {k : Instr → Nat → Nat → Nat → List Nat → Prop} : xse (xFind tbX7_isBusy 17) k = k (.iload_n 2) 2 0 0 [] := rfl
theorem tbX7_isBusy_18 {k : Instr → Nat → Nat → Nat → List Nat → Prop} : xse (xFind tbX7_isBusy 18) k = k (.invokevirtual 312) 1 2 0 [] := rfl
theorem tbX7_isBusy_21 {k : Instr → Nat → Nat → Nat → List Nat → Prop} : xse (xFind tbX7_isBusy 21) k = k (.checkcast 210) 2 0 0 [] := rfl
theorem tbX7_isBusy_24 {k : Instr → Nat → Nat → Nat → List Nat → Prop} : xse (xFind tbX7_isBusy 24) k = k (.getfield 332) 2 7 0 [] := rfl
theorem tbX7_isBusy_27 {k : Instr → Nat → Nat → Nat → List Nat → Prop} : xse (xFind tbX7_isBusy 27) k = k (.aload_n 1) 1 0 0 [] := rfl
theorem tbX7_isBusy_28 {k : Instr → Nat → Nat → Nat → List Nat → Prop} : xse (xFind tbX7_isBusy 28) k = k (.getfield 463) 6 0 0 [] := rfl
theorem tbX7_isBusy_31 {k : Instr → Nat → Nat → Nat → List Nat → Prop} : xse (xFind tbX7_isBusy 31) k = k (.if_icmp .ne 5) 36 0 0 [] := rfl
theorem tbX7_isBusy_34 {k : Instr → Nat → Nat → Nat → List Nat → Prop} : xse (xFind tbX7_isBusy 34) k = k (.iconst 1) 0 0 0 [] := rfl
theorem tbX7_isBusy_35 {k : Instr → Nat → Nat → Nat → List Nat → Prop} : xse (xFind tbX7_isBusy 35) k = k (.ireturn) 1 0 0 [] := rfl
theorem tbX7_isBusy_36 {k : Instr → Nat → Nat → Nat → List Nat → Prop} : xse (xFind tbX7_isBusy 36) k = k (.iinc 2 1) 2 0 0 [] := rfl
theorem tbX7_isBusy_39 {k : Instr → Nat → Nat → Nat → List Nat → Prop} : xse (xFind tbX7_isBusy 39) k = k (.goto (-37)) 2 0 0 [] := rfl
theorem tbX7_isBusy_42 {k : Instr → Nat → Nat → Nat → List Nat → Prop} : xse (xFind tbX7_isBusy 42) k = k (.iconst 0) 0 0 0 [] := rfl
theorem tbX7_isBusy_43 {k : Instr → Nat → Nat → Nat → List Nat → Prop} : xse (xFind tbX7_isBusy 43) k = k (.ireturn) 1 0 0 [] := rfl

def spX7_isBusy (W9 : xWd) : xSp cS := (fun av S => (0, 0), fun av S K => ∃ (a : Nat) (s : Nat), av = [.ref a, .ref s] ∧ (cK S a = 9 ∧ cIn S a 804 1 ∧ lAll S (cRf S a 804) 3 ∧ cK S s = 7 ∧ K (rI (bi (cBz S (cRf S a 804) (cFi S s 600) (lCn S (cRf S a 804)) = true))) S))
theorem spcX7_isBusy {av : List Value} {S : cS} {W9 : xWd} : (spX7_isBusy W9).1 av S = (0, 0) := rfl
theorem spwX7_isBusy {S : cS} {W9 : xWd} {K : xRes → cS → Prop} {a : Nat} {s : Nat} : (spX7_isBusy W9).2 [.ref a, .ref s] S K = (cK S a = 9 ∧ cIn S a 804 1 ∧ lAll S (cRf S a 804) 3 ∧ cK S s = 7 ∧ K (rI (bi (cBz S (cRf S a 804) (cFi S s 600) (lCn S (cRf S a 804)) = true))) S) :=
  propext ⟨fun h => by
    simp only [spX7_isBusy] at h
    obtain ⟨_, _, e, h⟩ := h
    simp only [List.cons.injEq, Value.int.injEq, Value.ref.injEq, rf_eq, and_true, true_and] at e
    obtain ⟨rfl, rfl⟩ := e
    exact h, fun h => ⟨_, _, rfl, h⟩⟩

def callX7_isBusy (W9 : xWd) : Nat → Option (xSp cS) := fun n => match n with | 0 => some (spJx4a65c_size_8abf5 W9) | 1 => some (spJx4a65c_get_915e3 W9) | _ => none

theorem callX7_isBusy_0 {W9 : xWd} {k : xSp cS → Prop} : xcs (callX7_isBusy W9 0) k = k (spJx4a65c_size_8abf5 W9) := rfl

theorem callX7_isBusy_1 {W9 : xWd} {k : xSp cS → Prop} : xcs (callX7_isBusy W9 1) k = k (spJx4a65c_get_915e3 W9) := rfl

theorem crX7_isBusy (l : Launch) (hl : l.stackTraces = false) (W9 : xWd) : xCallsOK l W9 (cI) (callX7_isBusy W9) clX7_isBusy RX7 wsX7_isBusy 3 64 3 := by
  intro E A p e R s m args below meth c hI hF hL X
  exact List.forall_mem_cons.mpr ⟨⟨_, rfl, xCR_V X (by rw [hI]; exact (semJx4a65c_size_8abf5 l hl W9)) gX7_isBusy_Jx4a65c_size_8abf5 rfl rfl (by decide +kernel) (by rw [hF, hL]; decide)⟩,
    List.forall_mem_cons.mpr ⟨⟨_, rfl, xCR_V X (by rw [hI]; exact (semJx4a65c_get_915e3 l hl W9)) gX7_isBusy_Jx4a65c_get_915e3 rfl rfl (by decide +kernel) (by rw [hF, hL]; decide)⟩,
    fun _ h => nomatch h⟩⟩

set_option maxHeartbeats 4000000 in
set_option maxRecDepth 20000 in
theorem semX7_isBusy (l : Launch) (hl : l.stackTraces = false) (W9 : xWd) : xSem l W9 (cI) yX7_isBusy wsX7_isBusy 3 64 (spX7_isBusy W9) := by
  refine xSem_of (call := callX7_isBusy W9) (thrf := fun _ => "") cI_law (by decide +kernel) rfl ckX7_isBusy usX7_isBusy (crX7_isBusy l hl W9) xThrOK_nil ?_ ?_
  · intro av S KF h
    obtain ⟨a, s, rfl, h⟩ := h
    exact ⟨by intro v hv; simp only [List.mem_cons, List.not_mem_nil, or_false] at hv; rcases hv with rfl | rfl <;> first | rfl | exact cat_rf, Nat.le_of_ble_eq_true rfl⟩
  intro av S KF h G hG
  obtain ⟨a, s, rfl, h⟩ := h
  rw [show (spX7_isBusy W9).1 _ S = _ from spcX7_isBusy] at hG
  try dsimp only at hG
  change G 0 [some (.ref a), some (.ref s), none] [] S 0 0
  obtain ⟨h0, ⟨h1, h2⟩, h3, h4, h⟩ := h

  obtain ⟨f1, f2, f3, f4⟩ := lAll_facts h3
  generalize hL : cRf S a 804 = L at *
  have loop := xloop hG 2 [true, true, true] (fun j lv st S2 cs ss => lv = [some (.ref a), some (.ref s), some (.int (nI j))] ∧ st = [] ∧ S = S2 ∧ cs = 0 ∧ ss = 0 ∧ cBz S L (cFi S s 600) j = false) (lCn S L) (by
      rintro j hj lv st S2 cs ss ⟨rfl, rfl, rfl, rfl, rfl, hd⟩ fu hfu
      obtain ⟨g1, g2⟩ := h3.2 _ hj
      have e0 := ge_nI hj (show lCn S L < 1000 by omega)
      have e2 := lt0_nI hj (show lCn S L < 1000 by omega)
      have hstep : cBz S L (cFi S s 600) (j + 1) = (cBz S L (cFi S s 600) j || decide (cFi S (lG S L j) 207 = cFi S s 600)) := rfl
      by_cases c : cFi S (lG S L j) 207 = cFi S s 600
      · have z := cBz_t c _ hj
        rw [z] at h
        have h : KF (rI 1) S := h
        simp only [↓callX7_isBusy_0, ↓callX7_isBusy_1, ↓cg_2_7, ↓cg_6_0, ↓cg_8_4, cisa, ki_0, ki_1, ↓vm_aload_n, ↓vm_checkcast, ↓vm_getfield, ↓vm_goto, ↓vm_iconst, ↓vm_if_icmp_ge, ↓vm_if_icmp_ne, ↓vm_iinc, ↓vm_iload_n, ↓vm_invokevirtual, ↓vm_ireturn, ↓vm_istore_n, ↓xc_1, ↓xc_2, ↓tbX7_isBusy_0, ↓tbX7_isBusy_1, ↓tbX7_isBusy_2, ↓tbX7_isBusy_3, ↓tbX7_isBusy_4, ↓tbX7_isBusy_7, ↓tbX7_isBusy_10, ↓tbX7_isBusy_13, ↓tbX7_isBusy_14, ↓tbX7_isBusy_17, ↓tbX7_isBusy_18, ↓tbX7_isBusy_21, ↓tbX7_isBusy_24, ↓tbX7_isBusy_27, ↓tbX7_isBusy_28, ↓tbX7_isBusy_31, ↓tbX7_isBusy_34, ↓tbX7_isBusy_35, ↓tbX7_isBusy_36, ↓tbX7_isBusy_39, ↓tbX7_isBusy_42, ↓tbX7_isBusy_43, hfu, xstep0, xJ1_hit, xJ1_go, xJ2_hit1, xJ2_hit2, xJ2_go, ↓xif_t, ↓xif_f, seval, ↓xca_eq, ↓xre_l, ↓xre_r, xmask_t, xmask_f, xmask_nil, ↓xst_eq, xX_eq, eI_eq, eMc_eq, eMs_eq, eF_eq, eThr_eq, ↓xS1_mk, ↓xSI_mk, ↓xSR_mk, ↓xLI_0, ↓xLI_s, ↓xLR_0, ↓xLR_s, vRef_ref, vRef_null, vRef_rf, cat_int, cat_ref, cat_null, cat_rf, rf_some, rf_none, rf_null, rf_eq, rf_ref, ref_rf, ref_null, ref_ref, xOk_0, xOk_1, xOk_2r, xOk_2n, xOk_2f, vOpt_rf, vOpt_ref, vOpt_null, List.set_cons_zero, List.set_cons_succ, List.take_succ_cons, List.take_zero, List.drop_succ_cons, List.drop_zero, List.reverse_cons, List.reverse_nil, List.nil_append, List.cons_append, List.append_nil, List.length_cons, List.length_nil, List.map_cons, List.map_nil, List.sum_cons, List.sum_nil, Option.toList_some, Option.toList_none, xRecv_mk, true_and, and_true, true_implies, Nat.reduceAdd, Nat.reduceLeDiff, Nat.zero_le, Nat.le_refl, Nat.add_zero, Nat.zero_add, reduceIte, not_true_eq_false, not_false_eq_true, false_implies, and_self, implies_true, eq_self, Nat.reduceEqDiff, List.cons.injEq, xsn_1, xsn_2, false_and, and_false, or_false, false_or, or_true, true_or, xsn_3, xsn_4, ↓spwJx4a65c_size_8abf5, spcJx4a65c_size_8abf5, ↓spwJx4a65c_get_915e3, spcJx4a65c_get_915e3, h0, h1, hL, h4, f1, f2, f3, e0, pos_nI (show j < 1000 by omega), e2, ix_nI (show j < 1000 by omega), g1, g2, c]
        try simp only [xif_e]
        first | exact h | exact ⟨Or.inr trivial, h⟩
      · rw [hd, decide_eq_false c] at hstep
        simp only [↓callX7_isBusy_0, ↓callX7_isBusy_1, ↓cg_2_7, ↓cg_6_0, ↓cg_8_4, cisa, ki_0, ki_1, ↓vm_aload_n, ↓vm_checkcast, ↓vm_getfield, ↓vm_goto, ↓vm_iconst, ↓vm_if_icmp_ge, ↓vm_if_icmp_ne, ↓vm_iinc, ↓vm_iload_n, ↓vm_invokevirtual, ↓vm_ireturn, ↓vm_istore_n, ↓xc_1, ↓xc_2, ↓tbX7_isBusy_0, ↓tbX7_isBusy_1, ↓tbX7_isBusy_2, ↓tbX7_isBusy_3, ↓tbX7_isBusy_4, ↓tbX7_isBusy_7, ↓tbX7_isBusy_10, ↓tbX7_isBusy_13, ↓tbX7_isBusy_14, ↓tbX7_isBusy_17, ↓tbX7_isBusy_18, ↓tbX7_isBusy_21, ↓tbX7_isBusy_24, ↓tbX7_isBusy_27, ↓tbX7_isBusy_28, ↓tbX7_isBusy_31, ↓tbX7_isBusy_34, ↓tbX7_isBusy_35, ↓tbX7_isBusy_36, ↓tbX7_isBusy_39, ↓tbX7_isBusy_42, ↓tbX7_isBusy_43, hfu, xstep0, xJ1_hit, xJ1_go, xJ2_hit1, xJ2_hit2, xJ2_go, ↓xif_t, ↓xif_f, seval, ↓xca_eq, ↓xre_l, ↓xre_r, xmask_t, xmask_f, xmask_nil, ↓xst_eq, xX_eq, eI_eq, eMc_eq, eMs_eq, eF_eq, eThr_eq, ↓xS1_mk, ↓xSI_mk, ↓xSR_mk, ↓xLI_0, ↓xLI_s, ↓xLR_0, ↓xLR_s, vRef_ref, vRef_null, vRef_rf, cat_int, cat_ref, cat_null, cat_rf, rf_some, rf_none, rf_null, rf_eq, rf_ref, ref_rf, ref_null, ref_ref, xOk_0, xOk_1, xOk_2r, xOk_2n, xOk_2f, vOpt_rf, vOpt_ref, vOpt_null, List.set_cons_zero, List.set_cons_succ, List.take_succ_cons, List.take_zero, List.drop_succ_cons, List.drop_zero, List.reverse_cons, List.reverse_nil, List.nil_append, List.cons_append, List.append_nil, List.length_cons, List.length_nil, List.map_cons, List.map_nil, List.sum_cons, List.sum_nil, Option.toList_some, Option.toList_none, xRecv_mk, true_and, and_true, true_implies, Nat.reduceAdd, Nat.reduceLeDiff, Nat.zero_le, Nat.le_refl, Nat.add_zero, Nat.zero_add, reduceIte, not_true_eq_false, not_false_eq_true, false_implies, and_self, implies_true, eq_self, Nat.reduceEqDiff, List.cons.injEq, xsn_1, xsn_2, false_and, and_false, or_false, false_or, or_true, true_or, xsn_3, xsn_4, ↓spwJx4a65c_size_8abf5, spcJx4a65c_size_8abf5, ↓spwJx4a65c_get_915e3, spcJx4a65c_get_915e3, h0, h1, hL, h4, f1, f2, f3, e0, pos_nI (show j < 1000 by omega), e2, ix_nI (show j < 1000 by omega), g1, g2, c, nI1, hstep]
        try simp only [xif_e]
        first | done | rfl) (by
      rintro lv st S2 cs ss ⟨rfl, rfl, rfl, rfl, rfl, hd⟩ fu hfu
      rw [hd] at h
      have h : KF (rI 0) S := h
      simp only [↓callX7_isBusy_0, ↓callX7_isBusy_1, ↓cg_2_7, ↓cg_6_0, ↓cg_8_4, cisa, ki_0, ki_1, ↓vm_aload_n, ↓vm_checkcast, ↓vm_getfield, ↓vm_goto, ↓vm_iconst, ↓vm_if_icmp_ge, ↓vm_if_icmp_ne, ↓vm_iinc, ↓vm_iload_n, ↓vm_invokevirtual, ↓vm_ireturn, ↓vm_istore_n, ↓xc_1, ↓xc_2, ↓tbX7_isBusy_0, ↓tbX7_isBusy_1, ↓tbX7_isBusy_2, ↓tbX7_isBusy_3, ↓tbX7_isBusy_4, ↓tbX7_isBusy_7, ↓tbX7_isBusy_10, ↓tbX7_isBusy_13, ↓tbX7_isBusy_14, ↓tbX7_isBusy_17, ↓tbX7_isBusy_18, ↓tbX7_isBusy_21, ↓tbX7_isBusy_24, ↓tbX7_isBusy_27, ↓tbX7_isBusy_28, ↓tbX7_isBusy_31, ↓tbX7_isBusy_34, ↓tbX7_isBusy_35, ↓tbX7_isBusy_36, ↓tbX7_isBusy_39, ↓tbX7_isBusy_42, ↓tbX7_isBusy_43, hfu, xstep0, xJ1_hit, xJ1_go, xJ2_hit1, xJ2_hit2, xJ2_go, ↓xif_t, ↓xif_f, seval, ↓xca_eq, ↓xre_l, ↓xre_r, xmask_t, xmask_f, xmask_nil, ↓xst_eq, xX_eq, eI_eq, eMc_eq, eMs_eq, eF_eq, eThr_eq, ↓xS1_mk, ↓xSI_mk, ↓xSR_mk, ↓xLI_0, ↓xLI_s, ↓xLR_0, ↓xLR_s, vRef_ref, vRef_null, vRef_rf, cat_int, cat_ref, cat_null, cat_rf, rf_some, rf_none, rf_null, rf_eq, rf_ref, ref_rf, ref_null, ref_ref, xOk_0, xOk_1, xOk_2r, xOk_2n, xOk_2f, vOpt_rf, vOpt_ref, vOpt_null, List.set_cons_zero, List.set_cons_succ, List.take_succ_cons, List.take_zero, List.drop_succ_cons, List.drop_zero, List.reverse_cons, List.reverse_nil, List.nil_append, List.cons_append, List.append_nil, List.length_cons, List.length_nil, List.map_cons, List.map_nil, List.sum_cons, List.sum_nil, Option.toList_some, Option.toList_none, xRecv_mk, true_and, and_true, true_implies, Nat.reduceAdd, Nat.reduceLeDiff, Nat.zero_le, Nat.le_refl, Nat.add_zero, Nat.zero_add, reduceIte, not_true_eq_false, not_false_eq_true, false_implies, and_self, implies_true, eq_self, Nat.reduceEqDiff, List.cons.injEq, xsn_1, xsn_2, false_and, and_false, or_false, false_or, or_true, true_or, xsn_3, xsn_4, ↓spwJx4a65c_size_8abf5, spcJx4a65c_size_8abf5, ↓spwJx4a65c_get_915e3, spcJx4a65c_get_915e3, h0, h1, hL, f1, f3, le_nI_self]
      try simp only [xif_e]
      first | exact h | exact ⟨Or.inl trivial, h⟩)
  refine xgo hG (mb := [true, true, true]) (loop 0 (Nat.zero_le _)) (pc := 0) (fun fu hfu => ?_)
  simp only [↓callX7_isBusy_0, ↓callX7_isBusy_1, ↓cg_2_7, ↓cg_6_0, ↓cg_8_4, cisa, ki_0, ki_1, ↓vm_aload_n, ↓vm_checkcast, ↓vm_getfield, ↓vm_goto, ↓vm_iconst, ↓vm_if_icmp_ge, ↓vm_if_icmp_ne, ↓vm_iinc, ↓vm_iload_n, ↓vm_invokevirtual, ↓vm_ireturn, ↓vm_istore_n, ↓xc_1, ↓xc_2, ↓tbX7_isBusy_0, ↓tbX7_isBusy_1, ↓tbX7_isBusy_2, ↓tbX7_isBusy_3, ↓tbX7_isBusy_4, ↓tbX7_isBusy_7, ↓tbX7_isBusy_10, ↓tbX7_isBusy_13, ↓tbX7_isBusy_14, ↓tbX7_isBusy_17, ↓tbX7_isBusy_18, ↓tbX7_isBusy_21, ↓tbX7_isBusy_24, ↓tbX7_isBusy_27, ↓tbX7_isBusy_28, ↓tbX7_isBusy_31, ↓tbX7_isBusy_34, ↓tbX7_isBusy_35, ↓tbX7_isBusy_36, ↓tbX7_isBusy_39, ↓tbX7_isBusy_42, ↓tbX7_isBusy_43, hfu, xstep0, xJ1_hit, xJ1_go, xJ2_hit1, xJ2_hit2, xJ2_go, ↓xif_t, ↓xif_f, seval, ↓xca_eq, ↓xre_l, ↓xre_r, xmask_t, xmask_f, xmask_nil, ↓xst_eq, xX_eq, eI_eq, eMc_eq, eMs_eq, eF_eq, eThr_eq, ↓xS1_mk, ↓xSI_mk, ↓xSR_mk, ↓xLI_0, ↓xLI_s, ↓xLR_0, ↓xLR_s, vRef_ref, vRef_null, vRef_rf, cat_int, cat_ref, cat_null, cat_rf, rf_some, rf_none, rf_null, rf_eq, rf_ref, ref_rf, ref_null, ref_ref, xOk_0, xOk_1, xOk_2r, xOk_2n, xOk_2f, vOpt_rf, vOpt_ref, vOpt_null, List.set_cons_zero, List.set_cons_succ, List.take_succ_cons, List.take_zero, List.drop_succ_cons, List.drop_zero, List.reverse_cons, List.reverse_nil, List.nil_append, List.cons_append, List.append_nil, List.length_cons, List.length_nil, List.map_cons, List.map_nil, List.sum_cons, List.sum_nil, Option.toList_some, Option.toList_none, xRecv_mk, true_and, and_true, true_implies, Nat.reduceAdd, Nat.reduceLeDiff, Nat.zero_le, Nat.le_refl, Nat.add_zero, Nat.zero_add, reduceIte, not_true_eq_false, not_false_eq_true, false_implies, and_self, implies_true, eq_self, Nat.reduceEqDiff, List.cons.injEq, xsn_1, xsn_2, false_and, and_false, or_false, false_or, or_true, true_or, xsn_3, xsn_4, ↓spwJx4a65c_size_8abf5, spcJx4a65c_size_8abf5, ↓spwJx4a65c_get_915e3, spcJx4a65c_get_915e3]
  try simp only [xif_e]
  repeat' (first | rfl | apply And.intro)

def tbX7_needNoBoatIn : List (Nat × xHint) := [(0, .aload_n 0, 0, 0, 0, []), (1, .aload_n 1, 1, 0, 0, []), (2, .invokevirtual 429, 0, 2, 8, []), (5, .ifCond .ne 7, 12, 0, 0, []), (8, .iconst 1, 0, 0, 0, []), (9, .goto 4, 13, 0, 0, []), (12, .iconst 0, 0, 0, 0, []), (13, .invokestatic 77, 1, 1, 0, []), (16, .return_, 0, 0, 0, [])]
def clX7_needNoBoatIn : List (Instr × Nat × Nat × Nat) := [(.invokevirtual 429, 0, 2, 8), (.invokestatic 77, 1, 1, 0)]
def thX7_needNoBoatIn : List (Nat × Nat) := []
theorem ckX7_needNoBoatIn : tbX7_needNoBoatIn.all (xRow RX7 cX7_needNoBoatIn wsX7_needNoBoatIn vwCl [] clX7_needNoBoatIn thX7_needNoBoatIn 2 (yX7_needNoBoatIn.name == "<init>") none) = true := xRow_q 0xb14d00b8030400a70407009aad01b62b2a 17 (by decide +kernel) (by decide +kernel)
theorem usX7_needNoBoatIn : xUse wsX7_needNoBoatIn vwCl [] = true := xUse_n
theorem tbX7_needNoBoatIn_0 {k : Instr → Nat → Nat → Nat → List Nat → Prop} : xse (xFind tbX7_needNoBoatIn 0) k = k (.aload_n 0) 0 0 0 [] := rfl
theorem tbX7_needNoBoatIn_1 {k : Instr → Nat → Nat → Nat → List Nat → Prop} : xse (xFind tbX7_needNoBoatIn 1) k = k (.aload_n 1) 1 0 0 [] := rfl
theorem tbX7_needNoBoatIn_2 {k : Instr → Nat → Nat → Nat → List Nat → Prop} : xse (xFind tbX7_needNoBoatIn 2) k = k (.invokevirtual 429) 0 2 8 [] := rfl
theorem tbX7_needNoBoatIn_5 {k : Instr → Nat → Nat → Nat → List Nat → Prop} : xse (xFind tbX7_needNoBoatIn 5) k = k (.ifCond .ne 7) 12 0 0 [] := rfl
theorem tbX7_needNoBoatIn_8 {k : Instr → Nat → Nat → Nat → List Nat → Prop} : xse (xFind tbX7_needNoBoatIn 8) k = k (.iconst 1) 0 0 0 [] := rfl
theorem tbX7_needNoBoatIn_9 {k : Instr → Nat → Nat → Nat → List Nat → Prop} : xse (xFind tbX7_needNoBoatIn 9) k = k (.goto 4) 13 0 0 [] := rfl
theorem tbX7_needNoBoatIn_12 {k : Instr → Nat → Nat → Nat → List Nat → Prop} : xse (xFind tbX7_needNoBoatIn 12) k = k (.iconst 0) 0 0 0 [] := rfl
theorem tbX7_needNoBoatIn_13 {k : Instr → Nat → Nat → Nat → List Nat → Prop} : xse (xFind tbX7_needNoBoatIn 13) k = k (.invokestatic 77) 1 1 0 [] := rfl
theorem tbX7_needNoBoatIn_16 {k : Instr → Nat → Nat → Nat → List Nat → Prop} : xse (xFind tbX7_needNoBoatIn 16) k = k (.return_) 0 0 0 [] := rfl

def spX7_needNoBoatIn (W9 : xWd) : xSp cS := (fun av S => (1, 6), fun av S K => ∃ (a : Nat) (s : Nat), av = [.ref a, .ref s] ∧ (cK S a = 9 ∧ cIn S a 804 1 ∧ lAll S (cRf S a 804) 3 ∧ cK S s = 7 ∧ (cBz S (cRf S a 804) (cFi S s 600) (lCn S (cRf S a 804)) = false → K rV S) ∧ (cBz S (cRf S a 804) (cFi S s 600) (lCn S (cRf S a 804)) = true → K (rX "java/lang/IllegalStateException") S)))
theorem spcX7_needNoBoatIn {av : List Value} {S : cS} {W9 : xWd} : (spX7_needNoBoatIn W9).1 av S = (1, 6) := rfl
theorem spwX7_needNoBoatIn {S : cS} {W9 : xWd} {K : xRes → cS → Prop} {a : Nat} {s : Nat} : (spX7_needNoBoatIn W9).2 [.ref a, .ref s] S K = (cK S a = 9 ∧ cIn S a 804 1 ∧ lAll S (cRf S a 804) 3 ∧ cK S s = 7 ∧ (cBz S (cRf S a 804) (cFi S s 600) (lCn S (cRf S a 804)) = false → K rV S) ∧ (cBz S (cRf S a 804) (cFi S s 600) (lCn S (cRf S a 804)) = true → K (rX "java/lang/IllegalStateException") S)) :=
  propext ⟨fun h => by
    simp only [spX7_needNoBoatIn] at h
    obtain ⟨_, _, e, h⟩ := h
    simp only [List.cons.injEq, Value.int.injEq, Value.ref.injEq, rf_eq, and_true, true_and] at e
    obtain ⟨rfl, rfl⟩ := e
    exact h, fun h => ⟨_, _, rfl, h⟩⟩

def callX7_needNoBoatIn (W9 : xWd) : Nat → Option (xSp cS) := fun n => match n with | 0 => some (spX7_isBusy W9) | 1 => some (spX7_needState W9) | _ => none

theorem callX7_needNoBoatIn_0 {W9 : xWd} {k : xSp cS → Prop} : xcs (callX7_needNoBoatIn W9 0) k = k (spX7_isBusy W9) := rfl

theorem callX7_needNoBoatIn_1 {W9 : xWd} {k : xSp cS → Prop} : xcs (callX7_needNoBoatIn W9 1) k = k (spX7_needState W9) := rfl

theorem crX7_needNoBoatIn (l : Launch) (hl : l.stackTraces = false) (W9 : xWd) : xCallsOK l W9 (cI) (callX7_needNoBoatIn W9) clX7_needNoBoatIn RX7 wsX7_needNoBoatIn 7 110 2 := by
  intro E A p e R s m args below meth c hI hF hL X
  exact List.forall_mem_cons.mpr ⟨⟨_, rfl, xCR_V X (by rw [hI]; exact (semX7_isBusy l hl W9)) gX7_needNoBoatIn_X7_isBusy rfl rfl (by decide +kernel) (by rw [hF, hL]; decide)⟩,
    List.forall_mem_cons.mpr ⟨⟨_, rfl, xCR_S X (by rw [hI]; exact (semX7_needState l hl W9)) gX7_needNoBoatIn_X7_needState rfl (by decide +kernel) (by rw [hF, hL]; decide)⟩,
    fun _ h => nomatch h⟩⟩

set_option maxHeartbeats 4000000 in
set_option maxRecDepth 20000 in
theorem semX7_needNoBoatIn (l : Launch) (hl : l.stackTraces = false) (W9 : xWd) : xSem l W9 (cI) yX7_needNoBoatIn wsX7_needNoBoatIn 7 110 (spX7_needNoBoatIn W9) := by
  refine xSem_of (call := callX7_needNoBoatIn W9) (thrf := fun _ => "") cI_law (by decide +kernel) rfl ckX7_needNoBoatIn usX7_needNoBoatIn (crX7_needNoBoatIn l hl W9) xThrOK_nil ?_ ?_
  · intro av S KF h
    obtain ⟨a, s, rfl, h⟩ := h
    exact ⟨by intro v hv; simp only [List.mem_cons, List.not_mem_nil, or_false] at hv; rcases hv with rfl | rfl <;> first | rfl | exact cat_rf, Nat.le_of_ble_eq_true rfl⟩
  intro av S KF h G hG
  obtain ⟨a, s, rfl, h⟩ := h
  rw [show (spX7_needNoBoatIn W9).1 _ S = _ from spcX7_needNoBoatIn] at hG
  try dsimp only at hG
  change G 0 [some (.ref a), some (.ref s)] [] S 0 0
  obtain ⟨h0, h1, h3, h4, h5, h6⟩ := h
  refine xgo0 hG (fun fu hfu => ?_)
  clear hG
  simp only [↓callX7_needNoBoatIn_0, ↓callX7_needNoBoatIn_1, cisa, ki_0, ki_1, ↓vm_aload_n, ↓vm_goto, ↓vm_iconst, ↓vm_ifCond_ne, ↓vm_invokestatic, ↓vm_invokevirtual, ↓vm_return_, ↓xc_1, ↓xc_2, ↓tbX7_needNoBoatIn_0, ↓tbX7_needNoBoatIn_1, ↓tbX7_needNoBoatIn_2, ↓tbX7_needNoBoatIn_5, ↓tbX7_needNoBoatIn_8, ↓tbX7_needNoBoatIn_9, ↓tbX7_needNoBoatIn_12, ↓tbX7_needNoBoatIn_13, ↓tbX7_needNoBoatIn_16, hfu, xstep0, xJ1_hit, xJ1_go, xJ2_hit1, xJ2_hit2, xJ2_go, ↓xif_t, ↓xif_f, seval, ↓xca_eq, ↓xre_l, ↓xre_r, xmask_t, xmask_f, xmask_nil, ↓xst_eq, xX_eq, eI_eq, eMc_eq, eMs_eq, eF_eq, eThr_eq, ↓xS1_mk, ↓xSI_mk, ↓xSR_mk, ↓xLI_0, ↓xLI_s, ↓xLR_0, ↓xLR_s, vRef_ref, vRef_null, vRef_rf, cat_int, cat_ref, cat_null, cat_rf, rf_some, rf_none, rf_null, rf_eq, rf_ref, ref_rf, ref_null, ref_ref, xOk_0, xOk_1, xOk_2r, xOk_2n, xOk_2f, vOpt_rf, vOpt_ref, vOpt_null, List.set_cons_zero, List.set_cons_succ, List.take_succ_cons, List.take_zero, List.drop_succ_cons, List.drop_zero, List.reverse_cons, List.reverse_nil, List.nil_append, List.cons_append, List.append_nil, List.length_cons, List.length_nil, List.map_cons, List.map_nil, List.sum_cons, List.sum_nil, Option.toList_some, Option.toList_none, xRecv_mk, true_and, and_true, true_implies, Nat.reduceAdd, Nat.reduceLeDiff, Nat.zero_le, Nat.le_refl, Nat.add_zero, Nat.zero_add, reduceIte, not_true_eq_false, not_false_eq_true, false_implies, and_self, implies_true, eq_self, Nat.reduceEqDiff, List.cons.injEq, xsn_1, xsn_2, false_and, and_false, or_false, false_or, or_true, true_or, xsn_3, xsn_4, h0, h1, h3, h4, bi_0, ↓spwX7_isBusy, spcX7_isBusy, ↓spwX7_needState, spcX7_needState]
  try simp only [xif_e]
  repeat' (first | with_reducible apply And.intro | with_reducible intro _)
  all_goals grind [bi]

def cNx (S : cS) (o b : Nat) : Option Nat :=
  if ¬ cFi S b 207 = -1 ∨ cFi S b 210 = -1 then none
  else if 0 ≤ (if cFi S b 206 < cFi S b 210 then cFi S b 206 else cFi S b 206 - 1) ∧ (if cFi S b 206 < cFi S b 210 then cFi S b 206 else cFi S b 206 - 1) < cFi S (cRf S o 800) 2 then some (lG S (cRf S o 800) (if cFi S b 206 < cFi S b 210 then cFi S b 206 else cFi S b 206 - 1).toNatClampNeg) else none

def tbX7_nextOf : List (Nat × xHint) := [(0, .aload_n 1, 1, 0, 0, []), (1, .invokevirtual 223, 0, 1, 2, []), (4, .ifCond .ne 11, 15, 0, 0, []), (7, .aload_n 1, 1, 0, 0, []), (8, .getfield 275, 2, 10, 0, []), (11, .iconst (-1), 0, 0, 0, []), (12, .if_icmp .ne 5, 17, 0, 0, []), (15, .aconst_null, 0, 0, 0, []), (16, .areturn, 0, 0, 0, []), (17, .aload_n 1, 1, 0, 0, []), (18, .invokevirtual 456, 1, 1, 2, []), (21, .ifCond .eq 10, 31, 0, 0, []), (24, .aload_n 1, 1, 0, 0, []), (25, .getfield 238, 2, 6, 0, []), (28, .goto 9, 37, 0, 0, []), (31, .aload_n 1, 1, 0, 0, []), (32, .getfield 238, 2, 6, 0, []), (35, .iconst 1, 0, 0, 0, []), (36, .isub, 0, 0, 0, []), (37, .istore_n 2, 2, 0, 0, []), (38, .iload_n 2, 2, 0, 0, []), (39, .ifCond .lt 14, 53, 0, 0, []), (42, .iload_n 2, 2, 0, 0, []), (43, .aload_n 0, 0, 0, 0, []), (44, .getfield 10, 8, 0, 2, []), (47, .invokevirtual 108, 2, 1, 0, []), (50, .if_icmp .lt 7, 57, 0, 0, []), (53, .aconst_null, 0, 0, 0, []), (54, .goto 14, 68, 0, 0, []), (57, .aload_n 0, 0, 0, 0, []), (58, .getfield 10, 8, 0, 2, []), (61, .iload_n 2, 2, 0, 0, []), (62, .invokevirtual 312, 3, 2, 0, []), (65, .checkcast 39, 6, 0, 0, []), (68, .areturn, 0, 0, 0, [])]
def clX7_nextOf : List (Instr × Nat × Nat × Nat) := [(.invokevirtual 223, 0, 1, 2), (.invokevirtual 456, 1, 1, 2), (.invokevirtual 108, 2, 1, 0), (.invokevirtual 312, 3, 2, 0)]
def thX7_nextOf : List (Nat × Nat) := []
theorem ckX7_nextOf : tbX7_nextOf.all (xRow RX7 cX7_nextOf wsX7_nextOf vwCl [2, 8] clX7_nextOf thX7_nextOf 3 (yX7_nextOf.name == "<init>") (some (.object "Towmaster$Section"))) = true := xRow_q 0xb02700c03801b61c0a00b42a0e00a7010700a16c00b60a00b42a1c0e009b1c3d6404ee00b42b0900a7ee00b42b0a0099c801b62bb0010500a0021301b42b0b009adf00b62b 69 (by decide +kernel) (by decide +kernel)
theorem usX7_nextOf : xUse wsX7_nextOf vwCl [2, 8] = true := xUse_g rfl (lw_good lwl_X7_nextOf lwl_X10 (by decide +kernel)) (xUse_g rfl (lw_good lwl_X7_nextOf lwl_X70 (by decide +kernel)) xUse_n)
theorem tbX7_nextOf_0 {k : Instr → Nat → Nat → Nat → List Nat → Prop} : xse (xFind tbX7_nextOf 0) k = k (.aload_n 1) 1 0 0 [] := rfl
theorem tbX7_nextOf_1 {k : Instr → Nat → Nat → Nat → List Nat → Prop} : xse (xFind tbX7_nextOf 1) k = k (.invokevirtual 223) 0 1 2 [] := rfl
theorem tbX7_nextOf_4 {k : Instr → Nat → Nat → Nat → List Nat → Prop} : xse (xFind tbX7_nextOf 4) k = k (.ifCond .ne 11) 15 0 0 [] := rfl
theorem tbX7_nextOf_7 {k : Instr → Nat → Nat → Nat → List Nat → Prop} : xse (xFind tbX7_nextOf 7) k = k (.aload_n 1) 1 0 0 [] := rfl
theorem tbX7_nextOf_8 {k : Instr → Nat → Nat → Nat → List Nat → Prop} : xse (xFind tbX7_nextOf 8) k = k (.getfield 275) 2 10 0 [] := rfl
theorem tbX7_nextOf_11 {k : Instr → Nat → Nat → Nat → List Nat → Prop} : xse (xFind tbX7_nextOf 11) k = k (.iconst (-1)) 0 0 0 [] := rfl
theorem tbX7_nextOf_12 {k : Instr → Nat → Nat → Nat → List Nat → Prop} : xse (xFind tbX7_nextOf 12) k = k (.if_icmp .ne 5) 17 0 0 [] := rfl
theorem tbX7_nextOf_15 {k : Instr → Nat → Nat → Nat → List Nat → Prop} : xse (xFind tbX7_nextOf 15) k = k (.aconst_null) 0 0 0 [] := rfl
theorem tbX7_nextOf_16 {k : Instr → Nat → Nat → Nat → List Nat → Prop} : xse (xFind tbX7_nextOf 16) k = k (.areturn) 0 0 0 [] := rfl
theorem tbX7_nextOf_17 {k : Instr → Nat → Nat → Nat → List Nat → Prop} : xse (xFind tbX7_nextOf 17) k = k (.aload_n 1) 1 0 0 [] := rfl
theorem tbX7_nextOf_18 {k : Instr → Nat → Nat → Nat → List Nat → Prop} : xse (xFind tbX7_nextOf 18) k = k (.invokevirtual 456) 1 1 2 [] := rfl
theorem tbX7_nextOf_21 {k : Instr → Nat → Nat → Nat → List Nat → Prop} : xse (xFind tbX7_nextOf 21) k = k (.ifCond .eq 10) 31 0 0 [] := rfl
theorem tbX7_nextOf_24 {k : Instr → Nat → Nat → Nat → List Nat → Prop} : xse (xFind tbX7_nextOf 24) k = k (.aload_n 1) 1 0 0 [] := rfl
theorem tbX7_nextOf_25 {k : Instr → Nat → Nat → Nat → List Nat → Prop} : xse (xFind tbX7_nextOf 25) k = k (.getfield 238) 2 6 0 [] := rfl
theorem tbX7_nextOf_28 {k : Instr → Nat → Nat → Nat → List Nat → Prop} : xse (xFind tbX7_nextOf 28) k = k (.goto 9) 37 0 0 [] := rfl
theorem tbX7_nextOf_31 {k : Instr → Nat → Nat → Nat → List Nat → Prop} : xse (xFind tbX7_nextOf 31) k = k (.aload_n 1) 1 0 0 [] := rfl
theorem tbX7_nextOf_32 {k : Instr → Nat → Nat → Nat → List Nat → Prop} : xse (xFind tbX7_nextOf 32) k = k (.getfield 238) 2 6 0 [] := rfl
theorem tbX7_nextOf_35 {k : Instr → Nat → Nat → Nat → List Nat → Prop} : xse (xFind tbX7_nextOf 35) k = k (.iconst 1) 0 0 0 [] := rfl
theorem tbX7_nextOf_36 {k : Instr → Nat → Nat → Nat → List Nat → Prop} : xse (xFind tbX7_nextOf 36) k = k (.isub) 0 0 0 [] := rfl
theorem tbX7_nextOf_37 {k : Instr → Nat → Nat → Nat → List Nat → Prop} : xse (xFind tbX7_nextOf 37) k = k (.istore_n 2) 2 0 0 [] := rfl
theorem tbX7_nextOf_38 {k : Instr → Nat → Nat → Nat → List Nat → Prop} : xse (xFind tbX7_nextOf 38) k = k (.iload_n 2) 2 0 0 [] := rfl
theorem tbX7_nextOf_39 {k : Instr → Nat → Nat → Nat → List Nat → Prop} : xse (xFind tbX7_nextOf 39) k = k (.ifCond .lt 14) 53 0 0 [] := rfl
theorem tbX7_nextOf_42 {k : Instr → Nat → Nat → Nat → List Nat → Prop} : xse (xFind tbX7_nextOf 42) k = k (.iload_n 2) 2 0 0 [] := rfl
theorem tbX7_nextOf_43 {k : Instr → Nat → Nat → Nat → List Nat → Prop} : xse (xFind tbX7_nextOf 43) k = k (.aload_n 0) 0 0 0 [] := rfl
theorem tbX7_nextOf_44 {k : Instr → Nat → Nat → Nat → List Nat → Prop} : xse (xFind tbX7_nextOf 44) k = k (.getfield 10) 8 0 2 [] := rfl
theorem tbX7_nextOf_47 {k : Instr → Nat → Nat → Nat → List Nat → Prop} : xse (xFind tbX7_nextOf 47) k = k (.invokevirtual 108) 2 1 0 [] := rfl
theorem tbX7_nextOf_50 {k : Instr → Nat → Nat → Nat → List Nat → Prop} : xse (xFind tbX7_nextOf 50) k = k (.if_icmp .lt 7) 57 0 0 [] := rfl
theorem tbX7_nextOf_53 {k : Instr → Nat → Nat → Nat → List Nat → Prop} : xse (xFind tbX7_nextOf 53) k = k (.aconst_null) 0 0 0 [] := rfl
theorem tbX7_nextOf_54 {k : Instr → Nat → Nat → Nat → List Nat → Prop} : xse (xFind tbX7_nextOf 54) k = k (.goto 14) 68 0 0 [] := rfl
theorem tbX7_nextOf_57 {k : Instr → Nat → Nat → Nat → List Nat → Prop} : xse (xFind tbX7_nextOf 57) k = k (.aload_n 0) 0 0 0 [] := rfl
theorem tbX7_nextOf_58 {k : Instr → Nat → Nat → Nat → List Nat → Prop} : xse (xFind tbX7_nextOf 58) k = k (.getfield 10) 8 0 2 [] := rfl
theorem tbX7_nextOf_61 {k : Instr → Nat → Nat → Nat → List Nat → Prop} : xse (xFind tbX7_nextOf 61) k = k (.iload_n 2) 2 0 0 [] := rfl
theorem tbX7_nextOf_62 {k : Instr → Nat → Nat → Nat → List Nat → Prop} : xse (xFind tbX7_nextOf 62) k = k (.invokevirtual 312) 3 2 0 [] := rfl
theorem tbX7_nextOf_65 {k : Instr → Nat → Nat → Nat → List Nat → Prop} : xse (xFind tbX7_nextOf 65) k = k (.checkcast 39) 6 0 0 [] := rfl
theorem tbX7_nextOf_68 {k : Instr → Nat → Nat → Nat → List Nat → Prop} : xse (xFind tbX7_nextOf 68) k = k (.areturn) 0 0 0 [] := rfl

def spX7_nextOf (W9 : xWd) : xSp cS := (fun av S => (0, 0), fun av S K => ∃ (a : Nat) (b : Nat), av = [.ref a, .ref b] ∧ (cK S a = 9 ∧ cIn S a 800 1 ∧ lAll S (cRf S a 800) 7 ∧ cK S b = 3 ∧ K (rF (cNx S a b)) S))
theorem spcX7_nextOf {av : List Value} {S : cS} {W9 : xWd} : (spX7_nextOf W9).1 av S = (0, 0) := rfl
theorem spwX7_nextOf {S : cS} {W9 : xWd} {K : xRes → cS → Prop} {a : Nat} {b : Nat} : (spX7_nextOf W9).2 [.ref a, .ref b] S K = (cK S a = 9 ∧ cIn S a 800 1 ∧ lAll S (cRf S a 800) 7 ∧ cK S b = 3 ∧ K (rF (cNx S a b)) S) :=
  propext ⟨fun h => by
    simp only [spX7_nextOf] at h
    obtain ⟨_, _, e, h⟩ := h
    simp only [List.cons.injEq, Value.int.injEq, Value.ref.injEq, rf_eq, and_true, true_and] at e
    obtain ⟨rfl, rfl⟩ := e
    exact h, fun h => ⟨_, _, rfl, h⟩⟩

def callX7_nextOf (W9 : xWd) : Nat → Option (xSp cS) := fun n => match n with | 0 => some (spX1_isUnderWay W9) | 1 => some (spX1_isBoundUp W9) | 2 => some (spJx4a65c_size_8abf5 W9) | 3 => some (spJx4a65c_get_915e3 W9) | _ => none

theorem callX7_nextOf_0 {W9 : xWd} {k : xSp cS → Prop} : xcs (callX7_nextOf W9 0) k = k (spX1_isUnderWay W9) := rfl

theorem callX7_nextOf_1 {W9 : xWd} {k : xSp cS → Prop} : xcs (callX7_nextOf W9 1) k = k (spX1_isBoundUp W9) := rfl

theorem callX7_nextOf_2 {W9 : xWd} {k : xSp cS → Prop} : xcs (callX7_nextOf W9 2) k = k (spJx4a65c_size_8abf5 W9) := rfl

theorem callX7_nextOf_3 {W9 : xWd} {k : xSp cS → Prop} : xcs (callX7_nextOf W9 3) k = k (spJx4a65c_get_915e3 W9) := rfl

theorem crX7_nextOf (l : Launch) (hl : l.stackTraces = false) (W9 : xWd) : xCallsOK l W9 (cI) (callX7_nextOf W9) clX7_nextOf RX7 wsX7_nextOf 3 64 3 := by
  intro E A p e R s m args below meth c hI hF hL X
  exact List.forall_mem_cons.mpr ⟨⟨_, rfl, xCR_V X (by rw [hI]; exact (semX1_isUnderWay l hl W9)) gX7_nextOf_X1_isUnderWay rfl rfl (by decide +kernel) (by rw [hF, hL]; decide)⟩,
    List.forall_mem_cons.mpr ⟨⟨_, rfl, xCR_V X (by rw [hI]; exact (semX1_isBoundUp l hl W9)) gX7_nextOf_X1_isBoundUp rfl rfl (by decide +kernel) (by rw [hF, hL]; decide)⟩,
    List.forall_mem_cons.mpr ⟨⟨_, rfl, xCR_V X (by rw [hI]; exact (semJx4a65c_size_8abf5 l hl W9)) gX7_nextOf_Jx4a65c_size_8abf5 rfl rfl (by decide +kernel) (by rw [hF, hL]; decide)⟩,
    List.forall_mem_cons.mpr ⟨⟨_, rfl, xCR_V X (by rw [hI]; exact (semJx4a65c_get_915e3 l hl W9)) gX7_nextOf_Jx4a65c_get_915e3 rfl rfl (by decide +kernel) (by rw [hF, hL]; decide)⟩,
    fun _ h => nomatch h⟩⟩⟩⟩

set_option maxHeartbeats 4000000 in
set_option maxRecDepth 20000 in
theorem semX7_nextOf (l : Launch) (hl : l.stackTraces = false) (W9 : xWd) : xSem l W9 (cI) yX7_nextOf wsX7_nextOf 3 64 (spX7_nextOf W9) := by
  refine xSem_of (call := callX7_nextOf W9) (thrf := fun _ => "") cI_law (by decide +kernel) rfl ckX7_nextOf usX7_nextOf (crX7_nextOf l hl W9) xThrOK_nil ?_ ?_
  · intro av S KF h
    obtain ⟨a, b, rfl, h⟩ := h
    exact ⟨by intro v hv; simp only [List.mem_cons, List.not_mem_nil, or_false] at hv; rcases hv with rfl | rfl <;> first | rfl | exact cat_rf, Nat.le_of_ble_eq_true rfl⟩
  intro av S KF h G hG
  obtain ⟨a, b, rfl, h⟩ := h
  rw [show (spX7_nextOf W9).1 _ S = _ from spcX7_nextOf] at hG
  try dsimp only at hG
  change G 0 [some (.ref a), some (.ref b), none] [] S 0 0
  obtain ⟨h0, ⟨h1, h2⟩, h3, h4, h⟩ := h

  obtain ⟨f1, f2, f3, f4⟩ := lAll_facts h3
  unfold cNx at h
  generalize hL : cRf S a 800 = L at *
  have key : ∀ x : Int32, KF (rF (if 0 ≤ x ∧ x < cFi S L 2 then some (lG S L x.toNatClampNeg) else none)) S → ∀ lv st S2 cs ss, (lv = [some (.ref a), some (.ref b), some (.int x)] ∧ st = [] ∧ S = S2 ∧ cs = 0 ∧ ss = 0) → G 38 lv st S2 cs ss := by
    intro x hx
    rintro lv st S2 cs ss ⟨rfl, rfl, rfl, rfl, (rfl)⟩
    refine xgo0 hG (fun fu hfu => ?_)
    by_cases q : 0 ≤ x ∧ x < cFi S L 2
    · obtain ⟨g1, g2⟩ := lAll_at h3 q.1 q.2
      rw [if_pos q] at hx
      have q1 : ¬ x < 0 := fun z => Int32.lt_irrefl (Int32.lt_of_lt_of_le z q.1)
      simp only [↓callX7_nextOf_0, ↓callX7_nextOf_1, ↓callX7_nextOf_2, ↓callX7_nextOf_3, ↓cg_2_10, ↓cg_2_6, ↓cg_8_0, cisa, ki_1, ki_m1, ↓vm_aconst_null, ↓vm_aload_n, ↓vm_areturn, ↓vm_checkcast, ↓vm_getfield, ↓vm_goto, ↓vm_iconst, ↓vm_ifCond_eq, ↓vm_ifCond_lt, ↓vm_ifCond_ne, ↓vm_if_icmp_lt, ↓vm_if_icmp_ne, ↓vm_iload_n, ↓vm_invokevirtual, ↓vm_istore_n, ↓vm_isub, ↓xc_1, ↓xc_2, ↓tbX7_nextOf_0, ↓tbX7_nextOf_1, ↓tbX7_nextOf_4, ↓tbX7_nextOf_7, ↓tbX7_nextOf_8, ↓tbX7_nextOf_11, ↓tbX7_nextOf_12, ↓tbX7_nextOf_15, ↓tbX7_nextOf_16, ↓tbX7_nextOf_17, ↓tbX7_nextOf_18, ↓tbX7_nextOf_21, ↓tbX7_nextOf_24, ↓tbX7_nextOf_25, ↓tbX7_nextOf_28, ↓tbX7_nextOf_31, ↓tbX7_nextOf_32, ↓tbX7_nextOf_35, ↓tbX7_nextOf_36, ↓tbX7_nextOf_37, ↓tbX7_nextOf_38, ↓tbX7_nextOf_39, ↓tbX7_nextOf_42, ↓tbX7_nextOf_43, ↓tbX7_nextOf_44, ↓tbX7_nextOf_47, ↓tbX7_nextOf_50, ↓tbX7_nextOf_53, ↓tbX7_nextOf_54, ↓tbX7_nextOf_57, ↓tbX7_nextOf_58, ↓tbX7_nextOf_61, ↓tbX7_nextOf_62, ↓tbX7_nextOf_65, ↓tbX7_nextOf_68, hfu, xstep0, xJ1_hit, xJ1_go, xJ2_hit1, xJ2_hit2, xJ2_go, ↓xif_t, ↓xif_f, seval, ↓xca_eq, ↓xre_l, ↓xre_r, xmask_t, xmask_f, xmask_nil, ↓xst_eq, xX_eq, eI_eq, eMc_eq, eMs_eq, eF_eq, eThr_eq, ↓xS1_mk, ↓xSI_mk, ↓xSR_mk, ↓xLI_0, ↓xLI_s, ↓xLR_0, ↓xLR_s, vRef_ref, vRef_null, vRef_rf, cat_int, cat_ref, cat_null, cat_rf, rf_some, rf_none, rf_null, rf_eq, rf_ref, ref_rf, ref_null, ref_ref, xOk_0, xOk_1, xOk_2r, xOk_2n, xOk_2f, vOpt_rf, vOpt_ref, vOpt_null, List.set_cons_zero, List.set_cons_succ, List.take_succ_cons, List.take_zero, List.drop_succ_cons, List.drop_zero, List.reverse_cons, List.reverse_nil, List.nil_append, List.cons_append, List.append_nil, List.length_cons, List.length_nil, List.map_cons, List.map_nil, List.sum_cons, List.sum_nil, Option.toList_some, Option.toList_none, xRecv_mk, true_and, and_true, true_implies, Nat.reduceAdd, Nat.reduceLeDiff, Nat.zero_le, Nat.le_refl, Nat.add_zero, Nat.zero_add, reduceIte, not_true_eq_false, not_false_eq_true, false_implies, and_self, implies_true, eq_self, Nat.reduceEqDiff, List.cons.injEq, xsn_1, xsn_2, false_and, and_false, or_false, false_or, or_true, true_or, xsn_3, xsn_4, ↓spwX1_isUnderWay, spcX1_isUnderWay, ↓spwX1_isBoundUp, spcX1_isBoundUp, ↓spwJx4a65c_size_8abf5, spcJx4a65c_size_8abf5, ↓spwJx4a65c_get_915e3, spcJx4a65c_get_915e3, h0, h1, hL, f1, f2, q, q1, g1, g2]
      try simp only [xif_e]
      exact hx
    · rw [if_neg q] at hx
      have hx : KF (Sum.inl (some Value.null)) S := hx
      simp only [↓callX7_nextOf_0, ↓callX7_nextOf_1, ↓callX7_nextOf_2, ↓callX7_nextOf_3, ↓cg_2_10, ↓cg_2_6, ↓cg_8_0, cisa, ki_1, ki_m1, ↓vm_aconst_null, ↓vm_aload_n, ↓vm_areturn, ↓vm_checkcast, ↓vm_getfield, ↓vm_goto, ↓vm_iconst, ↓vm_ifCond_eq, ↓vm_ifCond_lt, ↓vm_ifCond_ne, ↓vm_if_icmp_lt, ↓vm_if_icmp_ne, ↓vm_iload_n, ↓vm_invokevirtual, ↓vm_istore_n, ↓vm_isub, ↓xc_1, ↓xc_2, ↓tbX7_nextOf_0, ↓tbX7_nextOf_1, ↓tbX7_nextOf_4, ↓tbX7_nextOf_7, ↓tbX7_nextOf_8, ↓tbX7_nextOf_11, ↓tbX7_nextOf_12, ↓tbX7_nextOf_15, ↓tbX7_nextOf_16, ↓tbX7_nextOf_17, ↓tbX7_nextOf_18, ↓tbX7_nextOf_21, ↓tbX7_nextOf_24, ↓tbX7_nextOf_25, ↓tbX7_nextOf_28, ↓tbX7_nextOf_31, ↓tbX7_nextOf_32, ↓tbX7_nextOf_35, ↓tbX7_nextOf_36, ↓tbX7_nextOf_37, ↓tbX7_nextOf_38, ↓tbX7_nextOf_39, ↓tbX7_nextOf_42, ↓tbX7_nextOf_43, ↓tbX7_nextOf_44, ↓tbX7_nextOf_47, ↓tbX7_nextOf_50, ↓tbX7_nextOf_53, ↓tbX7_nextOf_54, ↓tbX7_nextOf_57, ↓tbX7_nextOf_58, ↓tbX7_nextOf_61, ↓tbX7_nextOf_62, ↓tbX7_nextOf_65, ↓tbX7_nextOf_68, hfu, xstep0, xJ1_hit, xJ1_go, xJ2_hit1, xJ2_hit2, xJ2_go, ↓xif_t, ↓xif_f, seval, ↓xca_eq, ↓xre_l, ↓xre_r, xmask_t, xmask_f, xmask_nil, ↓xst_eq, xX_eq, eI_eq, eMc_eq, eMs_eq, eF_eq, eThr_eq, ↓xS1_mk, ↓xSI_mk, ↓xSR_mk, ↓xLI_0, ↓xLI_s, ↓xLR_0, ↓xLR_s, vRef_ref, vRef_null, vRef_rf, cat_int, cat_ref, cat_null, cat_rf, rf_some, rf_none, rf_null, rf_eq, rf_ref, ref_rf, ref_null, ref_ref, xOk_0, xOk_1, xOk_2r, xOk_2n, xOk_2f, vOpt_rf, vOpt_ref, vOpt_null, List.set_cons_zero, List.set_cons_succ, List.take_succ_cons, List.take_zero, List.drop_succ_cons, List.drop_zero, List.reverse_cons, List.reverse_nil, List.nil_append, List.cons_append, List.append_nil, List.length_cons, List.length_nil, List.map_cons, List.map_nil, List.sum_cons, List.sum_nil, Option.toList_some, Option.toList_none, xRecv_mk, true_and, and_true, true_implies, Nat.reduceAdd, Nat.reduceLeDiff, Nat.zero_le, Nat.le_refl, Nat.add_zero, Nat.zero_add, reduceIte, not_true_eq_false, not_false_eq_true, false_implies, and_self, implies_true, eq_self, Nat.reduceEqDiff, List.cons.injEq, xsn_1, xsn_2, false_and, and_false, or_false, false_or, or_true, true_or, xsn_3, xsn_4, ↓spwX1_isUnderWay, spcX1_isUnderWay, ↓spwX1_isBoundUp, spcX1_isBoundUp, ↓spwJx4a65c_size_8abf5, spcJx4a65c_size_8abf5, ↓spwJx4a65c_get_915e3, spcJx4a65c_get_915e3, h0, h1, hL, f1]
      try simp only [xif_e]
      repeat' (first | with_reducible apply And.intro | with_reducible intro _)
      all_goals grind
  by_cases c : ¬ cFi S b 207 = -1 ∨ cFi S b 210 = -1
  · rw [if_pos c] at h
    have h : KF (Sum.inl (some Value.null)) S := h
    refine xgo hG (mb := []) (head := 38) (P := fun _ _ _ _ _ => False) (fun _ _ _ _ _ q => q.elim) (pc := 0) (fun fu hfu => ?_)
    simp only [↓callX7_nextOf_0, ↓callX7_nextOf_1, ↓callX7_nextOf_2, ↓callX7_nextOf_3, ↓cg_2_10, ↓cg_2_6, ↓cg_8_0, cisa, ki_1, ki_m1, ↓vm_aconst_null, ↓vm_aload_n, ↓vm_areturn, ↓vm_checkcast, ↓vm_getfield, ↓vm_goto, ↓vm_iconst, ↓vm_ifCond_eq, ↓vm_ifCond_lt, ↓vm_ifCond_ne, ↓vm_if_icmp_lt, ↓vm_if_icmp_ne, ↓vm_iload_n, ↓vm_invokevirtual, ↓vm_istore_n, ↓vm_isub, ↓xc_1, ↓xc_2, ↓tbX7_nextOf_0, ↓tbX7_nextOf_1, ↓tbX7_nextOf_4, ↓tbX7_nextOf_7, ↓tbX7_nextOf_8, ↓tbX7_nextOf_11, ↓tbX7_nextOf_12, ↓tbX7_nextOf_15, ↓tbX7_nextOf_16, ↓tbX7_nextOf_17, ↓tbX7_nextOf_18, ↓tbX7_nextOf_21, ↓tbX7_nextOf_24, ↓tbX7_nextOf_25, ↓tbX7_nextOf_28, ↓tbX7_nextOf_31, ↓tbX7_nextOf_32, ↓tbX7_nextOf_35, ↓tbX7_nextOf_36, ↓tbX7_nextOf_37, ↓tbX7_nextOf_38, ↓tbX7_nextOf_39, ↓tbX7_nextOf_42, ↓tbX7_nextOf_43, ↓tbX7_nextOf_44, ↓tbX7_nextOf_47, ↓tbX7_nextOf_50, ↓tbX7_nextOf_53, ↓tbX7_nextOf_54, ↓tbX7_nextOf_57, ↓tbX7_nextOf_58, ↓tbX7_nextOf_61, ↓tbX7_nextOf_62, ↓tbX7_nextOf_65, ↓tbX7_nextOf_68, hfu, xstep0, xJ1_hit, xJ1_go, xJ2_hit1, xJ2_hit2, xJ2_go, ↓xif_t, ↓xif_f, seval, ↓xca_eq, ↓xre_l, ↓xre_r, xmask_t, xmask_f, xmask_nil, ↓xst_eq, xX_eq, eI_eq, eMc_eq, eMs_eq, eF_eq, eThr_eq, ↓xS1_mk, ↓xSI_mk, ↓xSR_mk, ↓xLI_0, ↓xLI_s, ↓xLR_0, ↓xLR_s, vRef_ref, vRef_null, vRef_rf, cat_int, cat_ref, cat_null, cat_rf, rf_some, rf_none, rf_null, rf_eq, rf_ref, ref_rf, ref_null, ref_ref, xOk_0, xOk_1, xOk_2r, xOk_2n, xOk_2f, vOpt_rf, vOpt_ref, vOpt_null, List.set_cons_zero, List.set_cons_succ, List.take_succ_cons, List.take_zero, List.drop_succ_cons, List.drop_zero, List.reverse_cons, List.reverse_nil, List.nil_append, List.cons_append, List.append_nil, List.length_cons, List.length_nil, List.map_cons, List.map_nil, List.sum_cons, List.sum_nil, Option.toList_some, Option.toList_none, xRecv_mk, true_and, and_true, true_implies, Nat.reduceAdd, Nat.reduceLeDiff, Nat.zero_le, Nat.le_refl, Nat.add_zero, Nat.zero_add, reduceIte, not_true_eq_false, not_false_eq_true, false_implies, and_self, implies_true, eq_self, Nat.reduceEqDiff, List.cons.injEq, xsn_1, xsn_2, false_and, and_false, or_false, false_or, or_true, true_or, xsn_3, xsn_4, ↓spwX1_isUnderWay, spcX1_isUnderWay, ↓spwX1_isBoundUp, spcX1_isBoundUp, ↓spwJx4a65c_size_8abf5, spcJx4a65c_size_8abf5, ↓spwJx4a65c_get_915e3, spcJx4a65c_get_915e3, h4, bi_0]
    try simp only [xif_e]
    repeat' (first | with_reducible apply And.intro | with_reducible intro _)
    all_goals grind
  · rw [if_neg c] at h
    have c1 : cFi S b 207 = -1 := Classical.byContradiction fun z => c (Or.inl z)
    have c2 : ¬ cFi S b 210 = -1 := fun z => c (Or.inr z)
    refine xgo hG (mb := [true, true, true]) (key _ h) (pc := 0) (fun fu hfu => ?_)
    simp only [↓callX7_nextOf_0, ↓callX7_nextOf_1, ↓callX7_nextOf_2, ↓callX7_nextOf_3, ↓cg_2_10, ↓cg_2_6, ↓cg_8_0, cisa, ki_1, ki_m1, ↓vm_aconst_null, ↓vm_aload_n, ↓vm_areturn, ↓vm_checkcast, ↓vm_getfield, ↓vm_goto, ↓vm_iconst, ↓vm_ifCond_eq, ↓vm_ifCond_lt, ↓vm_ifCond_ne, ↓vm_if_icmp_lt, ↓vm_if_icmp_ne, ↓vm_iload_n, ↓vm_invokevirtual, ↓vm_istore_n, ↓vm_isub, ↓xc_1, ↓xc_2, ↓tbX7_nextOf_0, ↓tbX7_nextOf_1, ↓tbX7_nextOf_4, ↓tbX7_nextOf_7, ↓tbX7_nextOf_8, ↓tbX7_nextOf_11, ↓tbX7_nextOf_12, ↓tbX7_nextOf_15, ↓tbX7_nextOf_16, ↓tbX7_nextOf_17, ↓tbX7_nextOf_18, ↓tbX7_nextOf_21, ↓tbX7_nextOf_24, ↓tbX7_nextOf_25, ↓tbX7_nextOf_28, ↓tbX7_nextOf_31, ↓tbX7_nextOf_32, ↓tbX7_nextOf_35, ↓tbX7_nextOf_36, ↓tbX7_nextOf_37, ↓tbX7_nextOf_38, ↓tbX7_nextOf_39, ↓tbX7_nextOf_42, ↓tbX7_nextOf_43, ↓tbX7_nextOf_44, ↓tbX7_nextOf_47, ↓tbX7_nextOf_50, ↓tbX7_nextOf_53, ↓tbX7_nextOf_54, ↓tbX7_nextOf_57, ↓tbX7_nextOf_58, ↓tbX7_nextOf_61, ↓tbX7_nextOf_62, ↓tbX7_nextOf_65, ↓tbX7_nextOf_68, hfu, xstep0, xJ1_hit, xJ1_go, xJ2_hit1, xJ2_hit2, xJ2_go, ↓xif_t, ↓xif_f, seval, ↓xca_eq, ↓xre_l, ↓xre_r, xmask_t, xmask_f, xmask_nil, ↓xst_eq, xX_eq, eI_eq, eMc_eq, eMs_eq, eF_eq, eThr_eq, ↓xS1_mk, ↓xSI_mk, ↓xSR_mk, ↓xLI_0, ↓xLI_s, ↓xLR_0, ↓xLR_s, vRef_ref, vRef_null, vRef_rf, cat_int, cat_ref, cat_null, cat_rf, rf_some, rf_none, rf_null, rf_eq, rf_ref, ref_rf, ref_null, ref_ref, xOk_0, xOk_1, xOk_2r, xOk_2n, xOk_2f, vOpt_rf, vOpt_ref, vOpt_null, List.set_cons_zero, List.set_cons_succ, List.take_succ_cons, List.take_zero, List.drop_succ_cons, List.drop_zero, List.reverse_cons, List.reverse_nil, List.nil_append, List.cons_append, List.append_nil, List.length_cons, List.length_nil, List.map_cons, List.map_nil, List.sum_cons, List.sum_nil, Option.toList_some, Option.toList_none, xRecv_mk, true_and, and_true, true_implies, Nat.reduceAdd, Nat.reduceLeDiff, Nat.zero_le, Nat.le_refl, Nat.add_zero, Nat.zero_add, reduceIte, not_true_eq_false, not_false_eq_true, false_implies, and_self, implies_true, eq_self, Nat.reduceEqDiff, List.cons.injEq, xsn_1, xsn_2, false_and, and_false, or_false, false_or, or_true, true_or, xsn_3, xsn_4, ↓spwX1_isUnderWay, spcX1_isUnderWay, ↓spwX1_isBoundUp, spcX1_isBoundUp, ↓spwJx4a65c_size_8abf5, spcJx4a65c_size_8abf5, ↓spwJx4a65c_get_915e3, spcJx4a65c_get_915e3, h4, bi_0, c1, c2]
    try simp only [xif_e]
    repeat' (first | with_reducible apply And.intro | with_reducible intro _)
    all_goals grind

/-- what a boat's tow owes -/
def bOk (S : cS) (b : Nat) : Prop := cK S b = 3 ∧ cIn S b 203 6 ∧ rOk S (cRf S b 203)
def cBrd (S : cS) (r : Nat) : Int32 := rMax 1 (rMin (cFi S r 504) (nI (rN S r)))
def cPsh (S : cS) (b : Nat) (u s : Int32) : Int32 := cFi S b 201 * (if u = 0 then 12 else 8) - cFi S b 201 * (if 0 < s then s / 10 else 0)
def cSmall (S : cS) (s r : Nat) : Prop := if cFi S s 604 = 0 then cFi S s 606 < cBrd S r else 2 * cFi S s 608 < nI (rN S r)
noncomputable def cSz (S : cS) (o b s : Nat) (u : Int32) : Int32 :=
  if cFi S s 601 + cFi S o 808 < rDr S (cRf S b 203) (rN S (cRf S b 203)) + 2 then 3
  else if (if cFi S s 604 = 0 then cFi S s 606 < rMax 1 (rMin (cFi S (cRf S b 203) 504) (nI (rN S (cRf S b 203)))) else 2 * cFi S s 608 < nI (rN S (cRf S b 203))) then 4
  else if cFi S b 201 * (if u = 0 then 12 else 8) - cFi S b 201 * (if 0 < cFi S o 808 then cFi S o 808 / 10 else 0) < rWt S (cRf S b 203) (rN S (cRf S b 203)) ∨ cFi S b 201 < 2 * cFi S s 602 then 5 else 0

def tbX7_causeOfSize : List (Nat × xHint) := [(0, .aload_n 0, 0, 0, 0, []), (1, .aload_n 2, 2, 0, 0, []), (2, .invokevirtual 445, 0, 2, 8, []), (5, .aload_n 1, 1, 0, 0, []), (6, .getfield 232, 2, 3, 2, []), (9, .invokevirtual 338, 1, 1, 5, []), (12, .iconst 2, 0, 0, 0, []), (13, .iadd, 0, 0, 0, []), (14, .if_icmp .ge 5, 19, 0, 0, []), (17, .iconst 3, 0, 0, 0, []), (18, .ireturn, 0, 0, 0, []), (19, .aload_n 2, 2, 0, 0, []), (20, .aload_n 1, 1, 0, 0, []), (21, .getfield 232, 2, 3, 2, []), (24, .invokevirtual 488, 2, 2, 6, []), (27, .ifCond .eq 5, 32, 0, 0, []), (30, .iconst 4, 0, 0, 0, []), (31, .ireturn, 0, 0, 0, []), (32, .aload_n 1, 1, 0, 0, []), (33, .getfield 232, 2, 3, 2, []), (36, .invokevirtual 335, 3, 1, 5, []), (39, .aload_n 1, 1, 0, 0, []), (40, .iload_n 3, 3, 0, 0, []), (41, .aload_n 0, 0, 0, 0, []), (42, .getfield 81, 8, 8, 0, []), (45, .invokevirtual 294, 4, 3, 2, []), (48, .if_icmp .gt 16, 64, 0, 0, []), (51, .aload_n 1, 1, 0, 0, []), (52, .getfield 485, 2, 1, 0, []), (55, .iconst 2, 0, 0, 0, []), (56, .aload_n 2, 2, 0, 0, []), (57, .getfield 87, 6, 2, 0, []), (60, .imul, 0, 0, 0, []), (61, .if_icmp .ge 7, 68, 0, 0, []), (64, .iconst 1, 0, 0, 0, []), (65, .goto 4, 69, 0, 0, []), (68, .iconst 0, 0, 0, 0, []), (69, .istore 4, 4, 0, 0, []), (71, .iload 4, 4, 0, 0, []), (73, .ifCond .eq 7, 80, 0, 0, []), (76, .iconst 5, 0, 0, 0, []), (77, .goto 4, 81, 0, 0, []), (80, .iconst 0, 0, 0, 0, []), (81, .ireturn, 0, 0, 0, [])]
def clX7_causeOfSize : List (Instr × Nat × Nat × Nat) := [(.invokevirtual 445, 0, 2, 8), (.invokevirtual 338, 1, 1, 5), (.invokevirtual 488, 2, 2, 6), (.invokevirtual 335, 3, 1, 5), (.invokevirtual 294, 4, 3, 2)]
def thX7_causeOfSize : List (Nat × Nat) := []
theorem ckX7_causeOfSize : tbX7_causeOfSize.all (xRow RX7 cX7_causeOfSize wsX7_causeOfSize vwCl [2, 6, 8] clX7_causeOfSize thX7_causeOfSize 5 (yX7_causeOfSize.name == "<init>") (some .int)) = true := xRow_q 0xac030400a70807009904150436030400a7040700a2685700b42c05e501b42b1000a32601b65100b42a1d2b4f01b6e800b42bac07050099e801b6e800b42b2cac060500a260055201b6e800b42bbd01b62c2a 82 (by decide +kernel) (by decide +kernel)
theorem usX7_causeOfSize : xUse wsX7_causeOfSize vwCl [2, 6, 8] = true := xUse_g rfl (lw_good lwl_X7_causeOfSize lwl_X10 (by decide +kernel)) (xUse_g rfl (lw_good lwl_X7_causeOfSize lwl_X50 (by decide +kernel)) (xUse_g rfl (lw_good lwl_X7_causeOfSize lwl_X70 (by decide +kernel)) xUse_n))
theorem tbX7_causeOfSize_0 {k : Instr → Nat → Nat → Nat → List Nat → Prop} : xse (xFind tbX7_causeOfSize 0) k = k (.aload_n 0) 0 0 0 [] := rfl
theorem tbX7_causeOfSize_1 {k : Instr → Nat → Nat → Nat → List Nat → Prop} : xse (xFind tbX7_causeOfSize 1) k = k (.aload_n 2) 2 0 0 [] := rfl
theorem tbX7_causeOfSize_2 {k : Instr → Nat → Nat → Nat → List Nat → Prop} : xse (xFind tbX7_causeOfSize 2) k = k (.invokevirtual 445) 0 2 8 [] := rfl
theorem tbX7_causeOfSize_5 {k : Instr → Nat → Nat → Nat → List Nat → Prop} : xse (xFind tbX7_causeOfSize 5) k = k (.aload_n 1) 1 0 0 [] := rfl
theorem tbX7_causeOfSize_6 {k : Instr → Nat → Nat → Nat → List Nat → Prop} : xse (xFind tbX7_causeOfSize 6) k = k (.getfield 232) 2 3 2 [] := rfl
theorem tbX7_causeOfSize_9 {k : Instr → Nat → Nat → Nat → List Nat → Prop} : xse (xFind tbX7_causeOfSize 9) k = k (.invokevirtual 338) 1 1 5 [] := rfl
theorem tbX7_causeOfSize_12 {k : Instr → Nat → Nat → Nat → List Nat → Prop} : xse (xFind tbX7_causeOfSize 12) k = k (.iconst 2) 0 0 0 [] := rfl
theorem tbX7_causeOfSize_13 {k : Instr → Nat → Nat → Nat → List Nat → Prop} : xse (xFind tbX7_causeOfSize 13) k = k (.iadd) 0 0 0 [] := rfl
theorem tbX7_causeOfSize_14 {k : Instr → Nat → Nat → Nat → List Nat → Prop} : xse (xFind tbX7_causeOfSize 14) k = k (.if_icmp .ge 5) 19 0 0 [] := rfl
theorem tbX7_causeOfSize_17 {k : Instr → Nat → Nat → Nat → List Nat → Prop} : xse (xFind tbX7_causeOfSize 17) k = k (.iconst 3) 0 0 0 [] := rfl
theorem tbX7_causeOfSize_18 {k : Instr → Nat → Nat → Nat → List Nat → Prop} : xse (xFind tbX7_causeOfSize 18) k = k (.ireturn) 0 0 0 [] := rfl
theorem tbX7_causeOfSize_19 {k : Instr → Nat → Nat → Nat → List Nat → Prop} : xse (xFind tbX7_causeOfSize 19) k = k (.aload_n 2) 2 0 0 [] := rfl
theorem tbX7_causeOfSize_20 {k : Instr → Nat → Nat → Nat → List Nat → Prop} : xse (xFind tbX7_causeOfSize 20) k = k (.aload_n 1) 1 0 0 [] := rfl
theorem tbX7_causeOfSize_21 {k : Instr → Nat → Nat → Nat → List Nat → Prop} : xse (xFind tbX7_causeOfSize 21) k = k (.getfield 232) 2 3 2 [] := rfl
theorem tbX7_causeOfSize_24 {k : Instr → Nat → Nat → Nat → List Nat → Prop} : xse (xFind tbX7_causeOfSize 24) k = k (.invokevirtual 488) 2 2 6 [] := rfl
theorem tbX7_causeOfSize_27 {k : Instr → Nat → Nat → Nat → List Nat → Prop} : xse (xFind tbX7_causeOfSize 27) k = k (.ifCond .eq 5) 32 0 0 [] := rfl
theorem tbX7_causeOfSize_30 {k : Instr → Nat → Nat → Nat → List Nat → Prop} : xse (xFind tbX7_causeOfSize 30) k = k (.iconst 4) 0 0 0 [] := rfl
theorem tbX7_causeOfSize_31 {k : Instr → Nat → Nat → Nat → List Nat → Prop} : xse (xFind tbX7_causeOfSize 31) k = k (.ireturn) 0 0 0 [] := rfl
theorem tbX7_causeOfSize_32 {k : Instr → Nat → Nat → Nat → List Nat → Prop} : xse (xFind tbX7_causeOfSize 32) k = k (.aload_n 1) 1 0 0 [] := rfl
theorem tbX7_causeOfSize_33 {k : Instr → Nat → Nat → Nat → List Nat → Prop} : xse (xFind tbX7_causeOfSize 33) k = k (.getfield 232) 2 3 2 [] := rfl
theorem tbX7_causeOfSize_36 {k : Instr → Nat → Nat → Nat → List Nat → Prop} : xse (xFind tbX7_causeOfSize 36) k = k (.invokevirtual 335) 3 1 5 [] := rfl
theorem tbX7_causeOfSize_39 {k : Instr → Nat → Nat → Nat → List Nat → Prop} : xse (xFind tbX7_causeOfSize 39) k = k (.aload_n 1) 1 0 0 [] := rfl
theorem tbX7_causeOfSize_40 {k : Instr → Nat → Nat → Nat → List Nat → Prop} : xse (xFind tbX7_causeOfSize 40) k = k (.iload_n 3) 3 0 0 [] := rfl
theorem tbX7_causeOfSize_41 {k : Instr → Nat → Nat → Nat → List Nat → Prop} : xse (xFind tbX7_causeOfSize 41) k = k (.aload_n 0) 0 0 0 [] := rfl
theorem tbX7_causeOfSize_42 {k : Instr → Nat → Nat → Nat → List Nat → Prop} : xse (xFind tbX7_causeOfSize 42) k = k (.getfield 81) 8 8 0 [] := rfl
theorem tbX7_causeOfSize_45 {k : Instr → Nat → Nat → Nat → List Nat → Prop} : xse (xFind tbX7_causeOfSize 45) k = k (.invokevirtual 294) 4 3 2 [] := rfl
theorem tbX7_causeOfSize_48 {k : Instr → Nat → Nat → Nat → List Nat → Prop} : xse (xFind tbX7_causeOfSize 48) k = k (.if_icmp .gt 16) 64 0 0 [] := rfl
theorem tbX7_causeOfSize_51 {k : Instr → Nat → Nat → Nat → List Nat → Prop} : xse (xFind tbX7_causeOfSize 51) k = k (.aload_n 1) 1 0 0 [] := rfl
theorem tbX7_causeOfSize_52 {k : Instr → Nat → Nat → Nat → List Nat → Prop} : xse (xFind tbX7_causeOfSize 52) k = k (.getfield 485) 2 1 0 [] := rfl
theorem tbX7_causeOfSize_55 {k : Instr → Nat → Nat → Nat → List Nat → Prop} : xse (xFind tbX7_causeOfSize 55) k = k (.iconst 2) 0 0 0 [] := rfl
theorem tbX7_causeOfSize_56 {k : Instr → Nat → Nat → Nat → List Nat → Prop} : xse (xFind tbX7_causeOfSize 56) k = k (.aload_n 2) 2 0 0 [] := rfl
theorem tbX7_causeOfSize_57 {k : Instr → Nat → Nat → Nat → List Nat → Prop} : xse (xFind tbX7_causeOfSize 57) k = k (.getfield 87) 6 2 0 [] := rfl
theorem tbX7_causeOfSize_60 {k : Instr → Nat → Nat → Nat → List Nat → Prop} : xse (xFind tbX7_causeOfSize 60) k = k (.imul) 0 0 0 [] := rfl
theorem tbX7_causeOfSize_61 {k : Instr → Nat → Nat → Nat → List Nat → Prop} : xse (xFind tbX7_causeOfSize 61) k = k (.if_icmp .ge 7) 68 0 0 [] := rfl
theorem tbX7_causeOfSize_64 {k : Instr → Nat → Nat → Nat → List Nat → Prop} : xse (xFind tbX7_causeOfSize 64) k = k (.iconst 1) 0 0 0 [] := rfl
theorem tbX7_causeOfSize_65 {k : Instr → Nat → Nat → Nat → List Nat → Prop} : xse (xFind tbX7_causeOfSize 65) k = k (.goto 4) 69 0 0 [] := rfl
theorem tbX7_causeOfSize_68 {k : Instr → Nat → Nat → Nat → List Nat → Prop} : xse (xFind tbX7_causeOfSize 68) k = k (.iconst 0) 0 0 0 [] := rfl
theorem tbX7_causeOfSize_69 {k : Instr → Nat → Nat → Nat → List Nat → Prop} : xse (xFind tbX7_causeOfSize 69) k = k (.istore 4) 4 0 0 [] := rfl
theorem tbX7_causeOfSize_71 {k : Instr → Nat → Nat → Nat → List Nat → Prop} : xse (xFind tbX7_causeOfSize 71) k = k (.iload 4) 4 0 0 [] := rfl
theorem tbX7_causeOfSize_73 {k : Instr → Nat → Nat → Nat → List Nat → Prop} : xse (xFind tbX7_causeOfSize 73) k = k (.ifCond .eq 7) 80 0 0 [] := rfl
theorem tbX7_causeOfSize_76 {k : Instr → Nat → Nat → Nat → List Nat → Prop} : xse (xFind tbX7_causeOfSize 76) k = k (.iconst 5) 0 0 0 [] := rfl
theorem tbX7_causeOfSize_77 {k : Instr → Nat → Nat → Nat → List Nat → Prop} : xse (xFind tbX7_causeOfSize 77) k = k (.goto 4) 81 0 0 [] := rfl
theorem tbX7_causeOfSize_80 {k : Instr → Nat → Nat → Nat → List Nat → Prop} : xse (xFind tbX7_causeOfSize 80) k = k (.iconst 0) 0 0 0 [] := rfl
theorem tbX7_causeOfSize_81 {k : Instr → Nat → Nat → Nat → List Nat → Prop} : xse (xFind tbX7_causeOfSize 81) k = k (.ireturn) 0 0 0 [] := rfl

def spX7_causeOfSize (W9 : xWd) : xSp cS := (fun av S => (0, 0), fun av S K => ∃ (a : Nat) (b : Nat) (s : Nat) (u : Int32), av = [.ref a, .ref b, .ref s, .int u] ∧ ((u = 0 ∨ u = 1) ∧ (cK S a = 9 ∧ bOk S b ∧ cK S s = 7 ∧ K (rI (cSz S a b s u)) S)))
theorem spcX7_causeOfSize {av : List Value} {S : cS} {W9 : xWd} : (spX7_causeOfSize W9).1 av S = (0, 0) := rfl
theorem spwX7_causeOfSize {S : cS} {W9 : xWd} {K : xRes → cS → Prop} {a : Nat} {b : Nat} {s : Nat} {u : Int32} : (spX7_causeOfSize W9).2 [.ref a, .ref b, .ref s, .int u] S K = ((u = 0 ∨ u = 1) ∧ (cK S a = 9 ∧ bOk S b ∧ cK S s = 7 ∧ K (rI (cSz S a b s u)) S)) :=
  propext ⟨fun h => by
    simp only [spX7_causeOfSize] at h
    obtain ⟨_, _, _, _, e, h⟩ := h
    simp only [List.cons.injEq, Value.int.injEq, Value.ref.injEq, rf_eq, and_true, true_and] at e
    obtain ⟨rfl, rfl, rfl, rfl⟩ := e
    exact h, fun h => ⟨_, _, _, _, rfl, h⟩⟩

def callX7_causeOfSize (W9 : xWd) : Nat → Option (xSp cS) := fun n => match n with | 0 => some (spX7_waterOf W9) | 1 => some (spX4_draught W9) | 2 => some (spX5_isTooSmallFor W9) | 3 => some (spX4_weight W9) | 4 => some (spX1_push W9) | _ => none

theorem callX7_causeOfSize_0 {W9 : xWd} {k : xSp cS → Prop} : xcs (callX7_causeOfSize W9 0) k = k (spX7_waterOf W9) := rfl

theorem callX7_causeOfSize_1 {W9 : xWd} {k : xSp cS → Prop} : xcs (callX7_causeOfSize W9 1) k = k (spX4_draught W9) := rfl

theorem callX7_causeOfSize_2 {W9 : xWd} {k : xSp cS → Prop} : xcs (callX7_causeOfSize W9 2) k = k (spX5_isTooSmallFor W9) := rfl

theorem callX7_causeOfSize_3 {W9 : xWd} {k : xSp cS → Prop} : xcs (callX7_causeOfSize W9 3) k = k (spX4_weight W9) := rfl

theorem callX7_causeOfSize_4 {W9 : xWd} {k : xSp cS → Prop} : xcs (callX7_causeOfSize W9 4) k = k (spX1_push W9) := rfl

theorem crX7_causeOfSize (l : Launch) (hl : l.stackTraces = false) (W9 : xWd) : xCallsOK l W9 (cI) (callX7_causeOfSize W9) clX7_causeOfSize RX7 wsX7_causeOfSize 4 86 5 := by
  intro E A p e R s m args below meth c hI hF hL X
  exact List.forall_mem_cons.mpr ⟨⟨_, rfl, xCR_V X (by rw [hI]; exact (semX7_waterOf l hl W9)) gX7_causeOfSize_X7_waterOf rfl rfl (by decide +kernel) (by rw [hF, hL]; decide)⟩,
    List.forall_mem_cons.mpr ⟨⟨_, rfl, xCR_V X (by rw [hI]; exact (semX4_draught l hl W9)) gX7_causeOfSize_X4_draught rfl rfl (by decide +kernel) (by rw [hF, hL]; decide)⟩,
    List.forall_mem_cons.mpr ⟨⟨_, rfl, xCR_V X (by rw [hI]; exact (semX5_isTooSmallFor l hl W9)) gX7_causeOfSize_X5_isTooSmallFor rfl rfl (by decide +kernel) (by rw [hF, hL]; decide)⟩,
    List.forall_mem_cons.mpr ⟨⟨_, rfl, xCR_V X (by rw [hI]; exact (semX4_weight l hl W9)) gX7_causeOfSize_X4_weight rfl rfl (by decide +kernel) (by rw [hF, hL]; decide)⟩,
    List.forall_mem_cons.mpr ⟨⟨_, rfl, xCR_V X (by rw [hI]; exact (semX1_push l hl W9)) gX7_causeOfSize_X1_push rfl rfl (by decide +kernel) (by rw [hF, hL]; decide)⟩,
    fun _ h => nomatch h⟩⟩⟩⟩⟩

set_option maxHeartbeats 4000000 in
set_option maxRecDepth 20000 in
theorem semX7_causeOfSize (l : Launch) (hl : l.stackTraces = false) (W9 : xWd) : xSem l W9 (cI) yX7_causeOfSize wsX7_causeOfSize 4 86 (spX7_causeOfSize W9) := by
  refine xSem_of (call := callX7_causeOfSize W9) (thrf := fun _ => "") cI_law (by decide +kernel) rfl ckX7_causeOfSize usX7_causeOfSize (crX7_causeOfSize l hl W9) xThrOK_nil ?_ ?_
  · intro av S KF h
    obtain ⟨a, b, s, u, rfl, h⟩ := h
    exact ⟨by intro v hv; simp only [List.mem_cons, List.not_mem_nil, or_false] at hv; rcases hv with rfl | rfl | rfl | rfl <;> first | rfl | exact cat_rf, Nat.le_of_ble_eq_true rfl⟩
  intro av S KF h G hG
  obtain ⟨a, b, s, u, rfl, h⟩ := h
  rw [show (spX7_causeOfSize W9).1 _ S = _ from spcX7_causeOfSize] at hG
  try dsimp only at hG
  change G 0 [some (.ref a), some (.ref b), some (.ref s), some (.int u), none] [] S 0 0
  obtain ⟨hu, h0, ⟨h1, ⟨h2, h2b⟩, h3⟩, h4, h⟩ := h
  have h5 := h3.1
  refine xgo0 hG (fun fu hfu => ?_)
  clear hG
  simp only [↓callX7_causeOfSize_0, ↓callX7_causeOfSize_1, ↓callX7_causeOfSize_2, ↓callX7_causeOfSize_3, ↓callX7_causeOfSize_4, ↓cg_2_1, ↓cg_2_3, ↓cg_6_2, ↓cg_8_8, cisa, ki_0, ki_1, ki_2, ki_3, ki_4, ki_5, ↓vm_aload_n, ↓vm_getfield, ↓vm_goto, ↓vm_iadd, ↓vm_iconst, ↓vm_ifCond_eq, ↓vm_if_icmp_ge, ↓vm_if_icmp_gt, ↓vm_iload, ↓vm_iload_n, ↓vm_imul, ↓vm_invokevirtual, ↓vm_ireturn, ↓vm_istore, ↓xc_1, ↓xc_2, ↓xc_3, ↓tbX7_causeOfSize_0, ↓tbX7_causeOfSize_1, ↓tbX7_causeOfSize_2, ↓tbX7_causeOfSize_5, ↓tbX7_causeOfSize_6, ↓tbX7_causeOfSize_9, ↓tbX7_causeOfSize_12, ↓tbX7_causeOfSize_13, ↓tbX7_causeOfSize_14, ↓tbX7_causeOfSize_17, ↓tbX7_causeOfSize_18, ↓tbX7_causeOfSize_19, ↓tbX7_causeOfSize_20, ↓tbX7_causeOfSize_21, ↓tbX7_causeOfSize_24, ↓tbX7_causeOfSize_27, ↓tbX7_causeOfSize_30, ↓tbX7_causeOfSize_31, ↓tbX7_causeOfSize_32, ↓tbX7_causeOfSize_33, ↓tbX7_causeOfSize_36, ↓tbX7_causeOfSize_39, ↓tbX7_causeOfSize_40, ↓tbX7_causeOfSize_41, ↓tbX7_causeOfSize_42, ↓tbX7_causeOfSize_45, ↓tbX7_causeOfSize_48, ↓tbX7_causeOfSize_51, ↓tbX7_causeOfSize_52, ↓tbX7_causeOfSize_55, ↓tbX7_causeOfSize_56, ↓tbX7_causeOfSize_57, ↓tbX7_causeOfSize_60, ↓tbX7_causeOfSize_61, ↓tbX7_causeOfSize_64, ↓tbX7_causeOfSize_65, ↓tbX7_causeOfSize_68, ↓tbX7_causeOfSize_69, ↓tbX7_causeOfSize_71, ↓tbX7_causeOfSize_73, ↓tbX7_causeOfSize_76, ↓tbX7_causeOfSize_77, ↓tbX7_causeOfSize_80, ↓tbX7_causeOfSize_81, hfu, xstep0, xJ1_hit, xJ1_go, xJ2_hit1, xJ2_hit2, xJ2_go, ↓xif_t, ↓xif_f, seval, ↓xca_eq, ↓xre_l, ↓xre_r, xmask_t, xmask_f, xmask_nil, ↓xst_eq, xX_eq, eI_eq, eMc_eq, eMs_eq, eF_eq, eThr_eq, ↓xS1_mk, ↓xSI_mk, ↓xSR_mk, ↓xLI_0, ↓xLI_s, ↓xLR_0, ↓xLR_s, vRef_ref, vRef_null, vRef_rf, cat_int, cat_ref, cat_null, cat_rf, rf_some, rf_none, rf_null, rf_eq, rf_ref, ref_rf, ref_null, ref_ref, xOk_0, xOk_1, xOk_2r, xOk_2n, xOk_2f, vOpt_rf, vOpt_ref, vOpt_null, List.set_cons_zero, List.set_cons_succ, List.take_succ_cons, List.take_zero, List.drop_succ_cons, List.drop_zero, List.reverse_cons, List.reverse_nil, List.nil_append, List.cons_append, List.append_nil, List.length_cons, List.length_nil, List.map_cons, List.map_nil, List.sum_cons, List.sum_nil, Option.toList_some, Option.toList_none, xRecv_mk, true_and, and_true, true_implies, Nat.reduceAdd, Nat.reduceLeDiff, Nat.zero_le, Nat.le_refl, Nat.add_zero, Nat.zero_add, reduceIte, not_true_eq_false, not_false_eq_true, false_implies, and_self, implies_true, eq_self, Nat.reduceEqDiff, List.cons.injEq, xsn_1, xsn_2, false_and, and_false, or_false, false_or, or_true, true_or, xsn_3, xsn_4, h0, h1, h2, h2b, h3, h4, h5, bi_0, ↓spwX7_waterOf, spcX7_waterOf, ↓spwX4_draught, spcX4_draught, ↓spwX5_isTooSmallFor, spcX5_isTooSmallFor, ↓spwX4_weight, spcX4_weight, ↓spwX1_push, spcX1_push]
  try simp only [xif_e]
  unfold cSz at h
  repeat' (first | with_reducible apply And.intro | with_reducible intro _)
  all_goals grind (splits := 20) [bi]

noncomputable def cHr (S : cS) (s : Nat) (n u : Int32) : Int32 := if cFi S s 604 = 0 then cFi S s 602 + (if u = 0 then cFi S s 605 else 2 * cFi S s 605) else if n ≤ cFi S s 608 then cFi S s 602 + 1 else cFi S s 602 + (if cFi S s 610 = 0 then 3 else 2)
noncomputable def cErl (S : cS) (o b s : Nat) : Int32 :=
  if 0 < cFi S b 205 then 1
  else if ¬ cFi S s 603 = 0 ∨ (¬ cFi S o 810 = 0 ∧ bi (cFi S b 206 < cFi S b 210) = 0 ∧ ¬ cFi S s 607 = 0) then 2
  else if ¬ cSz S o b s (bi (cFi S b 206 < cFi S b 210)) = 0 then cSz S o b s (bi (cFi S b 206 < cFi S b 210))
  else if cFi S b 204 < cFi S b 201 * cHr S s (nI (rN S (cRf S b 203))) (bi (cFi S b 206 < cFi S b 210)) then 6 else 0

def tbX7_causeAheadOfMeeting : List (Nat × xHint) := [(0, .aload_n 1, 1, 0, 0, []), (1, .invokevirtual 456, 0, 1, 2, []), (4, .istore_n 3, 3, 0, 0, []), (5, .aload_n 1, 1, 0, 0, []), (6, .getfield 255, 2, 5, 0, []), (9, .ifCond .le 5, 14, 0, 0, []), (12, .iconst 1, 0, 0, 0, []), (13, .ireturn, 0, 0, 0, []), (14, .aload_n 2, 2, 0, 0, []), (15, .getfield 90, 6, 3, 1, []), (18, .ifCond .ne 21, 39, 0, 0, []), (21, .aload_n 0, 0, 0, 0, []), (22, .getfield 94, 8, 10, 1, []), (25, .ifCond .eq 16, 41, 0, 0, []), (28, .iload_n 3, 3, 0, 0, []), (29, .ifCond .ne 12, 41, 0, 0, []), (32, .aload_n 2, 2, 0, 0, []), (33, .getfield 482, 6, 7, 1, []), (36, .ifCond .eq 5, 41, 0, 0, []), (39, .iconst 2, 0, 0, 0, []), (40, .ireturn, 0, 0, 0, []), (41, .aload_n 0, 0, 0, 0, []), (42, .aload_n 1, 1, 0, 0, []), (43, .aload_n 2, 2, 0, 0, []), (44, .iload_n 3, 3, 0, 0, []), (45, .invokevirtual 316, 1, 4, 8, []), (48, .istore 4, 4, 0, 0, []), (50, .iload 4, 4, 0, 0, []), (52, .ifCond .eq 6, 58, 0, 0, []), (55, .iload 4, 4, 0, 0, []), (57, .ireturn, 0, 0, 0, []), (58, .aload_n 1, 1, 0, 0, []), (59, .getfield 226, 2, 4, 0, []), (62, .aload_n 1, 1, 0, 0, []), (63, .getfield 485, 2, 1, 0, []), (66, .aload_n 2, 2, 0, 0, []), (67, .aload_n 1, 1, 0, 0, []), (68, .getfield 232, 2, 3, 2, []), (71, .invokevirtual 101, 2, 1, 5, []), (74, .iload_n 3, 3, 0, 0, []), (75, .invokevirtual 320, 3, 3, 6, []), (78, .imul, 0, 0, 0, []), (79, .if_icmp .ge 8, 87, 0, 0, []), (82, .bipush 6, 0, 0, 0, []), (84, .goto 4, 88, 0, 0, []), (87, .iconst 0, 0, 0, 0, []), (88, .ireturn, 0, 0, 0, [])]
def clX7_causeAheadOfMeeting : List (Instr × Nat × Nat × Nat) := [(.invokevirtual 456, 0, 1, 2), (.invokevirtual 316, 1, 4, 8), (.invokevirtual 101, 2, 1, 5), (.invokevirtual 320, 3, 3, 6)]
def thX7_causeAheadOfMeeting : List (Nat × Nat) := []
theorem ckX7_causeAheadOfMeeting : tbX7_causeAheadOfMeeting.all (xRow RX7 cX7_causeAheadOfMeeting wsX7_causeAheadOfMeeting vwCl [2, 6, 8] clX7_causeAheadOfMeeting thX7_causeAheadOfMeeting 5 (yX7_causeAheadOfMeeting.name == "<init>") (some .int)) = true := xRow_q 0xac030400a706100800a2684001b61d6500b6e800b42b2ce501b42be200b42bac0415060099041504363c01b61d2c2b2aac05050099e201b42c0c009a1d1000995e00b42a15009a5a00b42cac0405009eff00b42b3ec801b62b 89 (by decide +kernel) (by decide +kernel)
theorem usX7_causeAheadOfMeeting : xUse wsX7_causeAheadOfMeeting vwCl [2, 6, 8] = true := xUse_g rfl (lw_good lwl_X7_causeAheadOfMeeting lwl_X10 (by decide +kernel)) (xUse_g rfl (lw_good lwl_X7_causeAheadOfMeeting lwl_X50 (by decide +kernel)) (xUse_g rfl (lw_good lwl_X7_causeAheadOfMeeting lwl_X70 (by decide +kernel)) xUse_n))
theorem tbX7_causeAheadOfMeeting_0 {k : Instr → Nat → Nat → Nat → List Nat → Prop} : xse (xFind tbX7_causeAheadOfMeeting 0) k = k (.aload_n 1) 1 0 0 [] := rfl
theorem tbX7_causeAheadOfMeeting_1 {k : Instr → Nat → Nat → Nat → List Nat → Prop} : xse (xFind tbX7_causeAheadOfMeeting 1) k = k (.invokevirtual 456) 0 1 2 [] := rfl
theorem tbX7_causeAheadOfMeeting_4 {k : Instr → Nat → Nat → Nat → List Nat → Prop} : xse (xFind tbX7_causeAheadOfMeeting 4) k = k (.istore_n 3) 3 0 0 [] := rfl
theorem tbX7_causeAheadOfMeeting_5 {k : Instr → Nat → Nat → Nat → List Nat → Prop} : xse (xFind tbX7_causeAheadOfMeeting 5) k = k (.aload_n 1) 1 0 0 [] := rfl
theorem tbX7_causeAheadOfMeeting_6 {k : Instr → Nat → Nat → Nat → List Nat → Prop} : xse (xFind tbX7_causeAheadOfMeeting 6) k = k (.getfield 255) 2 5 0 [] := rfl
theorem tbX7_causeAheadOfMeeting_9 {k : Instr → Nat → Nat → Nat → List Nat → Prop} : xse (xFind tbX7_causeAheadOfMeeting 9) k = k (.ifCond .le 5) 14 0 0 [] := rfl
theorem tbX7_causeAheadOfMeeting_12 {k : Instr → Nat → Nat → Nat → List Nat → Prop} : xse (xFind tbX7_causeAheadOfMeeting 12) k = k (.iconst 1) 0 0 0 [] := rfl
theorem tbX7_causeAheadOfMeeting_13 {k : Instr → Nat → Nat → Nat → List Nat → Prop} : xse (xFind tbX7_causeAheadOfMeeting 13) k = k (.ireturn) 0 0 0 [] := rfl
theorem tbX7_causeAheadOfMeeting_14 {k : Instr → Nat → Nat → Nat → List Nat → Prop} : xse (xFind tbX7_causeAheadOfMeeting 14) k = k (.aload_n 2) 2 0 0 [] := rfl
theorem tbX7_causeAheadOfMeeting_15 {k : Instr → Nat → Nat → Nat → List Nat → Prop} : xse (xFind tbX7_causeAheadOfMeeting 15) k = k (.getfield 90) 6 3 1 [] := rfl
theorem tbX7_causeAheadOfMeeting_18 {k : Instr → Nat → Nat → Nat → List Nat → Prop} : xse (xFind tbX7_causeAheadOfMeeting 18) k = k (.ifCond .ne 21) 39 0 0 [] := rfl
theorem tbX7_causeAheadOfMeeting_21 {k : Instr → Nat → Nat → Nat → List Nat → Prop} : xse (xFind tbX7_causeAheadOfMeeting 21) k = k (.aload_n 0) 0 0 0 [] := rfl
theorem tbX7_causeAheadOfMeeting_22 {k : Instr → Nat → Nat → Nat → List Nat → Prop} : xse (xFind tbX7_causeAheadOfMeeting 22) k = k (.getfield 94) 8 10 1 [] := rfl
theorem tbX7_causeAheadOfMeeting_25 {k : Instr → Nat → Nat → Nat → List Nat → Prop} : xse (xFind tbX7_causeAheadOfMeeting 25) k = k (.ifCond .eq 16) 41 0 0 [] := rfl
theorem tbX7_causeAheadOfMeeting_28 {k : Instr → Nat → Nat → Nat → List Nat → Prop} : xse (xFind tbX7_causeAheadOfMeeting 28) k = k (.iload_n 3) 3 0 0 [] := rfl
theorem tbX7_causeAheadOfMeeting_29 {k : Instr → Nat → Nat → Nat → List Nat → Prop} : xse (xFind tbX7_causeAheadOfMeeting 29) k = k (.ifCond .ne 12) 41 0 0 [] := rfl
theorem tbX7_causeAheadOfMeeting_32 {k : Instr → Nat → Nat → Nat → List Nat → Prop} : xse (xFind tbX7_causeAheadOfMeeting 32) k = k (.aload_n 2) 2 0 0 [] := rfl
theorem tbX7_causeAheadOfMeeting_33 {k : Instr → Nat → Nat → Nat → List Nat → Prop} : xse (xFind tbX7_causeAheadOfMeeting 33) k = k (.getfield 482) 6 7 1 [] := rfl
theorem tbX7_causeAheadOfMeeting_36 {k : Instr → Nat → Nat → Nat → List Nat → Prop} : xse (xFind tbX7_causeAheadOfMeeting 36) k = k (.ifCond .eq 5) 41 0 0 [] := rfl
theorem tbX7_causeAheadOfMeeting_39 {k : Instr → Nat → Nat → Nat → List Nat → Prop} : xse (xFind tbX7_causeAheadOfMeeting 39) k = k (.iconst 2) 0 0 0 [] := rfl
theorem tbX7_causeAheadOfMeeting_40 {k : Instr → Nat → Nat → Nat → List Nat → Prop} : xse (xFind tbX7_causeAheadOfMeeting 40) k = k (.ireturn) 0 0 0 [] := rfl
theorem tbX7_causeAheadOfMeeting_41 {k : Instr → Nat → Nat → Nat → List Nat → Prop} : xse (xFind tbX7_causeAheadOfMeeting 41) k = k (.aload_n 0) 0 0 0 [] := rfl
theorem tbX7_causeAheadOfMeeting_42 {k : Instr → Nat → Nat → Nat → List Nat → Prop} : xse (xFind tbX7_causeAheadOfMeeting 42) k = k (.aload_n 1) 1 0 0 [] := rfl
theorem tbX7_causeAheadOfMeeting_43 {k : Instr → Nat → Nat → Nat → List Nat → Prop} : xse (xFind tbX7_causeAheadOfMeeting 43) k = k (.aload_n 2) 2 0 0 [] := rfl
theorem tbX7_causeAheadOfMeeting_44 {k : Instr → Nat → Nat → Nat → List Nat → Prop} : xse (xFind tbX7_causeAheadOfMeeting 44) k = k (.iload_n 3) 3 0 0 [] := rfl
theorem tbX7_causeAheadOfMeeting_45 {k : Instr → Nat → Nat → Nat → List Nat → Prop} : xse (xFind tbX7_causeAheadOfMeeting 45) k = k (.invokevirtual 316) 1 4 8 [] := rfl
theorem tbX7_causeAheadOfMeeting_48 {k : Instr → Nat → Nat → Nat → List Nat → Prop} : xse (xFind tbX7_causeAheadOfMeeting 48) k = k (.istore 4) 4 0 0 [] := rfl
theorem tbX7_causeAheadOfMeeting_50 {k : Instr → Nat → Nat → Nat → List Nat → Prop} : xse (xFind tbX7_causeAheadOfMeeting 50) k = k (.iload 4) 4 0 0 [] := rfl
theorem tbX7_causeAheadOfMeeting_52 {k : Instr → Nat → Nat → Nat → List Nat → Prop} : xse (xFind tbX7_causeAheadOfMeeting 52) k = k (.ifCond .eq 6) 58 0 0 [] := rfl
theorem tbX7_causeAheadOfMeeting_55 {k : Instr → Nat → Nat → Nat → List Nat → Prop} : xse (xFind tbX7_causeAheadOfMeeting 55) k = k (.iload 4) 4 0 0 [] := rfl
theorem tbX7_causeAheadOfMeeting_57 {k : Instr → Nat → Nat → Nat → List Nat → Prop} : xse (xFind tbX7_causeAheadOfMeeting 57) k = k (.ireturn) 0 0 0 [] := rfl
theorem tbX7_causeAheadOfMeeting_58 {k : Instr → Nat → Nat → Nat → List Nat → Prop} : xse (xFind tbX7_causeAheadOfMeeting 58) k = k (.aload_n 1) 1 0 0 [] := rfl
theorem tbX7_causeAheadOfMeeting_59 {k : Instr → Nat → Nat → Nat → List Nat → Prop} : xse (xFind tbX7_causeAheadOfMeeting 59) k = k (.getfield 226) 2 4 0 [] := rfl
theorem tbX7_causeAheadOfMeeting_62 {k : Instr → Nat → Nat → Nat → List Nat → Prop} : xse (xFind tbX7_causeAheadOfMeeting 62) k = k (.aload_n 1) 1 0 0 [] := rfl
theorem tbX7_causeAheadOfMeeting_63 {k : Instr → Nat → Nat → Nat → List Nat → Prop} : xse (xFind tbX7_causeAheadOfMeeting 63) k = k (.getfield 485) 2 1 0 [] := rfl
theorem tbX7_causeAheadOfMeeting_66 {k : Instr → Nat → Nat → Nat → List Nat → Prop} : xse (xFind tbX7_causeAheadOfMeeting 66) k = k (.aload_n 2) 2 0 0 [] := rfl
theorem tbX7_causeAheadOfMeeting_67 {k : Instr → Nat → Nat → Nat → List Nat → Prop} : xse (xFind tbX7_causeAheadOfMeeting 67) k = k (.aload_n 1) 1 0 0 [] := rfl
theorem tbX7_causeAheadOfMeeting_68 {k : Instr → Nat → Nat → Nat → List Nat → Prop} : xse (xFind tbX7_causeAheadOfMeeting 68) k = k (.getfield 232) 2 3 2 [] := rfl
theorem tbX7_causeAheadOfMeeting_71 {k : Instr → Nat → Nat → Nat → List Nat → Prop} : xse (xFind tbX7_causeAheadOfMeeting 71) k = k (.invokevirtual 101) 2 1 5 [] := rfl
theorem tbX7_causeAheadOfMeeting_74 {k : Instr → Nat → Nat → Nat → List Nat → Prop} : xse (xFind tbX7_causeAheadOfMeeting 74) k = k (.iload_n 3) 3 0 0 [] := rfl
theorem tbX7_causeAheadOfMeeting_75 {k : Instr → Nat → Nat → Nat → List Nat → Prop} : xse (xFind tbX7_causeAheadOfMeeting 75) k = k (.invokevirtual 320) 3 3 6 [] := rfl
theorem tbX7_causeAheadOfMeeting_78 {k : Instr → Nat → Nat → Nat → List Nat → Prop} : xse (xFind tbX7_causeAheadOfMeeting 78) k = k (.imul) 0 0 0 [] := rfl
theorem tbX7_causeAheadOfMeeting_79 {k : Instr → Nat → Nat → Nat → List Nat → Prop} : xse (xFind tbX7_causeAheadOfMeeting 79) k = k (.if_icmp .ge 8) 87 0 0 [] := rfl
theorem tbX7_causeAheadOfMeeting_82 {k : Instr → Nat → Nat → Nat → List Nat → Prop} : xse (xFind tbX7_causeAheadOfMeeting 82) k = k (.bipush 6) 0 0 0 [] := rfl
theorem tbX7_causeAheadOfMeeting_84 {k : Instr → Nat → Nat → Nat → List Nat → Prop} : xse (xFind tbX7_causeAheadOfMeeting 84) k = k (.goto 4) 88 0 0 [] := rfl
theorem tbX7_causeAheadOfMeeting_87 {k : Instr → Nat → Nat → Nat → List Nat → Prop} : xse (xFind tbX7_causeAheadOfMeeting 87) k = k (.iconst 0) 0 0 0 [] := rfl
theorem tbX7_causeAheadOfMeeting_88 {k : Instr → Nat → Nat → Nat → List Nat → Prop} : xse (xFind tbX7_causeAheadOfMeeting 88) k = k (.ireturn) 0 0 0 [] := rfl

def spX7_causeAheadOfMeeting (W9 : xWd) : xSp cS := (fun av S => (0, 0), fun av S K => ∃ (a : Nat) (b : Nat) (s : Nat), av = [.ref a, .ref b, .ref s] ∧ (cK S a = 9 ∧ bOk S b ∧ cK S s = 7 ∧ K (rI (cErl S a b s)) S))
theorem spcX7_causeAheadOfMeeting {av : List Value} {S : cS} {W9 : xWd} : (spX7_causeAheadOfMeeting W9).1 av S = (0, 0) := rfl
theorem spwX7_causeAheadOfMeeting {S : cS} {W9 : xWd} {K : xRes → cS → Prop} {a : Nat} {b : Nat} {s : Nat} : (spX7_causeAheadOfMeeting W9).2 [.ref a, .ref b, .ref s] S K = (cK S a = 9 ∧ bOk S b ∧ cK S s = 7 ∧ K (rI (cErl S a b s)) S) :=
  propext ⟨fun h => by
    simp only [spX7_causeAheadOfMeeting] at h
    obtain ⟨_, _, _, e, h⟩ := h
    simp only [List.cons.injEq, Value.int.injEq, Value.ref.injEq, rf_eq, and_true, true_and] at e
    obtain ⟨rfl, rfl, rfl⟩ := e
    exact h, fun h => ⟨_, _, _, rfl, h⟩⟩

def callX7_causeAheadOfMeeting (W9 : xWd) : Nat → Option (xSp cS) := fun n => match n with | 0 => some (spX1_isBoundUp W9) | 1 => some (spX7_causeOfSize W9) | 2 => some (spX4_size W9) | 3 => some (spX5_hoursFor W9) | _ => none

theorem callX7_causeAheadOfMeeting_0 {W9 : xWd} {k : xSp cS → Prop} : xcs (callX7_causeAheadOfMeeting W9 0) k = k (spX1_isBoundUp W9) := rfl

theorem callX7_causeAheadOfMeeting_1 {W9 : xWd} {k : xSp cS → Prop} : xcs (callX7_causeAheadOfMeeting W9 1) k = k (spX7_causeOfSize W9) := rfl

theorem callX7_causeAheadOfMeeting_2 {W9 : xWd} {k : xSp cS → Prop} : xcs (callX7_causeAheadOfMeeting W9 2) k = k (spX4_size W9) := rfl

theorem callX7_causeAheadOfMeeting_3 {W9 : xWd} {k : xSp cS → Prop} : xcs (callX7_causeAheadOfMeeting W9 3) k = k (spX5_hoursFor W9) := rfl

theorem crX7_causeAheadOfMeeting (l : Launch) (hl : l.stackTraces = false) (W9 : xWd) : xCallsOK l W9 (cI) (callX7_causeAheadOfMeeting W9) clX7_causeAheadOfMeeting RX7 wsX7_causeAheadOfMeeting 5 110 5 := by
  intro E A p e R s m args below meth c hI hF hL X
  exact List.forall_mem_cons.mpr ⟨⟨_, rfl, xCR_V X (by rw [hI]; exact (semX1_isBoundUp l hl W9)) gX7_causeAheadOfMeeting_X1_isBoundUp rfl rfl (by decide +kernel) (by rw [hF, hL]; decide)⟩,
    List.forall_mem_cons.mpr ⟨⟨_, rfl, xCR_V X (by rw [hI]; exact (semX7_causeOfSize l hl W9)) gX7_causeAheadOfMeeting_X7_causeOfSize rfl rfl (by decide +kernel) (by rw [hF, hL]; decide)⟩,
    List.forall_mem_cons.mpr ⟨⟨_, rfl, xCR_V X (by rw [hI]; exact (semX4_size l hl W9)) gX7_causeAheadOfMeeting_X4_size rfl rfl (by decide +kernel) (by rw [hF, hL]; decide)⟩,
    List.forall_mem_cons.mpr ⟨⟨_, rfl, xCR_V X (by rw [hI]; exact (semX5_hoursFor l hl W9)) gX7_causeAheadOfMeeting_X5_hoursFor rfl rfl (by decide +kernel) (by rw [hF, hL]; decide)⟩,
    fun _ h => nomatch h⟩⟩⟩⟩

set_option maxHeartbeats 4000000 in
set_option maxRecDepth 20000 in
theorem semX7_causeAheadOfMeeting (l : Launch) (hl : l.stackTraces = false) (W9 : xWd) : xSem l W9 (cI) yX7_causeAheadOfMeeting wsX7_causeAheadOfMeeting 5 110 (spX7_causeAheadOfMeeting W9) := by
  refine xSem_of (call := callX7_causeAheadOfMeeting W9) (thrf := fun _ => "") cI_law (by decide +kernel) rfl ckX7_causeAheadOfMeeting usX7_causeAheadOfMeeting (crX7_causeAheadOfMeeting l hl W9) xThrOK_nil ?_ ?_
  · intro av S KF h
    obtain ⟨a, b, s, rfl, h⟩ := h
    exact ⟨by intro v hv; simp only [List.mem_cons, List.not_mem_nil, or_false] at hv; rcases hv with rfl | rfl | rfl <;> first | rfl | exact cat_rf, Nat.le_of_ble_eq_true rfl⟩
  intro av S KF h G hG
  obtain ⟨a, b, s, rfl, h⟩ := h
  rw [show (spX7_causeAheadOfMeeting W9).1 _ S = _ from spcX7_causeAheadOfMeeting] at hG
  try dsimp only at hG
  change G 0 [some (.ref a), some (.ref b), some (.ref s), none, none] [] S 0 0
  obtain ⟨h0, hB, h4, h⟩ := h
  have h1 := hB.1
  obtain ⟨h2, h2b⟩ := hB.2.1
  have h3 := hB.2.2
  obtain ⟨f1, f2, f3, f4, f5, f6⟩ := rOk_facts h3
  have h5 := h3.2.1
  have h6 : cRf S (cRf S b 203) 505 = rL S (cRf S b 203) := rfl
  have hu := bi_01 (cFi S b 206 < cFi S b 210)
  refine xgo0 hG (fun fu hfu => ?_)
  clear hG
  simp only [↓callX7_causeAheadOfMeeting_0, ↓callX7_causeAheadOfMeeting_1, ↓callX7_causeAheadOfMeeting_2, ↓callX7_causeAheadOfMeeting_3, ↓cg_2_1, ↓cg_2_3, ↓cg_2_4, ↓cg_2_5, ↓cg_6_3, ↓cg_6_7, ↓cg_8_10, cisa, kb_6, kc_6, ki_0, ki_1, ki_2, ↓vm_aload_n, ↓vm_bipush, ↓vm_getfield, ↓vm_goto, ↓vm_iconst, ↓vm_ifCond_eq, ↓vm_ifCond_le, ↓vm_ifCond_ne, ↓vm_if_icmp_ge, ↓vm_iload, ↓vm_iload_n, ↓vm_imul, ↓vm_invokevirtual, ↓vm_ireturn, ↓vm_istore, ↓vm_istore_n, ↓xc_1, ↓xc_3, ↓xc_4, ↓tbX7_causeAheadOfMeeting_0, ↓tbX7_causeAheadOfMeeting_1, ↓tbX7_causeAheadOfMeeting_4, ↓tbX7_causeAheadOfMeeting_5, ↓tbX7_causeAheadOfMeeting_6, ↓tbX7_causeAheadOfMeeting_9, ↓tbX7_causeAheadOfMeeting_12, ↓tbX7_causeAheadOfMeeting_13, ↓tbX7_causeAheadOfMeeting_14, ↓tbX7_causeAheadOfMeeting_15, ↓tbX7_causeAheadOfMeeting_18, ↓tbX7_causeAheadOfMeeting_21, ↓tbX7_causeAheadOfMeeting_22, ↓tbX7_causeAheadOfMeeting_25, ↓tbX7_causeAheadOfMeeting_28, ↓tbX7_causeAheadOfMeeting_29, ↓tbX7_causeAheadOfMeeting_32, ↓tbX7_causeAheadOfMeeting_33, ↓tbX7_causeAheadOfMeeting_36, ↓tbX7_causeAheadOfMeeting_39, ↓tbX7_causeAheadOfMeeting_40, ↓tbX7_causeAheadOfMeeting_41, ↓tbX7_causeAheadOfMeeting_42, ↓tbX7_causeAheadOfMeeting_43, ↓tbX7_causeAheadOfMeeting_44, ↓tbX7_causeAheadOfMeeting_45, ↓tbX7_causeAheadOfMeeting_48, ↓tbX7_causeAheadOfMeeting_50, ↓tbX7_causeAheadOfMeeting_52, ↓tbX7_causeAheadOfMeeting_55, ↓tbX7_causeAheadOfMeeting_57, ↓tbX7_causeAheadOfMeeting_58, ↓tbX7_causeAheadOfMeeting_59, ↓tbX7_causeAheadOfMeeting_62, ↓tbX7_causeAheadOfMeeting_63, ↓tbX7_causeAheadOfMeeting_66, ↓tbX7_causeAheadOfMeeting_67, ↓tbX7_causeAheadOfMeeting_68, ↓tbX7_causeAheadOfMeeting_71, ↓tbX7_causeAheadOfMeeting_74, ↓tbX7_causeAheadOfMeeting_75, ↓tbX7_causeAheadOfMeeting_78, ↓tbX7_causeAheadOfMeeting_79, ↓tbX7_causeAheadOfMeeting_82, ↓tbX7_causeAheadOfMeeting_84, ↓tbX7_causeAheadOfMeeting_87, ↓tbX7_causeAheadOfMeeting_88, hfu, xstep0, xJ1_hit, xJ1_go, xJ2_hit1, xJ2_hit2, xJ2_go, ↓xif_t, ↓xif_f, seval, ↓xca_eq, ↓xre_l, ↓xre_r, xmask_t, xmask_f, xmask_nil, ↓xst_eq, xX_eq, eI_eq, eMc_eq, eMs_eq, eF_eq, eThr_eq, ↓xS1_mk, ↓xSI_mk, ↓xSR_mk, ↓xLI_0, ↓xLI_s, ↓xLR_0, ↓xLR_s, vRef_ref, vRef_null, vRef_rf, cat_int, cat_ref, cat_null, cat_rf, rf_some, rf_none, rf_null, rf_eq, rf_ref, ref_rf, ref_null, ref_ref, xOk_0, xOk_1, xOk_2r, xOk_2n, xOk_2f, vOpt_rf, vOpt_ref, vOpt_null, List.set_cons_zero, List.set_cons_succ, List.take_succ_cons, List.take_zero, List.drop_succ_cons, List.drop_zero, List.reverse_cons, List.reverse_nil, List.nil_append, List.cons_append, List.append_nil, List.length_cons, List.length_nil, List.map_cons, List.map_nil, List.sum_cons, List.sum_nil, Option.toList_some, Option.toList_none, xRecv_mk, true_and, and_true, true_implies, Nat.reduceAdd, Nat.reduceLeDiff, Nat.zero_le, Nat.le_refl, Nat.add_zero, Nat.zero_add, reduceIte, not_true_eq_false, not_false_eq_true, false_implies, and_self, implies_true, eq_self, Nat.reduceEqDiff, List.cons.injEq, xsn_1, xsn_2, false_and, and_false, or_false, false_or, or_true, true_or, xsn_3, xsn_4, h0, hB, h1, h2, h2b, h4, f1, h5, h6, f5, hu, ↓spwX1_isBoundUp, spcX1_isBoundUp, ↓spwX7_causeOfSize, spcX7_causeOfSize, ↓spwX4_size, spcX4_size, ↓spwX5_hoursFor, spcX5_hoursFor]
  try simp only [xif_e]
  unfold cErl cHr at h
  generalize bi (cFi S b 206 < cFi S b 210) = u at *
  repeat' (first | with_reducible apply And.intro | with_reducible intro _)
  all_goals grind (splits := 20)

def cPaid (S : cS) (L : Nat) : Nat → Int32
  | 0 => 0
  | k + 1 => cPaid S L k + cFi S (lG S L k) 309

def tbX7_paidInAll : List (Nat × xHint) := [(0, .iconst 0, 0, 0, 0, []), (1, .istore_n 1, 1, 0, 0, []), (2, .iconst 0, 0, 0, 0, []), (3, .istore_n 2, 2, 0, 0, []), (4, .iload_n 2, 2, 0, 0, []), (5, .aload_n 0, 0, 0, 0, []), (6, .getfield 22, 8, 3, 2, []), (9, .invokevirtual 108, 0, 1, 0, []), (12, .if_icmp .ge 26, 38, 0, 0, []), (15, .iload_n 1, 1, 0, 0, []), (16, .aload_n 0, 0, 0, 0, []), (17, .getfield 22, 8, 3, 2, []), (20, .iload_n 2, 2, 0, 0, []), (21, .invokevirtual 312, 1, 2, 0, []), (24, .checkcast 134, 3, 0, 0, []), (27, .getfield 395, 3, 9, 0, []), (30, .iadd, 0, 0, 0, []), (31, .istore_n 1, 1, 0, 0, []), (32, .iinc 2 1, 2, 0, 0, []), (35, .goto (-31), 4, 0, 0, []), (38, .iload_n 1, 1, 0, 0, []), (39, .ireturn, 0, 0, 0, [])]
def clX7_paidInAll : List (Instr × Nat × Nat × Nat) := [(.invokevirtual 108, 0, 1, 0), (.invokevirtual 312, 1, 2, 0)]
def thX7_paidInAll : List (Nat × Nat) := []
theorem ckX7_paidInAll : tbX7_paidInAll.all (xRow RX7 cX7_paidInAll wsX7_paidInAll vwCl [3, 8] clX7_paidInAll thX7_paidInAll 3 (yX7_paidInAll.name == "<init>") (some .int)) = true := xRow_q 0xac1be1ffa70102843c608b01b48600c03801b61c1600b42a1b1a00a26c00b61600b42a1c3d033c03 40 (by decide +kernel) (by decide +kernel)
theorem usX7_paidInAll : xUse wsX7_paidInAll vwCl [3, 8] = true := xUse_g rfl (lw_good lwl_X7_paidInAll lwl_X20 (by decide +kernel)) (xUse_g rfl (lw_good lwl_X7_paidInAll lwl_X70 (by decide +kernel)) xUse_n)
theorem tbX7_paidInAll_0 {k : Instr → Nat → Nat → Nat → List Nat → Prop} : xse (xFind tbX7_paidInAll 0) k = k (.iconst 0) 0 0 0 [] := rfl
theorem tbX7_paidInAll_1 {k : Instr → Nat → Nat → Nat → List Nat → Prop} : xse (xFind tbX7_paidInAll 1) k = k (.istore_n 1) 1 0 0 [] := rfl
theorem tbX7_paidInAll_2 {k : Instr → Nat → Nat → Nat → List Nat → Prop} : xse (xFind tbX7_paidInAll 2) k = k (.iconst 0) 0 0 0 [] := rfl
theorem tbX7_paidInAll_3 {k : Instr → Nat → Nat → Nat → List Nat → Prop} : xse (xFind tbX7_paidInAll 3) k = k (.istore_n 2) 2 0 0 [] := rfl
theorem tbX7_paidInAll_4 {k : Instr → Nat → Nat → Nat → List Nat → Prop} : xse (xFind tbX7_paidInAll 4) k = k (.iload_n 2) 2 0 0 [] := rfl
theorem tbX7_paidInAll_5 {k : Instr → Nat → Nat → Nat → List Nat → Prop} : xse (xFind tbX7_paidInAll 5) k = k (.aload_n 0) 0 0 0 [] := rfl
theorem tbX7_paidInAll_6 {k : Instr → Nat → Nat → Nat → List Nat → Prop} : xse (xFind tbX7_paidInAll 6) k = k (.getfield 22) 8 3 2 [] := rfl
theorem tbX7_paidInAll_9 {k : Instr → Nat → Nat → Nat → List Nat → Prop} : xse (xFind tbX7_paidInAll 9) k = k (.invokevirtual 108) 0 1 0 [] := rfl
theorem tbX7_paidInAll_12 {k : Instr → Nat → Nat → Nat → List Nat → Prop} : xse (xFind tbX7_paidInAll 12) k = k (.if_icmp .ge 26) 38 0 0 [] := rfl
theorem tbX7_paidInAll_15 {k : Instr → Nat → Nat → Nat → List Nat → Prop} : xse (xFind tbX7_paidInAll 15) k = k (.iload_n 1) 1 0 0 [] := rfl
theorem tbX7_paidInAll_16 {k : Instr → Nat → Nat → Nat → List Nat → Prop} : xse (xFind tbX7_paidInAll 16) k = k (.aload_n 0) 0 0 0 [] := rfl
theorem tbX7_paidInAll_17 {k : Instr → Nat → Nat → Nat → List Nat → Prop} : xse (xFind tbX7_paidInAll 17) k = k (.getfield 22) 8 3 2 [] := rfl
theorem tbX7_paidInAll_20 {k : Instr → Nat → Nat → Nat → List Nat → Prop} : xse (xFind tbX7_paidInAll 20) k = k (.iload_n 2) 2 0 0 [] := rfl
theorem tbX7_paidInAll_21 {k : Instr → Nat → Nat → Nat → List Nat → Prop} : xse (xFind tbX7_paidInAll 21) k = k (.invokevirtual 312) 1 2 0 [] := rfl
theorem tbX7_paidInAll_24 {k : Instr → Nat → Nat → Nat → List Nat → Prop} : xse (xFind tbX7_paidInAll 24) k = k (.checkcast 134) 3 0 0 [] := rfl
theorem tbX7_paidInAll_27 {k : Instr → Nat → Nat → Nat → List Nat → Prop} : xse (xFind tbX7_paidInAll 27) k = k (.getfield 395) 3 9 0 [] := rfl
theorem tbX7_paidInAll_30 {k : Instr → Nat → Nat → Nat → List Nat → Prop} : xse (xFind tbX7_paidInAll 30) k = k (.iadd) 0 0 0 [] := rfl
theorem tbX7_paidInAll_31 {k : Instr → Nat → Nat → Nat → List Nat → Prop} : xse (xFind tbX7_paidInAll 31) k = k (.istore_n 1) 1 0 0 [] := rfl
theorem tbX7_paidInAll_32 {k : Instr → Nat → Nat → Nat → List Nat → Prop} : xse (xFind tbX7_paidInAll 32) k = k (.iinc 2 1) 2 0 0 [] := rfl
theorem tbX7_paidInAll_35 {k : Instr → Nat → Nat → Nat → List Nat → Prop} : xse (xFind tbX7_paidInAll 35) k = k (.goto (-31)) 4 0 0 [] := rfl
theorem tbX7_paidInAll_38 {k : Instr → Nat → Nat → Nat → List Nat → Prop} : xse (xFind tbX7_paidInAll 38) k = k (.iload_n 1) 1 0 0 [] := rfl
theorem tbX7_paidInAll_39 {k : Instr → Nat → Nat → Nat → List Nat → Prop} : xse (xFind tbX7_paidInAll 39) k = k (.ireturn) 0 0 0 [] := rfl

def spX7_paidInAll (W9 : xWd) : xSp cS := (fun av S => (0, 0), fun av S K => ∃ (a : Nat), av = [.ref a] ∧ (cK S a = 9 ∧ cIn S a 803 1 ∧ lAll S (cRf S a 803) 4 ∧ K (rI (cPaid S (cRf S a 803) (lCn S (cRf S a 803)))) S))
theorem spcX7_paidInAll {av : List Value} {S : cS} {W9 : xWd} : (spX7_paidInAll W9).1 av S = (0, 0) := rfl
theorem spwX7_paidInAll {S : cS} {W9 : xWd} {K : xRes → cS → Prop} {a : Nat} : (spX7_paidInAll W9).2 [.ref a] S K = (cK S a = 9 ∧ cIn S a 803 1 ∧ lAll S (cRf S a 803) 4 ∧ K (rI (cPaid S (cRf S a 803) (lCn S (cRf S a 803)))) S) :=
  propext ⟨fun h => by
    simp only [spX7_paidInAll] at h
    obtain ⟨_, e, h⟩ := h
    simp only [List.cons.injEq, Value.int.injEq, Value.ref.injEq, rf_eq, and_true, true_and] at e
    obtain rfl := e
    exact h, fun h => ⟨_, rfl, h⟩⟩

def callX7_paidInAll (W9 : xWd) : Nat → Option (xSp cS) := fun n => match n with | 0 => some (spJx4a65c_size_8abf5 W9) | 1 => some (spJx4a65c_get_915e3 W9) | _ => none

theorem callX7_paidInAll_0 {W9 : xWd} {k : xSp cS → Prop} : xcs (callX7_paidInAll W9 0) k = k (spJx4a65c_size_8abf5 W9) := rfl

theorem callX7_paidInAll_1 {W9 : xWd} {k : xSp cS → Prop} : xcs (callX7_paidInAll W9 1) k = k (spJx4a65c_get_915e3 W9) := rfl

theorem crX7_paidInAll (l : Launch) (hl : l.stackTraces = false) (W9 : xWd) : xCallsOK l W9 (cI) (callX7_paidInAll W9) clX7_paidInAll RX7 wsX7_paidInAll 3 64 3 := by
  intro E A p e R s m args below meth c hI hF hL X
  exact List.forall_mem_cons.mpr ⟨⟨_, rfl, xCR_V X (by rw [hI]; exact (semJx4a65c_size_8abf5 l hl W9)) gX7_paidInAll_Jx4a65c_size_8abf5 rfl rfl (by decide +kernel) (by rw [hF, hL]; decide)⟩,
    List.forall_mem_cons.mpr ⟨⟨_, rfl, xCR_V X (by rw [hI]; exact (semJx4a65c_get_915e3 l hl W9)) gX7_paidInAll_Jx4a65c_get_915e3 rfl rfl (by decide +kernel) (by rw [hF, hL]; decide)⟩,
    fun _ h => nomatch h⟩⟩

set_option maxHeartbeats 4000000 in
set_option maxRecDepth 20000 in
theorem semX7_paidInAll (l : Launch) (hl : l.stackTraces = false) (W9 : xWd) : xSem l W9 (cI) yX7_paidInAll wsX7_paidInAll 3 64 (spX7_paidInAll W9) := by
  refine xSem_of (call := callX7_paidInAll W9) (thrf := fun _ => "") cI_law (by decide +kernel) rfl ckX7_paidInAll usX7_paidInAll (crX7_paidInAll l hl W9) xThrOK_nil ?_ ?_
  · intro av S KF h
    obtain ⟨a, rfl, h⟩ := h
    exact ⟨by intro v hv; simp only [List.mem_cons, List.not_mem_nil, or_false] at hv; rcases hv with rfl <;> first | rfl | exact cat_rf, Nat.le_of_ble_eq_true rfl⟩
  intro av S KF h G hG
  obtain ⟨a, rfl, h⟩ := h
  rw [show (spX7_paidInAll W9).1 _ S = _ from spcX7_paidInAll] at hG
  try dsimp only at hG
  change G 0 [some (.ref a), none, none] [] S 0 0
  obtain ⟨h0, ⟨h1, h2⟩, h3, h⟩ := h

  obtain ⟨f1, f2, f3, f4⟩ := lAll_facts h3
  generalize hL : cRf S a 803 = L at *
  have loop := xloop hG 4 [true, true, true] (fun j lv st S2 cs ss => lv = [some (.ref a), some (.int (cPaid S L j)), some (.int (nI j))] ∧ st = [] ∧ S = S2 ∧ cs = 0 ∧ ss = 0) (lCn S L) (by
      rintro j hj lv st S2 cs ss ⟨rfl, rfl, rfl, rfl, rfl⟩ fu hfu
      obtain ⟨g1, g2⟩ := h3.2 _ hj
      have e0 := ge_nI hj (show lCn S L < 1000 by omega)
      have e2 := lt0_nI hj (show lCn S L < 1000 by omega)
      simp only [↓callX7_paidInAll_0, ↓callX7_paidInAll_1, ↓cg_3_9, ↓cg_8_3, cisa, ki_0, ki_1, ↓vm_aload_n, ↓vm_checkcast, ↓vm_getfield, ↓vm_goto, ↓vm_iadd, ↓vm_iconst, ↓vm_if_icmp_ge, ↓vm_iinc, ↓vm_iload_n, ↓vm_invokevirtual, ↓vm_ireturn, ↓vm_istore_n, ↓xc_1, ↓xc_2, ↓tbX7_paidInAll_0, ↓tbX7_paidInAll_1, ↓tbX7_paidInAll_2, ↓tbX7_paidInAll_3, ↓tbX7_paidInAll_4, ↓tbX7_paidInAll_5, ↓tbX7_paidInAll_6, ↓tbX7_paidInAll_9, ↓tbX7_paidInAll_12, ↓tbX7_paidInAll_15, ↓tbX7_paidInAll_16, ↓tbX7_paidInAll_17, ↓tbX7_paidInAll_20, ↓tbX7_paidInAll_21, ↓tbX7_paidInAll_24, ↓tbX7_paidInAll_27, ↓tbX7_paidInAll_30, ↓tbX7_paidInAll_31, ↓tbX7_paidInAll_32, ↓tbX7_paidInAll_35, ↓tbX7_paidInAll_38, ↓tbX7_paidInAll_39, hfu, xstep0, xJ1_hit, xJ1_go, xJ2_hit1, xJ2_hit2, xJ2_go, ↓xif_t, ↓xif_f, seval, ↓xca_eq, ↓xre_l, ↓xre_r, xmask_t, xmask_f, xmask_nil, ↓xst_eq, xX_eq, eI_eq, eMc_eq, eMs_eq, eF_eq, eThr_eq, ↓xS1_mk, ↓xSI_mk, ↓xSR_mk, ↓xLI_0, ↓xLI_s, ↓xLR_0, ↓xLR_s, vRef_ref, vRef_null, vRef_rf, cat_int, cat_ref, cat_null, cat_rf, rf_some, rf_none, rf_null, rf_eq, rf_ref, ref_rf, ref_null, ref_ref, xOk_0, xOk_1, xOk_2r, xOk_2n, xOk_2f, vOpt_rf, vOpt_ref, vOpt_null, List.set_cons_zero, List.set_cons_succ, List.take_succ_cons, List.take_zero, List.drop_succ_cons, List.drop_zero, List.reverse_cons, List.reverse_nil, List.nil_append, List.cons_append, List.append_nil, List.length_cons, List.length_nil, List.map_cons, List.map_nil, List.sum_cons, List.sum_nil, Option.toList_some, Option.toList_none, xRecv_mk, true_and, and_true, true_implies, Nat.reduceAdd, Nat.reduceLeDiff, Nat.zero_le, Nat.le_refl, Nat.add_zero, Nat.zero_add, reduceIte, not_true_eq_false, not_false_eq_true, false_implies, and_self, implies_true, eq_self, Nat.reduceEqDiff, List.cons.injEq, xsn_1, xsn_2, false_and, and_false, or_false, false_or, or_true, true_or, xsn_3, xsn_4, ↓spwJx4a65c_size_8abf5, spcJx4a65c_size_8abf5, ↓spwJx4a65c_get_915e3, spcJx4a65c_get_915e3, h0, h1, hL, f1, f2, f3, e0, pos_nI (show j < 1000 by omega), e2, ix_nI (show j < 1000 by omega), g1, g2, nI1]
      try simp only [xif_e]
      repeat' (first | rfl | apply And.intro)) (by
      rintro lv st S2 cs ss ⟨rfl, rfl, rfl, rfl, rfl⟩ fu hfu
      simp only [↓callX7_paidInAll_0, ↓callX7_paidInAll_1, ↓cg_3_9, ↓cg_8_3, cisa, ki_0, ki_1, ↓vm_aload_n, ↓vm_checkcast, ↓vm_getfield, ↓vm_goto, ↓vm_iadd, ↓vm_iconst, ↓vm_if_icmp_ge, ↓vm_iinc, ↓vm_iload_n, ↓vm_invokevirtual, ↓vm_ireturn, ↓vm_istore_n, ↓xc_1, ↓xc_2, ↓tbX7_paidInAll_0, ↓tbX7_paidInAll_1, ↓tbX7_paidInAll_2, ↓tbX7_paidInAll_3, ↓tbX7_paidInAll_4, ↓tbX7_paidInAll_5, ↓tbX7_paidInAll_6, ↓tbX7_paidInAll_9, ↓tbX7_paidInAll_12, ↓tbX7_paidInAll_15, ↓tbX7_paidInAll_16, ↓tbX7_paidInAll_17, ↓tbX7_paidInAll_20, ↓tbX7_paidInAll_21, ↓tbX7_paidInAll_24, ↓tbX7_paidInAll_27, ↓tbX7_paidInAll_30, ↓tbX7_paidInAll_31, ↓tbX7_paidInAll_32, ↓tbX7_paidInAll_35, ↓tbX7_paidInAll_38, ↓tbX7_paidInAll_39, hfu, xstep0, xJ1_hit, xJ1_go, xJ2_hit1, xJ2_hit2, xJ2_go, ↓xif_t, ↓xif_f, seval, ↓xca_eq, ↓xre_l, ↓xre_r, xmask_t, xmask_f, xmask_nil, ↓xst_eq, xX_eq, eI_eq, eMc_eq, eMs_eq, eF_eq, eThr_eq, ↓xS1_mk, ↓xSI_mk, ↓xSR_mk, ↓xLI_0, ↓xLI_s, ↓xLR_0, ↓xLR_s, vRef_ref, vRef_null, vRef_rf, cat_int, cat_ref, cat_null, cat_rf, rf_some, rf_none, rf_null, rf_eq, rf_ref, ref_rf, ref_null, ref_ref, xOk_0, xOk_1, xOk_2r, xOk_2n, xOk_2f, vOpt_rf, vOpt_ref, vOpt_null, List.set_cons_zero, List.set_cons_succ, List.take_succ_cons, List.take_zero, List.drop_succ_cons, List.drop_zero, List.reverse_cons, List.reverse_nil, List.nil_append, List.cons_append, List.append_nil, List.length_cons, List.length_nil, List.map_cons, List.map_nil, List.sum_cons, List.sum_nil, Option.toList_some, Option.toList_none, xRecv_mk, true_and, and_true, true_implies, Nat.reduceAdd, Nat.reduceLeDiff, Nat.zero_le, Nat.le_refl, Nat.add_zero, Nat.zero_add, reduceIte, not_true_eq_false, not_false_eq_true, false_implies, and_self, implies_true, eq_self, Nat.reduceEqDiff, List.cons.injEq, xsn_1, xsn_2, false_and, and_false, or_false, false_or, or_true, true_or, xsn_3, xsn_4, ↓spwJx4a65c_size_8abf5, spcJx4a65c_size_8abf5, ↓spwJx4a65c_get_915e3, spcJx4a65c_get_915e3, h0, h1, hL, f1, f3, le_nI_self]
      try simp only [xif_e]
      exact h)
  refine xgo hG (mb := [true, true, true]) (loop 0 (Nat.zero_le _)) (pc := 0) (fun fu hfu => ?_)
  simp only [↓callX7_paidInAll_0, ↓callX7_paidInAll_1, ↓cg_3_9, ↓cg_8_3, cisa, ki_0, ki_1, ↓vm_aload_n, ↓vm_checkcast, ↓vm_getfield, ↓vm_goto, ↓vm_iadd, ↓vm_iconst, ↓vm_if_icmp_ge, ↓vm_iinc, ↓vm_iload_n, ↓vm_invokevirtual, ↓vm_ireturn, ↓vm_istore_n, ↓xc_1, ↓xc_2, ↓tbX7_paidInAll_0, ↓tbX7_paidInAll_1, ↓tbX7_paidInAll_2, ↓tbX7_paidInAll_3, ↓tbX7_paidInAll_4, ↓tbX7_paidInAll_5, ↓tbX7_paidInAll_6, ↓tbX7_paidInAll_9, ↓tbX7_paidInAll_12, ↓tbX7_paidInAll_15, ↓tbX7_paidInAll_16, ↓tbX7_paidInAll_17, ↓tbX7_paidInAll_20, ↓tbX7_paidInAll_21, ↓tbX7_paidInAll_24, ↓tbX7_paidInAll_27, ↓tbX7_paidInAll_30, ↓tbX7_paidInAll_31, ↓tbX7_paidInAll_32, ↓tbX7_paidInAll_35, ↓tbX7_paidInAll_38, ↓tbX7_paidInAll_39, hfu, xstep0, xJ1_hit, xJ1_go, xJ2_hit1, xJ2_hit2, xJ2_go, ↓xif_t, ↓xif_f, seval, ↓xca_eq, ↓xre_l, ↓xre_r, xmask_t, xmask_f, xmask_nil, ↓xst_eq, xX_eq, eI_eq, eMc_eq, eMs_eq, eF_eq, eThr_eq, ↓xS1_mk, ↓xSI_mk, ↓xSR_mk, ↓xLI_0, ↓xLI_s, ↓xLR_0, ↓xLR_s, vRef_ref, vRef_null, vRef_rf, cat_int, cat_ref, cat_null, cat_rf, rf_some, rf_none, rf_null, rf_eq, rf_ref, ref_rf, ref_null, ref_ref, xOk_0, xOk_1, xOk_2r, xOk_2n, xOk_2f, vOpt_rf, vOpt_ref, vOpt_null, List.set_cons_zero, List.set_cons_succ, List.take_succ_cons, List.take_zero, List.drop_succ_cons, List.drop_zero, List.reverse_cons, List.reverse_nil, List.nil_append, List.cons_append, List.append_nil, List.length_cons, List.length_nil, List.map_cons, List.map_nil, List.sum_cons, List.sum_nil, Option.toList_some, Option.toList_none, xRecv_mk, true_and, and_true, true_implies, Nat.reduceAdd, Nat.reduceLeDiff, Nat.zero_le, Nat.le_refl, Nat.add_zero, Nat.zero_add, reduceIte, not_true_eq_false, not_false_eq_true, false_implies, and_self, implies_true, eq_self, Nat.reduceEqDiff, List.cons.injEq, xsn_1, xsn_2, false_and, and_false, or_false, false_or, or_true, true_or, xsn_3, xsn_4, ↓spwJx4a65c_size_8abf5, spcJx4a65c_size_8abf5, ↓spwJx4a65c_get_915e3, spcJx4a65c_get_915e3]
  try simp only [xif_e]
  repeat' (first | rfl | apply And.intro)
