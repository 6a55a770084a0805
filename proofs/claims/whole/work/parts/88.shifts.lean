/-! The class: shifts, both ways. -/
def cSf (S : cS) (l : Nat) (s : Int32) : Nat → Int32
  | 0 => 0
  | j + 1 => cSf S l s j + rBh S (cRf S (lG S l j) 102) (lG S l j) s

def tbX7_shifts : List (Nat × xHint) := [(0, .iload_n 1, 1, 0, 0, []), (1, .invokestatic 128, 0, 1, 0, []), (4, .aload_n 0, 0, 0, 0, []), (5, .iload_n 1, 1, 0, 0, []), (6, .iload_n 2, 2, 0, 0, []), (7, .invokevirtual 377, 1, 3, 8, []), (10, .astore_n 3, 3, 0, 0, []), (11, .iconst 0, 0, 0, 0, []), (12, .istore 4, 4, 0, 0, []), (14, .iconst 0, 0, 0, 0, []), (15, .istore 5, 5, 0, 0, []), (17, .iload 5, 5, 0, 0, []), (19, .aload_n 3, 3, 0, 0, []), (20, .invokevirtual 108, 2, 1, 0, []), (23, .if_icmp .ge 36, 59, 0, 0, []), (26, .aload_n 3, 3, 0, 0, []), (27, .iload 5, 5, 0, 0, []), (29, .invokevirtual 312, 3, 2, 0, []), (32, .checkcast 113, 1, 0, 0, []), (35, .astore 6, 6, 0, 0, []), (37, .iload 4, 4, 0, 0, []), (39, .aload 6, 6, 0, 0, []), (41, .getfield 200, 1, 2, 2, []), (44, .aload 6, 6, 0, 0, []), (46, .iload_n 2, 2, 0, 0, []), (47, .invokevirtual 381, 4, 3, 5, []), (50, .iadd, 0, 0, 0, []), (51, .istore 4, 4, 0, 0, []), (53, .iinc 5 1, 5, 0, 0, []), (56, .goto (-39), 17, 0, 0, []), (59, .iload 4, 4, 0, 0, []), (61, .ireturn, 0, 0, 0, [])]
def clX7_shifts : List (Instr × Nat × Nat × Nat) := [(.invokestatic 128, 0, 1, 0), (.invokevirtual 377, 1, 3, 8), (.invokevirtual 108, 2, 1, 0), (.invokevirtual 312, 3, 2, 0), (.invokevirtual 381, 4, 3, 5)]
def thX7_shifts : List (Nat × Nat) := []
theorem ckX7_shifts : tbX7_shifts.all (xRow RX7 cX7_shifts wsX7_shifts vwCl [1] clX7_shifts thX7_shifts 7 (yX7_shifts.name == "<init>") (some .int)) = true := xRow_q 0xac0415d9ffa70105840436607d01b61c0619c800b406190415063a7100c03801b605152d2400a26c00b62d05150536030436034e7901b61c1b2a8000b81b 62 (by decide +kernel) (by decide +kernel)
theorem usX7_shifts : xUse wsX7_shifts vwCl [1] = true := xUse_g rfl (lw_good lwl_X7_shifts lwl_X00 (by decide +kernel)) xUse_n
theorem tbX7_shifts_0 {k : Instr → Nat → Nat → Nat → List Nat → Prop} : xse (xFind tbX7_shifts 0) k = k (.iload_n 1) 1 0 0 [] := rfl
theorem tbX7_shifts_1 {k : Instr → Nat → Nat → Nat → List Nat → Prop} : xse (xFind tbX7_shifts 1) k = k (.invokestatic 128) 0 1 0 [] := rfl
theorem tbX7_shifts_4 {k : Instr → Nat → Nat → Nat → List Nat → Prop} : xse (xFind tbX7_shifts 4) k = k (.aload_n 0) 0 0 0 [] := rfl
theorem tbX7_shifts_5 {k : Instr → Nat → Nat → Nat → List Nat → Prop} : xse (xFind tbX7_shifts 5) k = k (.iload_n 1) 1 0 0 [] := rfl
theorem tbX7_shifts_6 {k : Instr → Nat → Nat → Nat → List Nat → Prop} : xse (xFind tbX7_shifts 6) k = k (.iload_n 2) 2 0 0 [] := rfl
theorem tbX7_shifts_7 {k : Instr → Nat → Nat → Nat → List Nat → Prop} : xse (xFind tbX7_shifts 7) k = k (.invokevirtual 377) 1 3 8 [] := rfl
theorem tbX7_shifts_10 {k : Instr → Nat → Nat → Nat → List Nat → Prop} : xse (xFind tbX7_shifts 10) k = k (.astore_n 3) 3 0 0 [] := rfl
theorem tbX7_shifts_11 {k : Instr → Nat → Nat → Nat → List Nat → Prop} : xse (xFind tbX7_shifts 11) k = k (.iconst 0) 0 0 0 [] := rfl
theorem tbX7_shifts_12 {k : Instr → Nat → Nat → Nat → List Nat → Prop} : xse (xFind tbX7_shifts 12) k = k (.istore 4) 4 0 0 [] := rfl
theorem tbX7_shifts_14 {k : Instr → Nat → Nat → Nat → List Nat → Prop} : xse (xFind tbX7_shifts 14) k = k (.iconst 0) 0 0 0 [] := rfl
theorem tbX7_shifts_15 {k : Instr → Nat → Nat → Nat → List Nat → Prop} : xse (xFind tbX7_shifts 15) k = k (.istore 5) 5 0 0 [] := rfl
theorem tbX7_shifts_17 {k : Instr → Nat → Nat → Nat → List Nat → Prop} : xse (xFind tbX7_shifts 17) k = k (.iload 5) 5 0 0 [] := rfl
theorem tbX7_shifts_19 {k : Instr → Nat → Nat → Nat → List Nat → Prop} : xse (xFind tbX7_shifts 19) k = k (.aload_n 3) 3 0 0 [] := rfl
theorem tbX7_shifts_20 {k : Instr → Nat → Nat → Nat → List Nat → Prop} : xse (xFind tbX7_shifts 20) k = k (.invokevirtual 108) 2 1 0 [] := rfl
theorem tbX7_shifts_23 {k : Instr → Nat → Nat → Nat → List Nat → Prop} : xse (xFind tbX7_shifts 23) k = k (.if_icmp .ge 36) 59 0 0 [] := rfl
theorem tbX7_shifts_26 {k : Instr → Nat → Nat → Nat → List Nat → Prop} : xse (xFind tbX7_shifts 26) k = k (.aload_n 3) 3 0 0 [] := rfl
theorem tbX7_shifts_27 {k : Instr → Nat → Nat → Nat → List Nat → Prop} : xse (xFind tbX7_shifts 27) k = k (.iload 5) 5 0 0 [] := rfl
theorem tbX7_shifts_29 {k : Instr → Nat → Nat → Nat → List Nat → Prop} : xse (xFind tbX7_shifts 29) k = k (.invokevirtual 312) 3 2 0 [] := rfl
theorem tbX7_shifts_32 {k : Instr → Nat → Nat → Nat → List Nat → Prop} : xse (xFind tbX7_shifts 32) k = k (.checkcast 113) 1 0 0 [] := rfl
theorem tbX7_shifts_35 {k : Instr → Nat → Nat → Nat → List Nat → Prop} : xse (xFind tbX7_shifts 35) k = k (.astore 6) 6 0 0 [] := rfl
theorem tbX7_shifts_37 {k : Instr → Nat → Nat → Nat → List Nat → Prop} : xse (xFind tbX7_shifts 37) k = k (.iload 4) 4 0 0 [] := rfl
theorem tbX7_shifts_39 {k : Instr → Nat → Nat → Nat → List Nat → Prop} : xse (xFind tbX7_shifts 39) k = k (.aload 6) 6 0 0 [] := rfl
theorem tbX7_shifts_41 {k : Instr → Nat → Nat → Nat → List Nat → Prop} : xse (xFind tbX7_shifts 41) k = k (.getfield 200) 1 2 2 [] := rfl
theorem tbX7_shifts_44 {k : Instr → Nat → Nat → Nat → List Nat → Prop} : xse (xFind tbX7_shifts 44) k = k (.aload 6) 6 0 0 [] := rfl
theorem tbX7_shifts_46 {k : Instr → Nat → Nat → Nat → List Nat → Prop} : xse (xFind tbX7_shifts 46) k = k (.iload_n 2) 2 0 0 [] := rfl
theorem tbX7_shifts_47 {k : Instr → Nat → Nat → Nat → List Nat → Prop} : xse (xFind tbX7_shifts 47) k = k (.invokevirtual 381) 4 3 5 [] := rfl
theorem tbX7_shifts_50 {k : Instr → Nat → Nat → Nat → List Nat → Prop} : xse (xFind tbX7_shifts 50) k = k (.iadd) 0 0 0 [] := rfl
theorem tbX7_shifts_51 {k : Instr → Nat → Nat → Nat → List Nat → Prop} : xse (xFind tbX7_shifts 51) k = k (.istore 4) 4 0 0 [] := rfl
theorem tbX7_shifts_53 {k : Instr → Nat → Nat → Nat → List Nat → Prop} : xse (xFind tbX7_shifts 53) k = k (.iinc 5 1) 5 0 0 [] := rfl
theorem tbX7_shifts_56 {k : Instr → Nat → Nat → Nat → List Nat → Prop} : xse (xFind tbX7_shifts 56) k = k (.goto (-39)) 17 0 0 [] := rfl
theorem tbX7_shifts_59 {k : Instr → Nat → Nat → Nat → List Nat → Prop} : xse (xFind tbX7_shifts 59) k = k (.iload 4) 4 0 0 [] := rfl
theorem tbX7_shifts_61 {k : Instr → Nat → Nat → Nat → List Nat → Prop} : xse (xFind tbX7_shifts 61) k = k (.ireturn) 0 0 0 [] := rfl

def spX7_shifts (W9 : xWd) : xSp cS := (fun av S => (34, 1371), fun av S K => ∃ (a : Nat) (p : Int32) (s : Int32), av = [.ref a, .int p, .int s] ∧ (cK S a = 9 ∧ cIn S a 802 1 ∧ (lAll S (cRf S a 802) 2 ∧ lCap W9 S (cRf S a 802) ∧ ∀ k, k < lCn S (cRf S a 802) → cIn S (lG S (cRf S a 802) k) 102 6) ∧ (¬ (0 ≤ p ∧ p < 8) → K (rX "java/lang/IndexOutOfBoundsException") S) ∧ (0 ≤ p ∧ p < 8 → (¬ (0 ≤ s ∧ cBc s ≤ 6) → K (rX "java/lang/IllegalArgumentException") S) ∧ (0 ≤ s ∧ cBc s ≤ 6 → ∀ q S2, tI W9 S S2 q (cCh S (cRf S a 802) p s (lCn S (cRf S a 802))) → (¬ nI (cCh S (cRf S a 802) p s (lCn S (cRf S a 802))).length = cBc s → K (rX "java/lang/IllegalArgumentException") S2) ∧ (nI (cCh S (cRf S a 802) p s (lCn S (cRf S a 802))).length = cBc s → lRw S2 q ∧ K (rI (cSf S2 q s (lCn S2 q))) S2)))))
theorem spcX7_shifts {av : List Value} {S : cS} {W9 : xWd} : (spX7_shifts W9).1 av S = (34, 1371) := rfl
theorem spwX7_shifts {S : cS} {W9 : xWd} {K : xRes → cS → Prop} {a : Nat} {p : Int32} {s : Int32} : (spX7_shifts W9).2 [.ref a, .int p, .int s] S K = (cK S a = 9 ∧ cIn S a 802 1 ∧ (lAll S (cRf S a 802) 2 ∧ lCap W9 S (cRf S a 802) ∧ ∀ k, k < lCn S (cRf S a 802) → cIn S (lG S (cRf S a 802) k) 102 6) ∧ (¬ (0 ≤ p ∧ p < 8) → K (rX "java/lang/IndexOutOfBoundsException") S) ∧ (0 ≤ p ∧ p < 8 → (¬ (0 ≤ s ∧ cBc s ≤ 6) → K (rX "java/lang/IllegalArgumentException") S) ∧ (0 ≤ s ∧ cBc s ≤ 6 → ∀ q S2, tI W9 S S2 q (cCh S (cRf S a 802) p s (lCn S (cRf S a 802))) → (¬ nI (cCh S (cRf S a 802) p s (lCn S (cRf S a 802))).length = cBc s → K (rX "java/lang/IllegalArgumentException") S2) ∧ (nI (cCh S (cRf S a 802) p s (lCn S (cRf S a 802))).length = cBc s → lRw S2 q ∧ K (rI (cSf S2 q s (lCn S2 q))) S2)))) :=
  propext ⟨fun h => by
    simp only [spX7_shifts] at h
    obtain ⟨_, _, _, e, h⟩ := h
    simp only [List.cons.injEq, Value.int.injEq, Value.ref.injEq, rf_eq, and_true, true_and] at e
    obtain ⟨rfl, rfl, rfl⟩ := e
    exact h, fun h => ⟨_, _, _, rfl, h⟩⟩

def callX7_shifts (W9 : xWd) : Nat → Option (xSp cS) := fun n => match n with | 0 => some (spX7_needPoint W9) | 1 => some (spX7_needTiedSet W9) | 2 => some (spJx4a65c_size_8abf5 W9) | 3 => some (spJx4a65c_get_915e3 W9) | 4 => some (spX4_behindWithout W9) | _ => none

theorem callX7_shifts_0 {W9 : xWd} {k : xSp cS → Prop} : xcs (callX7_shifts W9 0) k = k (spX7_needPoint W9) := rfl

theorem callX7_shifts_1 {W9 : xWd} {k : xSp cS → Prop} : xcs (callX7_shifts W9 1) k = k (spX7_needTiedSet W9) := rfl

theorem callX7_shifts_2 {W9 : xWd} {k : xSp cS → Prop} : xcs (callX7_shifts W9 2) k = k (spJx4a65c_size_8abf5 W9) := rfl

theorem callX7_shifts_3 {W9 : xWd} {k : xSp cS → Prop} : xcs (callX7_shifts W9 3) k = k (spJx4a65c_get_915e3 W9) := rfl

theorem callX7_shifts_4 {W9 : xWd} {k : xSp cS → Prop} : xcs (callX7_shifts W9 4) k = k (spX4_behindWithout W9) := rfl

theorem crX7_shifts (l : Launch) (hl : l.stackTraces = false) (W9 : xWd) : xCallsOK l W9 (cI) (callX7_shifts W9) clX7_shifts RX7 wsX7_shifts 8 216 7 := by
  intro E A p e R s m args below meth c hI hF hL X
  exact List.forall_mem_cons.mpr ⟨⟨_, rfl, xCR_S X (by rw [hI]; exact (semX7_needPoint l hl W9)) gX7_shifts_X7_needPoint rfl (by decide +kernel) (by rw [hF, hL]; decide)⟩,
    List.forall_mem_cons.mpr ⟨⟨_, rfl, xCR_V X (by rw [hI]; exact (semX7_needTiedSet l hl W9)) gX7_shifts_X7_needTiedSet rfl rfl (by decide +kernel) (by rw [hF, hL]; decide)⟩,
    List.forall_mem_cons.mpr ⟨⟨_, rfl, xCR_V X (by rw [hI]; exact (semJx4a65c_size_8abf5 l hl W9)) gX7_shifts_Jx4a65c_size_8abf5 rfl rfl (by decide +kernel) (by rw [hF, hL]; decide)⟩,
    List.forall_mem_cons.mpr ⟨⟨_, rfl, xCR_V X (by rw [hI]; exact (semJx4a65c_get_915e3 l hl W9)) gX7_shifts_Jx4a65c_get_915e3 rfl rfl (by decide +kernel) (by rw [hF, hL]; decide)⟩,
    List.forall_mem_cons.mpr ⟨⟨_, rfl, xCR_V X (by rw [hI]; exact (semX4_behindWithout l hl W9)) gX7_shifts_X4_behindWithout rfl rfl (by decide +kernel) (by rw [hF, hL]; decide)⟩,
    fun _ h => nomatch h⟩⟩⟩⟩⟩

set_option maxHeartbeats 600000 in
set_option maxRecDepth 20000 in
theorem semX7_shifts (l : Launch) (hl : l.stackTraces = false) (W9 : xWd) : xSem l W9 (cI) yX7_shifts wsX7_shifts 8 216 (spX7_shifts W9) := by
  refine xSem_of (call := callX7_shifts W9) (thrf := fun _ => "") cI_law (by decide +kernel) rfl ckX7_shifts usX7_shifts (crX7_shifts l hl W9) xThrOK_nil ?_ ?_
  · intro av S KF h
    obtain ⟨a, p, s, rfl, h⟩ := h
    exact ⟨by intro v hv; simp only [List.mem_cons, List.not_mem_nil, or_false] at hv; rcases hv with rfl | rfl | rfl <;> first | rfl | exact cat_rf, Nat.le_of_ble_eq_true rfl⟩
  intro av S KF h G hG
  obtain ⟨a, p, s, rfl, h⟩ := h
  rw [show (spX7_shifts W9).1 _ S = _ from spcX7_shifts] at hG
  try dsimp only at hG
  change G 0 [some (.ref a), some (.int p), some (.int s), none, none, none, none] [] S 0 0
  obtain ⟨h0, h1, h2, hpt, hok⟩ := h

  by_cases c : 0 ≤ p ∧ p < 8
  · have hok := hok c
    have key : ∀ q S2, lRw S2 q → KF (rI (cSf S2 q s (lCn S2 q))) S2 → ∀ cs ss, cs ≤ 34 → ss ≤ 1371 → G 17 [some (.ref a), some (.int p), some (.int s), some (.ref q), some (.int 0), some (.int (nI 0)), none] [] S2 cs ss := by
      intro q S2 hl h cs ss hcs hss
      have hn30 := hl.1.1.2.2.1
      obtain ⟨f1, f2, f3, f4⟩ := lAll_facts hl.1
      have lp := xloop hG 17 [true, true, true, true, true, true, false] (fun j lv st S1 cs1 ss1 => lv = [some (.ref a), some (.int p), some (.int s), some (.ref q), some (.int (cSf S2 q s j)), some (.int (nI j)), none] ∧ st = [] ∧ S2 = S1 ∧ cs1 = cs ∧ ss1 = ss) (lCn S2 q) (by
          rintro j hj lv st S1 cs ss ⟨rfl, rfl, rfl, rfl, rfl⟩ fu hfu
          obtain ⟨g1, g2⟩ := hl.1.2 _ hj
          obtain ⟨y1, y2, y3⟩ := hl.2 _ hj
          have y4 := y1.1
          have y5 := y2.1
          have e0 := ge_nI hj (show lCn S2 q < 1000 by omega)
          have e2 := lt0_nI hj (show lCn S2 q < 1000 by omega)
          have hs : cSf S2 q s (j + 1) = cSf S2 q s j + rBh S2 (cRf S2 (lG S2 q j) 102) (lG S2 q j) s := rfl
          simp only [↓callX7_shifts_0, ↓callX7_shifts_1, ↓callX7_shifts_2, ↓callX7_shifts_3, ↓callX7_shifts_4, ↓cg_1_2, cisa, ki_0, ki_1, ↓vm_aload, ↓vm_aload_n, ↓vm_astore, ↓vm_astore_n, ↓vm_checkcast, ↓vm_getfield, ↓vm_goto, ↓vm_iadd, ↓vm_iconst, ↓vm_if_icmp_ge, ↓vm_iinc, ↓vm_iload, ↓vm_iload_n, ↓vm_invokestatic, ↓vm_invokevirtual, ↓vm_ireturn, ↓vm_istore, ↓xc_1, ↓xc_2, ↓xc_3, ↓tbX7_shifts_0, ↓tbX7_shifts_1, ↓tbX7_shifts_4, ↓tbX7_shifts_5, ↓tbX7_shifts_6, ↓tbX7_shifts_7, ↓tbX7_shifts_10, ↓tbX7_shifts_11, ↓tbX7_shifts_12, ↓tbX7_shifts_14, ↓tbX7_shifts_15, ↓tbX7_shifts_17, ↓tbX7_shifts_19, ↓tbX7_shifts_20, ↓tbX7_shifts_23, ↓tbX7_shifts_26, ↓tbX7_shifts_27, ↓tbX7_shifts_29, ↓tbX7_shifts_32, ↓tbX7_shifts_35, ↓tbX7_shifts_37, ↓tbX7_shifts_39, ↓tbX7_shifts_41, ↓tbX7_shifts_44, ↓tbX7_shifts_46, ↓tbX7_shifts_47, ↓tbX7_shifts_50, ↓tbX7_shifts_51, ↓tbX7_shifts_53, ↓tbX7_shifts_56, ↓tbX7_shifts_59, ↓tbX7_shifts_61, hfu, xstep0, xJ1_hit, xJ1_go, xJ2_hit1, xJ2_hit2, xJ2_go, ↓xif_t, ↓xif_f, seval, ↓xca_eq, ↓xre_l, ↓xre_r, xmask_t, xmask_f, xmask_nil, ↓xst_eq, xX_eq, eI_eq, eMc_eq, eMs_eq, eF_eq, eThr_eq, ↓xS1_mk, ↓xSI_mk, ↓xSR_mk, ↓xLI_0, ↓xLI_s, ↓xLR_0, ↓xLR_s, vRef_ref, vRef_null, vRef_rf, cat_int, cat_ref, cat_null, cat_rf, rf_some, rf_none, rf_null, rf_eq, rf_ref, ref_rf, ref_null, ref_ref, xOk_0, xOk_1, xOk_2r, xOk_2n, xOk_2f, vOpt_rf, vOpt_ref, vOpt_null, List.set_cons_zero, List.set_cons_succ, List.take_succ_cons, List.take_zero, List.drop_succ_cons, List.drop_zero, List.reverse_cons, List.reverse_nil, List.nil_append, List.cons_append, List.append_nil, List.length_cons, List.length_nil, List.map_cons, List.map_nil, List.sum_cons, List.sum_nil, Option.toList_some, Option.toList_none, xRecv_mk, true_and, and_true, true_implies, Nat.reduceAdd, Nat.reduceLeDiff, Nat.zero_le, Nat.le_refl, Nat.add_zero, Nat.zero_add, reduceIte, not_true_eq_false, not_false_eq_true, false_implies, and_self, implies_true, eq_self, Nat.reduceEqDiff, List.cons.injEq, xsn_1, xsn_2, false_and, and_false, or_false, false_or, or_true, true_or, xsn_3, xsn_4, ↓spwX7_needPoint, spcX7_needPoint, ↓spwX7_needTiedSet, spcX7_needTiedSet, ↓spwJx4a65c_size_8abf5, spcJx4a65c_size_8abf5, ↓spwJx4a65c_get_915e3, spcJx4a65c_get_915e3, ↓spwX4_behindWithout, spcX4_behindWithout, f1, f2, f3, g1, g2, y2, y3, y4, y5, e0, pos_nI (show j < 1000 by omega), e2, ix_nI (show j < 1000 by omega), nI1, hs]
          try simp only [xif_e]
          repeat' (first | rfl | assumption | apply And.intro)) (by
          rintro lv st S1 cs ss ⟨rfl, rfl, rfl, rfl, rfl⟩ fu hfu
          simp only [↓callX7_shifts_0, ↓callX7_shifts_1, ↓callX7_shifts_2, ↓callX7_shifts_3, ↓callX7_shifts_4, ↓cg_1_2, cisa, ki_0, ki_1, ↓vm_aload, ↓vm_aload_n, ↓vm_astore, ↓vm_astore_n, ↓vm_checkcast, ↓vm_getfield, ↓vm_goto, ↓vm_iadd, ↓vm_iconst, ↓vm_if_icmp_ge, ↓vm_iinc, ↓vm_iload, ↓vm_iload_n, ↓vm_invokestatic, ↓vm_invokevirtual, ↓vm_ireturn, ↓vm_istore, ↓xc_1, ↓xc_2, ↓xc_3, ↓tbX7_shifts_0, ↓tbX7_shifts_1, ↓tbX7_shifts_4, ↓tbX7_shifts_5, ↓tbX7_shifts_6, ↓tbX7_shifts_7, ↓tbX7_shifts_10, ↓tbX7_shifts_11, ↓tbX7_shifts_12, ↓tbX7_shifts_14, ↓tbX7_shifts_15, ↓tbX7_shifts_17, ↓tbX7_shifts_19, ↓tbX7_shifts_20, ↓tbX7_shifts_23, ↓tbX7_shifts_26, ↓tbX7_shifts_27, ↓tbX7_shifts_29, ↓tbX7_shifts_32, ↓tbX7_shifts_35, ↓tbX7_shifts_37, ↓tbX7_shifts_39, ↓tbX7_shifts_41, ↓tbX7_shifts_44, ↓tbX7_shifts_46, ↓tbX7_shifts_47, ↓tbX7_shifts_50, ↓tbX7_shifts_51, ↓tbX7_shifts_53, ↓tbX7_shifts_56, ↓tbX7_shifts_59, ↓tbX7_shifts_61, hfu, xstep0, xJ1_hit, xJ1_go, xJ2_hit1, xJ2_hit2, xJ2_go, ↓xif_t, ↓xif_f, seval, ↓xca_eq, ↓xre_l, ↓xre_r, xmask_t, xmask_f, xmask_nil, ↓xst_eq, xX_eq, eI_eq, eMc_eq, eMs_eq, eF_eq, eThr_eq, ↓xS1_mk, ↓xSI_mk, ↓xSR_mk, ↓xLI_0, ↓xLI_s, ↓xLR_0, ↓xLR_s, vRef_ref, vRef_null, vRef_rf, cat_int, cat_ref, cat_null, cat_rf, rf_some, rf_none, rf_null, rf_eq, rf_ref, ref_rf, ref_null, ref_ref, xOk_0, xOk_1, xOk_2r, xOk_2n, xOk_2f, vOpt_rf, vOpt_ref, vOpt_null, List.set_cons_zero, List.set_cons_succ, List.take_succ_cons, List.take_zero, List.drop_succ_cons, List.drop_zero, List.reverse_cons, List.reverse_nil, List.nil_append, List.cons_append, List.append_nil, List.length_cons, List.length_nil, List.map_cons, List.map_nil, List.sum_cons, List.sum_nil, Option.toList_some, Option.toList_none, xRecv_mk, true_and, and_true, true_implies, Nat.reduceAdd, Nat.reduceLeDiff, Nat.zero_le, Nat.le_refl, Nat.add_zero, Nat.zero_add, reduceIte, not_true_eq_false, not_false_eq_true, false_implies, and_self, implies_true, eq_self, Nat.reduceEqDiff, List.cons.injEq, xsn_1, xsn_2, false_and, and_false, or_false, false_or, or_true, true_or, xsn_3, xsn_4, ↓spwX7_needPoint, spcX7_needPoint, ↓spwX7_needTiedSet, spcX7_needTiedSet, ↓spwJx4a65c_size_8abf5, spcJx4a65c_size_8abf5, ↓spwJx4a65c_get_915e3, spcJx4a65c_get_915e3, ↓spwX4_behindWithout, spcX4_behindWithout, f1, f3, le_nI_self]
          try simp only [xif_e]
          exact ⟨hcs, hss, hcs, hss, h⟩)
      exact lp 0 (Nat.zero_le _) _ _ _ _ _ ⟨rfl, rfl, rfl, rfl, rfl⟩
    refine xgo hG (head := 17) (mb := [true, true, true, true, true, true, false]) (P := fun lv st S1 cs ss => ∃ q, lRw S1 q ∧ KF (rI (cSf S1 q s (lCn S1 q))) S1 ∧ lv = [some (.ref a), some (.int p), some (.int s), some (.ref q), some (.int 0), some (.int 0), none] ∧ st = [] ∧ cs ≤ 34 ∧ ss ≤ 1371) (fun lv st S1 cs ss hP => by obtain ⟨q, h3, h4, rfl, rfl, h5, h6⟩ := hP; exact key q S1 h3 h4 cs ss h5 h6) (pc := 0) (fun fu hfu => ?_)
    simp only [↓callX7_shifts_0, ↓callX7_shifts_1, ↓callX7_shifts_2, ↓callX7_shifts_3, ↓callX7_shifts_4, ↓cg_1_2, cisa, ki_0, ki_1, ↓vm_aload, ↓vm_aload_n, ↓vm_astore, ↓vm_astore_n, ↓vm_checkcast, ↓vm_getfield, ↓vm_goto, ↓vm_iadd, ↓vm_iconst, ↓vm_if_icmp_ge, ↓vm_iinc, ↓vm_iload, ↓vm_iload_n, ↓vm_invokestatic, ↓vm_invokevirtual, ↓vm_ireturn, ↓vm_istore, ↓xc_1, ↓xc_2, ↓xc_3, ↓tbX7_shifts_0, ↓tbX7_shifts_1, ↓tbX7_shifts_4, ↓tbX7_shifts_5, ↓tbX7_shifts_6, ↓tbX7_shifts_7, ↓tbX7_shifts_10, ↓tbX7_shifts_11, ↓tbX7_shifts_12, ↓tbX7_shifts_14, ↓tbX7_shifts_15, ↓tbX7_shifts_17, ↓tbX7_shifts_19, ↓tbX7_shifts_20, ↓tbX7_shifts_23, ↓tbX7_shifts_26, ↓tbX7_shifts_27, ↓tbX7_shifts_29, ↓tbX7_shifts_32, ↓tbX7_shifts_35, ↓tbX7_shifts_37, ↓tbX7_shifts_39, ↓tbX7_shifts_41, ↓tbX7_shifts_44, ↓tbX7_shifts_46, ↓tbX7_shifts_47, ↓tbX7_shifts_50, ↓tbX7_shifts_51, ↓tbX7_shifts_53, ↓tbX7_shifts_56, ↓tbX7_shifts_59, ↓tbX7_shifts_61, hfu, xstep0, xJ1_hit, xJ1_go, xJ2_hit1, xJ2_hit2, xJ2_go, ↓xif_t, ↓xif_f, seval, ↓xca_eq, ↓xre_l, ↓xre_r, xmask_t, xmask_f, xmask_nil, ↓xst_eq, xX_eq, eI_eq, eMc_eq, eMs_eq, eF_eq, eThr_eq, ↓xS1_mk, ↓xSI_mk, ↓xSR_mk, ↓xLI_0, ↓xLI_s, ↓xLR_0, ↓xLR_s, vRef_ref, vRef_null, vRef_rf, cat_int, cat_ref, cat_null, cat_rf, rf_some, rf_none, rf_null, rf_eq, rf_ref, ref_rf, ref_null, ref_ref, xOk_0, xOk_1, xOk_2r, xOk_2n, xOk_2f, vOpt_rf, vOpt_ref, vOpt_null, List.set_cons_zero, List.set_cons_succ, List.take_succ_cons, List.take_zero, List.drop_succ_cons, List.drop_zero, List.reverse_cons, List.reverse_nil, List.nil_append, List.cons_append, List.append_nil, List.length_cons, List.length_nil, List.map_cons, List.map_nil, List.sum_cons, List.sum_nil, Option.toList_some, Option.toList_none, xRecv_mk, true_and, and_true, true_implies, Nat.reduceAdd, Nat.reduceLeDiff, Nat.zero_le, Nat.le_refl, Nat.add_zero, Nat.zero_add, reduceIte, not_true_eq_false, not_false_eq_true, false_implies, and_self, implies_true, eq_self, Nat.reduceEqDiff, List.cons.injEq, xsn_1, xsn_2, false_and, and_false, or_false, false_or, or_true, true_or, xsn_3, xsn_4, ↓spwX7_needPoint, spcX7_needPoint, ↓spwX7_needTiedSet, spcX7_needTiedSet, ↓spwJx4a65c_size_8abf5, spcJx4a65c_size_8abf5, ↓spwJx4a65c_get_915e3, spcJx4a65c_get_915e3, ↓spwX4_behindWithout, spcX4_behindWithout, c, h0, h1, h2]
    try simp only [xif_e]
    refine ⟨h2.2.2, hok.1, fun z q S2 hI => ⟨(hok.2 z q S2 hI).1, fun v => ?_⟩⟩
    obtain ⟨a1, a2⟩ := (hok.2 z q S2 hI).2 v
    first | exact ⟨q, a1, a2, rfl⟩ | exact ⟨q, a1, a2, rfl, rfl⟩ | exact ⟨q, a1, a2, rfl, rfl, by omega, by omega⟩ | exact ⟨q, a1, a2, rfl, rfl, rfl⟩
  · have hpt := hpt c
    refine xgo hG (mb := []) (head := 17) (P := fun _ _ _ _ _ => False) (fun _ _ _ _ _ q => q.elim) (pc := 0) (fun fu hfu => ?_)
    simp only [↓callX7_shifts_0, ↓callX7_shifts_1, ↓callX7_shifts_2, ↓callX7_shifts_3, ↓callX7_shifts_4, ↓cg_1_2, cisa, ki_0, ki_1, ↓vm_aload, ↓vm_aload_n, ↓vm_astore, ↓vm_astore_n, ↓vm_checkcast, ↓vm_getfield, ↓vm_goto, ↓vm_iadd, ↓vm_iconst, ↓vm_if_icmp_ge, ↓vm_iinc, ↓vm_iload, ↓vm_iload_n, ↓vm_invokestatic, ↓vm_invokevirtual, ↓vm_ireturn, ↓vm_istore, ↓xc_1, ↓xc_2, ↓xc_3, ↓tbX7_shifts_0, ↓tbX7_shifts_1, ↓tbX7_shifts_4, ↓tbX7_shifts_5, ↓tbX7_shifts_6, ↓tbX7_shifts_7, ↓tbX7_shifts_10, ↓tbX7_shifts_11, ↓tbX7_shifts_12, ↓tbX7_shifts_14, ↓tbX7_shifts_15, ↓tbX7_shifts_17, ↓tbX7_shifts_19, ↓tbX7_shifts_20, ↓tbX7_shifts_23, ↓tbX7_shifts_26, ↓tbX7_shifts_27, ↓tbX7_shifts_29, ↓tbX7_shifts_32, ↓tbX7_shifts_35, ↓tbX7_shifts_37, ↓tbX7_shifts_39, ↓tbX7_shifts_41, ↓tbX7_shifts_44, ↓tbX7_shifts_46, ↓tbX7_shifts_47, ↓tbX7_shifts_50, ↓tbX7_shifts_51, ↓tbX7_shifts_53, ↓tbX7_shifts_56, ↓tbX7_shifts_59, ↓tbX7_shifts_61, hfu, xstep0, xJ1_hit, xJ1_go, xJ2_hit1, xJ2_hit2, xJ2_go, ↓xif_t, ↓xif_f, seval, ↓xca_eq, ↓xre_l, ↓xre_r, xmask_t, xmask_f, xmask_nil, ↓xst_eq, xX_eq, eI_eq, eMc_eq, eMs_eq, eF_eq, eThr_eq, ↓xS1_mk, ↓xSI_mk, ↓xSR_mk, ↓xLI_0, ↓xLI_s, ↓xLR_0, ↓xLR_s, vRef_ref, vRef_null, vRef_rf, cat_int, cat_ref, cat_null, cat_rf, rf_some, rf_none, rf_null, rf_eq, rf_ref, ref_rf, ref_null, ref_ref, xOk_0, xOk_1, xOk_2r, xOk_2n, xOk_2f, vOpt_rf, vOpt_ref, vOpt_null, List.set_cons_zero, List.set_cons_succ, List.take_succ_cons, List.take_zero, List.drop_succ_cons, List.drop_zero, List.reverse_cons, List.reverse_nil, List.nil_append, List.cons_append, List.append_nil, List.length_cons, List.length_nil, List.map_cons, List.map_nil, List.sum_cons, List.sum_nil, Option.toList_some, Option.toList_none, xRecv_mk, true_and, and_true, true_implies, Nat.reduceAdd, Nat.reduceLeDiff, Nat.zero_le, Nat.le_refl, Nat.add_zero, Nat.zero_add, reduceIte, not_true_eq_false, not_false_eq_true, false_implies, and_self, implies_true, eq_self, Nat.reduceEqDiff, List.cons.injEq, xsn_1, xsn_2, false_and, and_false, or_false, false_or, or_true, true_or, xsn_3, xsn_4, ↓spwX7_needPoint, spcX7_needPoint, ↓spwX7_needTiedSet, spcX7_needTiedSet, ↓spwJx4a65c_size_8abf5, spcJx4a65c_size_8abf5, ↓spwJx4a65c_get_915e3, spcJx4a65c_get_915e3, ↓spwX4_behindWithout, spcX4_behindWithout, c]
    try simp only [xif_e]
    first | exact hpt | grind

def tbX7_shiftsAnew : List (Nat × xHint) := [(0, .iload_n 1, 1, 0, 0, []), (1, .invokestatic 128, 0, 1, 0, []), (4, .aload_n 0, 0, 0, 0, []), (5, .iload_n 1, 1, 0, 0, []), (6, .iload_n 2, 2, 0, 0, []), (7, .invokevirtual 377, 1, 3, 8, []), (10, .iconst 0, 0, 0, 0, []), (11, .bipush 6, 0, 0, 0, []), (13, .invokestatic 385, 2, 3, 0, []), (16, .ireturn, 0, 0, 0, [])]
def clX7_shiftsAnew : List (Instr × Nat × Nat × Nat) := [(.invokestatic 128, 0, 1, 0), (.invokevirtual 377, 1, 3, 8), (.invokestatic 385, 2, 3, 0)]
def thX7_shiftsAnew : List (Nat × Nat) := []
theorem ckX7_shiftsAnew : tbX7_shiftsAnew.all (xRow RX7 cX7_shiftsAnew wsX7_shiftsAnew vwCl [] clX7_shiftsAnew thX7_shiftsAnew 3 (yX7_shiftsAnew.name == "<init>") (some .int)) = true := xRow_q 0xac8101b80610037901b61c1b2a8000b81b 17 (by decide +kernel) (by decide +kernel)
theorem usX7_shiftsAnew : xUse wsX7_shiftsAnew vwCl [] = true := xUse_n
theorem tbX7_shiftsAnew_0 {k : Instr → Nat → Nat → Nat → List Nat → Prop} : xse (xFind tbX7_shiftsAnew 0) k = k (.iload_n 1) 1 0 0 [] := rfl
theorem tbX7_shiftsAnew_1 {k : Instr → Nat → Nat → Nat → List Nat → Prop} : xse (xFind tbX7_shiftsAnew 1) k = k (.invokestatic 128) 0 1 0 [] := rfl
theorem tbX7_shiftsAnew_4 {k : Instr → Nat → Nat → Nat → List Nat → Prop} : xse (xFind tbX7_shiftsAnew 4) k = k (.aload_n 0) 0 0 0 [] := rfl
theorem tbX7_shiftsAnew_5 {k : Instr → Nat → Nat → Nat → List Nat → Prop} : xse (xFind tbX7_shiftsAnew 5) k = k (.iload_n 1) 1 0 0 [] := rfl
theorem tbX7_shiftsAnew_6 {k : Instr → Nat → Nat → Nat → List Nat → Prop} : xse (xFind tbX7_shiftsAnew 6) k = k (.iload_n 2) 2 0 0 [] := rfl
theorem tbX7_shiftsAnew_7 {k : Instr → Nat → Nat → Nat → List Nat → Prop} : xse (xFind tbX7_shiftsAnew 7) k = k (.invokevirtual 377) 1 3 8 [] := rfl
theorem tbX7_shiftsAnew_10 {k : Instr → Nat → Nat → Nat → List Nat → Prop} : xse (xFind tbX7_shiftsAnew 10) k = k (.iconst 0) 0 0 0 [] := rfl
theorem tbX7_shiftsAnew_11 {k : Instr → Nat → Nat → Nat → List Nat → Prop} : xse (xFind tbX7_shiftsAnew 11) k = k (.bipush 6) 0 0 0 [] := rfl
theorem tbX7_shiftsAnew_13 {k : Instr → Nat → Nat → Nat → List Nat → Prop} : xse (xFind tbX7_shiftsAnew 13) k = k (.invokestatic 385) 2 3 0 [] := rfl
theorem tbX7_shiftsAnew_16 {k : Instr → Nat → Nat → Nat → List Nat → Prop} : xse (xFind tbX7_shiftsAnew 16) k = k (.ireturn) 0 0 0 [] := rfl

def spX7_shiftsAnew (W9 : xWd) : xSp cS := (fun av S => (34, 1371), fun av S K => ∃ (a : Nat) (p : Int32) (s : Int32), av = [.ref a, .int p, .int s] ∧ (cK S a = 9 ∧ cIn S a 802 1 ∧ (lAll S (cRf S a 802) 2 ∧ lCap W9 S (cRf S a 802) ∧ ∀ k, k < lCn S (cRf S a 802) → cIn S (lG S (cRf S a 802) k) 102 6) ∧ (¬ (0 ≤ p ∧ p < 8) → K (rX "java/lang/IndexOutOfBoundsException") S) ∧ (0 ≤ p ∧ p < 8 → (¬ (0 ≤ s ∧ cBc s ≤ 6) → K (rX "java/lang/IllegalArgumentException") S) ∧ (0 ≤ s ∧ cBc s ≤ 6 → ∀ q S2, tI W9 S S2 q (cCh S (cRf S a 802) p s (lCn S (cRf S a 802))) → (¬ nI (cCh S (cRf S a 802) p s (lCn S (cRf S a 802))).length = cBc s → K (rX "java/lang/IllegalArgumentException") S2) ∧ (nI (cCh S (cRf S a 802) p s (lCn S (cRf S a 802))).length = cBc s → lRw S2 q ∧ K (rI (cFw S2 q 6 0)) S2)))))
theorem spcX7_shiftsAnew {av : List Value} {S : cS} {W9 : xWd} : (spX7_shiftsAnew W9).1 av S = (34, 1371) := rfl
theorem spwX7_shiftsAnew {S : cS} {W9 : xWd} {K : xRes → cS → Prop} {a : Nat} {p : Int32} {s : Int32} : (spX7_shiftsAnew W9).2 [.ref a, .int p, .int s] S K = (cK S a = 9 ∧ cIn S a 802 1 ∧ (lAll S (cRf S a 802) 2 ∧ lCap W9 S (cRf S a 802) ∧ ∀ k, k < lCn S (cRf S a 802) → cIn S (lG S (cRf S a 802) k) 102 6) ∧ (¬ (0 ≤ p ∧ p < 8) → K (rX "java/lang/IndexOutOfBoundsException") S) ∧ (0 ≤ p ∧ p < 8 → (¬ (0 ≤ s ∧ cBc s ≤ 6) → K (rX "java/lang/IllegalArgumentException") S) ∧ (0 ≤ s ∧ cBc s ≤ 6 → ∀ q S2, tI W9 S S2 q (cCh S (cRf S a 802) p s (lCn S (cRf S a 802))) → (¬ nI (cCh S (cRf S a 802) p s (lCn S (cRf S a 802))).length = cBc s → K (rX "java/lang/IllegalArgumentException") S2) ∧ (nI (cCh S (cRf S a 802) p s (lCn S (cRf S a 802))).length = cBc s → lRw S2 q ∧ K (rI (cFw S2 q 6 0)) S2)))) :=
  propext ⟨fun h => by
    simp only [spX7_shiftsAnew] at h
    obtain ⟨_, _, _, e, h⟩ := h
    simp only [List.cons.injEq, Value.int.injEq, Value.ref.injEq, rf_eq, and_true, true_and] at e
    obtain ⟨rfl, rfl, rfl⟩ := e
    exact h, fun h => ⟨_, _, _, rfl, h⟩⟩

def callX7_shiftsAnew (W9 : xWd) : Nat → Option (xSp cS) := fun n => match n with | 0 => some (spX7_needPoint W9) | 1 => some (spX7_needTiedSet W9) | 2 => some (spX7_fewestShifts W9 6) | _ => none

theorem callX7_shiftsAnew_0 {W9 : xWd} {k : xSp cS → Prop} : xcs (callX7_shiftsAnew W9 0) k = k (spX7_needPoint W9) := rfl

theorem callX7_shiftsAnew_1 {W9 : xWd} {k : xSp cS → Prop} : xcs (callX7_shiftsAnew W9 1) k = k (spX7_needTiedSet W9) := rfl

theorem callX7_shiftsAnew_2 {W9 : xWd} {k : xSp cS → Prop} : xcs (callX7_shiftsAnew W9 2) k = k (spX7_fewestShifts W9 6) := rfl

theorem crX7_shiftsAnew (l : Launch) (hl : l.stackTraces = false) (W9 : xWd) : xCallsOK l W9 (cI) (callX7_shiftsAnew W9) clX7_shiftsAnew RX7 wsX7_shiftsAnew 36 867 3 := by
  intro E A p e R s m args below meth c hI hF hL X
  exact List.forall_mem_cons.mpr ⟨⟨_, rfl, xCR_S X (by rw [hI]; exact (semX7_needPoint l hl W9)) gX7_shiftsAnew_X7_needPoint rfl (by decide +kernel) (by rw [hF, hL]; decide)⟩,
    List.forall_mem_cons.mpr ⟨⟨_, rfl, xCR_V X (by rw [hI]; exact (semX7_needTiedSet l hl W9)) gX7_shiftsAnew_X7_needTiedSet rfl rfl (by decide +kernel) (by rw [hF, hL]; decide)⟩,
    List.forall_mem_cons.mpr ⟨⟨_, rfl, xCR_S X (by rw [hI]; exact (semX7_fewestShifts l hl W9 6 (by omega))) gX7_shiftsAnew_X7_fewestShifts rfl (by decide +kernel) (by rw [hF, hL]; decide)⟩,
    fun _ h => nomatch h⟩⟩⟩

set_option maxHeartbeats 600000 in
set_option maxRecDepth 20000 in
theorem semX7_shiftsAnew (l : Launch) (hl : l.stackTraces = false) (W9 : xWd) : xSem l W9 (cI) yX7_shiftsAnew wsX7_shiftsAnew 36 867 (spX7_shiftsAnew W9) := by
  refine xSem_of (call := callX7_shiftsAnew W9) (thrf := fun _ => "") cI_law (by decide +kernel) rfl ckX7_shiftsAnew usX7_shiftsAnew (crX7_shiftsAnew l hl W9) xThrOK_nil ?_ ?_
  · intro av S KF h
    obtain ⟨a, p, s, rfl, h⟩ := h
    exact ⟨by intro v hv; simp only [List.mem_cons, List.not_mem_nil, or_false] at hv; rcases hv with rfl | rfl | rfl <;> first | rfl | exact cat_rf, Nat.le_of_ble_eq_true rfl⟩
  intro av S KF h G hG
  obtain ⟨a, p, s, rfl, h⟩ := h
  rw [show (spX7_shiftsAnew W9).1 _ S = _ from spcX7_shiftsAnew] at hG
  try dsimp only at hG
  change G 0 [some (.ref a), some (.int p), some (.int s)] [] S 0 0
  obtain ⟨h0, h1, h2, hpt, hok⟩ := h

  by_cases c : 0 ≤ p ∧ p < 8
  · have hok := hok c
    refine xgo0 hG (fun fu hfu => ?_)
    simp only [↓callX7_shiftsAnew_0, ↓callX7_shiftsAnew_1, ↓callX7_shiftsAnew_2, cisa, kb_6, kc_6, ki_0, ↓vm_aload_n, ↓vm_bipush, ↓vm_iconst, ↓vm_iload_n, ↓vm_invokestatic, ↓vm_invokevirtual, ↓vm_ireturn, ↓xc_1, ↓xc_3, ↓tbX7_shiftsAnew_0, ↓tbX7_shiftsAnew_1, ↓tbX7_shiftsAnew_4, ↓tbX7_shiftsAnew_5, ↓tbX7_shiftsAnew_6, ↓tbX7_shiftsAnew_7, ↓tbX7_shiftsAnew_10, ↓tbX7_shiftsAnew_11, ↓tbX7_shiftsAnew_13, ↓tbX7_shiftsAnew_16, hfu, xstep0, xJ1_hit, xJ1_go, xJ2_hit1, xJ2_hit2, xJ2_go, ↓xif_t, ↓xif_f, seval, ↓xca_eq, ↓xre_l, ↓xre_r, xmask_t, xmask_f, xmask_nil, ↓xst_eq, xX_eq, eI_eq, eMc_eq, eMs_eq, eF_eq, eThr_eq, ↓xS1_mk, ↓xSI_mk, ↓xSR_mk, ↓xLI_0, ↓xLI_s, ↓xLR_0, ↓xLR_s, vRef_ref, vRef_null, vRef_rf, cat_int, cat_ref, cat_null, cat_rf, rf_some, rf_none, rf_null, rf_eq, rf_ref, ref_rf, ref_null, ref_ref, xOk_0, xOk_1, xOk_2r, xOk_2n, xOk_2f, vOpt_rf, vOpt_ref, vOpt_null, List.set_cons_zero, List.set_cons_succ, List.take_succ_cons, List.take_zero, List.drop_succ_cons, List.drop_zero, List.reverse_cons, List.reverse_nil, List.nil_append, List.cons_append, List.append_nil, List.length_cons, List.length_nil, List.map_cons, List.map_nil, List.sum_cons, List.sum_nil, Option.toList_some, Option.toList_none, xRecv_mk, true_and, and_true, true_implies, Nat.reduceAdd, Nat.reduceLeDiff, Nat.zero_le, Nat.le_refl, Nat.add_zero, Nat.zero_add, reduceIte, not_true_eq_false, not_false_eq_true, false_implies, and_self, implies_true, eq_self, Nat.reduceEqDiff, List.cons.injEq, xsn_1, xsn_2, false_and, and_false, or_false, false_or, or_true, true_or, xsn_3, xsn_4, ↓spwX7_needPoint, spcX7_needPoint, ↓spwX7_needTiedSet, spcX7_needTiedSet, ↓spwX7_fewestShifts, spcX7_fewestShifts, c, h0, h1, h2]
    try simp only [xif_e]
    refine ⟨h2.2.2, hok.1, fun z q S2 hI => ⟨(hok.2 z q S2 hI).1, fun v => ?_⟩⟩
    obtain ⟨a1, a2⟩ := (hok.2 z q S2 hI).2 v
    exact ⟨rfl, a1, a2⟩
  · have hpt := hpt c
    refine xgo0 hG (fun fu hfu => ?_)
    simp only [↓callX7_shiftsAnew_0, ↓callX7_shiftsAnew_1, ↓callX7_shiftsAnew_2, cisa, kb_6, kc_6, ki_0, ↓vm_aload_n, ↓vm_bipush, ↓vm_iconst, ↓vm_iload_n, ↓vm_invokestatic, ↓vm_invokevirtual, ↓vm_ireturn, ↓xc_1, ↓xc_3, ↓tbX7_shiftsAnew_0, ↓tbX7_shiftsAnew_1, ↓tbX7_shiftsAnew_4, ↓tbX7_shiftsAnew_5, ↓tbX7_shiftsAnew_6, ↓tbX7_shiftsAnew_7, ↓tbX7_shiftsAnew_10, ↓tbX7_shiftsAnew_11, ↓tbX7_shiftsAnew_13, ↓tbX7_shiftsAnew_16, hfu, xstep0, xJ1_hit, xJ1_go, xJ2_hit1, xJ2_hit2, xJ2_go, ↓xif_t, ↓xif_f, seval, ↓xca_eq, ↓xre_l, ↓xre_r, xmask_t, xmask_f, xmask_nil, ↓xst_eq, xX_eq, eI_eq, eMc_eq, eMs_eq, eF_eq, eThr_eq, ↓xS1_mk, ↓xSI_mk, ↓xSR_mk, ↓xLI_0, ↓xLI_s, ↓xLR_0, ↓xLR_s, vRef_ref, vRef_null, vRef_rf, cat_int, cat_ref, cat_null, cat_rf, rf_some, rf_none, rf_null, rf_eq, rf_ref, ref_rf, ref_null, ref_ref, xOk_0, xOk_1, xOk_2r, xOk_2n, xOk_2f, vOpt_rf, vOpt_ref, vOpt_null, List.set_cons_zero, List.set_cons_succ, List.take_succ_cons, List.take_zero, List.drop_succ_cons, List.drop_zero, List.reverse_cons, List.reverse_nil, List.nil_append, List.cons_append, List.append_nil, List.length_cons, List.length_nil, List.map_cons, List.map_nil, List.sum_cons, List.sum_nil, Option.toList_some, Option.toList_none, xRecv_mk, true_and, and_true, true_implies, Nat.reduceAdd, Nat.reduceLeDiff, Nat.zero_le, Nat.le_refl, Nat.add_zero, Nat.zero_add, reduceIte, not_true_eq_false, not_false_eq_true, false_implies, and_self, implies_true, eq_self, Nat.reduceEqDiff, List.cons.injEq, xsn_1, xsn_2, false_and, and_false, or_false, false_or, or_true, true_or, xsn_3, xsn_4, ↓spwX7_needPoint, spcX7_needPoint, ↓spwX7_needTiedSet, spcX7_needTiedSet, ↓spwX7_fewestShifts, spcX7_fewestShifts, c]
    try simp only [xif_e]
    first | exact hpt | grind
