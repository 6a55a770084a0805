/-! Bits counted, as the library does it. -/
def cUs (n x : Int32) : Int32 := (x.toUInt32 >>> (Int32.toUInt32 n &&& Int32.toUInt32 31)).toInt32
def cB1 (x : Int32) : Int32 := x - (cUs 1 x &&& nI 1431655765)
def cB2 (x : Int32) : Int32 := (x &&& nI 858993459) + (cUs 2 x &&& nI 858993459)
def cB3 (x : Int32) : Int32 := (x + cUs 4 x) &&& nI 252645135
def cB4 (x : Int32) : Int32 := x + cUs 8 x
def cB5 (x : Int32) : Int32 := x + cUs 16 x
def cBc (x : Int32) : Int32 := cB5 (cB4 (cB3 (cB2 (cB1 x)))) &&& 63

def tbJ6_bitCount_0f7a4 : List (Nat × xHint) := [(0, .iload_n 0, 0, 0, 0, []), (1, .iload_n 0, 0, 0, 0, []), (2, .iconst 1, 0, 0, 0, []), (3, .iushr, 0, 0, 0, []), (4, .ldc_w 265, 1431655765, 0, 0, []), (7, .iand, 0, 0, 0, []), (8, .isub, 0, 0, 0, []), (9, .istore_n 0, 0, 0, 0, []), (10, .iload_n 0, 0, 0, 0, []), (11, .ldc_w 266, 858993459, 0, 0, []), (14, .iand, 0, 0, 0, []), (15, .iload_n 0, 0, 0, 0, []), (16, .iconst 2, 0, 0, 0, []), (17, .iushr, 0, 0, 0, []), (18, .ldc_w 266, 858993459, 0, 0, []), (21, .iand, 0, 0, 0, []), (22, .iadd, 0, 0, 0, []), (23, .istore_n 0, 0, 0, 0, []), (24, .iload_n 0, 0, 0, 0, []), (25, .iload_n 0, 0, 0, 0, []), (26, .iconst 4, 0, 0, 0, []), (27, .iushr, 0, 0, 0, []), (28, .iadd, 0, 0, 0, []), (29, .ldc_w 267, 252645135, 0, 0, []), (32, .iand, 0, 0, 0, []), (33, .istore_n 0, 0, 0, 0, []), (34, .iload_n 0, 0, 0, 0, []), (35, .iload_n 0, 0, 0, 0, []), (36, .bipush 8, 0, 0, 0, []), (38, .iushr, 0, 0, 0, []), (39, .iadd, 0, 0, 0, []), (40, .istore_n 0, 0, 0, 0, []), (41, .iload_n 0, 0, 0, 0, []), (42, .iload_n 0, 0, 0, 0, []), (43, .bipush 16, 0, 0, 0, []), (45, .iushr, 0, 0, 0, []), (46, .iadd, 0, 0, 0, []), (47, .istore_n 0, 0, 0, 0, []), (48, .iload_n 0, 0, 0, 0, []), (49, .bipush 63, 0, 0, 0, []), (51, .iand, 0, 0, 0, []), (52, .ireturn, 0, 0, 0, [])]
def clJ6_bitCount_0f7a4 : List (Instr × Nat × Nat × Nat) := []
def thJ6_bitCount_0f7a4 : List (Nat × Nat) := []
theorem ckJ6_bitCount_0f7a4 : tbJ6_bitCount_0f7a4.all (xRow RJ6 cJ6_bitCount_0f7a4 wsJ6_bitCount_0f7a4 vwCl [] clJ6_bitCount_0f7a4 thJ6_bitCount_0f7a4 1 (yJ6_bitCount_0f7a4.name == "<init>") (some .int)) = true := xRow_q 0xac7e3f101a3b607c10101a1a3b607c08101a1a3b7e0b0113607c071a1a3b607e0a01137c051a7e0a01131a3b647e0901137c041a1a 53 (by decide +kernel) (by decide +kernel)
theorem usJ6_bitCount_0f7a4 : xUse wsJ6_bitCount_0f7a4 vwCl [] = true := xUse_n
theorem tbJ6_bitCount_0f7a4_0 {k : Instr → Nat → Nat → Nat → List Nat → Prop} : xse (xFind tbJ6_bitCount_0f7a4 0) k = k (.iload_n 0) 0 0 0 [] := rfl
theorem tbJ6_bitCount_0f7a4_1 {k : Instr → Nat → Nat → Nat → List Nat → Prop} : xse (xFind tbJ6_bitCount_0f7a4 1) k = k (.iload_n 0) 0 0 0 [] := rfl
theorem tbJ6_bitCount_0f7a4_2 {k : Instr → Nat → Nat → Nat → List Nat → Prop} : xse (xFind tbJ6_bitCount_0f7a4 2) k = k (.iconst 1) 0 0 0 [] := rfl
theorem tbJ6_bitCount_0f7a4_3 {k : Instr → Nat → Nat → Nat → List Nat → Prop} : xse (xFind tbJ6_bitCount_0f7a4 3) k = k (.iushr) 0 0 0 [] := rfl
theorem tbJ6_bitCount_0f7a4_4 {k : Instr → Nat → Nat → Nat → List Nat → Prop} : xse (xFind tbJ6_bitCount_0f7a4 4) k = k (.ldc_w 265) 1431655765 0 0 [] := rfl
theorem tbJ6_bitCount_0f7a4_7 {k : Instr → Nat → Nat → Nat → List Nat → Prop} : xse (xFind tbJ6_bitCount_0f7a4 7) k = k (.iand) 0 0 0 [] := rfl
theorem tbJ6_bitCount_0f7a4_8 {k : Instr → Nat → Nat → Nat → List Nat → Prop} : xse (xFind tbJ6_bitCount_0f7a4 8) k = k (.isub) 0 0 0 [] := rfl
theorem tbJ6_bitCount_0f7a4_9 {k : Instr → Nat → Nat → Nat → List Nat → Prop} : xse (xFind tbJ6_bitCount_0f7a4 9) k = k (.istore_n 0) 0 0 0 [] := rfl
theorem tbJ6_bitCount_0f7a4_10 {k : Instr → Nat → Nat → Nat → List Nat → Prop} : xse (xFind tbJ6_bitCount_0f7a4 10) k = k (.iload_n 0) 0 0 0 [] := rfl
theorem tbJ6_bitCount_0f7a4_11 {k : Instr → Nat → Nat → Nat → List Nat → Prop} : xse (xFind tbJ6_bitCount_0f7a4 11) k = k (.ldc_w 266) 858993459 0 0 [] := rfl
theorem tbJ6_bitCount_0f7a4_14 {k : Instr → Nat → Nat → Nat → List Nat → Prop} : xse (xFind tbJ6_bitCount_0f7a4 14) k = k (.iand) 0 0 0 [] := rfl
theorem tbJ6_bitCount_0f7a4_15 {k : Instr → Nat → Nat → Nat → List Nat → Prop} : xse (xFind tbJ6_bitCount_0f7a4 15) k = k (.iload_n 0) 0 0 0 [] := rfl
theorem tbJ6_bitCount_0f7a4_16 {k : Instr → Nat → Nat → Nat → List Nat → Prop} : xse (xFind tbJ6_bitCount_0f7a4 16) k = k (.iconst 2) 0 0 0 [] := rfl
theorem tbJ6_bitCount_0f7a4_17 {k : Instr → Nat → Nat → Nat → List Nat → Prop} : xse (xFind tbJ6_bitCount_0f7a4 17) k = k (.iushr) 0 0 0 [] := rfl
theorem tbJ6_bitCount_0f7a4_18 {k : Instr → Nat → Nat → Nat → List Nat → Prop} : xse (xFind tbJ6_bitCount_0f7a4 18) k = k (.ldc_w 266) 858993459 0 0 [] := rfl
theorem tbJ6_bitCount_0f7a4_21 {k : Instr → Nat → Nat → Nat → List Nat → Prop} : xse (xFind tbJ6_bitCount_0f7a4 21) k = k (.iand) 0 0 0 [] := rfl
theorem tbJ6_bitCount_0f7a4_22 {k : Instr → Nat → Nat → Nat → List Nat → Prop} : xse (xFind tbJ6_bitCount_0f7a4 22) k = k (.iadd) 0 0 0 [] := rfl
theorem tbJ6_bitCount_0f7a4_23 {k : Instr → Nat → Nat → Nat → List Nat → Prop} : xse (xFind tbJ6_bitCount_0f7a4 23) k = k (.istore_n 0) 0 0 0 [] := rfl
theorem tbJ6_bitCount_0f7a4_24 {k : Instr → Nat → Nat → Nat → List Nat → Prop} : xse (xFind tbJ6_bitCount_0f7a4 24) k = k (.iload_n 0) 0 0 0 [] := rfl
theorem tbJ6_bitCount_0f7a4_25 {k : Instr → Nat → Nat → Nat → List Nat → Prop} : xse (xFind tbJ6_bitCount_0f7a4 25) k = k (.iload_n 0) 0 0 0 [] := rfl
theorem tbJ6_bitCount_0f7a4_26 {k : Instr → Nat → Nat → Nat → List Nat → Prop} : xse (xFind tbJ6_bitCount_0f7a4 26) k = k (.iconst 4) 0 0 0 [] := rfl
theorem tbJ6_bitCount_0f7a4_27 {k : Instr → Nat → Nat → Nat → List Nat → Prop} : xse (xFind tbJ6_bitCount_0f7a4 27) k = k (.iushr) 0 0 0 [] := rfl
theorem tbJ6_bitCount_0f7a4_28 {k : Instr → Nat → Nat → Nat → List Nat → Prop} : xse (xFind tbJ6_bitCount_0f7a4 28) k = k (.iadd) 0 0 0 [] := rfl
theorem tbJ6_bitCount_0f7a4_29 {k : Instr → Nat → Nat → Nat → List Nat → Prop} : xse (xFind tbJ6_bitCount_0f7a4 29) k = k (.ldc_w 267) 252645135 0 0 [] := rfl
theorem tbJ6_bitCount_0f7a4_32 {k : Instr → Nat → Nat → Nat → List Nat → Prop} : xse (xFind tbJ6_bitCount_0f7a4 32) k = k (.iand) 0 0 0 [] := rfl
theorem tbJ6_bitCount_0f7a4_33 {k : Instr → Nat → Nat → Nat → List Nat → Prop} : xse (xFind tbJ6_bitCount_0f7a4 33) k = k (.istore_n 0) 0 0 0 [] := rfl
theorem tbJ6_bitCount_0f7a4_34 {k : Instr → Nat → Nat → Nat → List Nat → Prop} : xse (xFind tbJ6_bitCount_0f7a4 34) k = k (.iload_n 0) 0 0 0 [] := rfl
theorem tbJ6_bitCount_0f7a4_35 {k : Instr → Nat → Nat → Nat → List Nat → Prop} : xse (xFind tbJ6_bitCount_0f7a4 35) k = k (.iload_n 0) 0 0 0 [] := rfl
theorem tbJ6_bitCount_0f7a4_36 {k : Instr → Nat → Nat → Nat → List Nat → Prop} : xse (xFind tbJ6_bitCount_0f7a4 36) k = k (.bipush 8) 0 0 0 [] := rfl
theorem tbJ6_bitCount_0f7a4_38 {k : Instr → Nat → Nat → Nat → List Nat → Prop} : xse (xFind tbJ6_bitCount_0f7a4 38) k = k (.iushr) 0 0 0 [] := rfl
theorem tbJ6_bitCount_0f7a4_39 {k : Instr → Nat → Nat → Nat → List Nat → Prop} : xse (xFind tbJ6_bitCount_0f7a4 39) k = k (.iadd) 0 0 0 [] := rfl
theorem tbJ6_bitCount_0f7a4_40 {k : Instr → Nat → Nat → Nat → List Nat → Prop} : xse (xFind tbJ6_bitCount_0f7a4 40) k = k (.istore_n 0) 0 0 0 [] := rfl
theorem tbJ6_bitCount_0f7a4_41 {k : Instr → Nat → Nat → Nat → List Nat → Prop} : xse (xFind tbJ6_bitCount_0f7a4 41) k = k (.iload_n 0) 0 0 0 [] := rfl
theorem tbJ6_bitCount_0f7a4_42 {k : Instr → Nat → Nat → Nat → List Nat → Prop} : xse (xFind tbJ6_bitCount_0f7a4 42) k = k (.iload_n 0) 0 0 0 [] := rfl
theorem tbJ6_bitCount_0f7a4_43 {k : Instr → Nat → Nat → Nat → List Nat → Prop} : xse (xFind tbJ6_bitCount_0f7a4 43) k = k (.bipush 16) 0 0 0 [] := rfl
theorem tbJ6_bitCount_0f7a4_45 {k : Instr → Nat → Nat → Nat → List Nat → Prop} : xse (xFind tbJ6_bitCount_0f7a4 45) k = k (.iushr) 0 0 0 [] := rfl
theorem tbJ6_bitCount_0f7a4_46 {k : Instr → Nat → Nat → Nat → List Nat → Prop} : xse (xFind tbJ6_bitCount_0f7a4 46) k = k (.iadd) 0 0 0 [] := rfl
theorem tbJ6_bitCount_0f7a4_47 {k : Instr → Nat → Nat → Nat → List Nat → Prop} : xse (xFind tbJ6_bitCount_0f7a4 47) k = k (.istore_n 0) 0 0 0 [] := rfl
theorem tbJ6_bitCount_0f7a4_48 {k : Instr → Nat → Nat → Nat → List Nat → Prop} : xse (xFind tbJ6_bitCount_0f7a4 48) k = k (.iload_n 0) 0 0 0 [] := rfl
theorem tbJ6_bitCount_0f7a4_49 {k : Instr → Nat → Nat → Nat → List Nat → Prop} : xse (xFind tbJ6_bitCount_0f7a4 49) k = k (.bipush 63) 0 0 0 [] := rfl
theorem tbJ6_bitCount_0f7a4_51 {k : Instr → Nat → Nat → Nat → List Nat → Prop} : xse (xFind tbJ6_bitCount_0f7a4 51) k = k (.iand) 0 0 0 [] := rfl
theorem tbJ6_bitCount_0f7a4_52 {k : Instr → Nat → Nat → Nat → List Nat → Prop} : xse (xFind tbJ6_bitCount_0f7a4 52) k = k (.ireturn) 0 0 0 [] := rfl

def spJ6_bitCount_0f7a4 (W9 : xWd) : xSp cS := (fun av S => (0, 0), fun av S K => ∃ (x : Int32), av = [.int x] ∧ (K (rI (cBc x)) S))
theorem spcJ6_bitCount_0f7a4 {av : List Value} {S : cS} {W9 : xWd} : (spJ6_bitCount_0f7a4 W9).1 av S = (0, 0) := rfl
theorem spwJ6_bitCount_0f7a4 {S : cS} {W9 : xWd} {K : xRes → cS → Prop} {x : Int32} : (spJ6_bitCount_0f7a4 W9).2 [.int x] S K = (K (rI (cBc x)) S) :=
  propext ⟨fun h => by
    simp only [spJ6_bitCount_0f7a4] at h
    obtain ⟨_, e, h⟩ := h
    simp only [List.cons.injEq, Value.int.injEq, Value.ref.injEq, rf_eq, and_true, true_and] at e
    obtain rfl := e
    exact h, fun h => ⟨_, rfl, h⟩⟩

set_option maxHeartbeats 400000 in
set_option maxRecDepth 20000 in
theorem semJ6_bitCount_0f7a4 (l : Launch) (hl : l.stackTraces = false) (W9 : xWd) : xSem l W9 (cI) yJ6_bitCount_0f7a4 wsJ6_bitCount_0f7a4 0 0 (spJ6_bitCount_0f7a4 W9) := by
  refine xSem_of (call := fun _ => none) (thrf := fun _ => "") cI_law (by decide +kernel) rfl ckJ6_bitCount_0f7a4 usJ6_bitCount_0f7a4 xCallsOK_nil xThrOK_nil ?_ ?_
  · intro av S KF h
    obtain ⟨x, rfl, h⟩ := h
    exact ⟨by intro v hv; simp only [List.mem_cons, List.not_mem_nil, or_false] at hv; rcases hv with rfl <;> first | rfl | exact cat_rf, Nat.le_of_ble_eq_true rfl⟩
  intro av S KF h G hG
  obtain ⟨x, rfl, h⟩ := h
  rw [show (spJ6_bitCount_0f7a4 W9).1 _ S = _ from spcJ6_bitCount_0f7a4] at hG
  try dsimp only at hG
  change G 0 [some (.int x)] [] S 0 0
  refine xgo0 hG (fun fu hfu => ?_)
  clear hG
  simp only [kb_16, kb_63, kb_8, kc_16, kc_63, kc_8, ki_1, ki_2, ki_4, ↓vm_bipush, ↓vm_iadd, ↓vm_iand, ↓vm_iconst, ↓vm_iload_n, ↓vm_ireturn, ↓vm_istore_n, ↓vm_isub, ↓vm_iushr, ↓vm_ldc_w, ↓tbJ6_bitCount_0f7a4_0, ↓tbJ6_bitCount_0f7a4_1, ↓tbJ6_bitCount_0f7a4_2, ↓tbJ6_bitCount_0f7a4_3, ↓tbJ6_bitCount_0f7a4_4, ↓tbJ6_bitCount_0f7a4_7, ↓tbJ6_bitCount_0f7a4_8, ↓tbJ6_bitCount_0f7a4_9, ↓tbJ6_bitCount_0f7a4_10, ↓tbJ6_bitCount_0f7a4_11, ↓tbJ6_bitCount_0f7a4_14, ↓tbJ6_bitCount_0f7a4_15, ↓tbJ6_bitCount_0f7a4_16, ↓tbJ6_bitCount_0f7a4_17, ↓tbJ6_bitCount_0f7a4_18, ↓tbJ6_bitCount_0f7a4_21, ↓tbJ6_bitCount_0f7a4_22, ↓tbJ6_bitCount_0f7a4_23, ↓tbJ6_bitCount_0f7a4_24, ↓tbJ6_bitCount_0f7a4_25, ↓tbJ6_bitCount_0f7a4_26, ↓tbJ6_bitCount_0f7a4_27, ↓tbJ6_bitCount_0f7a4_28, ↓tbJ6_bitCount_0f7a4_29, ↓tbJ6_bitCount_0f7a4_32, ↓tbJ6_bitCount_0f7a4_33, ↓tbJ6_bitCount_0f7a4_34, ↓tbJ6_bitCount_0f7a4_35, ↓tbJ6_bitCount_0f7a4_36, ↓tbJ6_bitCount_0f7a4_38, ↓tbJ6_bitCount_0f7a4_39, ↓tbJ6_bitCount_0f7a4_40, ↓tbJ6_bitCount_0f7a4_41, ↓tbJ6_bitCount_0f7a4_42, ↓tbJ6_bitCount_0f7a4_43, ↓tbJ6_bitCount_0f7a4_45, ↓tbJ6_bitCount_0f7a4_46, ↓tbJ6_bitCount_0f7a4_47, ↓tbJ6_bitCount_0f7a4_48, ↓tbJ6_bitCount_0f7a4_49, ↓tbJ6_bitCount_0f7a4_51, ↓tbJ6_bitCount_0f7a4_52, hfu, xstep0, xJ1_hit, xJ1_go, xJ2_hit1, xJ2_hit2, xJ2_go, ↓xif_t, ↓xif_f, seval, ↓xca_eq, ↓xre_l, ↓xre_r, xmask_t, xmask_f, xmask_nil, ↓xst_eq, xX_eq, eI_eq, eMc_eq, eMs_eq, eF_eq, eThr_eq, ↓xS1_mk, ↓xSI_mk, ↓xSR_mk, ↓xLI_0, ↓xLI_s, ↓xLR_0, ↓xLR_s, vRef_ref, vRef_null, vRef_rf, cat_int, cat_ref, cat_null, cat_rf, rf_some, rf_none, rf_null, rf_eq, rf_ref, ref_rf, ref_null, ref_ref, xOk_0, xOk_1, xOk_2r, xOk_2n, xOk_2f, vOpt_rf, vOpt_ref, vOpt_null, List.set_cons_zero, List.set_cons_succ, List.take_succ_cons, List.take_zero, List.drop_succ_cons, List.drop_zero, List.reverse_cons, List.reverse_nil, List.nil_append, List.cons_append, List.append_nil, List.length_cons, List.length_nil, List.map_cons, List.map_nil, List.sum_cons, List.sum_nil, Option.toList_some, Option.toList_none, xRecv_mk, true_and, and_true, true_implies, Nat.reduceAdd, Nat.reduceLeDiff, Nat.zero_le, Nat.le_refl, Nat.add_zero, Nat.zero_add, reduceIte, not_true_eq_false, not_false_eq_true, false_implies, and_self, implies_true, eq_self, Nat.reduceEqDiff, List.cons.injEq, xsn_1, xsn_2, false_and, and_false, or_false, false_or, or_true, true_or, xsn_3, xsn_4]
  try simp only [xif_e]
  exact h
