/-! ArrayList: add and remove. -/
theorem lCap_m {W9 : xWd} {S : cS} {a b : Nat} {x : Int32} : lCap W9 (cSetI S a 0 x) b = lCap W9 S b := by
  unfold lCap lCn cRf
  simp only [cK_setI, cFi_setI, cFr_setI, cLen_setI, Nat.reduceEqDiff, and_false, if_false]
theorem lCn_m {S : cS} {a b : Nat} {x : Int32} : lCn (cSetI S a 0 x) b = lCn S b := by
  unfold lCn
  simp only [cFi_setI, Nat.reduceEqDiff, and_false, if_false]
theorem cRf_m {S : cS} {a b g h : Nat} {x : Int32} : cRf (cSetI S a g x) b h = cRf S b h := rfl
theorem lKd_m {S : cS} {a b c : Nat} {x : Int32} : lKd (cSetI S a 0 x) b c = lKd S b c := by
  unfold lKd
  rw [lCn_m, cRf_m]
  rfl
theorem lGrow_in {W9 : xWd} {S : cS} {L q : Nat} {S2 : cS} (h : lGrow W9 S L q S2) (b : Nat) (hb : ¬ cDead S b) : cK S2 b = cK S b := by
  obtain ⟨h1, h2, k, h3, h4, h5, rfl⟩ := h
  rw [cK_setR, cK_cpy, cK_newR, if_neg]
  intro z
  subst z
  exact hb h1
theorem lAdd_K {W9 : xWd} {S : cS} {L v : Nat} {S2 : cS} (h : lAdd W9 S L v S2) (b : Nat) (hb : ¬ cDead S b) : cK S2 b = cK S b := by
  rcases h with ⟨h1, h2, rfl⟩ | ⟨q, S1, h1, rfl⟩
  · rfl
  · exact lGrow_in h1 b hb
theorem live_of {S : cS} {b c : Nat} (h : cK S b = c) (hc : 1 ≤ c ∧ c ≤ 13) : ¬ cDead S b := fun z => z (by omega)

def tbJx4a65c_grow_d5877 : List (Nat × xHint) := [(0, .aload_n 0, 0, 0, 0, []), (1, .aload_n 0, 0, 0, 0, []), (2, .getfield 48, 0, 2, 0, []), (5, .iconst 1, 0, 0, 0, []), (6, .iadd, 0, 0, 0, []), (7, .invokevirtual 69, 0, 2, 0, []), (10, .areturn, 0, 0, 0, [])]
def clJx4a65c_grow_d5877 : List (Instr × Nat × Nat × Nat) := [(.invokevirtual 69, 0, 2, 0)]
def thJx4a65c_grow_d5877 : List (Nat × Nat) := []
theorem ckJx4a65c_grow_d5877 : tbJx4a65c_grow_d5877.all (xRow RJx4a65c cJx4a65c_grow_d5877 wsJx4a65c_grow_d5877 vwCl [0] clJx4a65c_grow_d5877 thJx4a65c_grow_d5877 1 (yJx4a65c_grow_d5877.name == "<init>") (some (.array (.object "java/lang/Object")))) = true := xRow_q 0xb04500b660043000b42a2a 11 (by decide +kernel) (by decide +kernel)
theorem usJx4a65c_grow_d5877 : xUse wsJx4a65c_grow_d5877 vwCl [0] = true := xUse_g rfl (lw_good lwl_Jx4a65c_grow_d5877 lwl_Jx4a65c0 (by decide +kernel)) xUse_n
theorem tbJx4a65c_grow_d5877_0 {k : Instr → Nat → Nat → Nat → List Nat → Prop} : xse (xFind tbJx4a65c_grow_d5877 0) k = k (.aload_n 0) 0 0 0 [] := rfl
theorem tbJx4a65c_grow_d5877_1 {k : Instr → Nat → Nat → Nat → List Nat → Prop} : xse (xFind tbJx4a65c_grow_d5877 1) k = k (.aload_n 0) 0 0 0 [] := rfl
theorem tbJx4a65c_grow_d5877_2 {k : Instr → Nat → Nat → Nat → List Nat → Prop} : xse (xFind tbJx4a65c_grow_d5877 2) k = k (.getfield 48) 0 2 0 [] := rfl
theorem tbJx4a65c_grow_d5877_5 {k : Instr → Nat → Nat → Nat → List Nat → Prop} : xse (xFind tbJx4a65c_grow_d5877 5) k = k (.iconst 1) 0 0 0 [] := rfl
theorem tbJx4a65c_grow_d5877_6 {k : Instr → Nat → Nat → Nat → List Nat → Prop} : xse (xFind tbJx4a65c_grow_d5877 6) k = k (.iadd) 0 0 0 [] := rfl
theorem tbJx4a65c_grow_d5877_7 {k : Instr → Nat → Nat → Nat → List Nat → Prop} : xse (xFind tbJx4a65c_grow_d5877 7) k = k (.invokevirtual 69) 0 2 0 [] := rfl
theorem tbJx4a65c_grow_d5877_10 {k : Instr → Nat → Nat → Nat → List Nat → Prop} : xse (xFind tbJx4a65c_grow_d5877 10) k = k (.areturn) 0 0 0 [] := rfl

def spJx4a65c_grow_d5877 (W9 : xWd) : xSp cS := (fun av S => (1, 45), fun av S K => ∃ (a : Nat), av = [.ref a] ∧ (lCap W9 S a ∧ (cRf S a 1 = wE W9 ∨ lCn S a = cLen S (cRf S a 1)) ∧ lCn S a < 30 ∧ (∃ c9, lKd S a c9) ∧ ∀ q S2, lGrow W9 S a q S2 → K (rR q) S2))
theorem spcJx4a65c_grow_d5877 {av : List Value} {S : cS} {W9 : xWd} : (spJx4a65c_grow_d5877 W9).1 av S = (1, 45) := rfl
theorem spwJx4a65c_grow_d5877 {S : cS} {W9 : xWd} {K : xRes → cS → Prop} {a : Nat} : (spJx4a65c_grow_d5877 W9).2 [.ref a] S K = (lCap W9 S a ∧ (cRf S a 1 = wE W9 ∨ lCn S a = cLen S (cRf S a 1)) ∧ lCn S a < 30 ∧ (∃ c9, lKd S a c9) ∧ ∀ q S2, lGrow W9 S a q S2 → K (rR q) S2) :=
  propext ⟨fun h => by
    simp only [spJx4a65c_grow_d5877] at h
    obtain ⟨_, e, h⟩ := h
    simp only [List.cons.injEq, Value.int.injEq, Value.ref.injEq, rf_eq, and_true, true_and] at e
    obtain rfl := e
    exact h, fun h => ⟨_, rfl, h⟩⟩

def callJx4a65c_grow_d5877 (W9 : xWd) : Nat → Option (xSp cS) := fun n => match n with | 0 => some (spJx4a65c_grow_92f84 W9) | _ => none

theorem callJx4a65c_grow_d5877_0 {W9 : xWd} {k : xSp cS → Prop} : xcs (callJx4a65c_grow_d5877 W9 0) k = k (spJx4a65c_grow_92f84 W9) := rfl

theorem crJx4a65c_grow_d5877 (l : Launch) (hl : l.stackTraces = false) (W9 : xWd) : xCallsOK l W9 (cI) (callJx4a65c_grow_d5877 W9) clJx4a65c_grow_d5877 RJx4a65c wsJx4a65c_grow_d5877 4 127 1 := by
  intro E A p e R s m args below meth c hI hF hL X
  exact List.forall_mem_cons.mpr ⟨⟨_, rfl, xCR_V X (by rw [hI]; exact (semJx4a65c_grow_92f84 l hl W9)) gJx4a65c_grow_d5877_Jx4a65c_grow_92f84 rfl rfl (by decide +kernel) (by rw [hF, hL]; decide)⟩,
    fun _ h => nomatch h⟩

set_option maxHeartbeats 600000 in
set_option maxRecDepth 20000 in
theorem semJx4a65c_grow_d5877 (l : Launch) (hl : l.stackTraces = false) (W9 : xWd) : xSem l W9 (cI) yJx4a65c_grow_d5877 wsJx4a65c_grow_d5877 4 127 (spJx4a65c_grow_d5877 W9) := by
  refine xSem_of (call := callJx4a65c_grow_d5877 W9) (thrf := fun _ => "") cI_law (by decide +kernel) rfl ckJx4a65c_grow_d5877 usJx4a65c_grow_d5877 (crJx4a65c_grow_d5877 l hl W9) xThrOK_nil ?_ ?_
  · intro av S KF h
    obtain ⟨a, rfl, h⟩ := h
    exact ⟨by intro v hv; simp only [List.mem_cons, List.not_mem_nil, or_false] at hv; rcases hv with rfl <;> first | rfl | exact cat_rf, Nat.le_of_ble_eq_true rfl⟩
  intro av S KF h G hG
  obtain ⟨a, rfl, h⟩ := h
  rw [show (spJx4a65c_grow_d5877 W9).1 _ S = _ from spcJx4a65c_grow_d5877] at hG
  try dsimp only at hG
  change G 0 [some (.ref a)] [] S 0 0
  obtain ⟨h1, h2, h3, h4, h⟩ := h
  have k1 := h1.1
  have k2 := h1.2.1
  refine xgo0 hG (fun fu hfu => ?_)
  clear hG
  simp only [↓callJx4a65c_grow_d5877_0, ↓cg_0_2, cisa, ki_1, ↓vm_aload_n, ↓vm_areturn, ↓vm_getfield, ↓vm_iadd, ↓vm_iconst, ↓vm_invokevirtual, ↓xc_2, ↓tbJx4a65c_grow_d5877_0, ↓tbJx4a65c_grow_d5877_1, ↓tbJx4a65c_grow_d5877_2, ↓tbJx4a65c_grow_d5877_5, ↓tbJx4a65c_grow_d5877_6, ↓tbJx4a65c_grow_d5877_7, ↓tbJx4a65c_grow_d5877_10, hfu, xstep0, xJ1_hit, xJ1_go, xJ2_hit1, xJ2_hit2, xJ2_go, ↓xif_t, ↓xif_f, seval, ↓xca_eq, ↓xre_l, ↓xre_r, xmask_t, xmask_f, xmask_nil, ↓xst_eq, xX_eq, eI_eq, eMc_eq, eMs_eq, eF_eq, eThr_eq, ↓xS1_mk, ↓xSI_mk, ↓xSR_mk, ↓xLI_0, ↓xLI_s, ↓xLR_0, ↓xLR_s, vRef_ref, vRef_null, vRef_rf, cat_int, cat_ref, cat_null, cat_rf, rf_some, rf_none, rf_null, rf_eq, rf_ref, ref_rf, ref_null, ref_ref, xOk_0, xOk_1, xOk_2r, xOk_2n, xOk_2f, vOpt_rf, vOpt_ref, vOpt_null, List.set_cons_zero, List.set_cons_succ, List.take_succ_cons, List.take_zero, List.drop_succ_cons, List.drop_zero, List.reverse_cons, List.reverse_nil, List.nil_append, List.cons_append, List.append_nil, List.length_cons, List.length_nil, List.map_cons, List.map_nil, List.sum_cons, List.sum_nil, Option.toList_some, Option.toList_none, xRecv_mk, true_and, and_true, true_implies, Nat.reduceAdd, Nat.reduceLeDiff, Nat.zero_le, Nat.le_refl, Nat.add_zero, Nat.zero_add, reduceIte, not_true_eq_false, not_false_eq_true, false_implies, and_self, implies_true, eq_self, Nat.reduceEqDiff, List.cons.injEq, xsn_1, xsn_2, false_and, and_false, or_false, false_or, or_true, true_or, xsn_3, xsn_4, k1, k2, nI1, h1, h2, h3, h4, ↓spwJx4a65c_grow_92f84, spcJx4a65c_grow_92f84]
  try simp only [xif_e]
  repeat' (first | exact h | exact Nat.le_refl _ | with_reducible apply And.intro)

def tbJx4a65c_add_72be8 : List (Nat × xHint) := [(0, .iload_n 3, 3, 0, 0, []), (1, .aload_n 2, 2, 0, 0, []), (2, .arraylength, 0, 0, 1, []), (3, .if_icmp .ne 8, 11, 0, 0, []), (6, .aload_n 0, 0, 0, 0, []), (7, .invokevirtual 129, 1, 1, 0, []), (10, .astore_n 2, 2, 0, 0, []), (11, .aload_n 2, 2, 0, 0, []), (12, .iload_n 3, 3, 0, 0, []), (13, .aload_n 1, 1, 0, 0, []), (14, .aastore, 2, 0, 0, []), (15, .aload_n 0, 0, 0, 0, []), (16, .iload_n 3, 3, 0, 0, []), (17, .iconst 1, 0, 0, 0, []), (18, .iadd, 0, 0, 0, []), (19, .putfield 48, 0, 2, 0, []), (22, .return_, 0, 0, 0, [])]
def clJx4a65c_add_72be8 : List (Instr × Nat × Nat × Nat) := [(.arraylength, 0, 1, 0), (.invokevirtual 129, 1, 1, 0), (.aastore, 2, 3, 0)]
def thJx4a65c_add_72be8 : List (Nat × Nat) := []
theorem ckJx4a65c_add_72be8 : tbJx4a65c_add_72be8.all (xRow RJx4a65c cJx4a65c_add_72be8 wsJx4a65c_add_72be8 vwCl [0] clJx4a65c_add_72be8 thJx4a65c_add_72be8 4 (yJx4a65c_add_72be8.name == "<init>") none) = true := xRow_q 0xb13000b560041d2a532b1d2c4d8100b62a0800a0be2c1d 23 (by decide +kernel) (by decide +kernel)
theorem usJx4a65c_add_72be8 : xUse wsJx4a65c_add_72be8 vwCl [0] = true := xUse_g rfl (lw_good lwl_Jx4a65c_add_72be8 lwl_Jx4a65c0 (by decide +kernel)) xUse_n
theorem tbJx4a65c_add_72be8_0 {k : Instr → Nat → Nat → Nat → List Nat → Prop} : xse (xFind tbJx4a65c_add_72be8 0) k = k (.iload_n 3) 3 0 0 [] := rfl
theorem tbJx4a65c_add_72be8_1 {k : Instr → Nat → Nat → Nat → List Nat → Prop} : xse (xFind tbJx4a65c_add_72be8 1) k = k (.aload_n 2) 2 0 0 [] := rfl
theorem tbJx4a65c_add_72be8_2 {k : Instr → Nat → Nat → Nat → List Nat → Prop} : xse (xFind tbJx4a65c_add_72be8 2) k = k (.arraylength) 0 0 1 [] := rfl
theorem tbJx4a65c_add_72be8_3 {k : Instr → Nat → Nat → Nat → List Nat → Prop} : xse (xFind tbJx4a65c_add_72be8 3) k = k (.if_icmp .ne 8) 11 0 0 [] := rfl
theorem tbJx4a65c_add_72be8_6 {k : Instr → Nat → Nat → Nat → List Nat → Prop} : xse (xFind tbJx4a65c_add_72be8 6) k = k (.aload_n 0) 0 0 0 [] := rfl
theorem tbJx4a65c_add_72be8_7 {k : Instr → Nat → Nat → Nat → List Nat → Prop} : xse (xFind tbJx4a65c_add_72be8 7) k = k (.invokevirtual 129) 1 1 0 [] := rfl
theorem tbJx4a65c_add_72be8_10 {k : Instr → Nat → Nat → Nat → List Nat → Prop} : xse (xFind tbJx4a65c_add_72be8 10) k = k (.astore_n 2) 2 0 0 [] := rfl
theorem tbJx4a65c_add_72be8_11 {k : Instr → Nat → Nat → Nat → List Nat → Prop} : xse (xFind tbJx4a65c_add_72be8 11) k = k (.aload_n 2) 2 0 0 [] := rfl
theorem tbJx4a65c_add_72be8_12 {k : Instr → Nat → Nat → Nat → List Nat → Prop} : xse (xFind tbJx4a65c_add_72be8 12) k = k (.iload_n 3) 3 0 0 [] := rfl
theorem tbJx4a65c_add_72be8_13 {k : Instr → Nat → Nat → Nat → List Nat → Prop} : xse (xFind tbJx4a65c_add_72be8 13) k = k (.aload_n 1) 1 0 0 [] := rfl
theorem tbJx4a65c_add_72be8_14 {k : Instr → Nat → Nat → Nat → List Nat → Prop} : xse (xFind tbJx4a65c_add_72be8 14) k = k (.aastore) 2 0 0 [] := rfl
theorem tbJx4a65c_add_72be8_15 {k : Instr → Nat → Nat → Nat → List Nat → Prop} : xse (xFind tbJx4a65c_add_72be8 15) k = k (.aload_n 0) 0 0 0 [] := rfl
theorem tbJx4a65c_add_72be8_16 {k : Instr → Nat → Nat → Nat → List Nat → Prop} : xse (xFind tbJx4a65c_add_72be8 16) k = k (.iload_n 3) 3 0 0 [] := rfl
theorem tbJx4a65c_add_72be8_17 {k : Instr → Nat → Nat → Nat → List Nat → Prop} : xse (xFind tbJx4a65c_add_72be8 17) k = k (.iconst 1) 0 0 0 [] := rfl
theorem tbJx4a65c_add_72be8_18 {k : Instr → Nat → Nat → Nat → List Nat → Prop} : xse (xFind tbJx4a65c_add_72be8 18) k = k (.iadd) 0 0 0 [] := rfl
theorem tbJx4a65c_add_72be8_19 {k : Instr → Nat → Nat → Nat → List Nat → Prop} : xse (xFind tbJx4a65c_add_72be8 19) k = k (.putfield 48) 0 2 0 [] := rfl
theorem tbJx4a65c_add_72be8_22 {k : Instr → Nat → Nat → Nat → List Nat → Prop} : xse (xFind tbJx4a65c_add_72be8 22) k = k (.return_) 0 0 0 [] := rfl

def spJx4a65c_add_72be8 (W9 : xWd) : xSp cS := (fun av S => (1, 45), fun av S K => ∃ (a : Nat) (v : Nat) (e : Nat) (n : Int32), av = [.ref a, .ref v, .ref e, .int n] ∧ (lCap W9 S a ∧ lCn S a < 30 ∧ (e = cRf S a 1 ∧ n = nI (lCn S a)) ∧ lKd S a (cK S v) ∧ ∀ S2, lAdd W9 S a v S2 → K rV S2))
theorem spcJx4a65c_add_72be8 {av : List Value} {S : cS} {W9 : xWd} : (spJx4a65c_add_72be8 W9).1 av S = (1, 45) := rfl
theorem spwJx4a65c_add_72be8 {S : cS} {W9 : xWd} {K : xRes → cS → Prop} {a : Nat} {v : Nat} {e : Nat} {n : Int32} : (spJx4a65c_add_72be8 W9).2 [.ref a, .ref v, .ref e, .int n] S K = (lCap W9 S a ∧ lCn S a < 30 ∧ (e = cRf S a 1 ∧ n = nI (lCn S a)) ∧ lKd S a (cK S v) ∧ ∀ S2, lAdd W9 S a v S2 → K rV S2) :=
  propext ⟨fun h => by
    simp only [spJx4a65c_add_72be8] at h
    obtain ⟨_, _, _, _, e, h⟩ := h
    simp only [List.cons.injEq, Value.int.injEq, Value.ref.injEq, rf_eq, and_true, true_and] at e
    obtain ⟨rfl, rfl, rfl, rfl⟩ := e
    exact h, fun h => ⟨_, _, _, _, rfl, h⟩⟩

def callJx4a65c_add_72be8 (W9 : xWd) : Nat → Option (xSp cS) := fun n => match n with | 0 => some (sp_aln W9) | 1 => some (spJx4a65c_grow_d5877 W9) | 2 => some (sp_ast W9) | _ => none

theorem callJx4a65c_add_72be8_0 {W9 : xWd} {k : xSp cS → Prop} : xcs (callJx4a65c_add_72be8 W9 0) k = k (sp_aln W9) := rfl

theorem callJx4a65c_add_72be8_1 {W9 : xWd} {k : xSp cS → Prop} : xcs (callJx4a65c_add_72be8 W9 1) k = k (spJx4a65c_grow_d5877 W9) := rfl

theorem callJx4a65c_add_72be8_2 {W9 : xWd} {k : xSp cS → Prop} : xcs (callJx4a65c_add_72be8 W9 2) k = k (sp_ast W9) := rfl

theorem crJx4a65c_add_72be8 (l : Launch) (hl : l.stackTraces = false) (W9 : xWd) : xCallsOK l W9 (cI) (callJx4a65c_add_72be8 W9) clJx4a65c_add_72be8 RJx4a65c wsJx4a65c_add_72be8 5 147 4 := by
  intro E A p e R s m args below meth c hI hF hL X
  exact List.forall_mem_cons.mpr ⟨⟨_, rfl, xCR_aln hI X⟩,
    List.forall_mem_cons.mpr ⟨⟨_, rfl, xCR_V X (by rw [hI]; exact (semJx4a65c_grow_d5877 l hl W9)) gJx4a65c_add_72be8_Jx4a65c_grow_d5877 rfl rfl (by decide +kernel) (by rw [hF, hL]; decide)⟩,
    List.forall_mem_cons.mpr ⟨⟨_, rfl, xCR_ast hI X⟩,
    fun _ h => nomatch h⟩⟩⟩

set_option maxHeartbeats 600000 in
set_option maxRecDepth 20000 in
theorem semJx4a65c_add_72be8 (l : Launch) (hl : l.stackTraces = false) (W9 : xWd) : xSem l W9 (cI) yJx4a65c_add_72be8 wsJx4a65c_add_72be8 5 147 (spJx4a65c_add_72be8 W9) := by
  refine xSem_of (call := callJx4a65c_add_72be8 W9) (thrf := fun _ => "") cI_law (by decide +kernel) rfl ckJx4a65c_add_72be8 usJx4a65c_add_72be8 (crJx4a65c_add_72be8 l hl W9) xThrOK_nil ?_ ?_
  · intro av S KF h
    obtain ⟨a, v, e, n, rfl, h⟩ := h
    exact ⟨by intro v hv; simp only [List.mem_cons, List.not_mem_nil, or_false] at hv; rcases hv with rfl | rfl | rfl | rfl <;> first | rfl | exact cat_rf, Nat.le_of_ble_eq_true rfl⟩
  intro av S KF h G hG
  obtain ⟨a, v, e, n, rfl, h⟩ := h
  rw [show (spJx4a65c_add_72be8 W9).1 _ S = _ from spcJx4a65c_add_72be8] at hG
  try dsimp only at hG
  change G 0 [some (.ref a), some (.ref v), some (.ref e), some (.int n)] [] S 0 0
  obtain ⟨h1, h2, ⟨he, rfl⟩, h4, h⟩ := h

  have hc := h1
  obtain ⟨k1, k2, k3, k4, k5⟩ := h1
  have hv := h4.1
  have hvl : 1 ≤ cK S v ∧ cK S v ≤ 13 := by rcases hv with z | z | z | z | z <;> omega
  unfold lAdd at h
  generalize hN : lCn S a = n at *
  have c11 : ∀ e2 S1 cs ss, cs ≤ 1 → ss ≤ 45 → cK S1 e2 = 13 → n < cLen S1 e2 → cEl (cK S1 v) → cK S1 a = 1 → KF rV (cSetI (cAstR S1 e2 n (some v)) a 2 (nI (n + 1))) → G 11 [some (.ref a), some (.ref v), some (.ref e2), some (.int (nI n))] [] S1 cs ss := by
    intro e2 S1 cs ss i1 i2 i3 i4 i5 i6 i7
    refine xgo0 hG (fun fu hfu => ?_)
    simp only [↓callJx4a65c_add_72be8_0, ↓callJx4a65c_add_72be8_1, ↓callJx4a65c_add_72be8_2, cisa, ↓cp_0_2, ki_1, ↓vm_aastore, ↓vm_aload_n, ↓vm_arraylength1, ↓vm_astore_n, ↓vm_iadd, ↓vm_iconst, ↓vm_if_icmp_ne, ↓vm_iload_n, ↓vm_invokevirtual, ↓vm_putfield, ↓vm_return_, ↓xc_1, ↓xc_3, ↓tbJx4a65c_add_72be8_0, ↓tbJx4a65c_add_72be8_1, ↓tbJx4a65c_add_72be8_2, ↓tbJx4a65c_add_72be8_3, ↓tbJx4a65c_add_72be8_6, ↓tbJx4a65c_add_72be8_7, ↓tbJx4a65c_add_72be8_10, ↓tbJx4a65c_add_72be8_11, ↓tbJx4a65c_add_72be8_12, ↓tbJx4a65c_add_72be8_13, ↓tbJx4a65c_add_72be8_14, ↓tbJx4a65c_add_72be8_15, ↓tbJx4a65c_add_72be8_16, ↓tbJx4a65c_add_72be8_17, ↓tbJx4a65c_add_72be8_18, ↓tbJx4a65c_add_72be8_19, ↓tbJx4a65c_add_72be8_22, hfu, xstep0, xJ1_hit, xJ1_go, xJ2_hit1, xJ2_hit2, xJ2_go, ↓xif_t, ↓xif_f, seval, ↓xca_eq, ↓xre_l, ↓xre_r, xmask_t, xmask_f, xmask_nil, ↓xst_eq, xX_eq, eI_eq, eMc_eq, eMs_eq, eF_eq, eThr_eq, ↓xS1_mk, ↓xSI_mk, ↓xSR_mk, ↓xLI_0, ↓xLI_s, ↓xLR_0, ↓xLR_s, vRef_ref, vRef_null, vRef_rf, cat_int, cat_ref, cat_null, cat_rf, rf_some, rf_none, rf_null, rf_eq, rf_ref, ref_rf, ref_null, ref_ref, xOk_0, xOk_1, xOk_2r, xOk_2n, xOk_2f, vOpt_rf, vOpt_ref, vOpt_null, List.set_cons_zero, List.set_cons_succ, List.take_succ_cons, List.take_zero, List.drop_succ_cons, List.drop_zero, List.reverse_cons, List.reverse_nil, List.nil_append, List.cons_append, List.append_nil, List.length_cons, List.length_nil, List.map_cons, List.map_nil, List.sum_cons, List.sum_nil, Option.toList_some, Option.toList_none, xRecv_mk, true_and, and_true, true_implies, Nat.reduceAdd, Nat.reduceLeDiff, Nat.zero_le, Nat.le_refl, Nat.add_zero, Nat.zero_add, reduceIte, not_true_eq_false, not_false_eq_true, false_implies, and_self, implies_true, eq_self, Nat.reduceEqDiff, List.cons.injEq, xsn_1, xsn_2, false_and, and_false, or_false, false_or, or_true, true_or, xsn_3, xsn_4, ↓sp_aln_w, sp_aln_c, ↓spwJx4a65c_grow_d5877, spcJx4a65c_grow_d5877, ↓sp_ast_w, sp_ast_c, ↓sp_astn_w, i3, vin_lt i4 (show n < 1000 by omega), i5, ix_nI (show n < 1000 by omega), cK_astR, i6, nI1]
    try simp only [xif_e]
    exact ⟨i1, i2, i1, i2, i7⟩
  by_cases c : cRf S a 1 = wE W9 ∨ n = cLen S (cRf S a 1)
  · refine xgo hG (head := 11) (mb := [true, true, true, true]) (P := fun lv st S1 cs ss => ∃ q, lGrow W9 S a q S1 ∧ lv = [some (.ref a), some (.ref v), some (.ref q), some (.int (nI n))] ∧ st = [] ∧ cs = 1 ∧ ss = 45) (fun lv st S1 cs ss hP => ?_) (fun fu hfu => ?_)
    · obtain ⟨q, hg, rfl, rfl, rfl, rfl⟩ := hP
      have hg2 := hg
      obtain ⟨g1, g2, k, g3, g4, g5, g6⟩ := hg
      have hkq : cK S1 q = 13 := by rw [g6, cK_setR, cK_cpy, cK_newR, if_pos rfl]
      have hlq : cLen S1 q = k := by rw [g6, cLen_setR, cLen_cpy, cLen_newR, if_pos rfl]
      have hv1 : cK S1 v = cK S v := lGrow_in hg2 v (live_of rfl hvl)
      have ha1 : cK S1 a = 1 := (lGrow_in hg2 a (live_of k1 (by omega))).trans k1
      exact c11 q S1 1 45 (by omega) (by omega) hkq (by rw [hlq]; omega) (by rw [hv1]; exact hv) ha1 (h _ (Or.inr ⟨q, S1, hg2, rfl⟩))
    · have e1 : (if e = wE W9 then (0 : Int32) else Int32.ofNat (cLen S e)) = nI n := by
        rcases k5 with ⟨z1, z2⟩ | ⟨z1, z2, z3, z4, z5⟩
        · rw [if_pos (he.trans z1), z2]; rfl
        · have := c.resolve_left z1
          rw [if_neg (by rw [he]; exact z1), he, this]; rfl
      have e2 : e = wE W9 ∨ cK S e = 13 := by
        rcases k5 with ⟨z1, z2⟩ | ⟨z1, z2, z3, z4, z5⟩
        · exact Or.inl (he.trans z1)
        · exact Or.inr (by rw [he]; exact z2)
      rw [← hN] at h2 c
      have h4e : ∃ c9, lKd S a c9 := ⟨_, h4⟩
      simp only [↓callJx4a65c_add_72be8_0, ↓callJx4a65c_add_72be8_1, ↓callJx4a65c_add_72be8_2, cisa, ↓cp_0_2, ki_1, ↓vm_aastore, ↓vm_aload_n, ↓vm_arraylength1, ↓vm_astore_n, ↓vm_iadd, ↓vm_iconst, ↓vm_if_icmp_ne, ↓vm_iload_n, ↓vm_invokevirtual, ↓vm_putfield, ↓vm_return_, ↓xc_1, ↓xc_3, ↓tbJx4a65c_add_72be8_0, ↓tbJx4a65c_add_72be8_1, ↓tbJx4a65c_add_72be8_2, ↓tbJx4a65c_add_72be8_3, ↓tbJx4a65c_add_72be8_6, ↓tbJx4a65c_add_72be8_7, ↓tbJx4a65c_add_72be8_10, ↓tbJx4a65c_add_72be8_11, ↓tbJx4a65c_add_72be8_12, ↓tbJx4a65c_add_72be8_13, ↓tbJx4a65c_add_72be8_14, ↓tbJx4a65c_add_72be8_15, ↓tbJx4a65c_add_72be8_16, ↓tbJx4a65c_add_72be8_17, ↓tbJx4a65c_add_72be8_18, ↓tbJx4a65c_add_72be8_19, ↓tbJx4a65c_add_72be8_22, hfu, xstep0, xJ1_hit, xJ1_go, xJ2_hit1, xJ2_hit2, xJ2_go, ↓xif_t, ↓xif_f, seval, ↓xca_eq, ↓xre_l, ↓xre_r, xmask_t, xmask_f, xmask_nil, ↓xst_eq, xX_eq, eI_eq, eMc_eq, eMs_eq, eF_eq, eThr_eq, ↓xS1_mk, ↓xSI_mk, ↓xSR_mk, ↓xLI_0, ↓xLI_s, ↓xLR_0, ↓xLR_s, vRef_ref, vRef_null, vRef_rf, cat_int, cat_ref, cat_null, cat_rf, rf_some, rf_none, rf_null, rf_eq, rf_ref, ref_rf, ref_null, ref_ref, xOk_0, xOk_1, xOk_2r, xOk_2n, xOk_2f, vOpt_rf, vOpt_ref, vOpt_null, List.set_cons_zero, List.set_cons_succ, List.take_succ_cons, List.take_zero, List.drop_succ_cons, List.drop_zero, List.reverse_cons, List.reverse_nil, List.nil_append, List.cons_append, List.append_nil, List.length_cons, List.length_nil, List.map_cons, List.map_nil, List.sum_cons, List.sum_nil, Option.toList_some, Option.toList_none, xRecv_mk, true_and, and_true, true_implies, Nat.reduceAdd, Nat.reduceLeDiff, Nat.zero_le, Nat.le_refl, Nat.add_zero, Nat.zero_add, reduceIte, not_true_eq_false, not_false_eq_true, false_implies, and_self, implies_true, eq_self, Nat.reduceEqDiff, List.cons.injEq, xsn_1, xsn_2, false_and, and_false, or_false, false_or, or_true, true_or, xsn_3, xsn_4, ↓sp_aln_w, sp_aln_c, ↓spwJx4a65c_grow_d5877, spcJx4a65c_grow_d5877, ↓sp_ast_w, sp_ast_c, ↓sp_astn_w, e1, e2, k1, hc, c, h2, h4e]
      try simp only [xif_e]
      intro q S2 hg
      first | exact ⟨q, hg, rfl⟩ | exact ⟨q, hg, rfl, rfl, rfl, rfl⟩ | grind
  · have c1 : cRf S a 1 ≠ wE W9 := fun z => c (Or.inl z)
    have c2 : n ≠ cLen S (cRf S a 1) := fun z => c (Or.inr z)
    obtain ⟨-, z2, z3, z4, z5⟩ := k5.resolve_left (fun z => c1 z.1)
    refine xgo hG (head := 11) (mb := [true, true, true, true]) (P := fun lv st S1 cs ss => lv = [some (.ref a), some (.ref v), some (.ref e), some (.int (nI n))] ∧ st = [] ∧ S = S1 ∧ cs = 0 ∧ ss = 0) (fun lv st S1 cs ss hP => ?_) (fun fu hfu => ?_)
    · obtain ⟨rfl, rfl, rfl, rfl, rfl⟩ := hP
      exact c11 e S 0 0 (by omega) (by omega) (by rw [he]; exact z2) (by rw [he]; omega) hv k1 (h _ (Or.inl ⟨c1, by omega, by rw [he]⟩))
    · have e1 : (if e = wE W9 then (0 : Int32) else Int32.ofNat (cLen S e)) = nI (cLen S e) := if_neg (by rw [he]; exact c1)
      have e2 : e = wE W9 ∨ cK S e = 13 := Or.inr (by rw [he]; exact z2)
      have e3 : (nI n = nI (cLen S e)) = False := by
        rw [eq_nI (by omega) (by rw [he]; omega)]
        exact eq_false (by rw [he]; exact c2)
      simp only [↓callJx4a65c_add_72be8_0, ↓callJx4a65c_add_72be8_1, ↓callJx4a65c_add_72be8_2, cisa, ↓cp_0_2, ki_1, ↓vm_aastore, ↓vm_aload_n, ↓vm_arraylength1, ↓vm_astore_n, ↓vm_iadd, ↓vm_iconst, ↓vm_if_icmp_ne, ↓vm_iload_n, ↓vm_invokevirtual, ↓vm_putfield, ↓vm_return_, ↓xc_1, ↓xc_3, ↓tbJx4a65c_add_72be8_0, ↓tbJx4a65c_add_72be8_1, ↓tbJx4a65c_add_72be8_2, ↓tbJx4a65c_add_72be8_3, ↓tbJx4a65c_add_72be8_6, ↓tbJx4a65c_add_72be8_7, ↓tbJx4a65c_add_72be8_10, ↓tbJx4a65c_add_72be8_11, ↓tbJx4a65c_add_72be8_12, ↓tbJx4a65c_add_72be8_13, ↓tbJx4a65c_add_72be8_14, ↓tbJx4a65c_add_72be8_15, ↓tbJx4a65c_add_72be8_16, ↓tbJx4a65c_add_72be8_17, ↓tbJx4a65c_add_72be8_18, ↓tbJx4a65c_add_72be8_19, ↓tbJx4a65c_add_72be8_22, hfu, xstep0, xJ1_hit, xJ1_go, xJ2_hit1, xJ2_hit2, xJ2_go, ↓xif_t, ↓xif_f, seval, ↓xca_eq, ↓xre_l, ↓xre_r, xmask_t, xmask_f, xmask_nil, ↓xst_eq, xX_eq, eI_eq, eMc_eq, eMs_eq, eF_eq, eThr_eq, ↓xS1_mk, ↓xSI_mk, ↓xSR_mk, ↓xLI_0, ↓xLI_s, ↓xLR_0, ↓xLR_s, vRef_ref, vRef_null, vRef_rf, cat_int, cat_ref, cat_null, cat_rf, rf_some, rf_none, rf_null, rf_eq, rf_ref, ref_rf, ref_null, ref_ref, xOk_0, xOk_1, xOk_2r, xOk_2n, xOk_2f, vOpt_rf, vOpt_ref, vOpt_null, List.set_cons_zero, List.set_cons_succ, List.take_succ_cons, List.take_zero, List.drop_succ_cons, List.drop_zero, List.reverse_cons, List.reverse_nil, List.nil_append, List.cons_append, List.append_nil, List.length_cons, List.length_nil, List.map_cons, List.map_nil, List.sum_cons, List.sum_nil, Option.toList_some, Option.toList_none, xRecv_mk, true_and, and_true, true_implies, Nat.reduceAdd, Nat.reduceLeDiff, Nat.zero_le, Nat.le_refl, Nat.add_zero, Nat.zero_add, reduceIte, not_true_eq_false, not_false_eq_true, false_implies, and_self, implies_true, eq_self, Nat.reduceEqDiff, List.cons.injEq, xsn_1, xsn_2, false_and, and_false, or_false, false_or, or_true, true_or, xsn_3, xsn_4, ↓sp_aln_w, sp_aln_c, ↓spwJx4a65c_grow_d5877, spcJx4a65c_grow_d5877, ↓sp_ast_w, sp_ast_c, ↓sp_astn_w, e1, e2, e3]
      try simp only [xif_e]
      repeat' (first | rfl | apply And.intro)

def tbJx4a65c_add_9ea2d : List (Nat × xHint) := [(0, .aload_n 0, 0, 0, 0, []), (1, .dup, 0, 0, 0, []), (2, .getfield 63, 0, 0, 0, []), (5, .iconst 1, 0, 0, 0, []), (6, .iadd, 0, 0, 0, []), (7, .putfield 63, 0, 0, 0, []), (10, .aload_n 0, 0, 0, 0, []), (11, .aload_n 1, 1, 0, 0, []), (12, .aload_n 0, 0, 0, 0, []), (13, .getfield 9, 0, 1, 2, []), (16, .aload_n 0, 0, 0, 0, []), (17, .getfield 48, 0, 2, 0, []), (20, .invokevirtual 131, 0, 4, 0, []), (23, .iconst 1, 0, 0, 0, []), (24, .ireturn, 1, 0, 0, [])]
def clJx4a65c_add_9ea2d : List (Instr × Nat × Nat × Nat) := [(.invokevirtual 131, 0, 4, 0)]
def thJx4a65c_add_9ea2d : List (Nat × Nat) := []
theorem ckJx4a65c_add_9ea2d : tbJx4a65c_add_9ea2d.all (xRow RJx4a65c cJx4a65c_add_9ea2d wsJx4a65c_add_9ea2d vwCl [0] clJx4a65c_add_9ea2d thJx4a65c_add_9ea2d 2 (yJx4a65c_add_9ea2d.name == "<init>") (some .boolean)) = true := xRow_q 0xac048300b63000b42a0900b42a2b2a3f00b560043f00b4592a 25 (by decide +kernel) (by decide +kernel)
theorem usJx4a65c_add_9ea2d : xUse wsJx4a65c_add_9ea2d vwCl [0] = true := xUse_g rfl (lw_good lwl_Jx4a65c_add_9ea2d lwl_Jx4a65c0 (by decide +kernel)) xUse_n
theorem tbJx4a65c_add_9ea2d_0 {k : Instr → Nat → Nat → Nat → List Nat → Prop} : xse (xFind tbJx4a65c_add_9ea2d 0) k = k (.aload_n 0) 0 0 0 [] := rfl
theorem tbJx4a65c_add_9ea2d_1 {k : Instr → Nat → Nat → Nat → List Nat → Prop} : xse (xFind tbJx4a65c_add_9ea2d 1) k = k (.dup) 0 0 0 [] := rfl
theorem tbJx4a65c_add_9ea2d_2 {k : Instr → Nat → Nat → Nat → List Nat → Prop} : xse (xFind tbJx4a65c_add_9ea2d 2) k = k (.getfield 63) 0 0 0 [] := rfl
theorem tbJx4a65c_add_9ea2d_5 {k : Instr → Nat → Nat → Nat → List Nat → Prop} : xse (xFind tbJx4a65c_add_9ea2d 5) k = k (.iconst 1) 0 0 0 [] := rfl
theorem tbJx4a65c_add_9ea2d_6 {k : Instr → Nat → Nat → Nat → List Nat → Prop} : xse (xFind tbJx4a65c_add_9ea2d 6) k = k (.iadd) 0 0 0 [] := rfl
theorem tbJx4a65c_add_9ea2d_7 {k : Instr → Nat → Nat → Nat → List Nat → Prop} : xse (xFind tbJx4a65c_add_9ea2d 7) k = k (.putfield 63) 0 0 0 [] := rfl
theorem tbJx4a65c_add_9ea2d_10 {k : Instr → Nat → Nat → Nat → List Nat → Prop} : xse (xFind tbJx4a65c_add_9ea2d 10) k = k (.aload_n 0) 0 0 0 [] := rfl
theorem tbJx4a65c_add_9ea2d_11 {k : Instr → Nat → Nat → Nat → List Nat → Prop} : xse (xFind tbJx4a65c_add_9ea2d 11) k = k (.aload_n 1) 1 0 0 [] := rfl
theorem tbJx4a65c_add_9ea2d_12 {k : Instr → Nat → Nat → Nat → List Nat → Prop} : xse (xFind tbJx4a65c_add_9ea2d 12) k = k (.aload_n 0) 0 0 0 [] := rfl
theorem tbJx4a65c_add_9ea2d_13 {k : Instr → Nat → Nat → Nat → List Nat → Prop} : xse (xFind tbJx4a65c_add_9ea2d 13) k = k (.getfield 9) 0 1 2 [] := rfl
theorem tbJx4a65c_add_9ea2d_16 {k : Instr → Nat → Nat → Nat → List Nat → Prop} : xse (xFind tbJx4a65c_add_9ea2d 16) k = k (.aload_n 0) 0 0 0 [] := rfl
theorem tbJx4a65c_add_9ea2d_17 {k : Instr → Nat → Nat → Nat → List Nat → Prop} : xse (xFind tbJx4a65c_add_9ea2d 17) k = k (.getfield 48) 0 2 0 [] := rfl
theorem tbJx4a65c_add_9ea2d_20 {k : Instr → Nat → Nat → Nat → List Nat → Prop} : xse (xFind tbJx4a65c_add_9ea2d 20) k = k (.invokevirtual 131) 0 4 0 [] := rfl
theorem tbJx4a65c_add_9ea2d_23 {k : Instr → Nat → Nat → Nat → List Nat → Prop} : xse (xFind tbJx4a65c_add_9ea2d 23) k = k (.iconst 1) 0 0 0 [] := rfl
theorem tbJx4a65c_add_9ea2d_24 {k : Instr → Nat → Nat → Nat → List Nat → Prop} : xse (xFind tbJx4a65c_add_9ea2d 24) k = k (.ireturn) 1 0 0 [] := rfl

def spJx4a65c_add_9ea2d (W9 : xWd) : xSp cS := (fun av S => (1, 45), fun av S K => ∃ (a : Nat) (v : Nat), av = [.ref a, .ref v] ∧ (lCap W9 S a ∧ lCn S a < 30 ∧ lKd S a (cK S v) ∧ ∀ S2, lAdd W9 (cSetI S a 0 (cFi S a 0 + 1)) a v S2 → K (rI 1) S2))
theorem spcJx4a65c_add_9ea2d {av : List Value} {S : cS} {W9 : xWd} : (spJx4a65c_add_9ea2d W9).1 av S = (1, 45) := rfl
theorem spwJx4a65c_add_9ea2d {S : cS} {W9 : xWd} {K : xRes → cS → Prop} {a : Nat} {v : Nat} : (spJx4a65c_add_9ea2d W9).2 [.ref a, .ref v] S K = (lCap W9 S a ∧ lCn S a < 30 ∧ lKd S a (cK S v) ∧ ∀ S2, lAdd W9 (cSetI S a 0 (cFi S a 0 + 1)) a v S2 → K (rI 1) S2) :=
  propext ⟨fun h => by
    simp only [spJx4a65c_add_9ea2d] at h
    obtain ⟨_, _, e, h⟩ := h
    simp only [List.cons.injEq, Value.int.injEq, Value.ref.injEq, rf_eq, and_true, true_and] at e
    obtain ⟨rfl, rfl⟩ := e
    exact h, fun h => ⟨_, _, rfl, h⟩⟩

def callJx4a65c_add_9ea2d (W9 : xWd) : Nat → Option (xSp cS) := fun n => match n with | 0 => some (spJx4a65c_add_72be8 W9) | _ => none

theorem callJx4a65c_add_9ea2d_0 {W9 : xWd} {k : xSp cS → Prop} : xcs (callJx4a65c_add_9ea2d W9 0) k = k (spJx4a65c_add_72be8 W9) := rfl

theorem crJx4a65c_add_9ea2d (l : Launch) (hl : l.stackTraces = false) (W9 : xWd) : xCallsOK l W9 (cI) (callJx4a65c_add_9ea2d W9) clJx4a65c_add_9ea2d RJx4a65c wsJx4a65c_add_9ea2d 6 170 2 := by
  intro E A p e R s m args below meth c hI hF hL X
  exact List.forall_mem_cons.mpr ⟨⟨_, rfl, xCR_V X (by rw [hI]; exact (semJx4a65c_add_72be8 l hl W9)) gJx4a65c_add_9ea2d_Jx4a65c_add_72be8 rfl rfl (by decide +kernel) (by rw [hF, hL]; decide)⟩,
    fun _ h => nomatch h⟩

set_option maxHeartbeats 600000 in
set_option maxRecDepth 20000 in
theorem semJx4a65c_add_9ea2d (l : Launch) (hl : l.stackTraces = false) (W9 : xWd) : xSem l W9 (cI) yJx4a65c_add_9ea2d wsJx4a65c_add_9ea2d 6 170 (spJx4a65c_add_9ea2d W9) := by
  refine xSem_of (call := callJx4a65c_add_9ea2d W9) (thrf := fun _ => "") cI_law (by decide +kernel) rfl ckJx4a65c_add_9ea2d usJx4a65c_add_9ea2d (crJx4a65c_add_9ea2d l hl W9) xThrOK_nil ?_ ?_
  · intro av S KF h
    obtain ⟨a, v, rfl, h⟩ := h
    exact ⟨by intro v hv; simp only [List.mem_cons, List.not_mem_nil, or_false] at hv; rcases hv with rfl | rfl <;> first | rfl | exact cat_rf, Nat.le_of_ble_eq_true rfl⟩
  intro av S KF h G hG
  obtain ⟨a, v, rfl, h⟩ := h
  rw [show (spJx4a65c_add_9ea2d W9).1 _ S = _ from spcJx4a65c_add_9ea2d] at hG
  try dsimp only at hG
  change G 0 [some (.ref a), some (.ref v)] [] S 0 0
  obtain ⟨h1, h2, h3, h⟩ := h
  have k1 := h1.1
  have k2 := h1.2.1
  have k4 := h1.2.2.2.1
  refine xgo0 hG (fun fu hfu => ?_)
  clear hG
  simp only [↓callJx4a65c_add_9ea2d_0, ↓cg_0_0, ↓cg_0_1, ↓cg_0_2, cisa, ↓cp_0_0, ki_1, ↓vm_aload_n, ↓vm_dup, ↓vm_getfield, ↓vm_iadd, ↓vm_iconst, ↓vm_invokevirtual, ↓vm_ireturn, ↓vm_putfield, ↓xc_4, ↓tbJx4a65c_add_9ea2d_0, ↓tbJx4a65c_add_9ea2d_1, ↓tbJx4a65c_add_9ea2d_2, ↓tbJx4a65c_add_9ea2d_5, ↓tbJx4a65c_add_9ea2d_6, ↓tbJx4a65c_add_9ea2d_7, ↓tbJx4a65c_add_9ea2d_10, ↓tbJx4a65c_add_9ea2d_11, ↓tbJx4a65c_add_9ea2d_12, ↓tbJx4a65c_add_9ea2d_13, ↓tbJx4a65c_add_9ea2d_16, ↓tbJx4a65c_add_9ea2d_17, ↓tbJx4a65c_add_9ea2d_20, ↓tbJx4a65c_add_9ea2d_23, ↓tbJx4a65c_add_9ea2d_24, hfu, xstep0, xJ1_hit, xJ1_go, xJ2_hit1, xJ2_hit2, xJ2_go, ↓xif_t, ↓xif_f, seval, ↓xca_eq, ↓xre_l, ↓xre_r, xmask_t, xmask_f, xmask_nil, ↓xst_eq, xX_eq, eI_eq, eMc_eq, eMs_eq, eF_eq, eThr_eq, ↓xS1_mk, ↓xSI_mk, ↓xSR_mk, ↓xLI_0, ↓xLI_s, ↓xLR_0, ↓xLR_s, vRef_ref, vRef_null, vRef_rf, cat_int, cat_ref, cat_null, cat_rf, rf_some, rf_none, rf_null, rf_eq, rf_ref, ref_rf, ref_null, ref_ref, xOk_0, xOk_1, xOk_2r, xOk_2n, xOk_2f, vOpt_rf, vOpt_ref, vOpt_null, List.set_cons_zero, List.set_cons_succ, List.take_succ_cons, List.take_zero, List.drop_succ_cons, List.drop_zero, List.reverse_cons, List.reverse_nil, List.nil_append, List.cons_append, List.append_nil, List.length_cons, List.length_nil, List.map_cons, List.map_nil, List.sum_cons, List.sum_nil, Option.toList_some, Option.toList_none, xRecv_mk, true_and, and_true, true_implies, Nat.reduceAdd, Nat.reduceLeDiff, Nat.zero_le, Nat.le_refl, Nat.add_zero, Nat.zero_add, reduceIte, not_true_eq_false, not_false_eq_true, false_implies, and_self, implies_true, eq_self, Nat.reduceEqDiff, List.cons.injEq, xsn_1, xsn_2, false_and, and_false, or_false, false_or, or_true, true_or, xsn_3, xsn_4, k1, k2, k4, cK_setI, cFr_setI, cFi_setI, lCap_m, lCn_m, cRf_m, lKd_m, h1, h2, h3, ↓spwJx4a65c_add_72be8, spcJx4a65c_add_72be8]
  try simp only [xif_e]
  repeat' (first | exact Nat.le_refl _ | exact Or.inr trivial | exact h | with_reducible apply And.intro | with_reducible intro _)
  all_goals grind

def lRem (S : cS) (a p : Nat) : cS := cAstR (cSetI (cCpy (cSetI S a 0 (cFi S a 0 + 1)) (cRf S a 1) (cRf S a 1) (p + 1) p (lCn S a - 1 - p)) a 2 (nI (lCn S a - 1))) (cRf S a 1) (lCn S a - 1) none

def tbJx4a65c_fastRemove_b59b0 : List (Nat × xHint) := [(0, .aload_n 0, 0, 0, 0, []), (1, .dup, 0, 0, 0, []), (2, .getfield 63, 0, 0, 0, []), (5, .iconst 1, 0, 0, 0, []), (6, .iadd, 0, 0, 0, []), (7, .putfield 63, 0, 0, 0, []), (10, .aload_n 0, 0, 0, 0, []), (11, .getfield 48, 0, 2, 0, []), (14, .iconst 1, 0, 0, 0, []), (15, .isub, 0, 0, 0, []), (16, .dup, 0, 0, 0, []), (17, .istore_n 3, 3, 0, 0, []), (18, .iload_n 2, 2, 0, 0, []), (19, .if_icmp .le 15, 34, 0, 0, []), (22, .aload_n 1, 1, 0, 0, []), (23, .iload_n 2, 2, 0, 0, []), (24, .iconst 1, 0, 0, 0, []), (25, .iadd, 0, 0, 0, []), (26, .aload_n 1, 1, 0, 0, []), (27, .iload_n 2, 2, 0, 0, []), (28, .iload_n 3, 3, 0, 0, []), (29, .iload_n 2, 2, 0, 0, []), (30, .isub, 0, 0, 0, []), (31, .invokestatic 112, 0, 5, 0, []), (34, .aload_n 1, 1, 0, 0, []), (35, .aload_n 0, 0, 0, 0, []), (36, .iload_n 3, 3, 0, 0, []), (37, .dup_x1, 0, 0, 0, []), (38, .putfield 48, 0, 2, 0, []), (41, .aconst_null, 0, 0, 0, []), (42, .aastore, 1, 0, 0, []), (43, .return_, 0, 0, 0, [])]
def clJx4a65c_fastRemove_b59b0 : List (Instr × Nat × Nat × Nat) := [(.invokestatic 112, 0, 5, 0), (.aastore, 1, 3, 0)]
def thJx4a65c_fastRemove_b59b0 : List (Nat × Nat) := []
theorem ckJx4a65c_fastRemove_b59b0 : tbJx4a65c_fastRemove_b59b0.all (xRow RJx4a65c cJx4a65c_fastRemove_b59b0 wsJx4a65c_fastRemove_b59b0 vwCl [0] clJx4a65c_fastRemove_b59b0 thJx4a65c_fastRemove_b59b0 4 (yJx4a65c_fastRemove_b59b0.name == "<init>") none) = true := xRow_q 0xb153013000b55a1d2a2b7000b8641c1d1c2b60041c2b0f00a41c3e5964043000b42a3f00b560043f00b4592a 44 (by decide +kernel) (by decide +kernel)
theorem usJx4a65c_fastRemove_b59b0 : xUse wsJx4a65c_fastRemove_b59b0 vwCl [0] = true := xUse_g rfl (lw_good lwl_Jx4a65c_fastRemove_b59b0 lwl_Jx4a65c0 (by decide +kernel)) xUse_n
theorem tbJx4a65c_fastRemove_b59b0_0 {k : Instr → Nat → Nat → Nat → List Nat → Prop} : xse (xFind tbJx4a65c_fastRemove_b59b0 0) k = k (.aload_n 0) 0 0 0 [] := rfl
theorem tbJx4a65c_fastRemove_b59b0_1 {k : Instr → Nat → Nat → Nat → List Nat → Prop} : xse (xFind tbJx4a65c_fastRemove_b59b0 1) k = k (.dup) 0 0 0 [] := rfl
theorem tbJx4a65c_fastRemove_b59b0_2 {k : Instr → Nat → Nat → Nat → List Nat → Prop} : xse (xFind tbJx4a65c_fastRemove_b59b0 2) k = k (.getfield 63) 0 0 0 [] := rfl
theorem tbJx4a65c_fastRemove_b59b0_5 {k : Instr → Nat → Nat → Nat → List Nat → Prop} : xse (xFind tbJx4a65c_fastRemove_b59b0 5) k = k (.iconst 1) 0 0 0 [] := rfl
theorem tbJx4a65c_fastRemove_b59b0_6 {k : Instr → Nat → Nat → Nat → List Nat → Prop} : xse (xFind tbJx4a65c_fastRemove_b59b0 6) k = k (.iadd) 0 0 0 [] := rfl
theorem tbJx4a65c_fastRemove_b59b0_7 {k : Instr → Nat → Nat → Nat → List Nat → Prop} : xse (xFind tbJx4a65c_fastRemove_b59b0 7) k = k (.putfield 63) 0 0 0 [] := rfl
theorem tbJx4a65c_fastRemove_b59b0_10 {k : Instr → Nat → Nat → Nat → List Nat → Prop} : xse (xFind tbJx4a65c_fastRemove_b59b0 10) k = k (.aload_n 0) 0 0 0 [] := rfl
theorem tbJx4a65c_fastRemove_b59b0_11 {k : Instr → Nat → Nat → Nat → List Nat → Prop} : xse (xFind tbJx4a65c_fastRemove_b59b0 11) k = k (.getfield 48) 0 2 0 [] := rfl
theorem tbJx4a65c_fastRemove_b59b0_14 {k : Instr → Nat → Nat → Nat → List Nat → Prop} : xse (xFind tbJx4a65c_fastRemove_b59b0 14) k = k (.iconst 1) 0 0 0 [] := rfl
theorem tbJx4a65c_fastRemove_b59b0_15 {k : Instr → Nat → Nat → Nat → List Nat → Prop} : xse (xFind tbJx4a65c_fastRemove_b59b0 15) k = k (.isub) 0 0 0 [] := rfl
theorem tbJx4a65c_fastRemove_b59b0_16 {k : Instr → Nat → Nat → Nat → List Nat → Prop} : xse (xFind tbJx4a65c_fastRemove_b59b0 16) k = k (.dup) 0 0 0 [] := rfl
theorem tbJx4a65c_fastRemove_b59b0_17 {k : Instr → Nat → Nat → Nat → List Nat → Prop} : xse (xFind tbJx4a65c_fastRemove_b59b0 17) k = k (.istore_n 3) 3 0 0 [] := rfl
theorem tbJx4a65c_fastRemove_b59b0_18 {k : Instr → Nat → Nat → Nat → List Nat → Prop} : xse (xFind tbJx4a65c_fastRemove_b59b0 18) k = k (.iload_n 2) 2 0 0 [] := rfl
theorem tbJx4a65c_fastRemove_b59b0_19 {k : Instr → Nat → Nat → Nat → List Nat → Prop} : xse (xFind tbJx4a65c_fastRemove_b59b0 19) k = k (.if_icmp .le 15) 34 0 0 [] := rfl
theorem tbJx4a65c_fastRemove_b59b0_22 {k : Instr → Nat → Nat → Nat → List Nat → Prop} : xse (xFind tbJx4a65c_fastRemove_b59b0 22) k = k (.aload_n 1) 1 0 0 [] := rfl
theorem tbJx4a65c_fastRemove_b59b0_23 {k : Instr → Nat → Nat → Nat → List Nat → Prop} : xse (xFind tbJx4a65c_fastRemove_b59b0 23) k = k (.iload_n 2) 2 0 0 [] := rfl
theorem tbJx4a65c_fastRemove_b59b0_24 {k : Instr → Nat → Nat → Nat → List Nat → Prop} : xse (xFind tbJx4a65c_fastRemove_b59b0 24) k = k (.iconst 1) 0 0 0 [] := rfl
theorem tbJx4a65c_fastRemove_b59b0_25 {k : Instr → Nat → Nat → Nat → List Nat → Prop} : xse (xFind tbJx4a65c_fastRemove_b59b0 25) k = k (.iadd) 0 0 0 [] := rfl
theorem tbJx4a65c_fastRemove_b59b0_26 {k : Instr → Nat → Nat → Nat → List Nat → Prop} : xse (xFind tbJx4a65c_fastRemove_b59b0 26) k = k (.aload_n 1) 1 0 0 [] := rfl
theorem tbJx4a65c_fastRemove_b59b0_27 {k : Instr → Nat → Nat → Nat → List Nat → Prop} : xse (xFind tbJx4a65c_fastRemove_b59b0 27) k = k (.iload_n 2) 2 0 0 [] := rfl
theorem tbJx4a65c_fastRemove_b59b0_28 {k : Instr → Nat → Nat → Nat → List Nat → Prop} : xse (xFind tbJx4a65c_fastRemove_b59b0 28) k = k (.iload_n 3) 3 0 0 [] := rfl
theorem tbJx4a65c_fastRemove_b59b0_29 {k : Instr → Nat → Nat → Nat → List Nat → Prop} : xse (xFind tbJx4a65c_fastRemove_b59b0 29) k = k (.iload_n 2) 2 0 0 [] := rfl
theorem tbJx4a65c_fastRemove_b59b0_30 {k : Instr → Nat → Nat → Nat → List Nat → Prop} : xse (xFind tbJx4a65c_fastRemove_b59b0 30) k = k (.isub) 0 0 0 [] := rfl
theorem tbJx4a65c_fastRemove_b59b0_31 {k : Instr → Nat → Nat → Nat → List Nat → Prop} : xse (xFind tbJx4a65c_fastRemove_b59b0 31) k = k (.invokestatic 112) 0 5 0 [] := rfl
theorem tbJx4a65c_fastRemove_b59b0_34 {k : Instr → Nat → Nat → Nat → List Nat → Prop} : xse (xFind tbJx4a65c_fastRemove_b59b0 34) k = k (.aload_n 1) 1 0 0 [] := rfl
theorem tbJx4a65c_fastRemove_b59b0_35 {k : Instr → Nat → Nat → Nat → List Nat → Prop} : xse (xFind tbJx4a65c_fastRemove_b59b0 35) k = k (.aload_n 0) 0 0 0 [] := rfl
theorem tbJx4a65c_fastRemove_b59b0_36 {k : Instr → Nat → Nat → Nat → List Nat → Prop} : xse (xFind tbJx4a65c_fastRemove_b59b0 36) k = k (.iload_n 3) 3 0 0 [] := rfl
theorem tbJx4a65c_fastRemove_b59b0_37 {k : Instr → Nat → Nat → Nat → List Nat → Prop} : xse (xFind tbJx4a65c_fastRemove_b59b0 37) k = k (.dup_x1) 0 0 0 [] := rfl
theorem tbJx4a65c_fastRemove_b59b0_38 {k : Instr → Nat → Nat → Nat → List Nat → Prop} : xse (xFind tbJx4a65c_fastRemove_b59b0 38) k = k (.putfield 48) 0 2 0 [] := rfl
theorem tbJx4a65c_fastRemove_b59b0_41 {k : Instr → Nat → Nat → Nat → List Nat → Prop} : xse (xFind tbJx4a65c_fastRemove_b59b0 41) k = k (.aconst_null) 0 0 0 [] := rfl
theorem tbJx4a65c_fastRemove_b59b0_42 {k : Instr → Nat → Nat → Nat → List Nat → Prop} : xse (xFind tbJx4a65c_fastRemove_b59b0 42) k = k (.aastore) 1 0 0 [] := rfl
theorem tbJx4a65c_fastRemove_b59b0_43 {k : Instr → Nat → Nat → Nat → List Nat → Prop} : xse (xFind tbJx4a65c_fastRemove_b59b0 43) k = k (.return_) 0 0 0 [] := rfl

def spJx4a65c_fastRemove_b59b0 (W9 : xWd) : xSp cS := (fun av S => (0, 0), fun av S K => ∃ (a : Nat) (e : Nat) (i : Int32), av = [.ref a, .ref e, .int i] ∧ (lCap W9 S a ∧ e = cRf S a 1 ∧ ∃ p c9, i = nI p ∧ p < lCn S a ∧ lKd S a c9 ∧ K rV (lRem S a p)))
theorem spcJx4a65c_fastRemove_b59b0 {av : List Value} {S : cS} {W9 : xWd} : (spJx4a65c_fastRemove_b59b0 W9).1 av S = (0, 0) := rfl
theorem spwJx4a65c_fastRemove_b59b0 {S : cS} {W9 : xWd} {K : xRes → cS → Prop} {a : Nat} {e : Nat} {i : Int32} : (spJx4a65c_fastRemove_b59b0 W9).2 [.ref a, .ref e, .int i] S K = (lCap W9 S a ∧ e = cRf S a 1 ∧ ∃ p c9, i = nI p ∧ p < lCn S a ∧ lKd S a c9 ∧ K rV (lRem S a p)) :=
  propext ⟨fun h => by
    simp only [spJx4a65c_fastRemove_b59b0] at h
    obtain ⟨_, _, _, e, h⟩ := h
    simp only [List.cons.injEq, Value.int.injEq, Value.ref.injEq, rf_eq, and_true, true_and] at e
    obtain ⟨rfl, rfl, rfl⟩ := e
    exact h, fun h => ⟨_, _, _, rfl, h⟩⟩

def callJx4a65c_fastRemove_b59b0 (W9 : xWd) : Nat → Option (xSp cS) := fun n => match n with | 0 => some (sp_cpy W9) | 1 => some (sp_ast W9) | _ => none

theorem callJx4a65c_fastRemove_b59b0_0 {W9 : xWd} {k : xSp cS → Prop} : xcs (callJx4a65c_fastRemove_b59b0 W9 0) k = k (sp_cpy W9) := rfl

theorem callJx4a65c_fastRemove_b59b0_1 {W9 : xWd} {k : xSp cS → Prop} : xcs (callJx4a65c_fastRemove_b59b0 W9 1) k = k (sp_ast W9) := rfl

theorem crJx4a65c_fastRemove_b59b0 (l : Launch) (hl : l.stackTraces = false) (W9 : xWd) : xCallsOK l W9 (cI) (callJx4a65c_fastRemove_b59b0 W9) clJx4a65c_fastRemove_b59b0 RJx4a65c wsJx4a65c_fastRemove_b59b0 1 60 4 := by
  intro E A p e R s m args below meth c hI hF hL X
  exact List.forall_mem_cons.mpr ⟨⟨_, rfl, xCR_cpy hI X (by decide +kernel) (by decide +kernel) (by decide +kernel) (by decide +kernel) (by rw [hF, hL]; decide)⟩,
    List.forall_mem_cons.mpr ⟨⟨_, rfl, xCR_ast hI X⟩,
    fun _ h => nomatch h⟩⟩

set_option maxHeartbeats 600000 in
set_option maxRecDepth 20000 in
theorem semJx4a65c_fastRemove_b59b0 (l : Launch) (hl : l.stackTraces = false) (W9 : xWd) : xSem l W9 (cI) yJx4a65c_fastRemove_b59b0 wsJx4a65c_fastRemove_b59b0 1 60 (spJx4a65c_fastRemove_b59b0 W9) := by
  refine xSem_of (call := callJx4a65c_fastRemove_b59b0 W9) (thrf := fun _ => "") cI_law (by decide +kernel) rfl ckJx4a65c_fastRemove_b59b0 usJx4a65c_fastRemove_b59b0 (crJx4a65c_fastRemove_b59b0 l hl W9) xThrOK_nil ?_ ?_
  · intro av S KF h
    obtain ⟨a, e, i, rfl, h⟩ := h
    exact ⟨by intro v hv; simp only [List.mem_cons, List.not_mem_nil, or_false] at hv; rcases hv with rfl | rfl | rfl <;> first | rfl | exact cat_rf, Nat.le_of_ble_eq_true rfl⟩
  intro av S KF h G hG
  obtain ⟨a, e, i, rfl, h⟩ := h
  rw [show (spJx4a65c_fastRemove_b59b0 W9).1 _ S = _ from spcJx4a65c_fastRemove_b59b0] at hG
  try dsimp only at hG
  change G 0 [some (.ref a), some (.ref e), some (.int i), none] [] S 0 0
  obtain ⟨⟨k1, k2, k3, k4, k5⟩, rfl, p, c9, rfl, h2, h3, h⟩ := h

  unfold lRem at h
  unfold lKd at h3
  generalize hE : cRf S a 1 = e at *
  generalize hN : lCn S a = n at *
  obtain ⟨z1, z2, z3, z4, z5⟩ := k5.resolve_left (fun z => by omega)
  have e1 : nI n - 1 = nI (n - 1) := sub1_nI (by omega)
  by_cases c : p < n - 1
  · have c34 : G 34 [some (.ref a), some (.ref e), some (.int (nI p)), some (.int (nI (n - 1)))] [] (cCpy (cSetI S a 0 (cFi S a 0 + 1)) e e (p + 1) p (n - 1 - p)) 0 0 := by
      refine xgo0 hG (fun fu hfu => ?_)
      simp only [↓callJx4a65c_fastRemove_b59b0_0, ↓callJx4a65c_fastRemove_b59b0_1, ↓cg_0_0, ↓cg_0_2, ↓cp_0_0, ↓cp_0_2, ki_1, ↓vm_aastore, ↓vm_aconst_null, ↓vm_aload_n, ↓vm_dup, ↓vm_dup_x1, ↓vm_getfield, ↓vm_iadd, ↓vm_iconst, ↓vm_if_icmp_le, ↓vm_iload_n, ↓vm_invokestatic, ↓vm_istore_n, ↓vm_isub, ↓vm_putfield, ↓vm_return_, ↓xc_3, ↓xc_5, ↓tbJx4a65c_fastRemove_b59b0_0, ↓tbJx4a65c_fastRemove_b59b0_1, ↓tbJx4a65c_fastRemove_b59b0_2, ↓tbJx4a65c_fastRemove_b59b0_5, ↓tbJx4a65c_fastRemove_b59b0_6, ↓tbJx4a65c_fastRemove_b59b0_7, ↓tbJx4a65c_fastRemove_b59b0_10, ↓tbJx4a65c_fastRemove_b59b0_11, ↓tbJx4a65c_fastRemove_b59b0_14, ↓tbJx4a65c_fastRemove_b59b0_15, ↓tbJx4a65c_fastRemove_b59b0_16, ↓tbJx4a65c_fastRemove_b59b0_17, ↓tbJx4a65c_fastRemove_b59b0_18, ↓tbJx4a65c_fastRemove_b59b0_19, ↓tbJx4a65c_fastRemove_b59b0_22, ↓tbJx4a65c_fastRemove_b59b0_23, ↓tbJx4a65c_fastRemove_b59b0_24, ↓tbJx4a65c_fastRemove_b59b0_25, ↓tbJx4a65c_fastRemove_b59b0_26, ↓tbJx4a65c_fastRemove_b59b0_27, ↓tbJx4a65c_fastRemove_b59b0_28, ↓tbJx4a65c_fastRemove_b59b0_29, ↓tbJx4a65c_fastRemove_b59b0_30, ↓tbJx4a65c_fastRemove_b59b0_31, ↓tbJx4a65c_fastRemove_b59b0_34, ↓tbJx4a65c_fastRemove_b59b0_35, ↓tbJx4a65c_fastRemove_b59b0_36, ↓tbJx4a65c_fastRemove_b59b0_37, ↓tbJx4a65c_fastRemove_b59b0_38, ↓tbJx4a65c_fastRemove_b59b0_41, ↓tbJx4a65c_fastRemove_b59b0_42, ↓tbJx4a65c_fastRemove_b59b0_43, hfu, xstep0, xJ1_hit, xJ1_go, xJ2_hit1, xJ2_hit2, xJ2_go, ↓xif_t, ↓xif_f, seval, ↓xca_eq, ↓xre_l, ↓xre_r, xmask_t, xmask_f, xmask_nil, ↓xst_eq, xX_eq, eI_eq, eMc_eq, eMs_eq, eF_eq, eThr_eq, ↓xS1_mk, ↓xSI_mk, ↓xSR_mk, ↓xLI_0, ↓xLI_s, ↓xLR_0, ↓xLR_s, vRef_ref, vRef_null, vRef_rf, cat_int, cat_ref, cat_null, cat_rf, rf_some, rf_none, rf_null, rf_eq, rf_ref, ref_rf, ref_null, ref_ref, xOk_0, xOk_1, xOk_2r, xOk_2n, xOk_2f, vOpt_rf, vOpt_ref, vOpt_null, List.set_cons_zero, List.set_cons_succ, List.take_succ_cons, List.take_zero, List.drop_succ_cons, List.drop_zero, List.reverse_cons, List.reverse_nil, List.nil_append, List.cons_append, List.append_nil, List.length_cons, List.length_nil, List.map_cons, List.map_nil, List.sum_cons, List.sum_nil, Option.toList_some, Option.toList_none, xRecv_mk, true_and, and_true, true_implies, Nat.reduceAdd, Nat.reduceLeDiff, Nat.zero_le, Nat.le_refl, Nat.add_zero, Nat.zero_add, reduceIte, not_true_eq_false, not_false_eq_true, false_implies, and_self, implies_true, eq_self, Nat.reduceEqDiff, List.cons.injEq, xsn_1, xsn_2, false_and, and_false, or_false, false_or, or_true, true_or, xsn_3, xsn_4, ↓sp_cpy_w, sp_cpy_c, ↓sp_ast_w, sp_ast_c, ↓sp_astn_w, cK_cpy, cK_setI, k1, z2, cLen_cpy, cLen_setI, vin_lt (show n - 1 < cLen S e by omega) (show n - 1 < 1000 by omega), ix_nI (show n - 1 < 1000 by omega)]
      try simp only [xif_e]
      exact h
    refine xgo hG (head := 34) (mb := [true, true, true, true]) (P := fun lv st S1 cs ss => lv = [some (.ref a), some (.ref e), some (.int (nI p)), some (.int (nI (n - 1)))] ∧ st = [] ∧ S1 = cCpy (cSetI S a 0 (cFi S a 0 + 1)) e e (p + 1) p (n - 1 - p) ∧ cs = 0 ∧ ss = 0) (fun lv st S1 cs ss hP => by obtain ⟨rfl, rfl, rfl, rfl, rfl⟩ := hP; exact c34) (fun fu hfu => ?_)
    have e2 : (nI (n - 1) ≤ nI p) = False := ge_nI c (by omega)
    have e3 : nI (n - 1) - nI p = nI (n - 1 - p) := by
      have : nI (n - 1) = nI (n - 1 - p) + nI p := by rw [add_nI]; congr 1; omega
      rw [this]
      grind
    simp only [↓callJx4a65c_fastRemove_b59b0_0, ↓callJx4a65c_fastRemove_b59b0_1, ↓cg_0_0, ↓cg_0_2, ↓cp_0_0, ↓cp_0_2, ki_1, ↓vm_aastore, ↓vm_aconst_null, ↓vm_aload_n, ↓vm_dup, ↓vm_dup_x1, ↓vm_getfield, ↓vm_iadd, ↓vm_iconst, ↓vm_if_icmp_le, ↓vm_iload_n, ↓vm_invokestatic, ↓vm_istore_n, ↓vm_isub, ↓vm_putfield, ↓vm_return_, ↓xc_3, ↓xc_5, ↓tbJx4a65c_fastRemove_b59b0_0, ↓tbJx4a65c_fastRemove_b59b0_1, ↓tbJx4a65c_fastRemove_b59b0_2, ↓tbJx4a65c_fastRemove_b59b0_5, ↓tbJx4a65c_fastRemove_b59b0_6, ↓tbJx4a65c_fastRemove_b59b0_7, ↓tbJx4a65c_fastRemove_b59b0_10, ↓tbJx4a65c_fastRemove_b59b0_11, ↓tbJx4a65c_fastRemove_b59b0_14, ↓tbJx4a65c_fastRemove_b59b0_15, ↓tbJx4a65c_fastRemove_b59b0_16, ↓tbJx4a65c_fastRemove_b59b0_17, ↓tbJx4a65c_fastRemove_b59b0_18, ↓tbJx4a65c_fastRemove_b59b0_19, ↓tbJx4a65c_fastRemove_b59b0_22, ↓tbJx4a65c_fastRemove_b59b0_23, ↓tbJx4a65c_fastRemove_b59b0_24, ↓tbJx4a65c_fastRemove_b59b0_25, ↓tbJx4a65c_fastRemove_b59b0_26, ↓tbJx4a65c_fastRemove_b59b0_27, ↓tbJx4a65c_fastRemove_b59b0_28, ↓tbJx4a65c_fastRemove_b59b0_29, ↓tbJx4a65c_fastRemove_b59b0_30, ↓tbJx4a65c_fastRemove_b59b0_31, ↓tbJx4a65c_fastRemove_b59b0_34, ↓tbJx4a65c_fastRemove_b59b0_35, ↓tbJx4a65c_fastRemove_b59b0_36, ↓tbJx4a65c_fastRemove_b59b0_37, ↓tbJx4a65c_fastRemove_b59b0_38, ↓tbJx4a65c_fastRemove_b59b0_41, ↓tbJx4a65c_fastRemove_b59b0_42, ↓tbJx4a65c_fastRemove_b59b0_43, hfu, xstep0, xJ1_hit, xJ1_go, xJ2_hit1, xJ2_hit2, xJ2_go, ↓xif_t, ↓xif_f, seval, ↓xca_eq, ↓xre_l, ↓xre_r, xmask_t, xmask_f, xmask_nil, ↓xst_eq, xX_eq, eI_eq, eMc_eq, eMs_eq, eF_eq, eThr_eq, ↓xS1_mk, ↓xSI_mk, ↓xSR_mk, ↓xLI_0, ↓xLI_s, ↓xLR_0, ↓xLR_s, vRef_ref, vRef_null, vRef_rf, cat_int, cat_ref, cat_null, cat_rf, rf_some, rf_none, rf_null, rf_eq, rf_ref, ref_rf, ref_null, ref_ref, xOk_0, xOk_1, xOk_2r, xOk_2n, xOk_2f, vOpt_rf, vOpt_ref, vOpt_null, List.set_cons_zero, List.set_cons_succ, List.take_succ_cons, List.take_zero, List.drop_succ_cons, List.drop_zero, List.reverse_cons, List.reverse_nil, List.nil_append, List.cons_append, List.append_nil, List.length_cons, List.length_nil, List.map_cons, List.map_nil, List.sum_cons, List.sum_nil, Option.toList_some, Option.toList_none, xRecv_mk, true_and, and_true, true_implies, Nat.reduceAdd, Nat.reduceLeDiff, Nat.zero_le, Nat.le_refl, Nat.add_zero, Nat.zero_add, reduceIte, not_true_eq_false, not_false_eq_true, false_implies, and_self, implies_true, eq_self, Nat.reduceEqDiff, List.cons.injEq, xsn_1, xsn_2, false_and, and_false, or_false, false_or, or_true, true_or, xsn_3, xsn_4, ↓sp_cpy_w, sp_cpy_c, ↓sp_ast_w, sp_ast_c, ↓sp_astn_w, k1, k2, cK_setI, cFi_setI, e1, e2, nI1, e3, cLen_setI, z2]
    try simp only [xif_e]
    refine ⟨p + 1, p, n - 1 - p, c9, ⟨rfl, rfl, rfl⟩, ⟨by omega, by omega, by omega, by omega, by omega⟩, ⟨h3.1, fun i hi b hb => h3.2 (p + 1 + i) (by omega) b hb⟩, ?_⟩
    repeat' (first | rfl | apply And.intro)
  · have hp : p = n - 1 := by omega
    rw [show n - 1 - p = 0 by omega, cCpy_0] at h
    have e2 : (nI (n - 1) ≤ nI p) = True := by rw [hp]; exact eq_true (Int32.le_refl _)
    refine xgo0 hG (fun fu hfu => ?_)
    simp only [↓callJx4a65c_fastRemove_b59b0_0, ↓callJx4a65c_fastRemove_b59b0_1, ↓cg_0_0, ↓cg_0_2, ↓cp_0_0, ↓cp_0_2, ki_1, ↓vm_aastore, ↓vm_aconst_null, ↓vm_aload_n, ↓vm_dup, ↓vm_dup_x1, ↓vm_getfield, ↓vm_iadd, ↓vm_iconst, ↓vm_if_icmp_le, ↓vm_iload_n, ↓vm_invokestatic, ↓vm_istore_n, ↓vm_isub, ↓vm_putfield, ↓vm_return_, ↓xc_3, ↓xc_5, ↓tbJx4a65c_fastRemove_b59b0_0, ↓tbJx4a65c_fastRemove_b59b0_1, ↓tbJx4a65c_fastRemove_b59b0_2, ↓tbJx4a65c_fastRemove_b59b0_5, ↓tbJx4a65c_fastRemove_b59b0_6, ↓tbJx4a65c_fastRemove_b59b0_7, ↓tbJx4a65c_fastRemove_b59b0_10, ↓tbJx4a65c_fastRemove_b59b0_11, ↓tbJx4a65c_fastRemove_b59b0_14, ↓tbJx4a65c_fastRemove_b59b0_15, ↓tbJx4a65c_fastRemove_b59b0_16, ↓tbJx4a65c_fastRemove_b59b0_17, ↓tbJx4a65c_fastRemove_b59b0_18, ↓tbJx4a65c_fastRemove_b59b0_19, ↓tbJx4a65c_fastRemove_b59b0_22, ↓tbJx4a65c_fastRemove_b59b0_23, ↓tbJx4a65c_fastRemove_b59b0_24, ↓tbJx4a65c_fastRemove_b59b0_25, ↓tbJx4a65c_fastRemove_b59b0_26, ↓tbJx4a65c_fastRemove_b59b0_27, ↓tbJx4a65c_fastRemove_b59b0_28, ↓tbJx4a65c_fastRemove_b59b0_29, ↓tbJx4a65c_fastRemove_b59b0_30, ↓tbJx4a65c_fastRemove_b59b0_31, ↓tbJx4a65c_fastRemove_b59b0_34, ↓tbJx4a65c_fastRemove_b59b0_35, ↓tbJx4a65c_fastRemove_b59b0_36, ↓tbJx4a65c_fastRemove_b59b0_37, ↓tbJx4a65c_fastRemove_b59b0_38, ↓tbJx4a65c_fastRemove_b59b0_41, ↓tbJx4a65c_fastRemove_b59b0_42, ↓tbJx4a65c_fastRemove_b59b0_43, hfu, xstep0, xJ1_hit, xJ1_go, xJ2_hit1, xJ2_hit2, xJ2_go, ↓xif_t, ↓xif_f, seval, ↓xca_eq, ↓xre_l, ↓xre_r, xmask_t, xmask_f, xmask_nil, ↓xst_eq, xX_eq, eI_eq, eMc_eq, eMs_eq, eF_eq, eThr_eq, ↓xS1_mk, ↓xSI_mk, ↓xSR_mk, ↓xLI_0, ↓xLI_s, ↓xLR_0, ↓xLR_s, vRef_ref, vRef_null, vRef_rf, cat_int, cat_ref, cat_null, cat_rf, rf_some, rf_none, rf_null, rf_eq, rf_ref, ref_rf, ref_null, ref_ref, xOk_0, xOk_1, xOk_2r, xOk_2n, xOk_2f, vOpt_rf, vOpt_ref, vOpt_null, List.set_cons_zero, List.set_cons_succ, List.take_succ_cons, List.take_zero, List.drop_succ_cons, List.drop_zero, List.reverse_cons, List.reverse_nil, List.nil_append, List.cons_append, List.append_nil, List.length_cons, List.length_nil, List.map_cons, List.map_nil, List.sum_cons, List.sum_nil, Option.toList_some, Option.toList_none, xRecv_mk, true_and, and_true, true_implies, Nat.reduceAdd, Nat.reduceLeDiff, Nat.zero_le, Nat.le_refl, Nat.add_zero, Nat.zero_add, reduceIte, not_true_eq_false, not_false_eq_true, false_implies, and_self, implies_true, eq_self, Nat.reduceEqDiff, List.cons.injEq, xsn_1, xsn_2, false_and, and_false, or_false, false_or, or_true, true_or, xsn_3, xsn_4, ↓sp_cpy_w, sp_cpy_c, ↓sp_ast_w, sp_ast_c, ↓sp_astn_w, k1, k2, cK_setI, cFi_setI, e1, e2, cLen_setI, z2, vin_lt (show n - 1 < cLen S e by omega) (show n - 1 < 1000 by omega), ix_nI (show n - 1 < 1000 by omega)]
    try simp only [xif_e]
    exact h

def tbJx4a65c_remove_915e3 : List (Nat × xHint) := [(0, .iload_n 1, 1, 0, 0, []), (1, .aload_n 0, 0, 0, 0, []), (2, .getfield 48, 0, 2, 0, []), (5, .invokestatic 118, 0, 2, 0, []), (8, .pop, 0, 0, 0, []), (9, .aload_n 0, 0, 0, 0, []), (10, .getfield 9, 0, 1, 2, []), (13, .astore_n 2, 2, 0, 0, []), (14, .aload_n 2, 2, 0, 0, []), (15, .iload_n 1, 1, 0, 0, []), (16, .aaload, 0, 0, 0, []), (17, .astore_n 3, 3, 0, 0, []), (18, .aload_n 0, 0, 0, 0, []), (19, .aload_n 2, 2, 0, 0, []), (20, .iload_n 1, 1, 0, 0, []), (21, .invokevirtual 144, 1, 3, 0, []), (24, .aload_n 3, 3, 0, 0, []), (25, .areturn, 0, 0, 0, [])]
def clJx4a65c_remove_915e3 : List (Instr × Nat × Nat × Nat) := [(.invokestatic 118, 0, 2, 0), (.invokevirtual 144, 1, 3, 0)]
def thJx4a65c_remove_915e3 : List (Nat × Nat) := []
theorem ckJx4a65c_remove_915e3 : tbJx4a65c_remove_915e3.all (xRow RJx4a65c cJx4a65c_remove_915e3 wsJx4a65c_remove_915e3 vwCl [0] clJx4a65c_remove_915e3 thJx4a65c_remove_915e3 4 (yJx4a65c_remove_915e3.name == "<init>") (some (.object "java/lang/Object"))) = true := xRow_q 0xb02d9000b61b2c2a4e321b2c4d0900b42a577600b83000b42a1b 26 (by decide +kernel) (by decide +kernel)
theorem usJx4a65c_remove_915e3 : xUse wsJx4a65c_remove_915e3 vwCl [0] = true := xUse_g rfl (lw_good lwl_Jx4a65c_remove_915e3 lwl_Jx4a65c0 (by decide +kernel)) xUse_n
theorem tbJx4a65c_remove_915e3_0 {k : Instr → Nat → Nat → Nat → List Nat → Prop} : xse (xFind tbJx4a65c_remove_915e3 0) k = k (.iload_n 1) 1 0 0 [] := rfl
theorem tbJx4a65c_remove_915e3_1 {k : Instr → Nat → Nat → Nat → List Nat → Prop} : xse (xFind tbJx4a65c_remove_915e3 1) k = k (.aload_n 0) 0 0 0 [] := rfl
theorem tbJx4a65c_remove_915e3_2 {k : Instr → Nat → Nat → Nat → List Nat → Prop} : xse (xFind tbJx4a65c_remove_915e3 2) k = k (.getfield 48) 0 2 0 [] := rfl
theorem tbJx4a65c_remove_915e3_5 {k : Instr → Nat → Nat → Nat → List Nat → Prop} : xse (xFind tbJx4a65c_remove_915e3 5) k = k (.invokestatic 118) 0 2 0 [] := rfl
theorem tbJx4a65c_remove_915e3_8 {k : Instr → Nat → Nat → Nat → List Nat → Prop} : xse (xFind tbJx4a65c_remove_915e3 8) k = k (.pop) 0 0 0 [] := rfl
theorem tbJx4a65c_remove_915e3_9 {k : Instr → Nat → Nat → Nat → List Nat → Prop} : xse (xFind tbJx4a65c_remove_915e3 9) k = k (.aload_n 0) 0 0 0 [] := rfl
theorem tbJx4a65c_remove_915e3_10 {k : Instr → Nat → Nat → Nat → List Nat → Prop} : xse (xFind tbJx4a65c_remove_915e3 10) k = k (.getfield 9) 0 1 2 [] := rfl
theorem tbJx4a65c_remove_915e3_13 {k : Instr → Nat → Nat → Nat → List Nat → Prop} : xse (xFind tbJx4a65c_remove_915e3 13) k = k (.astore_n 2) 2 0 0 [] := rfl
theorem tbJx4a65c_remove_915e3_14 {k : Instr → Nat → Nat → Nat → List Nat → Prop} : xse (xFind tbJx4a65c_remove_915e3 14) k = k (.aload_n 2) 2 0 0 [] := rfl
theorem tbJx4a65c_remove_915e3_15 {k : Instr → Nat → Nat → Nat → List Nat → Prop} : xse (xFind tbJx4a65c_remove_915e3 15) k = k (.iload_n 1) 1 0 0 [] := rfl
theorem tbJx4a65c_remove_915e3_16 {k : Instr → Nat → Nat → Nat → List Nat → Prop} : xse (xFind tbJx4a65c_remove_915e3 16) k = k (.aaload) 0 0 0 [] := rfl
theorem tbJx4a65c_remove_915e3_17 {k : Instr → Nat → Nat → Nat → List Nat → Prop} : xse (xFind tbJx4a65c_remove_915e3 17) k = k (.astore_n 3) 3 0 0 [] := rfl
theorem tbJx4a65c_remove_915e3_18 {k : Instr → Nat → Nat → Nat → List Nat → Prop} : xse (xFind tbJx4a65c_remove_915e3 18) k = k (.aload_n 0) 0 0 0 [] := rfl
theorem tbJx4a65c_remove_915e3_19 {k : Instr → Nat → Nat → Nat → List Nat → Prop} : xse (xFind tbJx4a65c_remove_915e3 19) k = k (.aload_n 2) 2 0 0 [] := rfl
theorem tbJx4a65c_remove_915e3_20 {k : Instr → Nat → Nat → Nat → List Nat → Prop} : xse (xFind tbJx4a65c_remove_915e3 20) k = k (.iload_n 1) 1 0 0 [] := rfl
theorem tbJx4a65c_remove_915e3_21 {k : Instr → Nat → Nat → Nat → List Nat → Prop} : xse (xFind tbJx4a65c_remove_915e3 21) k = k (.invokevirtual 144) 1 3 0 [] := rfl
theorem tbJx4a65c_remove_915e3_24 {k : Instr → Nat → Nat → Nat → List Nat → Prop} : xse (xFind tbJx4a65c_remove_915e3 24) k = k (.aload_n 3) 3 0 0 [] := rfl
theorem tbJx4a65c_remove_915e3_25 {k : Instr → Nat → Nat → Nat → List Nat → Prop} : xse (xFind tbJx4a65c_remove_915e3 25) k = k (.areturn) 0 0 0 [] := rfl

def spJx4a65c_remove_915e3 (W9 : xWd) : xSp cS := (fun av S => (0, 0), fun av S K => ∃ (a : Nat) (i : Int32), av = [.ref a, .int i] ∧ (lCap W9 S a ∧ ∃ p c9, i = nI p ∧ p < lCn S a ∧ lKd S a c9 ∧ K (rF (lNth S a p)) (lRem S a p)))
theorem spcJx4a65c_remove_915e3 {av : List Value} {S : cS} {W9 : xWd} : (spJx4a65c_remove_915e3 W9).1 av S = (0, 0) := rfl
theorem spwJx4a65c_remove_915e3 {S : cS} {W9 : xWd} {K : xRes → cS → Prop} {a : Nat} {i : Int32} : (spJx4a65c_remove_915e3 W9).2 [.ref a, .int i] S K = (lCap W9 S a ∧ ∃ p c9, i = nI p ∧ p < lCn S a ∧ lKd S a c9 ∧ K (rF (lNth S a p)) (lRem S a p)) :=
  propext ⟨fun h => by
    simp only [spJx4a65c_remove_915e3] at h
    obtain ⟨_, _, e, h⟩ := h
    simp only [List.cons.injEq, Value.int.injEq, Value.ref.injEq, rf_eq, and_true, true_and] at e
    obtain ⟨rfl, rfl⟩ := e
    exact h, fun h => ⟨_, _, rfl, h⟩⟩

def callJx4a65c_remove_915e3 (W9 : xWd) : Nat → Option (xSp cS) := fun n => match n with | 0 => some (spJ15_checkIndex_7cf53 W9) | 1 => some (spJx4a65c_fastRemove_b59b0 W9) | _ => none

theorem callJx4a65c_remove_915e3_0 {W9 : xWd} {k : xSp cS → Prop} : xcs (callJx4a65c_remove_915e3 W9 0) k = k (spJ15_checkIndex_7cf53 W9) := rfl

theorem callJx4a65c_remove_915e3_1 {W9 : xWd} {k : xSp cS → Prop} : xcs (callJx4a65c_remove_915e3 W9 1) k = k (spJx4a65c_fastRemove_b59b0 W9) := rfl

theorem crJx4a65c_remove_915e3 (l : Launch) (hl : l.stackTraces = false) (W9 : xWd) : xCallsOK l W9 (cI) (callJx4a65c_remove_915e3 W9) clJx4a65c_remove_915e3 RJx4a65c wsJx4a65c_remove_915e3 2 83 4 := by
  intro E A p e R s m args below meth c hI hF hL X
  exact List.forall_mem_cons.mpr ⟨⟨_, rfl, xCR_S X (by rw [hI]; exact (semJ15_checkIndex_7cf53 l hl W9)) gJx4a65c_remove_915e3_J15_checkIndex_7cf53 rfl (by decide +kernel) (by rw [hF, hL]; decide)⟩,
    List.forall_mem_cons.mpr ⟨⟨_, rfl, xCR_V X (by rw [hI]; exact (semJx4a65c_fastRemove_b59b0 l hl W9)) gJx4a65c_remove_915e3_Jx4a65c_fastRemove_b59b0 rfl rfl (by decide +kernel) (by rw [hF, hL]; decide)⟩,
    fun _ h => nomatch h⟩⟩

set_option maxHeartbeats 600000 in
set_option maxRecDepth 20000 in
theorem semJx4a65c_remove_915e3 (l : Launch) (hl : l.stackTraces = false) (W9 : xWd) : xSem l W9 (cI) yJx4a65c_remove_915e3 wsJx4a65c_remove_915e3 2 83 (spJx4a65c_remove_915e3 W9) := by
  refine xSem_of (call := callJx4a65c_remove_915e3 W9) (thrf := fun _ => "") cI_law (by decide +kernel) rfl ckJx4a65c_remove_915e3 usJx4a65c_remove_915e3 (crJx4a65c_remove_915e3 l hl W9) xThrOK_nil ?_ ?_
  · intro av S KF h
    obtain ⟨a, i, rfl, h⟩ := h
    exact ⟨by intro v hv; simp only [List.mem_cons, List.not_mem_nil, or_false] at hv; rcases hv with rfl | rfl <;> first | rfl | exact cat_rf, Nat.le_of_ble_eq_true rfl⟩
  intro av S KF h G hG
  obtain ⟨a, i, rfl, h⟩ := h
  rw [show (spJx4a65c_remove_915e3 W9).1 _ S = _ from spcJx4a65c_remove_915e3] at hG
  try dsimp only at hG
  change G 0 [some (.ref a), some (.int i), none, none] [] S 0 0
  obtain ⟨h1, p, c9, rfl, h2, h3, h⟩ := h

  have hc := h1
  obtain ⟨k1, k2, k3, k4, k5⟩ := h1
  obtain ⟨z1, z2, z3, z4, z5⟩ := k5.resolve_left (fun z => by omega)
  have e1 : 0 ≤ nI p := nI_pos' (by omega)
  have e2 := lt0_nI h2 (show lCn S a < 1000 by omega)
  refine xgo0 hG (fun fu hfu => ?_)
  unfold lNth at h
  simp only [↓cald_2, ↓callJx4a65c_remove_915e3_0, ↓callJx4a65c_remove_915e3_1, ↓cg_0_1, ↓cg_0_2, cisa, ↓vm_aaload, ↓vm_aload_n, ↓vm_areturn, ↓vm_astore_n, ↓vm_getfield, ↓vm_iload_n, ↓vm_invokestatic, ↓vm_invokevirtual, ↓vm_pop, ↓xc_2, ↓xc_3, ↓tbJx4a65c_remove_915e3_0, ↓tbJx4a65c_remove_915e3_1, ↓tbJx4a65c_remove_915e3_2, ↓tbJx4a65c_remove_915e3_5, ↓tbJx4a65c_remove_915e3_8, ↓tbJx4a65c_remove_915e3_9, ↓tbJx4a65c_remove_915e3_10, ↓tbJx4a65c_remove_915e3_13, ↓tbJx4a65c_remove_915e3_14, ↓tbJx4a65c_remove_915e3_15, ↓tbJx4a65c_remove_915e3_16, ↓tbJx4a65c_remove_915e3_17, ↓tbJx4a65c_remove_915e3_18, ↓tbJx4a65c_remove_915e3_19, ↓tbJx4a65c_remove_915e3_20, ↓tbJx4a65c_remove_915e3_21, ↓tbJx4a65c_remove_915e3_24, ↓tbJx4a65c_remove_915e3_25, hfu, xstep0, xJ1_hit, xJ1_go, xJ2_hit1, xJ2_hit2, xJ2_go, ↓xif_t, ↓xif_f, seval, ↓xca_eq, ↓xre_l, ↓xre_r, xmask_t, xmask_f, xmask_nil, ↓xst_eq, xX_eq, eI_eq, eMc_eq, eMs_eq, eF_eq, eThr_eq, ↓xS1_mk, ↓xSI_mk, ↓xSR_mk, ↓xLI_0, ↓xLI_s, ↓xLR_0, ↓xLR_s, vRef_ref, vRef_null, vRef_rf, cat_int, cat_ref, cat_null, cat_rf, rf_some, rf_none, rf_null, rf_eq, rf_ref, ref_rf, ref_null, ref_ref, xOk_0, xOk_1, xOk_2r, xOk_2n, xOk_2f, vOpt_rf, vOpt_ref, vOpt_null, List.set_cons_zero, List.set_cons_succ, List.take_succ_cons, List.take_zero, List.drop_succ_cons, List.drop_zero, List.reverse_cons, List.reverse_nil, List.nil_append, List.cons_append, List.append_nil, List.length_cons, List.length_nil, List.map_cons, List.map_nil, List.sum_cons, List.sum_nil, Option.toList_some, Option.toList_none, xRecv_mk, true_and, and_true, true_implies, Nat.reduceAdd, Nat.reduceLeDiff, Nat.zero_le, Nat.le_refl, Nat.add_zero, Nat.zero_add, reduceIte, not_true_eq_false, not_false_eq_true, false_implies, and_self, implies_true, eq_self, Nat.reduceEqDiff, List.cons.injEq, xsn_1, xsn_2, false_and, and_false, or_false, false_or, or_true, true_or, xsn_3, xsn_4, ↓spwJ15_checkIndex_7cf53, spcJ15_checkIndex_7cf53, ↓spwJx4a65c_fastRemove_b59b0, spcJx4a65c_fastRemove_b59b0, k1, k2, k4, e1, e2, z2, vin_lt (show p < cLen S (cRf S a 1) by omega) (show p < 1000 by omega), ix_nI (show p < 1000 by omega), hc]
  try simp only [xif_e]
  exact ⟨p, c9, rfl, h2, h3, h⟩
