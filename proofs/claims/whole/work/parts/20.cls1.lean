/-! The class's small methods: lists read, barges, rows. -/
def cRf (S : cS) (a g : Nat) : Nat := (cFr S a g).getD 0
def lCn (S : cS) (L : Nat) : Nat := (cFi S L 2).toNatClampNeg
def lNth (S : cS) (L j : Nat) : Option Nat := cRr S (cRf S L 1) j
theorem vin_lt {j n : Nat} (h : j < n) (hj : j < 1000) : vp_in (nI j) n := by
  rintro (q | q)
  · exact nI_pos (by omega) q
  · rw [nI_clamp (by omega)] at q
    omega
/-- a list that may be read -/
def lOk (S : cS) (L : Nat) : Prop := cK S L = 1 ∧ cFi S L 2 = nI (lCn S L) ∧ lCn S L ≤ 30 ∧ cFr S L 1 = some (cRf S L 1) ∧ (lCn S L = 0 ∨ (cK S (cRf S L 1) = 13 ∧ lCn S L ≤ cLen S (cRf S L 1)))
theorem lOk_in {S : cS} {L : Nat} {i : Int32} (h : lOk S L) (h0 : 0 ≤ i) (h1 : i < cFi S L 2) : cK S (cRf S L 1) = 13 ∧ vp_in i (cLen S (cRf S L 1)) ∧ i.toNatClampNeg < lCn S L := by
  obtain ⟨-, h2, h3, -, h4⟩ := h
  have a := Int32.le_iff_toInt_le.mp h0
  have b := Int32.lt_iff_toInt_lt.mp h1
  rw [h2, nI_toInt (by omega)] at b
  have c : (0 : Int32).toInt = 0 := rfl
  have hi : vp_in i (lCn S L) := vp_in_iff.mpr (by omega)
  obtain ⟨j, hj, rfl⟩ := vp_in_of hi (by omega)
  rw [nI_clamp (by omega)]
  rcases h4 with q | ⟨q1, q2⟩
  · omega
  · exact ⟨q1, vin_lt (by omega) (by omega), hj⟩

def tbJ3_checkIndex_8e157 : List (Nat × xHint) := [(0, .iload_n 0, 0, 0, 0, []), (1, .ifCond .lt 8, 9, 0, 0, []), (4, .iload_n 0, 0, 0, 0, []), (5, .iload_n 1, 1, 0, 0, []), (6, .if_icmp .lt 10, 16, 0, 0, []), (16, .iload_n 0, 0, 0, 0, []), (17, .ireturn, 0, 0, 0, [])]
def clJ3_checkIndex_8e157 : List (Instr × Nat × Nat × Nat) := []
def thJ3_checkIndex_8e157 : List (Nat × Nat) := []
theorem ckJ3_checkIndex_8e157 : tbJ3_checkIndex_8e157.all (xRow RJ3 cJ3_checkIndex_8e157 wsJ3_checkIndex_8e157 vwCl [] clJ3_checkIndex_8e157 thJ3_checkIndex_8e157 3 (yJ3_checkIndex_8e157.name == "<init>") (some .int)) = true := xRow_q 0xac1abf5f00b81b1a2c0a00a11b1a08009b1a 18 (by decide +kernel) (by decide +kernel)
theorem usJ3_checkIndex_8e157 : xUse wsJ3_checkIndex_8e157 vwCl [] = true := xUse_n
theorem tbJ3_checkIndex_8e157_0 {k : Instr → Nat → Nat → Nat → List Nat → Prop} : xse (xFind tbJ3_checkIndex_8e157 0) k = k (.iload_n 0) 0 0 0 [] := rfl
theorem tbJ3_checkIndex_8e157_1 {k : Instr → Nat → Nat → Nat → List Nat → Prop} : xse (xFind tbJ3_checkIndex_8e157 1) k = k (.ifCond .lt 8) 9 0 0 [] := rfl
theorem tbJ3_checkIndex_8e157_4 {k : Instr → Nat → Nat → Nat → List Nat → Prop} : xse (xFind tbJ3_checkIndex_8e157 4) k = k (.iload_n 0) 0 0 0 [] := rfl
theorem tbJ3_checkIndex_8e157_5 {k : Instr → Nat → Nat → Nat → List Nat → Prop} : xse (xFind tbJ3_checkIndex_8e157 5) k = k (.iload_n 1) 1 0 0 [] := rfl
theorem tbJ3_checkIndex_8e157_6 {k : Instr → Nat → Nat → Nat → List Nat → Prop} : xse (xFind tbJ3_checkIndex_8e157 6) k = k (.if_icmp .lt 10) 16 0 0 [] := rfl
theorem tbJ3_checkIndex_8e157_16 {k : Instr → Nat → Nat → Nat → List Nat → Prop} : xse (xFind tbJ3_checkIndex_8e157 16) k = k (.iload_n 0) 0 0 0 [] := rfl
theorem tbJ3_checkIndex_8e157_17 {k : Instr → Nat → Nat → Nat → List Nat → Prop} : xse (xFind tbJ3_checkIndex_8e157 17) k = k (.ireturn) 0 0 0 [] := rfl

def spJ3_checkIndex_8e157 (W9 : xWd) : xSp cS := (fun av S => (0, 0), fun av S K => ∃ (i : Int32) (n : Int32), av = [.int i, .int n, .null] ∧ ((0 ≤ i ∧ i < n) ∧ K (rI i) S))
theorem spcJ3_checkIndex_8e157 {av : List Value} {S : cS} {W9 : xWd} : (spJ3_checkIndex_8e157 W9).1 av S = (0, 0) := rfl
theorem spwJ3_checkIndex_8e157 {S : cS} {W9 : xWd} {K : xRes → cS → Prop} {i : Int32} {n : Int32} : (spJ3_checkIndex_8e157 W9).2 [.int i, .int n, .null] S K = ((0 ≤ i ∧ i < n) ∧ K (rI i) S) :=
  propext ⟨fun h => by
    simp only [spJ3_checkIndex_8e157] at h
    obtain ⟨_, _, e, h⟩ := h
    simp only [List.cons.injEq, Value.int.injEq, Value.ref.injEq, rf_eq, and_true, true_and] at e
    obtain ⟨rfl, rfl⟩ := e
    exact h, fun h => ⟨_, _, rfl, h⟩⟩

set_option maxHeartbeats 4000000 in
set_option maxRecDepth 20000 in
theorem semJ3_checkIndex_8e157 (l : Launch) (hl : l.stackTraces = false) (W9 : xWd) : xSem l W9 (cI) yJ3_checkIndex_8e157 wsJ3_checkIndex_8e157 0 0 (spJ3_checkIndex_8e157 W9) := by
  refine xSem_of (call := fun _ => none) (thrf := fun _ => "") cI_law (by decide +kernel) rfl ckJ3_checkIndex_8e157 usJ3_checkIndex_8e157 xCallsOK_nil xThrOK_nil ?_ ?_
  · intro av S KF h
    obtain ⟨i, n, rfl, h⟩ := h
    exact ⟨by intro v hv; simp only [List.mem_cons, List.not_mem_nil, or_false] at hv; rcases hv with rfl | rfl | rfl <;> first | rfl | exact cat_rf, Nat.le_of_ble_eq_true rfl⟩
  intro av S KF h G hG
  obtain ⟨i, n, rfl, h⟩ := h
  rw [show (spJ3_checkIndex_8e157 W9).1 _ S = _ from spcJ3_checkIndex_8e157] at hG
  try dsimp only at hG
  change G 0 [some (.int i), some (.int n), some (.null)] [] S 0 0
  obtain ⟨⟨h0, h1⟩, h⟩ := h
  refine xgo0 hG (fun fu hfu => ?_)
  clear hG
  simp only [↓vm_ifCond_lt, ↓vm_if_icmp_lt, ↓vm_iload_n, ↓vm_ireturn, ↓tbJ3_checkIndex_8e157_0, ↓tbJ3_checkIndex_8e157_1, ↓tbJ3_checkIndex_8e157_4, ↓tbJ3_checkIndex_8e157_5, ↓tbJ3_checkIndex_8e157_6, ↓tbJ3_checkIndex_8e157_16, ↓tbJ3_checkIndex_8e157_17, hfu, xstep0, xJ1_hit, xJ1_go, xJ2_hit1, xJ2_hit2, xJ2_go, ↓xif_t, ↓xif_f, seval, ↓xca_eq, ↓xre_l, ↓xre_r, xmask_t, xmask_f, xmask_nil, ↓xst_eq, xX_eq, eI_eq, eMc_eq, eMs_eq, eF_eq, eThr_eq, ↓xS1_mk, ↓xSI_mk, ↓xSR_mk, ↓xLI_0, ↓xLI_s, ↓xLR_0, ↓xLR_s, vRef_ref, vRef_null, vRef_rf, cat_int, cat_ref, cat_null, cat_rf, rf_some, rf_none, rf_null, rf_eq, rf_ref, ref_rf, ref_null, ref_ref, xOk_0, xOk_1, xOk_2r, xOk_2n, xOk_2f, vOpt_rf, vOpt_ref, vOpt_null, List.set_cons_zero, List.set_cons_succ, List.take_succ_cons, List.take_zero, List.drop_succ_cons, List.drop_zero, List.reverse_cons, List.reverse_nil, List.nil_append, List.cons_append, List.append_nil, List.length_cons, List.length_nil, List.map_cons, List.map_nil, List.sum_cons, List.sum_nil, Option.toList_some, Option.toList_none, xRecv_mk, true_and, and_true, true_implies, Nat.reduceAdd, Nat.reduceLeDiff, Nat.zero_le, Nat.le_refl, Nat.add_zero, Nat.zero_add, reduceIte, not_true_eq_false, not_false_eq_true, false_implies, and_self, implies_true, eq_self, Nat.reduceEqDiff, List.cons.injEq, xsn_1, xsn_2, false_and, and_false, or_false, false_or, or_true, true_or, xsn_3, xsn_4]
  try simp only [xif_e]
  grind

def tbJ15_checkIndex_7cf53 : List (Nat × xHint) := [(0, .iload_n 0, 0, 0, 0, []), (1, .iload_n 1, 1, 0, 0, []), (2, .aconst_null, 0, 0, 0, []), (3, .invokestatic 105, 0, 3, 0, []), (6, .ireturn, 0, 0, 0, [])]
def clJ15_checkIndex_7cf53 : List (Instr × Nat × Nat × Nat) := [(.invokestatic 105, 0, 3, 0)]
def thJ15_checkIndex_7cf53 : List (Nat × Nat) := []
theorem ckJ15_checkIndex_7cf53 : tbJ15_checkIndex_7cf53.all (xRow RJ15 cJ15_checkIndex_7cf53 wsJ15_checkIndex_7cf53 vwCl [] clJ15_checkIndex_7cf53 thJ15_checkIndex_7cf53 2 (yJ15_checkIndex_7cf53.name == "<init>") (some .int)) = true := xRow_q 0xac6900b8011b1a 7 (by decide +kernel) (by decide +kernel)
theorem usJ15_checkIndex_7cf53 : xUse wsJ15_checkIndex_7cf53 vwCl [] = true := xUse_n
theorem tbJ15_checkIndex_7cf53_0 {k : Instr → Nat → Nat → Nat → List Nat → Prop} : xse (xFind tbJ15_checkIndex_7cf53 0) k = k (.iload_n 0) 0 0 0 [] := rfl
theorem tbJ15_checkIndex_7cf53_1 {k : Instr → Nat → Nat → Nat → List Nat → Prop} : xse (xFind tbJ15_checkIndex_7cf53 1) k = k (.iload_n 1) 1 0 0 [] := rfl
theorem tbJ15_checkIndex_7cf53_2 {k : Instr → Nat → Nat → Nat → List Nat → Prop} : xse (xFind tbJ15_checkIndex_7cf53 2) k = k (.aconst_null) 0 0 0 [] := rfl
theorem tbJ15_checkIndex_7cf53_3 {k : Instr → Nat → Nat → Nat → List Nat → Prop} : xse (xFind tbJ15_checkIndex_7cf53 3) k = k (.invokestatic 105) 0 3 0 [] := rfl
theorem tbJ15_checkIndex_7cf53_6 {k : Instr → Nat → Nat → Nat → List Nat → Prop} : xse (xFind tbJ15_checkIndex_7cf53 6) k = k (.ireturn) 0 0 0 [] := rfl

def spJ15_checkIndex_7cf53 (W9 : xWd) : xSp cS := (fun av S => (0, 0), fun av S K => ∃ (i : Int32) (n : Int32), av = [.int i, .int n] ∧ ((0 ≤ i ∧ i < n) ∧ K (rI i) S))
theorem spcJ15_checkIndex_7cf53 {av : List Value} {S : cS} {W9 : xWd} : (spJ15_checkIndex_7cf53 W9).1 av S = (0, 0) := rfl
theorem spwJ15_checkIndex_7cf53 {S : cS} {W9 : xWd} {K : xRes → cS → Prop} {i : Int32} {n : Int32} : (spJ15_checkIndex_7cf53 W9).2 [.int i, .int n] S K = ((0 ≤ i ∧ i < n) ∧ K (rI i) S) :=
  propext ⟨fun h => by
    simp only [spJ15_checkIndex_7cf53] at h
    obtain ⟨_, _, e, h⟩ := h
    simp only [List.cons.injEq, Value.int.injEq, Value.ref.injEq, rf_eq, and_true, true_and] at e
    obtain ⟨rfl, rfl⟩ := e
    exact h, fun h => ⟨_, _, rfl, h⟩⟩

def callJ15_checkIndex_7cf53 (W9 : xWd) : Nat → Option (xSp cS) := fun n => match n with | 0 => some (spJ3_checkIndex_8e157 W9) | _ => none

theorem callJ15_checkIndex_7cf53_0 {W9 : xWd} {k : xSp cS → Prop} : xcs (callJ15_checkIndex_7cf53 W9 0) k = k (spJ3_checkIndex_8e157 W9) := rfl

theorem crJ15_checkIndex_7cf53 (l : Launch) (hl : l.stackTraces = false) (W9 : xWd) : xCallsOK l W9 (cI) (callJ15_checkIndex_7cf53 W9) clJ15_checkIndex_7cf53 RJ15 wsJ15_checkIndex_7cf53 1 22 2 := by
  intro E A p e R s m args below meth c hI hF hL X
  exact List.forall_mem_cons.mpr ⟨⟨_, rfl, xCR_S X (by rw [hI]; exact (semJ3_checkIndex_8e157 l hl W9)) gJ15_checkIndex_7cf53_J3_checkIndex_8e157 rfl (by decide +kernel) (by rw [hF, hL]; decide)⟩,
    fun _ h => nomatch h⟩

set_option maxHeartbeats 4000000 in
set_option maxRecDepth 20000 in
theorem semJ15_checkIndex_7cf53 (l : Launch) (hl : l.stackTraces = false) (W9 : xWd) : xSem l W9 (cI) yJ15_checkIndex_7cf53 wsJ15_checkIndex_7cf53 1 22 (spJ15_checkIndex_7cf53 W9) := by
  refine xSem_of (call := callJ15_checkIndex_7cf53 W9) (thrf := fun _ => "") cI_law (by decide +kernel) rfl ckJ15_checkIndex_7cf53 usJ15_checkIndex_7cf53 (crJ15_checkIndex_7cf53 l hl W9) xThrOK_nil ?_ ?_
  · intro av S KF h
    obtain ⟨i, n, rfl, h⟩ := h
    exact ⟨by intro v hv; simp only [List.mem_cons, List.not_mem_nil, or_false] at hv; rcases hv with rfl | rfl <;> first | rfl | exact cat_rf, Nat.le_of_ble_eq_true rfl⟩
  intro av S KF h G hG
  obtain ⟨i, n, rfl, h⟩ := h
  rw [show (spJ15_checkIndex_7cf53 W9).1 _ S = _ from spcJ15_checkIndex_7cf53] at hG
  try dsimp only at hG
  change G 0 [some (.int i), some (.int n)] [] S 0 0
  obtain ⟨⟨h0, h1⟩, h⟩ := h
  refine xgo0 hG (fun fu hfu => ?_)
  clear hG
  simp only [↓callJ15_checkIndex_7cf53_0, ↓vm_aconst_null, ↓vm_iload_n, ↓vm_invokestatic, ↓vm_ireturn, ↓xc_3, ↓tbJ15_checkIndex_7cf53_0, ↓tbJ15_checkIndex_7cf53_1, ↓tbJ15_checkIndex_7cf53_2, ↓tbJ15_checkIndex_7cf53_3, ↓tbJ15_checkIndex_7cf53_6, hfu, xstep0, xJ1_hit, xJ1_go, xJ2_hit1, xJ2_hit2, xJ2_go, ↓xif_t, ↓xif_f, seval, ↓xca_eq, ↓xre_l, ↓xre_r, xmask_t, xmask_f, xmask_nil, ↓xst_eq, xX_eq, eI_eq, eMc_eq, eMs_eq, eF_eq, eThr_eq, ↓xS1_mk, ↓xSI_mk, ↓xSR_mk, ↓xLI_0, ↓xLI_s, ↓xLR_0, ↓xLR_s, vRef_ref, vRef_null, vRef_rf, cat_int, cat_ref, cat_null, cat_rf, rf_some, rf_none, rf_null, rf_eq, rf_ref, ref_rf, ref_null, ref_ref, xOk_0, xOk_1, xOk_2r, xOk_2n, xOk_2f, vOpt_rf, vOpt_ref, vOpt_null, List.set_cons_zero, List.set_cons_succ, List.take_succ_cons, List.take_zero, List.drop_succ_cons, List.drop_zero, List.reverse_cons, List.reverse_nil, List.nil_append, List.cons_append, List.append_nil, List.length_cons, List.length_nil, List.map_cons, List.map_nil, List.sum_cons, List.sum_nil, Option.toList_some, Option.toList_none, xRecv_mk, true_and, and_true, true_implies, Nat.reduceAdd, Nat.reduceLeDiff, Nat.zero_le, Nat.le_refl, Nat.add_zero, Nat.zero_add, reduceIte, not_true_eq_false, not_false_eq_true, false_implies, and_self, implies_true, eq_self, Nat.reduceEqDiff, List.cons.injEq, xsn_1, xsn_2, false_and, and_false, or_false, false_or, or_true, true_or, xsn_3, xsn_4, ↓spwJ3_checkIndex_8e157, spcJ3_checkIndex_8e157]
  try simp only [xif_e]
  grind

def tbJx4a65c_size_8abf5 : List (Nat × xHint) := [(0, .aload_n 0, 0, 0, 0, []), (1, .getfield 48, 0, 2, 0, []), (4, .ireturn, 0, 0, 0, [])]
def clJx4a65c_size_8abf5 : List (Instr × Nat × Nat × Nat) := []
def thJx4a65c_size_8abf5 : List (Nat × Nat) := []
theorem ckJx4a65c_size_8abf5 : tbJx4a65c_size_8abf5.all (xRow RJx4a65c cJx4a65c_size_8abf5 wsJx4a65c_size_8abf5 vwCl [0] clJx4a65c_size_8abf5 thJx4a65c_size_8abf5 1 (yJx4a65c_size_8abf5.name == "<init>") (some .int)) = true := xRow_q 0xac3000b42a 5 (by decide +kernel) (by decide +kernel)
theorem usJx4a65c_size_8abf5 : xUse wsJx4a65c_size_8abf5 vwCl [0] = true := xUse_g rfl (lw_good lwl_Jx4a65c_size_8abf5 lwl_Jx4a65c0 (by decide +kernel)) xUse_n
theorem tbJx4a65c_size_8abf5_0 {k : Instr → Nat → Nat → Nat → List Nat → Prop} : xse (xFind tbJx4a65c_size_8abf5 0) k = k (.aload_n 0) 0 0 0 [] := rfl
theorem tbJx4a65c_size_8abf5_1 {k : Instr → Nat → Nat → Nat → List Nat → Prop} : xse (xFind tbJx4a65c_size_8abf5 1) k = k (.getfield 48) 0 2 0 [] := rfl
theorem tbJx4a65c_size_8abf5_4 {k : Instr → Nat → Nat → Nat → List Nat → Prop} : xse (xFind tbJx4a65c_size_8abf5 4) k = k (.ireturn) 0 0 0 [] := rfl

def spJx4a65c_size_8abf5 (W9 : xWd) : xSp cS := (fun av S => (0, 0), fun av S K => ∃ (a : Nat), av = [.ref a] ∧ (cK S a = 1 ∧ K (rI (cFi S a 2)) S))
theorem spcJx4a65c_size_8abf5 {av : List Value} {S : cS} {W9 : xWd} : (spJx4a65c_size_8abf5 W9).1 av S = (0, 0) := rfl
theorem spwJx4a65c_size_8abf5 {S : cS} {W9 : xWd} {K : xRes → cS → Prop} {a : Nat} : (spJx4a65c_size_8abf5 W9).2 [.ref a] S K = (cK S a = 1 ∧ K (rI (cFi S a 2)) S) :=
  propext ⟨fun h => by
    simp only [spJx4a65c_size_8abf5] at h
    obtain ⟨_, e, h⟩ := h
    simp only [List.cons.injEq, Value.int.injEq, Value.ref.injEq, rf_eq, and_true, true_and] at e
    obtain rfl := e
    exact h, fun h => ⟨_, rfl, h⟩⟩

set_option maxHeartbeats 4000000 in
set_option maxRecDepth 20000 in
theorem semJx4a65c_size_8abf5 (l : Launch) (hl : l.stackTraces = false) (W9 : xWd) : xSem l W9 (cI) yJx4a65c_size_8abf5 wsJx4a65c_size_8abf5 0 0 (spJx4a65c_size_8abf5 W9) := by
  refine xSem_of (call := fun _ => none) (thrf := fun _ => "") cI_law (by decide +kernel) rfl ckJx4a65c_size_8abf5 usJx4a65c_size_8abf5 xCallsOK_nil xThrOK_nil ?_ ?_
  · intro av S KF h
    obtain ⟨a, rfl, h⟩ := h
    exact ⟨by intro v hv; simp only [List.mem_cons, List.not_mem_nil, or_false] at hv; rcases hv with rfl <;> first | rfl | exact cat_rf, Nat.le_of_ble_eq_true rfl⟩
  intro av S KF h G hG
  obtain ⟨a, rfl, h⟩ := h
  rw [show (spJx4a65c_size_8abf5 W9).1 _ S = _ from spcJx4a65c_size_8abf5] at hG
  try dsimp only at hG
  change G 0 [some (.ref a)] [] S 0 0
  obtain ⟨h0, h⟩ := h
  refine xgo0 hG (fun fu hfu => ?_)
  clear hG
  simp only [↓cg_0_2, ↓vm_aload_n, ↓vm_getfield, ↓vm_ireturn, ↓tbJx4a65c_size_8abf5_0, ↓tbJx4a65c_size_8abf5_1, ↓tbJx4a65c_size_8abf5_4, hfu, xstep0, xJ1_hit, xJ1_go, xJ2_hit1, xJ2_hit2, xJ2_go, ↓xif_t, ↓xif_f, seval, ↓xca_eq, ↓xre_l, ↓xre_r, xmask_t, xmask_f, xmask_nil, ↓xst_eq, xX_eq, eI_eq, eMc_eq, eMs_eq, eF_eq, eThr_eq, ↓xS1_mk, ↓xSI_mk, ↓xSR_mk, ↓xLI_0, ↓xLI_s, ↓xLR_0, ↓xLR_s, vRef_ref, vRef_null, vRef_rf, cat_int, cat_ref, cat_null, cat_rf, rf_some, rf_none, rf_null, rf_eq, rf_ref, ref_rf, ref_null, ref_ref, xOk_0, xOk_1, xOk_2r, xOk_2n, xOk_2f, vOpt_rf, vOpt_ref, vOpt_null, List.set_cons_zero, List.set_cons_succ, List.take_succ_cons, List.take_zero, List.drop_succ_cons, List.drop_zero, List.reverse_cons, List.reverse_nil, List.nil_append, List.cons_append, List.append_nil, List.length_cons, List.length_nil, List.map_cons, List.map_nil, List.sum_cons, List.sum_nil, Option.toList_some, Option.toList_none, xRecv_mk, true_and, and_true, true_implies, Nat.reduceAdd, Nat.reduceLeDiff, Nat.zero_le, Nat.le_refl, Nat.add_zero, Nat.zero_add, reduceIte, not_true_eq_false, not_false_eq_true, false_implies, and_self, implies_true, eq_self, Nat.reduceEqDiff, List.cons.injEq, xsn_1, xsn_2, false_and, and_false, or_false, false_or, or_true, true_or, xsn_3, xsn_4, h0]
  try simp only [xif_e]
  exact h

def tbJx4a65c_elementData_915e3 : List (Nat × xHint) := [(0, .aload_n 0, 0, 0, 0, []), (1, .getfield 9, 0, 1, 2, []), (4, .iload_n 1, 1, 0, 0, []), (5, .aaload, 0, 0, 0, []), (6, .areturn, 0, 0, 0, [])]
def clJx4a65c_elementData_915e3 : List (Instr × Nat × Nat × Nat) := []
def thJx4a65c_elementData_915e3 : List (Nat × Nat) := []
theorem ckJx4a65c_elementData_915e3 : tbJx4a65c_elementData_915e3.all (xRow RJx4a65c cJx4a65c_elementData_915e3 wsJx4a65c_elementData_915e3 vwCl [0] clJx4a65c_elementData_915e3 thJx4a65c_elementData_915e3 2 (yJx4a65c_elementData_915e3.name == "<init>") (some (.object "java/lang/Object"))) = true := xRow_q 0xb0321b0900b42a 7 (by decide +kernel) (by decide +kernel)
theorem usJx4a65c_elementData_915e3 : xUse wsJx4a65c_elementData_915e3 vwCl [0] = true := xUse_g rfl (lw_good lwl_Jx4a65c_elementData_915e3 lwl_Jx4a65c0 (by decide +kernel)) xUse_n
theorem tbJx4a65c_elementData_915e3_0 {k : Instr → Nat → Nat → Nat → List Nat → Prop} : xse (xFind tbJx4a65c_elementData_915e3 0) k = k (.aload_n 0) 0 0 0 [] := rfl
theorem tbJx4a65c_elementData_915e3_1 {k : Instr → Nat → Nat → Nat → List Nat → Prop} : xse (xFind tbJx4a65c_elementData_915e3 1) k = k (.getfield 9) 0 1 2 [] := rfl
theorem tbJx4a65c_elementData_915e3_4 {k : Instr → Nat → Nat → Nat → List Nat → Prop} : xse (xFind tbJx4a65c_elementData_915e3 4) k = k (.iload_n 1) 1 0 0 [] := rfl
theorem tbJx4a65c_elementData_915e3_5 {k : Instr → Nat → Nat → Nat → List Nat → Prop} : xse (xFind tbJx4a65c_elementData_915e3 5) k = k (.aaload) 0 0 0 [] := rfl
theorem tbJx4a65c_elementData_915e3_6 {k : Instr → Nat → Nat → Nat → List Nat → Prop} : xse (xFind tbJx4a65c_elementData_915e3 6) k = k (.areturn) 0 0 0 [] := rfl

def spJx4a65c_elementData_915e3 (W9 : xWd) : xSp cS := (fun av S => (0, 0), fun av S K => ∃ (a : Nat) (i : Int32), av = [.ref a, .int i] ∧ (lOk S a ∧ (0 ≤ i ∧ i < cFi S a 2) ∧ K (rF (lNth S a i.toNatClampNeg)) S))
theorem spcJx4a65c_elementData_915e3 {av : List Value} {S : cS} {W9 : xWd} : (spJx4a65c_elementData_915e3 W9).1 av S = (0, 0) := rfl
theorem spwJx4a65c_elementData_915e3 {S : cS} {W9 : xWd} {K : xRes → cS → Prop} {a : Nat} {i : Int32} : (spJx4a65c_elementData_915e3 W9).2 [.ref a, .int i] S K = (lOk S a ∧ (0 ≤ i ∧ i < cFi S a 2) ∧ K (rF (lNth S a i.toNatClampNeg)) S) :=
  propext ⟨fun h => by
    simp only [spJx4a65c_elementData_915e3] at h
    obtain ⟨_, _, e, h⟩ := h
    simp only [List.cons.injEq, Value.int.injEq, Value.ref.injEq, rf_eq, and_true, true_and] at e
    obtain ⟨rfl, rfl⟩ := e
    exact h, fun h => ⟨_, _, rfl, h⟩⟩

set_option maxHeartbeats 4000000 in
set_option maxRecDepth 20000 in
theorem semJx4a65c_elementData_915e3 (l : Launch) (hl : l.stackTraces = false) (W9 : xWd) : xSem l W9 (cI) yJx4a65c_elementData_915e3 wsJx4a65c_elementData_915e3 0 0 (spJx4a65c_elementData_915e3 W9) := by
  refine xSem_of (call := fun _ => none) (thrf := fun _ => "") cI_law (by decide +kernel) rfl ckJx4a65c_elementData_915e3 usJx4a65c_elementData_915e3 xCallsOK_nil xThrOK_nil ?_ ?_
  · intro av S KF h
    obtain ⟨a, i, rfl, h⟩ := h
    exact ⟨by intro v hv; simp only [List.mem_cons, List.not_mem_nil, or_false] at hv; rcases hv with rfl | rfl <;> first | rfl | exact cat_rf, Nat.le_of_ble_eq_true rfl⟩
  intro av S KF h G hG
  obtain ⟨a, i, rfl, h⟩ := h
  rw [show (spJx4a65c_elementData_915e3 W9).1 _ S = _ from spcJx4a65c_elementData_915e3] at hG
  try dsimp only at hG
  change G 0 [some (.ref a), some (.int i)] [] S 0 0
  obtain ⟨h0, ⟨h1, h2⟩, h⟩ := h
  have hq := lOk_in h0 h1 h2
  obtain ⟨q1, q2, -⟩ := hq
  obtain ⟨k1, -, -, k2, -⟩ := h0
  refine xgo0 hG (fun fu hfu => ?_)
  clear hG
  simp only [↓cald_2, ↓cg_0_1, ↓vm_aaload, ↓vm_aload_n, ↓vm_areturn, ↓vm_getfield, ↓vm_iload_n, ↓tbJx4a65c_elementData_915e3_0, ↓tbJx4a65c_elementData_915e3_1, ↓tbJx4a65c_elementData_915e3_4, ↓tbJx4a65c_elementData_915e3_5, ↓tbJx4a65c_elementData_915e3_6, hfu, xstep0, xJ1_hit, xJ1_go, xJ2_hit1, xJ2_hit2, xJ2_go, ↓xif_t, ↓xif_f, seval, ↓xca_eq, ↓xre_l, ↓xre_r, xmask_t, xmask_f, xmask_nil, ↓xst_eq, xX_eq, eI_eq, eMc_eq, eMs_eq, eF_eq, eThr_eq, ↓xS1_mk, ↓xSI_mk, ↓xSR_mk, ↓xLI_0, ↓xLI_s, ↓xLR_0, ↓xLR_s, vRef_ref, vRef_null, vRef_rf, cat_int, cat_ref, cat_null, cat_rf, rf_some, rf_none, rf_null, rf_eq, rf_ref, ref_rf, ref_null, ref_ref, xOk_0, xOk_1, xOk_2r, xOk_2n, xOk_2f, vOpt_rf, vOpt_ref, vOpt_null, List.set_cons_zero, List.set_cons_succ, List.take_succ_cons, List.take_zero, List.drop_succ_cons, List.drop_zero, List.reverse_cons, List.reverse_nil, List.nil_append, List.cons_append, List.append_nil, List.length_cons, List.length_nil, List.map_cons, List.map_nil, List.sum_cons, List.sum_nil, Option.toList_some, Option.toList_none, xRecv_mk, true_and, and_true, true_implies, Nat.reduceAdd, Nat.reduceLeDiff, Nat.zero_le, Nat.le_refl, Nat.add_zero, Nat.zero_add, reduceIte, not_true_eq_false, not_false_eq_true, false_implies, and_self, implies_true, eq_self, Nat.reduceEqDiff, List.cons.injEq, xsn_1, xsn_2, false_and, and_false, or_false, false_or, or_true, true_or, xsn_3, xsn_4, k1, k2, q1, q2]
  try simp only [xif_e]
  exact h

def tbJx4a65c_get_915e3 : List (Nat × xHint) := [(0, .iload_n 1, 1, 0, 0, []), (1, .aload_n 0, 0, 0, 0, []), (2, .getfield 48, 0, 2, 0, []), (5, .invokestatic 118, 0, 2, 0, []), (8, .pop, 0, 0, 0, []), (9, .aload_n 0, 0, 0, 0, []), (10, .iload_n 1, 1, 0, 0, []), (11, .invokevirtual 123, 1, 2, 0, []), (14, .areturn, 0, 0, 0, [])]
def clJx4a65c_get_915e3 : List (Instr × Nat × Nat × Nat) := [(.invokestatic 118, 0, 2, 0), (.invokevirtual 123, 1, 2, 0)]
def thJx4a65c_get_915e3 : List (Nat × Nat) := []
theorem ckJx4a65c_get_915e3 : tbJx4a65c_get_915e3.all (xRow RJx4a65c cJx4a65c_get_915e3 wsJx4a65c_get_915e3 vwCl [0] clJx4a65c_get_915e3 thJx4a65c_get_915e3 2 (yJx4a65c_get_915e3.name == "<init>") (some (.object "java/lang/Object"))) = true := xRow_q 0xb07b00b61b2a577600b83000b42a1b 15 (by decide +kernel) (by decide +kernel)
theorem usJx4a65c_get_915e3 : xUse wsJx4a65c_get_915e3 vwCl [0] = true := xUse_g rfl (lw_good lwl_Jx4a65c_get_915e3 lwl_Jx4a65c0 (by decide +kernel)) xUse_n
theorem tbJx4a65c_get_915e3_0 {k : Instr → Nat → Nat → Nat → List Nat → Prop} : xse (xFind tbJx4a65c_get_915e3 0) k = k (.iload_n 1) 1 0 0 [] := rfl
theorem tbJx4a65c_get_915e3_1 {k : Instr → Nat → Nat → Nat → List Nat → Prop} : xse (xFind tbJx4a65c_get_915e3 1) k = k (.aload_n 0) 0 0 0 [] := rfl
theorem tbJx4a65c_get_915e3_2 {k : Instr → Nat → Nat → Nat → List Nat → Prop} : xse (xFind tbJx4a65c_get_915e3 2) k = k (.getfield 48) 0 2 0 [] := rfl
theorem tbJx4a65c_get_915e3_5 {k : Instr → Nat → Nat → Nat → List Nat → Prop} : xse (xFind tbJx4a65c_get_915e3 5) k = k (.invokestatic 118) 0 2 0 [] := rfl
theorem tbJx4a65c_get_915e3_8 {k : Instr → Nat → Nat → Nat → List Nat → Prop} : xse (xFind tbJx4a65c_get_915e3 8) k = k (.pop) 0 0 0 [] := rfl
theorem tbJx4a65c_get_915e3_9 {k : Instr → Nat → Nat → Nat → List Nat → Prop} : xse (xFind tbJx4a65c_get_915e3 9) k = k (.aload_n 0) 0 0 0 [] := rfl
theorem tbJx4a65c_get_915e3_10 {k : Instr → Nat → Nat → Nat → List Nat → Prop} : xse (xFind tbJx4a65c_get_915e3 10) k = k (.iload_n 1) 1 0 0 [] := rfl
theorem tbJx4a65c_get_915e3_11 {k : Instr → Nat → Nat → Nat → List Nat → Prop} : xse (xFind tbJx4a65c_get_915e3 11) k = k (.invokevirtual 123) 1 2 0 [] := rfl
theorem tbJx4a65c_get_915e3_14 {k : Instr → Nat → Nat → Nat → List Nat → Prop} : xse (xFind tbJx4a65c_get_915e3 14) k = k (.areturn) 0 0 0 [] := rfl

def spJx4a65c_get_915e3 (W9 : xWd) : xSp cS := (fun av S => (0, 0), fun av S K => ∃ (a : Nat) (i : Int32), av = [.ref a, .int i] ∧ (lOk S a ∧ (0 ≤ i ∧ i < cFi S a 2) ∧ K (rF (lNth S a i.toNatClampNeg)) S))
theorem spcJx4a65c_get_915e3 {av : List Value} {S : cS} {W9 : xWd} : (spJx4a65c_get_915e3 W9).1 av S = (0, 0) := rfl
theorem spwJx4a65c_get_915e3 {S : cS} {W9 : xWd} {K : xRes → cS → Prop} {a : Nat} {i : Int32} : (spJx4a65c_get_915e3 W9).2 [.ref a, .int i] S K = (lOk S a ∧ (0 ≤ i ∧ i < cFi S a 2) ∧ K (rF (lNth S a i.toNatClampNeg)) S) :=
  propext ⟨fun h => by
    simp only [spJx4a65c_get_915e3] at h
    obtain ⟨_, _, e, h⟩ := h
    simp only [List.cons.injEq, Value.int.injEq, Value.ref.injEq, rf_eq, and_true, true_and] at e
    obtain ⟨rfl, rfl⟩ := e
    exact h, fun h => ⟨_, _, rfl, h⟩⟩

def callJx4a65c_get_915e3 (W9 : xWd) : Nat → Option (xSp cS) := fun n => match n with | 0 => some (spJ15_checkIndex_7cf53 W9) | 1 => some (spJx4a65c_elementData_915e3 W9) | _ => none

theorem callJx4a65c_get_915e3_0 {W9 : xWd} {k : xSp cS → Prop} : xcs (callJx4a65c_get_915e3 W9 0) k = k (spJ15_checkIndex_7cf53 W9) := rfl

theorem callJx4a65c_get_915e3_1 {W9 : xWd} {k : xSp cS → Prop} : xcs (callJx4a65c_get_915e3 W9 1) k = k (spJx4a65c_elementData_915e3 W9) := rfl

theorem crJx4a65c_get_915e3 (l : Launch) (hl : l.stackTraces = false) (W9 : xWd) : xCallsOK l W9 (cI) (callJx4a65c_get_915e3 W9) clJx4a65c_get_915e3 RJx4a65c wsJx4a65c_get_915e3 2 43 2 := by
  intro E A p e R s m args below meth c hI hF hL X
  exact List.forall_mem_cons.mpr ⟨⟨_, rfl, xCR_S X (by rw [hI]; exact (semJ15_checkIndex_7cf53 l hl W9)) gJx4a65c_get_915e3_J15_checkIndex_7cf53 rfl (by decide +kernel) (by rw [hF, hL]; decide)⟩,
    List.forall_mem_cons.mpr ⟨⟨_, rfl, xCR_V X (by rw [hI]; exact (semJx4a65c_elementData_915e3 l hl W9)) gJx4a65c_get_915e3_Jx4a65c_elementData_915e3 rfl rfl (by decide +kernel) (by rw [hF, hL]; decide)⟩,
    fun _ h => nomatch h⟩⟩

set_option maxHeartbeats 4000000 in
set_option maxRecDepth 20000 in
theorem semJx4a65c_get_915e3 (l : Launch) (hl : l.stackTraces = false) (W9 : xWd) : xSem l W9 (cI) yJx4a65c_get_915e3 wsJx4a65c_get_915e3 2 43 (spJx4a65c_get_915e3 W9) := by
  refine xSem_of (call := callJx4a65c_get_915e3 W9) (thrf := fun _ => "") cI_law (by decide +kernel) rfl ckJx4a65c_get_915e3 usJx4a65c_get_915e3 (crJx4a65c_get_915e3 l hl W9) xThrOK_nil ?_ ?_
  · intro av S KF h
    obtain ⟨a, i, rfl, h⟩ := h
    exact ⟨by intro v hv; simp only [List.mem_cons, List.not_mem_nil, or_false] at hv; rcases hv with rfl | rfl <;> first | rfl | exact cat_rf, Nat.le_of_ble_eq_true rfl⟩
  intro av S KF h G hG
  obtain ⟨a, i, rfl, h⟩ := h
  rw [show (spJx4a65c_get_915e3 W9).1 _ S = _ from spcJx4a65c_get_915e3] at hG
  try dsimp only at hG
  change G 0 [some (.ref a), some (.int i)] [] S 0 0
  obtain ⟨h0, ⟨h1, h2⟩, h⟩ := h
  have k1 := h0.1
  refine xgo0 hG (fun fu hfu => ?_)
  clear hG
  simp only [↓callJx4a65c_get_915e3_0, ↓callJx4a65c_get_915e3_1, ↓cg_0_2, cisa, ↓vm_aload_n, ↓vm_areturn, ↓vm_getfield, ↓vm_iload_n, ↓vm_invokestatic, ↓vm_invokevirtual, ↓vm_pop, ↓xc_2, ↓tbJx4a65c_get_915e3_0, ↓tbJx4a65c_get_915e3_1, ↓tbJx4a65c_get_915e3_2, ↓tbJx4a65c_get_915e3_5, ↓tbJx4a65c_get_915e3_8, ↓tbJx4a65c_get_915e3_9, ↓tbJx4a65c_get_915e3_10, ↓tbJx4a65c_get_915e3_11, ↓tbJx4a65c_get_915e3_14, hfu, xstep0, xJ1_hit, xJ1_go, xJ2_hit1, xJ2_hit2, xJ2_go, ↓xif_t, ↓xif_f, seval, ↓xca_eq, ↓xre_l, ↓xre_r, xmask_t, xmask_f, xmask_nil, ↓xst_eq, xX_eq, eI_eq, eMc_eq, eMs_eq, eF_eq, eThr_eq, ↓xS1_mk, ↓xSI_mk, ↓xSR_mk, ↓xLI_0, ↓xLI_s, ↓xLR_0, ↓xLR_s, vRef_ref, vRef_null, vRef_rf, cat_int, cat_ref, cat_null, cat_rf, rf_some, rf_none, rf_null, rf_eq, rf_ref, ref_rf, ref_null, ref_ref, xOk_0, xOk_1, xOk_2r, xOk_2n, xOk_2f, vOpt_rf, vOpt_ref, vOpt_null, List.set_cons_zero, List.set_cons_succ, List.take_succ_cons, List.take_zero, List.drop_succ_cons, List.drop_zero, List.reverse_cons, List.reverse_nil, List.nil_append, List.cons_append, List.append_nil, List.length_cons, List.length_nil, List.map_cons, List.map_nil, List.sum_cons, List.sum_nil, Option.toList_some, Option.toList_none, xRecv_mk, true_and, and_true, true_implies, Nat.reduceAdd, Nat.reduceLeDiff, Nat.zero_le, Nat.le_refl, Nat.add_zero, Nat.zero_add, reduceIte, not_true_eq_false, not_false_eq_true, false_implies, and_self, implies_true, eq_self, Nat.reduceEqDiff, List.cons.injEq, xsn_1, xsn_2, false_and, and_false, or_false, false_or, or_true, true_or, xsn_3, xsn_4, k1, h0, h1, h2, ↓spwJ15_checkIndex_7cf53, spcJ15_checkIndex_7cf53, ↓spwJx4a65c_elementData_915e3, spcJx4a65c_elementData_915e3]
  try simp only [xif_e]
  exact h

def tbX0_bit : List (Nat × xHint) := [(0, .iconst 1, 0, 0, 0, []), (1, .aload_n 0, 0, 0, 0, []), (2, .getfield 15, 1, 0, 0, []), (5, .ishl, 0, 0, 0, []), (6, .ireturn, 0, 0, 0, [])]
def clX0_bit : List (Instr × Nat × Nat × Nat) := []
def thX0_bit : List (Nat × Nat) := []
theorem ckX0_bit : tbX0_bit.all (xRow RX0 cX0_bit wsX0_bit vwCl [1] clX0_bit thX0_bit 1 (yX0_bit.name == "<init>") (some .int)) = true := xRow_q 0xac780f00b42a04 7 (by decide +kernel) (by decide +kernel)
theorem usX0_bit : xUse wsX0_bit vwCl [1] = true := xUse_g rfl (lw_good lwl_X0_bit lwl_X00 (by decide +kernel)) xUse_n
theorem tbX0_bit_0 {k : Instr → Nat → Nat → Nat → List Nat → Prop} : xse (xFind tbX0_bit 0) k = k (.iconst 1) 0 0 0 [] := rfl
theorem tbX0_bit_1 {k : Instr → Nat → Nat → Nat → List Nat → Prop} : xse (xFind tbX0_bit 1) k = k (.aload_n 0) 0 0 0 [] := rfl
theorem tbX0_bit_2 {k : Instr → Nat → Nat → Nat → List Nat → Prop} : xse (xFind tbX0_bit 2) k = k (.getfield 15) 1 0 0 [] := rfl
theorem tbX0_bit_5 {k : Instr → Nat → Nat → Nat → List Nat → Prop} : xse (xFind tbX0_bit 5) k = k (.ishl) 0 0 0 [] := rfl
theorem tbX0_bit_6 {k : Instr → Nat → Nat → Nat → List Nat → Prop} : xse (xFind tbX0_bit 6) k = k (.ireturn) 0 0 0 [] := rfl

def spX0_bit (W9 : xWd) : xSp cS := (fun av S => (0, 0), fun av S K => ∃ (a : Nat), av = [.ref a] ∧ (cK S a = 2 ∧ K (rI (1 <<< (cFi S a 100 &&& 31))) S))
theorem spcX0_bit {av : List Value} {S : cS} {W9 : xWd} : (spX0_bit W9).1 av S = (0, 0) := rfl
theorem spwX0_bit {S : cS} {W9 : xWd} {K : xRes → cS → Prop} {a : Nat} : (spX0_bit W9).2 [.ref a] S K = (cK S a = 2 ∧ K (rI (1 <<< (cFi S a 100 &&& 31))) S) :=
  propext ⟨fun h => by
    simp only [spX0_bit] at h
    obtain ⟨_, e, h⟩ := h
    simp only [List.cons.injEq, Value.int.injEq, Value.ref.injEq, rf_eq, and_true, true_and] at e
    obtain rfl := e
    exact h, fun h => ⟨_, rfl, h⟩⟩

set_option maxHeartbeats 4000000 in
set_option maxRecDepth 20000 in
theorem semX0_bit (l : Launch) (hl : l.stackTraces = false) (W9 : xWd) : xSem l W9 (cI) yX0_bit wsX0_bit 0 0 (spX0_bit W9) := by
  refine xSem_of (call := fun _ => none) (thrf := fun _ => "") cI_law (by decide +kernel) rfl ckX0_bit usX0_bit xCallsOK_nil xThrOK_nil ?_ ?_
  · intro av S KF h
    obtain ⟨a, rfl, h⟩ := h
    exact ⟨by intro v hv; simp only [List.mem_cons, List.not_mem_nil, or_false] at hv; rcases hv with rfl <;> first | rfl | exact cat_rf, Nat.le_of_ble_eq_true rfl⟩
  intro av S KF h G hG
  obtain ⟨a, rfl, h⟩ := h
  rw [show (spX0_bit W9).1 _ S = _ from spcX0_bit] at hG
  try dsimp only at hG
  change G 0 [some (.ref a)] [] S 0 0
  obtain ⟨h0, h⟩ := h
  refine xgo0 hG (fun fu hfu => ?_)
  clear hG
  simp only [↓cg_1_0, ki_1, ↓vm_aload_n, ↓vm_getfield, ↓vm_iconst, ↓vm_ireturn, ↓vm_ishl, ↓tbX0_bit_0, ↓tbX0_bit_1, ↓tbX0_bit_2, ↓tbX0_bit_5, ↓tbX0_bit_6, hfu, xstep0, xJ1_hit, xJ1_go, xJ2_hit1, xJ2_hit2, xJ2_go, ↓xif_t, ↓xif_f, seval, ↓xca_eq, ↓xre_l, ↓xre_r, xmask_t, xmask_f, xmask_nil, ↓xst_eq, xX_eq, eI_eq, eMc_eq, eMs_eq, eF_eq, eThr_eq, ↓xS1_mk, ↓xSI_mk, ↓xSR_mk, ↓xLI_0, ↓xLI_s, ↓xLR_0, ↓xLR_s, vRef_ref, vRef_null, vRef_rf, cat_int, cat_ref, cat_null, cat_rf, rf_some, rf_none, rf_null, rf_eq, rf_ref, ref_rf, ref_null, ref_ref, xOk_0, xOk_1, xOk_2r, xOk_2n, xOk_2f, vOpt_rf, vOpt_ref, vOpt_null, List.set_cons_zero, List.set_cons_succ, List.take_succ_cons, List.take_zero, List.drop_succ_cons, List.drop_zero, List.reverse_cons, List.reverse_nil, List.nil_append, List.cons_append, List.append_nil, List.length_cons, List.length_nil, List.map_cons, List.map_nil, List.sum_cons, List.sum_nil, Option.toList_some, Option.toList_none, xRecv_mk, true_and, and_true, true_implies, Nat.reduceAdd, Nat.reduceLeDiff, Nat.zero_le, Nat.le_refl, Nat.add_zero, Nat.zero_add, reduceIte, not_true_eq_false, not_false_eq_true, false_implies, and_self, implies_true, eq_self, Nat.reduceEqDiff, List.cons.injEq, xsn_1, xsn_2, false_and, and_false, or_false, false_or, or_true, true_or, xsn_3, xsn_4, h0]
  try simp only [xif_e]
  exact h

def tbX4_isTow : List (Nat × xHint) := [(0, .aload_n 0, 0, 0, 0, []), (1, .getfield 22, 5, 0, 0, []), (4, .iconst (-1), 0, 0, 0, []), (5, .if_icmp .eq 7, 12, 0, 0, []), (8, .iconst 1, 0, 0, 0, []), (9, .goto 4, 13, 0, 0, []), (12, .iconst 0, 0, 0, 0, []), (13, .ireturn, 1, 0, 0, [])]
def clX4_isTow : List (Instr × Nat × Nat × Nat) := []
def thX4_isTow : List (Nat × Nat) := []
theorem ckX4_isTow : tbX4_isTow.all (xRow RX4 cX4_isTow wsX4_isTow vwCl [5] clX4_isTow thX4_isTow 1 (yX4_isTow.name == "<init>") (some .boolean)) = true := xRow_q 0xac030400a70407009f021600b42a 14 (by decide +kernel) (by decide +kernel)
theorem usX4_isTow : xUse wsX4_isTow vwCl [5] = true := xUse_g rfl (lw_good lwl_X4_isTow lwl_X40 (by decide +kernel)) xUse_n
theorem tbX4_isTow_0 {k : Instr → Nat → Nat → Nat → List Nat → Prop} : xse (xFind tbX4_isTow 0) k = k (.aload_n 0) 0 0 0 [] := rfl
theorem tbX4_isTow_1 {k : Instr → Nat → Nat → Nat → List Nat → Prop} : xse (xFind tbX4_isTow 1) k = k (.getfield 22) 5 0 0 [] := rfl
theorem tbX4_isTow_4 {k : Instr → Nat → Nat → Nat → List Nat → Prop} : xse (xFind tbX4_isTow 4) k = k (.iconst (-1)) 0 0 0 [] := rfl
theorem tbX4_isTow_5 {k : Instr → Nat → Nat → Nat → List Nat → Prop} : xse (xFind tbX4_isTow 5) k = k (.if_icmp .eq 7) 12 0 0 [] := rfl
theorem tbX4_isTow_8 {k : Instr → Nat → Nat → Nat → List Nat → Prop} : xse (xFind tbX4_isTow 8) k = k (.iconst 1) 0 0 0 [] := rfl
theorem tbX4_isTow_9 {k : Instr → Nat → Nat → Nat → List Nat → Prop} : xse (xFind tbX4_isTow 9) k = k (.goto 4) 13 0 0 [] := rfl
theorem tbX4_isTow_12 {k : Instr → Nat → Nat → Nat → List Nat → Prop} : xse (xFind tbX4_isTow 12) k = k (.iconst 0) 0 0 0 [] := rfl
theorem tbX4_isTow_13 {k : Instr → Nat → Nat → Nat → List Nat → Prop} : xse (xFind tbX4_isTow 13) k = k (.ireturn) 1 0 0 [] := rfl

def spX4_isTow (W9 : xWd) : xSp cS := (fun av S => (0, 0), fun av S K => ∃ (a : Nat), av = [.ref a] ∧ (cK S a = 6 ∧ K (rI (bi (cFi S a 500 ≠ -1))) S))
theorem spcX4_isTow {av : List Value} {S : cS} {W9 : xWd} : (spX4_isTow W9).1 av S = (0, 0) := rfl
theorem spwX4_isTow {S : cS} {W9 : xWd} {K : xRes → cS → Prop} {a : Nat} : (spX4_isTow W9).2 [.ref a] S K = (cK S a = 6 ∧ K (rI (bi (cFi S a 500 ≠ -1))) S) :=
  propext ⟨fun h => by
    simp only [spX4_isTow] at h
    obtain ⟨_, e, h⟩ := h
    simp only [List.cons.injEq, Value.int.injEq, Value.ref.injEq, rf_eq, and_true, true_and] at e
    obtain rfl := e
    exact h, fun h => ⟨_, rfl, h⟩⟩

set_option maxHeartbeats 4000000 in
set_option maxRecDepth 20000 in
theorem semX4_isTow (l : Launch) (hl : l.stackTraces = false) (W9 : xWd) : xSem l W9 (cI) yX4_isTow wsX4_isTow 0 0 (spX4_isTow W9) := by
  refine xSem_of (call := fun _ => none) (thrf := fun _ => "") cI_law (by decide +kernel) rfl ckX4_isTow usX4_isTow xCallsOK_nil xThrOK_nil ?_ ?_
  · intro av S KF h
    obtain ⟨a, rfl, h⟩ := h
    exact ⟨by intro v hv; simp only [List.mem_cons, List.not_mem_nil, or_false] at hv; rcases hv with rfl <;> first | rfl | exact cat_rf, Nat.le_of_ble_eq_true rfl⟩
  intro av S KF h G hG
  obtain ⟨a, rfl, h⟩ := h
  rw [show (spX4_isTow W9).1 _ S = _ from spcX4_isTow] at hG
  try dsimp only at hG
  change G 0 [some (.ref a)] [] S 0 0
  obtain ⟨h0, h⟩ := h
  refine xgo0 hG (fun fu hfu => ?_)
  clear hG
  simp only [↓cg_5_0, ki_0, ki_1, ki_m1, ↓vm_aload_n, ↓vm_getfield, ↓vm_goto, ↓vm_iconst, ↓vm_if_icmp_eq, ↓vm_ireturn, ↓tbX4_isTow_0, ↓tbX4_isTow_1, ↓tbX4_isTow_4, ↓tbX4_isTow_5, ↓tbX4_isTow_8, ↓tbX4_isTow_9, ↓tbX4_isTow_12, ↓tbX4_isTow_13, hfu, xstep0, xJ1_hit, xJ1_go, xJ2_hit1, xJ2_hit2, xJ2_go, ↓xif_t, ↓xif_f, seval, ↓xca_eq, ↓xre_l, ↓xre_r, xmask_t, xmask_f, xmask_nil, ↓xst_eq, xX_eq, eI_eq, eMc_eq, eMs_eq, eF_eq, eThr_eq, ↓xS1_mk, ↓xSI_mk, ↓xSR_mk, ↓xLI_0, ↓xLI_s, ↓xLR_0, ↓xLR_s, vRef_ref, vRef_null, vRef_rf, cat_int, cat_ref, cat_null, cat_rf, rf_some, rf_none, rf_null, rf_eq, rf_ref, ref_rf, ref_null, ref_ref, xOk_0, xOk_1, xOk_2r, xOk_2n, xOk_2f, vOpt_rf, vOpt_ref, vOpt_null, List.set_cons_zero, List.set_cons_succ, List.take_succ_cons, List.take_zero, List.drop_succ_cons, List.drop_zero, List.reverse_cons, List.reverse_nil, List.nil_append, List.cons_append, List.append_nil, List.length_cons, List.length_nil, List.map_cons, List.map_nil, List.sum_cons, List.sum_nil, Option.toList_some, Option.toList_none, xRecv_mk, true_and, and_true, true_implies, Nat.reduceAdd, Nat.reduceLeDiff, Nat.zero_le, Nat.le_refl, Nat.add_zero, Nat.zero_add, reduceIte, not_true_eq_false, not_false_eq_true, false_implies, and_self, implies_true, eq_self, Nat.reduceEqDiff, List.cons.injEq, xsn_1, xsn_2, false_and, and_false, or_false, false_or, or_true, true_or, xsn_3, xsn_4, h0]
  try simp only [xif_e]
  grind [bi]

def cIn (S : cS) (a g c : Nat) : Prop := cFr S a g = some (cRf S a g) ∧ cK S (cRf S a g) = c

def tbX0_isTiedAt : List (Nat × xHint) := [(0, .aload_n 0, 0, 0, 0, []), (1, .getfield 21, 1, 2, 2, []), (4, .invokevirtual 25, 0, 1, 5, []), (7, .ifCond .ne 18, 25, 0, 0, []), (10, .aload_n 0, 0, 0, 0, []), (11, .getfield 21, 1, 2, 2, []), (14, .getfield 31, 5, 1, 0, []), (17, .iload_n 1, 1, 0, 0, []), (18, .if_icmp .ne 7, 25, 0, 0, []), (21, .iconst 1, 0, 0, 0, []), (22, .goto 4, 26, 0, 0, []), (25, .iconst 0, 0, 0, 0, []), (26, .ireturn, 1, 0, 0, [])]
def clX0_isTiedAt : List (Instr × Nat × Nat × Nat) := [(.invokevirtual 25, 0, 1, 5)]
def thX0_isTiedAt : List (Nat × Nat) := []
theorem ckX0_isTiedAt : tbX0_isTiedAt.all (xRow RX0 cX0_isTiedAt wsX0_isTiedAt vwCl [1, 5] clX0_isTiedAt thX0_isTiedAt 2 (yX0_isTiedAt.name == "<init>") (some .boolean)) = true := xRow_q 0xac030400a7040700a01b1f00b41500b42a12009a1900b61500b42a 27 (by decide +kernel) (by decide +kernel)
theorem usX0_isTiedAt : xUse wsX0_isTiedAt vwCl [1, 5] = true := xUse_g rfl (lw_good lwl_X0_isTiedAt lwl_X00 (by decide +kernel)) (xUse_g rfl (lw_good lwl_X0_isTiedAt lwl_X40 (by decide +kernel)) xUse_n)
theorem tbX0_isTiedAt_0 {k : Instr → Nat → Nat → Nat → List Nat → Prop} : xse (xFind tbX0_isTiedAt 0) k = k (.aload_n 0) 0 0 0 [] := rfl
theorem tbX0_isTiedAt_1 {k : Instr → Nat → Nat → Nat → List Nat → Prop} : xse (xFind tbX0_isTiedAt 1) k = k (.getfield 21) 1 2 2 [] := rfl
theorem tbX0_isTiedAt_4 {k : Instr → Nat → Nat → Nat → List Nat → Prop} : xse (xFind tbX0_isTiedAt 4) k = k (.invokevirtual 25) 0 1 5 [] := rfl
theorem tbX0_isTiedAt_7 {k : Instr → Nat → Nat → Nat → List Nat → Prop} : xse (xFind tbX0_isTiedAt 7) k = k (.ifCond .ne 18) 25 0 0 [] := rfl
theorem tbX0_isTiedAt_10 {k : Instr → Nat → Nat → Nat → List Nat → Prop} : xse (xFind tbX0_isTiedAt 10) k = k (.aload_n 0) 0 0 0 [] := rfl
theorem tbX0_isTiedAt_11 {k : Instr → Nat → Nat → Nat → List Nat → Prop} : xse (xFind tbX0_isTiedAt 11) k = k (.getfield 21) 1 2 2 [] := rfl
theorem tbX0_isTiedAt_14 {k : Instr → Nat → Nat → Nat → List Nat → Prop} : xse (xFind tbX0_isTiedAt 14) k = k (.getfield 31) 5 1 0 [] := rfl
theorem tbX0_isTiedAt_17 {k : Instr → Nat → Nat → Nat → List Nat → Prop} : xse (xFind tbX0_isTiedAt 17) k = k (.iload_n 1) 1 0 0 [] := rfl
theorem tbX0_isTiedAt_18 {k : Instr → Nat → Nat → Nat → List Nat → Prop} : xse (xFind tbX0_isTiedAt 18) k = k (.if_icmp .ne 7) 25 0 0 [] := rfl
theorem tbX0_isTiedAt_21 {k : Instr → Nat → Nat → Nat → List Nat → Prop} : xse (xFind tbX0_isTiedAt 21) k = k (.iconst 1) 0 0 0 [] := rfl
theorem tbX0_isTiedAt_22 {k : Instr → Nat → Nat → Nat → List Nat → Prop} : xse (xFind tbX0_isTiedAt 22) k = k (.goto 4) 26 0 0 [] := rfl
theorem tbX0_isTiedAt_25 {k : Instr → Nat → Nat → Nat → List Nat → Prop} : xse (xFind tbX0_isTiedAt 25) k = k (.iconst 0) 0 0 0 [] := rfl
theorem tbX0_isTiedAt_26 {k : Instr → Nat → Nat → Nat → List Nat → Prop} : xse (xFind tbX0_isTiedAt 26) k = k (.ireturn) 1 0 0 [] := rfl

def spX0_isTiedAt (W9 : xWd) : xSp cS := (fun av S => (0, 0), fun av S K => ∃ (a : Nat) (p : Int32), av = [.ref a, .int p] ∧ (cK S a = 2 ∧ cIn S a 102 6 ∧ K (rI (bi (cFi S (cRf S a 102) 500 = -1 ∧ cFi S (cRf S a 102) 501 = p))) S))
theorem spcX0_isTiedAt {av : List Value} {S : cS} {W9 : xWd} : (spX0_isTiedAt W9).1 av S = (0, 0) := rfl
theorem spwX0_isTiedAt {S : cS} {W9 : xWd} {K : xRes → cS → Prop} {a : Nat} {p : Int32} : (spX0_isTiedAt W9).2 [.ref a, .int p] S K = (cK S a = 2 ∧ cIn S a 102 6 ∧ K (rI (bi (cFi S (cRf S a 102) 500 = -1 ∧ cFi S (cRf S a 102) 501 = p))) S) :=
  propext ⟨fun h => by
    simp only [spX0_isTiedAt] at h
    obtain ⟨_, _, e, h⟩ := h
    simp only [List.cons.injEq, Value.int.injEq, Value.ref.injEq, rf_eq, and_true, true_and] at e
    obtain ⟨rfl, rfl⟩ := e
    exact h, fun h => ⟨_, _, rfl, h⟩⟩

def callX0_isTiedAt (W9 : xWd) : Nat → Option (xSp cS) := fun n => match n with | 0 => some (spX4_isTow W9) | _ => none

theorem callX0_isTiedAt_0 {W9 : xWd} {k : xSp cS → Prop} : xcs (callX0_isTiedAt W9 0) k = k (spX4_isTow W9) := rfl

theorem crX0_isTiedAt (l : Launch) (hl : l.stackTraces = false) (W9 : xWd) : xCallsOK l W9 (cI) (callX0_isTiedAt W9) clX0_isTiedAt RX0 wsX0_isTiedAt 1 20 2 := by
  intro E A p e R s m args below meth c hI hF hL X
  exact List.forall_mem_cons.mpr ⟨⟨_, rfl, xCR_V X (by rw [hI]; exact (semX4_isTow l hl W9)) gX0_isTiedAt_X4_isTow rfl rfl (by decide +kernel) (by rw [hF, hL]; decide)⟩,
    fun _ h => nomatch h⟩

set_option maxHeartbeats 4000000 in
set_option maxRecDepth 20000 in
theorem semX0_isTiedAt (l : Launch) (hl : l.stackTraces = false) (W9 : xWd) : xSem l W9 (cI) yX0_isTiedAt wsX0_isTiedAt 1 20 (spX0_isTiedAt W9) := by
  refine xSem_of (call := callX0_isTiedAt W9) (thrf := fun _ => "") cI_law (by decide +kernel) rfl ckX0_isTiedAt usX0_isTiedAt (crX0_isTiedAt l hl W9) xThrOK_nil ?_ ?_
  · intro av S KF h
    obtain ⟨a, p, rfl, h⟩ := h
    exact ⟨by intro v hv; simp only [List.mem_cons, List.not_mem_nil, or_false] at hv; rcases hv with rfl | rfl <;> first | rfl | exact cat_rf, Nat.le_of_ble_eq_true rfl⟩
  intro av S KF h G hG
  obtain ⟨a, p, rfl, h⟩ := h
  rw [show (spX0_isTiedAt W9).1 _ S = _ from spcX0_isTiedAt] at hG
  try dsimp only at hG
  change G 0 [some (.ref a), some (.int p)] [] S 0 0
  obtain ⟨h0, ⟨h1, h2⟩, h⟩ := h
  refine xgo0 hG (fun fu hfu => ?_)
  clear hG
  simp only [↓callX0_isTiedAt_0, ↓cg_1_2, ↓cg_5_1, cisa, ki_0, ki_1, ↓vm_aload_n, ↓vm_getfield, ↓vm_goto, ↓vm_iconst, ↓vm_ifCond_ne, ↓vm_if_icmp_ne, ↓vm_iload_n, ↓vm_invokevirtual, ↓vm_ireturn, ↓xc_1, ↓tbX0_isTiedAt_0, ↓tbX0_isTiedAt_1, ↓tbX0_isTiedAt_4, ↓tbX0_isTiedAt_7, ↓tbX0_isTiedAt_10, ↓tbX0_isTiedAt_11, ↓tbX0_isTiedAt_14, ↓tbX0_isTiedAt_17, ↓tbX0_isTiedAt_18, ↓tbX0_isTiedAt_21, ↓tbX0_isTiedAt_22, ↓tbX0_isTiedAt_25, ↓tbX0_isTiedAt_26, hfu, xstep0, xJ1_hit, xJ1_go, xJ2_hit1, xJ2_hit2, xJ2_go, ↓xif_t, ↓xif_f, seval, ↓xca_eq, ↓xre_l, ↓xre_r, xmask_t, xmask_f, xmask_nil, ↓xst_eq, xX_eq, eI_eq, eMc_eq, eMs_eq, eF_eq, eThr_eq, ↓xS1_mk, ↓xSI_mk, ↓xSR_mk, ↓xLI_0, ↓xLI_s, ↓xLR_0, ↓xLR_s, vRef_ref, vRef_null, vRef_rf, cat_int, cat_ref, cat_null, cat_rf, rf_some, rf_none, rf_null, rf_eq, rf_ref, ref_rf, ref_null, ref_ref, xOk_0, xOk_1, xOk_2r, xOk_2n, xOk_2f, vOpt_rf, vOpt_ref, vOpt_null, List.set_cons_zero, List.set_cons_succ, List.take_succ_cons, List.take_zero, List.drop_succ_cons, List.drop_zero, List.reverse_cons, List.reverse_nil, List.nil_append, List.cons_append, List.append_nil, List.length_cons, List.length_nil, List.map_cons, List.map_nil, List.sum_cons, List.sum_nil, Option.toList_some, Option.toList_none, xRecv_mk, true_and, and_true, true_implies, Nat.reduceAdd, Nat.reduceLeDiff, Nat.zero_le, Nat.le_refl, Nat.add_zero, Nat.zero_add, reduceIte, not_true_eq_false, not_false_eq_true, false_implies, and_self, implies_true, eq_self, Nat.reduceEqDiff, List.cons.injEq, xsn_1, xsn_2, false_and, and_false, or_false, false_or, or_true, true_or, xsn_3, xsn_4, h0, h1, h2, ↓spwX4_isTow, spcX4_isTow]
  try simp only [xif_e]
  grind [bi]

def tbX4_size : List (Nat × xHint) := [(0, .aload_n 0, 0, 0, 0, []), (1, .getfield 18, 5, 5, 2, []), (4, .invokevirtual 34, 0, 1, 0, []), (7, .ireturn, 0, 0, 0, [])]
def clX4_size : List (Instr × Nat × Nat × Nat) := [(.invokevirtual 34, 0, 1, 0)]
def thX4_size : List (Nat × Nat) := []
theorem ckX4_size : tbX4_size.all (xRow RX4 cX4_size wsX4_size vwCl [5] clX4_size thX4_size 1 (yX4_size.name == "<init>") (some .int)) = true := xRow_q 0xac2200b61200b42a 8 (by decide +kernel) (by decide +kernel)
theorem usX4_size : xUse wsX4_size vwCl [5] = true := xUse_g rfl (lw_good lwl_X4_size lwl_X40 (by decide +kernel)) xUse_n
theorem tbX4_size_0 {k : Instr → Nat → Nat → Nat → List Nat → Prop} : xse (xFind tbX4_size 0) k = k (.aload_n 0) 0 0 0 [] := rfl
theorem tbX4_size_1 {k : Instr → Nat → Nat → Nat → List Nat → Prop} : xse (xFind tbX4_size 1) k = k (.getfield 18) 5 5 2 [] := rfl
theorem tbX4_size_4 {k : Instr → Nat → Nat → Nat → List Nat → Prop} : xse (xFind tbX4_size 4) k = k (.invokevirtual 34) 0 1 0 [] := rfl
theorem tbX4_size_7 {k : Instr → Nat → Nat → Nat → List Nat → Prop} : xse (xFind tbX4_size 7) k = k (.ireturn) 0 0 0 [] := rfl

def spX4_size (W9 : xWd) : xSp cS := (fun av S => (0, 0), fun av S K => ∃ (a : Nat), av = [.ref a] ∧ (cK S a = 6 ∧ cIn S a 505 1 ∧ K (rI (cFi S (cRf S a 505) 2)) S))
theorem spcX4_size {av : List Value} {S : cS} {W9 : xWd} : (spX4_size W9).1 av S = (0, 0) := rfl
theorem spwX4_size {S : cS} {W9 : xWd} {K : xRes → cS → Prop} {a : Nat} : (spX4_size W9).2 [.ref a] S K = (cK S a = 6 ∧ cIn S a 505 1 ∧ K (rI (cFi S (cRf S a 505) 2)) S) :=
  propext ⟨fun h => by
    simp only [spX4_size] at h
    obtain ⟨_, e, h⟩ := h
    simp only [List.cons.injEq, Value.int.injEq, Value.ref.injEq, rf_eq, and_true, true_and] at e
    obtain rfl := e
    exact h, fun h => ⟨_, rfl, h⟩⟩

def callX4_size (W9 : xWd) : Nat → Option (xSp cS) := fun n => match n with | 0 => some (spJx4a65c_size_8abf5 W9) | _ => none

theorem callX4_size_0 {W9 : xWd} {k : xSp cS → Prop} : xcs (callX4_size W9 0) k = k (spJx4a65c_size_8abf5 W9) := rfl

theorem crX4_size (l : Launch) (hl : l.stackTraces = false) (W9 : xWd) : xCallsOK l W9 (cI) (callX4_size W9) clX4_size RX4 wsX4_size 1 20 1 := by
  intro E A p e R s m args below meth c hI hF hL X
  exact List.forall_mem_cons.mpr ⟨⟨_, rfl, xCR_V X (by rw [hI]; exact (semJx4a65c_size_8abf5 l hl W9)) gX4_size_Jx4a65c_size_8abf5 rfl rfl (by decide +kernel) (by rw [hF, hL]; decide)⟩,
    fun _ h => nomatch h⟩

set_option maxHeartbeats 4000000 in
set_option maxRecDepth 20000 in
theorem semX4_size (l : Launch) (hl : l.stackTraces = false) (W9 : xWd) : xSem l W9 (cI) yX4_size wsX4_size 1 20 (spX4_size W9) := by
  refine xSem_of (call := callX4_size W9) (thrf := fun _ => "") cI_law (by decide +kernel) rfl ckX4_size usX4_size (crX4_size l hl W9) xThrOK_nil ?_ ?_
  · intro av S KF h
    obtain ⟨a, rfl, h⟩ := h
    exact ⟨by intro v hv; simp only [List.mem_cons, List.not_mem_nil, or_false] at hv; rcases hv with rfl <;> first | rfl | exact cat_rf, Nat.le_of_ble_eq_true rfl⟩
  intro av S KF h G hG
  obtain ⟨a, rfl, h⟩ := h
  rw [show (spX4_size W9).1 _ S = _ from spcX4_size] at hG
  try dsimp only at hG
  change G 0 [some (.ref a)] [] S 0 0
  obtain ⟨h0, ⟨h1, h2⟩, h⟩ := h
  refine xgo0 hG (fun fu hfu => ?_)
  clear hG
  simp only [↓callX4_size_0, ↓cg_5_5, cisa, ↓vm_aload_n, ↓vm_getfield, ↓vm_invokevirtual, ↓vm_ireturn, ↓xc_1, ↓tbX4_size_0, ↓tbX4_size_1, ↓tbX4_size_4, ↓tbX4_size_7, hfu, xstep0, xJ1_hit, xJ1_go, xJ2_hit1, xJ2_hit2, xJ2_go, ↓xif_t, ↓xif_f, seval, ↓xca_eq, ↓xre_l, ↓xre_r, xmask_t, xmask_f, xmask_nil, ↓xst_eq, xX_eq, eI_eq, eMc_eq, eMs_eq, eF_eq, eThr_eq, ↓xS1_mk, ↓xSI_mk, ↓xSR_mk, ↓xLI_0, ↓xLI_s, ↓xLR_0, ↓xLR_s, vRef_ref, vRef_null, vRef_rf, cat_int, cat_ref, cat_null, cat_rf, rf_some, rf_none, rf_null, rf_eq, rf_ref, ref_rf, ref_null, ref_ref, xOk_0, xOk_1, xOk_2r, xOk_2n, xOk_2f, vOpt_rf, vOpt_ref, vOpt_null, List.set_cons_zero, List.set_cons_succ, List.take_succ_cons, List.take_zero, List.drop_succ_cons, List.drop_zero, List.reverse_cons, List.reverse_nil, List.nil_append, List.cons_append, List.append_nil, List.length_cons, List.length_nil, List.map_cons, List.map_nil, List.sum_cons, List.sum_nil, Option.toList_some, Option.toList_none, xRecv_mk, true_and, and_true, true_implies, Nat.reduceAdd, Nat.reduceLeDiff, Nat.zero_le, Nat.le_refl, Nat.add_zero, Nat.zero_add, reduceIte, not_true_eq_false, not_false_eq_true, false_implies, and_self, implies_true, eq_self, Nat.reduceEqDiff, List.cons.injEq, xsn_1, xsn_2, false_and, and_false, or_false, false_or, or_true, true_or, xsn_3, xsn_4, h0, h1, h2, ↓spwJx4a65c_size_8abf5, spcJx4a65c_size_8abf5]
  try simp only [xif_e]
  exact h

def tbX4_hasRoom : List (Nat × xHint) := [(0, .aload_n 0, 0, 0, 0, []), (1, .getfield 18, 5, 5, 2, []), (4, .invokevirtual 34, 0, 1, 0, []), (7, .aload_n 0, 0, 0, 0, []), (8, .getfield 31, 5, 3, 0, []), (11, .if_icmp .ge 7, 18, 0, 0, []), (14, .iconst 1, 0, 0, 0, []), (15, .goto 4, 19, 0, 0, []), (18, .iconst 0, 0, 0, 0, []), (19, .ireturn, 1, 0, 0, [])]
def clX4_hasRoom : List (Instr × Nat × Nat × Nat) := [(.invokevirtual 34, 0, 1, 0)]
def thX4_hasRoom : List (Nat × Nat) := []
theorem ckX4_hasRoom : tbX4_hasRoom.all (xRow RX4 cX4_hasRoom wsX4_hasRoom vwCl [5] clX4_hasRoom thX4_hasRoom 1 (yX4_hasRoom.name == "<init>") (some .boolean)) = true := xRow_q 0xac030400a7040700a21f00b42a2200b61200b42a 20 (by decide +kernel) (by decide +kernel)
theorem usX4_hasRoom : xUse wsX4_hasRoom vwCl [5] = true := xUse_g rfl (lw_good lwl_X4_hasRoom lwl_X40 (by decide +kernel)) xUse_n
theorem tbX4_hasRoom_0 {k : Instr → Nat → Nat → Nat → List Nat → Prop} : xse (xFind tbX4_hasRoom 0) k = k (.aload_n 0) 0 0 0 [] := rfl
theorem tbX4_hasRoom_1 {k : Instr → Nat → Nat → Nat → List Nat → Prop} : xse (xFind tbX4_hasRoom 1) k = k (.getfield 18) 5 5 2 [] := rfl
theorem tbX4_hasRoom_4 {k : Instr → Nat → Nat → Nat → List Nat → Prop} : xse (xFind tbX4_hasRoom 4) k = k (.invokevirtual 34) 0 1 0 [] := rfl
theorem tbX4_hasRoom_7 {k : Instr → Nat → Nat → Nat → List Nat → Prop} : xse (xFind tbX4_hasRoom 7) k = k (.aload_n 0) 0 0 0 [] := rfl
theorem tbX4_hasRoom_8 {k : Instr → Nat → Nat → Nat → List Nat → Prop} : xse (xFind tbX4_hasRoom 8) k = k (.getfield 31) 5 3 0 [] := rfl
theorem tbX4_hasRoom_11 {k : Instr → Nat → Nat → Nat → List Nat → Prop} : xse (xFind tbX4_hasRoom 11) k = k (.if_icmp .ge 7) 18 0 0 [] := rfl
theorem tbX4_hasRoom_14 {k : Instr → Nat → Nat → Nat → List Nat → Prop} : xse (xFind tbX4_hasRoom 14) k = k (.iconst 1) 0 0 0 [] := rfl
theorem tbX4_hasRoom_15 {k : Instr → Nat → Nat → Nat → List Nat → Prop} : xse (xFind tbX4_hasRoom 15) k = k (.goto 4) 19 0 0 [] := rfl
theorem tbX4_hasRoom_18 {k : Instr → Nat → Nat → Nat → List Nat → Prop} : xse (xFind tbX4_hasRoom 18) k = k (.iconst 0) 0 0 0 [] := rfl
theorem tbX4_hasRoom_19 {k : Instr → Nat → Nat → Nat → List Nat → Prop} : xse (xFind tbX4_hasRoom 19) k = k (.ireturn) 1 0 0 [] := rfl

def spX4_hasRoom (W9 : xWd) : xSp cS := (fun av S => (0, 0), fun av S K => ∃ (a : Nat), av = [.ref a] ∧ (cK S a = 6 ∧ cIn S a 505 1 ∧ K (rI (bi (cFi S (cRf S a 505) 2 < cFi S a 503))) S))
theorem spcX4_hasRoom {av : List Value} {S : cS} {W9 : xWd} : (spX4_hasRoom W9).1 av S = (0, 0) := rfl
theorem spwX4_hasRoom {S : cS} {W9 : xWd} {K : xRes → cS → Prop} {a : Nat} : (spX4_hasRoom W9).2 [.ref a] S K = (cK S a = 6 ∧ cIn S a 505 1 ∧ K (rI (bi (cFi S (cRf S a 505) 2 < cFi S a 503))) S) :=
  propext ⟨fun h => by
    simp only [spX4_hasRoom] at h
    obtain ⟨_, e, h⟩ := h
    simp only [List.cons.injEq, Value.int.injEq, Value.ref.injEq, rf_eq, and_true, true_and] at e
    obtain rfl := e
    exact h, fun h => ⟨_, rfl, h⟩⟩

def callX4_hasRoom (W9 : xWd) : Nat → Option (xSp cS) := fun n => match n with | 0 => some (spJx4a65c_size_8abf5 W9) | _ => none

theorem callX4_hasRoom_0 {W9 : xWd} {k : xSp cS → Prop} : xcs (callX4_hasRoom W9 0) k = k (spJx4a65c_size_8abf5 W9) := rfl

theorem crX4_hasRoom (l : Launch) (hl : l.stackTraces = false) (W9 : xWd) : xCallsOK l W9 (cI) (callX4_hasRoom W9) clX4_hasRoom RX4 wsX4_hasRoom 1 20 1 := by
  intro E A p e R s m args below meth c hI hF hL X
  exact List.forall_mem_cons.mpr ⟨⟨_, rfl, xCR_V X (by rw [hI]; exact (semJx4a65c_size_8abf5 l hl W9)) gX4_hasRoom_Jx4a65c_size_8abf5 rfl rfl (by decide +kernel) (by rw [hF, hL]; decide)⟩,
    fun _ h => nomatch h⟩

set_option maxHeartbeats 4000000 in
set_option maxRecDepth 20000 in
theorem semX4_hasRoom (l : Launch) (hl : l.stackTraces = false) (W9 : xWd) : xSem l W9 (cI) yX4_hasRoom wsX4_hasRoom 1 20 (spX4_hasRoom W9) := by
  refine xSem_of (call := callX4_hasRoom W9) (thrf := fun _ => "") cI_law (by decide +kernel) rfl ckX4_hasRoom usX4_hasRoom (crX4_hasRoom l hl W9) xThrOK_nil ?_ ?_
  · intro av S KF h
    obtain ⟨a, rfl, h⟩ := h
    exact ⟨by intro v hv; simp only [List.mem_cons, List.not_mem_nil, or_false] at hv; rcases hv with rfl <;> first | rfl | exact cat_rf, Nat.le_of_ble_eq_true rfl⟩
  intro av S KF h G hG
  obtain ⟨a, rfl, h⟩ := h
  rw [show (spX4_hasRoom W9).1 _ S = _ from spcX4_hasRoom] at hG
  try dsimp only at hG
  change G 0 [some (.ref a)] [] S 0 0
  obtain ⟨h0, ⟨h1, h2⟩, h⟩ := h
  refine xgo0 hG (fun fu hfu => ?_)
  clear hG
  simp only [↓callX4_hasRoom_0, ↓cg_5_3, ↓cg_5_5, cisa, ki_0, ki_1, ↓vm_aload_n, ↓vm_getfield, ↓vm_goto, ↓vm_iconst, ↓vm_if_icmp_ge, ↓vm_invokevirtual, ↓vm_ireturn, ↓xc_1, ↓tbX4_hasRoom_0, ↓tbX4_hasRoom_1, ↓tbX4_hasRoom_4, ↓tbX4_hasRoom_7, ↓tbX4_hasRoom_8, ↓tbX4_hasRoom_11, ↓tbX4_hasRoom_14, ↓tbX4_hasRoom_15, ↓tbX4_hasRoom_18, ↓tbX4_hasRoom_19, hfu, xstep0, xJ1_hit, xJ1_go, xJ2_hit1, xJ2_hit2, xJ2_go, ↓xif_t, ↓xif_f, seval, ↓xca_eq, ↓xre_l, ↓xre_r, xmask_t, xmask_f, xmask_nil, ↓xst_eq, xX_eq, eI_eq, eMc_eq, eMs_eq, eF_eq, eThr_eq, ↓xS1_mk, ↓xSI_mk, ↓xSR_mk, ↓xLI_0, ↓xLI_s, ↓xLR_0, ↓xLR_s, vRef_ref, vRef_null, vRef_rf, cat_int, cat_ref, cat_null, cat_rf, rf_some, rf_none, rf_null, rf_eq, rf_ref, ref_rf, ref_null, ref_ref, xOk_0, xOk_1, xOk_2r, xOk_2n, xOk_2f, vOpt_rf, vOpt_ref, vOpt_null, List.set_cons_zero, List.set_cons_succ, List.take_succ_cons, List.take_zero, List.drop_succ_cons, List.drop_zero, List.reverse_cons, List.reverse_nil, List.nil_append, List.cons_append, List.append_nil, List.length_cons, List.length_nil, List.map_cons, List.map_nil, List.sum_cons, List.sum_nil, Option.toList_some, Option.toList_none, xRecv_mk, true_and, and_true, true_implies, Nat.reduceAdd, Nat.reduceLeDiff, Nat.zero_le, Nat.le_refl, Nat.add_zero, Nat.zero_add, reduceIte, not_true_eq_false, not_false_eq_true, false_implies, and_self, implies_true, eq_self, Nat.reduceEqDiff, List.cons.injEq, xsn_1, xsn_2, false_and, and_false, or_false, false_or, or_true, true_or, xsn_3, xsn_4, h0, h1, h2, ↓spwJx4a65c_size_8abf5, spcJx4a65c_size_8abf5]
  try simp only [xif_e]
  grind [bi]

def tbX0_isTypeFor : List (Nat × xHint) := [(0, .iload_n 1, 1, 0, 0, []), (1, .iconst 2, 0, 0, 0, []), (2, .if_icmp .ne 17, 19, 0, 0, []), (5, .aload_n 0, 0, 0, 0, []), (6, .getfield 18, 1, 1, 0, []), (9, .iconst 2, 0, 0, 0, []), (10, .if_icmp .ne 7, 17, 0, 0, []), (13, .iconst 1, 0, 0, 0, []), (14, .goto 4, 18, 0, 0, []), (17, .iconst 0, 0, 0, 0, []), (18, .ireturn, 1, 0, 0, []), (19, .aload_n 0, 0, 0, 0, []), (20, .getfield 18, 1, 1, 0, []), (23, .iconst 1, 0, 0, 0, []), (24, .if_icmp .eq 14, 38, 0, 0, []), (27, .aload_n 0, 0, 0, 0, []), (28, .getfield 18, 1, 1, 0, []), (31, .ifCond .ne 11, 42, 0, 0, []), (34, .iload_n 1, 1, 0, 0, []), (35, .ifCond .ne 7, 42, 0, 0, []), (38, .iconst 1, 0, 0, 0, []), (39, .goto 4, 43, 0, 0, []), (42, .iconst 0, 0, 0, 0, []), (43, .ireturn, 1, 0, 0, [])]
def clX0_isTypeFor : List (Instr × Nat × Nat × Nat) := []
def thX0_isTypeFor : List (Nat × Nat) := []
theorem ckX0_isTypeFor : tbX0_isTypeFor.all (xRow RX0 cX0_isTypeFor wsX0_isTypeFor vwCl [1] clX0_isTypeFor thX0_isTypeFor 2 (yX0_isTypeFor.name == "<init>") (some .boolean)) = true := xRow_q 0xac030400a70407009a1b0b009a1200b42a0e009f041200b42aac030400a7040700a0051200b42a1100a0051b 44 (by decide +kernel) (by decide +kernel)
theorem usX0_isTypeFor : xUse wsX0_isTypeFor vwCl [1] = true := xUse_g rfl (lw_good lwl_X0_isTypeFor lwl_X00 (by decide +kernel)) xUse_n
theorem tbX0_isTypeFor_0 {k : Instr → Nat → Nat → Nat → List Nat → Prop} : xse (xFind tbX0_isTypeFor 0) k = k (.iload_n 1) 1 0 0 [] := rfl
theorem tbX0_isTypeFor_1 {k : Instr → Nat → Nat → Nat → List Nat → Prop} : xse (xFind tbX0_isTypeFor 1) k = k (.iconst 2) 0 0 0 [] := rfl
theorem tbX0_isTypeFor_2 {k : Instr → Nat → Nat → Nat → List Nat → Prop} : xse (xFind tbX0_isTypeFor 2) k = k (.if_icmp .ne 17) 19 0 0 [] := rfl
theorem tbX0_isTypeFor_5 {k : Instr → Nat → Nat → Nat → List Nat → Prop} : xse (xFind tbX0_isTypeFor 5) k = k (.aload_n 0) 0 0 0 [] := rfl
theorem tbX0_isTypeFor_6 {k : Instr → Nat → Nat → Nat → List Nat → Prop} : xse (xFind tbX0_isTypeFor 6) k = k (.getfield 18) 1 1 0 [] := rfl
theorem tbX0_isTypeFor_9 {k : Instr → Nat → Nat → Nat → List Nat → Prop} : xse (xFind tbX0_isTypeFor 9) k = k (.iconst 2) 0 0 0 [] := rfl
theorem tbX0_isTypeFor_10 {k : Instr → Nat → Nat → Nat → List Nat → Prop} : xse (xFind tbX0_isTypeFor 10) k = k (.if_icmp .ne 7) 17 0 0 [] := rfl
theorem tbX0_isTypeFor_13 {k : Instr → Nat → Nat → Nat → List Nat → Prop} : xse (xFind tbX0_isTypeFor 13) k = k (.iconst 1) 0 0 0 [] := rfl
theorem tbX0_isTypeFor_14 {k : Instr → Nat → Nat → Nat → List Nat → Prop} : xse (xFind tbX0_isTypeFor 14) k = k (.goto 4) 18 0 0 [] := rfl
theorem tbX0_isTypeFor_17 {k : Instr → Nat → Nat → Nat → List Nat → Prop} : xse (xFind tbX0_isTypeFor 17) k = k (.iconst 0) 0 0 0 [] := rfl
theorem tbX0_isTypeFor_18 {k : Instr → Nat → Nat → Nat → List Nat → Prop} : xse (xFind tbX0_isTypeFor 18) k = k (.ireturn) 1 0 0 [] := rfl
theorem tbX0_isTypeFor_19 {k : Instr → Nat → Nat → Nat → List Nat → Prop} : xse (xFind tbX0_isTypeFor 19) k = k (.aload_n 0) 0 0 0 [] := rfl
theorem tbX0_isTypeFor_20 {k : Instr → Nat → Nat → Nat → List Nat → Prop} : xse (xFind tbX0_isTypeFor 20) k = k (.getfield 18) 1 1 0 [] := rfl
theorem tbX0_isTypeFor_23 {k : Instr → Nat → Nat → Nat → List Nat → Prop} : xse (xFind tbX0_isTypeFor 23) k = k (.iconst 1) 0 0 0 [] := rfl
theorem tbX0_isTypeFor_24 {k : Instr → Nat → Nat → Nat → List Nat → Prop} : xse (xFind tbX0_isTypeFor 24) k = k (.if_icmp .eq 14) 38 0 0 [] := rfl
theorem tbX0_isTypeFor_27 {k : Instr → Nat → Nat → Nat → List Nat → Prop} : xse (xFind tbX0_isTypeFor 27) k = k (.aload_n 0) 0 0 0 [] := rfl
theorem tbX0_isTypeFor_28 {k : Instr → Nat → Nat → Nat → List Nat → Prop} : xse (xFind tbX0_isTypeFor 28) k = k (.getfield 18) 1 1 0 [] := rfl
theorem tbX0_isTypeFor_31 {k : Instr → Nat → Nat → Nat → List Nat → Prop} : xse (xFind tbX0_isTypeFor 31) k = k (.ifCond .ne 11) 42 0 0 [] := rfl
theorem tbX0_isTypeFor_34 {k : Instr → Nat → Nat → Nat → List Nat → Prop} : xse (xFind tbX0_isTypeFor 34) k = k (.iload_n 1) 1 0 0 [] := rfl
theorem tbX0_isTypeFor_35 {k : Instr → Nat → Nat → Nat → List Nat → Prop} : xse (xFind tbX0_isTypeFor 35) k = k (.ifCond .ne 7) 42 0 0 [] := rfl
theorem tbX0_isTypeFor_38 {k : Instr → Nat → Nat → Nat → List Nat → Prop} : xse (xFind tbX0_isTypeFor 38) k = k (.iconst 1) 0 0 0 [] := rfl
theorem tbX0_isTypeFor_39 {k : Instr → Nat → Nat → Nat → List Nat → Prop} : xse (xFind tbX0_isTypeFor 39) k = k (.goto 4) 43 0 0 [] := rfl
theorem tbX0_isTypeFor_42 {k : Instr → Nat → Nat → Nat → List Nat → Prop} : xse (xFind tbX0_isTypeFor 42) k = k (.iconst 0) 0 0 0 [] := rfl
theorem tbX0_isTypeFor_43 {k : Instr → Nat → Nat → Nat → List Nat → Prop} : xse (xFind tbX0_isTypeFor 43) k = k (.ireturn) 1 0 0 [] := rfl

def spX0_isTypeFor (W9 : xWd) : xSp cS := (fun av S => (0, 0), fun av S K => ∃ (a : Nat) (k : Int32), av = [.ref a, .int k] ∧ (cK S a = 2 ∧ K (rI (bi (if k = 2 then cFi S a 101 = 2 else cFi S a 101 = 1 ∨ (cFi S a 101 = 0 ∧ k = 0)))) S))
theorem spcX0_isTypeFor {av : List Value} {S : cS} {W9 : xWd} : (spX0_isTypeFor W9).1 av S = (0, 0) := rfl
theorem spwX0_isTypeFor {S : cS} {W9 : xWd} {K : xRes → cS → Prop} {a : Nat} {k : Int32} : (spX0_isTypeFor W9).2 [.ref a, .int k] S K = (cK S a = 2 ∧ K (rI (bi (if k = 2 then cFi S a 101 = 2 else cFi S a 101 = 1 ∨ (cFi S a 101 = 0 ∧ k = 0)))) S) :=
  propext ⟨fun h => by
    simp only [spX0_isTypeFor] at h
    obtain ⟨_, _, e, h⟩ := h
    simp only [List.cons.injEq, Value.int.injEq, Value.ref.injEq, rf_eq, and_true, true_and] at e
    obtain ⟨rfl, rfl⟩ := e
    exact h, fun h => ⟨_, _, rfl, h⟩⟩

set_option maxHeartbeats 4000000 in
set_option maxRecDepth 20000 in
theorem semX0_isTypeFor (l : Launch) (hl : l.stackTraces = false) (W9 : xWd) : xSem l W9 (cI) yX0_isTypeFor wsX0_isTypeFor 0 0 (spX0_isTypeFor W9) := by
  refine xSem_of (call := fun _ => none) (thrf := fun _ => "") cI_law (by decide +kernel) rfl ckX0_isTypeFor usX0_isTypeFor xCallsOK_nil xThrOK_nil ?_ ?_
  · intro av S KF h
    obtain ⟨a, k, rfl, h⟩ := h
    exact ⟨by intro v hv; simp only [List.mem_cons, List.not_mem_nil, or_false] at hv; rcases hv with rfl | rfl <;> first | rfl | exact cat_rf, Nat.le_of_ble_eq_true rfl⟩
  intro av S KF h G hG
  obtain ⟨a, k, rfl, h⟩ := h
  rw [show (spX0_isTypeFor W9).1 _ S = _ from spcX0_isTypeFor] at hG
  try dsimp only at hG
  change G 0 [some (.ref a), some (.int k)] [] S 0 0
  obtain ⟨h0, h⟩ := h
  refine xgo0 hG (fun fu hfu => ?_)
  clear hG
  simp only [↓cg_1_1, ki_0, ki_1, ki_2, ↓vm_aload_n, ↓vm_getfield, ↓vm_goto, ↓vm_iconst, ↓vm_ifCond_ne, ↓vm_if_icmp_eq, ↓vm_if_icmp_ne, ↓vm_iload_n, ↓vm_ireturn, ↓tbX0_isTypeFor_0, ↓tbX0_isTypeFor_1, ↓tbX0_isTypeFor_2, ↓tbX0_isTypeFor_5, ↓tbX0_isTypeFor_6, ↓tbX0_isTypeFor_9, ↓tbX0_isTypeFor_10, ↓tbX0_isTypeFor_13, ↓tbX0_isTypeFor_14, ↓tbX0_isTypeFor_17, ↓tbX0_isTypeFor_18, ↓tbX0_isTypeFor_19, ↓tbX0_isTypeFor_20, ↓tbX0_isTypeFor_23, ↓tbX0_isTypeFor_24, ↓tbX0_isTypeFor_27, ↓tbX0_isTypeFor_28, ↓tbX0_isTypeFor_31, ↓tbX0_isTypeFor_34, ↓tbX0_isTypeFor_35, ↓tbX0_isTypeFor_38, ↓tbX0_isTypeFor_39, ↓tbX0_isTypeFor_42, ↓tbX0_isTypeFor_43, hfu, xstep0, xJ1_hit, xJ1_go, xJ2_hit1, xJ2_hit2, xJ2_go, ↓xif_t, ↓xif_f, seval, ↓xca_eq, ↓xre_l, ↓xre_r, xmask_t, xmask_f, xmask_nil, ↓xst_eq, xX_eq, eI_eq, eMc_eq, eMs_eq, eF_eq, eThr_eq, ↓xS1_mk, ↓xSI_mk, ↓xSR_mk, ↓xLI_0, ↓xLI_s, ↓xLR_0, ↓xLR_s, vRef_ref, vRef_null, vRef_rf, cat_int, cat_ref, cat_null, cat_rf, rf_some, rf_none, rf_null, rf_eq, rf_ref, ref_rf, ref_null, ref_ref, xOk_0, xOk_1, xOk_2r, xOk_2n, xOk_2f, vOpt_rf, vOpt_ref, vOpt_null, List.set_cons_zero, List.set_cons_succ, List.take_succ_cons, List.take_zero, List.drop_succ_cons, List.drop_zero, List.reverse_cons, List.reverse_nil, List.nil_append, List.cons_append, List.append_nil, List.length_cons, List.length_nil, List.map_cons, List.map_nil, List.sum_cons, List.sum_nil, Option.toList_some, Option.toList_none, xRecv_mk, true_and, and_true, true_implies, Nat.reduceAdd, Nat.reduceLeDiff, Nat.zero_le, Nat.le_refl, Nat.add_zero, Nat.zero_add, reduceIte, not_true_eq_false, not_false_eq_true, false_implies, and_self, implies_true, eq_self, Nat.reduceEqDiff, List.cons.injEq, xsn_1, xsn_2, false_and, and_false, or_false, false_or, or_true, true_or, xsn_3, xsn_4, h0]
  try simp only [xif_e]
  grind [bi]

def tbX0_isFitFor : List (Nat × xHint) := [(0, .aload_n 0, 0, 0, 0, []), (1, .aload_n 1, 1, 0, 0, []), (2, .getfield 42, 3, 1, 0, []), (5, .invokevirtual 47, 0, 2, 1, []), (8, .ifCond .eq 41, 49, 0, 0, []), (11, .aload_n 0, 0, 0, 0, []), (12, .getfield 9, 1, 5, 0, []), (15, .iconst (-1), 0, 0, 0, []), (16, .if_icmp .eq 14, 30, 0, 0, []), (19, .aload_n 0, 0, 0, 0, []), (20, .getfield 9, 1, 5, 0, []), (23, .aload_n 1, 1, 0, 0, []), (24, .getfield 42, 3, 1, 0, []), (27, .if_icmp .ne 22, 49, 0, 0, []), (30, .aload_n 0, 0, 0, 0, []), (31, .getfield 50, 1, 4, 2, []), (34, .ifnull 11, 45, 0, 0, []), (37, .aload_n 0, 0, 0, 0, []), (38, .getfield 50, 1, 4, 2, []), (41, .aload_n 1, 1, 0, 0, []), (42, .if_acmp .ne 7, 49, 0, 0, []), (45, .iconst 1, 0, 0, 0, []), (46, .goto 4, 50, 0, 0, []), (49, .iconst 0, 0, 0, 0, []), (50, .ireturn, 1, 0, 0, [])]
def clX0_isFitFor : List (Instr × Nat × Nat × Nat) := [(.invokevirtual 47, 0, 2, 1)]
def thX0_isFitFor : List (Nat × Nat) := []
theorem ckX0_isFitFor : tbX0_isFitFor.all (xRow RX0 cX0_isFitFor wsX0_isFitFor vwCl [1, 3] clX0_isFitFor thX0_isFitFor 2 (yX0_isFitFor.name == "<init>") (some .boolean)) = true := xRow_q 0xac030400a7040700a62b3200b42a0b00c63200b42a1600a02a00b42b0900b42a0e009f020900b42a2900992f00b62a00b42b2a 51 (by decide +kernel) (by decide +kernel)
theorem usX0_isFitFor : xUse wsX0_isFitFor vwCl [1, 3] = true := xUse_g rfl (lw_good lwl_X0_isFitFor lwl_X00 (by decide +kernel)) (xUse_g rfl (lw_good lwl_X0_isFitFor lwl_X20 (by decide +kernel)) xUse_n)
theorem tbX0_isFitFor_0 {k : Instr → Nat → Nat → Nat → List Nat → Prop} : xse (xFind tbX0_isFitFor 0) k = k (.aload_n 0) 0 0 0 [] := rfl
theorem tbX0_isFitFor_1 {k : Instr → Nat → Nat → Nat → List Nat → Prop} : xse (xFind tbX0_isFitFor 1) k = k (.aload_n 1) 1 0 0 [] := rfl
theorem tbX0_isFitFor_2 {k : Instr → Nat → Nat → Nat → List Nat → Prop} : xse (xFind tbX0_isFitFor 2) k = k (.getfield 42) 3 1 0 [] := rfl
theorem tbX0_isFitFor_5 {k : Instr → Nat → Nat → Nat → List Nat → Prop} : xse (xFind tbX0_isFitFor 5) k = k (.invokevirtual 47) 0 2 1 [] := rfl
theorem tbX0_isFitFor_8 {k : Instr → Nat → Nat → Nat → List Nat → Prop} : xse (xFind tbX0_isFitFor 8) k = k (.ifCond .eq 41) 49 0 0 [] := rfl
theorem tbX0_isFitFor_11 {k : Instr → Nat → Nat → Nat → List Nat → Prop} : xse (xFind tbX0_isFitFor 11) k = k (.aload_n 0) 0 0 0 [] := rfl
theorem tbX0_isFitFor_12 {k : Instr → Nat → Nat → Nat → List Nat → Prop} : xse (xFind tbX0_isFitFor 12) k = k (.getfield 9) 1 5 0 [] := rfl
theorem tbX0_isFitFor_15 {k : Instr → Nat → Nat → Nat → List Nat → Prop} : xse (xFind tbX0_isFitFor 15) k = k (.iconst (-1)) 0 0 0 [] := rfl
theorem tbX0_isFitFor_16 {k : Instr → Nat → Nat → Nat → List Nat → Prop} : xse (xFind tbX0_isFitFor 16) k = k (.if_icmp .eq 14) 30 0 0 [] := rfl
theorem tbX0_isFitFor_19 {k : Instr → Nat → Nat → Nat → List Nat → Prop} : xse (xFind tbX0_isFitFor 19) k = k (.aload_n 0) 0 0 0 [] := rfl
theorem tbX0_isFitFor_20 {k : Instr → Nat → Nat → Nat → List Nat → Prop} : xse (xFind tbX0_isFitFor 20) k = k (.getfield 9) 1 5 0 [] := rfl
theorem tbX0_isFitFor_23 {k : Instr → Nat → Nat → Nat → List Nat → Prop} : xse (xFind tbX0_isFitFor 23) k = k (.aload_n 1) 1 0 0 [] := rfl
theorem tbX0_isFitFor_24 {k : Instr → Nat → Nat → Nat → List Nat → Prop} : xse (xFind tbX0_isFitFor 24) k = k (.getfield 42) 3 1 0 [] := rfl
theorem tbX0_isFitFor_27 {k : Instr → Nat → Nat → Nat → List Nat → Prop} : xse (xFind tbX0_isFitFor 27) k = k (.if_icmp .ne 22) 49 0 0 [] := rfl
theorem tbX0_isFitFor_30 {k : Instr → Nat → Nat → Nat → List Nat → Prop} : xse (xFind tbX0_isFitFor 30) k = k (.aload_n 0) 0 0 0 [] := rfl
theorem tbX0_isFitFor_31 {k : Instr → Nat → Nat → Nat → List Nat → Prop} : xse (xFind tbX0_isFitFor 31) k = k (.getfield 50) 1 4 2 [] := rfl
theorem tbX0_isFitFor_34 {k : Instr → Nat → Nat → Nat → List Nat → Prop} : xse (xFind tbX0_isFitFor 34) k = k (.ifnull 11) 45 0 0 [] := rfl
theorem tbX0_isFitFor_37 {k : Instr → Nat → Nat → Nat → List Nat → Prop} : xse (xFind tbX0_isFitFor 37) k = k (.aload_n 0) 0 0 0 [] := rfl
theorem tbX0_isFitFor_38 {k : Instr → Nat → Nat → Nat → List Nat → Prop} : xse (xFind tbX0_isFitFor 38) k = k (.getfield 50) 1 4 2 [] := rfl
theorem tbX0_isFitFor_41 {k : Instr → Nat → Nat → Nat → List Nat → Prop} : xse (xFind tbX0_isFitFor 41) k = k (.aload_n 1) 1 0 0 [] := rfl
theorem tbX0_isFitFor_42 {k : Instr → Nat → Nat → Nat → List Nat → Prop} : xse (xFind tbX0_isFitFor 42) k = k (.if_acmp .ne 7) 49 0 0 [] := rfl
theorem tbX0_isFitFor_45 {k : Instr → Nat → Nat → Nat → List Nat → Prop} : xse (xFind tbX0_isFitFor 45) k = k (.iconst 1) 0 0 0 [] := rfl
theorem tbX0_isFitFor_46 {k : Instr → Nat → Nat → Nat → List Nat → Prop} : xse (xFind tbX0_isFitFor 46) k = k (.goto 4) 50 0 0 [] := rfl
theorem tbX0_isFitFor_49 {k : Instr → Nat → Nat → Nat → List Nat → Prop} : xse (xFind tbX0_isFitFor 49) k = k (.iconst 0) 0 0 0 [] := rfl
theorem tbX0_isFitFor_50 {k : Instr → Nat → Nat → Nat → List Nat → Prop} : xse (xFind tbX0_isFitFor 50) k = k (.ireturn) 1 0 0 [] := rfl

def spX0_isFitFor (W9 : xWd) : xSp cS := (fun av S => (0, 0), fun av S K => ∃ (a : Nat) (c : Nat), av = [.ref a, .ref c] ∧ (cK S a = 2 ∧ cK S c = 4 ∧ K (rI (bi ((if cFi S c 301 = 2 then cFi S a 101 = 2 else cFi S a 101 = 1 ∨ (cFi S a 101 = 0 ∧ cFi S c 301 = 0)) ∧ (cFi S a 105 = -1 ∨ cFi S a 105 = cFi S c 301) ∧ (cFr S a 104 = none ∨ cFr S a 104 = some c)))) S))
theorem spcX0_isFitFor {av : List Value} {S : cS} {W9 : xWd} : (spX0_isFitFor W9).1 av S = (0, 0) := rfl
theorem spwX0_isFitFor {S : cS} {W9 : xWd} {K : xRes → cS → Prop} {a : Nat} {c : Nat} : (spX0_isFitFor W9).2 [.ref a, .ref c] S K = (cK S a = 2 ∧ cK S c = 4 ∧ K (rI (bi ((if cFi S c 301 = 2 then cFi S a 101 = 2 else cFi S a 101 = 1 ∨ (cFi S a 101 = 0 ∧ cFi S c 301 = 0)) ∧ (cFi S a 105 = -1 ∨ cFi S a 105 = cFi S c 301) ∧ (cFr S a 104 = none ∨ cFr S a 104 = some c)))) S) :=
  propext ⟨fun h => by
    simp only [spX0_isFitFor] at h
    obtain ⟨_, _, e, h⟩ := h
    simp only [List.cons.injEq, Value.int.injEq, Value.ref.injEq, rf_eq, and_true, true_and] at e
    obtain ⟨rfl, rfl⟩ := e
    exact h, fun h => ⟨_, _, rfl, h⟩⟩

def callX0_isFitFor (W9 : xWd) : Nat → Option (xSp cS) := fun n => match n with | 0 => some (spX0_isTypeFor W9) | _ => none

theorem callX0_isFitFor_0 {W9 : xWd} {k : xSp cS → Prop} : xcs (callX0_isFitFor W9 0) k = k (spX0_isTypeFor W9) := rfl

theorem crX0_isFitFor (l : Launch) (hl : l.stackTraces = false) (W9 : xWd) : xCallsOK l W9 (cI) (callX0_isFitFor W9) clX0_isFitFor RX0 wsX0_isFitFor 1 21 2 := by
  intro E A p e R s m args below meth c hI hF hL X
  exact List.forall_mem_cons.mpr ⟨⟨_, rfl, xCR_V X (by rw [hI]; exact (semX0_isTypeFor l hl W9)) gX0_isFitFor_X0_isTypeFor rfl rfl (by decide +kernel) (by rw [hF, hL]; decide)⟩,
    fun _ h => nomatch h⟩

set_option maxHeartbeats 4000000 in
set_option maxRecDepth 20000 in
theorem semX0_isFitFor (l : Launch) (hl : l.stackTraces = false) (W9 : xWd) : xSem l W9 (cI) yX0_isFitFor wsX0_isFitFor 1 21 (spX0_isFitFor W9) := by
  refine xSem_of (call := callX0_isFitFor W9) (thrf := fun _ => "") cI_law (by decide +kernel) rfl ckX0_isFitFor usX0_isFitFor (crX0_isFitFor l hl W9) xThrOK_nil ?_ ?_
  · intro av S KF h
    obtain ⟨a, c, rfl, h⟩ := h
    exact ⟨by intro v hv; simp only [List.mem_cons, List.not_mem_nil, or_false] at hv; rcases hv with rfl | rfl <;> first | rfl | exact cat_rf, Nat.le_of_ble_eq_true rfl⟩
  intro av S KF h G hG
  obtain ⟨a, c, rfl, h⟩ := h
  rw [show (spX0_isFitFor W9).1 _ S = _ from spcX0_isFitFor] at hG
  try dsimp only at hG
  change G 0 [some (.ref a), some (.ref c)] [] S 0 0
  obtain ⟨h0, h1, h⟩ := h
  refine xgo0 hG (fun fu hfu => ?_)
  clear hG
  simp only [↓callX0_isFitFor_0, ↓cg_1_4, ↓cg_1_5, ↓cg_3_1, cisa, ki_0, ki_1, ki_m1, ↓vm_aload_n, ↓vm_getfield, ↓vm_goto, ↓vm_iconst, ↓vm_ifCond_eq, ↓vm_if_acmp_ne, ↓vm_if_icmp_eq, ↓vm_if_icmp_ne, ↓vm_ifnull, ↓vm_invokevirtual, ↓vm_ireturn, ↓xc_2, ↓tbX0_isFitFor_0, ↓tbX0_isFitFor_1, ↓tbX0_isFitFor_2, ↓tbX0_isFitFor_5, ↓tbX0_isFitFor_8, ↓tbX0_isFitFor_11, ↓tbX0_isFitFor_12, ↓tbX0_isFitFor_15, ↓tbX0_isFitFor_16, ↓tbX0_isFitFor_19, ↓tbX0_isFitFor_20, ↓tbX0_isFitFor_23, ↓tbX0_isFitFor_24, ↓tbX0_isFitFor_27, ↓tbX0_isFitFor_30, ↓tbX0_isFitFor_31, ↓tbX0_isFitFor_34, ↓tbX0_isFitFor_37, ↓tbX0_isFitFor_38, ↓tbX0_isFitFor_41, ↓tbX0_isFitFor_42, ↓tbX0_isFitFor_45, ↓tbX0_isFitFor_46, ↓tbX0_isFitFor_49, ↓tbX0_isFitFor_50, hfu, xstep0, xJ1_hit, xJ1_go, xJ2_hit1, xJ2_hit2, xJ2_go, ↓xif_t, ↓xif_f, seval, ↓xca_eq, ↓xre_l, ↓xre_r, xmask_t, xmask_f, xmask_nil, ↓xst_eq, xX_eq, eI_eq, eMc_eq, eMs_eq, eF_eq, eThr_eq, ↓xS1_mk, ↓xSI_mk, ↓xSR_mk, ↓xLI_0, ↓xLI_s, ↓xLR_0, ↓xLR_s, vRef_ref, vRef_null, vRef_rf, cat_int, cat_ref, cat_null, cat_rf, rf_some, rf_none, rf_null, rf_eq, rf_ref, ref_rf, ref_null, ref_ref, xOk_0, xOk_1, xOk_2r, xOk_2n, xOk_2f, vOpt_rf, vOpt_ref, vOpt_null, List.set_cons_zero, List.set_cons_succ, List.take_succ_cons, List.take_zero, List.drop_succ_cons, List.drop_zero, List.reverse_cons, List.reverse_nil, List.nil_append, List.cons_append, List.append_nil, List.length_cons, List.length_nil, List.map_cons, List.map_nil, List.sum_cons, List.sum_nil, Option.toList_some, Option.toList_none, xRecv_mk, true_and, and_true, true_implies, Nat.reduceAdd, Nat.reduceLeDiff, Nat.zero_le, Nat.le_refl, Nat.add_zero, Nat.zero_add, reduceIte, not_true_eq_false, not_false_eq_true, false_implies, and_self, implies_true, eq_self, Nat.reduceEqDiff, List.cons.injEq, xsn_1, xsn_2, false_and, and_false, or_false, false_or, or_true, true_or, xsn_3, xsn_4, h0, h1, bi_0, ↓spwX0_isTypeFor, spcX0_isTypeFor]
  try simp only [xif_e]
  grind [bi]

/-- whether two barges must not lie side by side -/
noncomputable def cUl (S : cS) (a : Nat) (b : Option Nat) : Int32 := match b with
  | none => 0
  | some b => if ((cFi S a 101 = 2 ∧ cFi S b 101 = 1) ∨ (cFi S a 101 = 1 ∧ cFi S b 101 = 2)) ∧ ¬ cFi S a 103 = 0 ∧ ¬ cFi S b 103 = 0 then 1 else 0

def tbX0_isDangerousBeside : List (Nat × xHint) := [(0, .aload_n 1, 1, 0, 0, []), (1, .ifnull 17, 18, 0, 0, []), (4, .aload_n 0, 0, 0, 0, []), (5, .getfield 54, 1, 3, 0, []), (8, .ifCond .eq 10, 18, 0, 0, []), (11, .aload_n 1, 1, 0, 0, []), (12, .getfield 54, 1, 3, 0, []), (15, .ifCond .ne 5, 20, 0, 0, []), (18, .iconst 0, 0, 0, 0, []), (19, .ireturn, 1, 0, 0, []), (20, .aload_n 0, 0, 0, 0, []), (21, .getfield 18, 1, 1, 0, []), (24, .iconst 2, 0, 0, 0, []), (25, .if_icmp .ne 11, 36, 0, 0, []), (28, .aload_n 1, 1, 0, 0, []), (29, .getfield 18, 1, 1, 0, []), (32, .iconst 1, 0, 0, 0, []), (33, .if_icmp .eq 19, 52, 0, 0, []), (36, .aload_n 0, 0, 0, 0, []), (37, .getfield 18, 1, 1, 0, []), (40, .iconst 1, 0, 0, 0, []), (41, .if_icmp .ne 15, 56, 0, 0, []), (44, .aload_n 1, 1, 0, 0, []), (45, .getfield 18, 1, 1, 0, []), (48, .iconst 2, 0, 0, 0, []), (49, .if_icmp .ne 7, 56, 0, 0, []), (52, .iconst 1, 0, 0, 0, []), (53, .goto 4, 57, 0, 0, []), (56, .iconst 0, 0, 0, 0, []), (57, .ireturn, 1, 0, 0, [])]
def clX0_isDangerousBeside : List (Instr × Nat × Nat × Nat) := []
def thX0_isDangerousBeside : List (Nat × Nat) := []
theorem ckX0_isDangerousBeside : tbX0_isDangerousBeside.all (xRow RX0 cX0_isDangerousBeside wsX0_isDangerousBeside vwCl [1] clX0_isDangerousBeside thX0_isDangerousBeside 2 (yX0_isDangerousBeside.name == "<init>") (some .boolean)) = true := xRow_q 0xac030400a7040700a0051200b42b0f00a0041200b42a13009f041200b42b0b00a0051200b42aac0305009a3600b42b0a00993600b42a1100c62b 58 (by decide +kernel) (by decide +kernel)
theorem usX0_isDangerousBeside : xUse wsX0_isDangerousBeside vwCl [1] = true := xUse_g rfl (lw_good lwl_X0_isDangerousBeside lwl_X00 (by decide +kernel)) xUse_n
theorem tbX0_isDangerousBeside_0 {k : Instr → Nat → Nat → Nat → List Nat → Prop} : xse (xFind tbX0_isDangerousBeside 0) k = k (.aload_n 1) 1 0 0 [] := rfl
theorem tbX0_isDangerousBeside_1 {k : Instr → Nat → Nat → Nat → List Nat → Prop} : xse (xFind tbX0_isDangerousBeside 1) k = k (.ifnull 17) 18 0 0 [] := rfl
theorem tbX0_isDangerousBeside_4 {k : Instr → Nat → Nat → Nat → List Nat → Prop} : xse (xFind tbX0_isDangerousBeside 4) k = k (.aload_n 0) 0 0 0 [] := rfl
theorem tbX0_isDangerousBeside_5 {k : Instr → Nat → Nat → Nat → List Nat → Prop} : xse (xFind tbX0_isDangerousBeside 5) k = k (.getfield 54) 1 3 0 [] := rfl
theorem tbX0_isDangerousBeside_8 {k : Instr → Nat → Nat → Nat → List Nat → Prop} : xse (xFind tbX0_isDangerousBeside 8) k = k (.ifCond .eq 10) 18 0 0 [] := rfl
theorem tbX0_isDangerousBeside_11 {k : Instr → Nat → Nat → Nat → List Nat → Prop} : xse (xFind tbX0_isDangerousBeside 11) k = k (.aload_n 1) 1 0 0 [] := rfl
theorem tbX0_isDangerousBeside_12 {k : Instr → Nat → Nat → Nat → List Nat → Prop} : xse (xFind tbX0_isDangerousBeside 12) k = k (.getfield 54) 1 3 0 [] := rfl
theorem tbX0_isDangerousBeside_15 {k : Instr → Nat → Nat → Nat → List Nat → Prop} : xse (xFind tbX0_isDangerousBeside 15) k = k (.ifCond .ne 5) 20 0 0 [] := rfl
theorem tbX0_isDangerousBeside_18 {k : Instr → Nat → Nat → Nat → List Nat → Prop} : xse (xFind tbX0_isDangerousBeside 18) k = k (.iconst 0) 0 0 0 [] := rfl
theorem tbX0_isDangerousBeside_19 {k : Instr → Nat → Nat → Nat → List Nat → Prop} : xse (xFind tbX0_isDangerousBeside 19) k = k (.ireturn) 1 0 0 [] := rfl
theorem tbX0_isDangerousBeside_20 {k : Instr → Nat → Nat → Nat → List Nat → Prop} : xse (xFind tbX0_isDangerousBeside 20) k = k (.aload_n 0) 0 0 0 [] := rfl
theorem tbX0_isDangerousBeside_21 {k : Instr → Nat → Nat → Nat → List Nat → Prop} : xse (xFind tbX0_isDangerousBeside 21) k = k (.getfield 18) 1 1 0 [] := rfl
theorem tbX0_isDangerousBeside_24 {k : Instr → Nat → Nat → Nat → List Nat → Prop} : xse (xFind tbX0_isDangerousBeside 24) k = k (.iconst 2) 0 0 0 [] := rfl
theorem tbX0_isDangerousBeside_25 {k : Instr → Nat → Nat → Nat → List Nat → Prop} : xse (xFind tbX0_isDangerousBeside 25) k = k (.if_icmp .ne 11) 36 0 0 [] := rfl
theorem tbX0_isDangerousBeside_28 {k : Instr → Nat → Nat → Nat → List Nat → Prop} : xse (xFind tbX0_isDangerousBeside 28) k = k (.aload_n 1) 1 0 0 [] := rfl
theorem tbX0_isDangerousBeside_29 {k : Instr → Nat → Nat → Nat → List Nat → Prop} : xse (xFind tbX0_isDangerousBeside 29) k = k (.getfield 18) 1 1 0 [] := rfl
theorem tbX0_isDangerousBeside_32 {k : Instr → Nat → Nat → Nat → List Nat → Prop} : xse (xFind tbX0_isDangerousBeside 32) k = k (.iconst 1) 0 0 0 [] := rfl
theorem tbX0_isDangerousBeside_33 {k : Instr → Nat → Nat → Nat → List Nat → Prop} : xse (xFind tbX0_isDangerousBeside 33) k = k (.if_icmp .eq 19) 52 0 0 [] := rfl
theorem tbX0_isDangerousBeside_36 {k : Instr → Nat → Nat → Nat → List Nat → Prop} : xse (xFind tbX0_isDangerousBeside 36) k = k (.aload_n 0) 0 0 0 [] := rfl
theorem tbX0_isDangerousBeside_37 {k : Instr → Nat → Nat → Nat → List Nat → Prop} : xse (xFind tbX0_isDangerousBeside 37) k = k (.getfield 18) 1 1 0 [] := rfl
theorem tbX0_isDangerousBeside_40 {k : Instr → Nat → Nat → Nat → List Nat → Prop} : xse (xFind tbX0_isDangerousBeside 40) k = k (.iconst 1) 0 0 0 [] := rfl
theorem tbX0_isDangerousBeside_41 {k : Instr → Nat → Nat → Nat → List Nat → Prop} : xse (xFind tbX0_isDangerousBeside 41) k = k (.if_icmp .ne 15) 56 0 0 [] := rfl
theorem tbX0_isDangerousBeside_44 {k : Instr → Nat → Nat → Nat → List Nat → Prop} : xse (xFind tbX0_isDangerousBeside 44) k = k (.aload_n 1) 1 0 0 [] := rfl
theorem tbX0_isDangerousBeside_45 {k : Instr → Nat → Nat → Nat → List Nat → Prop} : xse (xFind tbX0_isDangerousBeside 45) k = k (.getfield 18) 1 1 0 [] := rfl
theorem tbX0_isDangerousBeside_48 {k : Instr → Nat → Nat → Nat → List Nat → Prop} : xse (xFind tbX0_isDangerousBeside 48) k = k (.iconst 2) 0 0 0 [] := rfl
theorem tbX0_isDangerousBeside_49 {k : Instr → Nat → Nat → Nat → List Nat → Prop} : xse (xFind tbX0_isDangerousBeside 49) k = k (.if_icmp .ne 7) 56 0 0 [] := rfl
theorem tbX0_isDangerousBeside_52 {k : Instr → Nat → Nat → Nat → List Nat → Prop} : xse (xFind tbX0_isDangerousBeside 52) k = k (.iconst 1) 0 0 0 [] := rfl
theorem tbX0_isDangerousBeside_53 {k : Instr → Nat → Nat → Nat → List Nat → Prop} : xse (xFind tbX0_isDangerousBeside 53) k = k (.goto 4) 57 0 0 [] := rfl
theorem tbX0_isDangerousBeside_56 {k : Instr → Nat → Nat → Nat → List Nat → Prop} : xse (xFind tbX0_isDangerousBeside 56) k = k (.iconst 0) 0 0 0 [] := rfl
theorem tbX0_isDangerousBeside_57 {k : Instr → Nat → Nat → Nat → List Nat → Prop} : xse (xFind tbX0_isDangerousBeside 57) k = k (.ireturn) 1 0 0 [] := rfl

def spX0_isDangerousBeside (W9 : xWd) : xSp cS := (fun av S => (0, 0), fun av S K => ∃ (a : Nat) (b : Option Nat), av = [.ref a, va_rf b] ∧ (cK S a = 2 ∧ (∀ c, b = some c → cK S c = 2) ∧ K (rI (cUl S a b)) S))
theorem spcX0_isDangerousBeside {av : List Value} {S : cS} {W9 : xWd} : (spX0_isDangerousBeside W9).1 av S = (0, 0) := rfl
theorem spwX0_isDangerousBeside {S : cS} {W9 : xWd} {K : xRes → cS → Prop} {a : Nat} {b : Option Nat} : (spX0_isDangerousBeside W9).2 [.ref a, va_rf b] S K = (cK S a = 2 ∧ (∀ c, b = some c → cK S c = 2) ∧ K (rI (cUl S a b)) S) :=
  propext ⟨fun h => by
    simp only [spX0_isDangerousBeside] at h
    obtain ⟨_, _, e, h⟩ := h
    simp only [List.cons.injEq, Value.int.injEq, Value.ref.injEq, rf_eq, and_true, true_and] at e
    obtain ⟨rfl, rfl⟩ := e
    exact h, fun h => ⟨_, _, rfl, h⟩⟩

set_option maxHeartbeats 4000000 in
set_option maxRecDepth 20000 in
theorem semX0_isDangerousBeside (l : Launch) (hl : l.stackTraces = false) (W9 : xWd) : xSem l W9 (cI) yX0_isDangerousBeside wsX0_isDangerousBeside 0 0 (spX0_isDangerousBeside W9) := by
  refine xSem_of (call := fun _ => none) (thrf := fun _ => "") cI_law (by decide +kernel) rfl ckX0_isDangerousBeside usX0_isDangerousBeside xCallsOK_nil xThrOK_nil ?_ ?_
  · intro av S KF h
    obtain ⟨a, b, rfl, h⟩ := h
    exact ⟨by intro v hv; simp only [List.mem_cons, List.not_mem_nil, or_false] at hv; rcases hv with rfl | rfl <;> first | rfl | exact cat_rf, Nat.le_of_ble_eq_true rfl⟩
  intro av S KF h G hG
  obtain ⟨a, b, rfl, h⟩ := h
  rw [show (spX0_isDangerousBeside W9).1 _ S = _ from spcX0_isDangerousBeside] at hG
  try dsimp only at hG
  change G 0 [some (.ref a), some (va_rf b)] [] S 0 0
  obtain ⟨h0, h1, h⟩ := h

  cases b with
  | none =>
    refine xgo0 hG (fun fu hfu => ?_)
    simp only [↓cg_1_1, ↓cg_1_3, ki_0, ki_1, ki_2, ↓vm_aload_n, ↓vm_getfield, ↓vm_goto, ↓vm_iconst, ↓vm_ifCond_eq, ↓vm_ifCond_ne, ↓vm_if_icmp_eq, ↓vm_if_icmp_ne, ↓vm_ifnull, ↓vm_ireturn, ↓tbX0_isDangerousBeside_0, ↓tbX0_isDangerousBeside_1, ↓tbX0_isDangerousBeside_4, ↓tbX0_isDangerousBeside_5, ↓tbX0_isDangerousBeside_8, ↓tbX0_isDangerousBeside_11, ↓tbX0_isDangerousBeside_12, ↓tbX0_isDangerousBeside_15, ↓tbX0_isDangerousBeside_18, ↓tbX0_isDangerousBeside_19, ↓tbX0_isDangerousBeside_20, ↓tbX0_isDangerousBeside_21, ↓tbX0_isDangerousBeside_24, ↓tbX0_isDangerousBeside_25, ↓tbX0_isDangerousBeside_28, ↓tbX0_isDangerousBeside_29, ↓tbX0_isDangerousBeside_32, ↓tbX0_isDangerousBeside_33, ↓tbX0_isDangerousBeside_36, ↓tbX0_isDangerousBeside_37, ↓tbX0_isDangerousBeside_40, ↓tbX0_isDangerousBeside_41, ↓tbX0_isDangerousBeside_44, ↓tbX0_isDangerousBeside_45, ↓tbX0_isDangerousBeside_48, ↓tbX0_isDangerousBeside_49, ↓tbX0_isDangerousBeside_52, ↓tbX0_isDangerousBeside_53, ↓tbX0_isDangerousBeside_56, ↓tbX0_isDangerousBeside_57, hfu, xstep0, xJ1_hit, xJ1_go, xJ2_hit1, xJ2_hit2, xJ2_go, ↓xif_t, ↓xif_f, seval, ↓xca_eq, ↓xre_l, ↓xre_r, xmask_t, xmask_f, xmask_nil, ↓xst_eq, xX_eq, eI_eq, eMc_eq, eMs_eq, eF_eq, eThr_eq, ↓xS1_mk, ↓xSI_mk, ↓xSR_mk, ↓xLI_0, ↓xLI_s, ↓xLR_0, ↓xLR_s, vRef_ref, vRef_null, vRef_rf, cat_int, cat_ref, cat_null, cat_rf, rf_some, rf_none, rf_null, rf_eq, rf_ref, ref_rf, ref_null, ref_ref, xOk_0, xOk_1, xOk_2r, xOk_2n, xOk_2f, vOpt_rf, vOpt_ref, vOpt_null, List.set_cons_zero, List.set_cons_succ, List.take_succ_cons, List.take_zero, List.drop_succ_cons, List.drop_zero, List.reverse_cons, List.reverse_nil, List.nil_append, List.cons_append, List.append_nil, List.length_cons, List.length_nil, List.map_cons, List.map_nil, List.sum_cons, List.sum_nil, Option.toList_some, Option.toList_none, xRecv_mk, true_and, and_true, true_implies, Nat.reduceAdd, Nat.reduceLeDiff, Nat.zero_le, Nat.le_refl, Nat.add_zero, Nat.zero_add, reduceIte, not_true_eq_false, not_false_eq_true, false_implies, and_self, implies_true, eq_self, Nat.reduceEqDiff, List.cons.injEq, xsn_1, xsn_2, false_and, and_false, or_false, false_or, or_true, true_or, xsn_3, xsn_4, h0]
    try simp only [xif_e]
    exact h
  | some c =>
    have h2 := h1 c rfl
    unfold cUl at h
    refine xgo0 hG (fun fu hfu => ?_)
    simp only [↓cg_1_1, ↓cg_1_3, ki_0, ki_1, ki_2, ↓vm_aload_n, ↓vm_getfield, ↓vm_goto, ↓vm_iconst, ↓vm_ifCond_eq, ↓vm_ifCond_ne, ↓vm_if_icmp_eq, ↓vm_if_icmp_ne, ↓vm_ifnull, ↓vm_ireturn, ↓tbX0_isDangerousBeside_0, ↓tbX0_isDangerousBeside_1, ↓tbX0_isDangerousBeside_4, ↓tbX0_isDangerousBeside_5, ↓tbX0_isDangerousBeside_8, ↓tbX0_isDangerousBeside_11, ↓tbX0_isDangerousBeside_12, ↓tbX0_isDangerousBeside_15, ↓tbX0_isDangerousBeside_18, ↓tbX0_isDangerousBeside_19, ↓tbX0_isDangerousBeside_20, ↓tbX0_isDangerousBeside_21, ↓tbX0_isDangerousBeside_24, ↓tbX0_isDangerousBeside_25, ↓tbX0_isDangerousBeside_28, ↓tbX0_isDangerousBeside_29, ↓tbX0_isDangerousBeside_32, ↓tbX0_isDangerousBeside_33, ↓tbX0_isDangerousBeside_36, ↓tbX0_isDangerousBeside_37, ↓tbX0_isDangerousBeside_40, ↓tbX0_isDangerousBeside_41, ↓tbX0_isDangerousBeside_44, ↓tbX0_isDangerousBeside_45, ↓tbX0_isDangerousBeside_48, ↓tbX0_isDangerousBeside_49, ↓tbX0_isDangerousBeside_52, ↓tbX0_isDangerousBeside_53, ↓tbX0_isDangerousBeside_56, ↓tbX0_isDangerousBeside_57, hfu, xstep0, xJ1_hit, xJ1_go, xJ2_hit1, xJ2_hit2, xJ2_go, ↓xif_t, ↓xif_f, seval, ↓xca_eq, ↓xre_l, ↓xre_r, xmask_t, xmask_f, xmask_nil, ↓xst_eq, xX_eq, eI_eq, eMc_eq, eMs_eq, eF_eq, eThr_eq, ↓xS1_mk, ↓xSI_mk, ↓xSR_mk, ↓xLI_0, ↓xLI_s, ↓xLR_0, ↓xLR_s, vRef_ref, vRef_null, vRef_rf, cat_int, cat_ref, cat_null, cat_rf, rf_some, rf_none, rf_null, rf_eq, rf_ref, ref_rf, ref_null, ref_ref, xOk_0, xOk_1, xOk_2r, xOk_2n, xOk_2f, vOpt_rf, vOpt_ref, vOpt_null, List.set_cons_zero, List.set_cons_succ, List.take_succ_cons, List.take_zero, List.drop_succ_cons, List.drop_zero, List.reverse_cons, List.reverse_nil, List.nil_append, List.cons_append, List.append_nil, List.length_cons, List.length_nil, List.map_cons, List.map_nil, List.sum_cons, List.sum_nil, Option.toList_some, Option.toList_none, xRecv_mk, true_and, and_true, true_implies, Nat.reduceAdd, Nat.reduceLeDiff, Nat.zero_le, Nat.le_refl, Nat.add_zero, Nat.zero_add, reduceIte, not_true_eq_false, not_false_eq_true, false_implies, and_self, implies_true, eq_self, Nat.reduceEqDiff, List.cons.injEq, xsn_1, xsn_2, false_and, and_false, or_false, false_or, or_true, true_or, xsn_3, xsn_4, h0, h2]
    try simp only [xif_e]
    repeat' (first | with_reducible apply And.intro | with_reducible intro _)
    all_goals grind [bi]

/-! Rows of barges: a row's list, its barges. -/
def rL (S : cS) (a : Nat) : Nat := cRf S a 505
def rN (S : cS) (a : Nat) : Nat := lCn S (rL S a)
def rB (S : cS) (a k : Nat) : Nat := (lNth S (rL S a) k).getD 0
/-- a row that may be read: a Row, its list, barges in it -/
def rOk (S : cS) (a : Nat) : Prop := cK S a = 6 ∧ cIn S a 505 1 ∧ lOk S (rL S a) ∧ ∀ k, k < rN S a → lNth S (rL S a) k = some (rB S a k) ∧ cK S (rB S a k) = 2
theorem rOk_facts {S : cS} {a : Nat} (h : rOk S a) : cK S a = 6 ∧ cFr S a 505 = some (rL S a) ∧ cK S (rL S a) = 1 ∧ lOk S (rL S a) ∧ cFi S (rL S a) 2 = nI (rN S a) ∧ rN S a ≤ 30 := ⟨h.1, h.2.1.1, h.2.1.2, h.2.2.1, h.2.2.1.2.1, h.2.2.1.2.2.1⟩
def rPl (S : cS) (a b : Nat) : Nat → Nat → Int32
  | 0, _ => -1
  | n + 1, k => if rB S a k = b then nI k else rPl S a b n (k + 1)
theorem rPl_s {S : cS} {a b : Nat} {n k : Nat} (h : k < n) : rPl S a b (n - k) k = if rB S a k = b then nI k else rPl S a b (n - (k + 1)) (k + 1) := by
  obtain ⟨m, hm⟩ : ∃ m, n - k = m + 1 := ⟨n - k - 1, by omega⟩
  rw [hm, show n - (k + 1) = m by omega]
  rfl
theorem lt0_nI {j n : Nat} (h : j < n) (hn : n < 1000) : nI j < nI n := nI_lt h (by omega)

def tbX4_placeOf : List (Nat × xHint) := [(0, .iconst 0, 0, 0, 0, []), (1, .istore_n 2, 2, 0, 0, []), (2, .iload_n 2, 2, 0, 0, []), (3, .aload_n 0, 0, 0, 0, []), (4, .getfield 18, 5, 5, 2, []), (7, .invokevirtual 34, 0, 1, 0, []), (10, .if_icmp .ge 23, 33, 0, 0, []), (13, .aload_n 0, 0, 0, 0, []), (14, .getfield 18, 5, 5, 2, []), (17, .iload_n 2, 2, 0, 0, []), (18, .invokevirtual 38, 1, 2, 0, []), (21, .aload_n 1, 1, 0, 0, []), (22, .if_acmp .ne 5, 27, 0, 0, []), (25, .iload_n 2, 2, 0, 0, []), (26, .ireturn, 0, 0, 0, []), (27, .iinc 2 1, 2, 0, 0, []), (30, .goto (-28), 2, 0, 0, []), (33, .iconst (-1), 0, 0, 0, []), (34, .ireturn, 0, 0, 0, [])]
def clX4_placeOf : List (Instr × Nat × Nat × Nat) := [(.invokevirtual 34, 0, 1, 0), (.invokevirtual 38, 1, 2, 0)]
def thX4_placeOf : List (Nat × Nat) := []
theorem ckX4_placeOf : tbX4_placeOf.all (xRow RX4 cX4_placeOf wsX4_placeOf vwCl [5] clX4_placeOf thX4_placeOf 3 (yX4_placeOf.name == "<init>") (some .int)) = true := xRow_q 0xac02e4ffa7010284ac1c0500a62b2600b61c1200b42a1700a22200b61200b42a1c3d03 35 (by decide +kernel) (by decide +kernel)
theorem usX4_placeOf : xUse wsX4_placeOf vwCl [5] = true := xUse_g rfl (lw_good lwl_X4_placeOf lwl_X40 (by decide +kernel)) xUse_n
theorem tbX4_placeOf_0 {k : Instr → Nat → Nat → Nat → List Nat → Prop} : xse (xFind tbX4_placeOf 0) k = k (.iconst 0) 0 0 0 [] := rfl
theorem tbX4_placeOf_1 {k : Instr → Nat → Nat → Nat → List Nat → Prop} : xse (xFind tbX4_placeOf 1) k = k (.istore_n 2) 2 0 0 [] := rfl
theorem tbX4_placeOf_2 {k : Instr → Nat → Nat → Nat → List Nat → Prop} : xse (xFind tbX4_placeOf 2) k = k (.iload_n 2) 2 0 0 [] := rfl
theorem tbX4_placeOf_3 {k : Instr → Nat → Nat → Nat → List Nat → Prop} : xse (xFind tbX4_placeOf 3) k = k (.aload_n 0) 0 0 0 [] := rfl
theorem tbX4_placeOf_4 {k : Instr → Nat → Nat → Nat → List Nat → Prop} : xse (xFind tbX4_placeOf 4) k = k (.getfield 18) 5 5 2 [] := rfl
theorem tbX4_placeOf_7 {k : Instr → Nat → Nat → Nat → List Nat → Prop} : xse (xFind tbX4_placeOf 7) k = k (.invokevirtual 34) 0 1 0 [] := rfl
theorem tbX4_placeOf_10 {k : Instr → Nat → Nat → Nat → List Nat → Prop} : xse (xFind tbX4_placeOf 10) k = k (.if_icmp .ge 23) 33 0 0 [] := rfl
theorem tbX4_placeOf_13 {k : Instr → Nat → Nat → Nat → List Nat → Prop} : xse (xFind tbX4_placeOf 13) k = k (.aload_n 0) 0 0 0 [] := rfl
theorem tbX4_placeOf_14 {k : Instr → Nat → Nat → Nat → List Nat → Prop} : xse (xFind tbX4_placeOf 14) k = k (.getfield 18) 5 5 2 [] := rfl
theorem tbX4_placeOf_17 {k : Instr → Nat → Nat → Nat → List Nat → Prop} : xse (xFind tbX4_placeOf 17) k = k (.iload_n 2) 2 0 0 [] := rfl
theorem tbX4_placeOf_18 {k : Instr → Nat → Nat → Nat → List Nat → Prop} : xse (xFind tbX4_placeOf 18) k = k (.invokevirtual 38) 1 2 0 [] := rfl
theorem tbX4_placeOf_21 {k : Instr → Nat → Nat → Nat → List Nat → Prop} : xse (xFind tbX4_placeOf 21) k = k (.aload_n 1) 1 0 0 [] := rfl
theorem tbX4_placeOf_22 {k : Instr → Nat → Nat → Nat → List Nat → Prop} : xse (xFind tbX4_placeOf 22) k = k (.if_acmp .ne 5) 27 0 0 [] := rfl
theorem tbX4_placeOf_25 {k : Instr → Nat → Nat → Nat → List Nat → Prop} : xse (xFind tbX4_placeOf 25) k = k (.iload_n 2) 2 0 0 [] := rfl
theorem tbX4_placeOf_26 {k : Instr → Nat → Nat → Nat → List Nat → Prop} : xse (xFind tbX4_placeOf 26) k = k (.ireturn) 0 0 0 [] := rfl
theorem tbX4_placeOf_27 {k : Instr → Nat → Nat → Nat → List Nat → Prop} : xse (xFind tbX4_placeOf 27) k = k (.iinc 2 1) 2 0 0 [] := rfl
theorem tbX4_placeOf_30 {k : Instr → Nat → Nat → Nat → List Nat → Prop} : xse (xFind tbX4_placeOf 30) k = k (.goto (-28)) 2 0 0 [] := rfl
theorem tbX4_placeOf_33 {k : Instr → Nat → Nat → Nat → List Nat → Prop} : xse (xFind tbX4_placeOf 33) k = k (.iconst (-1)) 0 0 0 [] := rfl
theorem tbX4_placeOf_34 {k : Instr → Nat → Nat → Nat → List Nat → Prop} : xse (xFind tbX4_placeOf 34) k = k (.ireturn) 0 0 0 [] := rfl

def spX4_placeOf (W9 : xWd) : xSp cS := (fun av S => (0, 0), fun av S K => ∃ (a : Nat) (b : Nat), av = [.ref a, .ref b] ∧ (rOk S a ∧ K (rI (rPl S a b (rN S a) 0)) S))
theorem spcX4_placeOf {av : List Value} {S : cS} {W9 : xWd} : (spX4_placeOf W9).1 av S = (0, 0) := rfl
theorem spwX4_placeOf {S : cS} {W9 : xWd} {K : xRes → cS → Prop} {a : Nat} {b : Nat} : (spX4_placeOf W9).2 [.ref a, .ref b] S K = (rOk S a ∧ K (rI (rPl S a b (rN S a) 0)) S) :=
  propext ⟨fun h => by
    simp only [spX4_placeOf] at h
    obtain ⟨_, _, e, h⟩ := h
    simp only [List.cons.injEq, Value.int.injEq, Value.ref.injEq, rf_eq, and_true, true_and] at e
    obtain ⟨rfl, rfl⟩ := e
    exact h, fun h => ⟨_, _, rfl, h⟩⟩

def callX4_placeOf (W9 : xWd) : Nat → Option (xSp cS) := fun n => match n with | 0 => some (spJx4a65c_size_8abf5 W9) | 1 => some (spJx4a65c_get_915e3 W9) | _ => none

theorem callX4_placeOf_0 {W9 : xWd} {k : xSp cS → Prop} : xcs (callX4_placeOf W9 0) k = k (spJx4a65c_size_8abf5 W9) := rfl

theorem callX4_placeOf_1 {W9 : xWd} {k : xSp cS → Prop} : xcs (callX4_placeOf W9 1) k = k (spJx4a65c_get_915e3 W9) := rfl

theorem crX4_placeOf (l : Launch) (hl : l.stackTraces = false) (W9 : xWd) : xCallsOK l W9 (cI) (callX4_placeOf W9) clX4_placeOf RX4 wsX4_placeOf 3 64 3 := by
  intro E A p e R s m args below meth c hI hF hL X
  exact List.forall_mem_cons.mpr ⟨⟨_, rfl, xCR_V X (by rw [hI]; exact (semJx4a65c_size_8abf5 l hl W9)) gX4_placeOf_Jx4a65c_size_8abf5 rfl rfl (by decide +kernel) (by rw [hF, hL]; decide)⟩,
    List.forall_mem_cons.mpr ⟨⟨_, rfl, xCR_V X (by rw [hI]; exact (semJx4a65c_get_915e3 l hl W9)) gX4_placeOf_Jx4a65c_get_915e3 rfl rfl (by decide +kernel) (by rw [hF, hL]; decide)⟩,
    fun _ h => nomatch h⟩⟩

set_option maxHeartbeats 4000000 in
set_option maxRecDepth 20000 in
theorem semX4_placeOf (l : Launch) (hl : l.stackTraces = false) (W9 : xWd) : xSem l W9 (cI) yX4_placeOf wsX4_placeOf 3 64 (spX4_placeOf W9) := by
  refine xSem_of (call := callX4_placeOf W9) (thrf := fun _ => "") cI_law (by decide +kernel) rfl ckX4_placeOf usX4_placeOf (crX4_placeOf l hl W9) xThrOK_nil ?_ ?_
  · intro av S KF h
    obtain ⟨a, b, rfl, h⟩ := h
    exact ⟨by intro v hv; simp only [List.mem_cons, List.not_mem_nil, or_false] at hv; rcases hv with rfl | rfl <;> first | rfl | exact cat_rf, Nat.le_of_ble_eq_true rfl⟩
  intro av S KF h G hG
  obtain ⟨a, b, rfl, h⟩ := h
  rw [show (spX4_placeOf W9).1 _ S = _ from spcX4_placeOf] at hG
  try dsimp only at hG
  change G 0 [some (.ref a), some (.ref b), none] [] S 0 0
  obtain ⟨hR, h⟩ := h

  obtain ⟨f1, f2, f3, f4, f5, f6⟩ := rOk_facts hR
  have key : ∀ m j, j + m = rN S a → KF (rI (rPl S a b m j)) S → ∀ lv st S2 cs ss, (lv = [some (.ref a), some (.ref b), some (.int (nI j))] ∧ st = [] ∧ S = S2 ∧ cs = 0 ∧ ss = 0) → G 2 lv st S2 cs ss := by
    intro m
    induction m with
    | zero =>
      intro j hj hk
      rintro lv st S2 cs ss ⟨rfl, rfl, rfl, rfl, (rfl)⟩
      have e0 : (nI (rN S a) ≤ nI j) = True := eq_true (nI_le (by omega) (by omega))
      refine xgo hG (mb := []) (head := 2) (P := fun _ _ _ _ _ => False) (fun _ _ _ _ _ q => q.elim) (fun fu hfu => ?_)
      simp only [↓callX4_placeOf_0, ↓callX4_placeOf_1, ↓cg_5_5, cisa, ki_0, ki_1, ki_m1, ↓vm_aload_n, ↓vm_getfield, ↓vm_goto, ↓vm_iconst, ↓vm_if_acmp_ne, ↓vm_if_icmp_ge, ↓vm_iinc, ↓vm_iload_n, ↓vm_invokevirtual, ↓vm_ireturn, ↓vm_istore_n, ↓xc_1, ↓xc_2, ↓tbX4_placeOf_0, ↓tbX4_placeOf_1, ↓tbX4_placeOf_2, ↓tbX4_placeOf_3, ↓tbX4_placeOf_4, ↓tbX4_placeOf_7, ↓tbX4_placeOf_10, ↓tbX4_placeOf_13, ↓tbX4_placeOf_14, ↓tbX4_placeOf_17, ↓tbX4_placeOf_18, ↓tbX4_placeOf_21, ↓tbX4_placeOf_22, ↓tbX4_placeOf_25, ↓tbX4_placeOf_26, ↓tbX4_placeOf_27, ↓tbX4_placeOf_30, ↓tbX4_placeOf_33, ↓tbX4_placeOf_34, hfu, xstep0, xJ1_hit, xJ1_go, xJ2_hit1, xJ2_hit2, xJ2_go, ↓xif_t, ↓xif_f, seval, ↓xca_eq, ↓xre_l, ↓xre_r, xmask_t, xmask_f, xmask_nil, ↓xst_eq, xX_eq, eI_eq, eMc_eq, eMs_eq, eF_eq, eThr_eq, ↓xS1_mk, ↓xSI_mk, ↓xSR_mk, ↓xLI_0, ↓xLI_s, ↓xLR_0, ↓xLR_s, vRef_ref, vRef_null, vRef_rf, cat_int, cat_ref, cat_null, cat_rf, rf_some, rf_none, rf_null, rf_eq, rf_ref, ref_rf, ref_null, ref_ref, xOk_0, xOk_1, xOk_2r, xOk_2n, xOk_2f, vOpt_rf, vOpt_ref, vOpt_null, List.set_cons_zero, List.set_cons_succ, List.take_succ_cons, List.take_zero, List.drop_succ_cons, List.drop_zero, List.reverse_cons, List.reverse_nil, List.nil_append, List.cons_append, List.append_nil, List.length_cons, List.length_nil, List.map_cons, List.map_nil, List.sum_cons, List.sum_nil, Option.toList_some, Option.toList_none, xRecv_mk, true_and, and_true, true_implies, Nat.reduceAdd, Nat.reduceLeDiff, Nat.zero_le, Nat.le_refl, Nat.add_zero, Nat.zero_add, reduceIte, not_true_eq_false, not_false_eq_true, false_implies, and_self, implies_true, eq_self, Nat.reduceEqDiff, List.cons.injEq, xsn_1, xsn_2, false_and, and_false, or_false, false_or, or_true, true_or, xsn_3, xsn_4, ↓spwJx4a65c_size_8abf5, spcJx4a65c_size_8abf5, ↓spwJx4a65c_get_915e3, spcJx4a65c_get_915e3, f1, f2, f3, f5, e0]
      try simp only [xif_e]
      exact hk
    | succ m ih =>
      intro j hj hk
      have hjn : j < rN S a := by omega
      obtain ⟨g1, g2⟩ := hR.2.2.2 j hjn
      rintro lv st S2 cs ss ⟨rfl, rfl, rfl, rfl, (rfl)⟩
      have e0 := ge_nI hjn (show rN S a < 1000 by omega)
      have e1 : 0 ≤ nI j := nI_pos' (by omega)
      have e2 := lt0_nI hjn (show rN S a < 1000 by omega)
      by_cases c : rB S a j = b
      · refine xgo hG (mb := []) (head := 2) (P := fun _ _ _ _ _ => False) (fun _ _ _ _ _ q => q.elim) (fun fu hfu => ?_)
        have hk2 : KF (rI (nI j)) S := by
          have z : rPl S a b (m + 1) j = nI j := if_pos c
          rwa [z] at hk
        simp only [↓callX4_placeOf_0, ↓callX4_placeOf_1, ↓cg_5_5, cisa, ki_0, ki_1, ki_m1, ↓vm_aload_n, ↓vm_getfield, ↓vm_goto, ↓vm_iconst, ↓vm_if_acmp_ne, ↓vm_if_icmp_ge, ↓vm_iinc, ↓vm_iload_n, ↓vm_invokevirtual, ↓vm_ireturn, ↓vm_istore_n, ↓xc_1, ↓xc_2, ↓tbX4_placeOf_0, ↓tbX4_placeOf_1, ↓tbX4_placeOf_2, ↓tbX4_placeOf_3, ↓tbX4_placeOf_4, ↓tbX4_placeOf_7, ↓tbX4_placeOf_10, ↓tbX4_placeOf_13, ↓tbX4_placeOf_14, ↓tbX4_placeOf_17, ↓tbX4_placeOf_18, ↓tbX4_placeOf_21, ↓tbX4_placeOf_22, ↓tbX4_placeOf_25, ↓tbX4_placeOf_26, ↓tbX4_placeOf_27, ↓tbX4_placeOf_30, ↓tbX4_placeOf_33, ↓tbX4_placeOf_34, hfu, xstep0, xJ1_hit, xJ1_go, xJ2_hit1, xJ2_hit2, xJ2_go, ↓xif_t, ↓xif_f, seval, ↓xca_eq, ↓xre_l, ↓xre_r, xmask_t, xmask_f, xmask_nil, ↓xst_eq, xX_eq, eI_eq, eMc_eq, eMs_eq, eF_eq, eThr_eq, ↓xS1_mk, ↓xSI_mk, ↓xSR_mk, ↓xLI_0, ↓xLI_s, ↓xLR_0, ↓xLR_s, vRef_ref, vRef_null, vRef_rf, cat_int, cat_ref, cat_null, cat_rf, rf_some, rf_none, rf_null, rf_eq, rf_ref, ref_rf, ref_null, ref_ref, xOk_0, xOk_1, xOk_2r, xOk_2n, xOk_2f, vOpt_rf, vOpt_ref, vOpt_null, List.set_cons_zero, List.set_cons_succ, List.take_succ_cons, List.take_zero, List.drop_succ_cons, List.drop_zero, List.reverse_cons, List.reverse_nil, List.nil_append, List.cons_append, List.append_nil, List.length_cons, List.length_nil, List.map_cons, List.map_nil, List.sum_cons, List.sum_nil, Option.toList_some, Option.toList_none, xRecv_mk, true_and, and_true, true_implies, Nat.reduceAdd, Nat.reduceLeDiff, Nat.zero_le, Nat.le_refl, Nat.add_zero, Nat.zero_add, reduceIte, not_true_eq_false, not_false_eq_true, false_implies, and_self, implies_true, eq_self, Nat.reduceEqDiff, List.cons.injEq, xsn_1, xsn_2, false_and, and_false, or_false, false_or, or_true, true_or, xsn_3, xsn_4, ↓spwJx4a65c_size_8abf5, spcJx4a65c_size_8abf5, ↓spwJx4a65c_get_915e3, spcJx4a65c_get_915e3, f1, f2, f3, f4, f5, e0, e1, e2, ix_nI (show j < 1000 by omega), g1, g2, c]
        try simp only [xif_e]
        exact hk2
      · have hk2 : KF (rI (rPl S a b m (j + 1))) S := by
          have z : rPl S a b (m + 1) j = rPl S a b m (j + 1) := if_neg c
          rwa [z] at hk
        refine xgo hG (mb := [true, true, true]) (ih (j + 1) (by omega) hk2) (fun fu hfu => ?_)
        simp only [↓callX4_placeOf_0, ↓callX4_placeOf_1, ↓cg_5_5, cisa, ki_0, ki_1, ki_m1, ↓vm_aload_n, ↓vm_getfield, ↓vm_goto, ↓vm_iconst, ↓vm_if_acmp_ne, ↓vm_if_icmp_ge, ↓vm_iinc, ↓vm_iload_n, ↓vm_invokevirtual, ↓vm_ireturn, ↓vm_istore_n, ↓xc_1, ↓xc_2, ↓tbX4_placeOf_0, ↓tbX4_placeOf_1, ↓tbX4_placeOf_2, ↓tbX4_placeOf_3, ↓tbX4_placeOf_4, ↓tbX4_placeOf_7, ↓tbX4_placeOf_10, ↓tbX4_placeOf_13, ↓tbX4_placeOf_14, ↓tbX4_placeOf_17, ↓tbX4_placeOf_18, ↓tbX4_placeOf_21, ↓tbX4_placeOf_22, ↓tbX4_placeOf_25, ↓tbX4_placeOf_26, ↓tbX4_placeOf_27, ↓tbX4_placeOf_30, ↓tbX4_placeOf_33, ↓tbX4_placeOf_34, hfu, xstep0, xJ1_hit, xJ1_go, xJ2_hit1, xJ2_hit2, xJ2_go, ↓xif_t, ↓xif_f, seval, ↓xca_eq, ↓xre_l, ↓xre_r, xmask_t, xmask_f, xmask_nil, ↓xst_eq, xX_eq, eI_eq, eMc_eq, eMs_eq, eF_eq, eThr_eq, ↓xS1_mk, ↓xSI_mk, ↓xSR_mk, ↓xLI_0, ↓xLI_s, ↓xLR_0, ↓xLR_s, vRef_ref, vRef_null, vRef_rf, cat_int, cat_ref, cat_null, cat_rf, rf_some, rf_none, rf_null, rf_eq, rf_ref, ref_rf, ref_null, ref_ref, xOk_0, xOk_1, xOk_2r, xOk_2n, xOk_2f, vOpt_rf, vOpt_ref, vOpt_null, List.set_cons_zero, List.set_cons_succ, List.take_succ_cons, List.take_zero, List.drop_succ_cons, List.drop_zero, List.reverse_cons, List.reverse_nil, List.nil_append, List.cons_append, List.append_nil, List.length_cons, List.length_nil, List.map_cons, List.map_nil, List.sum_cons, List.sum_nil, Option.toList_some, Option.toList_none, xRecv_mk, true_and, and_true, true_implies, Nat.reduceAdd, Nat.reduceLeDiff, Nat.zero_le, Nat.le_refl, Nat.add_zero, Nat.zero_add, reduceIte, not_true_eq_false, not_false_eq_true, false_implies, and_self, implies_true, eq_self, Nat.reduceEqDiff, List.cons.injEq, xsn_1, xsn_2, false_and, and_false, or_false, false_or, or_true, true_or, xsn_3, xsn_4, ↓spwJx4a65c_size_8abf5, spcJx4a65c_size_8abf5, ↓spwJx4a65c_get_915e3, spcJx4a65c_get_915e3, f1, f2, f3, f4, f5, e0, e1, e2, ix_nI (show j < 1000 by omega), g1, g2, c, nI1]
        try simp only [xif_e]
  refine xgo hG (mb := [true, true, true]) (key (rN S a) 0 (by omega) h) (pc := 0) (fun fu hfu => ?_)
  simp only [↓callX4_placeOf_0, ↓callX4_placeOf_1, ↓cg_5_5, cisa, ki_0, ki_1, ki_m1, ↓vm_aload_n, ↓vm_getfield, ↓vm_goto, ↓vm_iconst, ↓vm_if_acmp_ne, ↓vm_if_icmp_ge, ↓vm_iinc, ↓vm_iload_n, ↓vm_invokevirtual, ↓vm_ireturn, ↓vm_istore_n, ↓xc_1, ↓xc_2, ↓tbX4_placeOf_0, ↓tbX4_placeOf_1, ↓tbX4_placeOf_2, ↓tbX4_placeOf_3, ↓tbX4_placeOf_4, ↓tbX4_placeOf_7, ↓tbX4_placeOf_10, ↓tbX4_placeOf_13, ↓tbX4_placeOf_14, ↓tbX4_placeOf_17, ↓tbX4_placeOf_18, ↓tbX4_placeOf_21, ↓tbX4_placeOf_22, ↓tbX4_placeOf_25, ↓tbX4_placeOf_26, ↓tbX4_placeOf_27, ↓tbX4_placeOf_30, ↓tbX4_placeOf_33, ↓tbX4_placeOf_34, hfu, xstep0, xJ1_hit, xJ1_go, xJ2_hit1, xJ2_hit2, xJ2_go, ↓xif_t, ↓xif_f, seval, ↓xca_eq, ↓xre_l, ↓xre_r, xmask_t, xmask_f, xmask_nil, ↓xst_eq, xX_eq, eI_eq, eMc_eq, eMs_eq, eF_eq, eThr_eq, ↓xS1_mk, ↓xSI_mk, ↓xSR_mk, ↓xLI_0, ↓xLI_s, ↓xLR_0, ↓xLR_s, vRef_ref, vRef_null, vRef_rf, cat_int, cat_ref, cat_null, cat_rf, rf_some, rf_none, rf_null, rf_eq, rf_ref, ref_rf, ref_null, ref_ref, xOk_0, xOk_1, xOk_2r, xOk_2n, xOk_2f, vOpt_rf, vOpt_ref, vOpt_null, List.set_cons_zero, List.set_cons_succ, List.take_succ_cons, List.take_zero, List.drop_succ_cons, List.drop_zero, List.reverse_cons, List.reverse_nil, List.nil_append, List.cons_append, List.append_nil, List.length_cons, List.length_nil, List.map_cons, List.map_nil, List.sum_cons, List.sum_nil, Option.toList_some, Option.toList_none, xRecv_mk, true_and, and_true, true_implies, Nat.reduceAdd, Nat.reduceLeDiff, Nat.zero_le, Nat.le_refl, Nat.add_zero, Nat.zero_add, reduceIte, not_true_eq_false, not_false_eq_true, false_implies, and_self, implies_true, eq_self, Nat.reduceEqDiff, List.cons.injEq, xsn_1, xsn_2, false_and, and_false, or_false, false_or, or_true, true_or, xsn_3, xsn_4, ↓spwJx4a65c_size_8abf5, spcJx4a65c_size_8abf5, ↓spwJx4a65c_get_915e3, spcJx4a65c_get_915e3]
  try simp only [xif_e]
  repeat' (first | rfl | apply And.intro)
