/-! The twin's methods: asking. -/
def mCnt (M : mS) (s : Int32) : Nat → Int32
  | 0 => 0
  | n + 1 => mCnt M s n + (if M.2 34 n = s then 1 else 0)
theorem xin_nI {j n : Nat} (h : j < n) (hn : n ≤ 1000) : vp_in (nI j) n := vp_in_nI h (by omega)
theorem ix_nI {j : Nat} (h : j < 1000) : (nI j).toNatClampNeg = j := nI_clamp (by omega)
theorem ge_nI {j n : Nat} (h : j < n) (hn : n < 1000) : (nI n ≤ nI j) = False := eq_false (nI_ge h (by omega))
theorem ge_nI' {j n : Nat} (h : j < n) (hn : n < 1000) : ¬ nI n ≤ nI j := nI_ge h (by omega)
theorem le_nI_self {n : Nat} : nI n ≤ nI n := Int32.le_refl _
theorem nI1 {j : Nat} : nI j + 1 = nI (j + 1) := nI_1 j
theorem le_nI {a b : Nat} (ha : a < 1000) (hb : b < 1000) : (nI a ≤ nI b) = (a ≤ b) := by
  refine propext ⟨fun h => ?_, fun h => nI_le h (by omega)⟩
  have q := Int32.le_iff_toInt_le.mp h
  rw [nI_toInt (by omega), nI_toInt (by omega)] at q
  omega
theorem lt_nI {a b : Nat} (ha : a < 1000) (hb : b < 1000) : (nI a < nI b) = (a < b) := by
  refine propext ⟨fun h => ?_, fun h => nI_lt h (by omega)⟩
  have q := Int32.lt_iff_toInt_lt.mp h
  rw [nI_toInt (by omega), nI_toInt (by omega)] at q
  omega
theorem eq_nI {a b : Nat} (ha : a < 1000) (hb : b < 1000) : (nI a = nI b) = (a = b) := propext (nI_eq (by omega) (by omega))
theorem sub1_nI {n : Nat} (h : 0 < n) : nI n - 1 = nI (n - 1) := by
  obtain ⟨k, rfl⟩ : ∃ k, n = k + 1 := ⟨n - 1, by omega⟩
  exact nI_pred k
theorem mAst_1 {M : mS} {k i : Nat} {x : Int32} : (mAst M k i x).1 = M.1 := rfl
theorem mAst_2 {M : mS} {k i : Nat} {x : Int32} : (mAst M k i x).2 = fun j n => if j = k ∧ n = i then x else M.2 j n := rfl
theorem mSet_1 {M : mS} {k : Nat} {x : Int32} : (mSet M k x).1 = fun j => if j = k then x else M.1 j := rfl
theorem mSet_2 {M : mS} {k : Nat} {x : Int32} : (mSet M k x).2 = M.2 := rfl
def nBt (M : mS) : Nat := (M.1 29).toNatClampNeg
def nBg (M : mS) : Nat := (M.1 22).toNatClampNeg
def nCo (M : mS) : Nat := (M.1 46).toNatClampNeg
theorem in_le {k : Int32} (m : Nat) (hm : m < 1000) (h0 : 0 ≤ k) (h1 : k ≤ nI m) : vp_in k (m + 1) := by
  rw [vp_in_iff]
  have a := Int32.le_iff_toInt_le.mp h0
  have b := Int32.le_iff_toInt_le.mp h1
  rw [nI_toInt (by omega)] at b
  have c : (0 : Int32).toInt = 0 := rfl
  omega
theorem in_6 {k : Int32} (h0 : 0 ≤ k) (h1 : k ≤ 6) : vp_in k 7 := in_le 6 (by omega) h0 h1
theorem in_7 {k : Int32} (h0 : 0 ≤ k) (h1 : k ≤ 7) : vp_in k 8 := in_le 7 (by omega) h0 h1
theorem in_cn {k x : Int32} {n m : Nat} (hx : x = nI n) (hn : n ≤ m) (hm : m < 1000) (h0 : 0 ≤ k) (h1 : k ≤ x - 1) : vp_in k m := by
  rw [vp_in_iff]
  have a := Int32.le_iff_toInt_le.mp h0
  have b := Int32.le_iff_toInt_le.mp h1
  have c : (0 : Int32).toInt = 0 := rfl
  rw [hx, show (1 : Int32) = nI 1 from rfl, pk_sub_toInt (by omega) (by omega)] at b
  omega
theorem in_tier {p t : Int32} (h0 : 0 ≤ p) (h1 : p ≤ 7) (h2 : 0 ≤ t) (h3 : t ≤ 1) : vp_in (2 * p + t) 16 := by
  obtain ⟨a, ha, rfl⟩ := vp_in_of (in_7 h0 h1) (by omega)
  obtain ⟨b, hb, rfl⟩ := vp_in_of (in_le 1 (by omega) h2 h3) (by omega)
  rw [show (2 : Int32) = nI 2 from rfl, pk_mul, nI_add]
  exact vp_in_nI (by omega) (by omega)
theorem in_bg {M : mS} {k : Int32} (hc : M.1 22 = nI (nBg M) ∧ nBg M ≤ 24) (h0 : 0 ≤ k) (h1 : k ≤ M.1 22 - 1) : vp_in k 24 := in_cn hc.1 hc.2 (by omega) h0 h1
theorem in_bt {M : mS} {k : Int32} (hc : M.1 29 = nI (nBt M) ∧ nBt M ≤ 6) (h0 : 0 ≤ k) (h1 : k ≤ M.1 29 - 1) : vp_in k 6 := in_cn hc.1 hc.2 (by omega) h0 h1
theorem in_co {M : mS} {k : Int32} (hc : M.1 46 = nI (nCo M) ∧ nCo M ≤ 12) (h0 : 0 ≤ k) (h1 : k ≤ M.1 46 - 1) : vp_in k 12 := in_cn hc.1 hc.2 (by omega) h0 h1

def tbX8_in : List (Nat × xHint) := [(0, .iload_n 0, 0, 0, 0, []), (1, .iload_n 1, 1, 0, 0, []), (2, .if_icmp .lt 12, 14, 0, 0, []), (5, .iload_n 0, 0, 0, 0, []), (6, .iload_n 2, 2, 0, 0, []), (7, .if_icmp .gt 7, 14, 0, 0, []), (10, .iconst 1, 0, 0, 0, []), (11, .goto 4, 15, 0, 0, []), (14, .iconst 0, 0, 0, 0, []), (15, .ireturn, 1, 0, 0, [])]
def clX8_in : List (Instr × Nat × Nat × Nat) := []
def thX8_in : List (Nat × Nat) := []
theorem ckX8_in : tbX8_in.all (xRow RX8 cX8_in wsX8_in vwCl [] clX8_in thX8_in 3 (yX8_in.name == "<init>") (some .boolean)) = true := xRow_q 0xac030400a7040700a31c1a0c00a11b1a 16 (by decide +kernel) (by decide +kernel)
theorem usX8_in : xUse wsX8_in vwCl [] = true := xUse_n
theorem tbX8_in_0 {k : Instr → Nat → Nat → Nat → List Nat → Prop} : xse (xFind tbX8_in 0) k = k (.iload_n 0) 0 0 0 [] := rfl
theorem tbX8_in_1 {k : Instr → Nat → Nat → Nat → List Nat → Prop} : xse (xFind tbX8_in 1) k = k (.iload_n 1) 1 0 0 [] := rfl
theorem tbX8_in_2 {k : Instr → Nat → Nat → Nat → List Nat → Prop} : xse (xFind tbX8_in 2) k = k (.if_icmp .lt 12) 14 0 0 [] := rfl
theorem tbX8_in_5 {k : Instr → Nat → Nat → Nat → List Nat → Prop} : xse (xFind tbX8_in 5) k = k (.iload_n 0) 0 0 0 [] := rfl
theorem tbX8_in_6 {k : Instr → Nat → Nat → Nat → List Nat → Prop} : xse (xFind tbX8_in 6) k = k (.iload_n 2) 2 0 0 [] := rfl
theorem tbX8_in_7 {k : Instr → Nat → Nat → Nat → List Nat → Prop} : xse (xFind tbX8_in 7) k = k (.if_icmp .gt 7) 14 0 0 [] := rfl
theorem tbX8_in_10 {k : Instr → Nat → Nat → Nat → List Nat → Prop} : xse (xFind tbX8_in 10) k = k (.iconst 1) 0 0 0 [] := rfl
theorem tbX8_in_11 {k : Instr → Nat → Nat → Nat → List Nat → Prop} : xse (xFind tbX8_in 11) k = k (.goto 4) 15 0 0 [] := rfl
theorem tbX8_in_14 {k : Instr → Nat → Nat → Nat → List Nat → Prop} : xse (xFind tbX8_in 14) k = k (.iconst 0) 0 0 0 [] := rfl
theorem tbX8_in_15 {k : Instr → Nat → Nat → Nat → List Nat → Prop} : xse (xFind tbX8_in 15) k = k (.ireturn) 1 0 0 [] := rfl

def spX8_in (aM : Nat → Nat) : xSp mS := (fun av M => (0, 0), fun av M K => ∃ (v : Int32) (a : Int32) (b : Int32), av = [.int v, .int a, .int b] ∧ (K (rI (bi (a ≤ v ∧ v ≤ b))) M))
theorem spcX8_in {av : List Value} {M : mS} {aM : Nat → Nat} : (spX8_in aM).1 av M = (0, 0) := rfl
theorem spwX8_in {M : mS} {aM : Nat → Nat} {K : xRes → mS → Prop} {v : Int32} {a : Int32} {b : Int32} : (spX8_in aM).2 [.int v, .int a, .int b] M K = (K (rI (bi (a ≤ v ∧ v ≤ b))) M) :=
  propext ⟨fun h => by
    simp only [spX8_in] at h
    obtain ⟨_, _, _, e, h⟩ := h
    simp only [List.cons.injEq, Value.int.injEq, Value.ref.injEq, rf_eq, and_true, true_and] at e
    obtain ⟨rfl, rfl, rfl⟩ := e
    exact h, fun h => ⟨_, _, _, rfl, h⟩⟩

set_option maxHeartbeats 4000000 in
set_option maxRecDepth 20000 in
theorem semX8_in (l : Launch) (W9 : xWd) (aM : Nat → Nat) (hi : mInj aM) : xSem l W9 (mI aM) yX8_in wsX8_in 0 0 (spX8_in aM) := by
  refine xSem_of (call := fun _ => none) (thrf := fun _ => "") (mI_law hi) (by decide +kernel) rfl ckX8_in usX8_in xCallsOK_nil xThrOK_nil ?_ ?_
  · intro av M KF h
    obtain ⟨v, a, b, rfl, h⟩ := h
    exact ⟨by intro v hv; simp only [List.mem_cons, List.not_mem_nil, or_false] at hv; rcases hv with rfl | rfl | rfl <;> first | rfl | exact cat_rf, Nat.le_of_ble_eq_true rfl⟩
  intro av M KF h G hG
  obtain ⟨v, a, b, rfl, h⟩ := h
  rw [show (spX8_in aM).1 _ M = _ from spcX8_in] at hG
  try dsimp only at hG
  change G 0 [some (.int v), some (.int a), some (.int b)] [] M 0 0
  refine xgo0 hG (fun fu hfu => ?_)
  clear hG
  simp only [ki_0, ki_1, ↓vm_goto, ↓vm_iconst, ↓vm_if_icmp_gt, ↓vm_if_icmp_lt, ↓vm_iload_n, ↓vm_ireturn, ↓tbX8_in_0, ↓tbX8_in_1, ↓tbX8_in_2, ↓tbX8_in_5, ↓tbX8_in_6, ↓tbX8_in_7, ↓tbX8_in_10, ↓tbX8_in_11, ↓tbX8_in_14, ↓tbX8_in_15, hfu, xstep0, xJ1_hit, xJ1_go, xJ2_hit1, xJ2_hit2, xJ2_go, ↓xif_t, ↓xif_f, seval, ↓xca_eq, ↓xre_l, ↓xre_r, xmask_t, xmask_f, xmask_nil, ↓xst_eq, xX_eq, eI_eq, eMc_eq, eMs_eq, eF_eq, eThr_eq, ↓xS1_mk, ↓xSI_mk, ↓xSR_mk, ↓xLI_0, ↓xLI_s, ↓xLR_0, ↓xLR_s, vRef_ref, vRef_null, vRef_rf, cat_int, cat_ref, cat_null, cat_rf, rf_some, rf_none, rf_null, rf_eq, rf_ref, ref_rf, ref_null, ref_ref, xOk_0, xOk_1, xOk_2r, xOk_2n, xOk_2f, vOpt_rf, vOpt_ref, vOpt_null, List.set_cons_zero, List.set_cons_succ, List.take_succ_cons, List.take_zero, List.drop_succ_cons, List.drop_zero, List.reverse_cons, List.reverse_nil, List.nil_append, List.cons_append, List.append_nil, List.length_cons, List.length_nil, List.map_cons, List.map_nil, List.sum_cons, List.sum_nil, Option.toList_some, Option.toList_none, xRecv_mk, true_and, and_true, true_implies, Nat.reduceAdd, Nat.reduceLeDiff, Nat.zero_le, Nat.le_refl, Nat.add_zero, Nat.zero_add, reduceIte, not_true_eq_false, not_false_eq_true, false_implies, and_self, implies_true, eq_self, Nat.reduceEqDiff, List.cons.injEq, xsn_1, xsn_2, false_and, and_false, or_false, false_or, or_true, true_or, xsn_3, xsn_4]
  try simp only [xif_e]
  grind [bi]

def tbX8_isSection : List (Nat × xHint) := [(0, .iload_n 0, 0, 0, 0, []), (1, .iconst 0, 0, 0, 0, []), (2, .bipush 6, 0, 0, 0, []), (4, .invokestatic 159, 0, 3, 0, []), (7, .ireturn, 1, 0, 0, [])]
def clX8_isSection : List (Instr × Nat × Nat × Nat) := [(.invokestatic 159, 0, 3, 0)]
def thX8_isSection : List (Nat × Nat) := []
theorem ckX8_isSection : tbX8_isSection.all (xRow RX8 cX8_isSection wsX8_isSection vwCl [] clX8_isSection thX8_isSection 1 (yX8_isSection.name == "<init>") (some .boolean)) = true := xRow_q 0xac9f00b80610031a 8 (by decide +kernel) (by decide +kernel)
theorem usX8_isSection : xUse wsX8_isSection vwCl [] = true := xUse_n
theorem tbX8_isSection_0 {k : Instr → Nat → Nat → Nat → List Nat → Prop} : xse (xFind tbX8_isSection 0) k = k (.iload_n 0) 0 0 0 [] := rfl
theorem tbX8_isSection_1 {k : Instr → Nat → Nat → Nat → List Nat → Prop} : xse (xFind tbX8_isSection 1) k = k (.iconst 0) 0 0 0 [] := rfl
theorem tbX8_isSection_2 {k : Instr → Nat → Nat → Nat → List Nat → Prop} : xse (xFind tbX8_isSection 2) k = k (.bipush 6) 0 0 0 [] := rfl
theorem tbX8_isSection_4 {k : Instr → Nat → Nat → Nat → List Nat → Prop} : xse (xFind tbX8_isSection 4) k = k (.invokestatic 159) 0 3 0 [] := rfl
theorem tbX8_isSection_7 {k : Instr → Nat → Nat → Nat → List Nat → Prop} : xse (xFind tbX8_isSection 7) k = k (.ireturn) 1 0 0 [] := rfl

def spX8_isSection (aM : Nat → Nat) : xSp mS := (fun av M => (0, 0), fun av M K => ∃ (k : Int32), av = [.int k] ∧ (K (rI (bi (0 ≤ k ∧ k ≤ 6))) M))
theorem spcX8_isSection {av : List Value} {M : mS} {aM : Nat → Nat} : (spX8_isSection aM).1 av M = (0, 0) := rfl
theorem spwX8_isSection {M : mS} {aM : Nat → Nat} {K : xRes → mS → Prop} {k : Int32} : (spX8_isSection aM).2 [.int k] M K = (K (rI (bi (0 ≤ k ∧ k ≤ 6))) M) :=
  propext ⟨fun h => by
    simp only [spX8_isSection] at h
    obtain ⟨_, e, h⟩ := h
    simp only [List.cons.injEq, Value.int.injEq, Value.ref.injEq, rf_eq, and_true, true_and] at e
    obtain rfl := e
    exact h, fun h => ⟨_, rfl, h⟩⟩

def callX8_isSection (aM : Nat → Nat) : Nat → Option (xSp mS) := fun n => match n with | 0 => some (spX8_in aM) | _ => none

theorem callX8_isSection_0 {aM : Nat → Nat} {k : xSp mS → Prop} : xcs (callX8_isSection aM 0) k = k (spX8_in aM) := rfl

theorem crX8_isSection (l : Launch) (W9 : xWd) (aM : Nat → Nat) (hi : mInj aM) : xCallsOK l W9 (mI aM) (callX8_isSection aM) clX8_isSection RX8 wsX8_isSection 1 22 1 := by
  intro E A p e R s m args below meth c hI hF hL X
  exact List.forall_mem_cons.mpr ⟨⟨_, rfl, xCR_S X (by rw [hI]; exact (semX8_in l W9 aM hi)) gX8_isSection_X8_in rfl (by decide +kernel) (by rw [hF, hL]; decide)⟩,
    fun _ h => nomatch h⟩

set_option maxHeartbeats 4000000 in
set_option maxRecDepth 20000 in
theorem semX8_isSection (l : Launch) (W9 : xWd) (aM : Nat → Nat) (hi : mInj aM) : xSem l W9 (mI aM) yX8_isSection wsX8_isSection 1 22 (spX8_isSection aM) := by
  refine xSem_of (call := callX8_isSection aM) (thrf := fun _ => "") (mI_law hi) (by decide +kernel) rfl ckX8_isSection usX8_isSection (crX8_isSection l W9 aM hi) xThrOK_nil ?_ ?_
  · intro av M KF h
    obtain ⟨k, rfl, h⟩ := h
    exact ⟨by intro v hv; simp only [List.mem_cons, List.not_mem_nil, or_false] at hv; rcases hv with rfl <;> first | rfl | exact cat_rf, Nat.le_of_ble_eq_true rfl⟩
  intro av M KF h G hG
  obtain ⟨k, rfl, h⟩ := h
  rw [show (spX8_isSection aM).1 _ M = _ from spcX8_isSection] at hG
  try dsimp only at hG
  change G 0 [some (.int k)] [] M 0 0
  refine xgo0 hG (fun fu hfu => ?_)
  clear hG
  simp only [↓callX8_isSection_0, kb_6, kc_6, ki_0, ↓vm_bipush, ↓vm_iconst, ↓vm_iload_n, ↓vm_invokestatic, ↓vm_ireturn, ↓xc_3, ↓tbX8_isSection_0, ↓tbX8_isSection_1, ↓tbX8_isSection_2, ↓tbX8_isSection_4, ↓tbX8_isSection_7, hfu, xstep0, xJ1_hit, xJ1_go, xJ2_hit1, xJ2_hit2, xJ2_go, ↓xif_t, ↓xif_f, seval, ↓xca_eq, ↓xre_l, ↓xre_r, xmask_t, xmask_f, xmask_nil, ↓xst_eq, xX_eq, eI_eq, eMc_eq, eMs_eq, eF_eq, eThr_eq, ↓xS1_mk, ↓xSI_mk, ↓xSR_mk, ↓xLI_0, ↓xLI_s, ↓xLR_0, ↓xLR_s, vRef_ref, vRef_null, vRef_rf, cat_int, cat_ref, cat_null, cat_rf, rf_some, rf_none, rf_null, rf_eq, rf_ref, ref_rf, ref_null, ref_ref, xOk_0, xOk_1, xOk_2r, xOk_2n, xOk_2f, vOpt_rf, vOpt_ref, vOpt_null, List.set_cons_zero, List.set_cons_succ, List.take_succ_cons, List.take_zero, List.drop_succ_cons, List.drop_zero, List.reverse_cons, List.reverse_nil, List.nil_append, List.cons_append, List.append_nil, List.length_cons, List.length_nil, List.map_cons, List.map_nil, List.sum_cons, List.sum_nil, Option.toList_some, Option.toList_none, xRecv_mk, true_and, and_true, true_implies, Nat.reduceAdd, Nat.reduceLeDiff, Nat.zero_le, Nat.le_refl, Nat.add_zero, Nat.zero_add, reduceIte, not_true_eq_false, not_false_eq_true, false_implies, and_self, implies_true, eq_self, Nat.reduceEqDiff, List.cons.injEq, xsn_1, xsn_2, false_and, and_false, or_false, false_or, or_true, true_or, xsn_3, xsn_4, ↓spwX8_in, spcX8_in]
  try simp only [xif_e]
  grind [bi]

def tbX8_isPoint : List (Nat × xHint) := [(0, .iload_n 0, 0, 0, 0, []), (1, .iconst 0, 0, 0, 0, []), (2, .bipush 7, 0, 0, 0, []), (4, .invokestatic 159, 0, 3, 0, []), (7, .ireturn, 1, 0, 0, [])]
def clX8_isPoint : List (Instr × Nat × Nat × Nat) := [(.invokestatic 159, 0, 3, 0)]
def thX8_isPoint : List (Nat × Nat) := []
theorem ckX8_isPoint : tbX8_isPoint.all (xRow RX8 cX8_isPoint wsX8_isPoint vwCl [] clX8_isPoint thX8_isPoint 1 (yX8_isPoint.name == "<init>") (some .boolean)) = true := xRow_q 0xac9f00b80710031a 8 (by decide +kernel) (by decide +kernel)
theorem usX8_isPoint : xUse wsX8_isPoint vwCl [] = true := xUse_n
theorem tbX8_isPoint_0 {k : Instr → Nat → Nat → Nat → List Nat → Prop} : xse (xFind tbX8_isPoint 0) k = k (.iload_n 0) 0 0 0 [] := rfl
theorem tbX8_isPoint_1 {k : Instr → Nat → Nat → Nat → List Nat → Prop} : xse (xFind tbX8_isPoint 1) k = k (.iconst 0) 0 0 0 [] := rfl
theorem tbX8_isPoint_2 {k : Instr → Nat → Nat → Nat → List Nat → Prop} : xse (xFind tbX8_isPoint 2) k = k (.bipush 7) 0 0 0 [] := rfl
theorem tbX8_isPoint_4 {k : Instr → Nat → Nat → Nat → List Nat → Prop} : xse (xFind tbX8_isPoint 4) k = k (.invokestatic 159) 0 3 0 [] := rfl
theorem tbX8_isPoint_7 {k : Instr → Nat → Nat → Nat → List Nat → Prop} : xse (xFind tbX8_isPoint 7) k = k (.ireturn) 1 0 0 [] := rfl

def spX8_isPoint (aM : Nat → Nat) : xSp mS := (fun av M => (0, 0), fun av M K => ∃ (k : Int32), av = [.int k] ∧ (K (rI (bi (0 ≤ k ∧ k ≤ 7))) M))
theorem spcX8_isPoint {av : List Value} {M : mS} {aM : Nat → Nat} : (spX8_isPoint aM).1 av M = (0, 0) := rfl
theorem spwX8_isPoint {M : mS} {aM : Nat → Nat} {K : xRes → mS → Prop} {k : Int32} : (spX8_isPoint aM).2 [.int k] M K = (K (rI (bi (0 ≤ k ∧ k ≤ 7))) M) :=
  propext ⟨fun h => by
    simp only [spX8_isPoint] at h
    obtain ⟨_, e, h⟩ := h
    simp only [List.cons.injEq, Value.int.injEq, Value.ref.injEq, rf_eq, and_true, true_and] at e
    obtain rfl := e
    exact h, fun h => ⟨_, rfl, h⟩⟩

def callX8_isPoint (aM : Nat → Nat) : Nat → Option (xSp mS) := fun n => match n with | 0 => some (spX8_in aM) | _ => none

theorem callX8_isPoint_0 {aM : Nat → Nat} {k : xSp mS → Prop} : xcs (callX8_isPoint aM 0) k = k (spX8_in aM) := rfl

theorem crX8_isPoint (l : Launch) (W9 : xWd) (aM : Nat → Nat) (hi : mInj aM) : xCallsOK l W9 (mI aM) (callX8_isPoint aM) clX8_isPoint RX8 wsX8_isPoint 1 22 1 := by
  intro E A p e R s m args below meth c hI hF hL X
  exact List.forall_mem_cons.mpr ⟨⟨_, rfl, xCR_S X (by rw [hI]; exact (semX8_in l W9 aM hi)) gX8_isPoint_X8_in rfl (by decide +kernel) (by rw [hF, hL]; decide)⟩,
    fun _ h => nomatch h⟩

set_option maxHeartbeats 4000000 in
set_option maxRecDepth 20000 in
theorem semX8_isPoint (l : Launch) (W9 : xWd) (aM : Nat → Nat) (hi : mInj aM) : xSem l W9 (mI aM) yX8_isPoint wsX8_isPoint 1 22 (spX8_isPoint aM) := by
  refine xSem_of (call := callX8_isPoint aM) (thrf := fun _ => "") (mI_law hi) (by decide +kernel) rfl ckX8_isPoint usX8_isPoint (crX8_isPoint l W9 aM hi) xThrOK_nil ?_ ?_
  · intro av M KF h
    obtain ⟨k, rfl, h⟩ := h
    exact ⟨by intro v hv; simp only [List.mem_cons, List.not_mem_nil, or_false] at hv; rcases hv with rfl <;> first | rfl | exact cat_rf, Nat.le_of_ble_eq_true rfl⟩
  intro av M KF h G hG
  obtain ⟨k, rfl, h⟩ := h
  rw [show (spX8_isPoint aM).1 _ M = _ from spcX8_isPoint] at hG
  try dsimp only at hG
  change G 0 [some (.int k)] [] M 0 0
  refine xgo0 hG (fun fu hfu => ?_)
  clear hG
  simp only [↓callX8_isPoint_0, kb_7, kc_7, ki_0, ↓vm_bipush, ↓vm_iconst, ↓vm_iload_n, ↓vm_invokestatic, ↓vm_ireturn, ↓xc_3, ↓tbX8_isPoint_0, ↓tbX8_isPoint_1, ↓tbX8_isPoint_2, ↓tbX8_isPoint_4, ↓tbX8_isPoint_7, hfu, xstep0, xJ1_hit, xJ1_go, xJ2_hit1, xJ2_hit2, xJ2_go, ↓xif_t, ↓xif_f, seval, ↓xca_eq, ↓xre_l, ↓xre_r, xmask_t, xmask_f, xmask_nil, ↓xst_eq, xX_eq, eI_eq, eMc_eq, eMs_eq, eF_eq, eThr_eq, ↓xS1_mk, ↓xSI_mk, ↓xSR_mk, ↓xLI_0, ↓xLI_s, ↓xLR_0, ↓xLR_s, vRef_ref, vRef_null, vRef_rf, cat_int, cat_ref, cat_null, cat_rf, rf_some, rf_none, rf_null, rf_eq, rf_ref, ref_rf, ref_null, ref_ref, xOk_0, xOk_1, xOk_2r, xOk_2n, xOk_2f, vOpt_rf, vOpt_ref, vOpt_null, List.set_cons_zero, List.set_cons_succ, List.take_succ_cons, List.take_zero, List.drop_succ_cons, List.drop_zero, List.reverse_cons, List.reverse_nil, List.nil_append, List.cons_append, List.append_nil, List.length_cons, List.length_nil, List.map_cons, List.map_nil, List.sum_cons, List.sum_nil, Option.toList_some, Option.toList_none, xRecv_mk, true_and, and_true, true_implies, Nat.reduceAdd, Nat.reduceLeDiff, Nat.zero_le, Nat.le_refl, Nat.add_zero, Nat.zero_add, reduceIte, not_true_eq_false, not_false_eq_true, false_implies, and_self, implies_true, eq_self, Nat.reduceEqDiff, List.cons.injEq, xsn_1, xsn_2, false_and, and_false, or_false, false_or, or_true, true_or, xsn_3, xsn_4, ↓spwX8_in, spcX8_in]
  try simp only [xif_e]
  grind [bi]

def tbX8_isTier : List (Nat × xHint) := [(0, .iload_n 0, 0, 0, 0, []), (1, .invokestatic 163, 0, 1, 0, []), (4, .ifCond .eq 16, 20, 0, 0, []), (7, .iload_n 1, 1, 0, 0, []), (8, .iconst 0, 0, 0, 0, []), (9, .iconst 1, 0, 0, 0, []), (10, .invokestatic 159, 1, 3, 0, []), (13, .ifCond .eq 7, 20, 0, 0, []), (16, .iconst 1, 0, 0, 0, []), (17, .goto 4, 21, 0, 0, []), (20, .iconst 0, 0, 0, 0, []), (21, .ireturn, 1, 0, 0, [])]
def clX8_isTier : List (Instr × Nat × Nat × Nat) := [(.invokestatic 163, 0, 1, 0), (.invokestatic 159, 1, 3, 0)]
def thX8_isTier : List (Nat × Nat) := []
theorem ckX8_isTier : tbX8_isTier.all (xRow RX8 cX8_isTier wsX8_isTier vwCl [] clX8_isTier thX8_isTier 2 (yX8_isTier.name == "<init>") (some .boolean)) = true := xRow_q 0xac030400a7040700999f00b804031b100099a300b81a 22 (by decide +kernel) (by decide +kernel)
theorem usX8_isTier : xUse wsX8_isTier vwCl [] = true := xUse_n
theorem tbX8_isTier_0 {k : Instr → Nat → Nat → Nat → List Nat → Prop} : xse (xFind tbX8_isTier 0) k = k (.iload_n 0) 0 0 0 [] := rfl
theorem tbX8_isTier_1 {k : Instr → Nat → Nat → Nat → List Nat → Prop} : xse (xFind tbX8_isTier 1) k = k (.invokestatic 163) 0 1 0 [] := rfl
theorem tbX8_isTier_4 {k : Instr → Nat → Nat → Nat → List Nat → Prop} : xse (xFind tbX8_isTier 4) k = k (.ifCond .eq 16) 20 0 0 [] := rfl
theorem tbX8_isTier_7 {k : Instr → Nat → Nat → Nat → List Nat → Prop} : xse (xFind tbX8_isTier 7) k = k (.iload_n 1) 1 0 0 [] := rfl
theorem tbX8_isTier_8 {k : Instr → Nat → Nat → Nat → List Nat → Prop} : xse (xFind tbX8_isTier 8) k = k (.iconst 0) 0 0 0 [] := rfl
theorem tbX8_isTier_9 {k : Instr → Nat → Nat → Nat → List Nat → Prop} : xse (xFind tbX8_isTier 9) k = k (.iconst 1) 0 0 0 [] := rfl
theorem tbX8_isTier_10 {k : Instr → Nat → Nat → Nat → List Nat → Prop} : xse (xFind tbX8_isTier 10) k = k (.invokestatic 159) 1 3 0 [] := rfl
theorem tbX8_isTier_13 {k : Instr → Nat → Nat → Nat → List Nat → Prop} : xse (xFind tbX8_isTier 13) k = k (.ifCond .eq 7) 20 0 0 [] := rfl
theorem tbX8_isTier_16 {k : Instr → Nat → Nat → Nat → List Nat → Prop} : xse (xFind tbX8_isTier 16) k = k (.iconst 1) 0 0 0 [] := rfl
theorem tbX8_isTier_17 {k : Instr → Nat → Nat → Nat → List Nat → Prop} : xse (xFind tbX8_isTier 17) k = k (.goto 4) 21 0 0 [] := rfl
theorem tbX8_isTier_20 {k : Instr → Nat → Nat → Nat → List Nat → Prop} : xse (xFind tbX8_isTier 20) k = k (.iconst 0) 0 0 0 [] := rfl
theorem tbX8_isTier_21 {k : Instr → Nat → Nat → Nat → List Nat → Prop} : xse (xFind tbX8_isTier 21) k = k (.ireturn) 1 0 0 [] := rfl

def spX8_isTier (aM : Nat → Nat) : xSp mS := (fun av M => (0, 0), fun av M K => ∃ (p : Int32) (t : Int32), av = [.int p, .int t] ∧ (K (rI (bi ((0 ≤ p ∧ p ≤ 7) ∧ 0 ≤ t ∧ t ≤ 1))) M))
theorem spcX8_isTier {av : List Value} {M : mS} {aM : Nat → Nat} : (spX8_isTier aM).1 av M = (0, 0) := rfl
theorem spwX8_isTier {M : mS} {aM : Nat → Nat} {K : xRes → mS → Prop} {p : Int32} {t : Int32} : (spX8_isTier aM).2 [.int p, .int t] M K = (K (rI (bi ((0 ≤ p ∧ p ≤ 7) ∧ 0 ≤ t ∧ t ≤ 1))) M) :=
  propext ⟨fun h => by
    simp only [spX8_isTier] at h
    obtain ⟨_, _, e, h⟩ := h
    simp only [List.cons.injEq, Value.int.injEq, Value.ref.injEq, rf_eq, and_true, true_and] at e
    obtain ⟨rfl, rfl⟩ := e
    exact h, fun h => ⟨_, _, rfl, h⟩⟩

def callX8_isTier (aM : Nat → Nat) : Nat → Option (xSp mS) := fun n => match n with | 0 => some (spX8_isPoint aM) | 1 => some (spX8_in aM) | _ => none

theorem callX8_isTier_0 {aM : Nat → Nat} {k : xSp mS → Prop} : xcs (callX8_isTier aM 0) k = k (spX8_isPoint aM) := rfl

theorem callX8_isTier_1 {aM : Nat → Nat} {k : xSp mS → Prop} : xcs (callX8_isTier aM 1) k = k (spX8_in aM) := rfl

theorem crX8_isTier (l : Launch) (W9 : xWd) (aM : Nat → Nat) (hi : mInj aM) : xCallsOK l W9 (mI aM) (callX8_isTier aM) clX8_isTier RX8 wsX8_isTier 2 42 2 := by
  intro E A p e R s m args below meth c hI hF hL X
  exact List.forall_mem_cons.mpr ⟨⟨_, rfl, xCR_S X (by rw [hI]; exact (semX8_isPoint l W9 aM hi)) gX8_isTier_X8_isPoint rfl (by decide +kernel) (by rw [hF, hL]; decide)⟩,
    List.forall_mem_cons.mpr ⟨⟨_, rfl, xCR_S X (by rw [hI]; exact (semX8_in l W9 aM hi)) gX8_isTier_X8_in rfl (by decide +kernel) (by rw [hF, hL]; decide)⟩,
    fun _ h => nomatch h⟩⟩

set_option maxHeartbeats 4000000 in
set_option maxRecDepth 20000 in
theorem semX8_isTier (l : Launch) (W9 : xWd) (aM : Nat → Nat) (hi : mInj aM) : xSem l W9 (mI aM) yX8_isTier wsX8_isTier 2 42 (spX8_isTier aM) := by
  refine xSem_of (call := callX8_isTier aM) (thrf := fun _ => "") (mI_law hi) (by decide +kernel) rfl ckX8_isTier usX8_isTier (crX8_isTier l W9 aM hi) xThrOK_nil ?_ ?_
  · intro av M KF h
    obtain ⟨p, t, rfl, h⟩ := h
    exact ⟨by intro v hv; simp only [List.mem_cons, List.not_mem_nil, or_false] at hv; rcases hv with rfl | rfl <;> first | rfl | exact cat_rf, Nat.le_of_ble_eq_true rfl⟩
  intro av M KF h G hG
  obtain ⟨p, t, rfl, h⟩ := h
  rw [show (spX8_isTier aM).1 _ M = _ from spcX8_isTier] at hG
  try dsimp only at hG
  change G 0 [some (.int p), some (.int t)] [] M 0 0
  refine xgo0 hG (fun fu hfu => ?_)
  clear hG
  simp only [↓callX8_isTier_0, ↓callX8_isTier_1, ki_0, ki_1, ↓vm_goto, ↓vm_iconst, ↓vm_ifCond_eq, ↓vm_iload_n, ↓vm_invokestatic, ↓vm_ireturn, ↓xc_1, ↓xc_3, ↓tbX8_isTier_0, ↓tbX8_isTier_1, ↓tbX8_isTier_4, ↓tbX8_isTier_7, ↓tbX8_isTier_8, ↓tbX8_isTier_9, ↓tbX8_isTier_10, ↓tbX8_isTier_13, ↓tbX8_isTier_16, ↓tbX8_isTier_17, ↓tbX8_isTier_20, ↓tbX8_isTier_21, hfu, xstep0, xJ1_hit, xJ1_go, xJ2_hit1, xJ2_hit2, xJ2_go, ↓xif_t, ↓xif_f, seval, ↓xca_eq, ↓xre_l, ↓xre_r, xmask_t, xmask_f, xmask_nil, ↓xst_eq, xX_eq, eI_eq, eMc_eq, eMs_eq, eF_eq, eThr_eq, ↓xS1_mk, ↓xSI_mk, ↓xSR_mk, ↓xLI_0, ↓xLI_s, ↓xLR_0, ↓xLR_s, vRef_ref, vRef_null, vRef_rf, cat_int, cat_ref, cat_null, cat_rf, rf_some, rf_none, rf_null, rf_eq, rf_ref, ref_rf, ref_null, ref_ref, xOk_0, xOk_1, xOk_2r, xOk_2n, xOk_2f, vOpt_rf, vOpt_ref, vOpt_null, List.set_cons_zero, List.set_cons_succ, List.take_succ_cons, List.take_zero, List.drop_succ_cons, List.drop_zero, List.reverse_cons, List.reverse_nil, List.nil_append, List.cons_append, List.append_nil, List.length_cons, List.length_nil, List.map_cons, List.map_nil, List.sum_cons, List.sum_nil, Option.toList_some, Option.toList_none, xRecv_mk, true_and, and_true, true_implies, Nat.reduceAdd, Nat.reduceLeDiff, Nat.zero_le, Nat.le_refl, Nat.add_zero, Nat.zero_add, reduceIte, not_true_eq_false, not_false_eq_true, false_implies, and_self, implies_true, eq_self, Nat.reduceEqDiff, List.cons.injEq, xsn_1, xsn_2, false_and, and_false, or_false, false_or, or_true, true_or, xsn_3, xsn_4, ↓spwX8_isPoint, spcX8_isPoint, ↓spwX8_in, spcX8_in]
  try simp only [xif_e]
  grind [bi]

def tbX8_thrown : List (Nat × xHint) := [(0, .aload_n 0, 0, 0, 0, []), (1, .getfield 155, 9, 0, 0, []), (4, .ireturn, 0, 0, 0, [])]
def clX8_thrown : List (Instr × Nat × Nat × Nat) := []
def thX8_thrown : List (Nat × Nat) := []
theorem ckX8_thrown : tbX8_thrown.all (xRow RX8 cX8_thrown wsX8_thrown vwCl [9] clX8_thrown thX8_thrown 1 (yX8_thrown.name == "<init>") (some .int)) = true := xRow_q 0xac9b00b42a 5 (by decide +kernel) (by decide +kernel)
theorem usX8_thrown : xUse wsX8_thrown vwCl [9] = true := xUse_g rfl (lw_good lwl_X8_thrown lwl_X80 (by decide +kernel)) xUse_n
theorem tbX8_thrown_0 {k : Instr → Nat → Nat → Nat → List Nat → Prop} : xse (xFind tbX8_thrown 0) k = k (.aload_n 0) 0 0 0 [] := rfl
theorem tbX8_thrown_1 {k : Instr → Nat → Nat → Nat → List Nat → Prop} : xse (xFind tbX8_thrown 1) k = k (.getfield 155) 9 0 0 [] := rfl
theorem tbX8_thrown_4 {k : Instr → Nat → Nat → Nat → List Nat → Prop} : xse (xFind tbX8_thrown 4) k = k (.ireturn) 0 0 0 [] := rfl

def spX8_thrown (aM : Nat → Nat) : xSp mS := (fun av M => (0, 0), fun av M K => av = [.ref (aM 0)] ∧ (K (rI (M.1 0)) M))
theorem spcX8_thrown {av : List Value} {M : mS} {aM : Nat → Nat} : (spX8_thrown aM).1 av M = (0, 0) := rfl
theorem spwX8_thrown {M : mS} {aM : Nat → Nat} {K : xRes → mS → Prop}  : (spX8_thrown aM).2 [.ref (aM 0)] M K = (K (rI (M.1 0)) M) :=
  propext ⟨fun h => by
    simp only [spX8_thrown] at h
    obtain ⟨e, h⟩ := h
    
    
    exact h, fun h => ⟨rfl, h⟩⟩

set_option maxHeartbeats 4000000 in
set_option maxRecDepth 20000 in
theorem semX8_thrown (l : Launch) (W9 : xWd) (aM : Nat → Nat) (hi : mInj aM) : xSem l W9 (mI aM) yX8_thrown wsX8_thrown 0 0 (spX8_thrown aM) := by
  refine xSem_of (call := fun _ => none) (thrf := fun _ => "") (mI_law hi) (by decide +kernel) rfl ckX8_thrown usX8_thrown xCallsOK_nil xThrOK_nil ?_ ?_
  · intro av M KF h
    obtain ⟨rfl, h⟩ := h
    exact ⟨by intro v hv; simp only [List.mem_cons, List.not_mem_nil, or_false] at hv; rcases hv with rfl <;> first | rfl | exact cat_rf, Nat.le_of_ble_eq_true rfl⟩
  intro av M KF h G hG
  obtain ⟨rfl, h⟩ := h
  rw [show (spX8_thrown aM).1 _ M = _ from spcX8_thrown] at hG
  try dsimp only at hG
  change G 0 [some (.ref (aM 0))] [] M 0 0
  refine xgo0 hG (fun fu hfu => ?_)
  clear hG
  simp only [↓mg_0, ↓vm_aload_n, ↓vm_getfield, ↓vm_ireturn, ↓tbX8_thrown_0, ↓tbX8_thrown_1, ↓tbX8_thrown_4, hfu, xstep0, xJ1_hit, xJ1_go, xJ2_hit1, xJ2_hit2, xJ2_go, ↓xif_t, ↓xif_f, seval, ↓xca_eq, ↓xre_l, ↓xre_r, xmask_t, xmask_f, xmask_nil, ↓xst_eq, xX_eq, eI_eq, eMc_eq, eMs_eq, eF_eq, eThr_eq, ↓xS1_mk, ↓xSI_mk, ↓xSR_mk, ↓xLI_0, ↓xLI_s, ↓xLR_0, ↓xLR_s, vRef_ref, vRef_null, vRef_rf, cat_int, cat_ref, cat_null, cat_rf, rf_some, rf_none, rf_null, rf_eq, rf_ref, ref_rf, ref_null, ref_ref, xOk_0, xOk_1, xOk_2r, xOk_2n, xOk_2f, vOpt_rf, vOpt_ref, vOpt_null, List.set_cons_zero, List.set_cons_succ, List.take_succ_cons, List.take_zero, List.drop_succ_cons, List.drop_zero, List.reverse_cons, List.reverse_nil, List.nil_append, List.cons_append, List.append_nil, List.length_cons, List.length_nil, List.map_cons, List.map_nil, List.sum_cons, List.sum_nil, Option.toList_some, Option.toList_none, xRecv_mk, true_and, and_true, true_implies, Nat.reduceAdd, Nat.reduceLeDiff, Nat.zero_le, Nat.le_refl, Nat.add_zero, Nat.zero_add, reduceIte, not_true_eq_false, not_false_eq_true, false_implies, and_self, implies_true, eq_self, Nat.reduceEqDiff, List.cons.injEq, xsn_1, xsn_2, false_and, and_false, or_false, false_or, or_true, true_or, xsn_3, xsn_4]
  try simp only [xif_e]
  grind [bi]

def tbX8_holds : List (Nat × xHint) := [(0, .aload_n 0, 0, 0, 0, []), (1, .iload_n 1, 1, 0, 0, []), (2, .putfield 155, 9, 0, 0, []), (5, .iload_n 1, 1, 0, 0, []), (6, .ifCond .ne 7, 13, 0, 0, []), (9, .iconst 1, 0, 0, 0, []), (10, .goto 4, 14, 0, 0, []), (13, .iconst 0, 0, 0, 0, []), (14, .ireturn, 1, 0, 0, [])]
def clX8_holds : List (Instr × Nat × Nat × Nat) := []
def thX8_holds : List (Nat × Nat) := []
theorem ckX8_holds : tbX8_holds.all (xRow RX8 cX8_holds wsX8_holds vwCl [9] clX8_holds thX8_holds 2 (yX8_holds.name == "<init>") (some .boolean)) = true := xRow_q 0xac030400a70407009a1b9b00b51b2a 15 (by decide +kernel) (by decide +kernel)
theorem usX8_holds : xUse wsX8_holds vwCl [9] = true := xUse_g rfl (lw_good lwl_X8_holds lwl_X80 (by decide +kernel)) xUse_n
theorem tbX8_holds_0 {k : Instr → Nat → Nat → Nat → List Nat → Prop} : xse (xFind tbX8_holds 0) k = k (.aload_n 0) 0 0 0 [] := rfl
theorem tbX8_holds_1 {k : Instr → Nat → Nat → Nat → List Nat → Prop} : xse (xFind tbX8_holds 1) k = k (.iload_n 1) 1 0 0 [] := rfl
theorem tbX8_holds_2 {k : Instr → Nat → Nat → Nat → List Nat → Prop} : xse (xFind tbX8_holds 2) k = k (.putfield 155) 9 0 0 [] := rfl
theorem tbX8_holds_5 {k : Instr → Nat → Nat → Nat → List Nat → Prop} : xse (xFind tbX8_holds 5) k = k (.iload_n 1) 1 0 0 [] := rfl
theorem tbX8_holds_6 {k : Instr → Nat → Nat → Nat → List Nat → Prop} : xse (xFind tbX8_holds 6) k = k (.ifCond .ne 7) 13 0 0 [] := rfl
theorem tbX8_holds_9 {k : Instr → Nat → Nat → Nat → List Nat → Prop} : xse (xFind tbX8_holds 9) k = k (.iconst 1) 0 0 0 [] := rfl
theorem tbX8_holds_10 {k : Instr → Nat → Nat → Nat → List Nat → Prop} : xse (xFind tbX8_holds 10) k = k (.goto 4) 14 0 0 [] := rfl
theorem tbX8_holds_13 {k : Instr → Nat → Nat → Nat → List Nat → Prop} : xse (xFind tbX8_holds 13) k = k (.iconst 0) 0 0 0 [] := rfl
theorem tbX8_holds_14 {k : Instr → Nat → Nat → Nat → List Nat → Prop} : xse (xFind tbX8_holds 14) k = k (.ireturn) 1 0 0 [] := rfl

def spX8_holds (aM : Nat → Nat) : xSp mS := (fun av M => (0, 0), fun av M K => ∃ (p : Int32), av = [.ref (aM 0), .int p] ∧ (K (rI (bi (p = 0))) (mSet M 0 p)))
theorem spcX8_holds {av : List Value} {M : mS} {aM : Nat → Nat} : (spX8_holds aM).1 av M = (0, 0) := rfl
theorem spwX8_holds {M : mS} {aM : Nat → Nat} {K : xRes → mS → Prop} {p : Int32} : (spX8_holds aM).2 [.ref (aM 0), .int p] M K = (K (rI (bi (p = 0))) (mSet M 0 p)) :=
  propext ⟨fun h => by
    simp only [spX8_holds] at h
    obtain ⟨_, e, h⟩ := h
    simp only [List.cons.injEq, Value.int.injEq, Value.ref.injEq, rf_eq, and_true, true_and] at e
    obtain rfl := e
    exact h, fun h => ⟨_, rfl, h⟩⟩

set_option maxHeartbeats 4000000 in
set_option maxRecDepth 20000 in
theorem semX8_holds (l : Launch) (W9 : xWd) (aM : Nat → Nat) (hi : mInj aM) : xSem l W9 (mI aM) yX8_holds wsX8_holds 0 0 (spX8_holds aM) := by
  refine xSem_of (call := fun _ => none) (thrf := fun _ => "") (mI_law hi) (by decide +kernel) rfl ckX8_holds usX8_holds xCallsOK_nil xThrOK_nil ?_ ?_
  · intro av M KF h
    obtain ⟨p, rfl, h⟩ := h
    exact ⟨by intro v hv; simp only [List.mem_cons, List.not_mem_nil, or_false] at hv; rcases hv with rfl | rfl <;> first | rfl | exact cat_rf, Nat.le_of_ble_eq_true rfl⟩
  intro av M KF h G hG
  obtain ⟨p, rfl, h⟩ := h
  rw [show (spX8_holds aM).1 _ M = _ from spcX8_holds] at hG
  try dsimp only at hG
  change G 0 [some (.ref (aM 0)), some (.int p)] [] M 0 0
  refine xgo0 hG (fun fu hfu => ?_)
  clear hG
  simp only [ki_0, ki_1, ↓mp_0, ↓vm_aload_n, ↓vm_goto, ↓vm_iconst, ↓vm_ifCond_ne, ↓vm_iload_n, ↓vm_ireturn, ↓vm_putfield, ↓tbX8_holds_0, ↓tbX8_holds_1, ↓tbX8_holds_2, ↓tbX8_holds_5, ↓tbX8_holds_6, ↓tbX8_holds_9, ↓tbX8_holds_10, ↓tbX8_holds_13, ↓tbX8_holds_14, hfu, xstep0, xJ1_hit, xJ1_go, xJ2_hit1, xJ2_hit2, xJ2_go, ↓xif_t, ↓xif_f, seval, ↓xca_eq, ↓xre_l, ↓xre_r, xmask_t, xmask_f, xmask_nil, ↓xst_eq, xX_eq, eI_eq, eMc_eq, eMs_eq, eF_eq, eThr_eq, ↓xS1_mk, ↓xSI_mk, ↓xSR_mk, ↓xLI_0, ↓xLI_s, ↓xLR_0, ↓xLR_s, vRef_ref, vRef_null, vRef_rf, cat_int, cat_ref, cat_null, cat_rf, rf_some, rf_none, rf_null, rf_eq, rf_ref, ref_rf, ref_null, ref_ref, xOk_0, xOk_1, xOk_2r, xOk_2n, xOk_2f, vOpt_rf, vOpt_ref, vOpt_null, List.set_cons_zero, List.set_cons_succ, List.take_succ_cons, List.take_zero, List.drop_succ_cons, List.drop_zero, List.reverse_cons, List.reverse_nil, List.nil_append, List.cons_append, List.append_nil, List.length_cons, List.length_nil, List.map_cons, List.map_nil, List.sum_cons, List.sum_nil, Option.toList_some, Option.toList_none, xRecv_mk, true_and, and_true, true_implies, Nat.reduceAdd, Nat.reduceLeDiff, Nat.zero_le, Nat.le_refl, Nat.add_zero, Nat.zero_add, reduceIte, not_true_eq_false, not_false_eq_true, false_implies, and_self, implies_true, eq_self, Nat.reduceEqDiff, List.cons.injEq, xsn_1, xsn_2, false_and, and_false, or_false, false_or, or_true, true_or, xsn_3, xsn_4]
  try simp only [xif_e]
  grind [bi]

def tbX8_isBarge : List (Nat × xHint) := [(0, .iload_n 1, 1, 0, 0, []), (1, .iconst 0, 0, 0, 0, []), (2, .aload_n 0, 0, 0, 0, []), (3, .getfield 167, 9, 22, 0, []), (6, .iconst 1, 0, 0, 0, []), (7, .isub, 0, 0, 0, []), (8, .invokestatic 159, 0, 3, 0, []), (11, .ireturn, 1, 0, 0, [])]
def clX8_isBarge : List (Instr × Nat × Nat × Nat) := [(.invokestatic 159, 0, 3, 0)]
def thX8_isBarge : List (Nat × Nat) := []
theorem ckX8_isBarge : tbX8_isBarge.all (xRow RX8 cX8_isBarge wsX8_isBarge vwCl [9] clX8_isBarge thX8_isBarge 2 (yX8_isBarge.name == "<init>") (some .boolean)) = true := xRow_q 0xac9f00b86404a700b42a031b 12 (by decide +kernel) (by decide +kernel)
theorem usX8_isBarge : xUse wsX8_isBarge vwCl [9] = true := xUse_g rfl (lw_good lwl_X8_isBarge lwl_X80 (by decide +kernel)) xUse_n
theorem tbX8_isBarge_0 {k : Instr → Nat → Nat → Nat → List Nat → Prop} : xse (xFind tbX8_isBarge 0) k = k (.iload_n 1) 1 0 0 [] := rfl
theorem tbX8_isBarge_1 {k : Instr → Nat → Nat → Nat → List Nat → Prop} : xse (xFind tbX8_isBarge 1) k = k (.iconst 0) 0 0 0 [] := rfl
theorem tbX8_isBarge_2 {k : Instr → Nat → Nat → Nat → List Nat → Prop} : xse (xFind tbX8_isBarge 2) k = k (.aload_n 0) 0 0 0 [] := rfl
theorem tbX8_isBarge_3 {k : Instr → Nat → Nat → Nat → List Nat → Prop} : xse (xFind tbX8_isBarge 3) k = k (.getfield 167) 9 22 0 [] := rfl
theorem tbX8_isBarge_6 {k : Instr → Nat → Nat → Nat → List Nat → Prop} : xse (xFind tbX8_isBarge 6) k = k (.iconst 1) 0 0 0 [] := rfl
theorem tbX8_isBarge_7 {k : Instr → Nat → Nat → Nat → List Nat → Prop} : xse (xFind tbX8_isBarge 7) k = k (.isub) 0 0 0 [] := rfl
theorem tbX8_isBarge_8 {k : Instr → Nat → Nat → Nat → List Nat → Prop} : xse (xFind tbX8_isBarge 8) k = k (.invokestatic 159) 0 3 0 [] := rfl
theorem tbX8_isBarge_11 {k : Instr → Nat → Nat → Nat → List Nat → Prop} : xse (xFind tbX8_isBarge 11) k = k (.ireturn) 1 0 0 [] := rfl

def spX8_isBarge (aM : Nat → Nat) : xSp mS := (fun av M => (0, 0), fun av M K => ∃ (k : Int32), av = [.ref (aM 0), .int k] ∧ (K (rI (bi (0 ≤ k ∧ k ≤ M.1 22 - 1))) M))
theorem spcX8_isBarge {av : List Value} {M : mS} {aM : Nat → Nat} : (spX8_isBarge aM).1 av M = (0, 0) := rfl
theorem spwX8_isBarge {M : mS} {aM : Nat → Nat} {K : xRes → mS → Prop} {k : Int32} : (spX8_isBarge aM).2 [.ref (aM 0), .int k] M K = (K (rI (bi (0 ≤ k ∧ k ≤ M.1 22 - 1))) M) :=
  propext ⟨fun h => by
    simp only [spX8_isBarge] at h
    obtain ⟨_, e, h⟩ := h
    simp only [List.cons.injEq, Value.int.injEq, Value.ref.injEq, rf_eq, and_true, true_and] at e
    obtain rfl := e
    exact h, fun h => ⟨_, rfl, h⟩⟩

def callX8_isBarge (aM : Nat → Nat) : Nat → Option (xSp mS) := fun n => match n with | 0 => some (spX8_in aM) | _ => none

theorem callX8_isBarge_0 {aM : Nat → Nat} {k : xSp mS → Prop} : xcs (callX8_isBarge aM 0) k = k (spX8_in aM) := rfl

theorem crX8_isBarge (l : Launch) (W9 : xWd) (aM : Nat → Nat) (hi : mInj aM) : xCallsOK l W9 (mI aM) (callX8_isBarge aM) clX8_isBarge RX8 wsX8_isBarge 1 22 2 := by
  intro E A p e R s m args below meth c hI hF hL X
  exact List.forall_mem_cons.mpr ⟨⟨_, rfl, xCR_S X (by rw [hI]; exact (semX8_in l W9 aM hi)) gX8_isBarge_X8_in rfl (by decide +kernel) (by rw [hF, hL]; decide)⟩,
    fun _ h => nomatch h⟩

set_option maxHeartbeats 4000000 in
set_option maxRecDepth 20000 in
theorem semX8_isBarge (l : Launch) (W9 : xWd) (aM : Nat → Nat) (hi : mInj aM) : xSem l W9 (mI aM) yX8_isBarge wsX8_isBarge 1 22 (spX8_isBarge aM) := by
  refine xSem_of (call := callX8_isBarge aM) (thrf := fun _ => "") (mI_law hi) (by decide +kernel) rfl ckX8_isBarge usX8_isBarge (crX8_isBarge l W9 aM hi) xThrOK_nil ?_ ?_
  · intro av M KF h
    obtain ⟨k, rfl, h⟩ := h
    exact ⟨by intro v hv; simp only [List.mem_cons, List.not_mem_nil, or_false] at hv; rcases hv with rfl | rfl <;> first | rfl | exact cat_rf, Nat.le_of_ble_eq_true rfl⟩
  intro av M KF h G hG
  obtain ⟨k, rfl, h⟩ := h
  rw [show (spX8_isBarge aM).1 _ M = _ from spcX8_isBarge] at hG
  try dsimp only at hG
  change G 0 [some (.ref (aM 0)), some (.int k)] [] M 0 0
  refine xgo0 hG (fun fu hfu => ?_)
  clear hG
  simp only [↓callX8_isBarge_0, ki_0, ki_1, ↓mg_22, ↓vm_aload_n, ↓vm_getfield, ↓vm_iconst, ↓vm_iload_n, ↓vm_invokestatic, ↓vm_ireturn, ↓vm_isub, ↓xc_3, ↓tbX8_isBarge_0, ↓tbX8_isBarge_1, ↓tbX8_isBarge_2, ↓tbX8_isBarge_3, ↓tbX8_isBarge_6, ↓tbX8_isBarge_7, ↓tbX8_isBarge_8, ↓tbX8_isBarge_11, hfu, xstep0, xJ1_hit, xJ1_go, xJ2_hit1, xJ2_hit2, xJ2_go, ↓xif_t, ↓xif_f, seval, ↓xca_eq, ↓xre_l, ↓xre_r, xmask_t, xmask_f, xmask_nil, ↓xst_eq, xX_eq, eI_eq, eMc_eq, eMs_eq, eF_eq, eThr_eq, ↓xS1_mk, ↓xSI_mk, ↓xSR_mk, ↓xLI_0, ↓xLI_s, ↓xLR_0, ↓xLR_s, vRef_ref, vRef_null, vRef_rf, cat_int, cat_ref, cat_null, cat_rf, rf_some, rf_none, rf_null, rf_eq, rf_ref, ref_rf, ref_null, ref_ref, xOk_0, xOk_1, xOk_2r, xOk_2n, xOk_2f, vOpt_rf, vOpt_ref, vOpt_null, List.set_cons_zero, List.set_cons_succ, List.take_succ_cons, List.take_zero, List.drop_succ_cons, List.drop_zero, List.reverse_cons, List.reverse_nil, List.nil_append, List.cons_append, List.append_nil, List.length_cons, List.length_nil, List.map_cons, List.map_nil, List.sum_cons, List.sum_nil, Option.toList_some, Option.toList_none, xRecv_mk, true_and, and_true, true_implies, Nat.reduceAdd, Nat.reduceLeDiff, Nat.zero_le, Nat.le_refl, Nat.add_zero, Nat.zero_add, reduceIte, not_true_eq_false, not_false_eq_true, false_implies, and_self, implies_true, eq_self, Nat.reduceEqDiff, List.cons.injEq, xsn_1, xsn_2, false_and, and_false, or_false, false_or, or_true, true_or, xsn_3, xsn_4, ↓spwX8_in, spcX8_in]
  try simp only [xif_e]
  grind [bi]

def tbX8_isBoat : List (Nat × xHint) := [(0, .iload_n 1, 1, 0, 0, []), (1, .iconst 0, 0, 0, 0, []), (2, .aload_n 0, 0, 0, 0, []), (3, .getfield 170, 9, 29, 0, []), (6, .iconst 1, 0, 0, 0, []), (7, .isub, 0, 0, 0, []), (8, .invokestatic 159, 0, 3, 0, []), (11, .ireturn, 1, 0, 0, [])]
def clX8_isBoat : List (Instr × Nat × Nat × Nat) := [(.invokestatic 159, 0, 3, 0)]
def thX8_isBoat : List (Nat × Nat) := []
theorem ckX8_isBoat : tbX8_isBoat.all (xRow RX8 cX8_isBoat wsX8_isBoat vwCl [9] clX8_isBoat thX8_isBoat 2 (yX8_isBoat.name == "<init>") (some .boolean)) = true := xRow_q 0xac9f00b86404aa00b42a031b 12 (by decide +kernel) (by decide +kernel)
theorem usX8_isBoat : xUse wsX8_isBoat vwCl [9] = true := xUse_g rfl (lw_good lwl_X8_isBoat lwl_X80 (by decide +kernel)) xUse_n
theorem tbX8_isBoat_0 {k : Instr → Nat → Nat → Nat → List Nat → Prop} : xse (xFind tbX8_isBoat 0) k = k (.iload_n 1) 1 0 0 [] := rfl
theorem tbX8_isBoat_1 {k : Instr → Nat → Nat → Nat → List Nat → Prop} : xse (xFind tbX8_isBoat 1) k = k (.iconst 0) 0 0 0 [] := rfl
theorem tbX8_isBoat_2 {k : Instr → Nat → Nat → Nat → List Nat → Prop} : xse (xFind tbX8_isBoat 2) k = k (.aload_n 0) 0 0 0 [] := rfl
theorem tbX8_isBoat_3 {k : Instr → Nat → Nat → Nat → List Nat → Prop} : xse (xFind tbX8_isBoat 3) k = k (.getfield 170) 9 29 0 [] := rfl
theorem tbX8_isBoat_6 {k : Instr → Nat → Nat → Nat → List Nat → Prop} : xse (xFind tbX8_isBoat 6) k = k (.iconst 1) 0 0 0 [] := rfl
theorem tbX8_isBoat_7 {k : Instr → Nat → Nat → Nat → List Nat → Prop} : xse (xFind tbX8_isBoat 7) k = k (.isub) 0 0 0 [] := rfl
theorem tbX8_isBoat_8 {k : Instr → Nat → Nat → Nat → List Nat → Prop} : xse (xFind tbX8_isBoat 8) k = k (.invokestatic 159) 0 3 0 [] := rfl
theorem tbX8_isBoat_11 {k : Instr → Nat → Nat → Nat → List Nat → Prop} : xse (xFind tbX8_isBoat 11) k = k (.ireturn) 1 0 0 [] := rfl

def spX8_isBoat (aM : Nat → Nat) : xSp mS := (fun av M => (0, 0), fun av M K => ∃ (k : Int32), av = [.ref (aM 0), .int k] ∧ (K (rI (bi (0 ≤ k ∧ k ≤ M.1 29 - 1))) M))
theorem spcX8_isBoat {av : List Value} {M : mS} {aM : Nat → Nat} : (spX8_isBoat aM).1 av M = (0, 0) := rfl
theorem spwX8_isBoat {M : mS} {aM : Nat → Nat} {K : xRes → mS → Prop} {k : Int32} : (spX8_isBoat aM).2 [.ref (aM 0), .int k] M K = (K (rI (bi (0 ≤ k ∧ k ≤ M.1 29 - 1))) M) :=
  propext ⟨fun h => by
    simp only [spX8_isBoat] at h
    obtain ⟨_, e, h⟩ := h
    simp only [List.cons.injEq, Value.int.injEq, Value.ref.injEq, rf_eq, and_true, true_and] at e
    obtain rfl := e
    exact h, fun h => ⟨_, rfl, h⟩⟩

def callX8_isBoat (aM : Nat → Nat) : Nat → Option (xSp mS) := fun n => match n with | 0 => some (spX8_in aM) | _ => none

theorem callX8_isBoat_0 {aM : Nat → Nat} {k : xSp mS → Prop} : xcs (callX8_isBoat aM 0) k = k (spX8_in aM) := rfl

theorem crX8_isBoat (l : Launch) (W9 : xWd) (aM : Nat → Nat) (hi : mInj aM) : xCallsOK l W9 (mI aM) (callX8_isBoat aM) clX8_isBoat RX8 wsX8_isBoat 1 22 2 := by
  intro E A p e R s m args below meth c hI hF hL X
  exact List.forall_mem_cons.mpr ⟨⟨_, rfl, xCR_S X (by rw [hI]; exact (semX8_in l W9 aM hi)) gX8_isBoat_X8_in rfl (by decide +kernel) (by rw [hF, hL]; decide)⟩,
    fun _ h => nomatch h⟩

set_option maxHeartbeats 4000000 in
set_option maxRecDepth 20000 in
theorem semX8_isBoat (l : Launch) (W9 : xWd) (aM : Nat → Nat) (hi : mInj aM) : xSem l W9 (mI aM) yX8_isBoat wsX8_isBoat 1 22 (spX8_isBoat aM) := by
  refine xSem_of (call := callX8_isBoat aM) (thrf := fun _ => "") (mI_law hi) (by decide +kernel) rfl ckX8_isBoat usX8_isBoat (crX8_isBoat l W9 aM hi) xThrOK_nil ?_ ?_
  · intro av M KF h
    obtain ⟨k, rfl, h⟩ := h
    exact ⟨by intro v hv; simp only [List.mem_cons, List.not_mem_nil, or_false] at hv; rcases hv with rfl | rfl <;> first | rfl | exact cat_rf, Nat.le_of_ble_eq_true rfl⟩
  intro av M KF h G hG
  obtain ⟨k, rfl, h⟩ := h
  rw [show (spX8_isBoat aM).1 _ M = _ from spcX8_isBoat] at hG
  try dsimp only at hG
  change G 0 [some (.ref (aM 0)), some (.int k)] [] M 0 0
  refine xgo0 hG (fun fu hfu => ?_)
  clear hG
  simp only [↓callX8_isBoat_0, ki_0, ki_1, ↓mg_29, ↓vm_aload_n, ↓vm_getfield, ↓vm_iconst, ↓vm_iload_n, ↓vm_invokestatic, ↓vm_ireturn, ↓vm_isub, ↓xc_3, ↓tbX8_isBoat_0, ↓tbX8_isBoat_1, ↓tbX8_isBoat_2, ↓tbX8_isBoat_3, ↓tbX8_isBoat_6, ↓tbX8_isBoat_7, ↓tbX8_isBoat_8, ↓tbX8_isBoat_11, hfu, xstep0, xJ1_hit, xJ1_go, xJ2_hit1, xJ2_hit2, xJ2_go, ↓xif_t, ↓xif_f, seval, ↓xca_eq, ↓xre_l, ↓xre_r, xmask_t, xmask_f, xmask_nil, ↓xst_eq, xX_eq, eI_eq, eMc_eq, eMs_eq, eF_eq, eThr_eq, ↓xS1_mk, ↓xSI_mk, ↓xSR_mk, ↓xLI_0, ↓xLI_s, ↓xLR_0, ↓xLR_s, vRef_ref, vRef_null, vRef_rf, cat_int, cat_ref, cat_null, cat_rf, rf_some, rf_none, rf_null, rf_eq, rf_ref, ref_rf, ref_null, ref_ref, xOk_0, xOk_1, xOk_2r, xOk_2n, xOk_2f, vOpt_rf, vOpt_ref, vOpt_null, List.set_cons_zero, List.set_cons_succ, List.take_succ_cons, List.take_zero, List.drop_succ_cons, List.drop_zero, List.reverse_cons, List.reverse_nil, List.nil_append, List.cons_append, List.append_nil, List.length_cons, List.length_nil, List.map_cons, List.map_nil, List.sum_cons, List.sum_nil, Option.toList_some, Option.toList_none, xRecv_mk, true_and, and_true, true_implies, Nat.reduceAdd, Nat.reduceLeDiff, Nat.zero_le, Nat.le_refl, Nat.add_zero, Nat.zero_add, reduceIte, not_true_eq_false, not_false_eq_true, false_implies, and_self, implies_true, eq_self, Nat.reduceEqDiff, List.cons.injEq, xsn_1, xsn_2, false_and, and_false, or_false, false_or, or_true, true_or, xsn_3, xsn_4, ↓spwX8_in, spcX8_in]
  try simp only [xif_e]
  grind [bi]

def tbX8_isContract : List (Nat × xHint) := [(0, .iload_n 1, 1, 0, 0, []), (1, .iconst 0, 0, 0, 0, []), (2, .aload_n 0, 0, 0, 0, []), (3, .getfield 173, 9, 46, 0, []), (6, .iconst 1, 0, 0, 0, []), (7, .isub, 0, 0, 0, []), (8, .invokestatic 159, 0, 3, 0, []), (11, .ireturn, 1, 0, 0, [])]
def clX8_isContract : List (Instr × Nat × Nat × Nat) := [(.invokestatic 159, 0, 3, 0)]
def thX8_isContract : List (Nat × Nat) := []
theorem ckX8_isContract : tbX8_isContract.all (xRow RX8 cX8_isContract wsX8_isContract vwCl [9] clX8_isContract thX8_isContract 2 (yX8_isContract.name == "<init>") (some .boolean)) = true := xRow_q 0xac9f00b86404ad00b42a031b 12 (by decide +kernel) (by decide +kernel)
theorem usX8_isContract : xUse wsX8_isContract vwCl [9] = true := xUse_g rfl (lw_good lwl_X8_isContract lwl_X80 (by decide +kernel)) xUse_n
theorem tbX8_isContract_0 {k : Instr → Nat → Nat → Nat → List Nat → Prop} : xse (xFind tbX8_isContract 0) k = k (.iload_n 1) 1 0 0 [] := rfl
theorem tbX8_isContract_1 {k : Instr → Nat → Nat → Nat → List Nat → Prop} : xse (xFind tbX8_isContract 1) k = k (.iconst 0) 0 0 0 [] := rfl
theorem tbX8_isContract_2 {k : Instr → Nat → Nat → Nat → List Nat → Prop} : xse (xFind tbX8_isContract 2) k = k (.aload_n 0) 0 0 0 [] := rfl
theorem tbX8_isContract_3 {k : Instr → Nat → Nat → Nat → List Nat → Prop} : xse (xFind tbX8_isContract 3) k = k (.getfield 173) 9 46 0 [] := rfl
theorem tbX8_isContract_6 {k : Instr → Nat → Nat → Nat → List Nat → Prop} : xse (xFind tbX8_isContract 6) k = k (.iconst 1) 0 0 0 [] := rfl
theorem tbX8_isContract_7 {k : Instr → Nat → Nat → Nat → List Nat → Prop} : xse (xFind tbX8_isContract 7) k = k (.isub) 0 0 0 [] := rfl
theorem tbX8_isContract_8 {k : Instr → Nat → Nat → Nat → List Nat → Prop} : xse (xFind tbX8_isContract 8) k = k (.invokestatic 159) 0 3 0 [] := rfl
theorem tbX8_isContract_11 {k : Instr → Nat → Nat → Nat → List Nat → Prop} : xse (xFind tbX8_isContract 11) k = k (.ireturn) 1 0 0 [] := rfl

def spX8_isContract (aM : Nat → Nat) : xSp mS := (fun av M => (0, 0), fun av M K => ∃ (k : Int32), av = [.ref (aM 0), .int k] ∧ (K (rI (bi (0 ≤ k ∧ k ≤ M.1 46 - 1))) M))
theorem spcX8_isContract {av : List Value} {M : mS} {aM : Nat → Nat} : (spX8_isContract aM).1 av M = (0, 0) := rfl
theorem spwX8_isContract {M : mS} {aM : Nat → Nat} {K : xRes → mS → Prop} {k : Int32} : (spX8_isContract aM).2 [.ref (aM 0), .int k] M K = (K (rI (bi (0 ≤ k ∧ k ≤ M.1 46 - 1))) M) :=
  propext ⟨fun h => by
    simp only [spX8_isContract] at h
    obtain ⟨_, e, h⟩ := h
    simp only [List.cons.injEq, Value.int.injEq, Value.ref.injEq, rf_eq, and_true, true_and] at e
    obtain rfl := e
    exact h, fun h => ⟨_, rfl, h⟩⟩

def callX8_isContract (aM : Nat → Nat) : Nat → Option (xSp mS) := fun n => match n with | 0 => some (spX8_in aM) | _ => none

theorem callX8_isContract_0 {aM : Nat → Nat} {k : xSp mS → Prop} : xcs (callX8_isContract aM 0) k = k (spX8_in aM) := rfl

theorem crX8_isContract (l : Launch) (W9 : xWd) (aM : Nat → Nat) (hi : mInj aM) : xCallsOK l W9 (mI aM) (callX8_isContract aM) clX8_isContract RX8 wsX8_isContract 1 22 2 := by
  intro E A p e R s m args below meth c hI hF hL X
  exact List.forall_mem_cons.mpr ⟨⟨_, rfl, xCR_S X (by rw [hI]; exact (semX8_in l W9 aM hi)) gX8_isContract_X8_in rfl (by decide +kernel) (by rw [hF, hL]; decide)⟩,
    fun _ h => nomatch h⟩

set_option maxHeartbeats 4000000 in
set_option maxRecDepth 20000 in
theorem semX8_isContract (l : Launch) (W9 : xWd) (aM : Nat → Nat) (hi : mInj aM) : xSem l W9 (mI aM) yX8_isContract wsX8_isContract 1 22 (spX8_isContract aM) := by
  refine xSem_of (call := callX8_isContract aM) (thrf := fun _ => "") (mI_law hi) (by decide +kernel) rfl ckX8_isContract usX8_isContract (crX8_isContract l W9 aM hi) xThrOK_nil ?_ ?_
  · intro av M KF h
    obtain ⟨k, rfl, h⟩ := h
    exact ⟨by intro v hv; simp only [List.mem_cons, List.not_mem_nil, or_false] at hv; rcases hv with rfl | rfl <;> first | rfl | exact cat_rf, Nat.le_of_ble_eq_true rfl⟩
  intro av M KF h G hG
  obtain ⟨k, rfl, h⟩ := h
  rw [show (spX8_isContract aM).1 _ M = _ from spcX8_isContract] at hG
  try dsimp only at hG
  change G 0 [some (.ref (aM 0)), some (.int k)] [] M 0 0
  refine xgo0 hG (fun fu hfu => ?_)
  clear hG
  simp only [↓callX8_isContract_0, ki_0, ki_1, ↓mg_46, ↓vm_aload_n, ↓vm_getfield, ↓vm_iconst, ↓vm_iload_n, ↓vm_invokestatic, ↓vm_ireturn, ↓vm_isub, ↓xc_3, ↓tbX8_isContract_0, ↓tbX8_isContract_1, ↓tbX8_isContract_2, ↓tbX8_isContract_3, ↓tbX8_isContract_6, ↓tbX8_isContract_7, ↓tbX8_isContract_8, ↓tbX8_isContract_11, hfu, xstep0, xJ1_hit, xJ1_go, xJ2_hit1, xJ2_hit2, xJ2_go, ↓xif_t, ↓xif_f, seval, ↓xca_eq, ↓xre_l, ↓xre_r, xmask_t, xmask_f, xmask_nil, ↓xst_eq, xX_eq, eI_eq, eMc_eq, eMs_eq, eF_eq, eThr_eq, ↓xS1_mk, ↓xSI_mk, ↓xSR_mk, ↓xLI_0, ↓xLI_s, ↓xLR_0, ↓xLR_s, vRef_ref, vRef_null, vRef_rf, cat_int, cat_ref, cat_null, cat_rf, rf_some, rf_none, rf_null, rf_eq, rf_ref, ref_rf, ref_null, ref_ref, xOk_0, xOk_1, xOk_2r, xOk_2n, xOk_2f, vOpt_rf, vOpt_ref, vOpt_null, List.set_cons_zero, List.set_cons_succ, List.take_succ_cons, List.take_zero, List.drop_succ_cons, List.drop_zero, List.reverse_cons, List.reverse_nil, List.nil_append, List.cons_append, List.append_nil, List.length_cons, List.length_nil, List.map_cons, List.map_nil, List.sum_cons, List.sum_nil, Option.toList_some, Option.toList_none, xRecv_mk, true_and, and_true, true_implies, Nat.reduceAdd, Nat.reduceLeDiff, Nat.zero_le, Nat.le_refl, Nat.add_zero, Nat.zero_add, reduceIte, not_true_eq_false, not_false_eq_true, false_implies, and_self, implies_true, eq_self, Nat.reduceEqDiff, List.cons.injEq, xsn_1, xsn_2, false_and, and_false, or_false, false_or, or_true, true_or, xsn_3, xsn_4, ↓spwX8_in, spcX8_in]
  try simp only [xif_e]
  grind [bi]

def tbX8_isTied : List (Nat × xHint) := [(0, .aload_n 0, 0, 0, 0, []), (1, .getfield 77, 9, 28, 2, []), (4, .iload_n 1, 1, 0, 0, []), (5, .iaload, 28, 0, 0, []), (6, .iconst (-1), 0, 0, 0, []), (7, .if_icmp .ne 7, 14, 0, 0, []), (10, .iconst 1, 0, 0, 0, []), (11, .goto 4, 15, 0, 0, []), (14, .iconst 0, 0, 0, 0, []), (15, .ireturn, 1, 0, 0, [])]
def clX8_isTied : List (Instr × Nat × Nat × Nat) := []
def thX8_isTied : List (Nat × Nat) := []
theorem ckX8_isTied : tbX8_isTied.all (xRow RX8 cX8_isTied wsX8_isTied vwCl [9] clX8_isTied thX8_isTied 2 (yX8_isTied.name == "<init>") (some .boolean)) = true := xRow_q 0xac030400a7040700a0022e1b4d00b42a 16 (by decide +kernel) (by decide +kernel)
theorem usX8_isTied : xUse wsX8_isTied vwCl [9] = true := xUse_g rfl (lw_good lwl_X8_isTied lwl_X80 (by decide +kernel)) xUse_n
theorem tbX8_isTied_0 {k : Instr → Nat → Nat → Nat → List Nat → Prop} : xse (xFind tbX8_isTied 0) k = k (.aload_n 0) 0 0 0 [] := rfl
theorem tbX8_isTied_1 {k : Instr → Nat → Nat → Nat → List Nat → Prop} : xse (xFind tbX8_isTied 1) k = k (.getfield 77) 9 28 2 [] := rfl
theorem tbX8_isTied_4 {k : Instr → Nat → Nat → Nat → List Nat → Prop} : xse (xFind tbX8_isTied 4) k = k (.iload_n 1) 1 0 0 [] := rfl
theorem tbX8_isTied_5 {k : Instr → Nat → Nat → Nat → List Nat → Prop} : xse (xFind tbX8_isTied 5) k = k (.iaload) 28 0 0 [] := rfl
theorem tbX8_isTied_6 {k : Instr → Nat → Nat → Nat → List Nat → Prop} : xse (xFind tbX8_isTied 6) k = k (.iconst (-1)) 0 0 0 [] := rfl
theorem tbX8_isTied_7 {k : Instr → Nat → Nat → Nat → List Nat → Prop} : xse (xFind tbX8_isTied 7) k = k (.if_icmp .ne 7) 14 0 0 [] := rfl
theorem tbX8_isTied_10 {k : Instr → Nat → Nat → Nat → List Nat → Prop} : xse (xFind tbX8_isTied 10) k = k (.iconst 1) 0 0 0 [] := rfl
theorem tbX8_isTied_11 {k : Instr → Nat → Nat → Nat → List Nat → Prop} : xse (xFind tbX8_isTied 11) k = k (.goto 4) 15 0 0 [] := rfl
theorem tbX8_isTied_14 {k : Instr → Nat → Nat → Nat → List Nat → Prop} : xse (xFind tbX8_isTied 14) k = k (.iconst 0) 0 0 0 [] := rfl
theorem tbX8_isTied_15 {k : Instr → Nat → Nat → Nat → List Nat → Prop} : xse (xFind tbX8_isTied 15) k = k (.ireturn) 1 0 0 [] := rfl

def spX8_isTied (aM : Nat → Nat) : xSp mS := (fun av M => (0, 0), fun av M K => ∃ (b : Int32), av = [.ref (aM 0), .int b] ∧ (vp_in b 24 ∧ K (rI (bi (M.2 28 b.toNatClampNeg = -1))) M))
theorem spcX8_isTied {av : List Value} {M : mS} {aM : Nat → Nat} : (spX8_isTied aM).1 av M = (0, 0) := rfl
theorem spwX8_isTied {M : mS} {aM : Nat → Nat} {K : xRes → mS → Prop} {b : Int32} : (spX8_isTied aM).2 [.ref (aM 0), .int b] M K = (vp_in b 24 ∧ K (rI (bi (M.2 28 b.toNatClampNeg = -1))) M) :=
  propext ⟨fun h => by
    simp only [spX8_isTied] at h
    obtain ⟨_, e, h⟩ := h
    simp only [List.cons.injEq, Value.int.injEq, Value.ref.injEq, rf_eq, and_true, true_and] at e
    obtain rfl := e
    exact h, fun h => ⟨_, rfl, h⟩⟩

set_option maxHeartbeats 4000000 in
set_option maxRecDepth 20000 in
theorem semX8_isTied (l : Launch) (W9 : xWd) (aM : Nat → Nat) (hi : mInj aM) : xSem l W9 (mI aM) yX8_isTied wsX8_isTied 0 0 (spX8_isTied aM) := by
  refine xSem_of (call := fun _ => none) (thrf := fun _ => "") (mI_law hi) (by decide +kernel) rfl ckX8_isTied usX8_isTied xCallsOK_nil xThrOK_nil ?_ ?_
  · intro av M KF h
    obtain ⟨b, rfl, h⟩ := h
    exact ⟨by intro v hv; simp only [List.mem_cons, List.not_mem_nil, or_false] at hv; rcases hv with rfl | rfl <;> first | rfl | exact cat_rf, Nat.le_of_ble_eq_true rfl⟩
  intro av M KF h G hG
  obtain ⟨b, rfl, h⟩ := h
  rw [show (spX8_isTied aM).1 _ M = _ from spcX8_isTied] at hG
  try dsimp only at hG
  change G 0 [some (.ref (aM 0)), some (.int b)] [] M 0 0
  obtain ⟨h1, h⟩ := h
  refine xgo0 hG (fun fu hfu => ?_)
  clear hG
  simp only [ki_0, ki_1, ki_m1, ↓ma_28, ↓mg_28, ↓vm_aload_n, ↓vm_getfield, ↓vm_goto, ↓vm_iaload, ↓vm_iconst, ↓vm_if_icmp_ne, ↓vm_iload_n, ↓vm_ireturn, ↓tbX8_isTied_0, ↓tbX8_isTied_1, ↓tbX8_isTied_4, ↓tbX8_isTied_5, ↓tbX8_isTied_6, ↓tbX8_isTied_7, ↓tbX8_isTied_10, ↓tbX8_isTied_11, ↓tbX8_isTied_14, ↓tbX8_isTied_15, hfu, xstep0, xJ1_hit, xJ1_go, xJ2_hit1, xJ2_hit2, xJ2_go, ↓xif_t, ↓xif_f, seval, ↓xca_eq, ↓xre_l, ↓xre_r, xmask_t, xmask_f, xmask_nil, ↓xst_eq, xX_eq, eI_eq, eMc_eq, eMs_eq, eF_eq, eThr_eq, ↓xS1_mk, ↓xSI_mk, ↓xSR_mk, ↓xLI_0, ↓xLI_s, ↓xLR_0, ↓xLR_s, vRef_ref, vRef_null, vRef_rf, cat_int, cat_ref, cat_null, cat_rf, rf_some, rf_none, rf_null, rf_eq, rf_ref, ref_rf, ref_null, ref_ref, xOk_0, xOk_1, xOk_2r, xOk_2n, xOk_2f, vOpt_rf, vOpt_ref, vOpt_null, List.set_cons_zero, List.set_cons_succ, List.take_succ_cons, List.take_zero, List.drop_succ_cons, List.drop_zero, List.reverse_cons, List.reverse_nil, List.nil_append, List.cons_append, List.append_nil, List.length_cons, List.length_nil, List.map_cons, List.map_nil, List.sum_cons, List.sum_nil, Option.toList_some, Option.toList_none, xRecv_mk, true_and, and_true, true_implies, Nat.reduceAdd, Nat.reduceLeDiff, Nat.zero_le, Nat.le_refl, Nat.add_zero, Nat.zero_add, reduceIte, not_true_eq_false, not_false_eq_true, false_implies, and_self, implies_true, eq_self, Nat.reduceEqDiff, List.cons.injEq, xsn_1, xsn_2, false_and, and_false, or_false, false_or, or_true, true_or, xsn_3, xsn_4, h1]
  try simp only [xif_e]
  grind [bi]

def tbX8_stands : List (Nat × xHint) := [(0, .aload_n 0, 0, 0, 0, []), (1, .getfield 92, 9, 34, 2, []), (4, .iload_n 1, 1, 0, 0, []), (5, .iaload, 34, 0, 0, []), (6, .iconst (-1), 0, 0, 0, []), (7, .if_icmp .ne 7, 14, 0, 0, []), (10, .iconst 1, 0, 0, 0, []), (11, .goto 4, 15, 0, 0, []), (14, .iconst 0, 0, 0, 0, []), (15, .ireturn, 1, 0, 0, [])]
def clX8_stands : List (Instr × Nat × Nat × Nat) := []
def thX8_stands : List (Nat × Nat) := []
theorem ckX8_stands : tbX8_stands.all (xRow RX8 cX8_stands wsX8_stands vwCl [9] clX8_stands thX8_stands 2 (yX8_stands.name == "<init>") (some .boolean)) = true := xRow_q 0xac030400a7040700a0022e1b5c00b42a 16 (by decide +kernel) (by decide +kernel)
theorem usX8_stands : xUse wsX8_stands vwCl [9] = true := xUse_g rfl (lw_good lwl_X8_stands lwl_X80 (by decide +kernel)) xUse_n
theorem tbX8_stands_0 {k : Instr → Nat → Nat → Nat → List Nat → Prop} : xse (xFind tbX8_stands 0) k = k (.aload_n 0) 0 0 0 [] := rfl
theorem tbX8_stands_1 {k : Instr → Nat → Nat → Nat → List Nat → Prop} : xse (xFind tbX8_stands 1) k = k (.getfield 92) 9 34 2 [] := rfl
theorem tbX8_stands_4 {k : Instr → Nat → Nat → Nat → List Nat → Prop} : xse (xFind tbX8_stands 4) k = k (.iload_n 1) 1 0 0 [] := rfl
theorem tbX8_stands_5 {k : Instr → Nat → Nat → Nat → List Nat → Prop} : xse (xFind tbX8_stands 5) k = k (.iaload) 34 0 0 [] := rfl
theorem tbX8_stands_6 {k : Instr → Nat → Nat → Nat → List Nat → Prop} : xse (xFind tbX8_stands 6) k = k (.iconst (-1)) 0 0 0 [] := rfl
theorem tbX8_stands_7 {k : Instr → Nat → Nat → Nat → List Nat → Prop} : xse (xFind tbX8_stands 7) k = k (.if_icmp .ne 7) 14 0 0 [] := rfl
theorem tbX8_stands_10 {k : Instr → Nat → Nat → Nat → List Nat → Prop} : xse (xFind tbX8_stands 10) k = k (.iconst 1) 0 0 0 [] := rfl
theorem tbX8_stands_11 {k : Instr → Nat → Nat → Nat → List Nat → Prop} : xse (xFind tbX8_stands 11) k = k (.goto 4) 15 0 0 [] := rfl
theorem tbX8_stands_14 {k : Instr → Nat → Nat → Nat → List Nat → Prop} : xse (xFind tbX8_stands 14) k = k (.iconst 0) 0 0 0 [] := rfl
theorem tbX8_stands_15 {k : Instr → Nat → Nat → Nat → List Nat → Prop} : xse (xFind tbX8_stands 15) k = k (.ireturn) 1 0 0 [] := rfl

def spX8_stands (aM : Nat → Nat) : xSp mS := (fun av M => (0, 0), fun av M K => ∃ (b : Int32), av = [.ref (aM 0), .int b] ∧ (vp_in b 6 ∧ K (rI (bi (M.2 34 b.toNatClampNeg = -1))) M))
theorem spcX8_stands {av : List Value} {M : mS} {aM : Nat → Nat} : (spX8_stands aM).1 av M = (0, 0) := rfl
theorem spwX8_stands {M : mS} {aM : Nat → Nat} {K : xRes → mS → Prop} {b : Int32} : (spX8_stands aM).2 [.ref (aM 0), .int b] M K = (vp_in b 6 ∧ K (rI (bi (M.2 34 b.toNatClampNeg = -1))) M) :=
  propext ⟨fun h => by
    simp only [spX8_stands] at h
    obtain ⟨_, e, h⟩ := h
    simp only [List.cons.injEq, Value.int.injEq, Value.ref.injEq, rf_eq, and_true, true_and] at e
    obtain rfl := e
    exact h, fun h => ⟨_, rfl, h⟩⟩

set_option maxHeartbeats 4000000 in
set_option maxRecDepth 20000 in
theorem semX8_stands (l : Launch) (W9 : xWd) (aM : Nat → Nat) (hi : mInj aM) : xSem l W9 (mI aM) yX8_stands wsX8_stands 0 0 (spX8_stands aM) := by
  refine xSem_of (call := fun _ => none) (thrf := fun _ => "") (mI_law hi) (by decide +kernel) rfl ckX8_stands usX8_stands xCallsOK_nil xThrOK_nil ?_ ?_
  · intro av M KF h
    obtain ⟨b, rfl, h⟩ := h
    exact ⟨by intro v hv; simp only [List.mem_cons, List.not_mem_nil, or_false] at hv; rcases hv with rfl | rfl <;> first | rfl | exact cat_rf, Nat.le_of_ble_eq_true rfl⟩
  intro av M KF h G hG
  obtain ⟨b, rfl, h⟩ := h
  rw [show (spX8_stands aM).1 _ M = _ from spcX8_stands] at hG
  try dsimp only at hG
  change G 0 [some (.ref (aM 0)), some (.int b)] [] M 0 0
  obtain ⟨h1, h⟩ := h
  refine xgo0 hG (fun fu hfu => ?_)
  clear hG
  simp only [ki_0, ki_1, ki_m1, ↓ma_34, ↓mg_34, ↓vm_aload_n, ↓vm_getfield, ↓vm_goto, ↓vm_iaload, ↓vm_iconst, ↓vm_if_icmp_ne, ↓vm_iload_n, ↓vm_ireturn, ↓tbX8_stands_0, ↓tbX8_stands_1, ↓tbX8_stands_4, ↓tbX8_stands_5, ↓tbX8_stands_6, ↓tbX8_stands_7, ↓tbX8_stands_10, ↓tbX8_stands_11, ↓tbX8_stands_14, ↓tbX8_stands_15, hfu, xstep0, xJ1_hit, xJ1_go, xJ2_hit1, xJ2_hit2, xJ2_go, ↓xif_t, ↓xif_f, seval, ↓xca_eq, ↓xre_l, ↓xre_r, xmask_t, xmask_f, xmask_nil, ↓xst_eq, xX_eq, eI_eq, eMc_eq, eMs_eq, eF_eq, eThr_eq, ↓xS1_mk, ↓xSI_mk, ↓xSR_mk, ↓xLI_0, ↓xLI_s, ↓xLR_0, ↓xLR_s, vRef_ref, vRef_null, vRef_rf, cat_int, cat_ref, cat_null, cat_rf, rf_some, rf_none, rf_null, rf_eq, rf_ref, ref_rf, ref_null, ref_ref, xOk_0, xOk_1, xOk_2r, xOk_2n, xOk_2f, vOpt_rf, vOpt_ref, vOpt_null, List.set_cons_zero, List.set_cons_succ, List.take_succ_cons, List.take_zero, List.drop_succ_cons, List.drop_zero, List.reverse_cons, List.reverse_nil, List.nil_append, List.cons_append, List.append_nil, List.length_cons, List.length_nil, List.map_cons, List.map_nil, List.sum_cons, List.sum_nil, Option.toList_some, Option.toList_none, xRecv_mk, true_and, and_true, true_implies, Nat.reduceAdd, Nat.reduceLeDiff, Nat.zero_le, Nat.le_refl, Nat.add_zero, Nat.zero_add, reduceIte, not_true_eq_false, not_false_eq_true, false_implies, and_self, implies_true, eq_self, Nat.reduceEqDiff, List.cons.injEq, xsn_1, xsn_2, false_and, and_false, or_false, false_or, or_true, true_or, xsn_3, xsn_4, h1]
  try simp only [xif_e]
  grind [bi]

def tbX8_hasRoom : List (Nat × xHint) := [(0, .aload_n 0, 0, 0, 0, []), (1, .getfield 50, 9, 18, 2, []), (4, .iload_n 1, 1, 0, 0, []), (5, .iaload, 18, 0, 0, []), (6, .aload_n 0, 0, 0, 0, []), (7, .getfield 47, 9, 17, 2, []), (10, .iload_n 1, 1, 0, 0, []), (11, .iaload, 17, 0, 0, []), (12, .if_icmp .ge 7, 19, 0, 0, []), (15, .iconst 1, 0, 0, 0, []), (16, .goto 4, 20, 0, 0, []), (19, .iconst 0, 0, 0, 0, []), (20, .ireturn, 1, 0, 0, [])]
def clX8_hasRoom : List (Instr × Nat × Nat × Nat) := []
def thX8_hasRoom : List (Nat × Nat) := []
theorem ckX8_hasRoom : tbX8_hasRoom.all (xRow RX8 cX8_hasRoom wsX8_hasRoom vwCl [9] clX8_hasRoom thX8_hasRoom 2 (yX8_hasRoom.name == "<init>") (some .boolean)) = true := xRow_q 0xac030400a7040700a22e1b2f00b42a2e1b3200b42a 21 (by decide +kernel) (by decide +kernel)
theorem usX8_hasRoom : xUse wsX8_hasRoom vwCl [9] = true := xUse_g rfl (lw_good lwl_X8_hasRoom lwl_X80 (by decide +kernel)) xUse_n
theorem tbX8_hasRoom_0 {k : Instr → Nat → Nat → Nat → List Nat → Prop} : xse (xFind tbX8_hasRoom 0) k = k (.aload_n 0) 0 0 0 [] := rfl
theorem tbX8_hasRoom_1 {k : Instr → Nat → Nat → Nat → List Nat → Prop} : xse (xFind tbX8_hasRoom 1) k = k (.getfield 50) 9 18 2 [] := rfl
theorem tbX8_hasRoom_4 {k : Instr → Nat → Nat → Nat → List Nat → Prop} : xse (xFind tbX8_hasRoom 4) k = k (.iload_n 1) 1 0 0 [] := rfl
theorem tbX8_hasRoom_5 {k : Instr → Nat → Nat → Nat → List Nat → Prop} : xse (xFind tbX8_hasRoom 5) k = k (.iaload) 18 0 0 [] := rfl
theorem tbX8_hasRoom_6 {k : Instr → Nat → Nat → Nat → List Nat → Prop} : xse (xFind tbX8_hasRoom 6) k = k (.aload_n 0) 0 0 0 [] := rfl
theorem tbX8_hasRoom_7 {k : Instr → Nat → Nat → Nat → List Nat → Prop} : xse (xFind tbX8_hasRoom 7) k = k (.getfield 47) 9 17 2 [] := rfl
theorem tbX8_hasRoom_10 {k : Instr → Nat → Nat → Nat → List Nat → Prop} : xse (xFind tbX8_hasRoom 10) k = k (.iload_n 1) 1 0 0 [] := rfl
theorem tbX8_hasRoom_11 {k : Instr → Nat → Nat → Nat → List Nat → Prop} : xse (xFind tbX8_hasRoom 11) k = k (.iaload) 17 0 0 [] := rfl
theorem tbX8_hasRoom_12 {k : Instr → Nat → Nat → Nat → List Nat → Prop} : xse (xFind tbX8_hasRoom 12) k = k (.if_icmp .ge 7) 19 0 0 [] := rfl
theorem tbX8_hasRoom_15 {k : Instr → Nat → Nat → Nat → List Nat → Prop} : xse (xFind tbX8_hasRoom 15) k = k (.iconst 1) 0 0 0 [] := rfl
theorem tbX8_hasRoom_16 {k : Instr → Nat → Nat → Nat → List Nat → Prop} : xse (xFind tbX8_hasRoom 16) k = k (.goto 4) 20 0 0 [] := rfl
theorem tbX8_hasRoom_19 {k : Instr → Nat → Nat → Nat → List Nat → Prop} : xse (xFind tbX8_hasRoom 19) k = k (.iconst 0) 0 0 0 [] := rfl
theorem tbX8_hasRoom_20 {k : Instr → Nat → Nat → Nat → List Nat → Prop} : xse (xFind tbX8_hasRoom 20) k = k (.ireturn) 1 0 0 [] := rfl

def spX8_hasRoom (aM : Nat → Nat) : xSp mS := (fun av M => (0, 0), fun av M K => ∃ (t : Int32), av = [.ref (aM 0), .int t] ∧ (vp_in t 16 ∧ K (rI (bi (M.2 18 t.toNatClampNeg < M.2 17 t.toNatClampNeg))) M))
theorem spcX8_hasRoom {av : List Value} {M : mS} {aM : Nat → Nat} : (spX8_hasRoom aM).1 av M = (0, 0) := rfl
theorem spwX8_hasRoom {M : mS} {aM : Nat → Nat} {K : xRes → mS → Prop} {t : Int32} : (spX8_hasRoom aM).2 [.ref (aM 0), .int t] M K = (vp_in t 16 ∧ K (rI (bi (M.2 18 t.toNatClampNeg < M.2 17 t.toNatClampNeg))) M) :=
  propext ⟨fun h => by
    simp only [spX8_hasRoom] at h
    obtain ⟨_, e, h⟩ := h
    simp only [List.cons.injEq, Value.int.injEq, Value.ref.injEq, rf_eq, and_true, true_and] at e
    obtain rfl := e
    exact h, fun h => ⟨_, rfl, h⟩⟩

set_option maxHeartbeats 4000000 in
set_option maxRecDepth 20000 in
theorem semX8_hasRoom (l : Launch) (W9 : xWd) (aM : Nat → Nat) (hi : mInj aM) : xSem l W9 (mI aM) yX8_hasRoom wsX8_hasRoom 0 0 (spX8_hasRoom aM) := by
  refine xSem_of (call := fun _ => none) (thrf := fun _ => "") (mI_law hi) (by decide +kernel) rfl ckX8_hasRoom usX8_hasRoom xCallsOK_nil xThrOK_nil ?_ ?_
  · intro av M KF h
    obtain ⟨t, rfl, h⟩ := h
    exact ⟨by intro v hv; simp only [List.mem_cons, List.not_mem_nil, or_false] at hv; rcases hv with rfl | rfl <;> first | rfl | exact cat_rf, Nat.le_of_ble_eq_true rfl⟩
  intro av M KF h G hG
  obtain ⟨t, rfl, h⟩ := h
  rw [show (spX8_hasRoom aM).1 _ M = _ from spcX8_hasRoom] at hG
  try dsimp only at hG
  change G 0 [some (.ref (aM 0)), some (.int t)] [] M 0 0
  obtain ⟨h1, h⟩ := h
  refine xgo0 hG (fun fu hfu => ?_)
  clear hG
  simp only [ki_0, ki_1, ↓ma_17, ↓ma_18, ↓mg_17, ↓mg_18, ↓vm_aload_n, ↓vm_getfield, ↓vm_goto, ↓vm_iaload, ↓vm_iconst, ↓vm_if_icmp_ge, ↓vm_iload_n, ↓vm_ireturn, ↓tbX8_hasRoom_0, ↓tbX8_hasRoom_1, ↓tbX8_hasRoom_4, ↓tbX8_hasRoom_5, ↓tbX8_hasRoom_6, ↓tbX8_hasRoom_7, ↓tbX8_hasRoom_10, ↓tbX8_hasRoom_11, ↓tbX8_hasRoom_12, ↓tbX8_hasRoom_15, ↓tbX8_hasRoom_16, ↓tbX8_hasRoom_19, ↓tbX8_hasRoom_20, hfu, xstep0, xJ1_hit, xJ1_go, xJ2_hit1, xJ2_hit2, xJ2_go, ↓xif_t, ↓xif_f, seval, ↓xca_eq, ↓xre_l, ↓xre_r, xmask_t, xmask_f, xmask_nil, ↓xst_eq, xX_eq, eI_eq, eMc_eq, eMs_eq, eF_eq, eThr_eq, ↓xS1_mk, ↓xSI_mk, ↓xSR_mk, ↓xLI_0, ↓xLI_s, ↓xLR_0, ↓xLR_s, vRef_ref, vRef_null, vRef_rf, cat_int, cat_ref, cat_null, cat_rf, rf_some, rf_none, rf_null, rf_eq, rf_ref, ref_rf, ref_null, ref_ref, xOk_0, xOk_1, xOk_2r, xOk_2n, xOk_2f, vOpt_rf, vOpt_ref, vOpt_null, List.set_cons_zero, List.set_cons_succ, List.take_succ_cons, List.take_zero, List.drop_succ_cons, List.drop_zero, List.reverse_cons, List.reverse_nil, List.nil_append, List.cons_append, List.append_nil, List.length_cons, List.length_nil, List.map_cons, List.map_nil, List.sum_cons, List.sum_nil, Option.toList_some, Option.toList_none, xRecv_mk, true_and, and_true, true_implies, Nat.reduceAdd, Nat.reduceLeDiff, Nat.zero_le, Nat.le_refl, Nat.add_zero, Nat.zero_add, reduceIte, not_true_eq_false, not_false_eq_true, false_implies, and_self, implies_true, eq_self, Nat.reduceEqDiff, List.cons.injEq, xsn_1, xsn_2, false_and, and_false, or_false, false_or, or_true, true_or, xsn_3, xsn_4, h1]
  try simp only [xif_e]
  grind [bi]

def tbX8_isUp : List (Nat × xHint) := [(0, .aload_n 0, 0, 0, 0, []), (1, .getfield 101, 9, 37, 2, []), (4, .iload_n 1, 1, 0, 0, []), (5, .iaload, 37, 0, 0, []), (6, .aload_n 0, 0, 0, 0, []), (7, .getfield 89, 9, 33, 2, []), (10, .iload_n 1, 1, 0, 0, []), (11, .iaload, 33, 0, 0, []), (12, .if_icmp .le 7, 19, 0, 0, []), (15, .iconst 1, 0, 0, 0, []), (16, .goto 4, 20, 0, 0, []), (19, .iconst 0, 0, 0, 0, []), (20, .ireturn, 1, 0, 0, [])]
def clX8_isUp : List (Instr × Nat × Nat × Nat) := []
def thX8_isUp : List (Nat × Nat) := []
theorem ckX8_isUp : tbX8_isUp.all (xRow RX8 cX8_isUp wsX8_isUp vwCl [9] clX8_isUp thX8_isUp 2 (yX8_isUp.name == "<init>") (some .boolean)) = true := xRow_q 0xac030400a7040700a42e1b5900b42a2e1b6500b42a 21 (by decide +kernel) (by decide +kernel)
theorem usX8_isUp : xUse wsX8_isUp vwCl [9] = true := xUse_g rfl (lw_good lwl_X8_isUp lwl_X80 (by decide +kernel)) xUse_n
theorem tbX8_isUp_0 {k : Instr → Nat → Nat → Nat → List Nat → Prop} : xse (xFind tbX8_isUp 0) k = k (.aload_n 0) 0 0 0 [] := rfl
theorem tbX8_isUp_1 {k : Instr → Nat → Nat → Nat → List Nat → Prop} : xse (xFind tbX8_isUp 1) k = k (.getfield 101) 9 37 2 [] := rfl
theorem tbX8_isUp_4 {k : Instr → Nat → Nat → Nat → List Nat → Prop} : xse (xFind tbX8_isUp 4) k = k (.iload_n 1) 1 0 0 [] := rfl
theorem tbX8_isUp_5 {k : Instr → Nat → Nat → Nat → List Nat → Prop} : xse (xFind tbX8_isUp 5) k = k (.iaload) 37 0 0 [] := rfl
theorem tbX8_isUp_6 {k : Instr → Nat → Nat → Nat → List Nat → Prop} : xse (xFind tbX8_isUp 6) k = k (.aload_n 0) 0 0 0 [] := rfl
theorem tbX8_isUp_7 {k : Instr → Nat → Nat → Nat → List Nat → Prop} : xse (xFind tbX8_isUp 7) k = k (.getfield 89) 9 33 2 [] := rfl
theorem tbX8_isUp_10 {k : Instr → Nat → Nat → Nat → List Nat → Prop} : xse (xFind tbX8_isUp 10) k = k (.iload_n 1) 1 0 0 [] := rfl
theorem tbX8_isUp_11 {k : Instr → Nat → Nat → Nat → List Nat → Prop} : xse (xFind tbX8_isUp 11) k = k (.iaload) 33 0 0 [] := rfl
theorem tbX8_isUp_12 {k : Instr → Nat → Nat → Nat → List Nat → Prop} : xse (xFind tbX8_isUp 12) k = k (.if_icmp .le 7) 19 0 0 [] := rfl
theorem tbX8_isUp_15 {k : Instr → Nat → Nat → Nat → List Nat → Prop} : xse (xFind tbX8_isUp 15) k = k (.iconst 1) 0 0 0 [] := rfl
theorem tbX8_isUp_16 {k : Instr → Nat → Nat → Nat → List Nat → Prop} : xse (xFind tbX8_isUp 16) k = k (.goto 4) 20 0 0 [] := rfl
theorem tbX8_isUp_19 {k : Instr → Nat → Nat → Nat → List Nat → Prop} : xse (xFind tbX8_isUp 19) k = k (.iconst 0) 0 0 0 [] := rfl
theorem tbX8_isUp_20 {k : Instr → Nat → Nat → Nat → List Nat → Prop} : xse (xFind tbX8_isUp 20) k = k (.ireturn) 1 0 0 [] := rfl

def spX8_isUp (aM : Nat → Nat) : xSp mS := (fun av M => (0, 0), fun av M K => ∃ (b : Int32), av = [.ref (aM 0), .int b] ∧ (vp_in b 6 ∧ K (rI (bi (M.2 37 b.toNatClampNeg > M.2 33 b.toNatClampNeg))) M))
theorem spcX8_isUp {av : List Value} {M : mS} {aM : Nat → Nat} : (spX8_isUp aM).1 av M = (0, 0) := rfl
theorem spwX8_isUp {M : mS} {aM : Nat → Nat} {K : xRes → mS → Prop} {b : Int32} : (spX8_isUp aM).2 [.ref (aM 0), .int b] M K = (vp_in b 6 ∧ K (rI (bi (M.2 37 b.toNatClampNeg > M.2 33 b.toNatClampNeg))) M) :=
  propext ⟨fun h => by
    simp only [spX8_isUp] at h
    obtain ⟨_, e, h⟩ := h
    simp only [List.cons.injEq, Value.int.injEq, Value.ref.injEq, rf_eq, and_true, true_and] at e
    obtain rfl := e
    exact h, fun h => ⟨_, rfl, h⟩⟩

set_option maxHeartbeats 4000000 in
set_option maxRecDepth 20000 in
theorem semX8_isUp (l : Launch) (W9 : xWd) (aM : Nat → Nat) (hi : mInj aM) : xSem l W9 (mI aM) yX8_isUp wsX8_isUp 0 0 (spX8_isUp aM) := by
  refine xSem_of (call := fun _ => none) (thrf := fun _ => "") (mI_law hi) (by decide +kernel) rfl ckX8_isUp usX8_isUp xCallsOK_nil xThrOK_nil ?_ ?_
  · intro av M KF h
    obtain ⟨b, rfl, h⟩ := h
    exact ⟨by intro v hv; simp only [List.mem_cons, List.not_mem_nil, or_false] at hv; rcases hv with rfl | rfl <;> first | rfl | exact cat_rf, Nat.le_of_ble_eq_true rfl⟩
  intro av M KF h G hG
  obtain ⟨b, rfl, h⟩ := h
  rw [show (spX8_isUp aM).1 _ M = _ from spcX8_isUp] at hG
  try dsimp only at hG
  change G 0 [some (.ref (aM 0)), some (.int b)] [] M 0 0
  obtain ⟨h1, h⟩ := h
  refine xgo0 hG (fun fu hfu => ?_)
  clear hG
  simp only [ki_0, ki_1, ↓ma_33, ↓ma_37, ↓mg_33, ↓mg_37, ↓vm_aload_n, ↓vm_getfield, ↓vm_goto, ↓vm_iaload, ↓vm_iconst, ↓vm_if_icmp_le, ↓vm_iload_n, ↓vm_ireturn, ↓tbX8_isUp_0, ↓tbX8_isUp_1, ↓tbX8_isUp_4, ↓tbX8_isUp_5, ↓tbX8_isUp_6, ↓tbX8_isUp_7, ↓tbX8_isUp_10, ↓tbX8_isUp_11, ↓tbX8_isUp_12, ↓tbX8_isUp_15, ↓tbX8_isUp_16, ↓tbX8_isUp_19, ↓tbX8_isUp_20, hfu, xstep0, xJ1_hit, xJ1_go, xJ2_hit1, xJ2_hit2, xJ2_go, ↓xif_t, ↓xif_f, seval, ↓xca_eq, ↓xre_l, ↓xre_r, xmask_t, xmask_f, xmask_nil, ↓xst_eq, xX_eq, eI_eq, eMc_eq, eMs_eq, eF_eq, eThr_eq, ↓xS1_mk, ↓xSI_mk, ↓xSR_mk, ↓xLI_0, ↓xLI_s, ↓xLR_0, ↓xLR_s, vRef_ref, vRef_null, vRef_rf, cat_int, cat_ref, cat_null, cat_rf, rf_some, rf_none, rf_null, rf_eq, rf_ref, ref_rf, ref_null, ref_ref, xOk_0, xOk_1, xOk_2r, xOk_2n, xOk_2f, vOpt_rf, vOpt_ref, vOpt_null, List.set_cons_zero, List.set_cons_succ, List.take_succ_cons, List.take_zero, List.drop_succ_cons, List.drop_zero, List.reverse_cons, List.reverse_nil, List.nil_append, List.cons_append, List.append_nil, List.length_cons, List.length_nil, List.map_cons, List.map_nil, List.sum_cons, List.sum_nil, Option.toList_some, Option.toList_none, xRecv_mk, true_and, and_true, true_implies, Nat.reduceAdd, Nat.reduceLeDiff, Nat.zero_le, Nat.le_refl, Nat.add_zero, Nat.zero_add, reduceIte, not_true_eq_false, not_false_eq_true, false_implies, and_self, implies_true, eq_self, Nat.reduceEqDiff, List.cons.injEq, xsn_1, xsn_2, false_and, and_false, or_false, false_or, or_true, true_or, xsn_3, xsn_4, h1]
  try simp only [xif_e]
  grind [bi]

def tbX8_held : List (Nat × xHint) := [(0, .iload_n 0, 0, 0, 0, []), (1, .bipush (-30), 0, 0, 0, []), (3, .if_icmp .ge 8, 11, 0, 0, []), (6, .bipush (-30), 0, 0, 0, []), (8, .goto 15, 23, 0, 0, []), (11, .iload_n 0, 0, 0, 0, []), (12, .bipush 60, 0, 0, 0, []), (14, .if_icmp .le 8, 22, 0, 0, []), (17, .bipush 60, 0, 0, 0, []), (19, .goto 4, 23, 0, 0, []), (22, .iload_n 0, 0, 0, 0, []), (23, .ireturn, 0, 0, 0, [])]
def clX8_held : List (Instr × Nat × Nat × Nat) := []
def thX8_held : List (Nat × Nat) := []
theorem ckX8_held : tbX8_held.all (xRow RX8 cX8_held wsX8_held vwCl [] clX8_held thX8_held 1 (yX8_held.name == "<init>") (some .int)) = true := xRow_q 0xac1a0400a73c100800a43c101a0f00a7e2100800a2e2101a 24 (by decide +kernel) (by decide +kernel)
theorem usX8_held : xUse wsX8_held vwCl [] = true := xUse_n
theorem tbX8_held_0 {k : Instr → Nat → Nat → Nat → List Nat → Prop} : xse (xFind tbX8_held 0) k = k (.iload_n 0) 0 0 0 [] := rfl
theorem tbX8_held_1 {k : Instr → Nat → Nat → Nat → List Nat → Prop} : xse (xFind tbX8_held 1) k = k (.bipush (-30)) 0 0 0 [] := rfl
theorem tbX8_held_3 {k : Instr → Nat → Nat → Nat → List Nat → Prop} : xse (xFind tbX8_held 3) k = k (.if_icmp .ge 8) 11 0 0 [] := rfl
theorem tbX8_held_6 {k : Instr → Nat → Nat → Nat → List Nat → Prop} : xse (xFind tbX8_held 6) k = k (.bipush (-30)) 0 0 0 [] := rfl
theorem tbX8_held_8 {k : Instr → Nat → Nat → Nat → List Nat → Prop} : xse (xFind tbX8_held 8) k = k (.goto 15) 23 0 0 [] := rfl
theorem tbX8_held_11 {k : Instr → Nat → Nat → Nat → List Nat → Prop} : xse (xFind tbX8_held 11) k = k (.iload_n 0) 0 0 0 [] := rfl
theorem tbX8_held_12 {k : Instr → Nat → Nat → Nat → List Nat → Prop} : xse (xFind tbX8_held 12) k = k (.bipush 60) 0 0 0 [] := rfl
theorem tbX8_held_14 {k : Instr → Nat → Nat → Nat → List Nat → Prop} : xse (xFind tbX8_held 14) k = k (.if_icmp .le 8) 22 0 0 [] := rfl
theorem tbX8_held_17 {k : Instr → Nat → Nat → Nat → List Nat → Prop} : xse (xFind tbX8_held 17) k = k (.bipush 60) 0 0 0 [] := rfl
theorem tbX8_held_19 {k : Instr → Nat → Nat → Nat → List Nat → Prop} : xse (xFind tbX8_held 19) k = k (.goto 4) 23 0 0 [] := rfl
theorem tbX8_held_22 {k : Instr → Nat → Nat → Nat → List Nat → Prop} : xse (xFind tbX8_held 22) k = k (.iload_n 0) 0 0 0 [] := rfl
theorem tbX8_held_23 {k : Instr → Nat → Nat → Nat → List Nat → Prop} : xse (xFind tbX8_held 23) k = k (.ireturn) 0 0 0 [] := rfl

def spX8_held (aM : Nat → Nat) : xSp mS := (fun av M => (0, 0), fun av M K => ∃ (v : Int32), av = [.int v] ∧ (K (rI (if v < -30 then -30 else if v > 60 then 60 else v)) M))
theorem spcX8_held {av : List Value} {M : mS} {aM : Nat → Nat} : (spX8_held aM).1 av M = (0, 0) := rfl
theorem spwX8_held {M : mS} {aM : Nat → Nat} {K : xRes → mS → Prop} {v : Int32} : (spX8_held aM).2 [.int v] M K = (K (rI (if v < -30 then -30 else if v > 60 then 60 else v)) M) :=
  propext ⟨fun h => by
    simp only [spX8_held] at h
    obtain ⟨_, e, h⟩ := h
    simp only [List.cons.injEq, Value.int.injEq, Value.ref.injEq, rf_eq, and_true, true_and] at e
    obtain rfl := e
    exact h, fun h => ⟨_, rfl, h⟩⟩

set_option maxHeartbeats 4000000 in
set_option maxRecDepth 20000 in
theorem semX8_held (l : Launch) (W9 : xWd) (aM : Nat → Nat) (hi : mInj aM) : xSem l W9 (mI aM) yX8_held wsX8_held 0 0 (spX8_held aM) := by
  refine xSem_of (call := fun _ => none) (thrf := fun _ => "") (mI_law hi) (by decide +kernel) rfl ckX8_held usX8_held xCallsOK_nil xThrOK_nil ?_ ?_
  · intro av M KF h
    obtain ⟨v, rfl, h⟩ := h
    exact ⟨by intro v hv; simp only [List.mem_cons, List.not_mem_nil, or_false] at hv; rcases hv with rfl <;> first | rfl | exact cat_rf, Nat.le_of_ble_eq_true rfl⟩
  intro av M KF h G hG
  obtain ⟨v, rfl, h⟩ := h
  rw [show (spX8_held aM).1 _ M = _ from spcX8_held] at hG
  try dsimp only at hG
  change G 0 [some (.int v)] [] M 0 0
  refine xgo0 hG (fun fu hfu => ?_)
  clear hG
  simp only [kb_60, kb_m30, kc_60, kc_m30, ↓vm_bipush, ↓vm_goto, ↓vm_if_icmp_ge, ↓vm_if_icmp_le, ↓vm_iload_n, ↓vm_ireturn, ↓tbX8_held_0, ↓tbX8_held_1, ↓tbX8_held_3, ↓tbX8_held_6, ↓tbX8_held_8, ↓tbX8_held_11, ↓tbX8_held_12, ↓tbX8_held_14, ↓tbX8_held_17, ↓tbX8_held_19, ↓tbX8_held_22, ↓tbX8_held_23, hfu, xstep0, xJ1_hit, xJ1_go, xJ2_hit1, xJ2_hit2, xJ2_go, ↓xif_t, ↓xif_f, seval, ↓xca_eq, ↓xre_l, ↓xre_r, xmask_t, xmask_f, xmask_nil, ↓xst_eq, xX_eq, eI_eq, eMc_eq, eMs_eq, eF_eq, eThr_eq, ↓xS1_mk, ↓xSI_mk, ↓xSR_mk, ↓xLI_0, ↓xLI_s, ↓xLR_0, ↓xLR_s, vRef_ref, vRef_null, vRef_rf, cat_int, cat_ref, cat_null, cat_rf, rf_some, rf_none, rf_null, rf_eq, rf_ref, ref_rf, ref_null, ref_ref, xOk_0, xOk_1, xOk_2r, xOk_2n, xOk_2f, vOpt_rf, vOpt_ref, vOpt_null, List.set_cons_zero, List.set_cons_succ, List.take_succ_cons, List.take_zero, List.drop_succ_cons, List.drop_zero, List.reverse_cons, List.reverse_nil, List.nil_append, List.cons_append, List.append_nil, List.length_cons, List.length_nil, List.map_cons, List.map_nil, List.sum_cons, List.sum_nil, Option.toList_some, Option.toList_none, xRecv_mk, true_and, and_true, true_implies, Nat.reduceAdd, Nat.reduceLeDiff, Nat.zero_le, Nat.le_refl, Nat.add_zero, Nat.zero_add, reduceIte, not_true_eq_false, not_false_eq_true, false_implies, and_self, implies_true, eq_self, Nat.reduceEqDiff, List.cons.injEq, xsn_1, xsn_2, false_and, and_false, or_false, false_or, or_true, true_or, xsn_3, xsn_4]
  try simp only [xif_e]
  grind [bi]

def tbX8_between : List (Nat × xHint) := [(0, .iload_n 0, 0, 0, 0, []), (1, .iload_n 1, 1, 0, 0, []), (2, .if_icmp .ge 9, 11, 0, 0, []), (5, .iload_n 1, 1, 0, 0, []), (6, .iload_n 0, 0, 0, 0, []), (7, .isub, 0, 0, 0, []), (8, .goto 6, 14, 0, 0, []), (11, .iload_n 0, 0, 0, 0, []), (12, .iload_n 1, 1, 0, 0, []), (13, .isub, 0, 0, 0, []), (14, .ireturn, 0, 0, 0, [])]
def clX8_between : List (Instr × Nat × Nat × Nat) := []
def thX8_between : List (Nat × Nat) := []
theorem ckX8_between : tbX8_between.all (xRow RX8 cX8_between wsX8_between vwCl [] clX8_between thX8_between 2 (yX8_between.name == "<init>") (some .int)) = true := xRow_q 0xac641b1a0600a7641a1b0900a21b1a 15 (by decide +kernel) (by decide +kernel)
theorem usX8_between : xUse wsX8_between vwCl [] = true := xUse_n
theorem tbX8_between_0 {k : Instr → Nat → Nat → Nat → List Nat → Prop} : xse (xFind tbX8_between 0) k = k (.iload_n 0) 0 0 0 [] := rfl
theorem tbX8_between_1 {k : Instr → Nat → Nat → Nat → List Nat → Prop} : xse (xFind tbX8_between 1) k = k (.iload_n 1) 1 0 0 [] := rfl
theorem tbX8_between_2 {k : Instr → Nat → Nat → Nat → List Nat → Prop} : xse (xFind tbX8_between 2) k = k (.if_icmp .ge 9) 11 0 0 [] := rfl
theorem tbX8_between_5 {k : Instr → Nat → Nat → Nat → List Nat → Prop} : xse (xFind tbX8_between 5) k = k (.iload_n 1) 1 0 0 [] := rfl
theorem tbX8_between_6 {k : Instr → Nat → Nat → Nat → List Nat → Prop} : xse (xFind tbX8_between 6) k = k (.iload_n 0) 0 0 0 [] := rfl
theorem tbX8_between_7 {k : Instr → Nat → Nat → Nat → List Nat → Prop} : xse (xFind tbX8_between 7) k = k (.isub) 0 0 0 [] := rfl
theorem tbX8_between_8 {k : Instr → Nat → Nat → Nat → List Nat → Prop} : xse (xFind tbX8_between 8) k = k (.goto 6) 14 0 0 [] := rfl
theorem tbX8_between_11 {k : Instr → Nat → Nat → Nat → List Nat → Prop} : xse (xFind tbX8_between 11) k = k (.iload_n 0) 0 0 0 [] := rfl
theorem tbX8_between_12 {k : Instr → Nat → Nat → Nat → List Nat → Prop} : xse (xFind tbX8_between 12) k = k (.iload_n 1) 1 0 0 [] := rfl
theorem tbX8_between_13 {k : Instr → Nat → Nat → Nat → List Nat → Prop} : xse (xFind tbX8_between 13) k = k (.isub) 0 0 0 [] := rfl
theorem tbX8_between_14 {k : Instr → Nat → Nat → Nat → List Nat → Prop} : xse (xFind tbX8_between 14) k = k (.ireturn) 0 0 0 [] := rfl

def spX8_between (aM : Nat → Nat) : xSp mS := (fun av M => (0, 0), fun av M K => ∃ (a : Int32) (b : Int32), av = [.int a, .int b] ∧ (K (rI (if a < b then b - a else a - b)) M))
theorem spcX8_between {av : List Value} {M : mS} {aM : Nat → Nat} : (spX8_between aM).1 av M = (0, 0) := rfl
theorem spwX8_between {M : mS} {aM : Nat → Nat} {K : xRes → mS → Prop} {a : Int32} {b : Int32} : (spX8_between aM).2 [.int a, .int b] M K = (K (rI (if a < b then b - a else a - b)) M) :=
  propext ⟨fun h => by
    simp only [spX8_between] at h
    obtain ⟨_, _, e, h⟩ := h
    simp only [List.cons.injEq, Value.int.injEq, Value.ref.injEq, rf_eq, and_true, true_and] at e
    obtain ⟨rfl, rfl⟩ := e
    exact h, fun h => ⟨_, _, rfl, h⟩⟩

set_option maxHeartbeats 4000000 in
set_option maxRecDepth 20000 in
theorem semX8_between (l : Launch) (W9 : xWd) (aM : Nat → Nat) (hi : mInj aM) : xSem l W9 (mI aM) yX8_between wsX8_between 0 0 (spX8_between aM) := by
  refine xSem_of (call := fun _ => none) (thrf := fun _ => "") (mI_law hi) (by decide +kernel) rfl ckX8_between usX8_between xCallsOK_nil xThrOK_nil ?_ ?_
  · intro av M KF h
    obtain ⟨a, b, rfl, h⟩ := h
    exact ⟨by intro v hv; simp only [List.mem_cons, List.not_mem_nil, or_false] at hv; rcases hv with rfl | rfl <;> first | rfl | exact cat_rf, Nat.le_of_ble_eq_true rfl⟩
  intro av M KF h G hG
  obtain ⟨a, b, rfl, h⟩ := h
  rw [show (spX8_between aM).1 _ M = _ from spcX8_between] at hG
  try dsimp only at hG
  change G 0 [some (.int a), some (.int b)] [] M 0 0
  refine xgo0 hG (fun fu hfu => ?_)
  clear hG
  simp only [↓vm_goto, ↓vm_if_icmp_ge, ↓vm_iload_n, ↓vm_ireturn, ↓vm_isub, ↓tbX8_between_0, ↓tbX8_between_1, ↓tbX8_between_2, ↓tbX8_between_5, ↓tbX8_between_6, ↓tbX8_between_7, ↓tbX8_between_8, ↓tbX8_between_11, ↓tbX8_between_12, ↓tbX8_between_13, ↓tbX8_between_14, hfu, xstep0, xJ1_hit, xJ1_go, xJ2_hit1, xJ2_hit2, xJ2_go, ↓xif_t, ↓xif_f, seval, ↓xca_eq, ↓xre_l, ↓xre_r, xmask_t, xmask_f, xmask_nil, ↓xst_eq, xX_eq, eI_eq, eMc_eq, eMs_eq, eF_eq, eThr_eq, ↓xS1_mk, ↓xSI_mk, ↓xSR_mk, ↓xLI_0, ↓xLI_s, ↓xLR_0, ↓xLR_s, vRef_ref, vRef_null, vRef_rf, cat_int, cat_ref, cat_null, cat_rf, rf_some, rf_none, rf_null, rf_eq, rf_ref, ref_rf, ref_null, ref_ref, xOk_0, xOk_1, xOk_2r, xOk_2n, xOk_2f, vOpt_rf, vOpt_ref, vOpt_null, List.set_cons_zero, List.set_cons_succ, List.take_succ_cons, List.take_zero, List.drop_succ_cons, List.drop_zero, List.reverse_cons, List.reverse_nil, List.nil_append, List.cons_append, List.append_nil, List.length_cons, List.length_nil, List.map_cons, List.map_nil, List.sum_cons, List.sum_nil, Option.toList_some, Option.toList_none, xRecv_mk, true_and, and_true, true_implies, Nat.reduceAdd, Nat.reduceLeDiff, Nat.zero_le, Nat.le_refl, Nat.add_zero, Nat.zero_add, reduceIte, not_true_eq_false, not_false_eq_true, false_implies, and_self, implies_true, eq_self, Nat.reduceEqDiff, List.cons.injEq, xsn_1, xsn_2, false_and, and_false, or_false, false_or, or_true, true_or, xsn_3, xsn_4]
  try simp only [xif_e]
  grind [bi]

def tbX8_suits : List (Nat × xHint) := [(0, .iload_n 1, 1, 0, 0, []), (1, .iconst 2, 0, 0, 0, []), (2, .if_icmp .ne 16, 18, 0, 0, []), (5, .iload_n 0, 0, 0, 0, []), (6, .iconst 2, 0, 0, 0, []), (7, .if_icmp .ne 7, 14, 0, 0, []), (10, .iconst 1, 0, 0, 0, []), (11, .goto 35, 46, 0, 0, []), (14, .iconst 0, 0, 0, 0, []), (15, .goto 31, 46, 0, 0, []), (18, .iload_n 1, 1, 0, 0, []), (19, .iconst 1, 0, 0, 0, []), (20, .if_icmp .ne 16, 36, 0, 0, []), (23, .iload_n 0, 0, 0, 0, []), (24, .iconst 1, 0, 0, 0, []), (25, .if_icmp .ne 7, 32, 0, 0, []), (28, .iconst 1, 0, 0, 0, []), (29, .goto 17, 46, 0, 0, []), (32, .iconst 0, 0, 0, 0, []), (33, .goto 13, 46, 0, 0, []), (36, .iload_n 0, 0, 0, 0, []), (37, .iconst 2, 0, 0, 0, []), (38, .if_icmp .eq 7, 45, 0, 0, []), (41, .iconst 1, 0, 0, 0, []), (42, .goto 4, 46, 0, 0, []), (45, .iconst 0, 0, 0, 0, []), (46, .ireturn, 1, 0, 0, [])]
def clX8_suits : List (Instr × Nat × Nat × Nat) := []
def thX8_suits : List (Nat × Nat) := []
theorem ckX8_suits : tbX8_suits.all (xRow RX8 cX8_suits wsX8_suits vwCl [] clX8_suits thX8_suits 2 (yX8_suits.name == "<init>") (some .boolean)) = true := xRow_q 0xac030400a70407009f051a0d00a7031100a7040700a0041a1000a0041b1f00a7032300a7040700a0051a1000a0051b 47 (by decide +kernel) (by decide +kernel)
theorem usX8_suits : xUse wsX8_suits vwCl [] = true := xUse_n
theorem tbX8_suits_0 {k : Instr → Nat → Nat → Nat → List Nat → Prop} : xse (xFind tbX8_suits 0) k = k (.iload_n 1) 1 0 0 [] := rfl
theorem tbX8_suits_1 {k : Instr → Nat → Nat → Nat → List Nat → Prop} : xse (xFind tbX8_suits 1) k = k (.iconst 2) 0 0 0 [] := rfl
theorem tbX8_suits_2 {k : Instr → Nat → Nat → Nat → List Nat → Prop} : xse (xFind tbX8_suits 2) k = k (.if_icmp .ne 16) 18 0 0 [] := rfl
theorem tbX8_suits_5 {k : Instr → Nat → Nat → Nat → List Nat → Prop} : xse (xFind tbX8_suits 5) k = k (.iload_n 0) 0 0 0 [] := rfl
theorem tbX8_suits_6 {k : Instr → Nat → Nat → Nat → List Nat → Prop} : xse (xFind tbX8_suits 6) k = k (.iconst 2) 0 0 0 [] := rfl
theorem tbX8_suits_7 {k : Instr → Nat → Nat → Nat → List Nat → Prop} : xse (xFind tbX8_suits 7) k = k (.if_icmp .ne 7) 14 0 0 [] := rfl
theorem tbX8_suits_10 {k : Instr → Nat → Nat → Nat → List Nat → Prop} : xse (xFind tbX8_suits 10) k = k (.iconst 1) 0 0 0 [] := rfl
theorem tbX8_suits_11 {k : Instr → Nat → Nat → Nat → List Nat → Prop} : xse (xFind tbX8_suits 11) k = k (.goto 35) 46 0 0 [] := rfl
theorem tbX8_suits_14 {k : Instr → Nat → Nat → Nat → List Nat → Prop} : xse (xFind tbX8_suits 14) k = k (.iconst 0) 0 0 0 [] := rfl
theorem tbX8_suits_15 {k : Instr → Nat → Nat → Nat → List Nat → Prop} : xse (xFind tbX8_suits 15) k = k (.goto 31) 46 0 0 [] := rfl
theorem tbX8_suits_18 {k : Instr → Nat → Nat → Nat → List Nat → Prop} : xse (xFind tbX8_suits 18) k = k (.iload_n 1) 1 0 0 [] := rfl
theorem tbX8_suits_19 {k : Instr → Nat → Nat → Nat → List Nat → Prop} : xse (xFind tbX8_suits 19) k = k (.iconst 1) 0 0 0 [] := rfl
theorem tbX8_suits_20 {k : Instr → Nat → Nat → Nat → List Nat → Prop} : xse (xFind tbX8_suits 20) k = k (.if_icmp .ne 16) 36 0 0 [] := rfl
theorem tbX8_suits_23 {k : Instr → Nat → Nat → Nat → List Nat → Prop} : xse (xFind tbX8_suits 23) k = k (.iload_n 0) 0 0 0 [] := rfl
theorem tbX8_suits_24 {k : Instr → Nat → Nat → Nat → List Nat → Prop} : xse (xFind tbX8_suits 24) k = k (.iconst 1) 0 0 0 [] := rfl
theorem tbX8_suits_25 {k : Instr → Nat → Nat → Nat → List Nat → Prop} : xse (xFind tbX8_suits 25) k = k (.if_icmp .ne 7) 32 0 0 [] := rfl
theorem tbX8_suits_28 {k : Instr → Nat → Nat → Nat → List Nat → Prop} : xse (xFind tbX8_suits 28) k = k (.iconst 1) 0 0 0 [] := rfl
theorem tbX8_suits_29 {k : Instr → Nat → Nat → Nat → List Nat → Prop} : xse (xFind tbX8_suits 29) k = k (.goto 17) 46 0 0 [] := rfl
theorem tbX8_suits_32 {k : Instr → Nat → Nat → Nat → List Nat → Prop} : xse (xFind tbX8_suits 32) k = k (.iconst 0) 0 0 0 [] := rfl
theorem tbX8_suits_33 {k : Instr → Nat → Nat → Nat → List Nat → Prop} : xse (xFind tbX8_suits 33) k = k (.goto 13) 46 0 0 [] := rfl
theorem tbX8_suits_36 {k : Instr → Nat → Nat → Nat → List Nat → Prop} : xse (xFind tbX8_suits 36) k = k (.iload_n 0) 0 0 0 [] := rfl
theorem tbX8_suits_37 {k : Instr → Nat → Nat → Nat → List Nat → Prop} : xse (xFind tbX8_suits 37) k = k (.iconst 2) 0 0 0 [] := rfl
theorem tbX8_suits_38 {k : Instr → Nat → Nat → Nat → List Nat → Prop} : xse (xFind tbX8_suits 38) k = k (.if_icmp .eq 7) 45 0 0 [] := rfl
theorem tbX8_suits_41 {k : Instr → Nat → Nat → Nat → List Nat → Prop} : xse (xFind tbX8_suits 41) k = k (.iconst 1) 0 0 0 [] := rfl
theorem tbX8_suits_42 {k : Instr → Nat → Nat → Nat → List Nat → Prop} : xse (xFind tbX8_suits 42) k = k (.goto 4) 46 0 0 [] := rfl
theorem tbX8_suits_45 {k : Instr → Nat → Nat → Nat → List Nat → Prop} : xse (xFind tbX8_suits 45) k = k (.iconst 0) 0 0 0 [] := rfl
theorem tbX8_suits_46 {k : Instr → Nat → Nat → Nat → List Nat → Prop} : xse (xFind tbX8_suits 46) k = k (.ireturn) 1 0 0 [] := rfl

def spX8_suits (aM : Nat → Nat) : xSp mS := (fun av M => (0, 0), fun av M K => ∃ (t : Int32) (k : Int32), av = [.int t, .int k] ∧ (K (rI (bi (if k = 2 then t = 2 else if k = 1 then t = 1 else t ≠ 2))) M))
theorem spcX8_suits {av : List Value} {M : mS} {aM : Nat → Nat} : (spX8_suits aM).1 av M = (0, 0) := rfl
theorem spwX8_suits {M : mS} {aM : Nat → Nat} {K : xRes → mS → Prop} {t : Int32} {k : Int32} : (spX8_suits aM).2 [.int t, .int k] M K = (K (rI (bi (if k = 2 then t = 2 else if k = 1 then t = 1 else t ≠ 2))) M) :=
  propext ⟨fun h => by
    simp only [spX8_suits] at h
    obtain ⟨_, _, e, h⟩ := h
    simp only [List.cons.injEq, Value.int.injEq, Value.ref.injEq, rf_eq, and_true, true_and] at e
    obtain ⟨rfl, rfl⟩ := e
    exact h, fun h => ⟨_, _, rfl, h⟩⟩

set_option maxHeartbeats 4000000 in
set_option maxRecDepth 20000 in
theorem semX8_suits (l : Launch) (W9 : xWd) (aM : Nat → Nat) (hi : mInj aM) : xSem l W9 (mI aM) yX8_suits wsX8_suits 0 0 (spX8_suits aM) := by
  refine xSem_of (call := fun _ => none) (thrf := fun _ => "") (mI_law hi) (by decide +kernel) rfl ckX8_suits usX8_suits xCallsOK_nil xThrOK_nil ?_ ?_
  · intro av M KF h
    obtain ⟨t, k, rfl, h⟩ := h
    exact ⟨by intro v hv; simp only [List.mem_cons, List.not_mem_nil, or_false] at hv; rcases hv with rfl | rfl <;> first | rfl | exact cat_rf, Nat.le_of_ble_eq_true rfl⟩
  intro av M KF h G hG
  obtain ⟨t, k, rfl, h⟩ := h
  rw [show (spX8_suits aM).1 _ M = _ from spcX8_suits] at hG
  try dsimp only at hG
  change G 0 [some (.int t), some (.int k)] [] M 0 0
  refine xgo0 hG (fun fu hfu => ?_)
  clear hG
  simp only [ki_0, ki_1, ki_2, ↓vm_goto, ↓vm_iconst, ↓vm_if_icmp_eq, ↓vm_if_icmp_ne, ↓vm_iload_n, ↓vm_ireturn, ↓tbX8_suits_0, ↓tbX8_suits_1, ↓tbX8_suits_2, ↓tbX8_suits_5, ↓tbX8_suits_6, ↓tbX8_suits_7, ↓tbX8_suits_10, ↓tbX8_suits_11, ↓tbX8_suits_14, ↓tbX8_suits_15, ↓tbX8_suits_18, ↓tbX8_suits_19, ↓tbX8_suits_20, ↓tbX8_suits_23, ↓tbX8_suits_24, ↓tbX8_suits_25, ↓tbX8_suits_28, ↓tbX8_suits_29, ↓tbX8_suits_32, ↓tbX8_suits_33, ↓tbX8_suits_36, ↓tbX8_suits_37, ↓tbX8_suits_38, ↓tbX8_suits_41, ↓tbX8_suits_42, ↓tbX8_suits_45, ↓tbX8_suits_46, hfu, xstep0, xJ1_hit, xJ1_go, xJ2_hit1, xJ2_hit2, xJ2_go, ↓xif_t, ↓xif_f, seval, ↓xca_eq, ↓xre_l, ↓xre_r, xmask_t, xmask_f, xmask_nil, ↓xst_eq, xX_eq, eI_eq, eMc_eq, eMs_eq, eF_eq, eThr_eq, ↓xS1_mk, ↓xSI_mk, ↓xSR_mk, ↓xLI_0, ↓xLI_s, ↓xLR_0, ↓xLR_s, vRef_ref, vRef_null, vRef_rf, cat_int, cat_ref, cat_null, cat_rf, rf_some, rf_none, rf_null, rf_eq, rf_ref, ref_rf, ref_null, ref_ref, xOk_0, xOk_1, xOk_2r, xOk_2n, xOk_2f, vOpt_rf, vOpt_ref, vOpt_null, List.set_cons_zero, List.set_cons_succ, List.take_succ_cons, List.take_zero, List.drop_succ_cons, List.drop_zero, List.reverse_cons, List.reverse_nil, List.nil_append, List.cons_append, List.append_nil, List.length_cons, List.length_nil, List.map_cons, List.map_nil, List.sum_cons, List.sum_nil, Option.toList_some, Option.toList_none, xRecv_mk, true_and, and_true, true_implies, Nat.reduceAdd, Nat.reduceLeDiff, Nat.zero_le, Nat.le_refl, Nat.add_zero, Nat.zero_add, reduceIte, not_true_eq_false, not_false_eq_true, false_implies, and_self, implies_true, eq_self, Nat.reduceEqDiff, List.cons.injEq, xsn_1, xsn_2, false_and, and_false, or_false, false_or, or_true, true_or, xsn_3, xsn_4]
  try simp only [xif_e]
  grind [bi]

def tbX8_boatsIn : List (Nat × xHint) := [(0, .iconst 0, 0, 0, 0, []), (1, .istore_n 2, 2, 0, 0, []), (2, .iconst 0, 0, 0, 0, []), (3, .istore_n 3, 3, 0, 0, []), (4, .iload_n 3, 3, 0, 0, []), (5, .aload_n 0, 0, 0, 0, []), (6, .getfield 170, 9, 29, 0, []), (9, .if_icmp .ge 27, 36, 0, 0, []), (12, .iload_n 2, 2, 0, 0, []), (13, .aload_n 0, 0, 0, 0, []), (14, .getfield 92, 9, 34, 2, []), (17, .iload_n 3, 3, 0, 0, []), (18, .iaload, 34, 0, 0, []), (19, .iload_n 1, 1, 0, 0, []), (20, .if_icmp .ne 7, 27, 0, 0, []), (23, .iconst 1, 0, 0, 0, []), (24, .goto 4, 28, 0, 0, []), (27, .iconst 0, 0, 0, 0, []), (28, .iadd, 0, 0, 0, []), (29, .istore_n 2, 2, 0, 0, []), (30, .iinc 3 1, 3, 0, 0, []), (33, .goto (-29), 4, 0, 0, []), (36, .iload_n 2, 2, 0, 0, []), (37, .ireturn, 0, 0, 0, [])]
def clX8_boatsIn : List (Instr × Nat × Nat × Nat) := []
def thX8_boatsIn : List (Nat × Nat) := []
theorem ckX8_boatsIn : tbX8_boatsIn.all (xRow RX8 cX8_boatsIn wsX8_boatsIn vwCl [9] clX8_boatsIn thX8_boatsIn 4 (yX8_boatsIn.name == "<init>") (some .int)) = true := xRow_q 0xac1ce3ffa70103843d60030400a7040700a01b2e1d5c00b42a1c1b00a2aa00b42a1d3e033d03 38 (by decide +kernel) (by decide +kernel)
theorem usX8_boatsIn : xUse wsX8_boatsIn vwCl [9] = true := xUse_g rfl (lw_good lwl_X8_boatsIn lwl_X80 (by decide +kernel)) xUse_n
theorem tbX8_boatsIn_0 {k : Instr → Nat → Nat → Nat → List Nat → Prop} : xse (xFind tbX8_boatsIn 0) k = k (.iconst 0) 0 0 0 [] := rfl
theorem tbX8_boatsIn_1 {k : Instr → Nat → Nat → Nat → List Nat → Prop} : xse (xFind tbX8_boatsIn 1) k = k (.istore_n 2) 2 0 0 [] := rfl
theorem tbX8_boatsIn_2 {k : Instr → Nat → Nat → Nat → List Nat → Prop} : xse (xFind tbX8_boatsIn 2) k = k (.iconst 0) 0 0 0 [] := rfl
theorem tbX8_boatsIn_3 {k : Instr → Nat → Nat → Nat → List Nat → Prop} : xse (xFind tbX8_boatsIn 3) k = k (.istore_n 3) 3 0 0 [] := rfl
theorem tbX8_boatsIn_4 {k : Instr → Nat → Nat → Nat → List Nat → Prop} : xse (xFind tbX8_boatsIn 4) k = k (.iload_n 3) 3 0 0 [] := rfl
theorem tbX8_boatsIn_5 {k : Instr → Nat → Nat → Nat → List Nat → Prop} : xse (xFind tbX8_boatsIn 5) k = k (.aload_n 0) 0 0 0 [] := rfl
theorem tbX8_boatsIn_6 {k : Instr → Nat → Nat → Nat → List Nat → Prop} : xse (xFind tbX8_boatsIn 6) k = k (.getfield 170) 9 29 0 [] := rfl
theorem tbX8_boatsIn_9 {k : Instr → Nat → Nat → Nat → List Nat → Prop} : xse (xFind tbX8_boatsIn 9) k = k (.if_icmp .ge 27) 36 0 0 [] := rfl
theorem tbX8_boatsIn_12 {k : Instr → Nat → Nat → Nat → List Nat → Prop} : xse (xFind tbX8_boatsIn 12) k = k (.iload_n 2) 2 0 0 [] := rfl
theorem tbX8_boatsIn_13 {k : Instr → Nat → Nat → Nat → List Nat → Prop} : xse (xFind tbX8_boatsIn 13) k = k (.aload_n 0) 0 0 0 [] := rfl
theorem tbX8_boatsIn_14 {k : Instr → Nat → Nat → Nat → List Nat → Prop} : xse (xFind tbX8_boatsIn 14) k = k (.getfield 92) 9 34 2 [] := rfl
theorem tbX8_boatsIn_17 {k : Instr → Nat → Nat → Nat → List Nat → Prop} : xse (xFind tbX8_boatsIn 17) k = k (.iload_n 3) 3 0 0 [] := rfl
theorem tbX8_boatsIn_18 {k : Instr → Nat → Nat → Nat → List Nat → Prop} : xse (xFind tbX8_boatsIn 18) k = k (.iaload) 34 0 0 [] := rfl
theorem tbX8_boatsIn_19 {k : Instr → Nat → Nat → Nat → List Nat → Prop} : xse (xFind tbX8_boatsIn 19) k = k (.iload_n 1) 1 0 0 [] := rfl
theorem tbX8_boatsIn_20 {k : Instr → Nat → Nat → Nat → List Nat → Prop} : xse (xFind tbX8_boatsIn 20) k = k (.if_icmp .ne 7) 27 0 0 [] := rfl
theorem tbX8_boatsIn_23 {k : Instr → Nat → Nat → Nat → List Nat → Prop} : xse (xFind tbX8_boatsIn 23) k = k (.iconst 1) 0 0 0 [] := rfl
theorem tbX8_boatsIn_24 {k : Instr → Nat → Nat → Nat → List Nat → Prop} : xse (xFind tbX8_boatsIn 24) k = k (.goto 4) 28 0 0 [] := rfl
theorem tbX8_boatsIn_27 {k : Instr → Nat → Nat → Nat → List Nat → Prop} : xse (xFind tbX8_boatsIn 27) k = k (.iconst 0) 0 0 0 [] := rfl
theorem tbX8_boatsIn_28 {k : Instr → Nat → Nat → Nat → List Nat → Prop} : xse (xFind tbX8_boatsIn 28) k = k (.iadd) 0 0 0 [] := rfl
theorem tbX8_boatsIn_29 {k : Instr → Nat → Nat → Nat → List Nat → Prop} : xse (xFind tbX8_boatsIn 29) k = k (.istore_n 2) 2 0 0 [] := rfl
theorem tbX8_boatsIn_30 {k : Instr → Nat → Nat → Nat → List Nat → Prop} : xse (xFind tbX8_boatsIn 30) k = k (.iinc 3 1) 3 0 0 [] := rfl
theorem tbX8_boatsIn_33 {k : Instr → Nat → Nat → Nat → List Nat → Prop} : xse (xFind tbX8_boatsIn 33) k = k (.goto (-29)) 4 0 0 [] := rfl
theorem tbX8_boatsIn_36 {k : Instr → Nat → Nat → Nat → List Nat → Prop} : xse (xFind tbX8_boatsIn 36) k = k (.iload_n 2) 2 0 0 [] := rfl
theorem tbX8_boatsIn_37 {k : Instr → Nat → Nat → Nat → List Nat → Prop} : xse (xFind tbX8_boatsIn 37) k = k (.ireturn) 0 0 0 [] := rfl

def spX8_boatsIn (aM : Nat → Nat) : xSp mS := (fun av M => (0, 0), fun av M K => ∃ (s : Int32), av = [.ref (aM 0), .int s] ∧ ((M.1 29 = nI (nBt M) ∧ nBt M ≤ 6) ∧ K (rI (mCnt M s (nBt M))) M))
theorem spcX8_boatsIn {av : List Value} {M : mS} {aM : Nat → Nat} : (spX8_boatsIn aM).1 av M = (0, 0) := rfl
theorem spwX8_boatsIn {M : mS} {aM : Nat → Nat} {K : xRes → mS → Prop} {s : Int32} : (spX8_boatsIn aM).2 [.ref (aM 0), .int s] M K = ((M.1 29 = nI (nBt M) ∧ nBt M ≤ 6) ∧ K (rI (mCnt M s (nBt M))) M) :=
  propext ⟨fun h => by
    simp only [spX8_boatsIn] at h
    obtain ⟨_, e, h⟩ := h
    simp only [List.cons.injEq, Value.int.injEq, Value.ref.injEq, rf_eq, and_true, true_and] at e
    obtain rfl := e
    exact h, fun h => ⟨_, rfl, h⟩⟩

set_option maxHeartbeats 4000000 in
set_option maxRecDepth 20000 in
theorem semX8_boatsIn (l : Launch) (W9 : xWd) (aM : Nat → Nat) (hi : mInj aM) : xSem l W9 (mI aM) yX8_boatsIn wsX8_boatsIn 0 0 (spX8_boatsIn aM) := by
  refine xSem_of (call := fun _ => none) (thrf := fun _ => "") (mI_law hi) (by decide +kernel) rfl ckX8_boatsIn usX8_boatsIn xCallsOK_nil xThrOK_nil ?_ ?_
  · intro av M KF h
    obtain ⟨s, rfl, h⟩ := h
    exact ⟨by intro v hv; simp only [List.mem_cons, List.not_mem_nil, or_false] at hv; rcases hv with rfl | rfl <;> first | rfl | exact cat_rf, Nat.le_of_ble_eq_true rfl⟩
  intro av M KF h G hG
  obtain ⟨s, rfl, h⟩ := h
  rw [show (spX8_boatsIn aM).1 _ M = _ from spcX8_boatsIn] at hG
  try dsimp only at hG
  change G 0 [some (.ref (aM 0)), some (.int s), none, none] [] M 0 0
  obtain ⟨⟨hn, hn6⟩, h⟩ := h

  generalize nBt M = n at *
  have loop := xloop hG 4 [true, true, true, true] (fun j lv st S cs ss => lv = [some (.ref (aM 0)), some (.int s), some (.int (mCnt M s j)), some (.int (nI j))] ∧ st = [] ∧ M = S ∧ cs = 0 ∧ ss = 0) n (by
      rintro j hj lv st S cs ss ⟨rfl, rfl, rfl, rfl, rfl⟩ fu hfu
      simp only [ki_0, ki_1, ↓ma_34, ↓mg_29, ↓mg_34, ↓vm_aload_n, ↓vm_getfield, ↓vm_goto, ↓vm_iadd, ↓vm_iaload, ↓vm_iconst, ↓vm_if_icmp_ge, ↓vm_if_icmp_ne, ↓vm_iinc, ↓vm_iload_n, ↓vm_ireturn, ↓vm_istore_n, ↓tbX8_boatsIn_0, ↓tbX8_boatsIn_1, ↓tbX8_boatsIn_2, ↓tbX8_boatsIn_3, ↓tbX8_boatsIn_4, ↓tbX8_boatsIn_5, ↓tbX8_boatsIn_6, ↓tbX8_boatsIn_9, ↓tbX8_boatsIn_12, ↓tbX8_boatsIn_13, ↓tbX8_boatsIn_14, ↓tbX8_boatsIn_17, ↓tbX8_boatsIn_18, ↓tbX8_boatsIn_19, ↓tbX8_boatsIn_20, ↓tbX8_boatsIn_23, ↓tbX8_boatsIn_24, ↓tbX8_boatsIn_27, ↓tbX8_boatsIn_28, ↓tbX8_boatsIn_29, ↓tbX8_boatsIn_30, ↓tbX8_boatsIn_33, ↓tbX8_boatsIn_36, ↓tbX8_boatsIn_37, hfu, xstep0, xJ1_hit, xJ1_go, xJ2_hit1, xJ2_hit2, xJ2_go, ↓xif_t, ↓xif_f, seval, ↓xca_eq, ↓xre_l, ↓xre_r, xmask_t, xmask_f, xmask_nil, ↓xst_eq, xX_eq, eI_eq, eMc_eq, eMs_eq, eF_eq, eThr_eq, ↓xS1_mk, ↓xSI_mk, ↓xSR_mk, ↓xLI_0, ↓xLI_s, ↓xLR_0, ↓xLR_s, vRef_ref, vRef_null, vRef_rf, cat_int, cat_ref, cat_null, cat_rf, rf_some, rf_none, rf_null, rf_eq, rf_ref, ref_rf, ref_null, ref_ref, xOk_0, xOk_1, xOk_2r, xOk_2n, xOk_2f, vOpt_rf, vOpt_ref, vOpt_null, List.set_cons_zero, List.set_cons_succ, List.take_succ_cons, List.take_zero, List.drop_succ_cons, List.drop_zero, List.reverse_cons, List.reverse_nil, List.nil_append, List.cons_append, List.append_nil, List.length_cons, List.length_nil, List.map_cons, List.map_nil, List.sum_cons, List.sum_nil, Option.toList_some, Option.toList_none, xRecv_mk, true_and, and_true, true_implies, Nat.reduceAdd, Nat.reduceLeDiff, Nat.zero_le, Nat.le_refl, Nat.add_zero, Nat.zero_add, reduceIte, not_true_eq_false, not_false_eq_true, false_implies, and_self, implies_true, eq_self, Nat.reduceEqDiff, List.cons.injEq, xsn_1, xsn_2, false_and, and_false, or_false, false_or, or_true, true_or, xsn_3, xsn_4, hn, ge_nI hj (show n < 1000 by omega), xin_nI (show j < 6 by omega) (by omega), ix_nI (show j < 1000 by omega), nI1]
      try simp only [xif_e]
      grind [mCnt]) (by
      rintro lv st S cs ss ⟨rfl, rfl, rfl, rfl, rfl⟩ fu hfu
      simp only [ki_0, ki_1, ↓ma_34, ↓mg_29, ↓mg_34, ↓vm_aload_n, ↓vm_getfield, ↓vm_goto, ↓vm_iadd, ↓vm_iaload, ↓vm_iconst, ↓vm_if_icmp_ge, ↓vm_if_icmp_ne, ↓vm_iinc, ↓vm_iload_n, ↓vm_ireturn, ↓vm_istore_n, ↓tbX8_boatsIn_0, ↓tbX8_boatsIn_1, ↓tbX8_boatsIn_2, ↓tbX8_boatsIn_3, ↓tbX8_boatsIn_4, ↓tbX8_boatsIn_5, ↓tbX8_boatsIn_6, ↓tbX8_boatsIn_9, ↓tbX8_boatsIn_12, ↓tbX8_boatsIn_13, ↓tbX8_boatsIn_14, ↓tbX8_boatsIn_17, ↓tbX8_boatsIn_18, ↓tbX8_boatsIn_19, ↓tbX8_boatsIn_20, ↓tbX8_boatsIn_23, ↓tbX8_boatsIn_24, ↓tbX8_boatsIn_27, ↓tbX8_boatsIn_28, ↓tbX8_boatsIn_29, ↓tbX8_boatsIn_30, ↓tbX8_boatsIn_33, ↓tbX8_boatsIn_36, ↓tbX8_boatsIn_37, hfu, xstep0, xJ1_hit, xJ1_go, xJ2_hit1, xJ2_hit2, xJ2_go, ↓xif_t, ↓xif_f, seval, ↓xca_eq, ↓xre_l, ↓xre_r, xmask_t, xmask_f, xmask_nil, ↓xst_eq, xX_eq, eI_eq, eMc_eq, eMs_eq, eF_eq, eThr_eq, ↓xS1_mk, ↓xSI_mk, ↓xSR_mk, ↓xLI_0, ↓xLI_s, ↓xLR_0, ↓xLR_s, vRef_ref, vRef_null, vRef_rf, cat_int, cat_ref, cat_null, cat_rf, rf_some, rf_none, rf_null, rf_eq, rf_ref, ref_rf, ref_null, ref_ref, xOk_0, xOk_1, xOk_2r, xOk_2n, xOk_2f, vOpt_rf, vOpt_ref, vOpt_null, List.set_cons_zero, List.set_cons_succ, List.take_succ_cons, List.take_zero, List.drop_succ_cons, List.drop_zero, List.reverse_cons, List.reverse_nil, List.nil_append, List.cons_append, List.append_nil, List.length_cons, List.length_nil, List.map_cons, List.map_nil, List.sum_cons, List.sum_nil, Option.toList_some, Option.toList_none, xRecv_mk, true_and, and_true, true_implies, Nat.reduceAdd, Nat.reduceLeDiff, Nat.zero_le, Nat.le_refl, Nat.add_zero, Nat.zero_add, reduceIte, not_true_eq_false, not_false_eq_true, false_implies, and_self, implies_true, eq_self, Nat.reduceEqDiff, List.cons.injEq, xsn_1, xsn_2, false_and, and_false, or_false, false_or, or_true, true_or, xsn_3, xsn_4, hn, le_nI_self]
      try simp only [xif_e]
      grind -ring)
  refine xgo hG (mb := [true, true, true, true]) (loop 0 (Nat.zero_le n)) (pc := 0) (fun fu hfu => ?_)
  simp only [ki_0, ki_1, ↓ma_34, ↓mg_29, ↓mg_34, ↓vm_aload_n, ↓vm_getfield, ↓vm_goto, ↓vm_iadd, ↓vm_iaload, ↓vm_iconst, ↓vm_if_icmp_ge, ↓vm_if_icmp_ne, ↓vm_iinc, ↓vm_iload_n, ↓vm_ireturn, ↓vm_istore_n, ↓tbX8_boatsIn_0, ↓tbX8_boatsIn_1, ↓tbX8_boatsIn_2, ↓tbX8_boatsIn_3, ↓tbX8_boatsIn_4, ↓tbX8_boatsIn_5, ↓tbX8_boatsIn_6, ↓tbX8_boatsIn_9, ↓tbX8_boatsIn_12, ↓tbX8_boatsIn_13, ↓tbX8_boatsIn_14, ↓tbX8_boatsIn_17, ↓tbX8_boatsIn_18, ↓tbX8_boatsIn_19, ↓tbX8_boatsIn_20, ↓tbX8_boatsIn_23, ↓tbX8_boatsIn_24, ↓tbX8_boatsIn_27, ↓tbX8_boatsIn_28, ↓tbX8_boatsIn_29, ↓tbX8_boatsIn_30, ↓tbX8_boatsIn_33, ↓tbX8_boatsIn_36, ↓tbX8_boatsIn_37, hfu, xstep0, xJ1_hit, xJ1_go, xJ2_hit1, xJ2_hit2, xJ2_go, ↓xif_t, ↓xif_f, seval, ↓xca_eq, ↓xre_l, ↓xre_r, xmask_t, xmask_f, xmask_nil, ↓xst_eq, xX_eq, eI_eq, eMc_eq, eMs_eq, eF_eq, eThr_eq, ↓xS1_mk, ↓xSI_mk, ↓xSR_mk, ↓xLI_0, ↓xLI_s, ↓xLR_0, ↓xLR_s, vRef_ref, vRef_null, vRef_rf, cat_int, cat_ref, cat_null, cat_rf, rf_some, rf_none, rf_null, rf_eq, rf_ref, ref_rf, ref_null, ref_ref, xOk_0, xOk_1, xOk_2r, xOk_2n, xOk_2f, vOpt_rf, vOpt_ref, vOpt_null, List.set_cons_zero, List.set_cons_succ, List.take_succ_cons, List.take_zero, List.drop_succ_cons, List.drop_zero, List.reverse_cons, List.reverse_nil, List.nil_append, List.cons_append, List.append_nil, List.length_cons, List.length_nil, List.map_cons, List.map_nil, List.sum_cons, List.sum_nil, Option.toList_some, Option.toList_none, xRecv_mk, true_and, and_true, true_implies, Nat.reduceAdd, Nat.reduceLeDiff, Nat.zero_le, Nat.le_refl, Nat.add_zero, Nat.zero_add, reduceIte, not_true_eq_false, not_false_eq_true, false_implies, and_self, implies_true, eq_self, Nat.reduceEqDiff, List.cons.injEq, xsn_1, xsn_2, false_and, and_false, or_false, false_or, or_true, true_or, xsn_3, xsn_4, hn]
  try simp only [xif_e]
  repeat' (first | rfl | apply And.intro)
