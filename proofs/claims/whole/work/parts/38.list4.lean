/-! ArrayList: to make one, to add, to remove. -/
/-- a list to which one may add: its array is the shared empty one, or one of its own -/
def lCap (W9 : xWd) (S : cS) (L : Nat) : Prop := cK S L = 1 ∧ cFi S L 2 = nI (lCn S L) ∧ lCn S L ≤ 30 ∧ cFr S L 1 = some (cRf S L 1) ∧ ((cRf S L 1 = wE W9 ∧ lCn S L = 0) ∨ (cRf S L 1 ≠ wE W9 ∧ cK S (cRf S L 1) = 13 ∧ lCn S L ≤ cLen S (cRf S L 1) ∧ 10 ≤ cLen S (cRf S L 1) ∧ cLen S (cRf S L 1) ≤ 45))
theorem lCap.ok {W9 : xWd} {S : cS} {L : Nat} (h : lCap W9 S L) : lOk S L := ⟨h.1, h.2.1, h.2.2.1, h.2.2.2.1, h.2.2.2.2.imp (fun q => q.2) (fun q => ⟨q.2.1, q.2.2.1⟩)⟩
theorem cCpy_0 {S : cS} {x y a b : Nat} : cCpy S x y a b 0 = S := by
  unfold cCpy
  refine Prod.ext rfl (Prod.ext rfl (Prod.ext rfl (Prod.ext rfl (Prod.ext rfl ?_))))
  funext c i
  show (if c = y then (if b ≤ i ∧ i < b + 0 then _ else S.2.2.2.2.2 y i) else S.2.2.2.2.2 c i) = S.2.2.2.2.2 c i
  by_cases q : c = y
  · subst q
    rw [if_pos rfl, if_neg (by omega)]
  · rw [if_neg q]
/-- what a list's elements owe, so that they may be copied -/
def lKd (S : cS) (L c : Nat) : Prop := cEl c ∧ ∀ i, i < lCn S L → ∀ b, cRr S (cRf S L 1) i = some b → cK S b = c
def lGrow (W9 : xWd) (S : cS) (L q : Nat) (S2 : cS) : Prop := cDead S q ∧ q ≠ wE W9 ∧ ∃ k, lCn S L < k ∧ 10 ≤ k ∧ k ≤ 45 ∧ S2 = cSetR (cCpy (cNewR S q k) (cRf S L 1) q 0 0 (lCn S L)) L 1 (some q)
def lAdd (W9 : xWd) (S : cS) (L v : Nat) (S2 : cS) : Prop :=
  (cRf S L 1 ≠ wE W9 ∧ lCn S L < cLen S (cRf S L 1) ∧ S2 = cSetI (cAstR S (cRf S L 1) (lCn S L) (some v)) L 2 (nI (lCn S L + 1))) ∨
  ∃ q S1, lGrow W9 S L q S1 ∧ S2 = cSetI (cAstR S1 q (lCn S L) (some v)) L 2 (nI (lCn S L + 1))
theorem hlf_nI : ∀ n, n < 46 → nI n >>> (1 &&& 31) = nI (n / 2) := by decide +kernel
theorem big_nI {z : Nat} (h : z < 1000) : (nI 2147483639 < nI z) = False := by
  refine eq_false (fun q => ?_)
  have q := Int32.lt_iff_toInt_lt.mp q
  rw [nI_toInt (by omega), nI_toInt (by omega)] at q
  omega
theorem max1_nI {m : Nat} (h : m < 1000) : (if (1 : Int32) < nI m then nI m else 1) = nI (if m = 0 then 1 else m) := by
  by_cases q : 1 < m
  · rw [if_pos (show (1 : Int32) < nI m from nI_lt (a := 1) q (by omega)), if_neg (by omega)]
  · rw [if_neg (fun z => q (by rw [show (1 : Int32) = nI 1 from rfl, lt_nI (by omega) h] at z; exact z))]
    by_cases q2 : m = 0
    · rw [if_pos q2]; rfl
    · rw [if_neg q2, show m = 1 by omega]; rfl
theorem lAdd_cap {S : cS} {L : Nat} (h : cDead S L) (h2 : cK S L = 1) : False := h (by omega)

def tbJx4a65c_init_da8c8 : List (Nat × xHint) := [(0, .aload_n 0, 0, 0, 0, []), (1, .invokespecial 1, 0, 1, 0, []), (4, .aload_n 0, 0, 0, 0, []), (5, .getstatic 39, 1, 0, 0, []), (8, .putfield 9, 0, 1, 2, []), (11, .return_, 0, 0, 0, [])]
def clJx4a65c_init_da8c8 : List (Instr × Nat × Nat × Nat) := [(.invokespecial 1, 0, 1, 0), (.getstatic 39, 1, 0, 0)]
def thJx4a65c_init_da8c8 : List (Nat × Nat) := []
theorem ckJx4a65c_init_da8c8 : tbJx4a65c_init_da8c8.all (xRow RJx4a65c cJx4a65c_init_da8c8 wsJx4a65c_init_da8c8 vwCl [0] clJx4a65c_init_da8c8 thJx4a65c_init_da8c8 1 (yJx4a65c_init_da8c8.name == "<init>") none) = true := xRow_q 0xb10900b52700b22a0100b72a 12 (by decide +kernel) (by decide +kernel)
theorem usJx4a65c_init_da8c8 : xUse wsJx4a65c_init_da8c8 vwCl [0] = true := xUse_g rfl (lw_good lwl_Jx4a65c_init_da8c8 lwl_Jx4a65c0 (by decide +kernel)) xUse_n
theorem tbJx4a65c_init_da8c8_0 {k : Instr → Nat → Nat → Nat → List Nat → Prop} : xse (xFind tbJx4a65c_init_da8c8 0) k = k (.aload_n 0) 0 0 0 [] := rfl
theorem tbJx4a65c_init_da8c8_1 {k : Instr → Nat → Nat → Nat → List Nat → Prop} : xse (xFind tbJx4a65c_init_da8c8 1) k = k (.invokespecial 1) 0 1 0 [] := rfl
theorem tbJx4a65c_init_da8c8_4 {k : Instr → Nat → Nat → Nat → List Nat → Prop} : xse (xFind tbJx4a65c_init_da8c8 4) k = k (.aload_n 0) 0 0 0 [] := rfl
theorem tbJx4a65c_init_da8c8_5 {k : Instr → Nat → Nat → Nat → List Nat → Prop} : xse (xFind tbJx4a65c_init_da8c8 5) k = k (.getstatic 39) 1 0 0 [] := rfl
theorem tbJx4a65c_init_da8c8_8 {k : Instr → Nat → Nat → Nat → List Nat → Prop} : xse (xFind tbJx4a65c_init_da8c8 8) k = k (.putfield 9) 0 1 2 [] := rfl
theorem tbJx4a65c_init_da8c8_11 {k : Instr → Nat → Nat → Nat → List Nat → Prop} : xse (xFind tbJx4a65c_init_da8c8 11) k = k (.return_) 0 0 0 [] := rfl

def spJx4a65c_init_da8c8 (W9 : xWd) : xSp cS := (fun av S => (0, 0), fun av S K => ∃ (a : Nat), av = [.ref a] ∧ (cK S a = 1 ∧ K rV (cSetR (cSetI S a 0 0) a 1 (some (wE W9)))))
theorem spcJx4a65c_init_da8c8 {av : List Value} {S : cS} {W9 : xWd} : (spJx4a65c_init_da8c8 W9).1 av S = (0, 0) := rfl
theorem spwJx4a65c_init_da8c8 {S : cS} {W9 : xWd} {K : xRes → cS → Prop} {a : Nat} : (spJx4a65c_init_da8c8 W9).2 [.ref a] S K = (cK S a = 1 ∧ K rV (cSetR (cSetI S a 0 0) a 1 (some (wE W9)))) :=
  propext ⟨fun h => by
    simp only [spJx4a65c_init_da8c8] at h
    obtain ⟨_, e, h⟩ := h
    simp only [List.cons.injEq, Value.int.injEq, Value.ref.injEq, rf_eq, and_true, true_and] at e
    obtain rfl := e
    exact h, fun h => ⟨_, rfl, h⟩⟩

theorem sprJx4a65c_init_da8c8 {W9 : xWd} : ∀ av S KF, (spJx4a65c_init_da8c8 W9).2 av S KF → ∃ b As, av = Value.ref b :: As := by
  intro av S KF h
  obtain ⟨a, rfl, h⟩ := h
  exact ⟨_, _, rfl⟩

def callJx4a65c_init_da8c8 (W9 : xWd) : Nat → Option (xSp cS) := fun n => match n with | 0 => some (spJxc12de_init_da8c8 W9) | 1 => some (sp_emp W9 cS) | _ => none

theorem callJx4a65c_init_da8c8_0 {W9 : xWd} {k : xSp cS → Prop} : xcs (callJx4a65c_init_da8c8 W9 0) k = k (spJxc12de_init_da8c8 W9) := rfl

theorem callJx4a65c_init_da8c8_1 {W9 : xWd} {k : xSp cS → Prop} : xcs (callJx4a65c_init_da8c8 W9 1) k = k (sp_emp W9 cS) := rfl

theorem crJx4a65c_init_da8c8 (l : Launch) (hl : l.stackTraces = false) (W9 : xWd) : xCallsOK l W9 (cI) (callJx4a65c_init_da8c8 W9) clJx4a65c_init_da8c8 RJx4a65c wsJx4a65c_init_da8c8 3 60 1 := by
  intro E A p e R s m args below meth c hI hF hL X
  exact List.forall_mem_cons.mpr ⟨⟨_, rfl, xCR_I X (by rw [hI]; exact (semJxc12de_init_da8c8 l hl W9)) gJx4a65c_init_da8c8_Jxc12de_init_da8c8 rfl (by decide +kernel) (by decide +kernel) (by decide +kernel) rfl sprJxc12de_init_da8c8 (by decide +kernel) (by rw [hF, hL]; decide)⟩,
    List.forall_mem_cons.mpr ⟨⟨_, rfl, xCR_emp X (by decide +kernel)⟩,
    fun _ h => nomatch h⟩⟩

set_option maxHeartbeats 400000 in
set_option maxRecDepth 20000 in
theorem semJx4a65c_init_da8c8 (l : Launch) (hl : l.stackTraces = false) (W9 : xWd) : xSem l W9 (cI) yJx4a65c_init_da8c8 wsJx4a65c_init_da8c8 3 60 (spJx4a65c_init_da8c8 W9) := by
  refine xSem_of (call := callJx4a65c_init_da8c8 W9) (thrf := fun _ => "") cI_law (by decide +kernel) rfl ckJx4a65c_init_da8c8 usJx4a65c_init_da8c8 (crJx4a65c_init_da8c8 l hl W9) xThrOK_nil ?_ ?_
  · intro av S KF h
    obtain ⟨a, rfl, h⟩ := h
    exact ⟨by intro v hv; simp only [List.mem_cons, List.not_mem_nil, or_false] at hv; rcases hv with rfl <;> first | rfl | exact cat_rf, Nat.le_of_ble_eq_true rfl⟩
  intro av S KF h G hG
  obtain ⟨a, rfl, h⟩ := h
  rw [show (spJx4a65c_init_da8c8 W9).1 _ S = _ from spcJx4a65c_init_da8c8] at hG
  try dsimp only at hG
  change G 0 [some (.ref a)] [] S 0 0
  obtain ⟨h0, h⟩ := h
  refine xgo0 hG (fun fu hfu => ?_)
  clear hG
  simp only [↓callJx4a65c_init_da8c8_0, ↓callJx4a65c_init_da8c8_1, ↓cpf_0_1, ↓cpn_0_1, ↓cpr_0_1, ↓vm_aload_n, ↓vm_getstatic, ↓vm_invokespecial, ↓vm_putfield, ↓vm_return_, ↓xc_0, ↓xc_1, ↓tbJx4a65c_init_da8c8_0, ↓tbJx4a65c_init_da8c8_1, ↓tbJx4a65c_init_da8c8_4, ↓tbJx4a65c_init_da8c8_5, ↓tbJx4a65c_init_da8c8_8, ↓tbJx4a65c_init_da8c8_11, hfu, xstep0, xJ1_hit, xJ1_go, xJ2_hit1, xJ2_hit2, xJ2_go, ↓xif_t, ↓xif_f, seval, ↓xca_eq, ↓xre_l, ↓xre_r, xmask_t, xmask_f, xmask_nil, ↓xst_eq, xX_eq, eI_eq, eMc_eq, eMs_eq, eF_eq, eThr_eq, ↓xS1_mk, ↓xSI_mk, ↓xSR_mk, ↓xLI_0, ↓xLI_s, ↓xLR_0, ↓xLR_s, vRef_ref, vRef_null, vRef_rf, cat_int, cat_ref, cat_null, cat_rf, rf_some, rf_none, rf_null, rf_eq, rf_ref, ref_rf, ref_null, ref_ref, xOk_0, xOk_1, xOk_2r, xOk_2n, xOk_2f, vOpt_rf, vOpt_ref, vOpt_null, List.set_cons_zero, List.set_cons_succ, List.take_succ_cons, List.take_zero, List.drop_succ_cons, List.drop_zero, List.reverse_cons, List.reverse_nil, List.nil_append, List.cons_append, List.append_nil, List.length_cons, List.length_nil, List.map_cons, List.map_nil, List.sum_cons, List.sum_nil, Option.toList_some, Option.toList_none, xRecv_mk, true_and, and_true, true_implies, Nat.reduceAdd, Nat.reduceLeDiff, Nat.zero_le, Nat.le_refl, Nat.add_zero, Nat.zero_add, reduceIte, not_true_eq_false, not_false_eq_true, false_implies, and_self, implies_true, eq_self, Nat.reduceEqDiff, List.cons.injEq, xsn_1, xsn_2, false_and, and_false, or_false, false_or, or_true, true_or, xsn_3, xsn_4, h0, cK_setI, ↓spwJxc12de_init_da8c8, spcJxc12de_init_da8c8, ↓sp_emp_w, sp_emp_c]
  try simp only [xif_e]
  exact h

def tbJ8_newLength_cabcc : List (Nat × xHint) := [(0, .iload_n 0, 0, 0, 0, []), (1, .iload_n 1, 1, 0, 0, []), (2, .iload_n 2, 2, 0, 0, []), (3, .invokestatic 194, 0, 2, 0, []), (6, .iadd, 0, 0, 0, []), (7, .istore_n 3, 3, 0, 0, []), (8, .iconst 0, 0, 0, 0, []), (9, .iload_n 3, 3, 0, 0, []), (10, .if_icmp .ge 11, 21, 0, 0, []), (13, .iload_n 3, 3, 0, 0, []), (14, .ldc 200, 2147483639, 0, 0, []), (16, .if_icmp .gt 5, 21, 0, 0, []), (19, .iload_n 3, 3, 0, 0, []), (20, .ireturn, 0, 0, 0, [])]
def clJ8_newLength_cabcc : List (Instr × Nat × Nat × Nat) := [(.invokestatic 194, 0, 2, 0)]
def thJ8_newLength_cabcc : List (Nat × Nat) := []
theorem ckJ8_newLength_cabcc : tbJ8_newLength_cabcc.all (xRow RJ8 cJ8_newLength_cabcc wsJ8_newLength_cabcc vwCl [] clJ8_newLength_cabcc thJ8_newLength_cabcc 4 (yJ8_newLength_cabcc.name == "<init>") (some .int)) = true := xRow_q 0xacc900b81b1aac1d0500a3c8121d0b00a21d033e60c200b81c1b1a 27 (by decide +kernel) (by decide +kernel)
theorem usJ8_newLength_cabcc : xUse wsJ8_newLength_cabcc vwCl [] = true := xUse_n
theorem tbJ8_newLength_cabcc_0 {k : Instr → Nat → Nat → Nat → List Nat → Prop} : xse (xFind tbJ8_newLength_cabcc 0) k = k (.iload_n 0) 0 0 0 [] := rfl
theorem tbJ8_newLength_cabcc_1 {k : Instr → Nat → Nat → Nat → List Nat → Prop} : xse (xFind tbJ8_newLength_cabcc 1) k = k (.iload_n 1) 1 0 0 [] := rfl
theorem tbJ8_newLength_cabcc_2 {k : Instr → Nat → Nat → Nat → List Nat → Prop} : xse (xFind tbJ8_newLength_cabcc 2) k = k (.iload_n 2) 2 0 0 [] := rfl
theorem tbJ8_newLength_cabcc_3 {k : Instr → Nat → Nat → Nat → List Nat → Prop} : xse (xFind tbJ8_newLength_cabcc 3) k = k (.invokestatic 194) 0 2 0 [] := rfl
theorem tbJ8_newLength_cabcc_6 {k : Instr → Nat → Nat → Nat → List Nat → Prop} : xse (xFind tbJ8_newLength_cabcc 6) k = k (.iadd) 0 0 0 [] := rfl
theorem tbJ8_newLength_cabcc_7 {k : Instr → Nat → Nat → Nat → List Nat → Prop} : xse (xFind tbJ8_newLength_cabcc 7) k = k (.istore_n 3) 3 0 0 [] := rfl
theorem tbJ8_newLength_cabcc_8 {k : Instr → Nat → Nat → Nat → List Nat → Prop} : xse (xFind tbJ8_newLength_cabcc 8) k = k (.iconst 0) 0 0 0 [] := rfl
theorem tbJ8_newLength_cabcc_9 {k : Instr → Nat → Nat → Nat → List Nat → Prop} : xse (xFind tbJ8_newLength_cabcc 9) k = k (.iload_n 3) 3 0 0 [] := rfl
theorem tbJ8_newLength_cabcc_10 {k : Instr → Nat → Nat → Nat → List Nat → Prop} : xse (xFind tbJ8_newLength_cabcc 10) k = k (.if_icmp .ge 11) 21 0 0 [] := rfl
theorem tbJ8_newLength_cabcc_13 {k : Instr → Nat → Nat → Nat → List Nat → Prop} : xse (xFind tbJ8_newLength_cabcc 13) k = k (.iload_n 3) 3 0 0 [] := rfl
theorem tbJ8_newLength_cabcc_14 {k : Instr → Nat → Nat → Nat → List Nat → Prop} : xse (xFind tbJ8_newLength_cabcc 14) k = k (.ldc 200) 2147483639 0 0 [] := rfl
theorem tbJ8_newLength_cabcc_16 {k : Instr → Nat → Nat → Nat → List Nat → Prop} : xse (xFind tbJ8_newLength_cabcc 16) k = k (.if_icmp .gt 5) 21 0 0 [] := rfl
theorem tbJ8_newLength_cabcc_19 {k : Instr → Nat → Nat → Nat → List Nat → Prop} : xse (xFind tbJ8_newLength_cabcc 19) k = k (.iload_n 3) 3 0 0 [] := rfl
theorem tbJ8_newLength_cabcc_20 {k : Instr → Nat → Nat → Nat → List Nat → Prop} : xse (xFind tbJ8_newLength_cabcc 20) k = k (.ireturn) 0 0 0 [] := rfl

def spJ8_newLength_cabcc (W9 : xWd) : xSp cS := (fun av S => (0, 0), fun av S K => ∃ (o : Int32) (g : Int32) (p : Int32), av = [.int o, .int g, .int p] ∧ (∃ n m, o = nI n ∧ g = 1 ∧ p = nI m ∧ n < 100 ∧ m < 100 ∧ K (rI (nI (n + (if m = 0 then 1 else m)))) S))
theorem spcJ8_newLength_cabcc {av : List Value} {S : cS} {W9 : xWd} : (spJ8_newLength_cabcc W9).1 av S = (0, 0) := rfl
theorem spwJ8_newLength_cabcc {S : cS} {W9 : xWd} {K : xRes → cS → Prop} {o : Int32} {g : Int32} {p : Int32} : (spJ8_newLength_cabcc W9).2 [.int o, .int g, .int p] S K = (∃ n m, o = nI n ∧ g = 1 ∧ p = nI m ∧ n < 100 ∧ m < 100 ∧ K (rI (nI (n + (if m = 0 then 1 else m)))) S) :=
  propext ⟨fun h => by
    simp only [spJ8_newLength_cabcc] at h
    obtain ⟨_, _, _, e, h⟩ := h
    simp only [List.cons.injEq, Value.int.injEq, Value.ref.injEq, rf_eq, and_true, true_and] at e
    obtain ⟨rfl, rfl, rfl⟩ := e
    exact h, fun h => ⟨_, _, _, rfl, h⟩⟩

def callJ8_newLength_cabcc (W9 : xWd) : Nat → Option (xSp cS) := fun n => match n with | 0 => some (sp_max cS) | _ => none

theorem callJ8_newLength_cabcc_0 {W9 : xWd} {k : xSp cS → Prop} : xcs (callJ8_newLength_cabcc W9 0) k = k (sp_max cS) := rfl

theorem crJ8_newLength_cabcc (l : Launch) (hl : l.stackTraces = false) (W9 : xWd) : xCallsOK l W9 (cI) (callJ8_newLength_cabcc W9) clJ8_newLength_cabcc RJ8 wsJ8_newLength_cabcc 1 21 4 := by
  intro E A p e R s m args below meth c hI hF hL X
  exact List.forall_mem_cons.mpr ⟨⟨_, rfl, xCR_max X (by decide +kernel) (by decide +kernel) (by decide +kernel) (by decide +kernel) (by rw [hF, hL]; decide)⟩,
    fun _ h => nomatch h⟩

set_option maxHeartbeats 400000 in
set_option maxRecDepth 20000 in
theorem semJ8_newLength_cabcc (l : Launch) (hl : l.stackTraces = false) (W9 : xWd) : xSem l W9 (cI) yJ8_newLength_cabcc wsJ8_newLength_cabcc 1 21 (spJ8_newLength_cabcc W9) := by
  refine xSem_of (call := callJ8_newLength_cabcc W9) (thrf := fun _ => "") cI_law (by decide +kernel) rfl ckJ8_newLength_cabcc usJ8_newLength_cabcc (crJ8_newLength_cabcc l hl W9) xThrOK_nil ?_ ?_
  · intro av S KF h
    obtain ⟨o, g, p, rfl, h⟩ := h
    exact ⟨by intro v hv; simp only [List.mem_cons, List.not_mem_nil, or_false] at hv; rcases hv with rfl | rfl | rfl <;> first | rfl | exact cat_rf, Nat.le_of_ble_eq_true rfl⟩
  intro av S KF h G hG
  obtain ⟨o, g, p, rfl, h⟩ := h
  rw [show (spJ8_newLength_cabcc W9).1 _ S = _ from spcJ8_newLength_cabcc] at hG
  try dsimp only at hG
  change G 0 [some (.int o), some (.int g), some (.int p), none] [] S 0 0
  obtain ⟨n, m, rfl, rfl, rfl, hn, hm, h⟩ := h

  have e1 := max1_nI (m := m) (by omega)
  have e2 : (nI (n + (if m = 0 then 1 else m)) ≤ 0) = False := by
    rw [show (0 : Int32) = nI 0 from rfl, le_nI (by split <;> omega) (by omega)]
    refine eq_false (fun q => ?_)
    split at q <;> omega
  have e3 := big_nI (z := n + (if m = 0 then 1 else m)) (by split <;> omega)
  refine xgo0 hG (fun fu hfu => ?_)
  simp only [↓callJ8_newLength_cabcc_0, ki_0, ↓vm_iadd, ↓vm_iconst, ↓vm_if_icmp_ge, ↓vm_if_icmp_gt, ↓vm_iload_n, ↓vm_invokestatic, ↓vm_ireturn, ↓vm_istore_n, ↓vm_ldc0, ↓xc_2, ↓tbJ8_newLength_cabcc_0, ↓tbJ8_newLength_cabcc_1, ↓tbJ8_newLength_cabcc_2, ↓tbJ8_newLength_cabcc_3, ↓tbJ8_newLength_cabcc_6, ↓tbJ8_newLength_cabcc_7, ↓tbJ8_newLength_cabcc_8, ↓tbJ8_newLength_cabcc_9, ↓tbJ8_newLength_cabcc_10, ↓tbJ8_newLength_cabcc_13, ↓tbJ8_newLength_cabcc_14, ↓tbJ8_newLength_cabcc_16, ↓tbJ8_newLength_cabcc_19, ↓tbJ8_newLength_cabcc_20, hfu, xstep0, xJ1_hit, xJ1_go, xJ2_hit1, xJ2_hit2, xJ2_go, ↓xif_t, ↓xif_f, seval, ↓xca_eq, ↓xre_l, ↓xre_r, xmask_t, xmask_f, xmask_nil, ↓xst_eq, xX_eq, eI_eq, eMc_eq, eMs_eq, eF_eq, eThr_eq, ↓xS1_mk, ↓xSI_mk, ↓xSR_mk, ↓xLI_0, ↓xLI_s, ↓xLR_0, ↓xLR_s, vRef_ref, vRef_null, vRef_rf, cat_int, cat_ref, cat_null, cat_rf, rf_some, rf_none, rf_null, rf_eq, rf_ref, ref_rf, ref_null, ref_ref, xOk_0, xOk_1, xOk_2r, xOk_2n, xOk_2f, vOpt_rf, vOpt_ref, vOpt_null, List.set_cons_zero, List.set_cons_succ, List.take_succ_cons, List.take_zero, List.drop_succ_cons, List.drop_zero, List.reverse_cons, List.reverse_nil, List.nil_append, List.cons_append, List.append_nil, List.length_cons, List.length_nil, List.map_cons, List.map_nil, List.sum_cons, List.sum_nil, Option.toList_some, Option.toList_none, xRecv_mk, true_and, and_true, true_implies, Nat.reduceAdd, Nat.reduceLeDiff, Nat.zero_le, Nat.le_refl, Nat.add_zero, Nat.zero_add, reduceIte, not_true_eq_false, not_false_eq_true, false_implies, and_self, implies_true, eq_self, Nat.reduceEqDiff, List.cons.injEq, xsn_1, xsn_2, false_and, and_false, or_false, false_or, or_true, true_or, xsn_3, xsn_4, ↓sp_max_w, sp_max_c, e1, add_nI, e2, e3]
  try simp only [xif_e]
  exact h

def tbJ7_copyOf_6403c : List (Nat × xHint) := [(0, .aload_n 2, 2, 0, 0, []), (1, .ldc 110, 0, 1, 0, []), (3, .if_acmp .ne 10, 13, 0, 0, []), (6, .iload_n 1, 1, 0, 0, []), (7, .anewarray 2, 1, 0, 0, []), (10, .goto 14, 24, 0, 0, []), (24, .astore_n 3, 3, 0, 0, []), (25, .aload_n 0, 0, 0, 0, []), (26, .iconst 0, 0, 0, 0, []), (27, .aload_n 3, 3, 0, 0, []), (28, .iconst 0, 0, 0, 0, []), (29, .aload_n 0, 0, 0, 0, []), (30, .arraylength, 2, 0, 1, []), (31, .iload_n 1, 1, 0, 0, []), (32, .invokestatic 304, 3, 2, 0, []), (35, .invokestatic 150, 4, 5, 0, []), (38, .aload_n 3, 3, 0, 0, []), (39, .areturn, 0, 0, 0, [])]
def clJ7_copyOf_6403c : List (Instr × Nat × Nat × Nat) := [(.ldc 110, 0, 0, 0), (.anewarray 2, 1, 1, 0), (.arraylength, 2, 1, 0), (.invokestatic 304, 3, 2, 0), (.invokestatic 150, 4, 5, 0)]
def thJ7_copyOf_6403c : List (Nat × Nat) := []
theorem ckJ7_copyOf_6403c : tbJ7_copyOf_6403c.all (xRow RJ7 cJ7_copyOf_6403c wsJ7_copyOf_6403c vwCl [] clJ7_copyOf_6403c thJ7_copyOf_6403c 4 (yJ7_copyOf_6403c.name == "<init>") (some (.array (.object "java/lang/Object")))) = true := xRow_q 0xb02d9600b83001b81bbe2a032d032a4e6e00c05f00b81b5a00b62c0e00a70200bd1b0a00a66e122c 40 (by decide +kernel) (by decide +kernel)
theorem usJ7_copyOf_6403c : xUse wsJ7_copyOf_6403c vwCl [] = true := xUse_n
theorem tbJ7_copyOf_6403c_0 {k : Instr → Nat → Nat → Nat → List Nat → Prop} : xse (xFind tbJ7_copyOf_6403c 0) k = k (.aload_n 2) 2 0 0 [] := rfl
theorem tbJ7_copyOf_6403c_1 {k : Instr → Nat → Nat → Nat → List Nat → Prop} : xse (xFind tbJ7_copyOf_6403c 1) k = k (.ldc 110) 0 1 0 [] := rfl
theorem tbJ7_copyOf_6403c_3 {k : Instr → Nat → Nat → Nat → List Nat → Prop} : xse (xFind tbJ7_copyOf_6403c 3) k = k (.if_acmp .ne 10) 13 0 0 [] := rfl
theorem tbJ7_copyOf_6403c_6 {k : Instr → Nat → Nat → Nat → List Nat → Prop} : xse (xFind tbJ7_copyOf_6403c 6) k = k (.iload_n 1) 1 0 0 [] := rfl
theorem tbJ7_copyOf_6403c_7 {k : Instr → Nat → Nat → Nat → List Nat → Prop} : xse (xFind tbJ7_copyOf_6403c 7) k = k (.anewarray 2) 1 0 0 [] := rfl
theorem tbJ7_copyOf_6403c_10 {k : Instr → Nat → Nat → Nat → List Nat → Prop} : xse (xFind tbJ7_copyOf_6403c 10) k = k (.goto 14) 24 0 0 [] := rfl
theorem tbJ7_copyOf_6403c_24 {k : Instr → Nat → Nat → Nat → List Nat → Prop} : xse (xFind tbJ7_copyOf_6403c 24) k = k (.astore_n 3) 3 0 0 [] := rfl
theorem tbJ7_copyOf_6403c_25 {k : Instr → Nat → Nat → Nat → List Nat → Prop} : xse (xFind tbJ7_copyOf_6403c 25) k = k (.aload_n 0) 0 0 0 [] := rfl
theorem tbJ7_copyOf_6403c_26 {k : Instr → Nat → Nat → Nat → List Nat → Prop} : xse (xFind tbJ7_copyOf_6403c 26) k = k (.iconst 0) 0 0 0 [] := rfl
theorem tbJ7_copyOf_6403c_27 {k : Instr → Nat → Nat → Nat → List Nat → Prop} : xse (xFind tbJ7_copyOf_6403c 27) k = k (.aload_n 3) 3 0 0 [] := rfl
theorem tbJ7_copyOf_6403c_28 {k : Instr → Nat → Nat → Nat → List Nat → Prop} : xse (xFind tbJ7_copyOf_6403c 28) k = k (.iconst 0) 0 0 0 [] := rfl
theorem tbJ7_copyOf_6403c_29 {k : Instr → Nat → Nat → Nat → List Nat → Prop} : xse (xFind tbJ7_copyOf_6403c 29) k = k (.aload_n 0) 0 0 0 [] := rfl
theorem tbJ7_copyOf_6403c_30 {k : Instr → Nat → Nat → Nat → List Nat → Prop} : xse (xFind tbJ7_copyOf_6403c 30) k = k (.arraylength) 2 0 1 [] := rfl
theorem tbJ7_copyOf_6403c_31 {k : Instr → Nat → Nat → Nat → List Nat → Prop} : xse (xFind tbJ7_copyOf_6403c 31) k = k (.iload_n 1) 1 0 0 [] := rfl
theorem tbJ7_copyOf_6403c_32 {k : Instr → Nat → Nat → Nat → List Nat → Prop} : xse (xFind tbJ7_copyOf_6403c 32) k = k (.invokestatic 304) 3 2 0 [] := rfl
theorem tbJ7_copyOf_6403c_35 {k : Instr → Nat → Nat → Nat → List Nat → Prop} : xse (xFind tbJ7_copyOf_6403c 35) k = k (.invokestatic 150) 4 5 0 [] := rfl
theorem tbJ7_copyOf_6403c_38 {k : Instr → Nat → Nat → Nat → List Nat → Prop} : xse (xFind tbJ7_copyOf_6403c 38) k = k (.aload_n 3) 3 0 0 [] := rfl
theorem tbJ7_copyOf_6403c_39 {k : Instr → Nat → Nat → Nat → List Nat → Prop} : xse (xFind tbJ7_copyOf_6403c 39) k = k (.areturn) 0 0 0 [] := rfl

def spJ7_copyOf_6403c (W9 : xWd) : xSp cS := (fun av S => (1, 45), fun av S K => ∃ (x : Nat) (n : Int32) (z : Nat), av = [.ref x, .int n, .ref z] ∧ ((z = wMi W9 ∧ cK S x = 13 ∧ x ≠ wE W9) ∧ ∃ k c9, n = nI k ∧ cLen S x ≤ k ∧ k ≤ 45 ∧ (cEl c9 ∧ ∀ i, i < cLen S x → ∀ b, cRr S x i = some b → cK S b = c9) ∧ ∀ q, cDead S q → q ≠ wE W9 → K (rR q) (cCpy (cNewR S q k) x q 0 0 (cLen S x))))
theorem spcJ7_copyOf_6403c {av : List Value} {S : cS} {W9 : xWd} : (spJ7_copyOf_6403c W9).1 av S = (1, 45) := rfl
theorem spwJ7_copyOf_6403c {S : cS} {W9 : xWd} {K : xRes → cS → Prop} {x : Nat} {n : Int32} {z : Nat} : (spJ7_copyOf_6403c W9).2 [.ref x, .int n, .ref z] S K = ((z = wMi W9 ∧ cK S x = 13 ∧ x ≠ wE W9) ∧ ∃ k c9, n = nI k ∧ cLen S x ≤ k ∧ k ≤ 45 ∧ (cEl c9 ∧ ∀ i, i < cLen S x → ∀ b, cRr S x i = some b → cK S b = c9) ∧ ∀ q, cDead S q → q ≠ wE W9 → K (rR q) (cCpy (cNewR S q k) x q 0 0 (cLen S x))) :=
  propext ⟨fun h => by
    simp only [spJ7_copyOf_6403c] at h
    obtain ⟨_, _, _, e, h⟩ := h
    simp only [List.cons.injEq, Value.int.injEq, Value.ref.injEq, rf_eq, and_true, true_and] at e
    obtain ⟨rfl, rfl, rfl⟩ := e
    exact h, fun h => ⟨_, _, _, rfl, h⟩⟩

def callJ7_copyOf_6403c (W9 : xWd) : Nat → Option (xSp cS) := fun n => match n with | 0 => some (sp_ldk W9) | 1 => some (sp_anw W9) | 2 => some (sp_aln W9) | 3 => some (sp_min cS) | 4 => some (sp_cpy W9) | _ => none

theorem callJ7_copyOf_6403c_0 {W9 : xWd} {k : xSp cS → Prop} : xcs (callJ7_copyOf_6403c W9 0) k = k (sp_ldk W9) := rfl

theorem callJ7_copyOf_6403c_1 {W9 : xWd} {k : xSp cS → Prop} : xcs (callJ7_copyOf_6403c W9 1) k = k (sp_anw W9) := rfl

theorem callJ7_copyOf_6403c_2 {W9 : xWd} {k : xSp cS → Prop} : xcs (callJ7_copyOf_6403c W9 2) k = k (sp_aln W9) := rfl

theorem callJ7_copyOf_6403c_3 {W9 : xWd} {k : xSp cS → Prop} : xcs (callJ7_copyOf_6403c W9 3) k = k (sp_min cS) := rfl

theorem callJ7_copyOf_6403c_4 {W9 : xWd} {k : xSp cS → Prop} : xcs (callJ7_copyOf_6403c W9 4) k = k (sp_cpy W9) := rfl

theorem crJ7_copyOf_6403c (l : Launch) (hl : l.stackTraces = false) (W9 : xWd) : xCallsOK l W9 (cI) (callJ7_copyOf_6403c W9) clJ7_copyOf_6403c RJ7 wsJ7_copyOf_6403c 1 60 4 := by
  intro E A p e R s m args below meth c hI hF hL X
  exact List.forall_mem_cons.mpr ⟨⟨_, rfl, xCR_ldk X (by decide +kernel)⟩,
    List.forall_mem_cons.mpr ⟨⟨_, rfl, xCR_anw hI X (by decide +kernel)⟩,
    List.forall_mem_cons.mpr ⟨⟨_, rfl, xCR_aln hI X⟩,
    List.forall_mem_cons.mpr ⟨⟨_, rfl, xCR_min X (by decide +kernel) (by decide +kernel) (by decide +kernel) (by decide +kernel) (by rw [hF, hL]; decide)⟩,
    List.forall_mem_cons.mpr ⟨⟨_, rfl, xCR_cpy hI X (by decide +kernel) (by decide +kernel) (by decide +kernel) (by decide +kernel) (by rw [hF, hL]; decide)⟩,
    fun _ h => nomatch h⟩⟩⟩⟩⟩

set_option maxHeartbeats 400000 in
set_option maxRecDepth 20000 in
theorem semJ7_copyOf_6403c (l : Launch) (hl : l.stackTraces = false) (W9 : xWd) : xSem l W9 (cI) yJ7_copyOf_6403c wsJ7_copyOf_6403c 1 60 (spJ7_copyOf_6403c W9) := by
  refine xSem_of (call := callJ7_copyOf_6403c W9) (thrf := fun _ => "") cI_law (by decide +kernel) rfl ckJ7_copyOf_6403c usJ7_copyOf_6403c (crJ7_copyOf_6403c l hl W9) xThrOK_nil ?_ ?_
  · intro av S KF h
    obtain ⟨x, n, z, rfl, h⟩ := h
    exact ⟨by intro v hv; simp only [List.mem_cons, List.not_mem_nil, or_false] at hv; rcases hv with rfl | rfl | rfl <;> first | rfl | exact cat_rf, Nat.le_of_ble_eq_true rfl⟩
  intro av S KF h G hG
  obtain ⟨x, n, z, rfl, h⟩ := h
  rw [show (spJ7_copyOf_6403c W9).1 _ S = _ from spcJ7_copyOf_6403c] at hG
  try dsimp only at hG
  change G 0 [some (.ref x), some (.int n), some (.ref z), none] [] S 0 0
  obtain ⟨⟨rfl, h1, h2⟩, k, c9, rfl, h3, h4, h5, h⟩ := h

  refine xgo0 hG (fun fu hfu => ?_)
  simp only [↓callJ7_copyOf_6403c_0, ↓callJ7_copyOf_6403c_1, ↓callJ7_copyOf_6403c_2, ↓callJ7_copyOf_6403c_3, ↓callJ7_copyOf_6403c_4, ki_0, ↓vm_aload_n, ↓vm_anewarray, ↓vm_areturn, ↓vm_arraylength1, ↓vm_astore_n, ↓vm_goto, ↓vm_iconst, ↓vm_if_acmp_ne, ↓vm_iload_n, ↓vm_invokestatic, ↓vm_ldc1, ↓xc_0, ↓xc_1, ↓xc_2, ↓xc_5, ↓tbJ7_copyOf_6403c_0, ↓tbJ7_copyOf_6403c_1, ↓tbJ7_copyOf_6403c_3, ↓tbJ7_copyOf_6403c_6, ↓tbJ7_copyOf_6403c_7, ↓tbJ7_copyOf_6403c_10, ↓tbJ7_copyOf_6403c_24, ↓tbJ7_copyOf_6403c_25, ↓tbJ7_copyOf_6403c_26, ↓tbJ7_copyOf_6403c_27, ↓tbJ7_copyOf_6403c_28, ↓tbJ7_copyOf_6403c_29, ↓tbJ7_copyOf_6403c_30, ↓tbJ7_copyOf_6403c_31, ↓tbJ7_copyOf_6403c_32, ↓tbJ7_copyOf_6403c_35, ↓tbJ7_copyOf_6403c_38, ↓tbJ7_copyOf_6403c_39, hfu, xstep0, xJ1_hit, xJ1_go, xJ2_hit1, xJ2_hit2, xJ2_go, ↓xif_t, ↓xif_f, seval, ↓xca_eq, ↓xre_l, ↓xre_r, xmask_t, xmask_f, xmask_nil, ↓xst_eq, xX_eq, eI_eq, eMc_eq, eMs_eq, eF_eq, eThr_eq, ↓xS1_mk, ↓xSI_mk, ↓xSR_mk, ↓xLI_0, ↓xLI_s, ↓xLR_0, ↓xLR_s, vRef_ref, vRef_null, vRef_rf, cat_int, cat_ref, cat_null, cat_rf, rf_some, rf_none, rf_null, rf_eq, rf_ref, ref_rf, ref_null, ref_ref, xOk_0, xOk_1, xOk_2r, xOk_2n, xOk_2f, vOpt_rf, vOpt_ref, vOpt_null, List.set_cons_zero, List.set_cons_succ, List.take_succ_cons, List.take_zero, List.drop_succ_cons, List.drop_zero, List.reverse_cons, List.reverse_nil, List.nil_append, List.cons_append, List.append_nil, List.length_cons, List.length_nil, List.map_cons, List.map_nil, List.sum_cons, List.sum_nil, Option.toList_some, Option.toList_none, xRecv_mk, true_and, and_true, true_implies, Nat.reduceAdd, Nat.reduceLeDiff, Nat.zero_le, Nat.le_refl, Nat.add_zero, Nat.zero_add, reduceIte, not_true_eq_false, not_false_eq_true, false_implies, and_self, implies_true, eq_self, Nat.reduceEqDiff, List.cons.injEq, xsn_1, xsn_2, false_and, and_false, or_false, false_or, or_true, true_or, xsn_3, xsn_4, ↓sp_ldk_w, sp_ldk_c, ↓sp_anw_w, sp_anw_c, ↓sp_aln_w, sp_aln_c, ↓sp_min_w, sp_min_c, ↓sp_cpy_w, sp_cpy_c]
  try simp only [xif_e]
  have em : (if nI k < Int32.ofNat (cLen S x) then nI k else Int32.ofNat (cLen S x)) = nI (cLen S x) := by
    show (if nI k < nI (cLen S x) then nI k else nI (cLen S x)) = _
    rw [if_neg]
    rw [lt_nI (by omega) (by omega)]
    omega
  refine ⟨k, rfl, h4, fun q hq hqe => ?_⟩
  have hxq : x ≠ q := fun z => hq (by rw [← z, h1]; decide)
  have f1 : cK (cNewR S q k) x = 13 := by rw [cK_newR, if_neg hxq]; exact h1
  have f2 : cLen (cNewR S q k) x = cLen S x := by rw [cLen_newR, if_neg hxq]
  have f3 : cK (cNewR S q k) q = 13 := by rw [cK_newR, if_pos rfl]
  have f4 : cLen (cNewR S q k) q = k := by rw [cLen_newR, if_pos rfl]
  have f5 : ∀ i, cRr (cNewR S q k) x i = cRr S x i := fun i => by rw [cRr_newR, if_neg hxq]
  have g := h q hq hqe
  refine ⟨Or.inr f1, 0, 0, cLen S x, c9, ⟨rfl, rfl, ?_⟩, ⟨f1, f3⟩, ⟨by rw [f2]; omega, by rw [f4]; omega, by omega, by omega, by omega⟩, ⟨h5.1, fun i hi b hb => ?_⟩, g⟩
  · simp only [h2, if_false, f2]
    exact em
  · rw [f5, Nat.zero_add] at hb
    have hb2 := h5.2 i hi b hb
    rw [cK_newR, if_neg]
    · exact hb2
    · intro z
      subst z
      rcases h5.1 with c | c | c | c | c <;> exact hq (by omega)

def tbJ7_copyOf_1904c : List (Nat × xHint) := [(0, .aload_n 0, 0, 0, 0, []), (1, .iload_n 1, 1, 0, 0, []), (2, .aload_n 0, 0, 0, 0, []), (3, .invokevirtual 86, 0, 1, 99, []), (6, .invokestatic 300, 1, 3, 0, []), (9, .areturn, 0, 0, 0, [])]
def clJ7_copyOf_1904c : List (Instr × Nat × Nat × Nat) := [(.invokevirtual 86, 0, 1, 99), (.invokestatic 300, 1, 3, 0)]
def thJ7_copyOf_1904c : List (Nat × Nat) := []
theorem ckJ7_copyOf_1904c : tbJ7_copyOf_1904c.all (xRow RJ7 cJ7_copyOf_1904c wsJ7_copyOf_1904c vwCl [] clJ7_copyOf_1904c thJ7_copyOf_1904c 2 (yJ7_copyOf_1904c.name == "<init>") (some (.array (.object "java/lang/Object")))) = true := xRow_q 0xb02c01b85600b62a1b2a 10 (by decide +kernel) (by decide +kernel)
theorem usJ7_copyOf_1904c : xUse wsJ7_copyOf_1904c vwCl [] = true := xUse_n
theorem tbJ7_copyOf_1904c_0 {k : Instr → Nat → Nat → Nat → List Nat → Prop} : xse (xFind tbJ7_copyOf_1904c 0) k = k (.aload_n 0) 0 0 0 [] := rfl
theorem tbJ7_copyOf_1904c_1 {k : Instr → Nat → Nat → Nat → List Nat → Prop} : xse (xFind tbJ7_copyOf_1904c 1) k = k (.iload_n 1) 1 0 0 [] := rfl
theorem tbJ7_copyOf_1904c_2 {k : Instr → Nat → Nat → Nat → List Nat → Prop} : xse (xFind tbJ7_copyOf_1904c 2) k = k (.aload_n 0) 0 0 0 [] := rfl
theorem tbJ7_copyOf_1904c_3 {k : Instr → Nat → Nat → Nat → List Nat → Prop} : xse (xFind tbJ7_copyOf_1904c 3) k = k (.invokevirtual 86) 0 1 99 [] := rfl
theorem tbJ7_copyOf_1904c_6 {k : Instr → Nat → Nat → Nat → List Nat → Prop} : xse (xFind tbJ7_copyOf_1904c 6) k = k (.invokestatic 300) 1 3 0 [] := rfl
theorem tbJ7_copyOf_1904c_9 {k : Instr → Nat → Nat → Nat → List Nat → Prop} : xse (xFind tbJ7_copyOf_1904c 9) k = k (.areturn) 0 0 0 [] := rfl

def spJ7_copyOf_1904c (W9 : xWd) : xSp cS := (fun av S => (1, 45), fun av S K => ∃ (x : Nat) (n : Int32), av = [.ref x, .int n] ∧ ((cK S x = 13 ∧ x ≠ wE W9) ∧ ∃ k c9, n = nI k ∧ cLen S x ≤ k ∧ k ≤ 45 ∧ (cEl c9 ∧ ∀ i, i < cLen S x → ∀ b, cRr S x i = some b → cK S b = c9) ∧ ∀ q, cDead S q → q ≠ wE W9 → K (rR q) (cCpy (cNewR S q k) x q 0 0 (cLen S x))))
theorem spcJ7_copyOf_1904c {av : List Value} {S : cS} {W9 : xWd} : (spJ7_copyOf_1904c W9).1 av S = (1, 45) := rfl
theorem spwJ7_copyOf_1904c {S : cS} {W9 : xWd} {K : xRes → cS → Prop} {x : Nat} {n : Int32} : (spJ7_copyOf_1904c W9).2 [.ref x, .int n] S K = ((cK S x = 13 ∧ x ≠ wE W9) ∧ ∃ k c9, n = nI k ∧ cLen S x ≤ k ∧ k ≤ 45 ∧ (cEl c9 ∧ ∀ i, i < cLen S x → ∀ b, cRr S x i = some b → cK S b = c9) ∧ ∀ q, cDead S q → q ≠ wE W9 → K (rR q) (cCpy (cNewR S q k) x q 0 0 (cLen S x))) :=
  propext ⟨fun h => by
    simp only [spJ7_copyOf_1904c] at h
    obtain ⟨_, _, e, h⟩ := h
    simp only [List.cons.injEq, Value.int.injEq, Value.ref.injEq, rf_eq, and_true, true_and] at e
    obtain ⟨rfl, rfl⟩ := e
    exact h, fun h => ⟨_, _, rfl, h⟩⟩

def callJ7_copyOf_1904c (W9 : xWd) : Nat → Option (xSp cS) := fun n => match n with | 0 => some (sp_gcl W9) | 1 => some (spJ7_copyOf_6403c W9) | _ => none

theorem callJ7_copyOf_1904c_0 {W9 : xWd} {k : xSp cS → Prop} : xcs (callJ7_copyOf_1904c W9 0) k = k (sp_gcl W9) := rfl

theorem callJ7_copyOf_1904c_1 {W9 : xWd} {k : xSp cS → Prop} : xcs (callJ7_copyOf_1904c W9 1) k = k (spJ7_copyOf_6403c W9) := rfl

theorem crJ7_copyOf_1904c (l : Launch) (hl : l.stackTraces = false) (W9 : xWd) : xCallsOK l W9 (cI) (callJ7_copyOf_1904c W9) clJ7_copyOf_1904c RJ7 wsJ7_copyOf_1904c 2 83 2 := by
  intro E A p e R s m args below meth c hI hF hL X
  exact List.forall_mem_cons.mpr ⟨⟨_, rfl, xCR_gcl hI X (by decide +kernel) (by decide +kernel) (by decide +kernel) (by decide +kernel) (by rw [hF, hL]; decide)⟩,
    List.forall_mem_cons.mpr ⟨⟨_, rfl, xCR_S X (by rw [hI]; exact (semJ7_copyOf_6403c l hl W9)) gJ7_copyOf_1904c_J7_copyOf_6403c rfl (by decide +kernel) (by rw [hF, hL]; decide)⟩,
    fun _ h => nomatch h⟩⟩

set_option maxHeartbeats 400000 in
set_option maxRecDepth 20000 in
theorem semJ7_copyOf_1904c (l : Launch) (hl : l.stackTraces = false) (W9 : xWd) : xSem l W9 (cI) yJ7_copyOf_1904c wsJ7_copyOf_1904c 2 83 (spJ7_copyOf_1904c W9) := by
  refine xSem_of (call := callJ7_copyOf_1904c W9) (thrf := fun _ => "") cI_law (by decide +kernel) rfl ckJ7_copyOf_1904c usJ7_copyOf_1904c (crJ7_copyOf_1904c l hl W9) xThrOK_nil ?_ ?_
  · intro av S KF h
    obtain ⟨x, n, rfl, h⟩ := h
    exact ⟨by intro v hv; simp only [List.mem_cons, List.not_mem_nil, or_false] at hv; rcases hv with rfl | rfl <;> first | rfl | exact cat_rf, Nat.le_of_ble_eq_true rfl⟩
  intro av S KF h G hG
  obtain ⟨x, n, rfl, h⟩ := h
  rw [show (spJ7_copyOf_1904c W9).1 _ S = _ from spcJ7_copyOf_1904c] at hG
  try dsimp only at hG
  change G 0 [some (.ref x), some (.int n)] [] S 0 0
  obtain ⟨⟨h1, h2⟩, h⟩ := h
  refine xgo0 hG (fun fu hfu => ?_)
  clear hG
  simp only [↓callJ7_copyOf_1904c_0, ↓callJ7_copyOf_1904c_1, cisa, ↓vm_aload_n, ↓vm_areturn, ↓vm_iload_n, ↓vm_invokestatic, ↓vm_invokevirtual, ↓xc_1, ↓xc_3, ↓tbJ7_copyOf_1904c_0, ↓tbJ7_copyOf_1904c_1, ↓tbJ7_copyOf_1904c_2, ↓tbJ7_copyOf_1904c_3, ↓tbJ7_copyOf_1904c_6, ↓tbJ7_copyOf_1904c_9, hfu, xstep0, xJ1_hit, xJ1_go, xJ2_hit1, xJ2_hit2, xJ2_go, ↓xif_t, ↓xif_f, seval, ↓xca_eq, ↓xre_l, ↓xre_r, xmask_t, xmask_f, xmask_nil, ↓xst_eq, xX_eq, eI_eq, eMc_eq, eMs_eq, eF_eq, eThr_eq, ↓xS1_mk, ↓xSI_mk, ↓xSR_mk, ↓xLI_0, ↓xLI_s, ↓xLR_0, ↓xLR_s, vRef_ref, vRef_null, vRef_rf, cat_int, cat_ref, cat_null, cat_rf, rf_some, rf_none, rf_null, rf_eq, rf_ref, ref_rf, ref_null, ref_ref, xOk_0, xOk_1, xOk_2r, xOk_2n, xOk_2f, vOpt_rf, vOpt_ref, vOpt_null, List.set_cons_zero, List.set_cons_succ, List.take_succ_cons, List.take_zero, List.drop_succ_cons, List.drop_zero, List.reverse_cons, List.reverse_nil, List.nil_append, List.cons_append, List.append_nil, List.length_cons, List.length_nil, List.map_cons, List.map_nil, List.sum_cons, List.sum_nil, Option.toList_some, Option.toList_none, xRecv_mk, true_and, and_true, true_implies, Nat.reduceAdd, Nat.reduceLeDiff, Nat.zero_le, Nat.le_refl, Nat.add_zero, Nat.zero_add, reduceIte, not_true_eq_false, not_false_eq_true, false_implies, and_self, implies_true, eq_self, Nat.reduceEqDiff, List.cons.injEq, xsn_1, xsn_2, false_and, and_false, or_false, false_or, or_true, true_or, xsn_3, xsn_4, h1, h2, ↓sp_gcl_w, sp_gcl_c, ↓spwJ7_copyOf_6403c, spcJ7_copyOf_6403c]
  try simp only [xif_e]
  repeat' (first | exact h | exact h2 | exact Nat.le_refl _ | with_reducible apply And.intro)

def tbJx4a65c_grow_92f84 : List (Nat × xHint) := [(0, .aload_n 0, 0, 0, 0, []), (1, .getfield 9, 0, 1, 2, []), (4, .arraylength, 0, 0, 1, []), (5, .istore_n 2, 2, 0, 0, []), (6, .iload_n 2, 2, 0, 0, []), (7, .ifCond .gt 13, 20, 0, 0, []), (10, .aload_n 0, 0, 0, 0, []), (11, .getfield 9, 0, 1, 2, []), (14, .getstatic 39, 1, 0, 0, []), (17, .if_acmp .eq 28, 45, 0, 0, []), (20, .iload_n 2, 2, 0, 0, []), (21, .iload_n 1, 1, 0, 0, []), (22, .iload_n 2, 2, 0, 0, []), (23, .isub, 0, 0, 0, []), (24, .iload_n 2, 2, 0, 0, []), (25, .iconst 1, 0, 0, 0, []), (26, .ishr, 0, 0, 0, []), (27, .invokestatic 73, 2, 3, 0, []), (30, .istore_n 3, 3, 0, 0, []), (31, .aload_n 0, 0, 0, 0, []), (32, .aload_n 0, 0, 0, 0, []), (33, .getfield 9, 0, 1, 2, []), (36, .iload_n 3, 3, 0, 0, []), (37, .invokestatic 66, 3, 2, 0, []), (40, .dup_x1, 0, 0, 0, []), (41, .putfield 9, 0, 1, 2, []), (44, .areturn, 0, 0, 0, []), (45, .aload_n 0, 0, 0, 0, []), (46, .bipush 10, 0, 0, 0, []), (48, .iload_n 1, 1, 0, 0, []), (49, .invokestatic 79, 4, 2, 0, []), (52, .anewarray 7, 5, 0, 0, []), (55, .dup_x1, 0, 0, 0, []), (56, .putfield 9, 0, 1, 2, []), (59, .areturn, 0, 0, 0, [])]
def clJx4a65c_grow_92f84 : List (Instr × Nat × Nat × Nat) := [(.arraylength, 0, 1, 0), (.getstatic 39, 1, 0, 0), (.invokestatic 73, 2, 3, 0), (.invokestatic 66, 3, 2, 0), (.invokestatic 79, 4, 2, 0), (.anewarray 7, 5, 1, 0)]
def thJx4a65c_grow_92f84 : List (Nat × Nat) := []
theorem ckJx4a65c_grow_92f84 : tbJx4a65c_grow_92f84.all (xRow RJx4a65c cJx4a65c_grow_92f84 wsJx4a65c_grow_92f84 vwCl [0] clJx4a65c_grow_92f84 thJx4a65c_grow_92f84 4 (yJx4a65c_grow_92f84.name == "<init>") (some (.array (.object "java/lang/Object")))) = true := xRow_q 0xb00900b55a0700bd4f00b81b0a102ab00900b55a4200b81d0900b42a2a3e4900b87a041c641c1b1c1c00a52700b20900b42a0d009d1c3dbe0900b42a 60 (by decide +kernel) (by decide +kernel)
theorem usJx4a65c_grow_92f84 : xUse wsJx4a65c_grow_92f84 vwCl [0] = true := xUse_g rfl (lw_good lwl_Jx4a65c_grow_92f84 lwl_Jx4a65c0 (by decide +kernel)) xUse_n
theorem tbJx4a65c_grow_92f84_0 {k : Instr → Nat → Nat → Nat → List Nat → Prop} : xse (xFind tbJx4a65c_grow_92f84 0) k = k (.aload_n 0) 0 0 0 [] := rfl
theorem tbJx4a65c_grow_92f84_1 {k : Instr → Nat → Nat → Nat → List Nat → Prop} : xse (xFind tbJx4a65c_grow_92f84 1) k = k (.getfield 9) 0 1 2 [] := rfl
theorem tbJx4a65c_grow_92f84_4 {k : Instr → Nat → Nat → Nat → List Nat → Prop} : xse (xFind tbJx4a65c_grow_92f84 4) k = k (.arraylength) 0 0 1 [] := rfl
theorem tbJx4a65c_grow_92f84_5 {k : Instr → Nat → Nat → Nat → List Nat → Prop} : xse (xFind tbJx4a65c_grow_92f84 5) k = k (.istore_n 2) 2 0 0 [] := rfl
theorem tbJx4a65c_grow_92f84_6 {k : Instr → Nat → Nat → Nat → List Nat → Prop} : xse (xFind tbJx4a65c_grow_92f84 6) k = k (.iload_n 2) 2 0 0 [] := rfl
theorem tbJx4a65c_grow_92f84_7 {k : Instr → Nat → Nat → Nat → List Nat → Prop} : xse (xFind tbJx4a65c_grow_92f84 7) k = k (.ifCond .gt 13) 20 0 0 [] := rfl
theorem tbJx4a65c_grow_92f84_10 {k : Instr → Nat → Nat → Nat → List Nat → Prop} : xse (xFind tbJx4a65c_grow_92f84 10) k = k (.aload_n 0) 0 0 0 [] := rfl
theorem tbJx4a65c_grow_92f84_11 {k : Instr → Nat → Nat → Nat → List Nat → Prop} : xse (xFind tbJx4a65c_grow_92f84 11) k = k (.getfield 9) 0 1 2 [] := rfl
theorem tbJx4a65c_grow_92f84_14 {k : Instr → Nat → Nat → Nat → List Nat → Prop} : xse (xFind tbJx4a65c_grow_92f84 14) k = k (.getstatic 39) 1 0 0 [] := rfl
theorem tbJx4a65c_grow_92f84_17 {k : Instr → Nat → Nat → Nat → List Nat → Prop} : xse (xFind tbJx4a65c_grow_92f84 17) k = k (.if_acmp .eq 28) 45 0 0 [] := rfl
theorem tbJx4a65c_grow_92f84_20 {k : Instr → Nat → Nat → Nat → List Nat → Prop} : xse (xFind tbJx4a65c_grow_92f84 20) k = k (.iload_n 2) 2 0 0 [] := rfl
theorem tbJx4a65c_grow_92f84_21 {k : Instr → Nat → Nat → Nat → List Nat → Prop} : xse (xFind tbJx4a65c_grow_92f84 21) k = k (.iload_n 1) 1 0 0 [] := rfl
theorem tbJx4a65c_grow_92f84_22 {k : Instr → Nat → Nat → Nat → List Nat → Prop} : xse (xFind tbJx4a65c_grow_92f84 22) k = k (.iload_n 2) 2 0 0 [] := rfl
theorem tbJx4a65c_grow_92f84_23 {k : Instr → Nat → Nat → Nat → List Nat → Prop} : xse (xFind tbJx4a65c_grow_92f84 23) k = k (.isub) 0 0 0 [] := rfl
theorem tbJx4a65c_grow_92f84_24 {k : Instr → Nat → Nat → Nat → List Nat → Prop} : xse (xFind tbJx4a65c_grow_92f84 24) k = k (.iload_n 2) 2 0 0 [] := rfl
theorem tbJx4a65c_grow_92f84_25 {k : Instr → Nat → Nat → Nat → List Nat → Prop} : xse (xFind tbJx4a65c_grow_92f84 25) k = k (.iconst 1) 0 0 0 [] := rfl
theorem tbJx4a65c_grow_92f84_26 {k : Instr → Nat → Nat → Nat → List Nat → Prop} : xse (xFind tbJx4a65c_grow_92f84 26) k = k (.ishr) 0 0 0 [] := rfl
theorem tbJx4a65c_grow_92f84_27 {k : Instr → Nat → Nat → Nat → List Nat → Prop} : xse (xFind tbJx4a65c_grow_92f84 27) k = k (.invokestatic 73) 2 3 0 [] := rfl
theorem tbJx4a65c_grow_92f84_30 {k : Instr → Nat → Nat → Nat → List Nat → Prop} : xse (xFind tbJx4a65c_grow_92f84 30) k = k (.istore_n 3) 3 0 0 [] := rfl
theorem tbJx4a65c_grow_92f84_31 {k : Instr → Nat → Nat → Nat → List Nat → Prop} : xse (xFind tbJx4a65c_grow_92f84 31) k = k (.aload_n 0) 0 0 0 [] := rfl
theorem tbJx4a65c_grow_92f84_32 {k : Instr → Nat → Nat → Nat → List Nat → Prop} : xse (xFind tbJx4a65c_grow_92f84 32) k = k (.aload_n 0) 0 0 0 [] := rfl
theorem tbJx4a65c_grow_92f84_33 {k : Instr → Nat → Nat → Nat → List Nat → Prop} : xse (xFind tbJx4a65c_grow_92f84 33) k = k (.getfield 9) 0 1 2 [] := rfl
theorem tbJx4a65c_grow_92f84_36 {k : Instr → Nat → Nat → Nat → List Nat → Prop} : xse (xFind tbJx4a65c_grow_92f84 36) k = k (.iload_n 3) 3 0 0 [] := rfl
theorem tbJx4a65c_grow_92f84_37 {k : Instr → Nat → Nat → Nat → List Nat → Prop} : xse (xFind tbJx4a65c_grow_92f84 37) k = k (.invokestatic 66) 3 2 0 [] := rfl
theorem tbJx4a65c_grow_92f84_40 {k : Instr → Nat → Nat → Nat → List Nat → Prop} : xse (xFind tbJx4a65c_grow_92f84 40) k = k (.dup_x1) 0 0 0 [] := rfl
theorem tbJx4a65c_grow_92f84_41 {k : Instr → Nat → Nat → Nat → List Nat → Prop} : xse (xFind tbJx4a65c_grow_92f84 41) k = k (.putfield 9) 0 1 2 [] := rfl
theorem tbJx4a65c_grow_92f84_44 {k : Instr → Nat → Nat → Nat → List Nat → Prop} : xse (xFind tbJx4a65c_grow_92f84 44) k = k (.areturn) 0 0 0 [] := rfl
theorem tbJx4a65c_grow_92f84_45 {k : Instr → Nat → Nat → Nat → List Nat → Prop} : xse (xFind tbJx4a65c_grow_92f84 45) k = k (.aload_n 0) 0 0 0 [] := rfl
theorem tbJx4a65c_grow_92f84_46 {k : Instr → Nat → Nat → Nat → List Nat → Prop} : xse (xFind tbJx4a65c_grow_92f84 46) k = k (.bipush 10) 0 0 0 [] := rfl
theorem tbJx4a65c_grow_92f84_48 {k : Instr → Nat → Nat → Nat → List Nat → Prop} : xse (xFind tbJx4a65c_grow_92f84 48) k = k (.iload_n 1) 1 0 0 [] := rfl
theorem tbJx4a65c_grow_92f84_49 {k : Instr → Nat → Nat → Nat → List Nat → Prop} : xse (xFind tbJx4a65c_grow_92f84 49) k = k (.invokestatic 79) 4 2 0 [] := rfl
theorem tbJx4a65c_grow_92f84_52 {k : Instr → Nat → Nat → Nat → List Nat → Prop} : xse (xFind tbJx4a65c_grow_92f84 52) k = k (.anewarray 7) 5 0 0 [] := rfl
theorem tbJx4a65c_grow_92f84_55 {k : Instr → Nat → Nat → Nat → List Nat → Prop} : xse (xFind tbJx4a65c_grow_92f84 55) k = k (.dup_x1) 0 0 0 [] := rfl
theorem tbJx4a65c_grow_92f84_56 {k : Instr → Nat → Nat → Nat → List Nat → Prop} : xse (xFind tbJx4a65c_grow_92f84 56) k = k (.putfield 9) 0 1 2 [] := rfl
theorem tbJx4a65c_grow_92f84_59 {k : Instr → Nat → Nat → Nat → List Nat → Prop} : xse (xFind tbJx4a65c_grow_92f84 59) k = k (.areturn) 0 0 0 [] := rfl

def spJx4a65c_grow_92f84 (W9 : xWd) : xSp cS := (fun av S => (1, 45), fun av S K => ∃ (a : Nat) (m : Int32), av = [.ref a, .int m] ∧ (lCap W9 S a ∧ (cRf S a 1 = wE W9 ∨ lCn S a = cLen S (cRf S a 1)) ∧ lCn S a < 30 ∧ m = nI (lCn S a + 1) ∧ (∃ c9, lKd S a c9) ∧ ∀ q S2, lGrow W9 S a q S2 → K (rR q) S2))
theorem spcJx4a65c_grow_92f84 {av : List Value} {S : cS} {W9 : xWd} : (spJx4a65c_grow_92f84 W9).1 av S = (1, 45) := rfl
theorem spwJx4a65c_grow_92f84 {S : cS} {W9 : xWd} {K : xRes → cS → Prop} {a : Nat} {m : Int32} : (spJx4a65c_grow_92f84 W9).2 [.ref a, .int m] S K = (lCap W9 S a ∧ (cRf S a 1 = wE W9 ∨ lCn S a = cLen S (cRf S a 1)) ∧ lCn S a < 30 ∧ m = nI (lCn S a + 1) ∧ (∃ c9, lKd S a c9) ∧ ∀ q S2, lGrow W9 S a q S2 → K (rR q) S2) :=
  propext ⟨fun h => by
    simp only [spJx4a65c_grow_92f84] at h
    obtain ⟨_, _, e, h⟩ := h
    simp only [List.cons.injEq, Value.int.injEq, Value.ref.injEq, rf_eq, and_true, true_and] at e
    obtain ⟨rfl, rfl⟩ := e
    exact h, fun h => ⟨_, _, rfl, h⟩⟩

def callJx4a65c_grow_92f84 (W9 : xWd) : Nat → Option (xSp cS) := fun n => match n with | 0 => some (sp_aln W9) | 1 => some (sp_emp W9 cS) | 2 => some (spJ8_newLength_cabcc W9) | 3 => some (spJ7_copyOf_1904c W9) | 4 => some (sp_max cS) | 5 => some (sp_anw W9) | _ => none

theorem callJx4a65c_grow_92f84_0 {W9 : xWd} {k : xSp cS → Prop} : xcs (callJx4a65c_grow_92f84 W9 0) k = k (sp_aln W9) := rfl

theorem callJx4a65c_grow_92f84_1 {W9 : xWd} {k : xSp cS → Prop} : xcs (callJx4a65c_grow_92f84 W9 1) k = k (sp_emp W9 cS) := rfl

theorem callJx4a65c_grow_92f84_2 {W9 : xWd} {k : xSp cS → Prop} : xcs (callJx4a65c_grow_92f84 W9 2) k = k (spJ8_newLength_cabcc W9) := rfl

theorem callJx4a65c_grow_92f84_3 {W9 : xWd} {k : xSp cS → Prop} : xcs (callJx4a65c_grow_92f84 W9 3) k = k (spJ7_copyOf_1904c W9) := rfl

theorem callJx4a65c_grow_92f84_4 {W9 : xWd} {k : xSp cS → Prop} : xcs (callJx4a65c_grow_92f84 W9 4) k = k (sp_max cS) := rfl

theorem callJx4a65c_grow_92f84_5 {W9 : xWd} {k : xSp cS → Prop} : xcs (callJx4a65c_grow_92f84 W9 5) k = k (sp_anw W9) := rfl

theorem crJx4a65c_grow_92f84 (l : Launch) (hl : l.stackTraces = false) (W9 : xWd) : xCallsOK l W9 (cI) (callJx4a65c_grow_92f84 W9) clJx4a65c_grow_92f84 RJx4a65c wsJx4a65c_grow_92f84 3 104 4 := by
  intro E A p e R s m args below meth c hI hF hL X
  exact List.forall_mem_cons.mpr ⟨⟨_, rfl, xCR_aln hI X⟩,
    List.forall_mem_cons.mpr ⟨⟨_, rfl, xCR_emp X (by decide +kernel)⟩,
    List.forall_mem_cons.mpr ⟨⟨_, rfl, xCR_S X (by rw [hI]; exact (semJ8_newLength_cabcc l hl W9)) gJx4a65c_grow_92f84_J8_newLength_cabcc rfl (by decide +kernel) (by rw [hF, hL]; decide)⟩,
    List.forall_mem_cons.mpr ⟨⟨_, rfl, xCR_S X (by rw [hI]; exact (semJ7_copyOf_1904c l hl W9)) gJx4a65c_grow_92f84_J7_copyOf_1904c rfl (by decide +kernel) (by rw [hF, hL]; decide)⟩,
    List.forall_mem_cons.mpr ⟨⟨_, rfl, xCR_max X (by decide +kernel) (by decide +kernel) (by decide +kernel) (by decide +kernel) (by rw [hF, hL]; decide)⟩,
    List.forall_mem_cons.mpr ⟨⟨_, rfl, xCR_anw hI X (by decide +kernel)⟩,
    fun _ h => nomatch h⟩⟩⟩⟩⟩⟩

set_option maxHeartbeats 400000 in
set_option maxRecDepth 20000 in
theorem semJx4a65c_grow_92f84 (l : Launch) (hl : l.stackTraces = false) (W9 : xWd) : xSem l W9 (cI) yJx4a65c_grow_92f84 wsJx4a65c_grow_92f84 3 104 (spJx4a65c_grow_92f84 W9) := by
  refine xSem_of (call := callJx4a65c_grow_92f84 W9) (thrf := fun _ => "") cI_law (by decide +kernel) rfl ckJx4a65c_grow_92f84 usJx4a65c_grow_92f84 (crJx4a65c_grow_92f84 l hl W9) xThrOK_nil ?_ ?_
  · intro av S KF h
    obtain ⟨a, m, rfl, h⟩ := h
    exact ⟨by intro v hv; simp only [List.mem_cons, List.not_mem_nil, or_false] at hv; rcases hv with rfl | rfl <;> first | rfl | exact cat_rf, Nat.le_of_ble_eq_true rfl⟩
  intro av S KF h G hG
  obtain ⟨a, m, rfl, h⟩ := h
  rw [show (spJx4a65c_grow_92f84 W9).1 _ S = _ from spcJx4a65c_grow_92f84] at hG
  try dsimp only at hG
  change G 0 [some (.ref a), some (.int m), none, none] [] S 0 0
  obtain ⟨⟨h1, h2, h3, h4, h5⟩, h6, h7, rfl, ⟨c9, h8⟩, h⟩ := h

  refine xgo0 hG (fun fu hfu => ?_)
  have f0 : cRf S a 1 = (cFr S a 1).getD 0 := rfl
  unfold lGrow at h
  unfold lKd at h8
  generalize hE : cRf S a 1 = e at *
  generalize hN : lCn S a = n at *
  by_cases c : e = wE W9
  · have hn : n = 0 := by
      rcases h5 with q | q
      · exact q.2
      · exact absurd c q.1
    subst hn
    rw [c] at h4
    simp only [↓callJx4a65c_grow_92f84_0, ↓callJx4a65c_grow_92f84_1, ↓callJx4a65c_grow_92f84_2, ↓callJx4a65c_grow_92f84_3, ↓callJx4a65c_grow_92f84_4, ↓callJx4a65c_grow_92f84_5, ↓cg_0_1, ↓cpf_0_1, ↓cpn_0_1, ↓cpr_0_1, kb_10, kc_10, ki_1, ↓vm_aload_n, ↓vm_anewarray, ↓vm_areturn, ↓vm_arraylength1, ↓vm_bipush, ↓vm_dup_x1, ↓vm_getfield, ↓vm_getstatic, ↓vm_iconst, ↓vm_ifCond_gt, ↓vm_if_acmp_eq, ↓vm_iload_n, ↓vm_invokestatic, ↓vm_ishr, ↓vm_istore_n, ↓vm_isub, ↓vm_putfield, ↓xc_0, ↓xc_1, ↓xc_2, ↓xc_3, ↓tbJx4a65c_grow_92f84_0, ↓tbJx4a65c_grow_92f84_1, ↓tbJx4a65c_grow_92f84_4, ↓tbJx4a65c_grow_92f84_5, ↓tbJx4a65c_grow_92f84_6, ↓tbJx4a65c_grow_92f84_7, ↓tbJx4a65c_grow_92f84_10, ↓tbJx4a65c_grow_92f84_11, ↓tbJx4a65c_grow_92f84_14, ↓tbJx4a65c_grow_92f84_17, ↓tbJx4a65c_grow_92f84_20, ↓tbJx4a65c_grow_92f84_21, ↓tbJx4a65c_grow_92f84_22, ↓tbJx4a65c_grow_92f84_23, ↓tbJx4a65c_grow_92f84_24, ↓tbJx4a65c_grow_92f84_25, ↓tbJx4a65c_grow_92f84_26, ↓tbJx4a65c_grow_92f84_27, ↓tbJx4a65c_grow_92f84_30, ↓tbJx4a65c_grow_92f84_31, ↓tbJx4a65c_grow_92f84_32, ↓tbJx4a65c_grow_92f84_33, ↓tbJx4a65c_grow_92f84_36, ↓tbJx4a65c_grow_92f84_37, ↓tbJx4a65c_grow_92f84_40, ↓tbJx4a65c_grow_92f84_41, ↓tbJx4a65c_grow_92f84_44, ↓tbJx4a65c_grow_92f84_45, ↓tbJx4a65c_grow_92f84_46, ↓tbJx4a65c_grow_92f84_48, ↓tbJx4a65c_grow_92f84_49, ↓tbJx4a65c_grow_92f84_52, ↓tbJx4a65c_grow_92f84_55, ↓tbJx4a65c_grow_92f84_56, ↓tbJx4a65c_grow_92f84_59, hfu, xstep0, xJ1_hit, xJ1_go, xJ2_hit1, xJ2_hit2, xJ2_go, ↓xif_t, ↓xif_f, seval, ↓xca_eq, ↓xre_l, ↓xre_r, xmask_t, xmask_f, xmask_nil, ↓xst_eq, xX_eq, eI_eq, eMc_eq, eMs_eq, eF_eq, eThr_eq, ↓xS1_mk, ↓xSI_mk, ↓xSR_mk, ↓xLI_0, ↓xLI_s, ↓xLR_0, ↓xLR_s, vRef_ref, vRef_null, vRef_rf, cat_int, cat_ref, cat_null, cat_rf, rf_some, rf_none, rf_null, rf_eq, rf_ref, ref_rf, ref_null, ref_ref, xOk_0, xOk_1, xOk_2r, xOk_2n, xOk_2f, vOpt_rf, vOpt_ref, vOpt_null, List.set_cons_zero, List.set_cons_succ, List.take_succ_cons, List.take_zero, List.drop_succ_cons, List.drop_zero, List.reverse_cons, List.reverse_nil, List.nil_append, List.cons_append, List.append_nil, List.length_cons, List.length_nil, List.map_cons, List.map_nil, List.sum_cons, List.sum_nil, Option.toList_some, Option.toList_none, xRecv_mk, true_and, and_true, true_implies, Nat.reduceAdd, Nat.reduceLeDiff, Nat.zero_le, Nat.le_refl, Nat.add_zero, Nat.zero_add, reduceIte, not_true_eq_false, not_false_eq_true, false_implies, and_self, implies_true, eq_self, Nat.reduceEqDiff, List.cons.injEq, xsn_1, xsn_2, false_and, and_false, or_false, false_or, or_true, true_or, xsn_3, xsn_4, ↓sp_aln_w, sp_aln_c, ↓sp_emp_w, sp_emp_c, ↓spwJ8_newLength_cabcc, spcJ8_newLength_cabcc, ↓spwJ7_copyOf_1904c, spcJ7_copyOf_1904c, ↓sp_max_w, sp_max_c, ↓sp_anw_w, sp_anw_c, h1, h4]
    try simp only [xif_e]
    have ez : (if (10 : Int32) < nI (0 + 1) then nI (0 + 1) else 10) = nI 10 := rfl
    have fin : ∀ q, cDead S q → q ≠ wE W9 → KF (rR q) (cSetR (cNewR S q 10) a 1 (some q)) := fun q hq hqe => h q _ ⟨hq, hqe, 10, by omega, by omega, by omega, by rw [cCpy_0]⟩
    have hK : ∀ q, cDead S q → cK (cNewR S q 10) a = 1 := fun q hq => by
      rw [cK_newR, if_neg]
      · exact h1
      · intro z
        subst z
        exact hq (by omega)
    refine ⟨10, by decide, by omega, fun q hq hqe => ⟨hK q hq, fin q hq hqe⟩⟩
  · obtain ⟨-, g2, g3, g4, g5⟩ := h5.resolve_left (fun q => c q.1)
    have hn : n = cLen S e := h6.resolve_left c
    have e1 : (Int32.ofNat (cLen S e) ≤ 0) = False := by
      show (nI (cLen S e) ≤ nI 0) = False
      rw [le_nI (by omega) (by omega)]
      exact eq_false (by omega)
    have e2 : nI (n + 1) - Int32.ofNat (cLen S e) = 1 := by
      show nI (n + 1) - nI (cLen S e) = 1
      rw [← hn, ← nI1]
      grind
    have e3 : Int32.ofNat (cLen S e) >>> (1 &&& 31) = nI (n / 2) := by rw [hn]; exact hlf_nI _ (by omega)
    have e4 : Int32.ofNat (cLen S e) = nI n := by rw [hn]; rfl
    have ck : n / 2 ≠ 0 := by omega
    simp only [↓callJx4a65c_grow_92f84_0, ↓callJx4a65c_grow_92f84_1, ↓callJx4a65c_grow_92f84_2, ↓callJx4a65c_grow_92f84_3, ↓callJx4a65c_grow_92f84_4, ↓callJx4a65c_grow_92f84_5, ↓cg_0_1, ↓cpf_0_1, ↓cpn_0_1, ↓cpr_0_1, kb_10, kc_10, ki_1, ↓vm_aload_n, ↓vm_anewarray, ↓vm_areturn, ↓vm_arraylength1, ↓vm_bipush, ↓vm_dup_x1, ↓vm_getfield, ↓vm_getstatic, ↓vm_iconst, ↓vm_ifCond_gt, ↓vm_if_acmp_eq, ↓vm_iload_n, ↓vm_invokestatic, ↓vm_ishr, ↓vm_istore_n, ↓vm_isub, ↓vm_putfield, ↓xc_0, ↓xc_1, ↓xc_2, ↓xc_3, ↓tbJx4a65c_grow_92f84_0, ↓tbJx4a65c_grow_92f84_1, ↓tbJx4a65c_grow_92f84_4, ↓tbJx4a65c_grow_92f84_5, ↓tbJx4a65c_grow_92f84_6, ↓tbJx4a65c_grow_92f84_7, ↓tbJx4a65c_grow_92f84_10, ↓tbJx4a65c_grow_92f84_11, ↓tbJx4a65c_grow_92f84_14, ↓tbJx4a65c_grow_92f84_17, ↓tbJx4a65c_grow_92f84_20, ↓tbJx4a65c_grow_92f84_21, ↓tbJx4a65c_grow_92f84_22, ↓tbJx4a65c_grow_92f84_23, ↓tbJx4a65c_grow_92f84_24, ↓tbJx4a65c_grow_92f84_25, ↓tbJx4a65c_grow_92f84_26, ↓tbJx4a65c_grow_92f84_27, ↓tbJx4a65c_grow_92f84_30, ↓tbJx4a65c_grow_92f84_31, ↓tbJx4a65c_grow_92f84_32, ↓tbJx4a65c_grow_92f84_33, ↓tbJx4a65c_grow_92f84_36, ↓tbJx4a65c_grow_92f84_37, ↓tbJx4a65c_grow_92f84_40, ↓tbJx4a65c_grow_92f84_41, ↓tbJx4a65c_grow_92f84_44, ↓tbJx4a65c_grow_92f84_45, ↓tbJx4a65c_grow_92f84_46, ↓tbJx4a65c_grow_92f84_48, ↓tbJx4a65c_grow_92f84_49, ↓tbJx4a65c_grow_92f84_52, ↓tbJx4a65c_grow_92f84_55, ↓tbJx4a65c_grow_92f84_56, ↓tbJx4a65c_grow_92f84_59, hfu, xstep0, xJ1_hit, xJ1_go, xJ2_hit1, xJ2_hit2, xJ2_go, ↓xif_t, ↓xif_f, seval, ↓xca_eq, ↓xre_l, ↓xre_r, xmask_t, xmask_f, xmask_nil, ↓xst_eq, xX_eq, eI_eq, eMc_eq, eMs_eq, eF_eq, eThr_eq, ↓xS1_mk, ↓xSI_mk, ↓xSR_mk, ↓xLI_0, ↓xLI_s, ↓xLR_0, ↓xLR_s, vRef_ref, vRef_null, vRef_rf, cat_int, cat_ref, cat_null, cat_rf, rf_some, rf_none, rf_null, rf_eq, rf_ref, ref_rf, ref_null, ref_ref, xOk_0, xOk_1, xOk_2r, xOk_2n, xOk_2f, vOpt_rf, vOpt_ref, vOpt_null, List.set_cons_zero, List.set_cons_succ, List.take_succ_cons, List.take_zero, List.drop_succ_cons, List.drop_zero, List.reverse_cons, List.reverse_nil, List.nil_append, List.cons_append, List.append_nil, List.length_cons, List.length_nil, List.map_cons, List.map_nil, List.sum_cons, List.sum_nil, Option.toList_some, Option.toList_none, xRecv_mk, true_and, and_true, true_implies, Nat.reduceAdd, Nat.reduceLeDiff, Nat.zero_le, Nat.le_refl, Nat.add_zero, Nat.zero_add, reduceIte, not_true_eq_false, not_false_eq_true, false_implies, and_self, implies_true, eq_self, Nat.reduceEqDiff, List.cons.injEq, xsn_1, xsn_2, false_and, and_false, or_false, false_or, or_true, true_or, xsn_3, xsn_4, ↓sp_aln_w, sp_aln_c, ↓sp_emp_w, sp_emp_c, ↓spwJ8_newLength_cabcc, spcJ8_newLength_cabcc, ↓spwJ7_copyOf_1904c, spcJ7_copyOf_1904c, ↓sp_max_w, sp_max_c, ↓sp_anw_w, sp_anw_c, h1, h4, c, g2]
    try simp only [xif_e]
    rw [hn] at h8
    have fin : ∀ q, cDead S q → q ≠ wE W9 → KF (rR q) (cSetR (cCpy (cNewR S q (n + n / 2)) e q 0 0 n) a 1 (some q)) := fun q hq hqe => h q _ ⟨hq, hqe, n + n / 2, by omega, by omega, by omega, rfl⟩
    have hK : ∀ q, cDead S q → cK (cCpy (cNewR S q (n + n / 2)) e q 0 0 n) a = 1 := fun q hq => by
      rw [cK_cpy, cK_newR, if_neg]
      · exact h1
      · intro z
        subst z
        exact hq (by omega)
    simp only [e1, e2, e3, e4, false_implies, not_false_eq_true, true_implies, true_and, and_true]
    have e2b : nI (n + 1) - nI n = 1 := by rw [← e4]; exact e2
    have e3b : nI n >>> (1 &&& 31) = nI (n / 2) := by rw [← e4]; exact e3
    have main : ∃ n_1 m, nI n = nI n_1 ∧ nI (n + 1) - nI n = 1 ∧ nI n >>> (1 &&& 31) = nI m ∧ n_1 < 100 ∧ m < 100 ∧ e ≠ wE W9 ∧ ∃ k c9, nI (n_1 + if m = 0 then 1 else m) = nI k ∧ cLen S e ≤ k ∧ k ≤ 45 ∧ (cEl c9 ∧ ∀ (i : Nat), i < cLen S e → ∀ (b : Nat), cRr S e i = some b → cK S b = c9) ∧ ∀ (q : Nat), cDead S q → q ≠ wE W9 → cK (cCpy (cNewR S q k) e q 0 0 (cLen S e)) a = 1 ∧ KF (Sum.inl (some (Value.ref q))) (cSetR (cCpy (cNewR S q k) e q 0 0 (cLen S e)) a 1 (some q)) :=
      ⟨n, n / 2, rfl, e2b, e3b, by omega, by omega, c, n + n / 2, c9, by rw [if_neg ck], by omega, by omega, h8, fun q hq hqe => ⟨by rw [← hn]; exact hK q hq, by rw [← hn]; exact fin q hq hqe⟩⟩
    exact ⟨fun _ => main, fun _ => main⟩
