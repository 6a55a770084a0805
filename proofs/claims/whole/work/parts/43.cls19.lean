/-! The class: load, unload, clean, radio. -/
def gFit (S : cS) (g c : Nat) : Prop := (if cFi S c 301 = 2 then cFi S g 101 = 2 else cFi S g 101 = 1 ∨ (cFi S g 101 = 0 ∧ cFi S c 301 = 0)) ∧ (cFi S g 105 = -1 ∨ cFi S g 105 = cFi S c 301) ∧ (cFr S g 104 = none ∨ cFr S g 104 = some c)
def gOut (S : cS) (g : Nat) (p : Int32) : Prop := (cFi S (cRf S g 102) 500 = -1 ∧ cFi S (cRf S g 102) 501 = p) ∧ rBh S (cRf S g 102) g 0 = 0
def cLoad (S : cS) (g c d p : Nat) (u : Int32) : cS := cSetI (cSetR (cSetI (cSetI (cSetI (cAst S d p (cRi S d p + u)) c 304 (cFi S c 304 - u)) c 307 (cFi S c 307 + u)) g 103 (cFi S g 103 + u)) g 104 (some c)) g 105 (cFi S c 301)
def cUnl (S : cS) (g c : Nat) (o : Int32) : cS := cSetR (cSetI (cSetI (cSetI (cSetI S c 307 (cFi S c 307 - cFi S g 103)) c 308 (cFi S c 308 + cFi S g 103)) c 309 (cFi S c 309 + cPay S c (cFi S g 103) o)) g 103 0) g 104 none

def tbX7_clean : List (Nat × xHint) := [(0, .aload_n 0, 0, 0, 0, []), (1, .iload_n 1, 1, 0, 0, []), (2, .invokevirtual 153, 0, 2, 8, []), (5, .astore_n 2, 2, 0, 0, []), (6, .aload_n 2, 2, 0, 0, []), (7, .getfield 200, 1, 2, 2, []), (10, .invokevirtual 204, 1, 1, 5, []), (13, .ifCond .ne 22, 35, 0, 0, []), (16, .aload_n 2, 2, 0, 0, []), (17, .getfield 165, 1, 3, 0, []), (20, .ifCond .ne 15, 35, 0, 0, []), (23, .aload_n 2, 2, 0, 0, []), (24, .getfield 188, 1, 5, 0, []), (27, .iconst (-1), 0, 0, 0, []), (28, .if_icmp .eq 7, 35, 0, 0, []), (31, .iconst 1, 0, 0, 0, []), (32, .goto 4, 36, 0, 0, []), (35, .iconst 0, 0, 0, 0, []), (36, .invokestatic 77, 2, 1, 0, []), (39, .aload_n 2, 2, 0, 0, []), (40, .getfield 188, 1, 5, 0, []), (43, .istore_n 3, 3, 0, 0, []), (44, .aload_n 2, 2, 0, 0, []), (45, .iconst (-1), 0, 0, 0, []), (46, .putfield 188, 1, 5, 0, []), (49, .aload_n 0, 0, 0, 0, []), (50, .dup, 0, 0, 0, []), (51, .getfield 207, 8, 12, 0, []), (54, .bipush 20, 0, 0, 0, []), (56, .iadd, 0, 0, 0, []), (57, .putfield 207, 8, 12, 0, []), (60, .iload_n 3, 3, 0, 0, []), (61, .ireturn, 0, 0, 0, [])]
def clX7_clean : List (Instr × Nat × Nat × Nat) := [(.invokevirtual 153, 0, 2, 8), (.invokevirtual 204, 1, 1, 5), (.invokestatic 77, 2, 1, 0)]
def thX7_clean : List (Nat × Nat) := []
theorem ckX7_clean : tbX7_clean.all (xRow RX7 cX7_clean wsX7_clean vwCl [1, 8] clX7_clean thX7_clean 4 (yX7_clean.name == "<init>") (some .int)) = true := xRow_q 0xac1dcf00b5601410cf00b4592abc00b5022c3ebc00b42c4d00b8030400a70407009f02bc00b42c0f009aa500b42c16009acc00b6c800b42c4d9900b61b2a 62 (by decide +kernel) (by decide +kernel)
theorem usX7_clean : xUse wsX7_clean vwCl [1, 8] = true := xUse_g rfl (lw_good lwl_X7_clean lwl_X00 (by decide +kernel)) (xUse_g rfl (lw_good lwl_X7_clean lwl_X70 (by decide +kernel)) xUse_n)
theorem tbX7_clean_0 {k : Instr → Nat → Nat → Nat → List Nat → Prop} : xse (xFind tbX7_clean 0) k = k (.aload_n 0) 0 0 0 [] := rfl
theorem tbX7_clean_1 {k : Instr → Nat → Nat → Nat → List Nat → Prop} : xse (xFind tbX7_clean 1) k = k (.iload_n 1) 1 0 0 [] := rfl
theorem tbX7_clean_2 {k : Instr → Nat → Nat → Nat → List Nat → Prop} : xse (xFind tbX7_clean 2) k = k (.invokevirtual 153) 0 2 8 [] := rfl
theorem tbX7_clean_5 {k : Instr → Nat → Nat → Nat → List Nat → Prop} : xse (xFind tbX7_clean 5) k = k (.astore_n 2) 2 0 0 [] := rfl
theorem tbX7_clean_6 {k : Instr → Nat → Nat → Nat → List Nat → Prop} : xse (xFind tbX7_clean 6) k = k (.aload_n 2) 2 0 0 [] := rfl
theorem tbX7_clean_7 {k : Instr → Nat → Nat → Nat → List Nat → Prop} : xse (xFind tbX7_clean 7) k = k (.getfield 200) 1 2 2 [] := rfl
theorem tbX7_clean_10 {k : Instr → Nat → Nat → Nat → List Nat → Prop} : xse (xFind tbX7_clean 10) k = k (.invokevirtual 204) 1 1 5 [] := rfl
theorem tbX7_clean_13 {k : Instr → Nat → Nat → Nat → List Nat → Prop} : xse (xFind tbX7_clean 13) k = k (.ifCond .ne 22) 35 0 0 [] := rfl
theorem tbX7_clean_16 {k : Instr → Nat → Nat → Nat → List Nat → Prop} : xse (xFind tbX7_clean 16) k = k (.aload_n 2) 2 0 0 [] := rfl
theorem tbX7_clean_17 {k : Instr → Nat → Nat → Nat → List Nat → Prop} : xse (xFind tbX7_clean 17) k = k (.getfield 165) 1 3 0 [] := rfl
theorem tbX7_clean_20 {k : Instr → Nat → Nat → Nat → List Nat → Prop} : xse (xFind tbX7_clean 20) k = k (.ifCond .ne 15) 35 0 0 [] := rfl
theorem tbX7_clean_23 {k : Instr → Nat → Nat → Nat → List Nat → Prop} : xse (xFind tbX7_clean 23) k = k (.aload_n 2) 2 0 0 [] := rfl
theorem tbX7_clean_24 {k : Instr → Nat → Nat → Nat → List Nat → Prop} : xse (xFind tbX7_clean 24) k = k (.getfield 188) 1 5 0 [] := rfl
theorem tbX7_clean_27 {k : Instr → Nat → Nat → Nat → List Nat → Prop} : xse (xFind tbX7_clean 27) k = k (.iconst (-1)) 0 0 0 [] := rfl
theorem tbX7_clean_28 {k : Instr → Nat → Nat → Nat → List Nat → Prop} : xse (xFind tbX7_clean 28) k = k (.if_icmp .eq 7) 35 0 0 [] := rfl
theorem tbX7_clean_31 {k : Instr → Nat → Nat → Nat → List Nat → Prop} : xse (xFind tbX7_clean 31) k = k (.iconst 1) 0 0 0 [] := rfl
theorem tbX7_clean_32 {k : Instr → Nat → Nat → Nat → List Nat → Prop} : xse (xFind tbX7_clean 32) k = k (.goto 4) 36 0 0 [] := rfl
theorem tbX7_clean_35 {k : Instr → Nat → Nat → Nat → List Nat → Prop} : xse (xFind tbX7_clean 35) k = k (.iconst 0) 0 0 0 [] := rfl
theorem tbX7_clean_36 {k : Instr → Nat → Nat → Nat → List Nat → Prop} : xse (xFind tbX7_clean 36) k = k (.invokestatic 77) 2 1 0 [] := rfl
theorem tbX7_clean_39 {k : Instr → Nat → Nat → Nat → List Nat → Prop} : xse (xFind tbX7_clean 39) k = k (.aload_n 2) 2 0 0 [] := rfl
theorem tbX7_clean_40 {k : Instr → Nat → Nat → Nat → List Nat → Prop} : xse (xFind tbX7_clean 40) k = k (.getfield 188) 1 5 0 [] := rfl
theorem tbX7_clean_43 {k : Instr → Nat → Nat → Nat → List Nat → Prop} : xse (xFind tbX7_clean 43) k = k (.istore_n 3) 3 0 0 [] := rfl
theorem tbX7_clean_44 {k : Instr → Nat → Nat → Nat → List Nat → Prop} : xse (xFind tbX7_clean 44) k = k (.aload_n 2) 2 0 0 [] := rfl
theorem tbX7_clean_45 {k : Instr → Nat → Nat → Nat → List Nat → Prop} : xse (xFind tbX7_clean 45) k = k (.iconst (-1)) 0 0 0 [] := rfl
theorem tbX7_clean_46 {k : Instr → Nat → Nat → Nat → List Nat → Prop} : xse (xFind tbX7_clean 46) k = k (.putfield 188) 1 5 0 [] := rfl
theorem tbX7_clean_49 {k : Instr → Nat → Nat → Nat → List Nat → Prop} : xse (xFind tbX7_clean 49) k = k (.aload_n 0) 0 0 0 [] := rfl
theorem tbX7_clean_50 {k : Instr → Nat → Nat → Nat → List Nat → Prop} : xse (xFind tbX7_clean 50) k = k (.dup) 0 0 0 [] := rfl
theorem tbX7_clean_51 {k : Instr → Nat → Nat → Nat → List Nat → Prop} : xse (xFind tbX7_clean 51) k = k (.getfield 207) 8 12 0 [] := rfl
theorem tbX7_clean_54 {k : Instr → Nat → Nat → Nat → List Nat → Prop} : xse (xFind tbX7_clean 54) k = k (.bipush 20) 0 0 0 [] := rfl
theorem tbX7_clean_56 {k : Instr → Nat → Nat → Nat → List Nat → Prop} : xse (xFind tbX7_clean 56) k = k (.iadd) 0 0 0 [] := rfl
theorem tbX7_clean_57 {k : Instr → Nat → Nat → Nat → List Nat → Prop} : xse (xFind tbX7_clean 57) k = k (.putfield 207) 8 12 0 [] := rfl
theorem tbX7_clean_60 {k : Instr → Nat → Nat → Nat → List Nat → Prop} : xse (xFind tbX7_clean 60) k = k (.iload_n 3) 3 0 0 [] := rfl
theorem tbX7_clean_61 {k : Instr → Nat → Nat → Nat → List Nat → Prop} : xse (xFind tbX7_clean 61) k = k (.ireturn) 0 0 0 [] := rfl

def spX7_clean (W9 : xWd) : xSp cS := (fun av S => (2, 12), fun av S K => ∃ (a : Nat) (b : Int32), av = [.ref a, .int b] ∧ (cK S a = 9 ∧ (cIn S a 802 1 ∧ lAll S (cRf S a 802) 2) ∧ (∀ j, j < lCn S (cRf S a 802) → cIn S (lG S (cRf S a 802) j) 102 6) ∧ (¬ (0 ≤ b ∧ b < cFi S (cRf S a 802) 2) → K (rX "java/lang/IndexOutOfBoundsException") S) ∧ (0 ≤ b ∧ b < cFi S (cRf S a 802) 2 → (¬ (cFi S (cRf S (lG S (cRf S a 802) b.toNatClampNeg) 102) 500 = -1 ∧ cFi S (lG S (cRf S a 802) b.toNatClampNeg) 103 = 0 ∧ ¬ cFi S (lG S (cRf S a 802) b.toNatClampNeg) 105 = -1) → K (rX "java/lang/IllegalStateException") S) ∧ ((cFi S (cRf S (lG S (cRf S a 802) b.toNatClampNeg) 102) 500 = -1 ∧ cFi S (lG S (cRf S a 802) b.toNatClampNeg) 103 = 0 ∧ ¬ cFi S (lG S (cRf S a 802) b.toNatClampNeg) 105 = -1) → K (rI (cFi S (lG S (cRf S a 802) b.toNatClampNeg) 105)) (cSetI (cSetI S (lG S (cRf S a 802) b.toNatClampNeg) 105 (-1)) a 812 (cFi S a 812 + 20))))))
theorem spcX7_clean {av : List Value} {S : cS} {W9 : xWd} : (spX7_clean W9).1 av S = (2, 12) := rfl
theorem spwX7_clean {S : cS} {W9 : xWd} {K : xRes → cS → Prop} {a : Nat} {b : Int32} : (spX7_clean W9).2 [.ref a, .int b] S K = (cK S a = 9 ∧ (cIn S a 802 1 ∧ lAll S (cRf S a 802) 2) ∧ (∀ j, j < lCn S (cRf S a 802) → cIn S (lG S (cRf S a 802) j) 102 6) ∧ (¬ (0 ≤ b ∧ b < cFi S (cRf S a 802) 2) → K (rX "java/lang/IndexOutOfBoundsException") S) ∧ (0 ≤ b ∧ b < cFi S (cRf S a 802) 2 → (¬ (cFi S (cRf S (lG S (cRf S a 802) b.toNatClampNeg) 102) 500 = -1 ∧ cFi S (lG S (cRf S a 802) b.toNatClampNeg) 103 = 0 ∧ ¬ cFi S (lG S (cRf S a 802) b.toNatClampNeg) 105 = -1) → K (rX "java/lang/IllegalStateException") S) ∧ ((cFi S (cRf S (lG S (cRf S a 802) b.toNatClampNeg) 102) 500 = -1 ∧ cFi S (lG S (cRf S a 802) b.toNatClampNeg) 103 = 0 ∧ ¬ cFi S (lG S (cRf S a 802) b.toNatClampNeg) 105 = -1) → K (rI (cFi S (lG S (cRf S a 802) b.toNatClampNeg) 105)) (cSetI (cSetI S (lG S (cRf S a 802) b.toNatClampNeg) 105 (-1)) a 812 (cFi S a 812 + 20))))) :=
  propext ⟨fun h => by
    simp only [spX7_clean] at h
    obtain ⟨_, _, e, h⟩ := h
    simp only [List.cons.injEq, Value.int.injEq, Value.ref.injEq, rf_eq, and_true, true_and] at e
    obtain ⟨rfl, rfl⟩ := e
    exact h, fun h => ⟨_, _, rfl, h⟩⟩

def callX7_clean (W9 : xWd) : Nat → Option (xSp cS) := fun n => match n with | 0 => some (spX7_needBarge W9) | 1 => some (spX4_isTow W9) | 2 => some (spX7_needState W9) | _ => none

theorem callX7_clean_0 {W9 : xWd} {k : xSp cS → Prop} : xcs (callX7_clean W9 0) k = k (spX7_needBarge W9) := rfl

theorem callX7_clean_1 {W9 : xWd} {k : xSp cS → Prop} : xcs (callX7_clean W9 1) k = k (spX4_isTow W9) := rfl

theorem callX7_clean_2 {W9 : xWd} {k : xSp cS → Prop} : xcs (callX7_clean W9 2) k = k (spX7_needState W9) := rfl

theorem crX7_clean (l : Launch) (hl : l.stackTraces = false) (W9 : xWd) : xCallsOK l W9 (cI) (callX7_clean W9) clX7_clean RX7 wsX7_clean 7 111 4 := by
  intro E A p e R s m args below meth c hI hF hL X
  exact List.forall_mem_cons.mpr ⟨⟨_, rfl, xCR_V X (by rw [hI]; exact (semX7_needBarge l hl W9)) gX7_clean_X7_needBarge rfl rfl (by decide +kernel) (by rw [hF, hL]; decide)⟩,
    List.forall_mem_cons.mpr ⟨⟨_, rfl, xCR_V X (by rw [hI]; exact (semX4_isTow l hl W9)) gX7_clean_X4_isTow rfl rfl (by decide +kernel) (by rw [hF, hL]; decide)⟩,
    List.forall_mem_cons.mpr ⟨⟨_, rfl, xCR_S X (by rw [hI]; exact (semX7_needState l hl W9)) gX7_clean_X7_needState rfl (by decide +kernel) (by rw [hF, hL]; decide)⟩,
    fun _ h => nomatch h⟩⟩⟩

set_option maxHeartbeats 1000000 in
set_option maxRecDepth 20000 in
theorem semX7_clean (l : Launch) (hl : l.stackTraces = false) (W9 : xWd) : xSem l W9 (cI) yX7_clean wsX7_clean 7 111 (spX7_clean W9) := by
  refine xSem_of (call := callX7_clean W9) (thrf := fun _ => "") cI_law (by decide +kernel) rfl ckX7_clean usX7_clean (crX7_clean l hl W9) xThrOK_nil ?_ ?_
  · intro av S KF h
    obtain ⟨a, b, rfl, h⟩ := h
    exact ⟨by intro v hv; simp only [List.mem_cons, List.not_mem_nil, or_false] at hv; rcases hv with rfl | rfl <;> first | rfl | exact cat_rf, Nat.le_of_ble_eq_true rfl⟩
  intro av S KF h G hG
  obtain ⟨a, b, rfl, h⟩ := h
  rw [show (spX7_clean W9).1 _ S = _ from spcX7_clean] at hG
  try dsimp only at hG
  change G 0 [some (.ref a), some (.int b), none, none] [] S 0 0
  obtain ⟨h0, ⟨h1, h2⟩, h3, hbad, hok⟩ := h

  by_cases q : 0 ≤ b ∧ b < cFi S (cRf S a 802) 2
  · have hz := hok q
    obtain ⟨g1, g2⟩ := lAll_at h2 q.1 q.2
    have gj := (lOk_in h2.1 q.1 q.2).2.2
    obtain ⟨b1, b2⟩ := h3 _ gj
    have hne2 : (a = lG S (cRf S a 802) b.toNatClampNeg) = False := eq_false (fun z => by rw [← z] at g2; omega)
    generalize hb0 : (lG S (cRf S a 802) b.toNatClampNeg) = g at *
    refine xgo0 hG (fun fu hfu => ?_)
    simp only [↓callX7_clean_0, ↓callX7_clean_1, ↓callX7_clean_2, ↓cg_1_2, ↓cg_1_3, ↓cg_1_5, ↓cg_8_12, cisa, ↓cp_1_5, ↓cp_8_12, kb_20, kc_20, ki_0, ki_1, ki_m1, ↓vm_aload_n, ↓vm_astore_n, ↓vm_bipush, ↓vm_dup, ↓vm_getfield, ↓vm_goto, ↓vm_iadd, ↓vm_iconst, ↓vm_ifCond_ne, ↓vm_if_icmp_eq, ↓vm_iload_n, ↓vm_invokestatic, ↓vm_invokevirtual, ↓vm_ireturn, ↓vm_istore_n, ↓vm_putfield, ↓xc_1, ↓xc_2, ↓tbX7_clean_0, ↓tbX7_clean_1, ↓tbX7_clean_2, ↓tbX7_clean_5, ↓tbX7_clean_6, ↓tbX7_clean_7, ↓tbX7_clean_10, ↓tbX7_clean_13, ↓tbX7_clean_16, ↓tbX7_clean_17, ↓tbX7_clean_20, ↓tbX7_clean_23, ↓tbX7_clean_24, ↓tbX7_clean_27, ↓tbX7_clean_28, ↓tbX7_clean_31, ↓tbX7_clean_32, ↓tbX7_clean_35, ↓tbX7_clean_36, ↓tbX7_clean_39, ↓tbX7_clean_40, ↓tbX7_clean_43, ↓tbX7_clean_44, ↓tbX7_clean_45, ↓tbX7_clean_46, ↓tbX7_clean_49, ↓tbX7_clean_50, ↓tbX7_clean_51, ↓tbX7_clean_54, ↓tbX7_clean_56, ↓tbX7_clean_57, ↓tbX7_clean_60, ↓tbX7_clean_61, hfu, xstep0, xJ1_hit, xJ1_go, xJ2_hit1, xJ2_hit2, xJ2_go, ↓xif_t, ↓xif_f, seval, ↓xca_eq, ↓xre_l, ↓xre_r, xmask_t, xmask_f, xmask_nil, ↓xst_eq, xX_eq, eI_eq, eMc_eq, eMs_eq, eF_eq, eThr_eq, ↓xS1_mk, ↓xSI_mk, ↓xSR_mk, ↓xLI_0, ↓xLI_s, ↓xLR_0, ↓xLR_s, vRef_ref, vRef_null, vRef_rf, cat_int, cat_ref, cat_null, cat_rf, rf_some, rf_none, rf_null, rf_eq, rf_ref, ref_rf, ref_null, ref_ref, xOk_0, xOk_1, xOk_2r, xOk_2n, xOk_2f, vOpt_rf, vOpt_ref, vOpt_null, List.set_cons_zero, List.set_cons_succ, List.take_succ_cons, List.take_zero, List.drop_succ_cons, List.drop_zero, List.reverse_cons, List.reverse_nil, List.nil_append, List.cons_append, List.append_nil, List.length_cons, List.length_nil, List.map_cons, List.map_nil, List.sum_cons, List.sum_nil, Option.toList_some, Option.toList_none, xRecv_mk, true_and, and_true, true_implies, Nat.reduceAdd, Nat.reduceLeDiff, Nat.zero_le, Nat.le_refl, Nat.add_zero, Nat.zero_add, reduceIte, not_true_eq_false, not_false_eq_true, false_implies, and_self, implies_true, eq_self, Nat.reduceEqDiff, List.cons.injEq, xsn_1, xsn_2, false_and, and_false, or_false, false_or, or_true, true_or, xsn_3, xsn_4, cK_setI, cFi_setI, cFr_setI, cLen_setI, cRi_setI, ↓spwX7_needBarge, spcX7_needBarge, ↓spwX4_isTow, spcX4_isTow, ↓spwX7_needState, spcX7_needState, h0, h1, h2, q, hb0, g2, b1, b2, hne2, bi_0]
    try simp only [xif_e]
    repeat' (first | with_reducible apply And.intro | with_reducible intro _)
    all_goals grind (splits := 30) [bi]
  · have h := hbad q
    refine xgo hG (mb := []) (head := 6) (P := fun _ _ _ _ _ => False) (fun _ _ _ _ _ q => q.elim) (pc := 0) (fun fu hfu => ?_)
    simp only [↓callX7_clean_0, ↓callX7_clean_1, ↓callX7_clean_2, ↓cg_1_2, ↓cg_1_3, ↓cg_1_5, ↓cg_8_12, cisa, ↓cp_1_5, ↓cp_8_12, kb_20, kc_20, ki_0, ki_1, ki_m1, ↓vm_aload_n, ↓vm_astore_n, ↓vm_bipush, ↓vm_dup, ↓vm_getfield, ↓vm_goto, ↓vm_iadd, ↓vm_iconst, ↓vm_ifCond_ne, ↓vm_if_icmp_eq, ↓vm_iload_n, ↓vm_invokestatic, ↓vm_invokevirtual, ↓vm_ireturn, ↓vm_istore_n, ↓vm_putfield, ↓xc_1, ↓xc_2, ↓tbX7_clean_0, ↓tbX7_clean_1, ↓tbX7_clean_2, ↓tbX7_clean_5, ↓tbX7_clean_6, ↓tbX7_clean_7, ↓tbX7_clean_10, ↓tbX7_clean_13, ↓tbX7_clean_16, ↓tbX7_clean_17, ↓tbX7_clean_20, ↓tbX7_clean_23, ↓tbX7_clean_24, ↓tbX7_clean_27, ↓tbX7_clean_28, ↓tbX7_clean_31, ↓tbX7_clean_32, ↓tbX7_clean_35, ↓tbX7_clean_36, ↓tbX7_clean_39, ↓tbX7_clean_40, ↓tbX7_clean_43, ↓tbX7_clean_44, ↓tbX7_clean_45, ↓tbX7_clean_46, ↓tbX7_clean_49, ↓tbX7_clean_50, ↓tbX7_clean_51, ↓tbX7_clean_54, ↓tbX7_clean_56, ↓tbX7_clean_57, ↓tbX7_clean_60, ↓tbX7_clean_61, hfu, xstep0, xJ1_hit, xJ1_go, xJ2_hit1, xJ2_hit2, xJ2_go, ↓xif_t, ↓xif_f, seval, ↓xca_eq, ↓xre_l, ↓xre_r, xmask_t, xmask_f, xmask_nil, ↓xst_eq, xX_eq, eI_eq, eMc_eq, eMs_eq, eF_eq, eThr_eq, ↓xS1_mk, ↓xSI_mk, ↓xSR_mk, ↓xLI_0, ↓xLI_s, ↓xLR_0, ↓xLR_s, vRef_ref, vRef_null, vRef_rf, cat_int, cat_ref, cat_null, cat_rf, rf_some, rf_none, rf_null, rf_eq, rf_ref, ref_rf, ref_null, ref_ref, xOk_0, xOk_1, xOk_2r, xOk_2n, xOk_2f, vOpt_rf, vOpt_ref, vOpt_null, List.set_cons_zero, List.set_cons_succ, List.take_succ_cons, List.take_zero, List.drop_succ_cons, List.drop_zero, List.reverse_cons, List.reverse_nil, List.nil_append, List.cons_append, List.append_nil, List.length_cons, List.length_nil, List.map_cons, List.map_nil, List.sum_cons, List.sum_nil, Option.toList_some, Option.toList_none, xRecv_mk, true_and, and_true, true_implies, Nat.reduceAdd, Nat.reduceLeDiff, Nat.zero_le, Nat.le_refl, Nat.add_zero, Nat.zero_add, reduceIte, not_true_eq_false, not_false_eq_true, false_implies, and_self, implies_true, eq_self, Nat.reduceEqDiff, List.cons.injEq, xsn_1, xsn_2, false_and, and_false, or_false, false_or, or_true, true_or, xsn_3, xsn_4, cK_setI, cFi_setI, cFr_setI, cLen_setI, cRi_setI, ↓spwX7_needBarge, spcX7_needBarge, ↓spwX4_isTow, spcX4_isTow, ↓spwX7_needState, spcX7_needState, h0, h1, h2, q]
    try simp only [xif_e]
    first | exact h | grind

def tbX7_unload : List (Nat × xHint) := [(0, .aload_n 0, 0, 0, 0, []), (1, .iload_n 1, 1, 0, 0, []), (2, .invokevirtual 153, 0, 2, 8, []), (5, .astore_n 2, 2, 0, 0, []), (6, .aload_n 2, 2, 0, 0, []), (7, .getfield 181, 1, 4, 2, []), (10, .astore_n 3, 3, 0, 0, []), (11, .aload_n 3, 3, 0, 0, []), (12, .ifnull 14, 26, 0, 0, []), (15, .aload_n 2, 2, 0, 0, []), (16, .aload_n 3, 3, 0, 0, []), (17, .getfield 147, 3, 3, 0, []), (20, .invokevirtual 157, 1, 2, 1, []), (23, .ifCond .ne 13, 36, 0, 0, []), (26, .new 171, 1, 0, 0, []), (36, .aload_n 3, 3, 0, 0, []), (37, .aload_n 2, 2, 0, 0, []), (38, .getfield 165, 1, 3, 0, []), (41, .aload_n 0, 0, 0, 0, []), (42, .getfield 193, 8, 7, 0, []), (45, .invokevirtual 196, 2, 3, 3, []), (48, .istore 4, 4, 0, 0, []), (50, .aload_n 2, 2, 0, 0, []), (51, .iconst 0, 0, 0, 0, []), (52, .putfield 165, 1, 3, 0, []), (55, .aload_n 2, 2, 0, 0, []), (56, .aconst_null, 0, 0, 0, []), (57, .putfield 181, 1, 4, 2, []), (60, .iload 4, 4, 0, 0, []), (62, .ireturn, 0, 0, 0, [])]
def clX7_unload : List (Instr × Nat × Nat × Nat) := [(.invokevirtual 153, 0, 2, 8), (.invokevirtual 157, 1, 2, 1), (.invokevirtual 196, 2, 3, 3)]
def thX7_unload : List (Nat × Nat) := [(26, 0)]
theorem ckX7_unload : tbX7_unload.all (xRow RX7 cX7_unload wsX7_unload vwCl [1, 3, 8] clX7_unload thX7_unload 5 (yX7_unload.name == "<init>") (some .int)) = true := xRow_q 0xac0415b500b5012ca500b5032c0436c400b6c100b42aa500b42c2dbfaf00b7bf1259ab00bb0d009a9d00b69300b42d2c0e00c62d4eb500b42c4d9900b61b2a 63 (by decide +kernel) (by decide +kernel)
theorem usX7_unload : xUse wsX7_unload vwCl [1, 3, 8] = true := xUse_g rfl (lw_good lwl_X7_unload lwl_X00 (by decide +kernel)) (xUse_g rfl (lw_good lwl_X7_unload lwl_X20 (by decide +kernel)) (xUse_g rfl (lw_good lwl_X7_unload lwl_X70 (by decide +kernel)) xUse_n))
theorem tbX7_unload_0 {k : Instr → Nat → Nat → Nat → List Nat → Prop} : xse (xFind tbX7_unload 0) k = k (.aload_n 0) 0 0 0 [] := rfl
theorem tbX7_unload_1 {k : Instr → Nat → Nat → Nat → List Nat → Prop} : xse (xFind tbX7_unload 1) k = k (.iload_n 1) 1 0 0 [] := rfl
theorem tbX7_unload_2 {k : Instr → Nat → Nat → Nat → List Nat → Prop} : xse (xFind tbX7_unload 2) k = k (.invokevirtual 153) 0 2 8 [] := rfl
theorem tbX7_unload_5 {k : Instr → Nat → Nat → Nat → List Nat → Prop} : xse (xFind tbX7_unload 5) k = k (.astore_n 2) 2 0 0 [] := rfl
theorem tbX7_unload_6 {k : Instr → Nat → Nat → Nat → List Nat → Prop} : xse (xFind tbX7_unload 6) k = k (.aload_n 2) 2 0 0 [] := rfl
theorem tbX7_unload_7 {k : Instr → Nat → Nat → Nat → List Nat → Prop} : xse (xFind tbX7_unload 7) k = k (.getfield 181) 1 4 2 [] := rfl
theorem tbX7_unload_10 {k : Instr → Nat → Nat → Nat → List Nat → Prop} : xse (xFind tbX7_unload 10) k = k (.astore_n 3) 3 0 0 [] := rfl
theorem tbX7_unload_11 {k : Instr → Nat → Nat → Nat → List Nat → Prop} : xse (xFind tbX7_unload 11) k = k (.aload_n 3) 3 0 0 [] := rfl
theorem tbX7_unload_12 {k : Instr → Nat → Nat → Nat → List Nat → Prop} : xse (xFind tbX7_unload 12) k = k (.ifnull 14) 26 0 0 [] := rfl
theorem tbX7_unload_15 {k : Instr → Nat → Nat → Nat → List Nat → Prop} : xse (xFind tbX7_unload 15) k = k (.aload_n 2) 2 0 0 [] := rfl
theorem tbX7_unload_16 {k : Instr → Nat → Nat → Nat → List Nat → Prop} : xse (xFind tbX7_unload 16) k = k (.aload_n 3) 3 0 0 [] := rfl
theorem tbX7_unload_17 {k : Instr → Nat → Nat → Nat → List Nat → Prop} : xse (xFind tbX7_unload 17) k = k (.getfield 147) 3 3 0 [] := rfl
theorem tbX7_unload_20 {k : Instr → Nat → Nat → Nat → List Nat → Prop} : xse (xFind tbX7_unload 20) k = k (.invokevirtual 157) 1 2 1 [] := rfl
theorem tbX7_unload_23 {k : Instr → Nat → Nat → Nat → List Nat → Prop} : xse (xFind tbX7_unload 23) k = k (.ifCond .ne 13) 36 0 0 [] := rfl
theorem tbX7_unload_26 {k : Instr → Nat → Nat → Nat → List Nat → Prop} : xse (xFind tbX7_unload 26) k = k (.new 171) 1 0 0 [] := rfl
theorem tbX7_unload_36 {k : Instr → Nat → Nat → Nat → List Nat → Prop} : xse (xFind tbX7_unload 36) k = k (.aload_n 3) 3 0 0 [] := rfl
theorem tbX7_unload_37 {k : Instr → Nat → Nat → Nat → List Nat → Prop} : xse (xFind tbX7_unload 37) k = k (.aload_n 2) 2 0 0 [] := rfl
theorem tbX7_unload_38 {k : Instr → Nat → Nat → Nat → List Nat → Prop} : xse (xFind tbX7_unload 38) k = k (.getfield 165) 1 3 0 [] := rfl
theorem tbX7_unload_41 {k : Instr → Nat → Nat → Nat → List Nat → Prop} : xse (xFind tbX7_unload 41) k = k (.aload_n 0) 0 0 0 [] := rfl
theorem tbX7_unload_42 {k : Instr → Nat → Nat → Nat → List Nat → Prop} : xse (xFind tbX7_unload 42) k = k (.getfield 193) 8 7 0 [] := rfl
theorem tbX7_unload_45 {k : Instr → Nat → Nat → Nat → List Nat → Prop} : xse (xFind tbX7_unload 45) k = k (.invokevirtual 196) 2 3 3 [] := rfl
theorem tbX7_unload_48 {k : Instr → Nat → Nat → Nat → List Nat → Prop} : xse (xFind tbX7_unload 48) k = k (.istore 4) 4 0 0 [] := rfl
theorem tbX7_unload_50 {k : Instr → Nat → Nat → Nat → List Nat → Prop} : xse (xFind tbX7_unload 50) k = k (.aload_n 2) 2 0 0 [] := rfl
theorem tbX7_unload_51 {k : Instr → Nat → Nat → Nat → List Nat → Prop} : xse (xFind tbX7_unload 51) k = k (.iconst 0) 0 0 0 [] := rfl
theorem tbX7_unload_52 {k : Instr → Nat → Nat → Nat → List Nat → Prop} : xse (xFind tbX7_unload 52) k = k (.putfield 165) 1 3 0 [] := rfl
theorem tbX7_unload_55 {k : Instr → Nat → Nat → Nat → List Nat → Prop} : xse (xFind tbX7_unload 55) k = k (.aload_n 2) 2 0 0 [] := rfl
theorem tbX7_unload_56 {k : Instr → Nat → Nat → Nat → List Nat → Prop} : xse (xFind tbX7_unload 56) k = k (.aconst_null) 0 0 0 [] := rfl
theorem tbX7_unload_57 {k : Instr → Nat → Nat → Nat → List Nat → Prop} : xse (xFind tbX7_unload 57) k = k (.putfield 181) 1 4 2 [] := rfl
theorem tbX7_unload_60 {k : Instr → Nat → Nat → Nat → List Nat → Prop} : xse (xFind tbX7_unload 60) k = k (.iload 4) 4 0 0 [] := rfl
theorem tbX7_unload_62 {k : Instr → Nat → Nat → Nat → List Nat → Prop} : xse (xFind tbX7_unload 62) k = k (.ireturn) 0 0 0 [] := rfl

def spX7_unload (W9 : xWd) : xSp cS := (fun av S => (2, 12), fun av S K => ∃ (a : Nat) (b : Int32), av = [.ref a, .int b] ∧ (cK S a = 9 ∧ (cIn S a 802 1 ∧ lAll S (cRf S a 802) 2) ∧ (∀ j, j < lCn S (cRf S a 802) → gOk S (lG S (cRf S a 802) j)) ∧ (¬ (0 ≤ b ∧ b < cFi S (cRf S a 802) 2) → K (rX "java/lang/IndexOutOfBoundsException") S) ∧ (0 ≤ b ∧ b < cFi S (cRf S a 802) 2 → (cFr S (lG S (cRf S a 802) b.toNatClampNeg) 104 = none → K (rX "java/lang/IllegalStateException") S) ∧ (∀ c, cFr S (lG S (cRf S a 802) b.toNatClampNeg) 104 = some c → (¬ (gOut S (lG S (cRf S a 802) b.toNatClampNeg) (cFi S c 303)) → K (rX "java/lang/IllegalStateException") S) ∧ ((gOut S (lG S (cRf S a 802) b.toNatClampNeg) (cFi S c 303)) → K (rI (cPay S c (cFi S (lG S (cRf S a 802) b.toNatClampNeg) 103) (cFi S a 807))) (cUnl S (lG S (cRf S a 802) b.toNatClampNeg) c (cFi S a 807)))))))
theorem spcX7_unload {av : List Value} {S : cS} {W9 : xWd} : (spX7_unload W9).1 av S = (2, 12) := rfl
theorem spwX7_unload {S : cS} {W9 : xWd} {K : xRes → cS → Prop} {a : Nat} {b : Int32} : (spX7_unload W9).2 [.ref a, .int b] S K = (cK S a = 9 ∧ (cIn S a 802 1 ∧ lAll S (cRf S a 802) 2) ∧ (∀ j, j < lCn S (cRf S a 802) → gOk S (lG S (cRf S a 802) j)) ∧ (¬ (0 ≤ b ∧ b < cFi S (cRf S a 802) 2) → K (rX "java/lang/IndexOutOfBoundsException") S) ∧ (0 ≤ b ∧ b < cFi S (cRf S a 802) 2 → (cFr S (lG S (cRf S a 802) b.toNatClampNeg) 104 = none → K (rX "java/lang/IllegalStateException") S) ∧ (∀ c, cFr S (lG S (cRf S a 802) b.toNatClampNeg) 104 = some c → (¬ (gOut S (lG S (cRf S a 802) b.toNatClampNeg) (cFi S c 303)) → K (rX "java/lang/IllegalStateException") S) ∧ ((gOut S (lG S (cRf S a 802) b.toNatClampNeg) (cFi S c 303)) → K (rI (cPay S c (cFi S (lG S (cRf S a 802) b.toNatClampNeg) 103) (cFi S a 807))) (cUnl S (lG S (cRf S a 802) b.toNatClampNeg) c (cFi S a 807)))))) :=
  propext ⟨fun h => by
    simp only [spX7_unload] at h
    obtain ⟨_, _, e, h⟩ := h
    simp only [List.cons.injEq, Value.int.injEq, Value.ref.injEq, rf_eq, and_true, true_and] at e
    obtain ⟨rfl, rfl⟩ := e
    exact h, fun h => ⟨_, _, rfl, h⟩⟩

def callX7_unload (W9 : xWd) : Nat → Option (xSp cS) := fun n => match n with | 0 => some (spX7_needBarge W9) | 1 => some (spX0_isOutermostAt W9) | 2 => some (spX2_deliver W9) | _ => none

theorem callX7_unload_0 {W9 : xWd} {k : xSp cS → Prop} : xcs (callX7_unload W9 0) k = k (spX7_needBarge W9) := rfl

theorem callX7_unload_1 {W9 : xWd} {k : xSp cS → Prop} : xcs (callX7_unload W9 1) k = k (spX0_isOutermostAt W9) := rfl

theorem callX7_unload_2 {W9 : xWd} {k : xSp cS → Prop} : xcs (callX7_unload W9 2) k = k (spX2_deliver W9) := rfl

theorem crX7_unload (l : Launch) (hl : l.stackTraces = false) (W9 : xWd) : xCallsOK l W9 (cI) (callX7_unload W9) clX7_unload RX7 wsX7_unload 7 152 5 := by
  intro E A p e R s m args below meth c hI hF hL X
  exact List.forall_mem_cons.mpr ⟨⟨_, rfl, xCR_V X (by rw [hI]; exact (semX7_needBarge l hl W9)) gX7_unload_X7_needBarge rfl rfl (by decide +kernel) (by rw [hF, hL]; decide)⟩,
    List.forall_mem_cons.mpr ⟨⟨_, rfl, xCR_V X (by rw [hI]; exact (semX0_isOutermostAt l hl W9)) gX7_unload_X0_isOutermostAt rfl rfl (by decide +kernel) (by rw [hF, hL]; decide)⟩,
    List.forall_mem_cons.mpr ⟨⟨_, rfl, xCR_V X (by rw [hI]; exact (semX2_deliver l hl W9)) gX7_unload_X2_deliver rfl rfl (by decide +kernel) (by rw [hF, hL]; decide)⟩,
    fun _ h => nomatch h⟩⟩⟩

def thfX7_unload : Nat → String := fun n => match n with | 0 => "java/lang/IllegalStateException" | _ => ""

theorem thfX7_unload_0 : thfX7_unload 0 = "java/lang/IllegalStateException" := rfl

theorem trX7_unload (l : Launch) (hl : l.stackTraces = false) (W9 : xWd) : xThrOK l W9 thfX7_unload thX7_unload RX7 cX7_unload wsX7_unload 7 152 5 := by
  intro A p e R s m args below meth c hF hL hb hx hml hown hts hAmb hlocks hext
  exact List.forall_mem_cons.mpr ⟨xTR_S (text := "it has no cargo to unload here") hl hx hb hml hown hts hAmb hlocks hext (by decide +kernel) (ik := 171) (is := 191) (ic := 175) (by decide +kernel) (by decide +kernel) (by decide +kernel) (atin_of (by decide +kernel)) xng_ise xgood_ise (by decide +kernel) (by decide +kernel) (by decide +kernel) (by decide +kernel) (by decide +kernel) (by rw [hF, hL]; decide),
    fun _ h => nomatch h⟩

set_option maxHeartbeats 1000000 in
set_option maxRecDepth 20000 in
theorem semX7_unload (l : Launch) (hl : l.stackTraces = false) (W9 : xWd) : xSem l W9 (cI) yX7_unload wsX7_unload 7 152 (spX7_unload W9) := by
  refine xSem_of (call := callX7_unload W9) (thrf := thfX7_unload) cI_law (by decide +kernel) rfl ckX7_unload usX7_unload (crX7_unload l hl W9) (trX7_unload l hl W9) ?_ ?_
  · intro av S KF h
    obtain ⟨a, b, rfl, h⟩ := h
    exact ⟨by intro v hv; simp only [List.mem_cons, List.not_mem_nil, or_false] at hv; rcases hv with rfl | rfl <;> first | rfl | exact cat_rf, Nat.le_of_ble_eq_true rfl⟩
  intro av S KF h G hG
  obtain ⟨a, b, rfl, h⟩ := h
  rw [show (spX7_unload W9).1 _ S = _ from spcX7_unload] at hG
  try dsimp only at hG
  change G 0 [some (.ref a), some (.int b), none, none, none] [] S 0 0
  obtain ⟨h0, ⟨h1, h2⟩, h3, hbad, hok⟩ := h

  by_cases q : 0 ≤ b ∧ b < cFi S (cRf S a 802) 2
  · have hz := hok q
    obtain ⟨g1, g2⟩ := lAll_at h2 q.1 q.2
    have gj := (lOk_in h2.1 q.1 q.2).2.2
    obtain ⟨⟨b1, b2⟩, b3, b4, b5⟩ := h3 _ gj
    generalize hb0 : (lG S (cRf S a 802) b.toNatClampNeg) = g at *
    cases hd : cFr S g 104 with
    | none =>
      have h := hz.1 hd
      refine xgo0 hG (fun fu hfu => ?_)
      simp only [↓callX7_unload_0, ↓callX7_unload_1, ↓callX7_unload_2, ↓cg_1_3, ↓cg_1_4, ↓cg_3_3, ↓cg_8_7, cisa, ↓cp_1_3, ↓cpf_1_4, ↓cpn_1_4, ↓cpr_1_4, ki_0, ↓vm_aconst_null, ↓vm_aload_n, ↓vm_astore_n, ↓vm_getfield, ↓vm_iconst, ↓vm_ifCond_ne, ↓vm_ifnull, ↓vm_iload, ↓vm_iload_n, ↓vm_invokevirtual, ↓vm_ireturn, ↓vm_istore, ↓vm_newX, ↓vm_putfield, ↓xc_2, ↓xc_3, ↓tbX7_unload_0, ↓tbX7_unload_1, ↓tbX7_unload_2, ↓tbX7_unload_5, ↓tbX7_unload_6, ↓tbX7_unload_7, ↓tbX7_unload_10, ↓tbX7_unload_11, ↓tbX7_unload_12, ↓tbX7_unload_15, ↓tbX7_unload_16, ↓tbX7_unload_17, ↓tbX7_unload_20, ↓tbX7_unload_23, ↓tbX7_unload_26, ↓tbX7_unload_36, ↓tbX7_unload_37, ↓tbX7_unload_38, ↓tbX7_unload_41, ↓tbX7_unload_42, ↓tbX7_unload_45, ↓tbX7_unload_48, ↓tbX7_unload_50, ↓tbX7_unload_51, ↓tbX7_unload_52, ↓tbX7_unload_55, ↓tbX7_unload_56, ↓tbX7_unload_57, ↓tbX7_unload_60, ↓tbX7_unload_62, hfu, xstep0, xJ1_hit, xJ1_go, xJ2_hit1, xJ2_hit2, xJ2_go, ↓xif_t, ↓xif_f, seval, ↓xca_eq, ↓xre_l, ↓xre_r, xmask_t, xmask_f, xmask_nil, ↓xst_eq, xX_eq, eI_eq, eMc_eq, eMs_eq, eF_eq, eThr_eq, ↓xS1_mk, ↓xSI_mk, ↓xSR_mk, ↓xLI_0, ↓xLI_s, ↓xLR_0, ↓xLR_s, vRef_ref, vRef_null, vRef_rf, cat_int, cat_ref, cat_null, cat_rf, rf_some, rf_none, rf_null, rf_eq, rf_ref, ref_rf, ref_null, ref_ref, xOk_0, xOk_1, xOk_2r, xOk_2n, xOk_2f, vOpt_rf, vOpt_ref, vOpt_null, List.set_cons_zero, List.set_cons_succ, List.take_succ_cons, List.take_zero, List.drop_succ_cons, List.drop_zero, List.reverse_cons, List.reverse_nil, List.nil_append, List.cons_append, List.append_nil, List.length_cons, List.length_nil, List.map_cons, List.map_nil, List.sum_cons, List.sum_nil, Option.toList_some, Option.toList_none, xRecv_mk, true_and, and_true, true_implies, Nat.reduceAdd, Nat.reduceLeDiff, Nat.zero_le, Nat.le_refl, Nat.add_zero, Nat.zero_add, reduceIte, not_true_eq_false, not_false_eq_true, false_implies, and_self, implies_true, eq_self, Nat.reduceEqDiff, List.cons.injEq, xsn_1, xsn_2, false_and, and_false, or_false, false_or, or_true, true_or, xsn_3, xsn_4, cK_setI, cFi_setI, cFr_setI, cLen_setI, cRi_setI, ↓spwX7_needBarge, spcX7_needBarge, ↓spwX0_isOutermostAt, spcX0_isOutermostAt, ↓spwX2_deliver, spcX2_deliver, thfX7_unload_0, h0, h1, h2, q, hb0, g2, b1, b2, b3, b4, hd]
      first | exact h | grind
    | some c =>
      obtain ⟨hza, hzb⟩ := hz.2 c hd
      have hc := b5 c hd
      have hne : (g = c) = False := eq_false (fun z => by rw [z] at g2; omega)
      have hne3 : (a = c) = False := eq_false (fun z => by rw [z] at h0; omega)
      have b6 : cIn S g 102 6 := ⟨b1, b2⟩
      by_cases w : gOut S g (cFi S c 303)
      · have h := hzb w
        unfold gOut at w
        unfold cUnl at h
        refine xgo0 hG (fun fu hfu => ?_)
        simp only [↓callX7_unload_0, ↓callX7_unload_1, ↓callX7_unload_2, ↓cg_1_3, ↓cg_1_4, ↓cg_3_3, ↓cg_8_7, cisa, ↓cp_1_3, ↓cpf_1_4, ↓cpn_1_4, ↓cpr_1_4, ki_0, ↓vm_aconst_null, ↓vm_aload_n, ↓vm_astore_n, ↓vm_getfield, ↓vm_iconst, ↓vm_ifCond_ne, ↓vm_ifnull, ↓vm_iload, ↓vm_iload_n, ↓vm_invokevirtual, ↓vm_ireturn, ↓vm_istore, ↓vm_newX, ↓vm_putfield, ↓xc_2, ↓xc_3, ↓tbX7_unload_0, ↓tbX7_unload_1, ↓tbX7_unload_2, ↓tbX7_unload_5, ↓tbX7_unload_6, ↓tbX7_unload_7, ↓tbX7_unload_10, ↓tbX7_unload_11, ↓tbX7_unload_12, ↓tbX7_unload_15, ↓tbX7_unload_16, ↓tbX7_unload_17, ↓tbX7_unload_20, ↓tbX7_unload_23, ↓tbX7_unload_26, ↓tbX7_unload_36, ↓tbX7_unload_37, ↓tbX7_unload_38, ↓tbX7_unload_41, ↓tbX7_unload_42, ↓tbX7_unload_45, ↓tbX7_unload_48, ↓tbX7_unload_50, ↓tbX7_unload_51, ↓tbX7_unload_52, ↓tbX7_unload_55, ↓tbX7_unload_56, ↓tbX7_unload_57, ↓tbX7_unload_60, ↓tbX7_unload_62, hfu, xstep0, xJ1_hit, xJ1_go, xJ2_hit1, xJ2_hit2, xJ2_go, ↓xif_t, ↓xif_f, seval, ↓xca_eq, ↓xre_l, ↓xre_r, xmask_t, xmask_f, xmask_nil, ↓xst_eq, xX_eq, eI_eq, eMc_eq, eMs_eq, eF_eq, eThr_eq, ↓xS1_mk, ↓xSI_mk, ↓xSR_mk, ↓xLI_0, ↓xLI_s, ↓xLR_0, ↓xLR_s, vRef_ref, vRef_null, vRef_rf, cat_int, cat_ref, cat_null, cat_rf, rf_some, rf_none, rf_null, rf_eq, rf_ref, ref_rf, ref_null, ref_ref, xOk_0, xOk_1, xOk_2r, xOk_2n, xOk_2f, vOpt_rf, vOpt_ref, vOpt_null, List.set_cons_zero, List.set_cons_succ, List.take_succ_cons, List.take_zero, List.drop_succ_cons, List.drop_zero, List.reverse_cons, List.reverse_nil, List.nil_append, List.cons_append, List.append_nil, List.length_cons, List.length_nil, List.map_cons, List.map_nil, List.sum_cons, List.sum_nil, Option.toList_some, Option.toList_none, xRecv_mk, true_and, and_true, true_implies, Nat.reduceAdd, Nat.reduceLeDiff, Nat.zero_le, Nat.le_refl, Nat.add_zero, Nat.zero_add, reduceIte, not_true_eq_false, not_false_eq_true, false_implies, and_self, implies_true, eq_self, Nat.reduceEqDiff, List.cons.injEq, xsn_1, xsn_2, false_and, and_false, or_false, false_or, or_true, true_or, xsn_3, xsn_4, cK_setI, cFi_setI, cFr_setI, cLen_setI, cRi_setI, ↓spwX7_needBarge, spcX7_needBarge, ↓spwX0_isOutermostAt, spcX0_isOutermostAt, ↓spwX2_deliver, spcX2_deliver, thfX7_unload_0, h0, h1, h2, q, hb0, g2, b1, b2, b3, b4, hd, hc, hne, hne3, w, bi_0, bi_1, bi_t, b6]
        repeat' (first | with_reducible apply And.intro | with_reducible intro _)
        all_goals first | exact h | grind
      · have h := hza w
        unfold gOut at w
        refine xgo0 hG (fun fu hfu => ?_)
        have w2 : bi ((cFi S (cRf S g 102) 500 = -1 ∧ cFi S (cRf S g 102) 501 = cFi S c 303) ∧ rBh S (cRf S g 102) g 0 = 0) = 0 := bi_f w
        simp only [↓callX7_unload_0, ↓callX7_unload_1, ↓callX7_unload_2, ↓cg_1_3, ↓cg_1_4, ↓cg_3_3, ↓cg_8_7, cisa, ↓cp_1_3, ↓cpf_1_4, ↓cpn_1_4, ↓cpr_1_4, ki_0, ↓vm_aconst_null, ↓vm_aload_n, ↓vm_astore_n, ↓vm_getfield, ↓vm_iconst, ↓vm_ifCond_ne, ↓vm_ifnull, ↓vm_iload, ↓vm_iload_n, ↓vm_invokevirtual, ↓vm_ireturn, ↓vm_istore, ↓vm_newX, ↓vm_putfield, ↓xc_2, ↓xc_3, ↓tbX7_unload_0, ↓tbX7_unload_1, ↓tbX7_unload_2, ↓tbX7_unload_5, ↓tbX7_unload_6, ↓tbX7_unload_7, ↓tbX7_unload_10, ↓tbX7_unload_11, ↓tbX7_unload_12, ↓tbX7_unload_15, ↓tbX7_unload_16, ↓tbX7_unload_17, ↓tbX7_unload_20, ↓tbX7_unload_23, ↓tbX7_unload_26, ↓tbX7_unload_36, ↓tbX7_unload_37, ↓tbX7_unload_38, ↓tbX7_unload_41, ↓tbX7_unload_42, ↓tbX7_unload_45, ↓tbX7_unload_48, ↓tbX7_unload_50, ↓tbX7_unload_51, ↓tbX7_unload_52, ↓tbX7_unload_55, ↓tbX7_unload_56, ↓tbX7_unload_57, ↓tbX7_unload_60, ↓tbX7_unload_62, hfu, xstep0, xJ1_hit, xJ1_go, xJ2_hit1, xJ2_hit2, xJ2_go, ↓xif_t, ↓xif_f, seval, ↓xca_eq, ↓xre_l, ↓xre_r, xmask_t, xmask_f, xmask_nil, ↓xst_eq, xX_eq, eI_eq, eMc_eq, eMs_eq, eF_eq, eThr_eq, ↓xS1_mk, ↓xSI_mk, ↓xSR_mk, ↓xLI_0, ↓xLI_s, ↓xLR_0, ↓xLR_s, vRef_ref, vRef_null, vRef_rf, cat_int, cat_ref, cat_null, cat_rf, rf_some, rf_none, rf_null, rf_eq, rf_ref, ref_rf, ref_null, ref_ref, xOk_0, xOk_1, xOk_2r, xOk_2n, xOk_2f, vOpt_rf, vOpt_ref, vOpt_null, List.set_cons_zero, List.set_cons_succ, List.take_succ_cons, List.take_zero, List.drop_succ_cons, List.drop_zero, List.reverse_cons, List.reverse_nil, List.nil_append, List.cons_append, List.append_nil, List.length_cons, List.length_nil, List.map_cons, List.map_nil, List.sum_cons, List.sum_nil, Option.toList_some, Option.toList_none, xRecv_mk, true_and, and_true, true_implies, Nat.reduceAdd, Nat.reduceLeDiff, Nat.zero_le, Nat.le_refl, Nat.add_zero, Nat.zero_add, reduceIte, not_true_eq_false, not_false_eq_true, false_implies, and_self, implies_true, eq_self, Nat.reduceEqDiff, List.cons.injEq, xsn_1, xsn_2, false_and, and_false, or_false, false_or, or_true, true_or, xsn_3, xsn_4, cK_setI, cFi_setI, cFr_setI, cLen_setI, cRi_setI, ↓spwX7_needBarge, spcX7_needBarge, ↓spwX0_isOutermostAt, spcX0_isOutermostAt, ↓spwX2_deliver, spcX2_deliver, thfX7_unload_0, h0, h1, h2, q, hb0, g2, b1, b2, b3, b4, hd, hc, hne, hne3, w2, b6]
        repeat' (first | with_reducible apply And.intro | with_reducible intro _)
        all_goals first | exact h | rfl
  · have h := hbad q
    refine xgo hG (mb := []) (head := 6) (P := fun _ _ _ _ _ => False) (fun _ _ _ _ _ q => q.elim) (pc := 0) (fun fu hfu => ?_)
    simp only [↓callX7_unload_0, ↓callX7_unload_1, ↓callX7_unload_2, ↓cg_1_3, ↓cg_1_4, ↓cg_3_3, ↓cg_8_7, cisa, ↓cp_1_3, ↓cpf_1_4, ↓cpn_1_4, ↓cpr_1_4, ki_0, ↓vm_aconst_null, ↓vm_aload_n, ↓vm_astore_n, ↓vm_getfield, ↓vm_iconst, ↓vm_ifCond_ne, ↓vm_ifnull, ↓vm_iload, ↓vm_iload_n, ↓vm_invokevirtual, ↓vm_ireturn, ↓vm_istore, ↓vm_newX, ↓vm_putfield, ↓xc_2, ↓xc_3, ↓tbX7_unload_0, ↓tbX7_unload_1, ↓tbX7_unload_2, ↓tbX7_unload_5, ↓tbX7_unload_6, ↓tbX7_unload_7, ↓tbX7_unload_10, ↓tbX7_unload_11, ↓tbX7_unload_12, ↓tbX7_unload_15, ↓tbX7_unload_16, ↓tbX7_unload_17, ↓tbX7_unload_20, ↓tbX7_unload_23, ↓tbX7_unload_26, ↓tbX7_unload_36, ↓tbX7_unload_37, ↓tbX7_unload_38, ↓tbX7_unload_41, ↓tbX7_unload_42, ↓tbX7_unload_45, ↓tbX7_unload_48, ↓tbX7_unload_50, ↓tbX7_unload_51, ↓tbX7_unload_52, ↓tbX7_unload_55, ↓tbX7_unload_56, ↓tbX7_unload_57, ↓tbX7_unload_60, ↓tbX7_unload_62, hfu, xstep0, xJ1_hit, xJ1_go, xJ2_hit1, xJ2_hit2, xJ2_go, ↓xif_t, ↓xif_f, seval, ↓xca_eq, ↓xre_l, ↓xre_r, xmask_t, xmask_f, xmask_nil, ↓xst_eq, xX_eq, eI_eq, eMc_eq, eMs_eq, eF_eq, eThr_eq, ↓xS1_mk, ↓xSI_mk, ↓xSR_mk, ↓xLI_0, ↓xLI_s, ↓xLR_0, ↓xLR_s, vRef_ref, vRef_null, vRef_rf, cat_int, cat_ref, cat_null, cat_rf, rf_some, rf_none, rf_null, rf_eq, rf_ref, ref_rf, ref_null, ref_ref, xOk_0, xOk_1, xOk_2r, xOk_2n, xOk_2f, vOpt_rf, vOpt_ref, vOpt_null, List.set_cons_zero, List.set_cons_succ, List.take_succ_cons, List.take_zero, List.drop_succ_cons, List.drop_zero, List.reverse_cons, List.reverse_nil, List.nil_append, List.cons_append, List.append_nil, List.length_cons, List.length_nil, List.map_cons, List.map_nil, List.sum_cons, List.sum_nil, Option.toList_some, Option.toList_none, xRecv_mk, true_and, and_true, true_implies, Nat.reduceAdd, Nat.reduceLeDiff, Nat.zero_le, Nat.le_refl, Nat.add_zero, Nat.zero_add, reduceIte, not_true_eq_false, not_false_eq_true, false_implies, and_self, implies_true, eq_self, Nat.reduceEqDiff, List.cons.injEq, xsn_1, xsn_2, false_and, and_false, or_false, false_or, or_true, true_or, xsn_3, xsn_4, cK_setI, cFi_setI, cFr_setI, cLen_setI, cRi_setI, ↓spwX7_needBarge, spcX7_needBarge, ↓spwX0_isOutermostAt, spcX0_isOutermostAt, ↓spwX2_deliver, spcX2_deliver, thfX7_unload_0, h0, h1, h2, q]
    try simp only [xif_e]
    first | exact h | grind

def tbX7_load : List (Nat × xHint) := [(0, .aload_n 0, 0, 0, 0, []), (1, .iload_n 1, 1, 0, 0, []), (2, .invokevirtual 153, 0, 2, 8, []), (5, .astore 4, 4, 0, 0, []), (7, .aload_n 0, 0, 0, 0, []), (8, .iload_n 2, 2, 0, 0, []), (9, .invokevirtual 140, 1, 2, 8, []), (12, .astore 5, 5, 0, 0, []), (14, .iload_n 3, 3, 0, 0, []), (15, .iconst 1, 0, 0, 0, []), (16, .bipush 12, 0, 0, 0, []), (18, .invokestatic 57, 2, 3, 0, []), (21, .aload 4, 4, 0, 0, []), (23, .aload 5, 5, 0, 0, []), (25, .getfield 144, 3, 2, 0, []), (28, .invokevirtual 157, 3, 2, 1, []), (31, .ifCond .eq 17, 48, 0, 0, []), (34, .aload 4, 4, 0, 0, []), (36, .aload 5, 5, 0, 0, []), (38, .invokevirtual 161, 4, 2, 1, []), (41, .ifCond .eq 7, 48, 0, 0, []), (44, .iconst 1, 0, 0, 0, []), (45, .goto 4, 49, 0, 0, []), (48, .iconst 0, 0, 0, 0, []), (49, .invokestatic 77, 5, 1, 0, []), (52, .aload 4, 4, 0, 0, []), (54, .getfield 165, 1, 3, 0, []), (57, .iload_n 3, 3, 0, 0, []), (58, .iadd, 0, 0, 0, []), (59, .bipush 12, 0, 0, 0, []), (61, .if_icmp .gt 16, 77, 0, 0, []), (64, .iload_n 3, 3, 0, 0, []), (65, .aload 5, 5, 0, 0, []), (67, .getfield 168, 3, 4, 0, []), (70, .if_icmp .gt 7, 77, 0, 0, []), (73, .iconst 1, 0, 0, 0, []), (74, .goto 4, 78, 0, 0, []), (77, .iconst 0, 0, 0, 0, []), (78, .invokestatic 77, 5, 1, 0, []), (81, .aload 5, 5, 0, 0, []), (83, .getfield 144, 3, 2, 0, []), (86, .istore 6, 6, 0, 0, []), (88, .iload 6, 6, 0, 0, []), (90, .ifCond .lt 27, 117, 0, 0, []), (93, .iload 6, 6, 0, 0, []), (95, .aload_n 0, 0, 0, 0, []), (96, .getfield 28, 8, 5, 2, []), (99, .arraylength, 0, 0, 0, []), (100, .if_icmp .ge 17, 117, 0, 0, []), (103, .aload_n 0, 0, 0, 0, []), (104, .getfield 28, 8, 5, 2, []), (107, .iload 6, 6, 0, 0, []), (109, .iaload, 0, 0, 0, []), (110, .iload_n 3, 3, 0, 0, []), (111, .iadd, 0, 0, 0, []), (112, .bipush 12, 0, 0, 0, []), (114, .if_icmp .le 13, 127, 0, 0, []), (117, .new 171, 1, 0, 0, []), (127, .aload_n 0, 0, 0, 0, []), (128, .getfield 28, 8, 5, 2, []), (131, .iload 6, 6, 0, 0, []), (133, .dup2, 0, 0, 0, []), (134, .iaload, 0, 0, 0, []), (135, .iload_n 3, 3, 0, 0, []), (136, .iadd, 0, 0, 0, []), (137, .iastore, 0, 0, 0, []), (138, .aload 5, 5, 0, 0, []), (140, .iload_n 3, 3, 0, 0, []), (141, .invokevirtual 178, 6, 2, 3, []), (144, .aload 4, 4, 0, 0, []), (146, .dup, 0, 0, 0, []), (147, .getfield 165, 1, 3, 0, []), (150, .iload_n 3, 3, 0, 0, []), (151, .iadd, 0, 0, 0, []), (152, .putfield 165, 1, 3, 0, []), (155, .aload 4, 4, 0, 0, []), (157, .aload 5, 5, 0, 0, []), (159, .putfield 181, 1, 4, 2, []), (162, .aload 4, 4, 0, 0, []), (164, .aload 5, 5, 0, 0, []), (166, .getfield 185, 3, 1, 0, []), (169, .putfield 188, 1, 5, 0, []), (172, .aload 4, 4, 0, 0, []), (174, .getfield 165, 1, 3, 0, []), (177, .ireturn, 0, 0, 0, [])]
def clX7_load : List (Instr × Nat × Nat × Nat) := [(.invokevirtual 153, 0, 2, 8), (.invokevirtual 140, 1, 2, 8), (.invokestatic 57, 2, 3, 0), (.invokevirtual 157, 3, 2, 1), (.invokevirtual 161, 4, 2, 1), (.invokestatic 77, 5, 1, 0), (.invokevirtual 178, 6, 2, 3)]
def thX7_load : List (Nat × Nat) := [(117, 0)]
theorem ckX7_load : tbX7_load.all (xRow RX7 cX7_load wsX7_load vwCl [1, 3, 8] clX7_load thX7_load 7 (yX7_load.name == "<init>") (some .int)) = true := xRow_q 0xaca500b40419bc00b5b900b405190419b500b505190419a500b5601da500b4590419b200b61d05194f601d2e5c06151c00b42abfaf00b7ad1259ab00bb0d00a40c10601d2e06151c00b42a1100a2be1c00b42a06151b009b061506369000b405194d00b8030400a7040700a3a800b405191d1000a30c10601da500b404194d00b8030400a704070099a100b6051904191100999d00b69000b4051904193900b80c10041d053a8c00b61c2a043a9900b61b2a 178 (by decide +kernel) (by decide +kernel)
theorem usX7_load : xUse wsX7_load vwCl [1, 3, 8] = true := xUse_g rfl (lw_good lwl_X7_load lwl_X00 (by decide +kernel)) (xUse_g rfl (lw_good lwl_X7_load lwl_X20 (by decide +kernel)) (xUse_g rfl (lw_good lwl_X7_load lwl_X70 (by decide +kernel)) xUse_n))
theorem tbX7_load_0 {k : Instr → Nat → Nat → Nat → List Nat → Prop} : xse (xFind tbX7_load 0) k = k (.aload_n 0) 0 0 0 [] := rfl
theorem tbX7_load_1 {k : Instr → Nat → Nat → Nat → List Nat → Prop} : xse (xFind tbX7_load 1) k = k (.iload_n 1) 1 0 0 [] := rfl
theorem tbX7_load_2 {k : Instr → Nat → Nat → Nat → List Nat → Prop} : xse (xFind tbX7_load 2) k = k (.invokevirtual 153) 0 2 8 [] := rfl
theorem tbX7_load_5 {k : Instr → Nat → Nat → Nat → List Nat → Prop} : xse (xFind tbX7_load 5) k = k (.astore 4) 4 0 0 [] := rfl
theorem tbX7_load_7 {k : Instr → Nat → Nat → Nat → List Nat → Prop} : xse (xFind tbX7_load 7) k = k (.aload_n 0) 0 0 0 [] := rfl
theorem tbX7_load_8 {k : Instr → Nat → Nat → Nat → List Nat → Prop} : xse (xFind tbX7_load 8) k = k (.iload_n 2) 2 0 0 [] := rfl
theorem tbX7_load_9 {k : Instr → Nat → Nat → Nat → List Nat → Prop} : xse (xFind tbX7_load 9) k = k (.invokevirtual 140) 1 2 8 [] := rfl
theorem tbX7_load_12 {k : Instr → Nat → Nat → Nat → List Nat → Prop} : xse (xFind tbX7_load 12) k = k (.astore 5) 5 0 0 [] := rfl
theorem tbX7_load_14 {k : Instr → Nat → Nat → Nat → List Nat → Prop} : xse (xFind tbX7_load 14) k = k (.iload_n 3) 3 0 0 [] := rfl
theorem tbX7_load_15 {k : Instr → Nat → Nat → Nat → List Nat → Prop} : xse (xFind tbX7_load 15) k = k (.iconst 1) 0 0 0 [] := rfl
theorem tbX7_load_16 {k : Instr → Nat → Nat → Nat → List Nat → Prop} : xse (xFind tbX7_load 16) k = k (.bipush 12) 0 0 0 [] := rfl
theorem tbX7_load_18 {k : Instr → Nat → Nat → Nat → List Nat → Prop} : xse (xFind tbX7_load 18) k = k (.invokestatic 57) 2 3 0 [] := rfl
theorem tbX7_load_21 {k : Instr → Nat → Nat → Nat → List Nat → Prop} : xse (xFind tbX7_load 21) k = k (.aload 4) 4 0 0 [] := rfl
theorem tbX7_load_23 {k : Instr → Nat → Nat → Nat → List Nat → Prop} : xse (xFind tbX7_load 23) k = k (.aload 5) 5 0 0 [] := rfl
theorem tbX7_load_25 {k : Instr → Nat → Nat → Nat → List Nat → Prop} : xse (xFind tbX7_load 25) k = k (.getfield 144) 3 2 0 [] := rfl
theorem tbX7_load_28 {k : Instr → Nat → Nat → Nat → List Nat → Prop} : xse (xFind tbX7_load 28) k = k (.invokevirtual 157) 3 2 1 [] := rfl
theorem tbX7_load_31 {k : Instr → Nat → Nat → Nat → List Nat → Prop} : xse (xFind tbX7_load 31) k = k (.ifCond .eq 17) 48 0 0 [] := rfl
theorem tbX7_load_34 {k : Instr → Nat → Nat → Nat → List Nat → Prop} : xse (xFind tbX7_load 34) k = k (.aload 4) 4 0 0 [] := rfl
theorem tbX7_load_36 {k : Instr → Nat → Nat → Nat → List Nat → Prop} : xse (xFind tbX7_load 36) k = k (.aload 5) 5 0 0 [] := rfl
theorem tbX7_load_38 {k : Instr → Nat → Nat → Nat → List Nat → Prop} : xse (xFind tbX7_load 38) k = k (.invokevirtual 161) 4 2 1 [] := rfl
theorem tbX7_load_41 {k : Instr → Nat → Nat → Nat → List Nat → Prop} : xse (xFind tbX7_load 41) k = k (.ifCond .eq 7) 48 0 0 [] := rfl
theorem tbX7_load_44 {k : Instr → Nat → Nat → Nat → List Nat → Prop} : xse (xFind tbX7_load 44) k = k (.iconst 1) 0 0 0 [] := rfl
theorem tbX7_load_45 {k : Instr → Nat → Nat → Nat → List Nat → Prop} : xse (xFind tbX7_load 45) k = k (.goto 4) 49 0 0 [] := rfl
theorem tbX7_load_48 {k : Instr → Nat → Nat → Nat → List Nat → Prop} : xse (xFind tbX7_load 48) k = k (.iconst 0) 0 0 0 [] := rfl
theorem tbX7_load_49 {k : Instr → Nat → Nat → Nat → List Nat → Prop} : xse (xFind tbX7_load 49) k = k (.invokestatic 77) 5 1 0 [] := rfl
theorem tbX7_load_52 {k : Instr → Nat → Nat → Nat → List Nat → Prop} : xse (xFind tbX7_load 52) k = k (.aload 4) 4 0 0 [] := rfl
theorem tbX7_load_54 {k : Instr → Nat → Nat → Nat → List Nat → Prop} : xse (xFind tbX7_load 54) k = k (.getfield 165) 1 3 0 [] := rfl
theorem tbX7_load_57 {k : Instr → Nat → Nat → Nat → List Nat → Prop} : xse (xFind tbX7_load 57) k = k (.iload_n 3) 3 0 0 [] := rfl
theorem tbX7_load_58 {k : Instr → Nat → Nat → Nat → List Nat → Prop} : xse (xFind tbX7_load 58) k = k (.iadd) 0 0 0 [] := rfl
theorem tbX7_load_59 {k : Instr → Nat → Nat → Nat → List Nat → Prop} : xse (xFind tbX7_load 59) k = k (.bipush 12) 0 0 0 [] := rfl
theorem tbX7_load_61 {k : Instr → Nat → Nat → Nat → List Nat → Prop} : xse (xFind tbX7_load 61) k = k (.if_icmp .gt 16) 77 0 0 [] := rfl
theorem tbX7_load_64 {k : Instr → Nat → Nat → Nat → List Nat → Prop} : xse (xFind tbX7_load 64) k = k (.iload_n 3) 3 0 0 [] := rfl
theorem tbX7_load_65 {k : Instr → Nat → Nat → Nat → List Nat → Prop} : xse (xFind tbX7_load 65) k = k (.aload 5) 5 0 0 [] := rfl
theorem tbX7_load_67 {k : Instr → Nat → Nat → Nat → List Nat → Prop} : xse (xFind tbX7_load 67) k = k (.getfield 168) 3 4 0 [] := rfl
theorem tbX7_load_70 {k : Instr → Nat → Nat → Nat → List Nat → Prop} : xse (xFind tbX7_load 70) k = k (.if_icmp .gt 7) 77 0 0 [] := rfl
theorem tbX7_load_73 {k : Instr → Nat → Nat → Nat → List Nat → Prop} : xse (xFind tbX7_load 73) k = k (.iconst 1) 0 0 0 [] := rfl
theorem tbX7_load_74 {k : Instr → Nat → Nat → Nat → List Nat → Prop} : xse (xFind tbX7_load 74) k = k (.goto 4) 78 0 0 [] := rfl
theorem tbX7_load_77 {k : Instr → Nat → Nat → Nat → List Nat → Prop} : xse (xFind tbX7_load 77) k = k (.iconst 0) 0 0 0 [] := rfl
theorem tbX7_load_78 {k : Instr → Nat → Nat → Nat → List Nat → Prop} : xse (xFind tbX7_load 78) k = k (.invokestatic 77) 5 1 0 [] := rfl
theorem tbX7_load_81 {k : Instr → Nat → Nat → Nat → List Nat → Prop} : xse (xFind tbX7_load 81) k = k (.aload 5) 5 0 0 [] := rfl
theorem tbX7_load_83 {k : Instr → Nat → Nat → Nat → List Nat → Prop} : xse (xFind tbX7_load 83) k = k (.getfield 144) 3 2 0 [] := rfl
theorem tbX7_load_86 {k : Instr → Nat → Nat → Nat → List Nat → Prop} : xse (xFind tbX7_load 86) k = k (.istore 6) 6 0 0 [] := rfl
theorem tbX7_load_88 {k : Instr → Nat → Nat → Nat → List Nat → Prop} : xse (xFind tbX7_load 88) k = k (.iload 6) 6 0 0 [] := rfl
theorem tbX7_load_90 {k : Instr → Nat → Nat → Nat → List Nat → Prop} : xse (xFind tbX7_load 90) k = k (.ifCond .lt 27) 117 0 0 [] := rfl
theorem tbX7_load_93 {k : Instr → Nat → Nat → Nat → List Nat → Prop} : xse (xFind tbX7_load 93) k = k (.iload 6) 6 0 0 [] := rfl
theorem tbX7_load_95 {k : Instr → Nat → Nat → Nat → List Nat → Prop} : xse (xFind tbX7_load 95) k = k (.aload_n 0) 0 0 0 [] := rfl
theorem tbX7_load_96 {k : Instr → Nat → Nat → Nat → List Nat → Prop} : xse (xFind tbX7_load 96) k = k (.getfield 28) 8 5 2 [] := rfl
theorem tbX7_load_99 {k : Instr → Nat → Nat → Nat → List Nat → Prop} : xse (xFind tbX7_load 99) k = k (.arraylength) 0 0 0 [] := rfl
theorem tbX7_load_100 {k : Instr → Nat → Nat → Nat → List Nat → Prop} : xse (xFind tbX7_load 100) k = k (.if_icmp .ge 17) 117 0 0 [] := rfl
theorem tbX7_load_103 {k : Instr → Nat → Nat → Nat → List Nat → Prop} : xse (xFind tbX7_load 103) k = k (.aload_n 0) 0 0 0 [] := rfl
theorem tbX7_load_104 {k : Instr → Nat → Nat → Nat → List Nat → Prop} : xse (xFind tbX7_load 104) k = k (.getfield 28) 8 5 2 [] := rfl
theorem tbX7_load_107 {k : Instr → Nat → Nat → Nat → List Nat → Prop} : xse (xFind tbX7_load 107) k = k (.iload 6) 6 0 0 [] := rfl
theorem tbX7_load_109 {k : Instr → Nat → Nat → Nat → List Nat → Prop} : xse (xFind tbX7_load 109) k = k (.iaload) 0 0 0 [] := rfl
theorem tbX7_load_110 {k : Instr → Nat → Nat → Nat → List Nat → Prop} : xse (xFind tbX7_load 110) k = k (.iload_n 3) 3 0 0 [] := rfl
theorem tbX7_load_111 {k : Instr → Nat → Nat → Nat → List Nat → Prop} : xse (xFind tbX7_load 111) k = k (.iadd) 0 0 0 [] := rfl
theorem tbX7_load_112 {k : Instr → Nat → Nat → Nat → List Nat → Prop} : xse (xFind tbX7_load 112) k = k (.bipush 12) 0 0 0 [] := rfl
theorem tbX7_load_114 {k : Instr → Nat → Nat → Nat → List Nat → Prop} : xse (xFind tbX7_load 114) k = k (.if_icmp .le 13) 127 0 0 [] := rfl
theorem tbX7_load_117 {k : Instr → Nat → Nat → Nat → List Nat → Prop} : xse (xFind tbX7_load 117) k = k (.new 171) 1 0 0 [] := rfl
theorem tbX7_load_127 {k : Instr → Nat → Nat → Nat → List Nat → Prop} : xse (xFind tbX7_load 127) k = k (.aload_n 0) 0 0 0 [] := rfl
theorem tbX7_load_128 {k : Instr → Nat → Nat → Nat → List Nat → Prop} : xse (xFind tbX7_load 128) k = k (.getfield 28) 8 5 2 [] := rfl
theorem tbX7_load_131 {k : Instr → Nat → Nat → Nat → List Nat → Prop} : xse (xFind tbX7_load 131) k = k (.iload 6) 6 0 0 [] := rfl
theorem tbX7_load_133 {k : Instr → Nat → Nat → Nat → List Nat → Prop} : xse (xFind tbX7_load 133) k = k (.dup2) 0 0 0 [] := rfl
theorem tbX7_load_134 {k : Instr → Nat → Nat → Nat → List Nat → Prop} : xse (xFind tbX7_load 134) k = k (.iaload) 0 0 0 [] := rfl
theorem tbX7_load_135 {k : Instr → Nat → Nat → Nat → List Nat → Prop} : xse (xFind tbX7_load 135) k = k (.iload_n 3) 3 0 0 [] := rfl
theorem tbX7_load_136 {k : Instr → Nat → Nat → Nat → List Nat → Prop} : xse (xFind tbX7_load 136) k = k (.iadd) 0 0 0 [] := rfl
theorem tbX7_load_137 {k : Instr → Nat → Nat → Nat → List Nat → Prop} : xse (xFind tbX7_load 137) k = k (.iastore) 0 0 0 [] := rfl
theorem tbX7_load_138 {k : Instr → Nat → Nat → Nat → List Nat → Prop} : xse (xFind tbX7_load 138) k = k (.aload 5) 5 0 0 [] := rfl
theorem tbX7_load_140 {k : Instr → Nat → Nat → Nat → List Nat → Prop} : xse (xFind tbX7_load 140) k = k (.iload_n 3) 3 0 0 [] := rfl
theorem tbX7_load_141 {k : Instr → Nat → Nat → Nat → List Nat → Prop} : xse (xFind tbX7_load 141) k = k (.invokevirtual 178) 6 2 3 [] := rfl
theorem tbX7_load_144 {k : Instr → Nat → Nat → Nat → List Nat → Prop} : xse (xFind tbX7_load 144) k = k (.aload 4) 4 0 0 [] := rfl
theorem tbX7_load_146 {k : Instr → Nat → Nat → Nat → List Nat → Prop} : xse (xFind tbX7_load 146) k = k (.dup) 0 0 0 [] := rfl
theorem tbX7_load_147 {k : Instr → Nat → Nat → Nat → List Nat → Prop} : xse (xFind tbX7_load 147) k = k (.getfield 165) 1 3 0 [] := rfl
theorem tbX7_load_150 {k : Instr → Nat → Nat → Nat → List Nat → Prop} : xse (xFind tbX7_load 150) k = k (.iload_n 3) 3 0 0 [] := rfl
theorem tbX7_load_151 {k : Instr → Nat → Nat → Nat → List Nat → Prop} : xse (xFind tbX7_load 151) k = k (.iadd) 0 0 0 [] := rfl
theorem tbX7_load_152 {k : Instr → Nat → Nat → Nat → List Nat → Prop} : xse (xFind tbX7_load 152) k = k (.putfield 165) 1 3 0 [] := rfl
theorem tbX7_load_155 {k : Instr → Nat → Nat → Nat → List Nat → Prop} : xse (xFind tbX7_load 155) k = k (.aload 4) 4 0 0 [] := rfl
theorem tbX7_load_157 {k : Instr → Nat → Nat → Nat → List Nat → Prop} : xse (xFind tbX7_load 157) k = k (.aload 5) 5 0 0 [] := rfl
theorem tbX7_load_159 {k : Instr → Nat → Nat → Nat → List Nat → Prop} : xse (xFind tbX7_load 159) k = k (.putfield 181) 1 4 2 [] := rfl
theorem tbX7_load_162 {k : Instr → Nat → Nat → Nat → List Nat → Prop} : xse (xFind tbX7_load 162) k = k (.aload 4) 4 0 0 [] := rfl
theorem tbX7_load_164 {k : Instr → Nat → Nat → Nat → List Nat → Prop} : xse (xFind tbX7_load 164) k = k (.aload 5) 5 0 0 [] := rfl
theorem tbX7_load_166 {k : Instr → Nat → Nat → Nat → List Nat → Prop} : xse (xFind tbX7_load 166) k = k (.getfield 185) 3 1 0 [] := rfl
theorem tbX7_load_169 {k : Instr → Nat → Nat → Nat → List Nat → Prop} : xse (xFind tbX7_load 169) k = k (.putfield 188) 1 5 0 [] := rfl
theorem tbX7_load_172 {k : Instr → Nat → Nat → Nat → List Nat → Prop} : xse (xFind tbX7_load 172) k = k (.aload 4) 4 0 0 [] := rfl
theorem tbX7_load_174 {k : Instr → Nat → Nat → Nat → List Nat → Prop} : xse (xFind tbX7_load 174) k = k (.getfield 165) 1 3 0 [] := rfl
theorem tbX7_load_177 {k : Instr → Nat → Nat → Nat → List Nat → Prop} : xse (xFind tbX7_load 177) k = k (.ireturn) 0 0 0 [] := rfl

def spX7_load (W9 : xWd) : xSp cS := (fun av S => (6, 36), fun av S K => ∃ (a : Nat) (b : Int32) (c : Int32) (u : Int32), av = [.ref a, .int b, .int c, .int u] ∧ (cK S a = 9 ∧ (cIn S a 802 1 ∧ lAll S (cRf S a 802) 2) ∧ (cIn S a 803 1 ∧ lAll S (cRf S a 803) 4) ∧ (∀ j, j < lCn S (cRf S a 802) → gOk S (lG S (cRf S a 802) j)) ∧ (cIn S a 805 11 ∧ cLen S (cRf S a 805) = 8) ∧ (∀ j, j < lCn S (cRf S a 803) → vp_in (cFi S (lG S (cRf S a 803) j) 302) 8) ∧ (¬ ((0 ≤ b ∧ b < cFi S (cRf S a 802) 2) ∧ 0 ≤ c ∧ c < cFi S (cRf S a 803) 2) → K (rX "java/lang/IndexOutOfBoundsException") S) ∧ (((0 ≤ b ∧ b < cFi S (cRf S a 802) 2) ∧ 0 ≤ c ∧ c < cFi S (cRf S a 803) 2) → (¬ (1 ≤ u ∧ u ≤ 12) → K (rX "java/lang/IllegalArgumentException") S) ∧ ((1 ≤ u ∧ u ≤ 12) → (¬ (((gOut S (lG S (cRf S a 802) b.toNatClampNeg) (cFi S (lG S (cRf S a 803) c.toNatClampNeg) 302) ∧ gFit S (lG S (cRf S a 802) b.toNatClampNeg) (lG S (cRf S a 803) c.toNatClampNeg)) ∧ (cFi S (lG S (cRf S a 802) b.toNatClampNeg) 103 + u ≤ 12 ∧ u ≤ cFi S (lG S (cRf S a 803) c.toNatClampNeg) 304) ∧ cRi S (cRf S a 805) (cFi S (lG S (cRf S a 803) c.toNatClampNeg) 302).toNatClampNeg + u ≤ 12)) → K (rX "java/lang/IllegalStateException") S) ∧ ((((gOut S (lG S (cRf S a 802) b.toNatClampNeg) (cFi S (lG S (cRf S a 803) c.toNatClampNeg) 302) ∧ gFit S (lG S (cRf S a 802) b.toNatClampNeg) (lG S (cRf S a 803) c.toNatClampNeg)) ∧ (cFi S (lG S (cRf S a 802) b.toNatClampNeg) 103 + u ≤ 12 ∧ u ≤ cFi S (lG S (cRf S a 803) c.toNatClampNeg) 304) ∧ cRi S (cRf S a 805) (cFi S (lG S (cRf S a 803) c.toNatClampNeg) 302).toNatClampNeg + u ≤ 12)) → K (rI (cFi S (lG S (cRf S a 802) b.toNatClampNeg) 103 + u)) (cLoad S (lG S (cRf S a 802) b.toNatClampNeg) (lG S (cRf S a 803) c.toNatClampNeg) (cRf S a 805) (cFi S (lG S (cRf S a 803) c.toNatClampNeg) 302).toNatClampNeg u))))))
theorem spcX7_load {av : List Value} {S : cS} {W9 : xWd} : (spX7_load W9).1 av S = (6, 36) := rfl
theorem spwX7_load {S : cS} {W9 : xWd} {K : xRes → cS → Prop} {a : Nat} {b : Int32} {c : Int32} {u : Int32} : (spX7_load W9).2 [.ref a, .int b, .int c, .int u] S K = (cK S a = 9 ∧ (cIn S a 802 1 ∧ lAll S (cRf S a 802) 2) ∧ (cIn S a 803 1 ∧ lAll S (cRf S a 803) 4) ∧ (∀ j, j < lCn S (cRf S a 802) → gOk S (lG S (cRf S a 802) j)) ∧ (cIn S a 805 11 ∧ cLen S (cRf S a 805) = 8) ∧ (∀ j, j < lCn S (cRf S a 803) → vp_in (cFi S (lG S (cRf S a 803) j) 302) 8) ∧ (¬ ((0 ≤ b ∧ b < cFi S (cRf S a 802) 2) ∧ 0 ≤ c ∧ c < cFi S (cRf S a 803) 2) → K (rX "java/lang/IndexOutOfBoundsException") S) ∧ (((0 ≤ b ∧ b < cFi S (cRf S a 802) 2) ∧ 0 ≤ c ∧ c < cFi S (cRf S a 803) 2) → (¬ (1 ≤ u ∧ u ≤ 12) → K (rX "java/lang/IllegalArgumentException") S) ∧ ((1 ≤ u ∧ u ≤ 12) → (¬ (((gOut S (lG S (cRf S a 802) b.toNatClampNeg) (cFi S (lG S (cRf S a 803) c.toNatClampNeg) 302) ∧ gFit S (lG S (cRf S a 802) b.toNatClampNeg) (lG S (cRf S a 803) c.toNatClampNeg)) ∧ (cFi S (lG S (cRf S a 802) b.toNatClampNeg) 103 + u ≤ 12 ∧ u ≤ cFi S (lG S (cRf S a 803) c.toNatClampNeg) 304) ∧ cRi S (cRf S a 805) (cFi S (lG S (cRf S a 803) c.toNatClampNeg) 302).toNatClampNeg + u ≤ 12)) → K (rX "java/lang/IllegalStateException") S) ∧ ((((gOut S (lG S (cRf S a 802) b.toNatClampNeg) (cFi S (lG S (cRf S a 803) c.toNatClampNeg) 302) ∧ gFit S (lG S (cRf S a 802) b.toNatClampNeg) (lG S (cRf S a 803) c.toNatClampNeg)) ∧ (cFi S (lG S (cRf S a 802) b.toNatClampNeg) 103 + u ≤ 12 ∧ u ≤ cFi S (lG S (cRf S a 803) c.toNatClampNeg) 304) ∧ cRi S (cRf S a 805) (cFi S (lG S (cRf S a 803) c.toNatClampNeg) 302).toNatClampNeg + u ≤ 12)) → K (rI (cFi S (lG S (cRf S a 802) b.toNatClampNeg) 103 + u)) (cLoad S (lG S (cRf S a 802) b.toNatClampNeg) (lG S (cRf S a 803) c.toNatClampNeg) (cRf S a 805) (cFi S (lG S (cRf S a 803) c.toNatClampNeg) 302).toNatClampNeg u))))) :=
  propext ⟨fun h => by
    simp only [spX7_load] at h
    obtain ⟨_, _, _, _, e, h⟩ := h
    simp only [List.cons.injEq, Value.int.injEq, Value.ref.injEq, rf_eq, and_true, true_and] at e
    obtain ⟨rfl, rfl, rfl, rfl⟩ := e
    exact h, fun h => ⟨_, _, _, _, rfl, h⟩⟩

def callX7_load (W9 : xWd) : Nat → Option (xSp cS) := fun n => match n with | 0 => some (spX7_needBarge W9) | 1 => some (spX7_needContract W9) | 2 => some (spX7_needWithin W9) | 3 => some (spX0_isOutermostAt W9) | 4 => some (spX0_isFitFor W9) | 5 => some (spX7_needState W9) | 6 => some (spX2_ship W9) | _ => none

theorem callX7_load_0 {W9 : xWd} {k : xSp cS → Prop} : xcs (callX7_load W9 0) k = k (spX7_needBarge W9) := rfl

theorem callX7_load_1 {W9 : xWd} {k : xSp cS → Prop} : xcs (callX7_load W9 1) k = k (spX7_needContract W9) := rfl

theorem callX7_load_2 {W9 : xWd} {k : xSp cS → Prop} : xcs (callX7_load W9 2) k = k (spX7_needWithin W9) := rfl

theorem callX7_load_3 {W9 : xWd} {k : xSp cS → Prop} : xcs (callX7_load W9 3) k = k (spX0_isOutermostAt W9) := rfl

theorem callX7_load_4 {W9 : xWd} {k : xSp cS → Prop} : xcs (callX7_load W9 4) k = k (spX0_isFitFor W9) := rfl

theorem callX7_load_5 {W9 : xWd} {k : xSp cS → Prop} : xcs (callX7_load W9 5) k = k (spX7_needState W9) := rfl

theorem callX7_load_6 {W9 : xWd} {k : xSp cS → Prop} : xcs (callX7_load W9 6) k = k (spX2_ship W9) := rfl

theorem crX7_load (l : Launch) (hl : l.stackTraces = false) (W9 : xWd) : xCallsOK l W9 (cI) (callX7_load W9) clX7_load RX7 wsX7_load 7 152 7 := by
  intro E A p e R s m args below meth c hI hF hL X
  exact List.forall_mem_cons.mpr ⟨⟨_, rfl, xCR_V X (by rw [hI]; exact (semX7_needBarge l hl W9)) gX7_load_X7_needBarge rfl rfl (by decide +kernel) (by rw [hF, hL]; decide)⟩,
    List.forall_mem_cons.mpr ⟨⟨_, rfl, xCR_V X (by rw [hI]; exact (semX7_needContract l hl W9)) gX7_load_X7_needContract rfl rfl (by decide +kernel) (by rw [hF, hL]; decide)⟩,
    List.forall_mem_cons.mpr ⟨⟨_, rfl, xCR_S X (by rw [hI]; exact (semX7_needWithin l hl W9)) gX7_load_X7_needWithin rfl (by decide +kernel) (by rw [hF, hL]; decide)⟩,
    List.forall_mem_cons.mpr ⟨⟨_, rfl, xCR_V X (by rw [hI]; exact (semX0_isOutermostAt l hl W9)) gX7_load_X0_isOutermostAt rfl rfl (by decide +kernel) (by rw [hF, hL]; decide)⟩,
    List.forall_mem_cons.mpr ⟨⟨_, rfl, xCR_V X (by rw [hI]; exact (semX0_isFitFor l hl W9)) gX7_load_X0_isFitFor rfl rfl (by decide +kernel) (by rw [hF, hL]; decide)⟩,
    List.forall_mem_cons.mpr ⟨⟨_, rfl, xCR_S X (by rw [hI]; exact (semX7_needState l hl W9)) gX7_load_X7_needState rfl (by decide +kernel) (by rw [hF, hL]; decide)⟩,
    List.forall_mem_cons.mpr ⟨⟨_, rfl, xCR_V X (by rw [hI]; exact (semX2_ship l hl W9)) gX7_load_X2_ship rfl rfl (by decide +kernel) (by rw [hF, hL]; decide)⟩,
    fun _ h => nomatch h⟩⟩⟩⟩⟩⟩⟩

def thfX7_load : Nat → String := fun n => match n with | 0 => "java/lang/IllegalStateException" | _ => ""

theorem thfX7_load_0 : thfX7_load 0 = "java/lang/IllegalStateException" := rfl

theorem trX7_load (l : Launch) (hl : l.stackTraces = false) (W9 : xWd) : xThrOK l W9 thfX7_load thX7_load RX7 cX7_load wsX7_load 7 152 7 := by
  intro A p e R s m args below meth c hF hL hb hx hml hown hts hAmb hlocks hext
  exact List.forall_mem_cons.mpr ⟨xTR_S (text := "too many would be loaded in this hour") hl hx hb hml hown hts hAmb hlocks hext (by decide +kernel) (ik := 171) (is := 173) (ic := 175) (by decide +kernel) (by decide +kernel) (by decide +kernel) (atin_of (by decide +kernel)) xng_ise xgood_ise (by decide +kernel) (by decide +kernel) (by decide +kernel) (by decide +kernel) (by decide +kernel) (by rw [hF, hL]; decide),
    fun _ h => nomatch h⟩

set_option maxHeartbeats 1000000 in
set_option maxRecDepth 20000 in
theorem semX7_load (l : Launch) (hl : l.stackTraces = false) (W9 : xWd) : xSem l W9 (cI) yX7_load wsX7_load 7 152 (spX7_load W9) := by
  refine xSem_of (call := callX7_load W9) (thrf := thfX7_load) cI_law (by decide +kernel) rfl ckX7_load usX7_load (crX7_load l hl W9) (trX7_load l hl W9) ?_ ?_
  · intro av S KF h
    obtain ⟨a, b, c, u, rfl, h⟩ := h
    exact ⟨by intro v hv; simp only [List.mem_cons, List.not_mem_nil, or_false] at hv; rcases hv with rfl | rfl | rfl | rfl <;> first | rfl | exact cat_rf, Nat.le_of_ble_eq_true rfl⟩
  intro av S KF h G hG
  obtain ⟨a, b, c, u, rfl, h⟩ := h
  rw [show (spX7_load W9).1 _ S = _ from spcX7_load] at hG
  try dsimp only at hG
  change G 0 [some (.ref a), some (.int b), some (.int c), some (.int u), none, none, none] [] S 0 0
  obtain ⟨h0, ⟨h1, h2⟩, ⟨h3, h4⟩, h5, ⟨⟨h6, h6b⟩, h7⟩, h8, hbad, hok⟩ := h

  by_cases q1 : 0 ≤ b ∧ b < cFi S (cRf S a 802) 2
  · by_cases q2 : 0 ≤ c ∧ c < cFi S (cRf S a 803) 2
    · have hz := hok ⟨q1, q2⟩
      obtain ⟨g1, g2⟩ := lAll_at h2 q1.1 q1.2
      obtain ⟨⟨b1, b2⟩, b3, b4, b5⟩ := h5 _ (lOk_in h2.1 q1.1 q1.2).2.2
      have b6 : cIn S (lG S (cRf S a 802) b.toNatClampNeg) 102 6 := ⟨b1, b2⟩
      obtain ⟨k1, k2⟩ := lAll_at h4 q2.1 q2.2
      have hp := h8 _ (lOk_in h4.1 q2.1 q2.2).2.2
      generalize hb0 : lG S (cRf S a 802) b.toNatClampNeg = g at *
      generalize hc0 : lG S (cRf S a 803) c.toNatClampNeg = e at *
      have hd : cK S (cRf S a 805) = 11 := h6b
      generalize hd0 : cRf S a 805 = d at *
      have n1 : (g = e) = False := eq_false (fun z => by rw [z] at g2; omega)
      have n2 : (e = g) = False := eq_false (fun z => by rw [z] at k2; omega)
      obtain ⟨p, hp8, ep⟩ := vp_in_of hp (by omega)
      have e0 : (cFi S e 302 < 0) = False := by rw [ep]; exact eq_false (nI_pos (by omega))
      have e1 : ((8 : Int32) ≤ cFi S e 302) = False := by rw [ep]; exact ge_nI hp8 (show 8 < 1000 by omega)
      by_cases w1 : 1 ≤ u ∧ u ≤ 12
      · obtain ⟨hno, hyes⟩ := hz.2 w1
        unfold gOut gFit at hno hyes
        unfold cLoad at hyes
        by_cases w2 : ((cFi S (cRf S g 102) 500 = -1 ∧ cFi S (cRf S g 102) 501 = cFi S e 302) ∧ rBh S (cRf S g 102) g 0 = 0)
        · have w2b : bi ((cFi S (cRf S g 102) 500 = -1 ∧ cFi S (cRf S g 102) 501 = cFi S e 302) ∧ rBh S (cRf S g 102) g 0 = 0) = 1 := bi_t w2
          generalize hF : ((if cFi S e 301 = 2 then cFi S g 101 = 2 else cFi S g 101 = 1 ∨ (cFi S g 101 = 0 ∧ cFi S e 301 = 0)) ∧ (cFi S g 105 = -1 ∨ cFi S g 105 = cFi S e 301) ∧ (cFr S g 104 = none ∨ cFr S g 104 = some e)) = F at *
          have dF : Decidable F := by rw [← hF]; infer_instance
          by_cases w3 : F
          · have w3b : bi ((if cFi S e 301 = 2 then cFi S g 101 = 2 else cFi S g 101 = 1 ∨ (cFi S g 101 = 0 ∧ cFi S e 301 = 0)) ∧ (cFi S g 105 = -1 ∨ cFi S g 105 = cFi S e 301) ∧ (cFr S g 104 = none ∨ cFr S g 104 = some e)) = 1 := bi_t (by rw [hF]; exact w3)
            refine xgo0 hG (fun fu hfu => ?_)
            simp only [↓cald_0, ↓calen, ↓callX7_load_0, ↓callX7_load_1, ↓callX7_load_2, ↓callX7_load_3, ↓callX7_load_4, ↓callX7_load_5, ↓callX7_load_6, ↓cast_0, ↓cg_1_3, ↓cg_3_1, ↓cg_3_2, ↓cg_3_4, ↓cg_8_5, cisa, ↓cp_1_3, ↓cp_1_5, ↓cpf_1_4, ↓cpn_1_4, ↓cpr_1_4, kb_12, kc_12, ki_0, ki_1, ↓vm_aload, ↓vm_aload_n, ↓vm_arraylength, ↓vm_astore, ↓vm_bipush, ↓vm_dup, ↓vm_dup2, ↓vm_getfield, ↓vm_goto, ↓vm_iadd, ↓vm_iaload, ↓vm_iastore, ↓vm_iconst, ↓vm_ifCond_eq, ↓vm_ifCond_lt, ↓vm_if_icmp_ge, ↓vm_if_icmp_gt, ↓vm_if_icmp_le, ↓vm_iload, ↓vm_iload_n, ↓vm_invokestatic, ↓vm_invokevirtual, ↓vm_ireturn, ↓vm_istore, ↓vm_newX, ↓vm_putfield, ↓xc_1, ↓xc_2, ↓xc_3, ↓tbX7_load_0, ↓tbX7_load_1, ↓tbX7_load_2, ↓tbX7_load_5, ↓tbX7_load_7, ↓tbX7_load_8, ↓tbX7_load_9, ↓tbX7_load_12, ↓tbX7_load_14, ↓tbX7_load_15, ↓tbX7_load_16, ↓tbX7_load_18, ↓tbX7_load_21, ↓tbX7_load_23, ↓tbX7_load_25, ↓tbX7_load_28, ↓tbX7_load_31, ↓tbX7_load_34, ↓tbX7_load_36, ↓tbX7_load_38, ↓tbX7_load_41, ↓tbX7_load_44, ↓tbX7_load_45, ↓tbX7_load_48, ↓tbX7_load_49, ↓tbX7_load_52, ↓tbX7_load_54, ↓tbX7_load_57, ↓tbX7_load_58, ↓tbX7_load_59, ↓tbX7_load_61, ↓tbX7_load_64, ↓tbX7_load_65, ↓tbX7_load_67, ↓tbX7_load_70, ↓tbX7_load_73, ↓tbX7_load_74, ↓tbX7_load_77, ↓tbX7_load_78, ↓tbX7_load_81, ↓tbX7_load_83, ↓tbX7_load_86, ↓tbX7_load_88, ↓tbX7_load_90, ↓tbX7_load_93, ↓tbX7_load_95, ↓tbX7_load_96, ↓tbX7_load_99, ↓tbX7_load_100, ↓tbX7_load_103, ↓tbX7_load_104, ↓tbX7_load_107, ↓tbX7_load_109, ↓tbX7_load_110, ↓tbX7_load_111, ↓tbX7_load_112, ↓tbX7_load_114, ↓tbX7_load_117, ↓tbX7_load_127, ↓tbX7_load_128, ↓tbX7_load_131, ↓tbX7_load_133, ↓tbX7_load_134, ↓tbX7_load_135, ↓tbX7_load_136, ↓tbX7_load_137, ↓tbX7_load_138, ↓tbX7_load_140, ↓tbX7_load_141, ↓tbX7_load_144, ↓tbX7_load_146, ↓tbX7_load_147, ↓tbX7_load_150, ↓tbX7_load_151, ↓tbX7_load_152, ↓tbX7_load_155, ↓tbX7_load_157, ↓tbX7_load_159, ↓tbX7_load_162, ↓tbX7_load_164, ↓tbX7_load_166, ↓tbX7_load_169, ↓tbX7_load_172, ↓tbX7_load_174, ↓tbX7_load_177, hfu, xstep0, xJ1_hit, xJ1_go, xJ2_hit1, xJ2_hit2, xJ2_go, ↓xif_t, ↓xif_f, seval, ↓xca_eq, ↓xre_l, ↓xre_r, xmask_t, xmask_f, xmask_nil, ↓xst_eq, xX_eq, eI_eq, eMc_eq, eMs_eq, eF_eq, eThr_eq, ↓xS1_mk, ↓xSI_mk, ↓xSR_mk, ↓xLI_0, ↓xLI_s, ↓xLR_0, ↓xLR_s, vRef_ref, vRef_null, vRef_rf, cat_int, cat_ref, cat_null, cat_rf, rf_some, rf_none, rf_null, rf_eq, rf_ref, ref_rf, ref_null, ref_ref, xOk_0, xOk_1, xOk_2r, xOk_2n, xOk_2f, vOpt_rf, vOpt_ref, vOpt_null, List.set_cons_zero, List.set_cons_succ, List.take_succ_cons, List.take_zero, List.drop_succ_cons, List.drop_zero, List.reverse_cons, List.reverse_nil, List.nil_append, List.cons_append, List.append_nil, List.length_cons, List.length_nil, List.map_cons, List.map_nil, List.sum_cons, List.sum_nil, Option.toList_some, Option.toList_none, xRecv_mk, true_and, and_true, true_implies, Nat.reduceAdd, Nat.reduceLeDiff, Nat.zero_le, Nat.le_refl, Nat.add_zero, Nat.zero_add, reduceIte, not_true_eq_false, not_false_eq_true, false_implies, and_self, implies_true, eq_self, Nat.reduceEqDiff, List.cons.injEq, xsn_1, xsn_2, false_and, and_false, or_false, false_or, or_true, true_or, xsn_3, xsn_4, cK_setI, cFi_setI, cFr_setI, cLen_setI, cRi_setI, cK_ast, cFi_ast, cFr_ast, cLen_ast, cRi_ast, cK_setR, cFi_setR, cFr_setR, ↓spwX7_needBarge, spcX7_needBarge, ↓spwX7_needContract, spcX7_needContract, ↓spwX7_needWithin, spcX7_needWithin, ↓spwX0_isOutermostAt, spcX0_isOutermostAt, ↓spwX0_isFitFor, spcX0_isFitFor, ↓spwX7_needState, spcX7_needState, ↓spwX2_ship, spcX2_ship, thfX7_load_0, h0, h1, h2, h3, h4, q1, q2, hb0, hc0, g2, k2, w1, b1, b2, b3, b4, b6, w2b, w3b, h6, hd0, hd, h7, hp, e0, e1, n1, n2]
            try simp only [xif_e]
            repeat' (first | with_reducible apply And.intro | with_reducible intro _)
            all_goals first | (apply hno; intro z; obtain ⟨-, ⟨z1, z2⟩, z3⟩ := z; grind) | (apply hyes; exact ⟨⟨w2, w3⟩, ⟨by grind, by grind⟩, by grind⟩)
          · have w3b : bi ((if cFi S e 301 = 2 then cFi S g 101 = 2 else cFi S g 101 = 1 ∨ (cFi S g 101 = 0 ∧ cFi S e 301 = 0)) ∧ (cFi S g 105 = -1 ∨ cFi S g 105 = cFi S e 301) ∧ (cFr S g 104 = none ∨ cFr S g 104 = some e)) = 0 := bi_f (by rw [hF]; exact w3)
            have h := hno (fun z => w3 z.1.2)
            refine xgo0 hG (fun fu hfu => ?_)
            simp only [↓cald_0, ↓calen, ↓callX7_load_0, ↓callX7_load_1, ↓callX7_load_2, ↓callX7_load_3, ↓callX7_load_4, ↓callX7_load_5, ↓callX7_load_6, ↓cast_0, ↓cg_1_3, ↓cg_3_1, ↓cg_3_2, ↓cg_3_4, ↓cg_8_5, cisa, ↓cp_1_3, ↓cp_1_5, ↓cpf_1_4, ↓cpn_1_4, ↓cpr_1_4, kb_12, kc_12, ki_0, ki_1, ↓vm_aload, ↓vm_aload_n, ↓vm_arraylength, ↓vm_astore, ↓vm_bipush, ↓vm_dup, ↓vm_dup2, ↓vm_getfield, ↓vm_goto, ↓vm_iadd, ↓vm_iaload, ↓vm_iastore, ↓vm_iconst, ↓vm_ifCond_eq, ↓vm_ifCond_lt, ↓vm_if_icmp_ge, ↓vm_if_icmp_gt, ↓vm_if_icmp_le, ↓vm_iload, ↓vm_iload_n, ↓vm_invokestatic, ↓vm_invokevirtual, ↓vm_ireturn, ↓vm_istore, ↓vm_newX, ↓vm_putfield, ↓xc_1, ↓xc_2, ↓xc_3, ↓tbX7_load_0, ↓tbX7_load_1, ↓tbX7_load_2, ↓tbX7_load_5, ↓tbX7_load_7, ↓tbX7_load_8, ↓tbX7_load_9, ↓tbX7_load_12, ↓tbX7_load_14, ↓tbX7_load_15, ↓tbX7_load_16, ↓tbX7_load_18, ↓tbX7_load_21, ↓tbX7_load_23, ↓tbX7_load_25, ↓tbX7_load_28, ↓tbX7_load_31, ↓tbX7_load_34, ↓tbX7_load_36, ↓tbX7_load_38, ↓tbX7_load_41, ↓tbX7_load_44, ↓tbX7_load_45, ↓tbX7_load_48, ↓tbX7_load_49, ↓tbX7_load_52, ↓tbX7_load_54, ↓tbX7_load_57, ↓tbX7_load_58, ↓tbX7_load_59, ↓tbX7_load_61, ↓tbX7_load_64, ↓tbX7_load_65, ↓tbX7_load_67, ↓tbX7_load_70, ↓tbX7_load_73, ↓tbX7_load_74, ↓tbX7_load_77, ↓tbX7_load_78, ↓tbX7_load_81, ↓tbX7_load_83, ↓tbX7_load_86, ↓tbX7_load_88, ↓tbX7_load_90, ↓tbX7_load_93, ↓tbX7_load_95, ↓tbX7_load_96, ↓tbX7_load_99, ↓tbX7_load_100, ↓tbX7_load_103, ↓tbX7_load_104, ↓tbX7_load_107, ↓tbX7_load_109, ↓tbX7_load_110, ↓tbX7_load_111, ↓tbX7_load_112, ↓tbX7_load_114, ↓tbX7_load_117, ↓tbX7_load_127, ↓tbX7_load_128, ↓tbX7_load_131, ↓tbX7_load_133, ↓tbX7_load_134, ↓tbX7_load_135, ↓tbX7_load_136, ↓tbX7_load_137, ↓tbX7_load_138, ↓tbX7_load_140, ↓tbX7_load_141, ↓tbX7_load_144, ↓tbX7_load_146, ↓tbX7_load_147, ↓tbX7_load_150, ↓tbX7_load_151, ↓tbX7_load_152, ↓tbX7_load_155, ↓tbX7_load_157, ↓tbX7_load_159, ↓tbX7_load_162, ↓tbX7_load_164, ↓tbX7_load_166, ↓tbX7_load_169, ↓tbX7_load_172, ↓tbX7_load_174, ↓tbX7_load_177, hfu, xstep0, xJ1_hit, xJ1_go, xJ2_hit1, xJ2_hit2, xJ2_go, ↓xif_t, ↓xif_f, seval, ↓xca_eq, ↓xre_l, ↓xre_r, xmask_t, xmask_f, xmask_nil, ↓xst_eq, xX_eq, eI_eq, eMc_eq, eMs_eq, eF_eq, eThr_eq, ↓xS1_mk, ↓xSI_mk, ↓xSR_mk, ↓xLI_0, ↓xLI_s, ↓xLR_0, ↓xLR_s, vRef_ref, vRef_null, vRef_rf, cat_int, cat_ref, cat_null, cat_rf, rf_some, rf_none, rf_null, rf_eq, rf_ref, ref_rf, ref_null, ref_ref, xOk_0, xOk_1, xOk_2r, xOk_2n, xOk_2f, vOpt_rf, vOpt_ref, vOpt_null, List.set_cons_zero, List.set_cons_succ, List.take_succ_cons, List.take_zero, List.drop_succ_cons, List.drop_zero, List.reverse_cons, List.reverse_nil, List.nil_append, List.cons_append, List.append_nil, List.length_cons, List.length_nil, List.map_cons, List.map_nil, List.sum_cons, List.sum_nil, Option.toList_some, Option.toList_none, xRecv_mk, true_and, and_true, true_implies, Nat.reduceAdd, Nat.reduceLeDiff, Nat.zero_le, Nat.le_refl, Nat.add_zero, Nat.zero_add, reduceIte, not_true_eq_false, not_false_eq_true, false_implies, and_self, implies_true, eq_self, Nat.reduceEqDiff, List.cons.injEq, xsn_1, xsn_2, false_and, and_false, or_false, false_or, or_true, true_or, xsn_3, xsn_4, cK_setI, cFi_setI, cFr_setI, cLen_setI, cRi_setI, cK_ast, cFi_ast, cFr_ast, cLen_ast, cRi_ast, cK_setR, cFi_setR, cFr_setR, ↓spwX7_needBarge, spcX7_needBarge, ↓spwX7_needContract, spcX7_needContract, ↓spwX7_needWithin, spcX7_needWithin, ↓spwX0_isOutermostAt, spcX0_isOutermostAt, ↓spwX0_isFitFor, spcX0_isFitFor, ↓spwX7_needState, spcX7_needState, ↓spwX2_ship, spcX2_ship, thfX7_load_0, h0, h1, h2, h3, h4, q1, q2, hb0, hc0, g2, k2, w1, b1, b2, b3, b4, b6, w2b, w3b]
            try simp only [xif_e]
            exact h
        · have w2b : bi ((cFi S (cRf S g 102) 500 = -1 ∧ cFi S (cRf S g 102) 501 = cFi S e 302) ∧ rBh S (cRf S g 102) g 0 = 0) = 0 := bi_f w2
          have h := hno (fun z => w2 z.1.1)
          refine xgo0 hG (fun fu hfu => ?_)
          simp only [↓cald_0, ↓calen, ↓callX7_load_0, ↓callX7_load_1, ↓callX7_load_2, ↓callX7_load_3, ↓callX7_load_4, ↓callX7_load_5, ↓callX7_load_6, ↓cast_0, ↓cg_1_3, ↓cg_3_1, ↓cg_3_2, ↓cg_3_4, ↓cg_8_5, cisa, ↓cp_1_3, ↓cp_1_5, ↓cpf_1_4, ↓cpn_1_4, ↓cpr_1_4, kb_12, kc_12, ki_0, ki_1, ↓vm_aload, ↓vm_aload_n, ↓vm_arraylength, ↓vm_astore, ↓vm_bipush, ↓vm_dup, ↓vm_dup2, ↓vm_getfield, ↓vm_goto, ↓vm_iadd, ↓vm_iaload, ↓vm_iastore, ↓vm_iconst, ↓vm_ifCond_eq, ↓vm_ifCond_lt, ↓vm_if_icmp_ge, ↓vm_if_icmp_gt, ↓vm_if_icmp_le, ↓vm_iload, ↓vm_iload_n, ↓vm_invokestatic, ↓vm_invokevirtual, ↓vm_ireturn, ↓vm_istore, ↓vm_newX, ↓vm_putfield, ↓xc_1, ↓xc_2, ↓xc_3, ↓tbX7_load_0, ↓tbX7_load_1, ↓tbX7_load_2, ↓tbX7_load_5, ↓tbX7_load_7, ↓tbX7_load_8, ↓tbX7_load_9, ↓tbX7_load_12, ↓tbX7_load_14, ↓tbX7_load_15, ↓tbX7_load_16, ↓tbX7_load_18, ↓tbX7_load_21, ↓tbX7_load_23, ↓tbX7_load_25, ↓tbX7_load_28, ↓tbX7_load_31, ↓tbX7_load_34, ↓tbX7_load_36, ↓tbX7_load_38, ↓tbX7_load_41, ↓tbX7_load_44, ↓tbX7_load_45, ↓tbX7_load_48, ↓tbX7_load_49, ↓tbX7_load_52, ↓tbX7_load_54, ↓tbX7_load_57, ↓tbX7_load_58, ↓tbX7_load_59, ↓tbX7_load_61, ↓tbX7_load_64, ↓tbX7_load_65, ↓tbX7_load_67, ↓tbX7_load_70, ↓tbX7_load_73, ↓tbX7_load_74, ↓tbX7_load_77, ↓tbX7_load_78, ↓tbX7_load_81, ↓tbX7_load_83, ↓tbX7_load_86, ↓tbX7_load_88, ↓tbX7_load_90, ↓tbX7_load_93, ↓tbX7_load_95, ↓tbX7_load_96, ↓tbX7_load_99, ↓tbX7_load_100, ↓tbX7_load_103, ↓tbX7_load_104, ↓tbX7_load_107, ↓tbX7_load_109, ↓tbX7_load_110, ↓tbX7_load_111, ↓tbX7_load_112, ↓tbX7_load_114, ↓tbX7_load_117, ↓tbX7_load_127, ↓tbX7_load_128, ↓tbX7_load_131, ↓tbX7_load_133, ↓tbX7_load_134, ↓tbX7_load_135, ↓tbX7_load_136, ↓tbX7_load_137, ↓tbX7_load_138, ↓tbX7_load_140, ↓tbX7_load_141, ↓tbX7_load_144, ↓tbX7_load_146, ↓tbX7_load_147, ↓tbX7_load_150, ↓tbX7_load_151, ↓tbX7_load_152, ↓tbX7_load_155, ↓tbX7_load_157, ↓tbX7_load_159, ↓tbX7_load_162, ↓tbX7_load_164, ↓tbX7_load_166, ↓tbX7_load_169, ↓tbX7_load_172, ↓tbX7_load_174, ↓tbX7_load_177, hfu, xstep0, xJ1_hit, xJ1_go, xJ2_hit1, xJ2_hit2, xJ2_go, ↓xif_t, ↓xif_f, seval, ↓xca_eq, ↓xre_l, ↓xre_r, xmask_t, xmask_f, xmask_nil, ↓xst_eq, xX_eq, eI_eq, eMc_eq, eMs_eq, eF_eq, eThr_eq, ↓xS1_mk, ↓xSI_mk, ↓xSR_mk, ↓xLI_0, ↓xLI_s, ↓xLR_0, ↓xLR_s, vRef_ref, vRef_null, vRef_rf, cat_int, cat_ref, cat_null, cat_rf, rf_some, rf_none, rf_null, rf_eq, rf_ref, ref_rf, ref_null, ref_ref, xOk_0, xOk_1, xOk_2r, xOk_2n, xOk_2f, vOpt_rf, vOpt_ref, vOpt_null, List.set_cons_zero, List.set_cons_succ, List.take_succ_cons, List.take_zero, List.drop_succ_cons, List.drop_zero, List.reverse_cons, List.reverse_nil, List.nil_append, List.cons_append, List.append_nil, List.length_cons, List.length_nil, List.map_cons, List.map_nil, List.sum_cons, List.sum_nil, Option.toList_some, Option.toList_none, xRecv_mk, true_and, and_true, true_implies, Nat.reduceAdd, Nat.reduceLeDiff, Nat.zero_le, Nat.le_refl, Nat.add_zero, Nat.zero_add, reduceIte, not_true_eq_false, not_false_eq_true, false_implies, and_self, implies_true, eq_self, Nat.reduceEqDiff, List.cons.injEq, xsn_1, xsn_2, false_and, and_false, or_false, false_or, or_true, true_or, xsn_3, xsn_4, cK_setI, cFi_setI, cFr_setI, cLen_setI, cRi_setI, cK_ast, cFi_ast, cFr_ast, cLen_ast, cRi_ast, cK_setR, cFi_setR, cFr_setR, ↓spwX7_needBarge, spcX7_needBarge, ↓spwX7_needContract, spcX7_needContract, ↓spwX7_needWithin, spcX7_needWithin, ↓spwX0_isOutermostAt, spcX0_isOutermostAt, ↓spwX0_isFitFor, spcX0_isFitFor, ↓spwX7_needState, spcX7_needState, ↓spwX2_ship, spcX2_ship, thfX7_load_0, h0, h1, h2, h3, h4, q1, q2, hb0, hc0, g2, k2, w1, b1, b2, b3, b4, b6, w2b]
          try simp only [xif_e]
          exact h
      · have h := hz.1 w1
        refine xgo hG (mb := []) (head := 20) (P := fun _ _ _ _ _ => False) (fun _ _ _ _ _ q => q.elim) (pc := 0) (fun fu hfu => ?_)
        simp only [↓cald_0, ↓calen, ↓callX7_load_0, ↓callX7_load_1, ↓callX7_load_2, ↓callX7_load_3, ↓callX7_load_4, ↓callX7_load_5, ↓callX7_load_6, ↓cast_0, ↓cg_1_3, ↓cg_3_1, ↓cg_3_2, ↓cg_3_4, ↓cg_8_5, cisa, ↓cp_1_3, ↓cp_1_5, ↓cpf_1_4, ↓cpn_1_4, ↓cpr_1_4, kb_12, kc_12, ki_0, ki_1, ↓vm_aload, ↓vm_aload_n, ↓vm_arraylength, ↓vm_astore, ↓vm_bipush, ↓vm_dup, ↓vm_dup2, ↓vm_getfield, ↓vm_goto, ↓vm_iadd, ↓vm_iaload, ↓vm_iastore, ↓vm_iconst, ↓vm_ifCond_eq, ↓vm_ifCond_lt, ↓vm_if_icmp_ge, ↓vm_if_icmp_gt, ↓vm_if_icmp_le, ↓vm_iload, ↓vm_iload_n, ↓vm_invokestatic, ↓vm_invokevirtual, ↓vm_ireturn, ↓vm_istore, ↓vm_newX, ↓vm_putfield, ↓xc_1, ↓xc_2, ↓xc_3, ↓tbX7_load_0, ↓tbX7_load_1, ↓tbX7_load_2, ↓tbX7_load_5, ↓tbX7_load_7, ↓tbX7_load_8, ↓tbX7_load_9, ↓tbX7_load_12, ↓tbX7_load_14, ↓tbX7_load_15, ↓tbX7_load_16, ↓tbX7_load_18, ↓tbX7_load_21, ↓tbX7_load_23, ↓tbX7_load_25, ↓tbX7_load_28, ↓tbX7_load_31, ↓tbX7_load_34, ↓tbX7_load_36, ↓tbX7_load_38, ↓tbX7_load_41, ↓tbX7_load_44, ↓tbX7_load_45, ↓tbX7_load_48, ↓tbX7_load_49, ↓tbX7_load_52, ↓tbX7_load_54, ↓tbX7_load_57, ↓tbX7_load_58, ↓tbX7_load_59, ↓tbX7_load_61, ↓tbX7_load_64, ↓tbX7_load_65, ↓tbX7_load_67, ↓tbX7_load_70, ↓tbX7_load_73, ↓tbX7_load_74, ↓tbX7_load_77, ↓tbX7_load_78, ↓tbX7_load_81, ↓tbX7_load_83, ↓tbX7_load_86, ↓tbX7_load_88, ↓tbX7_load_90, ↓tbX7_load_93, ↓tbX7_load_95, ↓tbX7_load_96, ↓tbX7_load_99, ↓tbX7_load_100, ↓tbX7_load_103, ↓tbX7_load_104, ↓tbX7_load_107, ↓tbX7_load_109, ↓tbX7_load_110, ↓tbX7_load_111, ↓tbX7_load_112, ↓tbX7_load_114, ↓tbX7_load_117, ↓tbX7_load_127, ↓tbX7_load_128, ↓tbX7_load_131, ↓tbX7_load_133, ↓tbX7_load_134, ↓tbX7_load_135, ↓tbX7_load_136, ↓tbX7_load_137, ↓tbX7_load_138, ↓tbX7_load_140, ↓tbX7_load_141, ↓tbX7_load_144, ↓tbX7_load_146, ↓tbX7_load_147, ↓tbX7_load_150, ↓tbX7_load_151, ↓tbX7_load_152, ↓tbX7_load_155, ↓tbX7_load_157, ↓tbX7_load_159, ↓tbX7_load_162, ↓tbX7_load_164, ↓tbX7_load_166, ↓tbX7_load_169, ↓tbX7_load_172, ↓tbX7_load_174, ↓tbX7_load_177, hfu, xstep0, xJ1_hit, xJ1_go, xJ2_hit1, xJ2_hit2, xJ2_go, ↓xif_t, ↓xif_f, seval, ↓xca_eq, ↓xre_l, ↓xre_r, xmask_t, xmask_f, xmask_nil, ↓xst_eq, xX_eq, eI_eq, eMc_eq, eMs_eq, eF_eq, eThr_eq, ↓xS1_mk, ↓xSI_mk, ↓xSR_mk, ↓xLI_0, ↓xLI_s, ↓xLR_0, ↓xLR_s, vRef_ref, vRef_null, vRef_rf, cat_int, cat_ref, cat_null, cat_rf, rf_some, rf_none, rf_null, rf_eq, rf_ref, ref_rf, ref_null, ref_ref, xOk_0, xOk_1, xOk_2r, xOk_2n, xOk_2f, vOpt_rf, vOpt_ref, vOpt_null, List.set_cons_zero, List.set_cons_succ, List.take_succ_cons, List.take_zero, List.drop_succ_cons, List.drop_zero, List.reverse_cons, List.reverse_nil, List.nil_append, List.cons_append, List.append_nil, List.length_cons, List.length_nil, List.map_cons, List.map_nil, List.sum_cons, List.sum_nil, Option.toList_some, Option.toList_none, xRecv_mk, true_and, and_true, true_implies, Nat.reduceAdd, Nat.reduceLeDiff, Nat.zero_le, Nat.le_refl, Nat.add_zero, Nat.zero_add, reduceIte, not_true_eq_false, not_false_eq_true, false_implies, and_self, implies_true, eq_self, Nat.reduceEqDiff, List.cons.injEq, xsn_1, xsn_2, false_and, and_false, or_false, false_or, or_true, true_or, xsn_3, xsn_4, cK_setI, cFi_setI, cFr_setI, cLen_setI, cRi_setI, cK_ast, cFi_ast, cFr_ast, cLen_ast, cRi_ast, cK_setR, cFi_setR, cFr_setR, ↓spwX7_needBarge, spcX7_needBarge, ↓spwX7_needContract, spcX7_needContract, ↓spwX7_needWithin, spcX7_needWithin, ↓spwX0_isOutermostAt, spcX0_isOutermostAt, ↓spwX0_isFitFor, spcX0_isFitFor, ↓spwX7_needState, spcX7_needState, ↓spwX2_ship, spcX2_ship, thfX7_load_0, h0, h1, h2, h3, h4, q1, q2, hb0, hc0, g2, k2, w1]
        try simp only [xif_e]
        exact h
    · have h := hbad (fun z => q2 z.2)
      refine xgo hG (mb := []) (head := 13) (P := fun _ _ _ _ _ => False) (fun _ _ _ _ _ q => q.elim) (pc := 0) (fun fu hfu => ?_)
      simp only [↓cald_0, ↓calen, ↓callX7_load_0, ↓callX7_load_1, ↓callX7_load_2, ↓callX7_load_3, ↓callX7_load_4, ↓callX7_load_5, ↓callX7_load_6, ↓cast_0, ↓cg_1_3, ↓cg_3_1, ↓cg_3_2, ↓cg_3_4, ↓cg_8_5, cisa, ↓cp_1_3, ↓cp_1_5, ↓cpf_1_4, ↓cpn_1_4, ↓cpr_1_4, kb_12, kc_12, ki_0, ki_1, ↓vm_aload, ↓vm_aload_n, ↓vm_arraylength, ↓vm_astore, ↓vm_bipush, ↓vm_dup, ↓vm_dup2, ↓vm_getfield, ↓vm_goto, ↓vm_iadd, ↓vm_iaload, ↓vm_iastore, ↓vm_iconst, ↓vm_ifCond_eq, ↓vm_ifCond_lt, ↓vm_if_icmp_ge, ↓vm_if_icmp_gt, ↓vm_if_icmp_le, ↓vm_iload, ↓vm_iload_n, ↓vm_invokestatic, ↓vm_invokevirtual, ↓vm_ireturn, ↓vm_istore, ↓vm_newX, ↓vm_putfield, ↓xc_1, ↓xc_2, ↓xc_3, ↓tbX7_load_0, ↓tbX7_load_1, ↓tbX7_load_2, ↓tbX7_load_5, ↓tbX7_load_7, ↓tbX7_load_8, ↓tbX7_load_9, ↓tbX7_load_12, ↓tbX7_load_14, ↓tbX7_load_15, ↓tbX7_load_16, ↓tbX7_load_18, ↓tbX7_load_21, ↓tbX7_load_23, ↓tbX7_load_25, ↓tbX7_load_28, ↓tbX7_load_31, ↓tbX7_load_34, ↓tbX7_load_36, ↓tbX7_load_38, ↓tbX7_load_41, ↓tbX7_load_44, ↓tbX7_load_45, ↓tbX7_load_48, ↓tbX7_load_49, ↓tbX7_load_52, ↓tbX7_load_54, ↓tbX7_load_57, ↓tbX7_load_58, ↓tbX7_load_59, ↓tbX7_load_61, ↓tbX7_load_64, ↓tbX7_load_65, ↓tbX7_load_67, ↓tbX7_load_70, ↓tbX7_load_73, ↓tbX7_load_74, ↓tbX7_load_77, ↓tbX7_load_78, ↓tbX7_load_81, ↓tbX7_load_83, ↓tbX7_load_86, ↓tbX7_load_88, ↓tbX7_load_90, ↓tbX7_load_93, ↓tbX7_load_95, ↓tbX7_load_96, ↓tbX7_load_99, ↓tbX7_load_100, ↓tbX7_load_103, ↓tbX7_load_104, ↓tbX7_load_107, ↓tbX7_load_109, ↓tbX7_load_110, ↓tbX7_load_111, ↓tbX7_load_112, ↓tbX7_load_114, ↓tbX7_load_117, ↓tbX7_load_127, ↓tbX7_load_128, ↓tbX7_load_131, ↓tbX7_load_133, ↓tbX7_load_134, ↓tbX7_load_135, ↓tbX7_load_136, ↓tbX7_load_137, ↓tbX7_load_138, ↓tbX7_load_140, ↓tbX7_load_141, ↓tbX7_load_144, ↓tbX7_load_146, ↓tbX7_load_147, ↓tbX7_load_150, ↓tbX7_load_151, ↓tbX7_load_152, ↓tbX7_load_155, ↓tbX7_load_157, ↓tbX7_load_159, ↓tbX7_load_162, ↓tbX7_load_164, ↓tbX7_load_166, ↓tbX7_load_169, ↓tbX7_load_172, ↓tbX7_load_174, ↓tbX7_load_177, hfu, xstep0, xJ1_hit, xJ1_go, xJ2_hit1, xJ2_hit2, xJ2_go, ↓xif_t, ↓xif_f, seval, ↓xca_eq, ↓xre_l, ↓xre_r, xmask_t, xmask_f, xmask_nil, ↓xst_eq, xX_eq, eI_eq, eMc_eq, eMs_eq, eF_eq, eThr_eq, ↓xS1_mk, ↓xSI_mk, ↓xSR_mk, ↓xLI_0, ↓xLI_s, ↓xLR_0, ↓xLR_s, vRef_ref, vRef_null, vRef_rf, cat_int, cat_ref, cat_null, cat_rf, rf_some, rf_none, rf_null, rf_eq, rf_ref, ref_rf, ref_null, ref_ref, xOk_0, xOk_1, xOk_2r, xOk_2n, xOk_2f, vOpt_rf, vOpt_ref, vOpt_null, List.set_cons_zero, List.set_cons_succ, List.take_succ_cons, List.take_zero, List.drop_succ_cons, List.drop_zero, List.reverse_cons, List.reverse_nil, List.nil_append, List.cons_append, List.append_nil, List.length_cons, List.length_nil, List.map_cons, List.map_nil, List.sum_cons, List.sum_nil, Option.toList_some, Option.toList_none, xRecv_mk, true_and, and_true, true_implies, Nat.reduceAdd, Nat.reduceLeDiff, Nat.zero_le, Nat.le_refl, Nat.add_zero, Nat.zero_add, reduceIte, not_true_eq_false, not_false_eq_true, false_implies, and_self, implies_true, eq_self, Nat.reduceEqDiff, List.cons.injEq, xsn_1, xsn_2, false_and, and_false, or_false, false_or, or_true, true_or, xsn_3, xsn_4, cK_setI, cFi_setI, cFr_setI, cLen_setI, cRi_setI, cK_ast, cFi_ast, cFr_ast, cLen_ast, cRi_ast, cK_setR, cFi_setR, cFr_setR, ↓spwX7_needBarge, spcX7_needBarge, ↓spwX7_needContract, spcX7_needContract, ↓spwX7_needWithin, spcX7_needWithin, ↓spwX0_isOutermostAt, spcX0_isOutermostAt, ↓spwX0_isFitFor, spcX0_isFitFor, ↓spwX7_needState, spcX7_needState, ↓spwX2_ship, spcX2_ship, thfX7_load_0, h0, h1, h2, h3, h4, q1, q2]
      try simp only [xif_e]
      exact h
  · have h := hbad (fun z => q1 z.1)
    refine xgo hG (mb := []) (head := 6) (P := fun _ _ _ _ _ => False) (fun _ _ _ _ _ q => q.elim) (pc := 0) (fun fu hfu => ?_)
    simp only [↓cald_0, ↓calen, ↓callX7_load_0, ↓callX7_load_1, ↓callX7_load_2, ↓callX7_load_3, ↓callX7_load_4, ↓callX7_load_5, ↓callX7_load_6, ↓cast_0, ↓cg_1_3, ↓cg_3_1, ↓cg_3_2, ↓cg_3_4, ↓cg_8_5, cisa, ↓cp_1_3, ↓cp_1_5, ↓cpf_1_4, ↓cpn_1_4, ↓cpr_1_4, kb_12, kc_12, ki_0, ki_1, ↓vm_aload, ↓vm_aload_n, ↓vm_arraylength, ↓vm_astore, ↓vm_bipush, ↓vm_dup, ↓vm_dup2, ↓vm_getfield, ↓vm_goto, ↓vm_iadd, ↓vm_iaload, ↓vm_iastore, ↓vm_iconst, ↓vm_ifCond_eq, ↓vm_ifCond_lt, ↓vm_if_icmp_ge, ↓vm_if_icmp_gt, ↓vm_if_icmp_le, ↓vm_iload, ↓vm_iload_n, ↓vm_invokestatic, ↓vm_invokevirtual, ↓vm_ireturn, ↓vm_istore, ↓vm_newX, ↓vm_putfield, ↓xc_1, ↓xc_2, ↓xc_3, ↓tbX7_load_0, ↓tbX7_load_1, ↓tbX7_load_2, ↓tbX7_load_5, ↓tbX7_load_7, ↓tbX7_load_8, ↓tbX7_load_9, ↓tbX7_load_12, ↓tbX7_load_14, ↓tbX7_load_15, ↓tbX7_load_16, ↓tbX7_load_18, ↓tbX7_load_21, ↓tbX7_load_23, ↓tbX7_load_25, ↓tbX7_load_28, ↓tbX7_load_31, ↓tbX7_load_34, ↓tbX7_load_36, ↓tbX7_load_38, ↓tbX7_load_41, ↓tbX7_load_44, ↓tbX7_load_45, ↓tbX7_load_48, ↓tbX7_load_49, ↓tbX7_load_52, ↓tbX7_load_54, ↓tbX7_load_57, ↓tbX7_load_58, ↓tbX7_load_59, ↓tbX7_load_61, ↓tbX7_load_64, ↓tbX7_load_65, ↓tbX7_load_67, ↓tbX7_load_70, ↓tbX7_load_73, ↓tbX7_load_74, ↓tbX7_load_77, ↓tbX7_load_78, ↓tbX7_load_81, ↓tbX7_load_83, ↓tbX7_load_86, ↓tbX7_load_88, ↓tbX7_load_90, ↓tbX7_load_93, ↓tbX7_load_95, ↓tbX7_load_96, ↓tbX7_load_99, ↓tbX7_load_100, ↓tbX7_load_103, ↓tbX7_load_104, ↓tbX7_load_107, ↓tbX7_load_109, ↓tbX7_load_110, ↓tbX7_load_111, ↓tbX7_load_112, ↓tbX7_load_114, ↓tbX7_load_117, ↓tbX7_load_127, ↓tbX7_load_128, ↓tbX7_load_131, ↓tbX7_load_133, ↓tbX7_load_134, ↓tbX7_load_135, ↓tbX7_load_136, ↓tbX7_load_137, ↓tbX7_load_138, ↓tbX7_load_140, ↓tbX7_load_141, ↓tbX7_load_144, ↓tbX7_load_146, ↓tbX7_load_147, ↓tbX7_load_150, ↓tbX7_load_151, ↓tbX7_load_152, ↓tbX7_load_155, ↓tbX7_load_157, ↓tbX7_load_159, ↓tbX7_load_162, ↓tbX7_load_164, ↓tbX7_load_166, ↓tbX7_load_169, ↓tbX7_load_172, ↓tbX7_load_174, ↓tbX7_load_177, hfu, xstep0, xJ1_hit, xJ1_go, xJ2_hit1, xJ2_hit2, xJ2_go, ↓xif_t, ↓xif_f, seval, ↓xca_eq, ↓xre_l, ↓xre_r, xmask_t, xmask_f, xmask_nil, ↓xst_eq, xX_eq, eI_eq, eMc_eq, eMs_eq, eF_eq, eThr_eq, ↓xS1_mk, ↓xSI_mk, ↓xSR_mk, ↓xLI_0, ↓xLI_s, ↓xLR_0, ↓xLR_s, vRef_ref, vRef_null, vRef_rf, cat_int, cat_ref, cat_null, cat_rf, rf_some, rf_none, rf_null, rf_eq, rf_ref, ref_rf, ref_null, ref_ref, xOk_0, xOk_1, xOk_2r, xOk_2n, xOk_2f, vOpt_rf, vOpt_ref, vOpt_null, List.set_cons_zero, List.set_cons_succ, List.take_succ_cons, List.take_zero, List.drop_succ_cons, List.drop_zero, List.reverse_cons, List.reverse_nil, List.nil_append, List.cons_append, List.append_nil, List.length_cons, List.length_nil, List.map_cons, List.map_nil, List.sum_cons, List.sum_nil, Option.toList_some, Option.toList_none, xRecv_mk, true_and, and_true, true_implies, Nat.reduceAdd, Nat.reduceLeDiff, Nat.zero_le, Nat.le_refl, Nat.add_zero, Nat.zero_add, reduceIte, not_true_eq_false, not_false_eq_true, false_implies, and_self, implies_true, eq_self, Nat.reduceEqDiff, List.cons.injEq, xsn_1, xsn_2, false_and, and_false, or_false, false_or, or_true, true_or, xsn_3, xsn_4, cK_setI, cFi_setI, cFr_setI, cLen_setI, cRi_setI, cK_ast, cFi_ast, cFr_ast, cLen_ast, cRi_ast, cK_setR, cFi_setR, cFr_setR, ↓spwX7_needBarge, spcX7_needBarge, ↓spwX7_needContract, spcX7_needContract, ↓spwX7_needWithin, spcX7_needWithin, ↓spwX0_isOutermostAt, spcX0_isOutermostAt, ↓spwX0_isFitFor, spcX0_isFitFor, ↓spwX7_needState, spcX7_needState, ↓spwX2_ship, spcX2_ship, thfX7_load_0, h0, h1, h2, q1]
    try simp only [xif_e]
    exact h

def tbX7_radio : List (Nat × xHint) := [(0, .aload_n 0, 0, 0, 0, []), (1, .iload_n 1, 1, 0, 0, []), (2, .invokevirtual 219, 0, 2, 8, []), (5, .astore 4, 4, 0, 0, []), (7, .aload_n 0, 0, 0, 0, []), (8, .iload_n 2, 2, 0, 0, []), (9, .invokevirtual 219, 0, 2, 8, []), (12, .astore 5, 5, 0, 0, []), (14, .aload 4, 4, 0, 0, []), (16, .aload 5, 5, 0, 0, []), (18, .if_acmp .eq 7, 25, 0, 0, []), (21, .iconst 1, 0, 0, 0, []), (22, .goto 4, 26, 0, 0, []), (25, .iconst 0, 0, 0, 0, []), (26, .invokestatic 131, 1, 1, 0, []), (29, .aload 4, 4, 0, 0, []), (31, .aload 5, 5, 0, 0, []), (33, .invokevirtual 267, 2, 2, 2, []), (36, .istore 6, 6, 0, 0, []), (38, .aload 4, 4, 0, 0, []), (40, .aload 5, 5, 0, 0, []), (42, .iload_n 3, 3, 0, 0, []), (43, .invokevirtual 271, 3, 3, 2, []), (46, .aload 5, 5, 0, 0, []), (48, .aload 4, 4, 0, 0, []), (50, .iload_n 3, 3, 0, 0, []), (51, .invokevirtual 271, 3, 3, 2, []), (54, .iload 6, 6, 0, 0, []), (56, .ireturn, 1, 0, 0, [])]
def clX7_radio : List (Instr × Nat × Nat × Nat) := [(.invokevirtual 219, 0, 2, 8), (.invokestatic 131, 1, 1, 0), (.invokevirtual 267, 2, 2, 2), (.invokevirtual 271, 3, 3, 2)]
def thX7_radio : List (Nat × Nat) := []
theorem ckX7_radio : tbX7_radio.all (xRow RX7 cX7_radio wsX7_radio vwCl [] clX7_radio thX7_radio 7 (yX7_radio.name == "<init>") (some .boolean)) = true := xRow_q 0xac06150f01b61d041905190f01b61d0519041906360b01b6051904198300b8030400a7040700a505190419053adb00b61c2a043adb00b61b2a 57 (by decide +kernel) (by decide +kernel)
theorem usX7_radio : xUse wsX7_radio vwCl [] = true := xUse_n
theorem tbX7_radio_0 {k : Instr → Nat → Nat → Nat → List Nat → Prop} : xse (xFind tbX7_radio 0) k = k (.aload_n 0) 0 0 0 [] := rfl
theorem tbX7_radio_1 {k : Instr → Nat → Nat → Nat → List Nat → Prop} : xse (xFind tbX7_radio 1) k = k (.iload_n 1) 1 0 0 [] := rfl
theorem tbX7_radio_2 {k : Instr → Nat → Nat → Nat → List Nat → Prop} : xse (xFind tbX7_radio 2) k = k (.invokevirtual 219) 0 2 8 [] := rfl
theorem tbX7_radio_5 {k : Instr → Nat → Nat → Nat → List Nat → Prop} : xse (xFind tbX7_radio 5) k = k (.astore 4) 4 0 0 [] := rfl
theorem tbX7_radio_7 {k : Instr → Nat → Nat → Nat → List Nat → Prop} : xse (xFind tbX7_radio 7) k = k (.aload_n 0) 0 0 0 [] := rfl
theorem tbX7_radio_8 {k : Instr → Nat → Nat → Nat → List Nat → Prop} : xse (xFind tbX7_radio 8) k = k (.iload_n 2) 2 0 0 [] := rfl
theorem tbX7_radio_9 {k : Instr → Nat → Nat → Nat → List Nat → Prop} : xse (xFind tbX7_radio 9) k = k (.invokevirtual 219) 0 2 8 [] := rfl
theorem tbX7_radio_12 {k : Instr → Nat → Nat → Nat → List Nat → Prop} : xse (xFind tbX7_radio 12) k = k (.astore 5) 5 0 0 [] := rfl
theorem tbX7_radio_14 {k : Instr → Nat → Nat → Nat → List Nat → Prop} : xse (xFind tbX7_radio 14) k = k (.aload 4) 4 0 0 [] := rfl
theorem tbX7_radio_16 {k : Instr → Nat → Nat → Nat → List Nat → Prop} : xse (xFind tbX7_radio 16) k = k (.aload 5) 5 0 0 [] := rfl
theorem tbX7_radio_18 {k : Instr → Nat → Nat → Nat → List Nat → Prop} : xse (xFind tbX7_radio 18) k = k (.if_acmp .eq 7) 25 0 0 [] := rfl
theorem tbX7_radio_21 {k : Instr → Nat → Nat → Nat → List Nat → Prop} : xse (xFind tbX7_radio 21) k = k (.iconst 1) 0 0 0 [] := rfl
theorem tbX7_radio_22 {k : Instr → Nat → Nat → Nat → List Nat → Prop} : xse (xFind tbX7_radio 22) k = k (.goto 4) 26 0 0 [] := rfl
theorem tbX7_radio_25 {k : Instr → Nat → Nat → Nat → List Nat → Prop} : xse (xFind tbX7_radio 25) k = k (.iconst 0) 0 0 0 [] := rfl
theorem tbX7_radio_26 {k : Instr → Nat → Nat → Nat → List Nat → Prop} : xse (xFind tbX7_radio 26) k = k (.invokestatic 131) 1 1 0 [] := rfl
theorem tbX7_radio_29 {k : Instr → Nat → Nat → Nat → List Nat → Prop} : xse (xFind tbX7_radio 29) k = k (.aload 4) 4 0 0 [] := rfl
theorem tbX7_radio_31 {k : Instr → Nat → Nat → Nat → List Nat → Prop} : xse (xFind tbX7_radio 31) k = k (.aload 5) 5 0 0 [] := rfl
theorem tbX7_radio_33 {k : Instr → Nat → Nat → Nat → List Nat → Prop} : xse (xFind tbX7_radio 33) k = k (.invokevirtual 267) 2 2 2 [] := rfl
theorem tbX7_radio_36 {k : Instr → Nat → Nat → Nat → List Nat → Prop} : xse (xFind tbX7_radio 36) k = k (.istore 6) 6 0 0 [] := rfl
theorem tbX7_radio_38 {k : Instr → Nat → Nat → Nat → List Nat → Prop} : xse (xFind tbX7_radio 38) k = k (.aload 4) 4 0 0 [] := rfl
theorem tbX7_radio_40 {k : Instr → Nat → Nat → Nat → List Nat → Prop} : xse (xFind tbX7_radio 40) k = k (.aload 5) 5 0 0 [] := rfl
theorem tbX7_radio_42 {k : Instr → Nat → Nat → Nat → List Nat → Prop} : xse (xFind tbX7_radio 42) k = k (.iload_n 3) 3 0 0 [] := rfl
theorem tbX7_radio_43 {k : Instr → Nat → Nat → Nat → List Nat → Prop} : xse (xFind tbX7_radio 43) k = k (.invokevirtual 271) 3 3 2 [] := rfl
theorem tbX7_radio_46 {k : Instr → Nat → Nat → Nat → List Nat → Prop} : xse (xFind tbX7_radio 46) k = k (.aload 5) 5 0 0 [] := rfl
theorem tbX7_radio_48 {k : Instr → Nat → Nat → Nat → List Nat → Prop} : xse (xFind tbX7_radio 48) k = k (.aload 4) 4 0 0 [] := rfl
theorem tbX7_radio_50 {k : Instr → Nat → Nat → Nat → List Nat → Prop} : xse (xFind tbX7_radio 50) k = k (.iload_n 3) 3 0 0 [] := rfl
theorem tbX7_radio_51 {k : Instr → Nat → Nat → Nat → List Nat → Prop} : xse (xFind tbX7_radio 51) k = k (.invokevirtual 271) 3 3 2 [] := rfl
theorem tbX7_radio_54 {k : Instr → Nat → Nat → Nat → List Nat → Prop} : xse (xFind tbX7_radio 54) k = k (.iload 6) 6 0 0 [] := rfl
theorem tbX7_radio_56 {k : Instr → Nat → Nat → Nat → List Nat → Prop} : xse (xFind tbX7_radio 56) k = k (.ireturn) 1 0 0 [] := rfl

def spX7_radio (W9 : xWd) : xSp cS := (fun av S => (3, 18), fun av S K => ∃ (a : Nat) (b : Int32) (c : Int32) (z : Int32), av = [.ref a, .int b, .int c, .int z] ∧ ((z = 0 ∨ z = 1) ∧ (cK S a = 9 ∧ (cIn S a 804 1 ∧ lAll S (cRf S a 804) 3) ∧ (¬ ((0 ≤ b ∧ b < cFi S (cRf S a 804) 2) ∧ 0 ≤ c ∧ c < cFi S (cRf S a 804) 2) → K (rX "java/lang/IndexOutOfBoundsException") S) ∧ (((0 ≤ b ∧ b < cFi S (cRf S a 804) 2) ∧ 0 ≤ c ∧ c < cFi S (cRf S a 804) 2) → (¬ (¬ (lG S (cRf S a 804) b.toNatClampNeg) = (lG S (cRf S a 804) c.toNatClampNeg)) → K (rX "java/lang/IllegalArgumentException") S) ∧ ((¬ (lG S (cRf S a 804) b.toNatClampNeg) = (lG S (cRf S a 804) c.toNatClampNeg)) → K (rI (bi (¬ cFi S (lG S (cRf S a 804) b.toNatClampNeg) 212 &&& 1 <<< (cFi S (lG S (cRf S a 804) c.toNatClampNeg) 200 &&& 31) = 0))) (cSetI (cSetI S (lG S (cRf S a 804) b.toNatClampNeg) 212 (if z = 0 then cFi S (lG S (cRf S a 804) b.toNatClampNeg) 212 &&& (1 <<< (cFi S (lG S (cRf S a 804) c.toNatClampNeg) 200 &&& 31) ^^^ -1) else cFi S (lG S (cRf S a 804) b.toNatClampNeg) 212 ||| 1 <<< (cFi S (lG S (cRf S a 804) c.toNatClampNeg) 200 &&& 31))) (lG S (cRf S a 804) c.toNatClampNeg) 212 (if z = 0 then cFi S (lG S (cRf S a 804) c.toNatClampNeg) 212 &&& (1 <<< (cFi S (lG S (cRf S a 804) b.toNatClampNeg) 200 &&& 31) ^^^ -1) else cFi S (lG S (cRf S a 804) c.toNatClampNeg) 212 ||| 1 <<< (cFi S (lG S (cRf S a 804) b.toNatClampNeg) 200 &&& 31))))))))
theorem spcX7_radio {av : List Value} {S : cS} {W9 : xWd} : (spX7_radio W9).1 av S = (3, 18) := rfl
theorem spwX7_radio {S : cS} {W9 : xWd} {K : xRes → cS → Prop} {a : Nat} {b : Int32} {c : Int32} {z : Int32} : (spX7_radio W9).2 [.ref a, .int b, .int c, .int z] S K = ((z = 0 ∨ z = 1) ∧ (cK S a = 9 ∧ (cIn S a 804 1 ∧ lAll S (cRf S a 804) 3) ∧ (¬ ((0 ≤ b ∧ b < cFi S (cRf S a 804) 2) ∧ 0 ≤ c ∧ c < cFi S (cRf S a 804) 2) → K (rX "java/lang/IndexOutOfBoundsException") S) ∧ (((0 ≤ b ∧ b < cFi S (cRf S a 804) 2) ∧ 0 ≤ c ∧ c < cFi S (cRf S a 804) 2) → (¬ (¬ (lG S (cRf S a 804) b.toNatClampNeg) = (lG S (cRf S a 804) c.toNatClampNeg)) → K (rX "java/lang/IllegalArgumentException") S) ∧ ((¬ (lG S (cRf S a 804) b.toNatClampNeg) = (lG S (cRf S a 804) c.toNatClampNeg)) → K (rI (bi (¬ cFi S (lG S (cRf S a 804) b.toNatClampNeg) 212 &&& 1 <<< (cFi S (lG S (cRf S a 804) c.toNatClampNeg) 200 &&& 31) = 0))) (cSetI (cSetI S (lG S (cRf S a 804) b.toNatClampNeg) 212 (if z = 0 then cFi S (lG S (cRf S a 804) b.toNatClampNeg) 212 &&& (1 <<< (cFi S (lG S (cRf S a 804) c.toNatClampNeg) 200 &&& 31) ^^^ -1) else cFi S (lG S (cRf S a 804) b.toNatClampNeg) 212 ||| 1 <<< (cFi S (lG S (cRf S a 804) c.toNatClampNeg) 200 &&& 31))) (lG S (cRf S a 804) c.toNatClampNeg) 212 (if z = 0 then cFi S (lG S (cRf S a 804) c.toNatClampNeg) 212 &&& (1 <<< (cFi S (lG S (cRf S a 804) b.toNatClampNeg) 200 &&& 31) ^^^ -1) else cFi S (lG S (cRf S a 804) c.toNatClampNeg) 212 ||| 1 <<< (cFi S (lG S (cRf S a 804) b.toNatClampNeg) 200 &&& 31))))))) :=
  propext ⟨fun h => by
    simp only [spX7_radio] at h
    obtain ⟨_, _, _, _, e, h⟩ := h
    simp only [List.cons.injEq, Value.int.injEq, Value.ref.injEq, rf_eq, and_true, true_and] at e
    obtain ⟨rfl, rfl, rfl, rfl⟩ := e
    exact h, fun h => ⟨_, _, _, _, rfl, h⟩⟩

def callX7_radio (W9 : xWd) : Nat → Option (xSp cS) := fun n => match n with | 0 => some (spX7_needBoat W9) | 1 => some (spX7_needArgument W9) | 2 => some (spX1_agreesWith W9) | 3 => some (spX1_agree W9) | _ => none

theorem callX7_radio_0 {W9 : xWd} {k : xSp cS → Prop} : xcs (callX7_radio W9 0) k = k (spX7_needBoat W9) := rfl

theorem callX7_radio_1 {W9 : xWd} {k : xSp cS → Prop} : xcs (callX7_radio W9 1) k = k (spX7_needArgument W9) := rfl

theorem callX7_radio_2 {W9 : xWd} {k : xSp cS → Prop} : xcs (callX7_radio W9 2) k = k (spX1_agreesWith W9) := rfl

theorem callX7_radio_3 {W9 : xWd} {k : xSp cS → Prop} : xcs (callX7_radio W9 3) k = k (spX1_agree W9) := rfl

theorem crX7_radio (l : Launch) (hl : l.stackTraces = false) (W9 : xWd) : xCallsOK l W9 (cI) (callX7_radio W9) clX7_radio RX7 wsX7_radio 7 111 7 := by
  intro E A p e R s m args below meth c hI hF hL X
  exact List.forall_mem_cons.mpr ⟨⟨_, rfl, xCR_V X (by rw [hI]; exact (semX7_needBoat l hl W9)) gX7_radio_X7_needBoat rfl rfl (by decide +kernel) (by rw [hF, hL]; decide)⟩,
    List.forall_mem_cons.mpr ⟨⟨_, rfl, xCR_S X (by rw [hI]; exact (semX7_needArgument l hl W9)) gX7_radio_X7_needArgument rfl (by decide +kernel) (by rw [hF, hL]; decide)⟩,
    List.forall_mem_cons.mpr ⟨⟨_, rfl, xCR_V X (by rw [hI]; exact (semX1_agreesWith l hl W9)) gX7_radio_X1_agreesWith rfl rfl (by decide +kernel) (by rw [hF, hL]; decide)⟩,
    List.forall_mem_cons.mpr ⟨⟨_, rfl, xCR_V X (by rw [hI]; exact (semX1_agree l hl W9)) gX7_radio_X1_agree rfl rfl (by decide +kernel) (by rw [hF, hL]; decide)⟩,
    fun _ h => nomatch h⟩⟩⟩⟩

set_option maxHeartbeats 1000000 in
set_option maxRecDepth 20000 in
theorem semX7_radio (l : Launch) (hl : l.stackTraces = false) (W9 : xWd) : xSem l W9 (cI) yX7_radio wsX7_radio 7 111 (spX7_radio W9) := by
  refine xSem_of (call := callX7_radio W9) (thrf := fun _ => "") cI_law (by decide +kernel) rfl ckX7_radio usX7_radio (crX7_radio l hl W9) xThrOK_nil ?_ ?_
  · intro av S KF h
    obtain ⟨a, b, c, z, rfl, h⟩ := h
    exact ⟨by intro v hv; simp only [List.mem_cons, List.not_mem_nil, or_false] at hv; rcases hv with rfl | rfl | rfl | rfl <;> first | rfl | exact cat_rf, Nat.le_of_ble_eq_true rfl⟩
  intro av S KF h G hG
  obtain ⟨a, b, c, z, rfl, h⟩ := h
  rw [show (spX7_radio W9).1 _ S = _ from spcX7_radio] at hG
  try dsimp only at hG
  change G 0 [some (.ref a), some (.int b), some (.int c), some (.int z), none, none, none] [] S 0 0
  obtain ⟨hz01, h0, ⟨h1, h2⟩, hbad, hok⟩ := h

  by_cases q1 : 0 ≤ b ∧ b < cFi S (cRf S a 804) 2
  · by_cases q2 : 0 ≤ c ∧ c < cFi S (cRf S a 804) 2
    · have hz := hok ⟨q1, q2⟩
      obtain ⟨g1, g2⟩ := lAll_at h2 q1.1 q1.2
      obtain ⟨k1, k2⟩ := lAll_at h2 q2.1 q2.2
      generalize hb0 : lG S (cRf S a 804) b.toNatClampNeg = g at *
      generalize hc0 : lG S (cRf S a 804) c.toNatClampNeg = e at *
      by_cases w : g = e
      · have h := hz.1 (fun y => y w)
        refine xgo hG (mb := []) (head := 33) (P := fun _ _ _ _ _ => False) (fun _ _ _ _ _ q => q.elim) (pc := 0) (fun fu hfu => ?_)
        simp only [↓callX7_radio_0, ↓callX7_radio_1, ↓callX7_radio_2, ↓callX7_radio_3, cisa, ki_0, ki_1, ↓vm_aload, ↓vm_aload_n, ↓vm_astore, ↓vm_goto, ↓vm_iconst, ↓vm_if_acmp_eq, ↓vm_iload, ↓vm_iload_n, ↓vm_invokestatic, ↓vm_invokevirtual, ↓vm_ireturn, ↓vm_istore, ↓xc_1, ↓xc_2, ↓xc_3, ↓tbX7_radio_0, ↓tbX7_radio_1, ↓tbX7_radio_2, ↓tbX7_radio_5, ↓tbX7_radio_7, ↓tbX7_radio_8, ↓tbX7_radio_9, ↓tbX7_radio_12, ↓tbX7_radio_14, ↓tbX7_radio_16, ↓tbX7_radio_18, ↓tbX7_radio_21, ↓tbX7_radio_22, ↓tbX7_radio_25, ↓tbX7_radio_26, ↓tbX7_radio_29, ↓tbX7_radio_31, ↓tbX7_radio_33, ↓tbX7_radio_36, ↓tbX7_radio_38, ↓tbX7_radio_40, ↓tbX7_radio_42, ↓tbX7_radio_43, ↓tbX7_radio_46, ↓tbX7_radio_48, ↓tbX7_radio_50, ↓tbX7_radio_51, ↓tbX7_radio_54, ↓tbX7_radio_56, hfu, xstep0, xJ1_hit, xJ1_go, xJ2_hit1, xJ2_hit2, xJ2_go, ↓xif_t, ↓xif_f, seval, ↓xca_eq, ↓xre_l, ↓xre_r, xmask_t, xmask_f, xmask_nil, ↓xst_eq, xX_eq, eI_eq, eMc_eq, eMs_eq, eF_eq, eThr_eq, ↓xS1_mk, ↓xSI_mk, ↓xSR_mk, ↓xLI_0, ↓xLI_s, ↓xLR_0, ↓xLR_s, vRef_ref, vRef_null, vRef_rf, cat_int, cat_ref, cat_null, cat_rf, rf_some, rf_none, rf_null, rf_eq, rf_ref, ref_rf, ref_null, ref_ref, xOk_0, xOk_1, xOk_2r, xOk_2n, xOk_2f, vOpt_rf, vOpt_ref, vOpt_null, List.set_cons_zero, List.set_cons_succ, List.take_succ_cons, List.take_zero, List.drop_succ_cons, List.drop_zero, List.reverse_cons, List.reverse_nil, List.nil_append, List.cons_append, List.append_nil, List.length_cons, List.length_nil, List.map_cons, List.map_nil, List.sum_cons, List.sum_nil, Option.toList_some, Option.toList_none, xRecv_mk, true_and, and_true, true_implies, Nat.reduceAdd, Nat.reduceLeDiff, Nat.zero_le, Nat.le_refl, Nat.add_zero, Nat.zero_add, reduceIte, not_true_eq_false, not_false_eq_true, false_implies, and_self, implies_true, eq_self, Nat.reduceEqDiff, List.cons.injEq, xsn_1, xsn_2, false_and, and_false, or_false, false_or, or_true, true_or, xsn_3, xsn_4, cK_setI, cFi_setI, cFr_setI, cLen_setI, cRi_setI, ↓spwX7_needBoat, spcX7_needBoat, ↓spwX7_needArgument, spcX7_needArgument, ↓spwX1_agreesWith, spcX1_agreesWith, ↓spwX1_agree, spcX1_agree, h0, h1, h2, q1, q2, hb0, hc0, g2, k2, w]
        try simp only [xif_e]
        exact h
      · have h := hz.2 w
        have n1 : (e = g) = False := eq_false (fun y => w y.symm)
        have n2 : (g = e) = False := eq_false w
        refine xgo0 hG (fun fu hfu => ?_)
        simp only [↓callX7_radio_0, ↓callX7_radio_1, ↓callX7_radio_2, ↓callX7_radio_3, cisa, ki_0, ki_1, ↓vm_aload, ↓vm_aload_n, ↓vm_astore, ↓vm_goto, ↓vm_iconst, ↓vm_if_acmp_eq, ↓vm_iload, ↓vm_iload_n, ↓vm_invokestatic, ↓vm_invokevirtual, ↓vm_ireturn, ↓vm_istore, ↓xc_1, ↓xc_2, ↓xc_3, ↓tbX7_radio_0, ↓tbX7_radio_1, ↓tbX7_radio_2, ↓tbX7_radio_5, ↓tbX7_radio_7, ↓tbX7_radio_8, ↓tbX7_radio_9, ↓tbX7_radio_12, ↓tbX7_radio_14, ↓tbX7_radio_16, ↓tbX7_radio_18, ↓tbX7_radio_21, ↓tbX7_radio_22, ↓tbX7_radio_25, ↓tbX7_radio_26, ↓tbX7_radio_29, ↓tbX7_radio_31, ↓tbX7_radio_33, ↓tbX7_radio_36, ↓tbX7_radio_38, ↓tbX7_radio_40, ↓tbX7_radio_42, ↓tbX7_radio_43, ↓tbX7_radio_46, ↓tbX7_radio_48, ↓tbX7_radio_50, ↓tbX7_radio_51, ↓tbX7_radio_54, ↓tbX7_radio_56, hfu, xstep0, xJ1_hit, xJ1_go, xJ2_hit1, xJ2_hit2, xJ2_go, ↓xif_t, ↓xif_f, seval, ↓xca_eq, ↓xre_l, ↓xre_r, xmask_t, xmask_f, xmask_nil, ↓xst_eq, xX_eq, eI_eq, eMc_eq, eMs_eq, eF_eq, eThr_eq, ↓xS1_mk, ↓xSI_mk, ↓xSR_mk, ↓xLI_0, ↓xLI_s, ↓xLR_0, ↓xLR_s, vRef_ref, vRef_null, vRef_rf, cat_int, cat_ref, cat_null, cat_rf, rf_some, rf_none, rf_null, rf_eq, rf_ref, ref_rf, ref_null, ref_ref, xOk_0, xOk_1, xOk_2r, xOk_2n, xOk_2f, vOpt_rf, vOpt_ref, vOpt_null, List.set_cons_zero, List.set_cons_succ, List.take_succ_cons, List.take_zero, List.drop_succ_cons, List.drop_zero, List.reverse_cons, List.reverse_nil, List.nil_append, List.cons_append, List.append_nil, List.length_cons, List.length_nil, List.map_cons, List.map_nil, List.sum_cons, List.sum_nil, Option.toList_some, Option.toList_none, xRecv_mk, true_and, and_true, true_implies, Nat.reduceAdd, Nat.reduceLeDiff, Nat.zero_le, Nat.le_refl, Nat.add_zero, Nat.zero_add, reduceIte, not_true_eq_false, not_false_eq_true, false_implies, and_self, implies_true, eq_self, Nat.reduceEqDiff, List.cons.injEq, xsn_1, xsn_2, false_and, and_false, or_false, false_or, or_true, true_or, xsn_3, xsn_4, cK_setI, cFi_setI, cFr_setI, cLen_setI, cRi_setI, ↓spwX7_needBoat, spcX7_needBoat, ↓spwX7_needArgument, spcX7_needArgument, ↓spwX1_agreesWith, spcX1_agreesWith, ↓spwX1_agree, spcX1_agree, h0, h1, h2, q1, q2, hb0, hc0, g2, k2, n1, n2, hz01, bi_01]
        try simp only [xif_e]
        exact h
    · have h := hbad (fun z => q2 z.2)
      refine xgo hG (mb := []) (head := 13) (P := fun _ _ _ _ _ => False) (fun _ _ _ _ _ q => q.elim) (pc := 0) (fun fu hfu => ?_)
      simp only [↓callX7_radio_0, ↓callX7_radio_1, ↓callX7_radio_2, ↓callX7_radio_3, cisa, ki_0, ki_1, ↓vm_aload, ↓vm_aload_n, ↓vm_astore, ↓vm_goto, ↓vm_iconst, ↓vm_if_acmp_eq, ↓vm_iload, ↓vm_iload_n, ↓vm_invokestatic, ↓vm_invokevirtual, ↓vm_ireturn, ↓vm_istore, ↓xc_1, ↓xc_2, ↓xc_3, ↓tbX7_radio_0, ↓tbX7_radio_1, ↓tbX7_radio_2, ↓tbX7_radio_5, ↓tbX7_radio_7, ↓tbX7_radio_8, ↓tbX7_radio_9, ↓tbX7_radio_12, ↓tbX7_radio_14, ↓tbX7_radio_16, ↓tbX7_radio_18, ↓tbX7_radio_21, ↓tbX7_radio_22, ↓tbX7_radio_25, ↓tbX7_radio_26, ↓tbX7_radio_29, ↓tbX7_radio_31, ↓tbX7_radio_33, ↓tbX7_radio_36, ↓tbX7_radio_38, ↓tbX7_radio_40, ↓tbX7_radio_42, ↓tbX7_radio_43, ↓tbX7_radio_46, ↓tbX7_radio_48, ↓tbX7_radio_50, ↓tbX7_radio_51, ↓tbX7_radio_54, ↓tbX7_radio_56, hfu, xstep0, xJ1_hit, xJ1_go, xJ2_hit1, xJ2_hit2, xJ2_go, ↓xif_t, ↓xif_f, seval, ↓xca_eq, ↓xre_l, ↓xre_r, xmask_t, xmask_f, xmask_nil, ↓xst_eq, xX_eq, eI_eq, eMc_eq, eMs_eq, eF_eq, eThr_eq, ↓xS1_mk, ↓xSI_mk, ↓xSR_mk, ↓xLI_0, ↓xLI_s, ↓xLR_0, ↓xLR_s, vRef_ref, vRef_null, vRef_rf, cat_int, cat_ref, cat_null, cat_rf, rf_some, rf_none, rf_null, rf_eq, rf_ref, ref_rf, ref_null, ref_ref, xOk_0, xOk_1, xOk_2r, xOk_2n, xOk_2f, vOpt_rf, vOpt_ref, vOpt_null, List.set_cons_zero, List.set_cons_succ, List.take_succ_cons, List.take_zero, List.drop_succ_cons, List.drop_zero, List.reverse_cons, List.reverse_nil, List.nil_append, List.cons_append, List.append_nil, List.length_cons, List.length_nil, List.map_cons, List.map_nil, List.sum_cons, List.sum_nil, Option.toList_some, Option.toList_none, xRecv_mk, true_and, and_true, true_implies, Nat.reduceAdd, Nat.reduceLeDiff, Nat.zero_le, Nat.le_refl, Nat.add_zero, Nat.zero_add, reduceIte, not_true_eq_false, not_false_eq_true, false_implies, and_self, implies_true, eq_self, Nat.reduceEqDiff, List.cons.injEq, xsn_1, xsn_2, false_and, and_false, or_false, false_or, or_true, true_or, xsn_3, xsn_4, cK_setI, cFi_setI, cFr_setI, cLen_setI, cRi_setI, ↓spwX7_needBoat, spcX7_needBoat, ↓spwX7_needArgument, spcX7_needArgument, ↓spwX1_agreesWith, spcX1_agreesWith, ↓spwX1_agree, spcX1_agree, h0, h1, h2, q1, q2]
      try simp only [xif_e]
      exact h
  · have h := hbad (fun z => q1 z.1)
    refine xgo hG (mb := []) (head := 6) (P := fun _ _ _ _ _ => False) (fun _ _ _ _ _ q => q.elim) (pc := 0) (fun fu hfu => ?_)
    simp only [↓callX7_radio_0, ↓callX7_radio_1, ↓callX7_radio_2, ↓callX7_radio_3, cisa, ki_0, ki_1, ↓vm_aload, ↓vm_aload_n, ↓vm_astore, ↓vm_goto, ↓vm_iconst, ↓vm_if_acmp_eq, ↓vm_iload, ↓vm_iload_n, ↓vm_invokestatic, ↓vm_invokevirtual, ↓vm_ireturn, ↓vm_istore, ↓xc_1, ↓xc_2, ↓xc_3, ↓tbX7_radio_0, ↓tbX7_radio_1, ↓tbX7_radio_2, ↓tbX7_radio_5, ↓tbX7_radio_7, ↓tbX7_radio_8, ↓tbX7_radio_9, ↓tbX7_radio_12, ↓tbX7_radio_14, ↓tbX7_radio_16, ↓tbX7_radio_18, ↓tbX7_radio_21, ↓tbX7_radio_22, ↓tbX7_radio_25, ↓tbX7_radio_26, ↓tbX7_radio_29, ↓tbX7_radio_31, ↓tbX7_radio_33, ↓tbX7_radio_36, ↓tbX7_radio_38, ↓tbX7_radio_40, ↓tbX7_radio_42, ↓tbX7_radio_43, ↓tbX7_radio_46, ↓tbX7_radio_48, ↓tbX7_radio_50, ↓tbX7_radio_51, ↓tbX7_radio_54, ↓tbX7_radio_56, hfu, xstep0, xJ1_hit, xJ1_go, xJ2_hit1, xJ2_hit2, xJ2_go, ↓xif_t, ↓xif_f, seval, ↓xca_eq, ↓xre_l, ↓xre_r, xmask_t, xmask_f, xmask_nil, ↓xst_eq, xX_eq, eI_eq, eMc_eq, eMs_eq, eF_eq, eThr_eq, ↓xS1_mk, ↓xSI_mk, ↓xSR_mk, ↓xLI_0, ↓xLI_s, ↓xLR_0, ↓xLR_s, vRef_ref, vRef_null, vRef_rf, cat_int, cat_ref, cat_null, cat_rf, rf_some, rf_none, rf_null, rf_eq, rf_ref, ref_rf, ref_null, ref_ref, xOk_0, xOk_1, xOk_2r, xOk_2n, xOk_2f, vOpt_rf, vOpt_ref, vOpt_null, List.set_cons_zero, List.set_cons_succ, List.take_succ_cons, List.take_zero, List.drop_succ_cons, List.drop_zero, List.reverse_cons, List.reverse_nil, List.nil_append, List.cons_append, List.append_nil, List.length_cons, List.length_nil, List.map_cons, List.map_nil, List.sum_cons, List.sum_nil, Option.toList_some, Option.toList_none, xRecv_mk, true_and, and_true, true_implies, Nat.reduceAdd, Nat.reduceLeDiff, Nat.zero_le, Nat.le_refl, Nat.add_zero, Nat.zero_add, reduceIte, not_true_eq_false, not_false_eq_true, false_implies, and_self, implies_true, eq_self, Nat.reduceEqDiff, List.cons.injEq, xsn_1, xsn_2, false_and, and_false, or_false, false_or, or_true, true_or, xsn_3, xsn_4, cK_setI, cFi_setI, cFr_setI, cLen_setI, cRi_setI, ↓spwX7_needBoat, spcX7_needBoat, ↓spwX7_needArgument, spcX7_needArgument, ↓spwX1_agreesWith, spcX1_agreesWith, ↓spwX1_agree, spcX1_agree, h0, h1, h2, q1]
    try simp only [xif_e]
    exact h
