/-! The class: a place redone. -/
def cPA (S : cS) (o n : Nat) (w : Int32) : Int32 :=
  if ltO S o 0 1 w n >>> (16 &&& 31) = 0 then ltO S o 0 1 w n &&& 255
  else (if ltO S o 2 3 (ltO S o 0 1 w n &&& 255) n >>> (16 &&& 31) = 2 then 10 else 20) + (ltO S o 2 3 (ltO S o 0 1 w n &&& 255) n &&& 255)

def tbX7_placeAnew : List (Nat × xHint) := [(0, .aload_n 0, 0, 0, 0, []), (1, .iload_n 1, 1, 0, 0, []), (2, .invokevirtual 153, 0, 2, 8, []), (5, .astore_n 2, 2, 0, 0, []), (6, .aload_n 0, 0, 0, 0, []), (7, .getfield 35, 8, 6, 2, []), (10, .aload_n 2, 2, 0, 0, []), (11, .getfield 122, 1, 0, 0, []), (14, .invokevirtual 366, 1, 2, 7, []), (17, .istore_n 3, 3, 0, 0, []), (18, .iload_n 3, 3, 0, 0, []), (19, .invokestatic 369, 2, 1, 0, []), (22, .ifCond .ne 8, 30, 0, 0, []), (25, .iload_n 3, 3, 0, 0, []), (26, .invokestatic 372, 3, 1, 0, []), (29, .ireturn, 0, 0, 0, []), (30, .aload_n 0, 0, 0, 0, []), (31, .getfield 35, 8, 6, 2, []), (34, .iload_n 3, 3, 0, 0, []), (35, .invokestatic 372, 3, 1, 0, []), (38, .invokevirtual 374, 4, 2, 7, []), (41, .istore 4, 4, 0, 0, []), (43, .iload 4, 4, 0, 0, []), (45, .invokestatic 369, 2, 1, 0, []), (48, .iconst 2, 0, 0, 0, []), (49, .if_icmp .ne 7, 56, 0, 0, []), (52, .iconst 1, 0, 0, 0, []), (53, .goto 4, 57, 0, 0, []), (56, .iconst 0, 0, 0, 0, []), (57, .istore 5, 5, 0, 0, []), (59, .iload 5, 5, 0, 0, []), (61, .ifCond .eq 8, 69, 0, 0, []), (64, .bipush 10, 0, 0, 0, []), (66, .goto 5, 71, 0, 0, []), (69, .bipush 20, 0, 0, 0, []), (71, .iload 4, 4, 0, 0, []), (73, .invokestatic 372, 3, 1, 0, []), (76, .iadd, 0, 0, 0, []), (77, .ireturn, 0, 0, 0, [])]
def clX7_placeAnew : List (Instr × Nat × Nat × Nat) := [(.invokevirtual 153, 0, 2, 8), (.invokevirtual 366, 1, 2, 7), (.invokestatic 369, 2, 1, 0), (.invokestatic 372, 3, 1, 0), (.invokevirtual 374, 4, 2, 7)]
def thX7_placeAnew : List (Nat × Nat) := []
theorem ckX7_placeAnew : tbX7_placeAnew.all (xRow RX7 cX7_placeAnew wsX7_placeAnew vwCl [1, 8] clX7_placeAnew thX7_placeAnew 6 (yX7_placeAnew.name == "<init>") (some .int)) = true := xRow_q 0xac607401b8041514100500a70a1008009905150536030400a7040700a0057101b8041504367601b67401b81d2300b42aac7401b81d08009a7101b81d3e6e01b67a00b42c2300b42a4d9900b61b2a 78 (by decide +kernel) (by decide +kernel)
theorem usX7_placeAnew : xUse wsX7_placeAnew vwCl [1, 8] = true := xUse_g rfl (lw_good lwl_X7_placeAnew lwl_X00 (by decide +kernel)) (xUse_g rfl (lw_good lwl_X7_placeAnew lwl_X70 (by decide +kernel)) xUse_n)
theorem tbX7_placeAnew_0 {k : Instr → Nat → Nat → Nat → List Nat → Prop} : xse (xFind tbX7_placeAnew 0) k = k (.aload_n 0) 0 0 0 [] := rfl
theorem tbX7_placeAnew_1 {k : Instr → Nat → Nat → Nat → List Nat → Prop} : xse (xFind tbX7_placeAnew 1) k = k (.iload_n 1) 1 0 0 [] := rfl
theorem tbX7_placeAnew_2 {k : Instr → Nat → Nat → Nat → List Nat → Prop} : xse (xFind tbX7_placeAnew 2) k = k (.invokevirtual 153) 0 2 8 [] := rfl
theorem tbX7_placeAnew_5 {k : Instr → Nat → Nat → Nat → List Nat → Prop} : xse (xFind tbX7_placeAnew 5) k = k (.astore_n 2) 2 0 0 [] := rfl
theorem tbX7_placeAnew_6 {k : Instr → Nat → Nat → Nat → List Nat → Prop} : xse (xFind tbX7_placeAnew 6) k = k (.aload_n 0) 0 0 0 [] := rfl
theorem tbX7_placeAnew_7 {k : Instr → Nat → Nat → Nat → List Nat → Prop} : xse (xFind tbX7_placeAnew 7) k = k (.getfield 35) 8 6 2 [] := rfl
theorem tbX7_placeAnew_10 {k : Instr → Nat → Nat → Nat → List Nat → Prop} : xse (xFind tbX7_placeAnew 10) k = k (.aload_n 2) 2 0 0 [] := rfl
theorem tbX7_placeAnew_11 {k : Instr → Nat → Nat → Nat → List Nat → Prop} : xse (xFind tbX7_placeAnew 11) k = k (.getfield 122) 1 0 0 [] := rfl
theorem tbX7_placeAnew_14 {k : Instr → Nat → Nat → Nat → List Nat → Prop} : xse (xFind tbX7_placeAnew 14) k = k (.invokevirtual 366) 1 2 7 [] := rfl
theorem tbX7_placeAnew_17 {k : Instr → Nat → Nat → Nat → List Nat → Prop} : xse (xFind tbX7_placeAnew 17) k = k (.istore_n 3) 3 0 0 [] := rfl
theorem tbX7_placeAnew_18 {k : Instr → Nat → Nat → Nat → List Nat → Prop} : xse (xFind tbX7_placeAnew 18) k = k (.iload_n 3) 3 0 0 [] := rfl
theorem tbX7_placeAnew_19 {k : Instr → Nat → Nat → Nat → List Nat → Prop} : xse (xFind tbX7_placeAnew 19) k = k (.invokestatic 369) 2 1 0 [] := rfl
theorem tbX7_placeAnew_22 {k : Instr → Nat → Nat → Nat → List Nat → Prop} : xse (xFind tbX7_placeAnew 22) k = k (.ifCond .ne 8) 30 0 0 [] := rfl
theorem tbX7_placeAnew_25 {k : Instr → Nat → Nat → Nat → List Nat → Prop} : xse (xFind tbX7_placeAnew 25) k = k (.iload_n 3) 3 0 0 [] := rfl
theorem tbX7_placeAnew_26 {k : Instr → Nat → Nat → Nat → List Nat → Prop} : xse (xFind tbX7_placeAnew 26) k = k (.invokestatic 372) 3 1 0 [] := rfl
theorem tbX7_placeAnew_29 {k : Instr → Nat → Nat → Nat → List Nat → Prop} : xse (xFind tbX7_placeAnew 29) k = k (.ireturn) 0 0 0 [] := rfl
theorem tbX7_placeAnew_30 {k : Instr → Nat → Nat → Nat → List Nat → Prop} : xse (xFind tbX7_placeAnew 30) k = k (.aload_n 0) 0 0 0 [] := rfl
theorem tbX7_placeAnew_31 {k : Instr → Nat → Nat → Nat → List Nat → Prop} : xse (xFind tbX7_placeAnew 31) k = k (.getfield 35) 8 6 2 [] := rfl
theorem tbX7_placeAnew_34 {k : Instr → Nat → Nat → Nat → List Nat → Prop} : xse (xFind tbX7_placeAnew 34) k = k (.iload_n 3) 3 0 0 [] := rfl
theorem tbX7_placeAnew_35 {k : Instr → Nat → Nat → Nat → List Nat → Prop} : xse (xFind tbX7_placeAnew 35) k = k (.invokestatic 372) 3 1 0 [] := rfl
theorem tbX7_placeAnew_38 {k : Instr → Nat → Nat → Nat → List Nat → Prop} : xse (xFind tbX7_placeAnew 38) k = k (.invokevirtual 374) 4 2 7 [] := rfl
theorem tbX7_placeAnew_41 {k : Instr → Nat → Nat → Nat → List Nat → Prop} : xse (xFind tbX7_placeAnew 41) k = k (.istore 4) 4 0 0 [] := rfl
theorem tbX7_placeAnew_43 {k : Instr → Nat → Nat → Nat → List Nat → Prop} : xse (xFind tbX7_placeAnew 43) k = k (.iload 4) 4 0 0 [] := rfl
theorem tbX7_placeAnew_45 {k : Instr → Nat → Nat → Nat → List Nat → Prop} : xse (xFind tbX7_placeAnew 45) k = k (.invokestatic 369) 2 1 0 [] := rfl
theorem tbX7_placeAnew_48 {k : Instr → Nat → Nat → Nat → List Nat → Prop} : xse (xFind tbX7_placeAnew 48) k = k (.iconst 2) 0 0 0 [] := rfl
theorem tbX7_placeAnew_49 {k : Instr → Nat → Nat → Nat → List Nat → Prop} : xse (xFind tbX7_placeAnew 49) k = k (.if_icmp .ne 7) 56 0 0 [] := rfl
theorem tbX7_placeAnew_52 {k : Instr → Nat → Nat → Nat → List Nat → Prop} : xse (xFind tbX7_placeAnew 52) k = k (.iconst 1) 0 0 0 [] := rfl
theorem tbX7_placeAnew_53 {k : Instr → Nat → Nat → Nat → List Nat → Prop} : xse (xFind tbX7_placeAnew 53) k = k (.goto 4) 57 0 0 [] := rfl
theorem tbX7_placeAnew_56 {k : Instr → Nat → Nat → Nat → List Nat → Prop} : xse (xFind tbX7_placeAnew 56) k = k (.iconst 0) 0 0 0 [] := rfl
theorem tbX7_placeAnew_57 {k : Instr → Nat → Nat → Nat → List Nat → Prop} : xse (xFind tbX7_placeAnew 57) k = k (.istore 5) 5 0 0 [] := rfl
theorem tbX7_placeAnew_59 {k : Instr → Nat → Nat → Nat → List Nat → Prop} : xse (xFind tbX7_placeAnew 59) k = k (.iload 5) 5 0 0 [] := rfl
theorem tbX7_placeAnew_61 {k : Instr → Nat → Nat → Nat → List Nat → Prop} : xse (xFind tbX7_placeAnew 61) k = k (.ifCond .eq 8) 69 0 0 [] := rfl
theorem tbX7_placeAnew_64 {k : Instr → Nat → Nat → Nat → List Nat → Prop} : xse (xFind tbX7_placeAnew 64) k = k (.bipush 10) 0 0 0 [] := rfl
theorem tbX7_placeAnew_66 {k : Instr → Nat → Nat → Nat → List Nat → Prop} : xse (xFind tbX7_placeAnew 66) k = k (.goto 5) 71 0 0 [] := rfl
theorem tbX7_placeAnew_69 {k : Instr → Nat → Nat → Nat → List Nat → Prop} : xse (xFind tbX7_placeAnew 69) k = k (.bipush 20) 0 0 0 [] := rfl
theorem tbX7_placeAnew_71 {k : Instr → Nat → Nat → Nat → List Nat → Prop} : xse (xFind tbX7_placeAnew 71) k = k (.iload 4) 4 0 0 [] := rfl
theorem tbX7_placeAnew_73 {k : Instr → Nat → Nat → Nat → List Nat → Prop} : xse (xFind tbX7_placeAnew 73) k = k (.invokestatic 372) 3 1 0 [] := rfl
theorem tbX7_placeAnew_76 {k : Instr → Nat → Nat → Nat → List Nat → Prop} : xse (xFind tbX7_placeAnew 76) k = k (.iadd) 0 0 0 [] := rfl
theorem tbX7_placeAnew_77 {k : Instr → Nat → Nat → Nat → List Nat → Prop} : xse (xFind tbX7_placeAnew 77) k = k (.ireturn) 0 0 0 [] := rfl

def spX7_placeAnew (W9 : xWd) : xSp cS := (fun av S => (1, 6), fun av S K => ∃ (a : Nat) (k : Int32), av = [.ref a, .int k] ∧ (cK S a = 9 ∧ cIn S a 806 8 ∧ ∃ n, stOk S (cRf S a 806) n ∧ cIn S a 802 1 ∧ lAll S (cRf S a 802) 2 ∧ (0 ≤ k ∧ k < cFi S (cRf S a 802) 2 → K (rI (cPA S (cRf S a 806) n (cFi S (lG S (cRf S a 802) k.toNatClampNeg) 100))) S) ∧ (¬ (0 ≤ k ∧ k < cFi S (cRf S a 802) 2) → K (rX "java/lang/IndexOutOfBoundsException") S)))
theorem spcX7_placeAnew {av : List Value} {S : cS} {W9 : xWd} : (spX7_placeAnew W9).1 av S = (1, 6) := rfl
theorem spwX7_placeAnew {S : cS} {W9 : xWd} {K : xRes → cS → Prop} {a : Nat} {k : Int32} : (spX7_placeAnew W9).2 [.ref a, .int k] S K = (cK S a = 9 ∧ cIn S a 806 8 ∧ ∃ n, stOk S (cRf S a 806) n ∧ cIn S a 802 1 ∧ lAll S (cRf S a 802) 2 ∧ (0 ≤ k ∧ k < cFi S (cRf S a 802) 2 → K (rI (cPA S (cRf S a 806) n (cFi S (lG S (cRf S a 802) k.toNatClampNeg) 100))) S) ∧ (¬ (0 ≤ k ∧ k < cFi S (cRf S a 802) 2) → K (rX "java/lang/IndexOutOfBoundsException") S)) :=
  propext ⟨fun h => by
    simp only [spX7_placeAnew] at h
    obtain ⟨_, _, e, h⟩ := h
    simp only [List.cons.injEq, Value.int.injEq, Value.ref.injEq, rf_eq, and_true, true_and] at e
    obtain ⟨rfl, rfl⟩ := e
    exact h, fun h => ⟨_, _, rfl, h⟩⟩

def callX7_placeAnew (W9 : xWd) : Nat → Option (xSp cS) := fun n => match n with | 0 => some (spX7_needBarge W9) | 1 => some (spX6_latestOfBarge W9) | 2 => some (spX6_eventOf W9) | 3 => some (spX6_placeOf W9) | 4 => some (spX6_latestOfBoat W9) | _ => none

theorem callX7_placeAnew_0 {W9 : xWd} {k : xSp cS → Prop} : xcs (callX7_placeAnew W9 0) k = k (spX7_needBarge W9) := rfl

theorem callX7_placeAnew_1 {W9 : xWd} {k : xSp cS → Prop} : xcs (callX7_placeAnew W9 1) k = k (spX6_latestOfBarge W9) := rfl

theorem callX7_placeAnew_2 {W9 : xWd} {k : xSp cS → Prop} : xcs (callX7_placeAnew W9 2) k = k (spX6_eventOf W9) := rfl

theorem callX7_placeAnew_3 {W9 : xWd} {k : xSp cS → Prop} : xcs (callX7_placeAnew W9 3) k = k (spX6_placeOf W9) := rfl

theorem callX7_placeAnew_4 {W9 : xWd} {k : xSp cS → Prop} : xcs (callX7_placeAnew W9 4) k = k (spX6_latestOfBoat W9) := rfl

theorem crX7_placeAnew (l : Launch) (hl : l.stackTraces = false) (W9 : xWd) : xCallsOK l W9 (cI) (callX7_placeAnew W9) clX7_placeAnew RX7 wsX7_placeAnew 7 111 6 := by
  intro E A p e R s m args below meth c hI hF hL X
  exact List.forall_mem_cons.mpr ⟨⟨_, rfl, xCR_V X (by rw [hI]; exact (semX7_needBarge l hl W9)) gX7_placeAnew_X7_needBarge rfl rfl (by decide +kernel) (by rw [hF, hL]; decide)⟩,
    List.forall_mem_cons.mpr ⟨⟨_, rfl, xCR_V X (by rw [hI]; exact (semX6_latestOfBarge l hl W9)) gX7_placeAnew_X6_latestOfBarge rfl rfl (by decide +kernel) (by rw [hF, hL]; decide)⟩,
    List.forall_mem_cons.mpr ⟨⟨_, rfl, xCR_S X (by rw [hI]; exact (semX6_eventOf l hl W9)) gX7_placeAnew_X6_eventOf rfl (by decide +kernel) (by rw [hF, hL]; decide)⟩,
    List.forall_mem_cons.mpr ⟨⟨_, rfl, xCR_S X (by rw [hI]; exact (semX6_placeOf l hl W9)) gX7_placeAnew_X6_placeOf rfl (by decide +kernel) (by rw [hF, hL]; decide)⟩,
    List.forall_mem_cons.mpr ⟨⟨_, rfl, xCR_V X (by rw [hI]; exact (semX6_latestOfBoat l hl W9)) gX7_placeAnew_X6_latestOfBoat rfl rfl (by decide +kernel) (by rw [hF, hL]; decide)⟩,
    fun _ h => nomatch h⟩⟩⟩⟩⟩

set_option maxHeartbeats 4000000 in
set_option maxRecDepth 20000 in
theorem semX7_placeAnew (l : Launch) (hl : l.stackTraces = false) (W9 : xWd) : xSem l W9 (cI) yX7_placeAnew wsX7_placeAnew 7 111 (spX7_placeAnew W9) := by
  refine xSem_of (call := callX7_placeAnew W9) (thrf := fun _ => "") cI_law (by decide +kernel) rfl ckX7_placeAnew usX7_placeAnew (crX7_placeAnew l hl W9) xThrOK_nil ?_ ?_
  · intro av S KF h
    obtain ⟨a, k, rfl, h⟩ := h
    exact ⟨by intro v hv; simp only [List.mem_cons, List.not_mem_nil, or_false] at hv; rcases hv with rfl | rfl <;> first | rfl | exact cat_rf, Nat.le_of_ble_eq_true rfl⟩
  intro av S KF h G hG
  obtain ⟨a, k, rfl, h⟩ := h
  rw [show (spX7_placeAnew W9).1 _ S = _ from spcX7_placeAnew] at hG
  try dsimp only at hG
  change G 0 [some (.ref a), some (.int k), none, none, none, none] [] S 0 0
  obtain ⟨h0, ⟨s1, s2⟩, n, hst, h1, h2, h3, h4⟩ := h

  by_cases q : 0 ≤ k ∧ k < cFi S (cRf S a 802) 2
  · have h := h3 q
    have ix := (lOk_in h2.1 q.1 q.2).2.2
    have g0 := (h2.2 _ ix).2
    generalize hb0 : lG S (cRf S a 802) k.toNatClampNeg = g at *
    unfold cPA at h
    generalize hv1 : ltO S (cRf S a 806) 0 1 (cFi S g 100) n = v at *
    generalize hv2 : ltO S (cRf S a 806) 2 3 (v &&& 255) n = v2 at *
    refine xgo0 hG (fun fu hfu => ?_)
    simp only [↓callX7_placeAnew_0, ↓callX7_placeAnew_1, ↓callX7_placeAnew_2, ↓callX7_placeAnew_3, ↓callX7_placeAnew_4, ↓cg_1_0, ↓cg_8_6, cisa, kb_10, kb_20, kc_10, kc_20, ki_0, ki_1, ki_2, ↓vm_aload_n, ↓vm_astore_n, ↓vm_bipush, ↓vm_getfield, ↓vm_goto, ↓vm_iadd, ↓vm_iconst, ↓vm_ifCond_eq, ↓vm_ifCond_ne, ↓vm_if_icmp_ne, ↓vm_iload, ↓vm_iload_n, ↓vm_invokestatic, ↓vm_invokevirtual, ↓vm_ireturn, ↓vm_istore, ↓vm_istore_n, ↓xc_1, ↓xc_2, ↓tbX7_placeAnew_0, ↓tbX7_placeAnew_1, ↓tbX7_placeAnew_2, ↓tbX7_placeAnew_5, ↓tbX7_placeAnew_6, ↓tbX7_placeAnew_7, ↓tbX7_placeAnew_10, ↓tbX7_placeAnew_11, ↓tbX7_placeAnew_14, ↓tbX7_placeAnew_17, ↓tbX7_placeAnew_18, ↓tbX7_placeAnew_19, ↓tbX7_placeAnew_22, ↓tbX7_placeAnew_25, ↓tbX7_placeAnew_26, ↓tbX7_placeAnew_29, ↓tbX7_placeAnew_30, ↓tbX7_placeAnew_31, ↓tbX7_placeAnew_34, ↓tbX7_placeAnew_35, ↓tbX7_placeAnew_38, ↓tbX7_placeAnew_41, ↓tbX7_placeAnew_43, ↓tbX7_placeAnew_45, ↓tbX7_placeAnew_48, ↓tbX7_placeAnew_49, ↓tbX7_placeAnew_52, ↓tbX7_placeAnew_53, ↓tbX7_placeAnew_56, ↓tbX7_placeAnew_57, ↓tbX7_placeAnew_59, ↓tbX7_placeAnew_61, ↓tbX7_placeAnew_64, ↓tbX7_placeAnew_66, ↓tbX7_placeAnew_69, ↓tbX7_placeAnew_71, ↓tbX7_placeAnew_73, ↓tbX7_placeAnew_76, ↓tbX7_placeAnew_77, hfu, xstep0, xJ1_hit, xJ1_go, xJ2_hit1, xJ2_hit2, xJ2_go, ↓xif_t, ↓xif_f, seval, ↓xca_eq, ↓xre_l, ↓xre_r, xmask_t, xmask_f, xmask_nil, ↓xst_eq, xX_eq, eI_eq, eMc_eq, eMs_eq, eF_eq, eThr_eq, ↓xS1_mk, ↓xSI_mk, ↓xSR_mk, ↓xLI_0, ↓xLI_s, ↓xLR_0, ↓xLR_s, vRef_ref, vRef_null, vRef_rf, cat_int, cat_ref, cat_null, cat_rf, rf_some, rf_none, rf_null, rf_eq, rf_ref, ref_rf, ref_null, ref_ref, xOk_0, xOk_1, xOk_2r, xOk_2n, xOk_2f, vOpt_rf, vOpt_ref, vOpt_null, List.set_cons_zero, List.set_cons_succ, List.take_succ_cons, List.take_zero, List.drop_succ_cons, List.drop_zero, List.reverse_cons, List.reverse_nil, List.nil_append, List.cons_append, List.append_nil, List.length_cons, List.length_nil, List.map_cons, List.map_nil, List.sum_cons, List.sum_nil, Option.toList_some, Option.toList_none, xRecv_mk, true_and, and_true, true_implies, Nat.reduceAdd, Nat.reduceLeDiff, Nat.zero_le, Nat.le_refl, Nat.add_zero, Nat.zero_add, reduceIte, not_true_eq_false, not_false_eq_true, false_implies, and_self, implies_true, eq_self, Nat.reduceEqDiff, List.cons.injEq, xsn_1, xsn_2, false_and, and_false, or_false, false_or, or_true, true_or, xsn_3, xsn_4, ↓spwX7_needBarge, spcX7_needBarge, ↓spwX6_latestOfBarge, spcX6_latestOfBarge, ↓spwX6_eventOf, spcX6_eventOf, ↓spwX6_placeOf, spcX6_placeOf, ↓spwX6_latestOfBoat, spcX6_latestOfBoat, h0, h1, h2, s1, s2, q, hb0, g0]
    try simp only [xif_e]
    refine ⟨n, hst, ?_⟩
    simp only [hv1]
    by_cases c : v >>> (16 &&& 31) = 0
    · rw [if_pos c] at h
      exact ⟨fun _ => h, fun z => absurd c z⟩
    · rw [if_neg c] at h
      refine ⟨fun z => absurd z c, fun _ => ⟨n, hst, ?_⟩⟩
      simp only [hv2]
      repeat' (first | with_reducible apply And.intro | with_reducible intro _)
      all_goals grind
  · have h := h4 q
    refine xgo hG (mb := []) (head := 6) (P := fun _ _ _ _ _ => False) (fun _ _ _ _ _ q => q.elim) (pc := 0) (fun fu hfu => ?_)
    simp only [↓callX7_placeAnew_0, ↓callX7_placeAnew_1, ↓callX7_placeAnew_2, ↓callX7_placeAnew_3, ↓callX7_placeAnew_4, ↓cg_1_0, ↓cg_8_6, cisa, kb_10, kb_20, kc_10, kc_20, ki_0, ki_1, ki_2, ↓vm_aload_n, ↓vm_astore_n, ↓vm_bipush, ↓vm_getfield, ↓vm_goto, ↓vm_iadd, ↓vm_iconst, ↓vm_ifCond_eq, ↓vm_ifCond_ne, ↓vm_if_icmp_ne, ↓vm_iload, ↓vm_iload_n, ↓vm_invokestatic, ↓vm_invokevirtual, ↓vm_ireturn, ↓vm_istore, ↓vm_istore_n, ↓xc_1, ↓xc_2, ↓tbX7_placeAnew_0, ↓tbX7_placeAnew_1, ↓tbX7_placeAnew_2, ↓tbX7_placeAnew_5, ↓tbX7_placeAnew_6, ↓tbX7_placeAnew_7, ↓tbX7_placeAnew_10, ↓tbX7_placeAnew_11, ↓tbX7_placeAnew_14, ↓tbX7_placeAnew_17, ↓tbX7_placeAnew_18, ↓tbX7_placeAnew_19, ↓tbX7_placeAnew_22, ↓tbX7_placeAnew_25, ↓tbX7_placeAnew_26, ↓tbX7_placeAnew_29, ↓tbX7_placeAnew_30, ↓tbX7_placeAnew_31, ↓tbX7_placeAnew_34, ↓tbX7_placeAnew_35, ↓tbX7_placeAnew_38, ↓tbX7_placeAnew_41, ↓tbX7_placeAnew_43, ↓tbX7_placeAnew_45, ↓tbX7_placeAnew_48, ↓tbX7_placeAnew_49, ↓tbX7_placeAnew_52, ↓tbX7_placeAnew_53, ↓tbX7_placeAnew_56, ↓tbX7_placeAnew_57, ↓tbX7_placeAnew_59, ↓tbX7_placeAnew_61, ↓tbX7_placeAnew_64, ↓tbX7_placeAnew_66, ↓tbX7_placeAnew_69, ↓tbX7_placeAnew_71, ↓tbX7_placeAnew_73, ↓tbX7_placeAnew_76, ↓tbX7_placeAnew_77, hfu, xstep0, xJ1_hit, xJ1_go, xJ2_hit1, xJ2_hit2, xJ2_go, ↓xif_t, ↓xif_f, seval, ↓xca_eq, ↓xre_l, ↓xre_r, xmask_t, xmask_f, xmask_nil, ↓xst_eq, xX_eq, eI_eq, eMc_eq, eMs_eq, eF_eq, eThr_eq, ↓xS1_mk, ↓xSI_mk, ↓xSR_mk, ↓xLI_0, ↓xLI_s, ↓xLR_0, ↓xLR_s, vRef_ref, vRef_null, vRef_rf, cat_int, cat_ref, cat_null, cat_rf, rf_some, rf_none, rf_null, rf_eq, rf_ref, ref_rf, ref_null, ref_ref, xOk_0, xOk_1, xOk_2r, xOk_2n, xOk_2f, vOpt_rf, vOpt_ref, vOpt_null, List.set_cons_zero, List.set_cons_succ, List.take_succ_cons, List.take_zero, List.drop_succ_cons, List.drop_zero, List.reverse_cons, List.reverse_nil, List.nil_append, List.cons_append, List.append_nil, List.length_cons, List.length_nil, List.map_cons, List.map_nil, List.sum_cons, List.sum_nil, Option.toList_some, Option.toList_none, xRecv_mk, true_and, and_true, true_implies, Nat.reduceAdd, Nat.reduceLeDiff, Nat.zero_le, Nat.le_refl, Nat.add_zero, Nat.zero_add, reduceIte, not_true_eq_false, not_false_eq_true, false_implies, and_self, implies_true, eq_self, Nat.reduceEqDiff, List.cons.injEq, xsn_1, xsn_2, false_and, and_false, or_false, false_or, or_true, true_or, xsn_3, xsn_4, ↓spwX7_needBarge, spcX7_needBarge, ↓spwX6_latestOfBarge, spcX6_latestOfBarge, ↓spwX6_eventOf, spcX6_eventOf, ↓spwX6_placeOf, spcX6_placeOf, ↓spwX6_latestOfBoat, spcX6_latestOfBoat, h0, h1, h2, q]
    try simp only [xif_e]
    first | exact h | grind
