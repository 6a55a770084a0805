/-! The class: what is told of boats, barges, contracts, the whole. -/
theorem ti_10 {x : Int32} : (x.toInt = 10) = (x = 10) := propext ⟨fun h => Int32.toInt_inj.mp h, fun h => by rw [h]; rfl⟩
theorem tgt_6 {x : Int32} : (6 < x.toInt) = (6 < x) := propext (Int32.lt_iff_toInt_lt (x := 6) (y := x)).symm
theorem tgt_10 {x : Int32} : (10 < x.toInt) = (10 < x) := propext (Int32.lt_iff_toInt_lt (x := 10) (y := x)).symm
def cTlb (S : cS) (b : Nat) (w : Int32) : Int32 :=
  if w = 0 then cFi S b 206 else if w = 1 then cFi S b 207 else if w = 2 then cFi S b 210 else if w = 3 then cFi S b 204 else if w = 4 then cFi S b 205
  else if w = 5 then nI (rN S (cRf S b 203)) else if w = 6 then rWt S (cRf S b 203) (rN S (cRf S b 203)) else if w = 7 then rDr S (cRf S b 203) (rN S (cRf S b 203))
  else if w = 8 then rMax 1 (rMin (cFi S (cRf S b 203) 504) (nI (rN S (cRf S b 203)))) else if w = 9 then cFi S b 209 else cFi S b 213
def cTlc (S : cS) (c : Nat) (w : Int32) : Int32 :=
  if w = 0 then cFi S c 304 else if w = 1 then cFi S c 307 else if w = 2 then cFi S c 308 else if w = 3 then cFi S c 309 else if w = 4 then cFi S c 303 else cFi S c 310
def cTla (S : cS) (o : Nat) (w : Int32) : Int32 :=
  if w = 0 then cFi S o 807 else if w = 1 then cFi S o 808 else if w = 2 then cPaid S (cRf S o 803) (lCn S (cRf S o 803)) else if w = 3 then cFi S o 811 else if w = 4 then cFi S o 812 else if w = 5 then cFi S o 813 else cWa S (cRf S o 804) (lCn S (cRf S o 804))

def tbX7_water : List (Nat × xHint) := [(0, .aload_n 0, 0, 0, 0, []), (1, .iload_n 1, 1, 0, 0, []), (2, .invokevirtual 53, 0, 2, 8, []), (5, .astore_n 3, 3, 0, 0, []), (6, .iload_n 2, 2, 0, 0, []), (7, .iconst 0, 0, 0, 0, []), (8, .bipush 30, 0, 0, 0, []), (10, .invokestatic 57, 1, 3, 0, []), (13, .aload_n 3, 3, 0, 0, []), (14, .getfield 73, 6, 1, 0, []), (17, .aload_n 0, 0, 0, 0, []), (18, .iload_n 2, 2, 0, 0, []), (19, .invokevirtual 290, 2, 2, 8, []), (22, .iadd, 0, 0, 0, []), (23, .ireturn, 0, 0, 0, [])]
def clX7_water : List (Instr × Nat × Nat × Nat) := [(.invokevirtual 53, 0, 2, 8), (.invokestatic 57, 1, 3, 0), (.invokevirtual 290, 2, 2, 8)]
def thX7_water : List (Nat × Nat) := []
theorem ckX7_water : tbX7_water.all (xRow RX7 cX7_water wsX7_water vwCl [6] clX7_water thX7_water 4 (yX7_water.name == "<init>") (some .int)) = true := xRow_q 0xac602201b61c2a4900b42d3900b81e10031c4e3500b61b2a 24 (by decide +kernel) (by decide +kernel)
theorem usX7_water : xUse wsX7_water vwCl [6] = true := xUse_g rfl (lw_good lwl_X7_water lwl_X50 (by decide +kernel)) xUse_n
theorem tbX7_water_0 {k : Instr → Nat → Nat → Nat → List Nat → Prop} : xse (xFind tbX7_water 0) k = k (.aload_n 0) 0 0 0 [] := rfl
theorem tbX7_water_1 {k : Instr → Nat → Nat → Nat → List Nat → Prop} : xse (xFind tbX7_water 1) k = k (.iload_n 1) 1 0 0 [] := rfl
theorem tbX7_water_2 {k : Instr → Nat → Nat → Nat → List Nat → Prop} : xse (xFind tbX7_water 2) k = k (.invokevirtual 53) 0 2 8 [] := rfl
theorem tbX7_water_5 {k : Instr → Nat → Nat → Nat → List Nat → Prop} : xse (xFind tbX7_water 5) k = k (.astore_n 3) 3 0 0 [] := rfl
theorem tbX7_water_6 {k : Instr → Nat → Nat → Nat → List Nat → Prop} : xse (xFind tbX7_water 6) k = k (.iload_n 2) 2 0 0 [] := rfl
theorem tbX7_water_7 {k : Instr → Nat → Nat → Nat → List Nat → Prop} : xse (xFind tbX7_water 7) k = k (.iconst 0) 0 0 0 [] := rfl
theorem tbX7_water_8 {k : Instr → Nat → Nat → Nat → List Nat → Prop} : xse (xFind tbX7_water 8) k = k (.bipush 30) 0 0 0 [] := rfl
theorem tbX7_water_10 {k : Instr → Nat → Nat → Nat → List Nat → Prop} : xse (xFind tbX7_water 10) k = k (.invokestatic 57) 1 3 0 [] := rfl
theorem tbX7_water_13 {k : Instr → Nat → Nat → Nat → List Nat → Prop} : xse (xFind tbX7_water 13) k = k (.aload_n 3) 3 0 0 [] := rfl
theorem tbX7_water_14 {k : Instr → Nat → Nat → Nat → List Nat → Prop} : xse (xFind tbX7_water 14) k = k (.getfield 73) 6 1 0 [] := rfl
theorem tbX7_water_17 {k : Instr → Nat → Nat → Nat → List Nat → Prop} : xse (xFind tbX7_water 17) k = k (.aload_n 0) 0 0 0 [] := rfl
theorem tbX7_water_18 {k : Instr → Nat → Nat → Nat → List Nat → Prop} : xse (xFind tbX7_water 18) k = k (.iload_n 2) 2 0 0 [] := rfl
theorem tbX7_water_19 {k : Instr → Nat → Nat → Nat → List Nat → Prop} : xse (xFind tbX7_water 19) k = k (.invokevirtual 290) 2 2 8 [] := rfl
theorem tbX7_water_22 {k : Instr → Nat → Nat → Nat → List Nat → Prop} : xse (xFind tbX7_water 22) k = k (.iadd) 0 0 0 [] := rfl
theorem tbX7_water_23 {k : Instr → Nat → Nat → Nat → List Nat → Prop} : xse (xFind tbX7_water 23) k = k (.ireturn) 0 0 0 [] := rfl

def spX7_water (W9 : xWd) : xSp cS := (fun av S => (2, 12), fun av S K => ∃ (a : Nat) (k : Int32) (d : Int32), av = [.ref a, .int k, .int d] ∧ (cK S a = 9 ∧ cIn S a 800 1 ∧ lAll S (cRf S a 800) 7 ∧ (0 ≤ k ∧ k < cFi S (cRf S a 800) 2 → (0 ≤ d ∧ d ≤ 30 → K (rI (cFi S (lG S (cRf S a 800) k.toNatClampNeg) 601 + rMax (-30) (rMin 60 (cFi S a 808 - d * cFi S a 809)))) S) ∧ (¬ (0 ≤ d ∧ d ≤ 30) → K (rX "java/lang/IllegalArgumentException") S)) ∧ (¬ (0 ≤ k ∧ k < cFi S (cRf S a 800) 2) → K (rX "java/lang/IndexOutOfBoundsException") S)))
theorem spcX7_water {av : List Value} {S : cS} {W9 : xWd} : (spX7_water W9).1 av S = (2, 12) := rfl
theorem spwX7_water {S : cS} {W9 : xWd} {K : xRes → cS → Prop} {a : Nat} {k : Int32} {d : Int32} : (spX7_water W9).2 [.ref a, .int k, .int d] S K = (cK S a = 9 ∧ cIn S a 800 1 ∧ lAll S (cRf S a 800) 7 ∧ (0 ≤ k ∧ k < cFi S (cRf S a 800) 2 → (0 ≤ d ∧ d ≤ 30 → K (rI (cFi S (lG S (cRf S a 800) k.toNatClampNeg) 601 + rMax (-30) (rMin 60 (cFi S a 808 - d * cFi S a 809)))) S) ∧ (¬ (0 ≤ d ∧ d ≤ 30) → K (rX "java/lang/IllegalArgumentException") S)) ∧ (¬ (0 ≤ k ∧ k < cFi S (cRf S a 800) 2) → K (rX "java/lang/IndexOutOfBoundsException") S)) :=
  propext ⟨fun h => by
    simp only [spX7_water] at h
    obtain ⟨_, _, _, e, h⟩ := h
    simp only [List.cons.injEq, Value.int.injEq, Value.ref.injEq, rf_eq, and_true, true_and] at e
    obtain ⟨rfl, rfl, rfl⟩ := e
    exact h, fun h => ⟨_, _, _, rfl, h⟩⟩

def callX7_water (W9 : xWd) : Nat → Option (xSp cS) := fun n => match n with | 0 => some (spX7_needSection W9) | 1 => some (spX7_needWithin W9) | 2 => some (spX7_stageIn W9) | _ => none

theorem callX7_water_0 {W9 : xWd} {k : xSp cS → Prop} : xcs (callX7_water W9 0) k = k (spX7_needSection W9) := rfl

theorem callX7_water_1 {W9 : xWd} {k : xSp cS → Prop} : xcs (callX7_water W9 1) k = k (spX7_needWithin W9) := rfl

theorem callX7_water_2 {W9 : xWd} {k : xSp cS → Prop} : xcs (callX7_water W9 2) k = k (spX7_stageIn W9) := rfl

theorem crX7_water (l : Launch) (hl : l.stackTraces = false) (W9 : xWd) : xCallsOK l W9 (cI) (callX7_water W9) clX7_water RX7 wsX7_water 7 112 4 := by
  intro E A p e R s m args below meth c hI hF hL X
  exact List.forall_mem_cons.mpr ⟨⟨_, rfl, xCR_V X (by rw [hI]; exact (semX7_needSection l hl W9)) gX7_water_X7_needSection rfl rfl (by decide +kernel) (by rw [hF, hL]; decide)⟩,
    List.forall_mem_cons.mpr ⟨⟨_, rfl, xCR_S X (by rw [hI]; exact (semX7_needWithin l hl W9)) gX7_water_X7_needWithin rfl (by decide +kernel) (by rw [hF, hL]; decide)⟩,
    List.forall_mem_cons.mpr ⟨⟨_, rfl, xCR_V X (by rw [hI]; exact (semX7_stageIn l hl W9)) gX7_water_X7_stageIn rfl rfl (by decide +kernel) (by rw [hF, hL]; decide)⟩,
    fun _ h => nomatch h⟩⟩⟩

set_option maxHeartbeats 4000000 in
set_option maxRecDepth 20000 in
theorem semX7_water (l : Launch) (hl : l.stackTraces = false) (W9 : xWd) : xSem l W9 (cI) yX7_water wsX7_water 7 112 (spX7_water W9) := by
  refine xSem_of (call := callX7_water W9) (thrf := fun _ => "") cI_law (by decide +kernel) rfl ckX7_water usX7_water (crX7_water l hl W9) xThrOK_nil ?_ ?_
  · intro av S KF h
    obtain ⟨a, k, d, rfl, h⟩ := h
    exact ⟨by intro v hv; simp only [List.mem_cons, List.not_mem_nil, or_false] at hv; rcases hv with rfl | rfl | rfl <;> first | rfl | exact cat_rf, Nat.le_of_ble_eq_true rfl⟩
  intro av S KF h G hG
  obtain ⟨a, k, d, rfl, h⟩ := h
  rw [show (spX7_water W9).1 _ S = _ from spcX7_water] at hG
  try dsimp only at hG
  change G 0 [some (.ref a), some (.int k), some (.int d), none] [] S 0 0
  obtain ⟨h0, h1, h2, h3, h4⟩ := h
  have g0 := fun q => (lAll_at (i := k) h2 (And.left q) (And.right q)).2
  refine xgo0 hG (fun fu hfu => ?_)
  clear hG
  simp only [↓callX7_water_0, ↓callX7_water_1, ↓callX7_water_2, ↓cg_6_1, cisa, kb_30, kc_30, ki_0, ↓vm_aload_n, ↓vm_astore_n, ↓vm_bipush, ↓vm_getfield, ↓vm_iadd, ↓vm_iconst, ↓vm_iload_n, ↓vm_invokestatic, ↓vm_invokevirtual, ↓vm_ireturn, ↓xc_2, ↓xc_3, ↓tbX7_water_0, ↓tbX7_water_1, ↓tbX7_water_2, ↓tbX7_water_5, ↓tbX7_water_6, ↓tbX7_water_7, ↓tbX7_water_8, ↓tbX7_water_10, ↓tbX7_water_13, ↓tbX7_water_14, ↓tbX7_water_17, ↓tbX7_water_18, ↓tbX7_water_19, ↓tbX7_water_22, ↓tbX7_water_23, hfu, xstep0, xJ1_hit, xJ1_go, xJ2_hit1, xJ2_hit2, xJ2_go, ↓xif_t, ↓xif_f, seval, ↓xca_eq, ↓xre_l, ↓xre_r, xmask_t, xmask_f, xmask_nil, ↓xst_eq, xX_eq, eI_eq, eMc_eq, eMs_eq, eF_eq, eThr_eq, ↓xS1_mk, ↓xSI_mk, ↓xSR_mk, ↓xLI_0, ↓xLI_s, ↓xLR_0, ↓xLR_s, vRef_ref, vRef_null, vRef_rf, cat_int, cat_ref, cat_null, cat_rf, rf_some, rf_none, rf_null, rf_eq, rf_ref, ref_rf, ref_null, ref_ref, xOk_0, xOk_1, xOk_2r, xOk_2n, xOk_2f, vOpt_rf, vOpt_ref, vOpt_null, List.set_cons_zero, List.set_cons_succ, List.take_succ_cons, List.take_zero, List.drop_succ_cons, List.drop_zero, List.reverse_cons, List.reverse_nil, List.nil_append, List.cons_append, List.append_nil, List.length_cons, List.length_nil, List.map_cons, List.map_nil, List.sum_cons, List.sum_nil, Option.toList_some, Option.toList_none, xRecv_mk, true_and, and_true, true_implies, Nat.reduceAdd, Nat.reduceLeDiff, Nat.zero_le, Nat.le_refl, Nat.add_zero, Nat.zero_add, reduceIte, not_true_eq_false, not_false_eq_true, false_implies, and_self, implies_true, eq_self, Nat.reduceEqDiff, List.cons.injEq, xsn_1, xsn_2, false_and, and_false, or_false, false_or, or_true, true_or, xsn_3, xsn_4, h0, h1, h2, ↓spwX7_needSection, spcX7_needSection, ↓spwX7_needWithin, spcX7_needWithin, ↓spwX7_stageIn, spcX7_stageIn]
  try simp only [xif_e]
  repeat' (first | with_reducible apply And.intro | with_reducible intro _)
  all_goals grind (splits := 30)

def tbX7_ofBoat : List (Nat × xHint) := [(0, .aload_n 0, 0, 0, 0, []), (1, .iload_n 1, 1, 0, 0, []), (2, .invokevirtual 219, 0, 2, 8, []), (5, .astore_n 3, 3, 0, 0, []), (6, .iload_n 2, 2, 0, 0, []), (7, .tableswitch 124 0 10 #[57, 62, 67, 72, 77, 82, 90, 98, 106, 114, 119], 131, 0, 0, [64, 69, 74, 79, 84, 89, 97, 105, 113, 121, 126]), (64, .aload_n 3, 3, 0, 0, []), (65, .getfield 238, 2, 6, 0, []), (68, .ireturn, 0, 0, 0, []), (69, .aload_n 3, 3, 0, 0, []), (70, .getfield 332, 2, 7, 0, []), (73, .ireturn, 0, 0, 0, []), (74, .aload_n 3, 3, 0, 0, []), (75, .getfield 275, 2, 10, 0, []), (78, .ireturn, 0, 0, 0, []), (79, .aload_n 3, 3, 0, 0, []), (80, .getfield 226, 2, 4, 0, []), (83, .ireturn, 0, 0, 0, []), (84, .aload_n 3, 3, 0, 0, []), (85, .getfield 255, 2, 5, 0, []), (88, .ireturn, 0, 0, 0, []), (89, .aload_n 3, 3, 0, 0, []), (90, .getfield 232, 2, 3, 2, []), (93, .invokevirtual 101, 1, 1, 5, []), (96, .ireturn, 0, 0, 0, []), (97, .aload_n 3, 3, 0, 0, []), (98, .getfield 232, 2, 3, 2, []), (101, .invokevirtual 335, 2, 1, 5, []), (104, .ireturn, 0, 0, 0, []), (105, .aload_n 3, 3, 0, 0, []), (106, .getfield 232, 2, 3, 2, []), (109, .invokevirtual 338, 3, 1, 5, []), (112, .ireturn, 0, 0, 0, []), (113, .aload_n 3, 3, 0, 0, []), (114, .getfield 232, 2, 3, 2, []), (117, .invokevirtual 341, 4, 1, 5, []), (120, .ireturn, 0, 0, 0, []), (121, .aload_n 3, 3, 0, 0, []), (122, .getfield 301, 2, 9, 0, []), (125, .ireturn, 0, 0, 0, []), (126, .aload_n 3, 3, 0, 0, []), (127, .getfield 344, 2, 13, 0, []), (130, .ireturn, 0, 0, 0, []), (131, .new 347, 1, 0, 0, [])]
def clX7_ofBoat : List (Instr × Nat × Nat × Nat) := [(.invokevirtual 219, 0, 2, 8), (.invokevirtual 101, 1, 1, 5), (.invokevirtual 335, 2, 1, 5), (.invokevirtual 338, 3, 1, 5), (.invokevirtual 341, 4, 1, 5)]
def thX7_ofBoat : List (Nat × Nat) := [(131, 0)]
theorem ckX7_ofBoat : tbX7_ofBoat.all (xRow RX7 cX7_ofBoat wsX7_ofBoat vwCl [2] clX7_ofBoat thX7_ofBoat 4 (yX7_ofBoat.name == "<init>") (some .int)) = true := xRow_q 0xbf5f01b75d0113595b01bbac5801b42dac2d01b42dac5501b6e800b42dac5201b6e800b42dac4f01b6e800b42dac6500b6e800b42dacff00b42dace200b42dac1301b42dac4c01b42dacee00b42d77000000720000006a000000620000005a000000520000004d00000048000000430000003e000000390000000a000000000000007c000000aa1c4edb00b61b2a 142 (by decide +kernel) (by decide +kernel)
theorem usX7_ofBoat : xUse wsX7_ofBoat vwCl [2] = true := xUse_g rfl (lw_good lwl_X7_ofBoat lwl_X10 (by decide +kernel)) xUse_n
theorem tbX7_ofBoat_0 {k : Instr → Nat → Nat → Nat → List Nat → Prop} : xse (xFind tbX7_ofBoat 0) k = k (.aload_n 0) 0 0 0 [] := rfl
theorem tbX7_ofBoat_1 {k : Instr → Nat → Nat → Nat → List Nat → Prop} : xse (xFind tbX7_ofBoat 1) k = k (.iload_n 1) 1 0 0 [] := rfl
theorem tbX7_ofBoat_2 {k : Instr → Nat → Nat → Nat → List Nat → Prop} : xse (xFind tbX7_ofBoat 2) k = k (.invokevirtual 219) 0 2 8 [] := rfl
theorem tbX7_ofBoat_5 {k : Instr → Nat → Nat → Nat → List Nat → Prop} : xse (xFind tbX7_ofBoat 5) k = k (.astore_n 3) 3 0 0 [] := rfl
theorem tbX7_ofBoat_6 {k : Instr → Nat → Nat → Nat → List Nat → Prop} : xse (xFind tbX7_ofBoat 6) k = k (.iload_n 2) 2 0 0 [] := rfl
theorem tbX7_ofBoat_7 {k : Instr → Nat → Nat → Nat → List Nat → Prop} : xse (xFind tbX7_ofBoat 7) k = k (.tableswitch 124 0 10 #[57, 62, 67, 72, 77, 82, 90, 98, 106, 114, 119]) 131 0 0 [64, 69, 74, 79, 84, 89, 97, 105, 113, 121, 126] := rfl
theorem tbX7_ofBoat_64 {k : Instr → Nat → Nat → Nat → List Nat → Prop} : xse (xFind tbX7_ofBoat 64) k = k (.aload_n 3) 3 0 0 [] := rfl
theorem tbX7_ofBoat_65 {k : Instr → Nat → Nat → Nat → List Nat → Prop} : xse (xFind tbX7_ofBoat 65) k = k (.getfield 238) 2 6 0 [] := rfl
theorem tbX7_ofBoat_68 {k : Instr → Nat → Nat → Nat → List Nat → Prop} : xse (xFind tbX7_ofBoat 68) k = k (.ireturn) 0 0 0 [] := rfl
theorem tbX7_ofBoat_69 {k : Instr → Nat → Nat → Nat → List Nat → Prop} : xse (xFind tbX7_ofBoat 69) k = k (.aload_n 3) 3 0 0 [] := rfl
theorem tbX7_ofBoat_70 {k : Instr → Nat → Nat → Nat → List Nat → Prop} : xse (xFind tbX7_ofBoat 70) k = k (.getfield 332) 2 7 0 [] := rfl
theorem tbX7_ofBoat_73 {k : Instr → Nat → Nat → Nat → List Nat → Prop} : xse (xFind tbX7_ofBoat 73) k = k (.ireturn) 0 0 0 [] := rfl
theorem tbX7_ofBoat_74 {k : Instr → Nat → Nat → Nat → List Nat → Prop} : xse (xFind tbX7_ofBoat 74) k = k (.aload_n 3) 3 0 0 [] := rfl
theorem tbX7_ofBoat_75 {k : Instr → Nat → Nat → Nat → List Nat → Prop} : xse (xFind tbX7_ofBoat 75) k = k (.getfield 275) 2 10 0 [] := rfl
theorem tbX7_ofBoat_78 {k : Instr → Nat → Nat → Nat → List Nat → Prop} : xse (xFind tbX7_ofBoat 78) k = k (.ireturn) 0 0 0 [] := rfl
theorem tbX7_ofBoat_79 {k : Instr → Nat → Nat → Nat → List Nat → Prop} : xse (xFind tbX7_ofBoat 79) k = k (.aload_n 3) 3 0 0 [] := rfl
theorem tbX7_ofBoat_80 {k : Instr → Nat → Nat → Nat → List Nat → Prop} : xse (xFind tbX7_ofBoat 80) k = k (.getfield 226) 2 4 0 [] := rfl
theorem tbX7_ofBoat_83 {k : Instr → Nat → Nat → Nat → List Nat → Prop} : xse (xFind tbX7_ofBoat 83) k = k (.ireturn) 0 0 0 [] := rfl
theorem tbX7_ofBoat_84 {k : Instr → Nat → Nat → Nat → List Nat → Prop} : xse (xFind tbX7_ofBoat 84) k = k (.aload_n 3) 3 0 0 [] := rfl
theorem tbX7_ofBoat_85 {k : Instr → Nat → Nat → Nat → List Nat → Prop} : xse (xFind tbX7_ofBoat 85) k = k (.getfield 255) 2 5 0 [] := rfl
theorem tbX7_ofBoat_88 {k : Instr → Nat → Nat → Nat → List Nat → Prop} : xse (xFind tbX7_ofBoat 88) k = k (.ireturn) 0 0 0 [] := rfl
theorem tbX7_ofBoat_89 {k : Instr → Nat → Nat → Nat → List Nat → Prop} : xse (xFind tbX7_ofBoat 89) k = k (.aload_n 3) 3 0 0 [] := rfl
theorem tbX7_ofBoat_90 {k : Instr → Nat → Nat → Nat → List Nat → Prop} : xse (xFind tbX7_ofBoat 90) k = k (.getfield 232) 2 3 2 [] := rfl
theorem tbX7_ofBoat_93 {k : Instr → Nat → Nat → Nat → List Nat → Prop} : xse (xFind tbX7_ofBoat 93) k = k (.invokevirtual 101) 1 1 5 [] := rfl
theorem tbX7_ofBoat_96 {k : Instr → Nat → Nat → Nat → List Nat → Prop} : xse (xFind tbX7_ofBoat 96) k = k (.ireturn) 0 0 0 [] := rfl
theorem tbX7_ofBoat_97 {k : Instr → Nat → Nat → Nat → List Nat → Prop} : xse (xFind tbX7_ofBoat 97) k = k (.aload_n 3) 3 0 0 [] := rfl
theorem tbX7_ofBoat_98 {k : Instr → Nat → Nat → Nat → List Nat → Prop} : xse (xFind tbX7_ofBoat 98) k = k (.getfield 232) 2 3 2 [] := rfl
theorem tbX7_ofBoat_101 {k : Instr → Nat → Nat → Nat → List Nat → Prop} : xse (xFind tbX7_ofBoat 101) k = k (.invokevirtual 335) 2 1 5 [] := rfl
theorem tbX7_ofBoat_104 {k : Instr → Nat → Nat → Nat → List Nat → Prop} : xse (xFind tbX7_ofBoat 104) k = k (.ireturn) 0 0 0 [] := rfl
theorem tbX7_ofBoat_105 {k : Instr → Nat → Nat → Nat → List Nat → Prop} : xse (xFind tbX7_ofBoat 105) k = k (.aload_n 3) 3 0 0 [] := rfl
theorem tbX7_ofBoat_106 {k : Instr → Nat → Nat → Nat → List Nat → Prop} : xse (xFind tbX7_ofBoat 106) k = k (.getfield 232) 2 3 2 [] := rfl
theorem tbX7_ofBoat_109 {k : Instr → Nat → Nat → Nat → List Nat → Prop} : xse (xFind tbX7_ofBoat 109) k = k (.invokevirtual 338) 3 1 5 [] := rfl
theorem tbX7_ofBoat_112 {k : Instr → Nat → Nat → Nat → List Nat → Prop} : xse (xFind tbX7_ofBoat 112) k = k (.ireturn) 0 0 0 [] := rfl
theorem tbX7_ofBoat_113 {k : Instr → Nat → Nat → Nat → List Nat → Prop} : xse (xFind tbX7_ofBoat 113) k = k (.aload_n 3) 3 0 0 [] := rfl
theorem tbX7_ofBoat_114 {k : Instr → Nat → Nat → Nat → List Nat → Prop} : xse (xFind tbX7_ofBoat 114) k = k (.getfield 232) 2 3 2 [] := rfl
theorem tbX7_ofBoat_117 {k : Instr → Nat → Nat → Nat → List Nat → Prop} : xse (xFind tbX7_ofBoat 117) k = k (.invokevirtual 341) 4 1 5 [] := rfl
theorem tbX7_ofBoat_120 {k : Instr → Nat → Nat → Nat → List Nat → Prop} : xse (xFind tbX7_ofBoat 120) k = k (.ireturn) 0 0 0 [] := rfl
theorem tbX7_ofBoat_121 {k : Instr → Nat → Nat → Nat → List Nat → Prop} : xse (xFind tbX7_ofBoat 121) k = k (.aload_n 3) 3 0 0 [] := rfl
theorem tbX7_ofBoat_122 {k : Instr → Nat → Nat → Nat → List Nat → Prop} : xse (xFind tbX7_ofBoat 122) k = k (.getfield 301) 2 9 0 [] := rfl
theorem tbX7_ofBoat_125 {k : Instr → Nat → Nat → Nat → List Nat → Prop} : xse (xFind tbX7_ofBoat 125) k = k (.ireturn) 0 0 0 [] := rfl
theorem tbX7_ofBoat_126 {k : Instr → Nat → Nat → Nat → List Nat → Prop} : xse (xFind tbX7_ofBoat 126) k = k (.aload_n 3) 3 0 0 [] := rfl
theorem tbX7_ofBoat_127 {k : Instr → Nat → Nat → Nat → List Nat → Prop} : xse (xFind tbX7_ofBoat 127) k = k (.getfield 344) 2 13 0 [] := rfl
theorem tbX7_ofBoat_130 {k : Instr → Nat → Nat → Nat → List Nat → Prop} : xse (xFind tbX7_ofBoat 130) k = k (.ireturn) 0 0 0 [] := rfl
theorem tbX7_ofBoat_131 {k : Instr → Nat → Nat → Nat → List Nat → Prop} : xse (xFind tbX7_ofBoat 131) k = k (.new 347) 1 0 0 [] := rfl

def spX7_ofBoat (W9 : xWd) : xSp cS := (fun av S => (2, 12), fun av S K => ∃ (a : Nat) (k : Int32) (w : Int32), av = [.ref a, .int k, .int w] ∧ (cK S a = 9 ∧ bAll S (cRf S a 804) ∧ cIn S a 804 1 ∧ lAll S (cRf S a 804) 3 ∧ (0 ≤ k ∧ k < cFi S (cRf S a 804) 2 → (0 ≤ w ∧ w ≤ 10 → K (rI (cTlb S (lG S (cRf S a 804) k.toNatClampNeg) w)) S) ∧ (¬ (0 ≤ w ∧ w ≤ 10) → K (rX "java/lang/IndexOutOfBoundsException") S)) ∧ (¬ (0 ≤ k ∧ k < cFi S (cRf S a 804) 2) → K (rX "java/lang/IndexOutOfBoundsException") S)))
theorem spcX7_ofBoat {av : List Value} {S : cS} {W9 : xWd} : (spX7_ofBoat W9).1 av S = (2, 12) := rfl
theorem spwX7_ofBoat {S : cS} {W9 : xWd} {K : xRes → cS → Prop} {a : Nat} {k : Int32} {w : Int32} : (spX7_ofBoat W9).2 [.ref a, .int k, .int w] S K = (cK S a = 9 ∧ bAll S (cRf S a 804) ∧ cIn S a 804 1 ∧ lAll S (cRf S a 804) 3 ∧ (0 ≤ k ∧ k < cFi S (cRf S a 804) 2 → (0 ≤ w ∧ w ≤ 10 → K (rI (cTlb S (lG S (cRf S a 804) k.toNatClampNeg) w)) S) ∧ (¬ (0 ≤ w ∧ w ≤ 10) → K (rX "java/lang/IndexOutOfBoundsException") S)) ∧ (¬ (0 ≤ k ∧ k < cFi S (cRf S a 804) 2) → K (rX "java/lang/IndexOutOfBoundsException") S)) :=
  propext ⟨fun h => by
    simp only [spX7_ofBoat] at h
    obtain ⟨_, _, _, e, h⟩ := h
    simp only [List.cons.injEq, Value.int.injEq, Value.ref.injEq, rf_eq, and_true, true_and] at e
    obtain ⟨rfl, rfl, rfl⟩ := e
    exact h, fun h => ⟨_, _, _, rfl, h⟩⟩

def callX7_ofBoat (W9 : xWd) : Nat → Option (xSp cS) := fun n => match n with | 0 => some (spX7_needBoat W9) | 1 => some (spX4_size W9) | 2 => some (spX4_weight W9) | 3 => some (spX4_draught W9) | 4 => some (spX4_breadth W9) | _ => none

theorem callX7_ofBoat_0 {W9 : xWd} {k : xSp cS → Prop} : xcs (callX7_ofBoat W9 0) k = k (spX7_needBoat W9) := rfl

theorem callX7_ofBoat_1 {W9 : xWd} {k : xSp cS → Prop} : xcs (callX7_ofBoat W9 1) k = k (spX4_size W9) := rfl

theorem callX7_ofBoat_2 {W9 : xWd} {k : xSp cS → Prop} : xcs (callX7_ofBoat W9 2) k = k (spX4_weight W9) := rfl

theorem callX7_ofBoat_3 {W9 : xWd} {k : xSp cS → Prop} : xcs (callX7_ofBoat W9 3) k = k (spX4_draught W9) := rfl

theorem callX7_ofBoat_4 {W9 : xWd} {k : xSp cS → Prop} : xcs (callX7_ofBoat W9 4) k = k (spX4_breadth W9) := rfl

theorem crX7_ofBoat (l : Launch) (hl : l.stackTraces = false) (W9 : xWd) : xCallsOK l W9 (cI) (callX7_ofBoat W9) clX7_ofBoat RX7 wsX7_ofBoat 7 111 4 := by
  intro E A p e R s m args below meth c hI hF hL X
  exact List.forall_mem_cons.mpr ⟨⟨_, rfl, xCR_V X (by rw [hI]; exact (semX7_needBoat l hl W9)) gX7_ofBoat_X7_needBoat rfl rfl (by decide +kernel) (by rw [hF, hL]; decide)⟩,
    List.forall_mem_cons.mpr ⟨⟨_, rfl, xCR_V X (by rw [hI]; exact (semX4_size l hl W9)) gX7_ofBoat_X4_size rfl rfl (by decide +kernel) (by rw [hF, hL]; decide)⟩,
    List.forall_mem_cons.mpr ⟨⟨_, rfl, xCR_V X (by rw [hI]; exact (semX4_weight l hl W9)) gX7_ofBoat_X4_weight rfl rfl (by decide +kernel) (by rw [hF, hL]; decide)⟩,
    List.forall_mem_cons.mpr ⟨⟨_, rfl, xCR_V X (by rw [hI]; exact (semX4_draught l hl W9)) gX7_ofBoat_X4_draught rfl rfl (by decide +kernel) (by rw [hF, hL]; decide)⟩,
    List.forall_mem_cons.mpr ⟨⟨_, rfl, xCR_V X (by rw [hI]; exact (semX4_breadth l hl W9)) gX7_ofBoat_X4_breadth rfl rfl (by decide +kernel) (by rw [hF, hL]; decide)⟩,
    fun _ h => nomatch h⟩⟩⟩⟩⟩

def thfX7_ofBoat : Nat → String := fun n => match n with | 0 => "java/lang/IndexOutOfBoundsException" | _ => ""

theorem thfX7_ofBoat_0 : thfX7_ofBoat 0 = "java/lang/IndexOutOfBoundsException" := rfl

theorem trX7_ofBoat (l : Launch) (hl : l.stackTraces = false) (W9 : xWd) : xThrOK l W9 thfX7_ofBoat thX7_ofBoat RX7 cX7_ofBoat wsX7_ofBoat 7 111 4 := by
  intro A p e R s m args below meth c hF hL hb hx hml hown hts hAmb hlocks hext
  exact List.forall_mem_cons.mpr ⟨xTR_SW (text := "no such thing is told of a boat") hl hx hb hml hown hts hAmb hlocks hext (by decide +kernel) (ik := 347) (is := 349) (ic := 351) (by decide +kernel) (by decide +kernel) (by decide +kernel) (atin_of (by decide +kernel)) xng_ioobe xgood_ioobe (by decide +kernel) (by decide +kernel) (by decide +kernel) (by decide +kernel) (by decide +kernel) (by rw [hF, hL]; decide),
    fun _ h => nomatch h⟩

set_option maxHeartbeats 4000000 in
set_option maxRecDepth 20000 in
theorem semX7_ofBoat (l : Launch) (hl : l.stackTraces = false) (W9 : xWd) : xSem l W9 (cI) yX7_ofBoat wsX7_ofBoat 7 111 (spX7_ofBoat W9) := by
  refine xSem_of (call := callX7_ofBoat W9) (thrf := thfX7_ofBoat) cI_law (by decide +kernel) rfl ckX7_ofBoat usX7_ofBoat (crX7_ofBoat l hl W9) (trX7_ofBoat l hl W9) ?_ ?_
  · intro av S KF h
    obtain ⟨a, k, w, rfl, h⟩ := h
    exact ⟨by intro v hv; simp only [List.mem_cons, List.not_mem_nil, or_false] at hv; rcases hv with rfl | rfl | rfl <;> first | rfl | exact cat_rf, Nat.le_of_ble_eq_true rfl⟩
  intro av S KF h G hG
  obtain ⟨a, k, w, rfl, h⟩ := h
  rw [show (spX7_ofBoat W9).1 _ S = _ from spcX7_ofBoat] at hG
  try dsimp only at hG
  change G 0 [some (.ref a), some (.int k), some (.int w), none] [] S 0 0
  obtain ⟨h0, hb, h1, h2, h3, h4⟩ := h

  by_cases q : 0 ≤ k ∧ k < cFi S (cRf S a 804) 2
  · obtain ⟨h5, h6⟩ := h3 q
    have ix := (lOk_in h2.1 q.1 q.2).2.2
    have g0 := (h2.2 _ ix).2
    obtain ⟨b1, ⟨b2, b2b⟩, b3⟩ := hb.2 _ ix
    obtain ⟨f1, f2, f3, f4, f5, f6⟩ := rOk_facts b3
    have f7 := b3.2.1
    have f8 : cRf S (cRf S (lG S (cRf S a 804) k.toNatClampNeg) 203) 505 = rL S (cRf S (lG S (cRf S a 804) k.toNatClampNeg) 203) := rfl
    generalize hb0 : lG S (cRf S a 804) k.toNatClampNeg = b at *
    unfold cTlb at h5
    refine xgo0 hG (fun fu hfu => ?_)
    simp only [↓callX7_ofBoat_0, ↓callX7_ofBoat_1, ↓callX7_ofBoat_2, ↓callX7_ofBoat_3, ↓callX7_ofBoat_4, ↓cg_2_10, ↓cg_2_13, ↓cg_2_3, ↓cg_2_4, ↓cg_2_5, ↓cg_2_6, ↓cg_2_7, ↓cg_2_9, cisa, ↓vm_aload_n, ↓vm_astore_n, ↓vm_getfield, ↓vm_iload_n, ↓vm_invokevirtual, ↓vm_ireturn, ↓vm_newX, ↓vm_tableswitch, ↓xTs_cons, ↓xTs_nil, ↓xc_1, ↓xc_2, ↓tbX7_ofBoat_0, ↓tbX7_ofBoat_1, ↓tbX7_ofBoat_2, ↓tbX7_ofBoat_5, ↓tbX7_ofBoat_6, ↓tbX7_ofBoat_7, ↓tbX7_ofBoat_64, ↓tbX7_ofBoat_65, ↓tbX7_ofBoat_68, ↓tbX7_ofBoat_69, ↓tbX7_ofBoat_70, ↓tbX7_ofBoat_73, ↓tbX7_ofBoat_74, ↓tbX7_ofBoat_75, ↓tbX7_ofBoat_78, ↓tbX7_ofBoat_79, ↓tbX7_ofBoat_80, ↓tbX7_ofBoat_83, ↓tbX7_ofBoat_84, ↓tbX7_ofBoat_85, ↓tbX7_ofBoat_88, ↓tbX7_ofBoat_89, ↓tbX7_ofBoat_90, ↓tbX7_ofBoat_93, ↓tbX7_ofBoat_96, ↓tbX7_ofBoat_97, ↓tbX7_ofBoat_98, ↓tbX7_ofBoat_101, ↓tbX7_ofBoat_104, ↓tbX7_ofBoat_105, ↓tbX7_ofBoat_106, ↓tbX7_ofBoat_109, ↓tbX7_ofBoat_112, ↓tbX7_ofBoat_113, ↓tbX7_ofBoat_114, ↓tbX7_ofBoat_117, ↓tbX7_ofBoat_120, ↓tbX7_ofBoat_121, ↓tbX7_ofBoat_122, ↓tbX7_ofBoat_125, ↓tbX7_ofBoat_126, ↓tbX7_ofBoat_127, ↓tbX7_ofBoat_130, ↓tbX7_ofBoat_131, hfu, xstep0, xJ1_hit, xJ1_go, xJ2_hit1, xJ2_hit2, xJ2_go, ↓xif_t, ↓xif_f, seval, ↓xca_eq, ↓xre_l, ↓xre_r, xmask_t, xmask_f, xmask_nil, ↓xst_eq, xX_eq, eI_eq, eMc_eq, eMs_eq, eF_eq, eThr_eq, ↓xS1_mk, ↓xSI_mk, ↓xSR_mk, ↓xLI_0, ↓xLI_s, ↓xLR_0, ↓xLR_s, vRef_ref, vRef_null, vRef_rf, cat_int, cat_ref, cat_null, cat_rf, rf_some, rf_none, rf_null, rf_eq, rf_ref, ref_rf, ref_null, ref_ref, xOk_0, xOk_1, xOk_2r, xOk_2n, xOk_2f, vOpt_rf, vOpt_ref, vOpt_null, List.set_cons_zero, List.set_cons_succ, List.take_succ_cons, List.take_zero, List.drop_succ_cons, List.drop_zero, List.reverse_cons, List.reverse_nil, List.nil_append, List.cons_append, List.append_nil, List.length_cons, List.length_nil, List.map_cons, List.map_nil, List.sum_cons, List.sum_nil, Option.toList_some, Option.toList_none, xRecv_mk, true_and, and_true, true_implies, Nat.reduceAdd, Nat.reduceLeDiff, Nat.zero_le, Nat.le_refl, Nat.add_zero, Nat.zero_add, reduceIte, not_true_eq_false, not_false_eq_true, false_implies, and_self, implies_true, eq_self, Nat.reduceEqDiff, List.cons.injEq, xsn_1, xsn_2, false_and, and_false, or_false, false_or, or_true, true_or, xsn_3, xsn_4, ti_0, ti_1, ti_2, ti_3, ti_4, ti_5, ti_6, ti_7, ti_8, ti_9, ti_10, tlt_0, tgt_10, ↓spwX7_needBoat, spcX7_needBoat, ↓spwX4_size, spcX4_size, ↓spwX4_weight, spcX4_weight, ↓spwX4_draught, spcX4_draught, ↓spwX4_breadth, spcX4_breadth, thfX7_ofBoat_0, h0, h1, h2, q, hb0, g0, b2, b2b, b3, f1, f5, f7, f8]
    try simp only [xif_e]
    repeat' (first | with_reducible apply And.intro | with_reducible intro _)
    all_goals grind (splits := 30)
  · have h := h4 q
    refine xgo hG (mb := []) (head := 6) (P := fun _ _ _ _ _ => False) (fun _ _ _ _ _ q => q.elim) (pc := 0) (fun fu hfu => ?_)
    simp only [↓callX7_ofBoat_0, ↓callX7_ofBoat_1, ↓callX7_ofBoat_2, ↓callX7_ofBoat_3, ↓callX7_ofBoat_4, ↓cg_2_10, ↓cg_2_13, ↓cg_2_3, ↓cg_2_4, ↓cg_2_5, ↓cg_2_6, ↓cg_2_7, ↓cg_2_9, cisa, ↓vm_aload_n, ↓vm_astore_n, ↓vm_getfield, ↓vm_iload_n, ↓vm_invokevirtual, ↓vm_ireturn, ↓vm_newX, ↓vm_tableswitch, ↓xTs_cons, ↓xTs_nil, ↓xc_1, ↓xc_2, ↓tbX7_ofBoat_0, ↓tbX7_ofBoat_1, ↓tbX7_ofBoat_2, ↓tbX7_ofBoat_5, ↓tbX7_ofBoat_6, ↓tbX7_ofBoat_7, ↓tbX7_ofBoat_64, ↓tbX7_ofBoat_65, ↓tbX7_ofBoat_68, ↓tbX7_ofBoat_69, ↓tbX7_ofBoat_70, ↓tbX7_ofBoat_73, ↓tbX7_ofBoat_74, ↓tbX7_ofBoat_75, ↓tbX7_ofBoat_78, ↓tbX7_ofBoat_79, ↓tbX7_ofBoat_80, ↓tbX7_ofBoat_83, ↓tbX7_ofBoat_84, ↓tbX7_ofBoat_85, ↓tbX7_ofBoat_88, ↓tbX7_ofBoat_89, ↓tbX7_ofBoat_90, ↓tbX7_ofBoat_93, ↓tbX7_ofBoat_96, ↓tbX7_ofBoat_97, ↓tbX7_ofBoat_98, ↓tbX7_ofBoat_101, ↓tbX7_ofBoat_104, ↓tbX7_ofBoat_105, ↓tbX7_ofBoat_106, ↓tbX7_ofBoat_109, ↓tbX7_ofBoat_112, ↓tbX7_ofBoat_113, ↓tbX7_ofBoat_114, ↓tbX7_ofBoat_117, ↓tbX7_ofBoat_120, ↓tbX7_ofBoat_121, ↓tbX7_ofBoat_122, ↓tbX7_ofBoat_125, ↓tbX7_ofBoat_126, ↓tbX7_ofBoat_127, ↓tbX7_ofBoat_130, ↓tbX7_ofBoat_131, hfu, xstep0, xJ1_hit, xJ1_go, xJ2_hit1, xJ2_hit2, xJ2_go, ↓xif_t, ↓xif_f, seval, ↓xca_eq, ↓xre_l, ↓xre_r, xmask_t, xmask_f, xmask_nil, ↓xst_eq, xX_eq, eI_eq, eMc_eq, eMs_eq, eF_eq, eThr_eq, ↓xS1_mk, ↓xSI_mk, ↓xSR_mk, ↓xLI_0, ↓xLI_s, ↓xLR_0, ↓xLR_s, vRef_ref, vRef_null, vRef_rf, cat_int, cat_ref, cat_null, cat_rf, rf_some, rf_none, rf_null, rf_eq, rf_ref, ref_rf, ref_null, ref_ref, xOk_0, xOk_1, xOk_2r, xOk_2n, xOk_2f, vOpt_rf, vOpt_ref, vOpt_null, List.set_cons_zero, List.set_cons_succ, List.take_succ_cons, List.take_zero, List.drop_succ_cons, List.drop_zero, List.reverse_cons, List.reverse_nil, List.nil_append, List.cons_append, List.append_nil, List.length_cons, List.length_nil, List.map_cons, List.map_nil, List.sum_cons, List.sum_nil, Option.toList_some, Option.toList_none, xRecv_mk, true_and, and_true, true_implies, Nat.reduceAdd, Nat.reduceLeDiff, Nat.zero_le, Nat.le_refl, Nat.add_zero, Nat.zero_add, reduceIte, not_true_eq_false, not_false_eq_true, false_implies, and_self, implies_true, eq_self, Nat.reduceEqDiff, List.cons.injEq, xsn_1, xsn_2, false_and, and_false, or_false, false_or, or_true, true_or, xsn_3, xsn_4, ti_0, ti_1, ti_2, ti_3, ti_4, ti_5, ti_6, ti_7, ti_8, ti_9, ti_10, tlt_0, tgt_10, ↓spwX7_needBoat, spcX7_needBoat, ↓spwX4_size, spcX4_size, ↓spwX4_weight, spcX4_weight, ↓spwX4_draught, spcX4_draught, ↓spwX4_breadth, spcX4_breadth, thfX7_ofBoat_0, h0, h1, h2, q]
    try simp only [xif_e]
    first | exact h | grind

def tbX7_ofContract : List (Nat × xHint) := [(0, .aload_n 0, 0, 0, 0, []), (1, .iload_n 1, 1, 0, 0, []), (2, .invokevirtual 140, 0, 2, 8, []), (5, .astore_n 3, 3, 0, 0, []), (6, .iload_n 2, 2, 0, 0, []), (7, .tableswitch 67 0 5 #[37, 42, 47, 52, 57, 62], 74, 0, 0, [44, 49, 54, 59, 64, 69]), (44, .aload_n 3, 3, 0, 0, []), (45, .getfield 168, 3, 4, 0, []), (48, .ireturn, 0, 0, 0, []), (49, .aload_n 3, 3, 0, 0, []), (50, .getfield 389, 3, 7, 0, []), (53, .ireturn, 0, 0, 0, []), (54, .aload_n 3, 3, 0, 0, []), (55, .getfield 392, 3, 8, 0, []), (58, .ireturn, 0, 0, 0, []), (59, .aload_n 3, 3, 0, 0, []), (60, .getfield 395, 3, 9, 0, []), (63, .ireturn, 0, 0, 0, []), (64, .aload_n 3, 3, 0, 0, []), (65, .getfield 147, 3, 3, 0, []), (68, .ireturn, 0, 0, 0, []), (69, .aload_n 3, 3, 0, 0, []), (70, .getfield 150, 3, 10, 0, []), (73, .ireturn, 0, 0, 0, []), (74, .new 347, 1, 0, 0, [])]
def clX7_ofContract : List (Instr × Nat × Nat × Nat) := [(.invokevirtual 140, 0, 2, 8)]
def thX7_ofContract : List (Nat × Nat) := [(74, 0)]
theorem ckX7_ofContract : tbX7_ofContract.all (xRow RX7 cX7_ofContract wsX7_ofContract vwCl [3] clX7_ofContract thX7_ofContract 4 (yX7_ofContract.name == "<init>") (some .int)) = true := xRow_q 0xbf5f01b78e0113595b01bbac9600b42dac9300b42dac8b01b42dac8801b42dac8501b42daca800b42d3e00000039000000340000002f0000002a00000025000000050000000000000043000000aa1c4e8c00b61b2a 85 (by decide +kernel) (by decide +kernel)
theorem usX7_ofContract : xUse wsX7_ofContract vwCl [3] = true := xUse_g rfl (lw_good lwl_X7_ofContract lwl_X20 (by decide +kernel)) xUse_n
theorem tbX7_ofContract_0 {k : Instr → Nat → Nat → Nat → List Nat → Prop} : xse (xFind tbX7_ofContract 0) k = k (.aload_n 0) 0 0 0 [] := rfl
theorem tbX7_ofContract_1 {k : Instr → Nat → Nat → Nat → List Nat → Prop} : xse (xFind tbX7_ofContract 1) k = k (.iload_n 1) 1 0 0 [] := rfl
theorem tbX7_ofContract_2 {k : Instr → Nat → Nat → Nat → List Nat → Prop} : xse (xFind tbX7_ofContract 2) k = k (.invokevirtual 140) 0 2 8 [] := rfl
theorem tbX7_ofContract_5 {k : Instr → Nat → Nat → Nat → List Nat → Prop} : xse (xFind tbX7_ofContract 5) k = k (.astore_n 3) 3 0 0 [] := rfl
theorem tbX7_ofContract_6 {k : Instr → Nat → Nat → Nat → List Nat → Prop} : xse (xFind tbX7_ofContract 6) k = k (.iload_n 2) 2 0 0 [] := rfl
theorem tbX7_ofContract_7 {k : Instr → Nat → Nat → Nat → List Nat → Prop} : xse (xFind tbX7_ofContract 7) k = k (.tableswitch 67 0 5 #[37, 42, 47, 52, 57, 62]) 74 0 0 [44, 49, 54, 59, 64, 69] := rfl
theorem tbX7_ofContract_44 {k : Instr → Nat → Nat → Nat → List Nat → Prop} : xse (xFind tbX7_ofContract 44) k = k (.aload_n 3) 3 0 0 [] := rfl
theorem tbX7_ofContract_45 {k : Instr → Nat → Nat → Nat → List Nat → Prop} : xse (xFind tbX7_ofContract 45) k = k (.getfield 168) 3 4 0 [] := rfl
theorem tbX7_ofContract_48 {k : Instr → Nat → Nat → Nat → List Nat → Prop} : xse (xFind tbX7_ofContract 48) k = k (.ireturn) 0 0 0 [] := rfl
theorem tbX7_ofContract_49 {k : Instr → Nat → Nat → Nat → List Nat → Prop} : xse (xFind tbX7_ofContract 49) k = k (.aload_n 3) 3 0 0 [] := rfl
theorem tbX7_ofContract_50 {k : Instr → Nat → Nat → Nat → List Nat → Prop} : xse (xFind tbX7_ofContract 50) k = k (.getfield 389) 3 7 0 [] := rfl
theorem tbX7_ofContract_53 {k : Instr → Nat → Nat → Nat → List Nat → Prop} : xse (xFind tbX7_ofContract 53) k = k (.ireturn) 0 0 0 [] := rfl
theorem tbX7_ofContract_54 {k : Instr → Nat → Nat → Nat → List Nat → Prop} : xse (xFind tbX7_ofContract 54) k = k (.aload_n 3) 3 0 0 [] := rfl
theorem tbX7_ofContract_55 {k : Instr → Nat → Nat → Nat → List Nat → Prop} : xse (xFind tbX7_ofContract 55) k = k (.getfield 392) 3 8 0 [] := rfl
theorem tbX7_ofContract_58 {k : Instr → Nat → Nat → Nat → List Nat → Prop} : xse (xFind tbX7_ofContract 58) k = k (.ireturn) 0 0 0 [] := rfl
theorem tbX7_ofContract_59 {k : Instr → Nat → Nat → Nat → List Nat → Prop} : xse (xFind tbX7_ofContract 59) k = k (.aload_n 3) 3 0 0 [] := rfl
theorem tbX7_ofContract_60 {k : Instr → Nat → Nat → Nat → List Nat → Prop} : xse (xFind tbX7_ofContract 60) k = k (.getfield 395) 3 9 0 [] := rfl
theorem tbX7_ofContract_63 {k : Instr → Nat → Nat → Nat → List Nat → Prop} : xse (xFind tbX7_ofContract 63) k = k (.ireturn) 0 0 0 [] := rfl
theorem tbX7_ofContract_64 {k : Instr → Nat → Nat → Nat → List Nat → Prop} : xse (xFind tbX7_ofContract 64) k = k (.aload_n 3) 3 0 0 [] := rfl
theorem tbX7_ofContract_65 {k : Instr → Nat → Nat → Nat → List Nat → Prop} : xse (xFind tbX7_ofContract 65) k = k (.getfield 147) 3 3 0 [] := rfl
theorem tbX7_ofContract_68 {k : Instr → Nat → Nat → Nat → List Nat → Prop} : xse (xFind tbX7_ofContract 68) k = k (.ireturn) 0 0 0 [] := rfl
theorem tbX7_ofContract_69 {k : Instr → Nat → Nat → Nat → List Nat → Prop} : xse (xFind tbX7_ofContract 69) k = k (.aload_n 3) 3 0 0 [] := rfl
theorem tbX7_ofContract_70 {k : Instr → Nat → Nat → Nat → List Nat → Prop} : xse (xFind tbX7_ofContract 70) k = k (.getfield 150) 3 10 0 [] := rfl
theorem tbX7_ofContract_73 {k : Instr → Nat → Nat → Nat → List Nat → Prop} : xse (xFind tbX7_ofContract 73) k = k (.ireturn) 0 0 0 [] := rfl
theorem tbX7_ofContract_74 {k : Instr → Nat → Nat → Nat → List Nat → Prop} : xse (xFind tbX7_ofContract 74) k = k (.new 347) 1 0 0 [] := rfl

def spX7_ofContract (W9 : xWd) : xSp cS := (fun av S => (2, 12), fun av S K => ∃ (a : Nat) (k : Int32) (w : Int32), av = [.ref a, .int k, .int w] ∧ (cK S a = 9 ∧ cIn S a 803 1 ∧ lAll S (cRf S a 803) 4 ∧ (0 ≤ k ∧ k < cFi S (cRf S a 803) 2 → (0 ≤ w ∧ w ≤ 5 → K (rI (cTlc S (lG S (cRf S a 803) k.toNatClampNeg) w)) S) ∧ (¬ (0 ≤ w ∧ w ≤ 5) → K (rX "java/lang/IndexOutOfBoundsException") S)) ∧ (¬ (0 ≤ k ∧ k < cFi S (cRf S a 803) 2) → K (rX "java/lang/IndexOutOfBoundsException") S)))
theorem spcX7_ofContract {av : List Value} {S : cS} {W9 : xWd} : (spX7_ofContract W9).1 av S = (2, 12) := rfl
theorem spwX7_ofContract {S : cS} {W9 : xWd} {K : xRes → cS → Prop} {a : Nat} {k : Int32} {w : Int32} : (spX7_ofContract W9).2 [.ref a, .int k, .int w] S K = (cK S a = 9 ∧ cIn S a 803 1 ∧ lAll S (cRf S a 803) 4 ∧ (0 ≤ k ∧ k < cFi S (cRf S a 803) 2 → (0 ≤ w ∧ w ≤ 5 → K (rI (cTlc S (lG S (cRf S a 803) k.toNatClampNeg) w)) S) ∧ (¬ (0 ≤ w ∧ w ≤ 5) → K (rX "java/lang/IndexOutOfBoundsException") S)) ∧ (¬ (0 ≤ k ∧ k < cFi S (cRf S a 803) 2) → K (rX "java/lang/IndexOutOfBoundsException") S)) :=
  propext ⟨fun h => by
    simp only [spX7_ofContract] at h
    obtain ⟨_, _, _, e, h⟩ := h
    simp only [List.cons.injEq, Value.int.injEq, Value.ref.injEq, rf_eq, and_true, true_and] at e
    obtain ⟨rfl, rfl, rfl⟩ := e
    exact h, fun h => ⟨_, _, _, rfl, h⟩⟩

def callX7_ofContract (W9 : xWd) : Nat → Option (xSp cS) := fun n => match n with | 0 => some (spX7_needContract W9) | _ => none

theorem callX7_ofContract_0 {W9 : xWd} {k : xSp cS → Prop} : xcs (callX7_ofContract W9 0) k = k (spX7_needContract W9) := rfl

theorem crX7_ofContract (l : Launch) (hl : l.stackTraces = false) (W9 : xWd) : xCallsOK l W9 (cI) (callX7_ofContract W9) clX7_ofContract RX7 wsX7_ofContract 7 111 4 := by
  intro E A p e R s m args below meth c hI hF hL X
  exact List.forall_mem_cons.mpr ⟨⟨_, rfl, xCR_V X (by rw [hI]; exact (semX7_needContract l hl W9)) gX7_ofContract_X7_needContract rfl rfl (by decide +kernel) (by rw [hF, hL]; decide)⟩,
    fun _ h => nomatch h⟩

def thfX7_ofContract : Nat → String := fun n => match n with | 0 => "java/lang/IndexOutOfBoundsException" | _ => ""

theorem thfX7_ofContract_0 : thfX7_ofContract 0 = "java/lang/IndexOutOfBoundsException" := rfl

theorem trX7_ofContract (l : Launch) (hl : l.stackTraces = false) (W9 : xWd) : xThrOK l W9 thfX7_ofContract thX7_ofContract RX7 cX7_ofContract wsX7_ofContract 7 111 4 := by
  intro A p e R s m args below meth c hF hL hb hx hml hown hts hAmb hlocks hext
  exact List.forall_mem_cons.mpr ⟨xTR_SW (text := "no such thing is told of a contract") hl hx hb hml hown hts hAmb hlocks hext (by decide +kernel) (ik := 347) (is := 398) (ic := 351) (by decide +kernel) (by decide +kernel) (by decide +kernel) (atin_of (by decide +kernel)) xng_ioobe xgood_ioobe (by decide +kernel) (by decide +kernel) (by decide +kernel) (by decide +kernel) (by decide +kernel) (by rw [hF, hL]; decide),
    fun _ h => nomatch h⟩

set_option maxHeartbeats 4000000 in
set_option maxRecDepth 20000 in
theorem semX7_ofContract (l : Launch) (hl : l.stackTraces = false) (W9 : xWd) : xSem l W9 (cI) yX7_ofContract wsX7_ofContract 7 111 (spX7_ofContract W9) := by
  refine xSem_of (call := callX7_ofContract W9) (thrf := thfX7_ofContract) cI_law (by decide +kernel) rfl ckX7_ofContract usX7_ofContract (crX7_ofContract l hl W9) (trX7_ofContract l hl W9) ?_ ?_
  · intro av S KF h
    obtain ⟨a, k, w, rfl, h⟩ := h
    exact ⟨by intro v hv; simp only [List.mem_cons, List.not_mem_nil, or_false] at hv; rcases hv with rfl | rfl | rfl <;> first | rfl | exact cat_rf, Nat.le_of_ble_eq_true rfl⟩
  intro av S KF h G hG
  obtain ⟨a, k, w, rfl, h⟩ := h
  rw [show (spX7_ofContract W9).1 _ S = _ from spcX7_ofContract] at hG
  try dsimp only at hG
  change G 0 [some (.ref a), some (.int k), some (.int w), none] [] S 0 0
  obtain ⟨h0, h1, h2, h3, h4⟩ := h

  by_cases q : 0 ≤ k ∧ k < cFi S (cRf S a 803) 2
  · obtain ⟨h5, h6⟩ := h3 q
    have ix := (lOk_in h2.1 q.1 q.2).2.2
    have g0 := (h2.2 _ ix).2
    unfold cTlc at h5
    refine xgo0 hG (fun fu hfu => ?_)
    simp only [↓callX7_ofContract_0, ↓cg_3_10, ↓cg_3_3, ↓cg_3_4, ↓cg_3_7, ↓cg_3_8, ↓cg_3_9, cisa, ↓vm_aload_n, ↓vm_astore_n, ↓vm_getfield, ↓vm_iload_n, ↓vm_invokevirtual, ↓vm_ireturn, ↓vm_newX, ↓vm_tableswitch, ↓xTs_cons, ↓xTs_nil, ↓xc_2, ↓tbX7_ofContract_0, ↓tbX7_ofContract_1, ↓tbX7_ofContract_2, ↓tbX7_ofContract_5, ↓tbX7_ofContract_6, ↓tbX7_ofContract_7, ↓tbX7_ofContract_44, ↓tbX7_ofContract_45, ↓tbX7_ofContract_48, ↓tbX7_ofContract_49, ↓tbX7_ofContract_50, ↓tbX7_ofContract_53, ↓tbX7_ofContract_54, ↓tbX7_ofContract_55, ↓tbX7_ofContract_58, ↓tbX7_ofContract_59, ↓tbX7_ofContract_60, ↓tbX7_ofContract_63, ↓tbX7_ofContract_64, ↓tbX7_ofContract_65, ↓tbX7_ofContract_68, ↓tbX7_ofContract_69, ↓tbX7_ofContract_70, ↓tbX7_ofContract_73, ↓tbX7_ofContract_74, hfu, xstep0, xJ1_hit, xJ1_go, xJ2_hit1, xJ2_hit2, xJ2_go, ↓xif_t, ↓xif_f, seval, ↓xca_eq, ↓xre_l, ↓xre_r, xmask_t, xmask_f, xmask_nil, ↓xst_eq, xX_eq, eI_eq, eMc_eq, eMs_eq, eF_eq, eThr_eq, ↓xS1_mk, ↓xSI_mk, ↓xSR_mk, ↓xLI_0, ↓xLI_s, ↓xLR_0, ↓xLR_s, vRef_ref, vRef_null, vRef_rf, cat_int, cat_ref, cat_null, cat_rf, rf_some, rf_none, rf_null, rf_eq, rf_ref, ref_rf, ref_null, ref_ref, xOk_0, xOk_1, xOk_2r, xOk_2n, xOk_2f, vOpt_rf, vOpt_ref, vOpt_null, List.set_cons_zero, List.set_cons_succ, List.take_succ_cons, List.take_zero, List.drop_succ_cons, List.drop_zero, List.reverse_cons, List.reverse_nil, List.nil_append, List.cons_append, List.append_nil, List.length_cons, List.length_nil, List.map_cons, List.map_nil, List.sum_cons, List.sum_nil, Option.toList_some, Option.toList_none, xRecv_mk, true_and, and_true, true_implies, Nat.reduceAdd, Nat.reduceLeDiff, Nat.zero_le, Nat.le_refl, Nat.add_zero, Nat.zero_add, reduceIte, not_true_eq_false, not_false_eq_true, false_implies, and_self, implies_true, eq_self, Nat.reduceEqDiff, List.cons.injEq, xsn_1, xsn_2, false_and, and_false, or_false, false_or, or_true, true_or, xsn_3, xsn_4, ti_0, ti_1, ti_2, ti_3, ti_4, ti_5, ti_6, ti_7, ti_8, ti_9, ti_10, tlt_0, tgt_5, ↓spwX7_needContract, spcX7_needContract, thfX7_ofContract_0, h0, h1, h2, q, g0]
    try simp only [xif_e]
    repeat' (first | with_reducible apply And.intro | with_reducible intro _)
    all_goals grind (splits := 30)
  · have h := h4 q
    refine xgo hG (mb := []) (head := 6) (P := fun _ _ _ _ _ => False) (fun _ _ _ _ _ q => q.elim) (pc := 0) (fun fu hfu => ?_)
    simp only [↓callX7_ofContract_0, ↓cg_3_10, ↓cg_3_3, ↓cg_3_4, ↓cg_3_7, ↓cg_3_8, ↓cg_3_9, cisa, ↓vm_aload_n, ↓vm_astore_n, ↓vm_getfield, ↓vm_iload_n, ↓vm_invokevirtual, ↓vm_ireturn, ↓vm_newX, ↓vm_tableswitch, ↓xTs_cons, ↓xTs_nil, ↓xc_2, ↓tbX7_ofContract_0, ↓tbX7_ofContract_1, ↓tbX7_ofContract_2, ↓tbX7_ofContract_5, ↓tbX7_ofContract_6, ↓tbX7_ofContract_7, ↓tbX7_ofContract_44, ↓tbX7_ofContract_45, ↓tbX7_ofContract_48, ↓tbX7_ofContract_49, ↓tbX7_ofContract_50, ↓tbX7_ofContract_53, ↓tbX7_ofContract_54, ↓tbX7_ofContract_55, ↓tbX7_ofContract_58, ↓tbX7_ofContract_59, ↓tbX7_ofContract_60, ↓tbX7_ofContract_63, ↓tbX7_ofContract_64, ↓tbX7_ofContract_65, ↓tbX7_ofContract_68, ↓tbX7_ofContract_69, ↓tbX7_ofContract_70, ↓tbX7_ofContract_73, ↓tbX7_ofContract_74, hfu, xstep0, xJ1_hit, xJ1_go, xJ2_hit1, xJ2_hit2, xJ2_go, ↓xif_t, ↓xif_f, seval, ↓xca_eq, ↓xre_l, ↓xre_r, xmask_t, xmask_f, xmask_nil, ↓xst_eq, xX_eq, eI_eq, eMc_eq, eMs_eq, eF_eq, eThr_eq, ↓xS1_mk, ↓xSI_mk, ↓xSR_mk, ↓xLI_0, ↓xLI_s, ↓xLR_0, ↓xLR_s, vRef_ref, vRef_null, vRef_rf, cat_int, cat_ref, cat_null, cat_rf, rf_some, rf_none, rf_null, rf_eq, rf_ref, ref_rf, ref_null, ref_ref, xOk_0, xOk_1, xOk_2r, xOk_2n, xOk_2f, vOpt_rf, vOpt_ref, vOpt_null, List.set_cons_zero, List.set_cons_succ, List.take_succ_cons, List.take_zero, List.drop_succ_cons, List.drop_zero, List.reverse_cons, List.reverse_nil, List.nil_append, List.cons_append, List.append_nil, List.length_cons, List.length_nil, List.map_cons, List.map_nil, List.sum_cons, List.sum_nil, Option.toList_some, Option.toList_none, xRecv_mk, true_and, and_true, true_implies, Nat.reduceAdd, Nat.reduceLeDiff, Nat.zero_le, Nat.le_refl, Nat.add_zero, Nat.zero_add, reduceIte, not_true_eq_false, not_false_eq_true, false_implies, and_self, implies_true, eq_self, Nat.reduceEqDiff, List.cons.injEq, xsn_1, xsn_2, false_and, and_false, or_false, false_or, or_true, true_or, xsn_3, xsn_4, ti_0, ti_1, ti_2, ti_3, ti_4, ti_5, ti_6, ti_7, ti_8, ti_9, ti_10, tlt_0, tgt_5, ↓spwX7_needContract, spcX7_needContract, thfX7_ofContract_0, h0, h1, h2, q]
    try simp only [xif_e]
    first | exact h | grind

def tbX7_all : List (Nat × xHint) := [(0, .iload_n 1, 1, 0, 0, []), (1, .tableswitch 78 0 6 #[43, 48, 53, 58, 63, 68, 73], 79, 0, 0, [44, 49, 54, 59, 64, 69, 74]), (44, .aload_n 0, 0, 0, 0, []), (45, .getfield 193, 8, 7, 0, []), (48, .ireturn, 0, 0, 0, []), (49, .aload_n 0, 0, 0, 0, []), (50, .getfield 81, 8, 8, 0, []), (53, .ireturn, 0, 0, 0, []), (54, .aload_n 0, 0, 0, 0, []), (55, .invokevirtual 400, 0, 1, 8, []), (58, .ireturn, 0, 0, 0, []), (59, .aload_n 0, 0, 0, 0, []), (60, .getfield 258, 8, 11, 0, []), (63, .ireturn, 0, 0, 0, []), (64, .aload_n 0, 0, 0, 0, []), (65, .getfield 207, 8, 12, 0, []), (68, .ireturn, 0, 0, 0, []), (69, .aload_n 0, 0, 0, 0, []), (70, .getfield 229, 8, 13, 0, []), (73, .ireturn, 0, 0, 0, []), (74, .aload_n 0, 0, 0, 0, []), (75, .invokevirtual 403, 1, 1, 8, []), (78, .ireturn, 0, 0, 0, []), (79, .new 347, 1, 0, 0, [])]
def clX7_all : List (Instr × Nat × Nat × Nat) := [(.invokevirtual 400, 0, 1, 8), (.invokevirtual 403, 1, 1, 8)]
def thX7_all : List (Nat × Nat) := [(79, 0)]
theorem ckX7_all : tbX7_all.all (xRow RX7 cX7_all wsX7_all vwCl [8] clX7_all thX7_all 2 (yX7_all.name == "<init>") (some .int)) = true := xRow_q 0xbf5f01b7960113595b01bbac9301b62aace500b42aaccf00b42aac0201b42aac9001b62aac5100b42aacc100b42a49000000440000003f0000003a00000035000000300000002b00000006000000000000004e0000000000aa1b 90 (by decide +kernel) (by decide +kernel)
theorem usX7_all : xUse wsX7_all vwCl [8] = true := xUse_g rfl (lw_good lwl_X7_all lwl_X70 (by decide +kernel)) xUse_n
theorem tbX7_all_0 {k : Instr → Nat → Nat → Nat → List Nat → Prop} : xse (xFind tbX7_all 0) k = k (.iload_n 1) 1 0 0 [] := rfl
theorem tbX7_all_1 {k : Instr → Nat → Nat → Nat → List Nat → Prop} : xse (xFind tbX7_all 1) k = k (.tableswitch 78 0 6 #[43, 48, 53, 58, 63, 68, 73]) 79 0 0 [44, 49, 54, 59, 64, 69, 74] := rfl
theorem tbX7_all_44 {k : Instr → Nat → Nat → Nat → List Nat → Prop} : xse (xFind tbX7_all 44) k = k (.aload_n 0) 0 0 0 [] := rfl
theorem tbX7_all_45 {k : Instr → Nat → Nat → Nat → List Nat → Prop} : xse (xFind tbX7_all 45) k = k (.getfield 193) 8 7 0 [] := rfl
theorem tbX7_all_48 {k : Instr → Nat → Nat → Nat → List Nat → Prop} : xse (xFind tbX7_all 48) k = k (.ireturn) 0 0 0 [] := rfl
theorem tbX7_all_49 {k : Instr → Nat → Nat → Nat → List Nat → Prop} : xse (xFind tbX7_all 49) k = k (.aload_n 0) 0 0 0 [] := rfl
theorem tbX7_all_50 {k : Instr → Nat → Nat → Nat → List Nat → Prop} : xse (xFind tbX7_all 50) k = k (.getfield 81) 8 8 0 [] := rfl
theorem tbX7_all_53 {k : Instr → Nat → Nat → Nat → List Nat → Prop} : xse (xFind tbX7_all 53) k = k (.ireturn) 0 0 0 [] := rfl
theorem tbX7_all_54 {k : Instr → Nat → Nat → Nat → List Nat → Prop} : xse (xFind tbX7_all 54) k = k (.aload_n 0) 0 0 0 [] := rfl
theorem tbX7_all_55 {k : Instr → Nat → Nat → Nat → List Nat → Prop} : xse (xFind tbX7_all 55) k = k (.invokevirtual 400) 0 1 8 [] := rfl
theorem tbX7_all_58 {k : Instr → Nat → Nat → Nat → List Nat → Prop} : xse (xFind tbX7_all 58) k = k (.ireturn) 0 0 0 [] := rfl
theorem tbX7_all_59 {k : Instr → Nat → Nat → Nat → List Nat → Prop} : xse (xFind tbX7_all 59) k = k (.aload_n 0) 0 0 0 [] := rfl
theorem tbX7_all_60 {k : Instr → Nat → Nat → Nat → List Nat → Prop} : xse (xFind tbX7_all 60) k = k (.getfield 258) 8 11 0 [] := rfl
theorem tbX7_all_63 {k : Instr → Nat → Nat → Nat → List Nat → Prop} : xse (xFind tbX7_all 63) k = k (.ireturn) 0 0 0 [] := rfl
theorem tbX7_all_64 {k : Instr → Nat → Nat → Nat → List Nat → Prop} : xse (xFind tbX7_all 64) k = k (.aload_n 0) 0 0 0 [] := rfl
theorem tbX7_all_65 {k : Instr → Nat → Nat → Nat → List Nat → Prop} : xse (xFind tbX7_all 65) k = k (.getfield 207) 8 12 0 [] := rfl
theorem tbX7_all_68 {k : Instr → Nat → Nat → Nat → List Nat → Prop} : xse (xFind tbX7_all 68) k = k (.ireturn) 0 0 0 [] := rfl
theorem tbX7_all_69 {k : Instr → Nat → Nat → Nat → List Nat → Prop} : xse (xFind tbX7_all 69) k = k (.aload_n 0) 0 0 0 [] := rfl
theorem tbX7_all_70 {k : Instr → Nat → Nat → Nat → List Nat → Prop} : xse (xFind tbX7_all 70) k = k (.getfield 229) 8 13 0 [] := rfl
theorem tbX7_all_73 {k : Instr → Nat → Nat → Nat → List Nat → Prop} : xse (xFind tbX7_all 73) k = k (.ireturn) 0 0 0 [] := rfl
theorem tbX7_all_74 {k : Instr → Nat → Nat → Nat → List Nat → Prop} : xse (xFind tbX7_all 74) k = k (.aload_n 0) 0 0 0 [] := rfl
theorem tbX7_all_75 {k : Instr → Nat → Nat → Nat → List Nat → Prop} : xse (xFind tbX7_all 75) k = k (.invokevirtual 403) 1 1 8 [] := rfl
theorem tbX7_all_78 {k : Instr → Nat → Nat → Nat → List Nat → Prop} : xse (xFind tbX7_all 78) k = k (.ireturn) 0 0 0 [] := rfl
theorem tbX7_all_79 {k : Instr → Nat → Nat → Nat → List Nat → Prop} : xse (xFind tbX7_all 79) k = k (.new 347) 1 0 0 [] := rfl

def spX7_all (W9 : xWd) : xSp cS := (fun av S => (1, 6), fun av S K => ∃ (a : Nat) (w : Int32), av = [.ref a, .int w] ∧ (cK S a = 9 ∧ (cIn S a 803 1 ∧ lAll S (cRf S a 803) 4) ∧ (cIn S a 804 1 ∧ lAll S (cRf S a 804) 3 ∧ bWt S (cRf S a 804)) ∧ (0 ≤ w ∧ w ≤ 6 → K (rI (cTla S a w)) S) ∧ (¬ (0 ≤ w ∧ w ≤ 6) → K (rX "java/lang/IndexOutOfBoundsException") S)))
theorem spcX7_all {av : List Value} {S : cS} {W9 : xWd} : (spX7_all W9).1 av S = (1, 6) := rfl
theorem spwX7_all {S : cS} {W9 : xWd} {K : xRes → cS → Prop} {a : Nat} {w : Int32} : (spX7_all W9).2 [.ref a, .int w] S K = (cK S a = 9 ∧ (cIn S a 803 1 ∧ lAll S (cRf S a 803) 4) ∧ (cIn S a 804 1 ∧ lAll S (cRf S a 804) 3 ∧ bWt S (cRf S a 804)) ∧ (0 ≤ w ∧ w ≤ 6 → K (rI (cTla S a w)) S) ∧ (¬ (0 ≤ w ∧ w ≤ 6) → K (rX "java/lang/IndexOutOfBoundsException") S)) :=
  propext ⟨fun h => by
    simp only [spX7_all] at h
    obtain ⟨_, _, e, h⟩ := h
    simp only [List.cons.injEq, Value.int.injEq, Value.ref.injEq, rf_eq, and_true, true_and] at e
    obtain ⟨rfl, rfl⟩ := e
    exact h, fun h => ⟨_, _, rfl, h⟩⟩

def callX7_all (W9 : xWd) : Nat → Option (xSp cS) := fun n => match n with | 0 => some (spX7_paidInAll W9) | 1 => some (spX7_waitedInAll W9) | _ => none

theorem callX7_all_0 {W9 : xWd} {k : xSp cS → Prop} : xcs (callX7_all W9 0) k = k (spX7_paidInAll W9) := rfl

theorem callX7_all_1 {W9 : xWd} {k : xSp cS → Prop} : xcs (callX7_all W9 1) k = k (spX7_waitedInAll W9) := rfl

theorem crX7_all (l : Launch) (hl : l.stackTraces = false) (W9 : xWd) : xCallsOK l W9 (cI) (callX7_all W9) clX7_all RX7 wsX7_all 6 90 2 := by
  intro E A p e R s m args below meth c hI hF hL X
  exact List.forall_mem_cons.mpr ⟨⟨_, rfl, xCR_V X (by rw [hI]; exact (semX7_paidInAll l hl W9)) gX7_all_X7_paidInAll rfl rfl (by decide +kernel) (by rw [hF, hL]; decide)⟩,
    List.forall_mem_cons.mpr ⟨⟨_, rfl, xCR_V X (by rw [hI]; exact (semX7_waitedInAll l hl W9)) gX7_all_X7_waitedInAll rfl rfl (by decide +kernel) (by rw [hF, hL]; decide)⟩,
    fun _ h => nomatch h⟩⟩

def thfX7_all : Nat → String := fun n => match n with | 0 => "java/lang/IndexOutOfBoundsException" | _ => ""

theorem thfX7_all_0 : thfX7_all 0 = "java/lang/IndexOutOfBoundsException" := rfl

theorem trX7_all (l : Launch) (hl : l.stackTraces = false) (W9 : xWd) : xThrOK l W9 thfX7_all thX7_all RX7 cX7_all wsX7_all 6 90 2 := by
  intro A p e R s m args below meth c hF hL hb hx hml hown hts hAmb hlocks hext
  exact List.forall_mem_cons.mpr ⟨xTR_SW (text := "no such thing is told of the whole") hl hx hb hml hown hts hAmb hlocks hext (by decide +kernel) (ik := 347) (is := 406) (ic := 351) (by decide +kernel) (by decide +kernel) (by decide +kernel) (atin_of (by decide +kernel)) xng_ioobe xgood_ioobe (by decide +kernel) (by decide +kernel) (by decide +kernel) (by decide +kernel) (by decide +kernel) (by rw [hF, hL]; decide),
    fun _ h => nomatch h⟩

set_option maxHeartbeats 4000000 in
set_option maxRecDepth 20000 in
theorem semX7_all (l : Launch) (hl : l.stackTraces = false) (W9 : xWd) : xSem l W9 (cI) yX7_all wsX7_all 6 90 (spX7_all W9) := by
  refine xSem_of (call := callX7_all W9) (thrf := thfX7_all) cI_law (by decide +kernel) rfl ckX7_all usX7_all (crX7_all l hl W9) (trX7_all l hl W9) ?_ ?_
  · intro av S KF h
    obtain ⟨a, w, rfl, h⟩ := h
    exact ⟨by intro v hv; simp only [List.mem_cons, List.not_mem_nil, or_false] at hv; rcases hv with rfl | rfl <;> first | rfl | exact cat_rf, Nat.le_of_ble_eq_true rfl⟩
  intro av S KF h G hG
  obtain ⟨a, w, rfl, h⟩ := h
  rw [show (spX7_all W9).1 _ S = _ from spcX7_all] at hG
  try dsimp only at hG
  change G 0 [some (.ref a), some (.int w)] [] S 0 0
  obtain ⟨h0, ⟨h1, h2⟩, ⟨h3, h4, h5⟩, h6, h7⟩ := h
  refine xgo0 hG (fun fu hfu => ?_)
  clear hG
  simp only [↓callX7_all_0, ↓callX7_all_1, ↓cg_8_11, ↓cg_8_12, ↓cg_8_13, ↓cg_8_7, ↓cg_8_8, cisa, ↓vm_aload_n, ↓vm_getfield, ↓vm_iload_n, ↓vm_invokevirtual, ↓vm_ireturn, ↓vm_newX, ↓vm_tableswitch, ↓xTs_cons, ↓xTs_nil, ↓xc_1, ↓tbX7_all_0, ↓tbX7_all_1, ↓tbX7_all_44, ↓tbX7_all_45, ↓tbX7_all_48, ↓tbX7_all_49, ↓tbX7_all_50, ↓tbX7_all_53, ↓tbX7_all_54, ↓tbX7_all_55, ↓tbX7_all_58, ↓tbX7_all_59, ↓tbX7_all_60, ↓tbX7_all_63, ↓tbX7_all_64, ↓tbX7_all_65, ↓tbX7_all_68, ↓tbX7_all_69, ↓tbX7_all_70, ↓tbX7_all_73, ↓tbX7_all_74, ↓tbX7_all_75, ↓tbX7_all_78, ↓tbX7_all_79, hfu, xstep0, xJ1_hit, xJ1_go, xJ2_hit1, xJ2_hit2, xJ2_go, ↓xif_t, ↓xif_f, seval, ↓xca_eq, ↓xre_l, ↓xre_r, xmask_t, xmask_f, xmask_nil, ↓xst_eq, xX_eq, eI_eq, eMc_eq, eMs_eq, eF_eq, eThr_eq, ↓xS1_mk, ↓xSI_mk, ↓xSR_mk, ↓xLI_0, ↓xLI_s, ↓xLR_0, ↓xLR_s, vRef_ref, vRef_null, vRef_rf, cat_int, cat_ref, cat_null, cat_rf, rf_some, rf_none, rf_null, rf_eq, rf_ref, ref_rf, ref_null, ref_ref, xOk_0, xOk_1, xOk_2r, xOk_2n, xOk_2f, vOpt_rf, vOpt_ref, vOpt_null, List.set_cons_zero, List.set_cons_succ, List.take_succ_cons, List.take_zero, List.drop_succ_cons, List.drop_zero, List.reverse_cons, List.reverse_nil, List.nil_append, List.cons_append, List.append_nil, List.length_cons, List.length_nil, List.map_cons, List.map_nil, List.sum_cons, List.sum_nil, Option.toList_some, Option.toList_none, xRecv_mk, true_and, and_true, true_implies, Nat.reduceAdd, Nat.reduceLeDiff, Nat.zero_le, Nat.le_refl, Nat.add_zero, Nat.zero_add, reduceIte, not_true_eq_false, not_false_eq_true, false_implies, and_self, implies_true, eq_self, Nat.reduceEqDiff, List.cons.injEq, xsn_1, xsn_2, false_and, and_false, or_false, false_or, or_true, true_or, xsn_3, xsn_4, h0, h1, h2, h3, h4, h5, ti_0, ti_1, ti_2, ti_3, ti_4, ti_5, ti_6, ti_7, ti_8, ti_9, ti_10, tlt_0, tgt_6, ↓spwX7_paidInAll, spcX7_paidInAll, ↓spwX7_waitedInAll, spcX7_waitedInAll, thfX7_all_0]
  try simp only [xif_e]
  unfold cTla at h6
  repeat' (first | with_reducible apply And.intro | with_reducible intro _)
  all_goals grind (splits := 30)

def tbX7_waited : List (Nat × xHint) := [(0, .aload_n 0, 0, 0, 0, []), (1, .iload_n 1, 1, 0, 0, []), (2, .invokevirtual 219, 0, 2, 8, []), (5, .astore_n 3, 3, 0, 0, []), (6, .iload_n 2, 2, 0, 0, []), (7, .iconst 1, 0, 0, 0, []), (8, .if_icmp .lt 18, 26, 0, 0, []), (11, .iload_n 2, 2, 0, 0, []), (12, .bipush 9, 0, 0, 0, []), (14, .if_icmp .gt 12, 26, 0, 0, []), (17, .iload_n 2, 2, 0, 0, []), (18, .aload_n 3, 3, 0, 0, []), (19, .getfield 352, 2, 14, 2, []), (22, .arraylength, 0, 0, 0, []), (23, .if_icmp .lt 14, 37, 0, 0, []), (26, .new 347, 1, 0, 0, []), (37, .aload_n 3, 3, 0, 0, []), (38, .getfield 352, 2, 14, 2, []), (41, .iload_n 2, 2, 0, 0, []), (42, .iaload, 0, 0, 0, []), (43, .ireturn, 0, 0, 0, [])]
def clX7_waited : List (Instr × Nat × Nat × Nat) := [(.invokevirtual 219, 0, 2, 8)]
def thX7_waited : List (Nat × Nat) := [(26, 0)]
theorem ckX7_waited : tbX7_waited.all (xRow RX7 cX7_waited wsX7_waited vwCl [2] clX7_waited thX7_waited 4 (yX7_waited.name == "<init>") (some .int)) = true := xRow_q 0xac2e1c6001b42dbf5f01b7630113595b01bb0e00a1be6001b42d1c0c00a309101c1200a1041c4edb00b61b2a 44 (by decide +kernel) (by decide +kernel)
theorem usX7_waited : xUse wsX7_waited vwCl [2] = true := xUse_g rfl (lw_good lwl_X7_waited lwl_X10 (by decide +kernel)) xUse_n
theorem tbX7_waited_0 {k : Instr → Nat → Nat → Nat → List Nat → Prop} : xse (xFind tbX7_waited 0) k = k (.aload_n 0) 0 0 0 [] := rfl
theorem tbX7_waited_1 {k : Instr → Nat → Nat → Nat → List Nat → Prop} : xse (xFind tbX7_waited 1) k = k (.iload_n 1) 1 0 0 [] := rfl
theorem tbX7_waited_2 {k : Instr → Nat → Nat → Nat → List Nat → Prop} : xse (xFind tbX7_waited 2) k = k (.invokevirtual 219) 0 2 8 [] := rfl
theorem tbX7_waited_5 {k : Instr → Nat → Nat → Nat → List Nat → Prop} : xse (xFind tbX7_waited 5) k = k (.astore_n 3) 3 0 0 [] := rfl
theorem tbX7_waited_6 {k : Instr → Nat → Nat → Nat → List Nat → Prop} : xse (xFind tbX7_waited 6) k = k (.iload_n 2) 2 0 0 [] := rfl
theorem tbX7_waited_7 {k : Instr → Nat → Nat → Nat → List Nat → Prop} : xse (xFind tbX7_waited 7) k = k (.iconst 1) 0 0 0 [] := rfl
theorem tbX7_waited_8 {k : Instr → Nat → Nat → Nat → List Nat → Prop} : xse (xFind tbX7_waited 8) k = k (.if_icmp .lt 18) 26 0 0 [] := rfl
theorem tbX7_waited_11 {k : Instr → Nat → Nat → Nat → List Nat → Prop} : xse (xFind tbX7_waited 11) k = k (.iload_n 2) 2 0 0 [] := rfl
theorem tbX7_waited_12 {k : Instr → Nat → Nat → Nat → List Nat → Prop} : xse (xFind tbX7_waited 12) k = k (.bipush 9) 0 0 0 [] := rfl
theorem tbX7_waited_14 {k : Instr → Nat → Nat → Nat → List Nat → Prop} : xse (xFind tbX7_waited 14) k = k (.if_icmp .gt 12) 26 0 0 [] := rfl
theorem tbX7_waited_17 {k : Instr → Nat → Nat → Nat → List Nat → Prop} : xse (xFind tbX7_waited 17) k = k (.iload_n 2) 2 0 0 [] := rfl
theorem tbX7_waited_18 {k : Instr → Nat → Nat → Nat → List Nat → Prop} : xse (xFind tbX7_waited 18) k = k (.aload_n 3) 3 0 0 [] := rfl
theorem tbX7_waited_19 {k : Instr → Nat → Nat → Nat → List Nat → Prop} : xse (xFind tbX7_waited 19) k = k (.getfield 352) 2 14 2 [] := rfl
theorem tbX7_waited_22 {k : Instr → Nat → Nat → Nat → List Nat → Prop} : xse (xFind tbX7_waited 22) k = k (.arraylength) 0 0 0 [] := rfl
theorem tbX7_waited_23 {k : Instr → Nat → Nat → Nat → List Nat → Prop} : xse (xFind tbX7_waited 23) k = k (.if_icmp .lt 14) 37 0 0 [] := rfl
theorem tbX7_waited_26 {k : Instr → Nat → Nat → Nat → List Nat → Prop} : xse (xFind tbX7_waited 26) k = k (.new 347) 1 0 0 [] := rfl
theorem tbX7_waited_37 {k : Instr → Nat → Nat → Nat → List Nat → Prop} : xse (xFind tbX7_waited 37) k = k (.aload_n 3) 3 0 0 [] := rfl
theorem tbX7_waited_38 {k : Instr → Nat → Nat → Nat → List Nat → Prop} : xse (xFind tbX7_waited 38) k = k (.getfield 352) 2 14 2 [] := rfl
theorem tbX7_waited_41 {k : Instr → Nat → Nat → Nat → List Nat → Prop} : xse (xFind tbX7_waited 41) k = k (.iload_n 2) 2 0 0 [] := rfl
theorem tbX7_waited_42 {k : Instr → Nat → Nat → Nat → List Nat → Prop} : xse (xFind tbX7_waited 42) k = k (.iaload) 0 0 0 [] := rfl
theorem tbX7_waited_43 {k : Instr → Nat → Nat → Nat → List Nat → Prop} : xse (xFind tbX7_waited 43) k = k (.ireturn) 0 0 0 [] := rfl

def spX7_waited (W9 : xWd) : xSp cS := (fun av S => (2, 12), fun av S K => ∃ (a : Nat) (k : Int32) (w : Int32), av = [.ref a, .int k, .int w] ∧ (cK S a = 9 ∧ bWt S (cRf S a 804) ∧ cIn S a 804 1 ∧ lAll S (cRf S a 804) 3 ∧ (0 ≤ k ∧ k < cFi S (cRf S a 804) 2 → (1 ≤ w ∧ w ≤ 9 → K (rI (cRi S (cRf S (lG S (cRf S a 804) k.toNatClampNeg) 214) w.toNatClampNeg)) S) ∧ (¬ (1 ≤ w ∧ w ≤ 9) → K (rX "java/lang/IndexOutOfBoundsException") S)) ∧ (¬ (0 ≤ k ∧ k < cFi S (cRf S a 804) 2) → K (rX "java/lang/IndexOutOfBoundsException") S)))
theorem spcX7_waited {av : List Value} {S : cS} {W9 : xWd} : (spX7_waited W9).1 av S = (2, 12) := rfl
theorem spwX7_waited {S : cS} {W9 : xWd} {K : xRes → cS → Prop} {a : Nat} {k : Int32} {w : Int32} : (spX7_waited W9).2 [.ref a, .int k, .int w] S K = (cK S a = 9 ∧ bWt S (cRf S a 804) ∧ cIn S a 804 1 ∧ lAll S (cRf S a 804) 3 ∧ (0 ≤ k ∧ k < cFi S (cRf S a 804) 2 → (1 ≤ w ∧ w ≤ 9 → K (rI (cRi S (cRf S (lG S (cRf S a 804) k.toNatClampNeg) 214) w.toNatClampNeg)) S) ∧ (¬ (1 ≤ w ∧ w ≤ 9) → K (rX "java/lang/IndexOutOfBoundsException") S)) ∧ (¬ (0 ≤ k ∧ k < cFi S (cRf S a 804) 2) → K (rX "java/lang/IndexOutOfBoundsException") S)) :=
  propext ⟨fun h => by
    simp only [spX7_waited] at h
    obtain ⟨_, _, _, e, h⟩ := h
    simp only [List.cons.injEq, Value.int.injEq, Value.ref.injEq, rf_eq, and_true, true_and] at e
    obtain ⟨rfl, rfl, rfl⟩ := e
    exact h, fun h => ⟨_, _, _, rfl, h⟩⟩

def callX7_waited (W9 : xWd) : Nat → Option (xSp cS) := fun n => match n with | 0 => some (spX7_needBoat W9) | _ => none

theorem callX7_waited_0 {W9 : xWd} {k : xSp cS → Prop} : xcs (callX7_waited W9 0) k = k (spX7_needBoat W9) := rfl

theorem crX7_waited (l : Launch) (hl : l.stackTraces = false) (W9 : xWd) : xCallsOK l W9 (cI) (callX7_waited W9) clX7_waited RX7 wsX7_waited 7 111 4 := by
  intro E A p e R s m args below meth c hI hF hL X
  exact List.forall_mem_cons.mpr ⟨⟨_, rfl, xCR_V X (by rw [hI]; exact (semX7_needBoat l hl W9)) gX7_waited_X7_needBoat rfl rfl (by decide +kernel) (by rw [hF, hL]; decide)⟩,
    fun _ h => nomatch h⟩

def thfX7_waited : Nat → String := fun n => match n with | 0 => "java/lang/IndexOutOfBoundsException" | _ => ""

theorem thfX7_waited_0 : thfX7_waited 0 = "java/lang/IndexOutOfBoundsException" := rfl

theorem trX7_waited (l : Launch) (hl : l.stackTraces = false) (W9 : xWd) : xThrOK l W9 thfX7_waited thX7_waited RX7 cX7_waited wsX7_waited 7 111 4 := by
  intro A p e R s m args below meth c hF hL hb hx hml hown hts hAmb hlocks hext
  exact List.forall_mem_cons.mpr ⟨xTR_SW (text := "no such cause") hl hx hb hml hown hts hAmb hlocks hext (by decide +kernel) (ik := 347) (is := 355) (ic := 351) (by decide +kernel) (by decide +kernel) (by decide +kernel) (atin_of (by decide +kernel)) xng_ioobe xgood_ioobe (by decide +kernel) (by decide +kernel) (by decide +kernel) (by decide +kernel) (by decide +kernel) (by rw [hF, hL]; decide),
    fun _ h => nomatch h⟩

set_option maxHeartbeats 4000000 in
set_option maxRecDepth 20000 in
theorem semX7_waited (l : Launch) (hl : l.stackTraces = false) (W9 : xWd) : xSem l W9 (cI) yX7_waited wsX7_waited 7 111 (spX7_waited W9) := by
  refine xSem_of (call := callX7_waited W9) (thrf := thfX7_waited) cI_law (by decide +kernel) rfl ckX7_waited usX7_waited (crX7_waited l hl W9) (trX7_waited l hl W9) ?_ ?_
  · intro av S KF h
    obtain ⟨a, k, w, rfl, h⟩ := h
    exact ⟨by intro v hv; simp only [List.mem_cons, List.not_mem_nil, or_false] at hv; rcases hv with rfl | rfl | rfl <;> first | rfl | exact cat_rf, Nat.le_of_ble_eq_true rfl⟩
  intro av S KF h G hG
  obtain ⟨a, k, w, rfl, h⟩ := h
  rw [show (spX7_waited W9).1 _ S = _ from spcX7_waited] at hG
  try dsimp only at hG
  change G 0 [some (.ref a), some (.int k), some (.int w), none] [] S 0 0
  obtain ⟨h0, hb, h1, h2, h3, h4⟩ := h

  by_cases q : 0 ≤ k ∧ k < cFi S (cRf S a 804) 2
  · obtain ⟨h5, h6⟩ := h3 q
    have ix := (lOk_in h2.1 q.1 q.2).2.2
    have g0 := (h2.2 _ ix).2
    obtain ⟨⟨b1, b2⟩, b3⟩ := hb _ ix
    generalize hb0 : lG S (cRf S a 804) k.toNatClampNeg = b at *
    have hw := @in_1 w
    refine xgo0 hG (fun fu hfu => ?_)
    simp only [↓cald_0, ↓calen, ↓callX7_waited_0, ↓cg_2_14, cisa, kb_9, kc_9, ki_1, ↓vm_aload_n, ↓vm_arraylength, ↓vm_astore_n, ↓vm_bipush, ↓vm_getfield, ↓vm_iaload, ↓vm_iconst, ↓vm_if_icmp_gt, ↓vm_if_icmp_lt, ↓vm_iload_n, ↓vm_invokevirtual, ↓vm_ireturn, ↓vm_newX, ↓xc_2, ↓tbX7_waited_0, ↓tbX7_waited_1, ↓tbX7_waited_2, ↓tbX7_waited_5, ↓tbX7_waited_6, ↓tbX7_waited_7, ↓tbX7_waited_8, ↓tbX7_waited_11, ↓tbX7_waited_12, ↓tbX7_waited_14, ↓tbX7_waited_17, ↓tbX7_waited_18, ↓tbX7_waited_19, ↓tbX7_waited_22, ↓tbX7_waited_23, ↓tbX7_waited_26, ↓tbX7_waited_37, ↓tbX7_waited_38, ↓tbX7_waited_41, ↓tbX7_waited_42, ↓tbX7_waited_43, hfu, xstep0, xJ1_hit, xJ1_go, xJ2_hit1, xJ2_hit2, xJ2_go, ↓xif_t, ↓xif_f, seval, ↓xca_eq, ↓xre_l, ↓xre_r, xmask_t, xmask_f, xmask_nil, ↓xst_eq, xX_eq, eI_eq, eMc_eq, eMs_eq, eF_eq, eThr_eq, ↓xS1_mk, ↓xSI_mk, ↓xSR_mk, ↓xLI_0, ↓xLI_s, ↓xLR_0, ↓xLR_s, vRef_ref, vRef_null, vRef_rf, cat_int, cat_ref, cat_null, cat_rf, rf_some, rf_none, rf_null, rf_eq, rf_ref, ref_rf, ref_null, ref_ref, xOk_0, xOk_1, xOk_2r, xOk_2n, xOk_2f, vOpt_rf, vOpt_ref, vOpt_null, List.set_cons_zero, List.set_cons_succ, List.take_succ_cons, List.take_zero, List.drop_succ_cons, List.drop_zero, List.reverse_cons, List.reverse_nil, List.nil_append, List.cons_append, List.append_nil, List.length_cons, List.length_nil, List.map_cons, List.map_nil, List.sum_cons, List.sum_nil, Option.toList_some, Option.toList_none, xRecv_mk, true_and, and_true, true_implies, Nat.reduceAdd, Nat.reduceLeDiff, Nat.zero_le, Nat.le_refl, Nat.add_zero, Nat.zero_add, reduceIte, not_true_eq_false, not_false_eq_true, false_implies, and_self, implies_true, eq_self, Nat.reduceEqDiff, List.cons.injEq, xsn_1, xsn_2, false_and, and_false, or_false, false_or, or_true, true_or, xsn_3, xsn_4, ↓spwX7_needBoat, spcX7_needBoat, thfX7_waited_0, h0, h1, h2, q, hb0, g0, b1, b2, b3]
    try simp only [xif_e]
    repeat' (first | with_reducible apply And.intro | with_reducible intro _)
    all_goals grind
  · have h := h4 q
    refine xgo hG (mb := []) (head := 6) (P := fun _ _ _ _ _ => False) (fun _ _ _ _ _ q => q.elim) (pc := 0) (fun fu hfu => ?_)
    simp only [↓cald_0, ↓calen, ↓callX7_waited_0, ↓cg_2_14, cisa, kb_9, kc_9, ki_1, ↓vm_aload_n, ↓vm_arraylength, ↓vm_astore_n, ↓vm_bipush, ↓vm_getfield, ↓vm_iaload, ↓vm_iconst, ↓vm_if_icmp_gt, ↓vm_if_icmp_lt, ↓vm_iload_n, ↓vm_invokevirtual, ↓vm_ireturn, ↓vm_newX, ↓xc_2, ↓tbX7_waited_0, ↓tbX7_waited_1, ↓tbX7_waited_2, ↓tbX7_waited_5, ↓tbX7_waited_6, ↓tbX7_waited_7, ↓tbX7_waited_8, ↓tbX7_waited_11, ↓tbX7_waited_12, ↓tbX7_waited_14, ↓tbX7_waited_17, ↓tbX7_waited_18, ↓tbX7_waited_19, ↓tbX7_waited_22, ↓tbX7_waited_23, ↓tbX7_waited_26, ↓tbX7_waited_37, ↓tbX7_waited_38, ↓tbX7_waited_41, ↓tbX7_waited_42, ↓tbX7_waited_43, hfu, xstep0, xJ1_hit, xJ1_go, xJ2_hit1, xJ2_hit2, xJ2_go, ↓xif_t, ↓xif_f, seval, ↓xca_eq, ↓xre_l, ↓xre_r, xmask_t, xmask_f, xmask_nil, ↓xst_eq, xX_eq, eI_eq, eMc_eq, eMs_eq, eF_eq, eThr_eq, ↓xS1_mk, ↓xSI_mk, ↓xSR_mk, ↓xLI_0, ↓xLI_s, ↓xLR_0, ↓xLR_s, vRef_ref, vRef_null, vRef_rf, cat_int, cat_ref, cat_null, cat_rf, rf_some, rf_none, rf_null, rf_eq, rf_ref, ref_rf, ref_null, ref_ref, xOk_0, xOk_1, xOk_2r, xOk_2n, xOk_2f, vOpt_rf, vOpt_ref, vOpt_null, List.set_cons_zero, List.set_cons_succ, List.take_succ_cons, List.take_zero, List.drop_succ_cons, List.drop_zero, List.reverse_cons, List.reverse_nil, List.nil_append, List.cons_append, List.append_nil, List.length_cons, List.length_nil, List.map_cons, List.map_nil, List.sum_cons, List.sum_nil, Option.toList_some, Option.toList_none, xRecv_mk, true_and, and_true, true_implies, Nat.reduceAdd, Nat.reduceLeDiff, Nat.zero_le, Nat.le_refl, Nat.add_zero, Nat.zero_add, reduceIte, not_true_eq_false, not_false_eq_true, false_implies, and_self, implies_true, eq_self, Nat.reduceEqDiff, List.cons.injEq, xsn_1, xsn_2, false_and, and_false, or_false, false_or, or_true, true_or, xsn_3, xsn_4, ↓spwX7_needBoat, spcX7_needBoat, thfX7_waited_0, h0, h1, h2, q]
    try simp only [xif_e]
    first | exact h | grind
