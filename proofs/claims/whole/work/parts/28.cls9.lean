/-! The class: what is asked, over its objects. -/
theorem cNx_b {S : cS} {o b s : Nat} (h : lAll S (cRf S o 800) 7) (hc : cNx S o b = some s) : cK S s = 7 := by
  unfold cNx at hc
  generalize (if cFi S b 206 < cFi S b 210 then cFi S b 206 else cFi S b 206 - 1) = x at hc
  split at hc
  · cases hc
  · split at hc
    · rename_i z
      cases hc
      exact (lAll_at h z.1 z.2).2
    · cases hc

def tbX7_most : List (Nat × xHint) := [(0, .aload_n 0, 0, 0, 0, []), (1, .iload_n 1, 1, 0, 0, []), (2, .invokevirtual 219, 0, 2, 8, []), (5, .iload_n 2, 2, 0, 0, []), (6, .aload_n 0, 0, 0, 0, []), (7, .getfield 81, 8, 8, 0, []), (10, .invokevirtual 294, 1, 3, 2, []), (13, .ireturn, 0, 0, 0, [])]
def clX7_most : List (Instr × Nat × Nat × Nat) := [(.invokevirtual 219, 0, 2, 8), (.invokevirtual 294, 1, 3, 2)]
def thX7_most : List (Nat × Nat) := []
theorem ckX7_most : tbX7_most.all (xRow RX7 cX7_most wsX7_most vwCl [8] clX7_most thX7_most 3 (yX7_most.name == "<init>") (some .int)) = true := xRow_q 0xac2601b65100b42a1cdb00b61b2a 14 (by decide +kernel) (by decide +kernel)
theorem usX7_most : xUse wsX7_most vwCl [8] = true := xUse_g rfl (lw_good lwl_X7_most lwl_X70 (by decide +kernel)) xUse_n
theorem tbX7_most_0 {k : Instr → Nat → Nat → Nat → List Nat → Prop} : xse (xFind tbX7_most 0) k = k (.aload_n 0) 0 0 0 [] := rfl
theorem tbX7_most_1 {k : Instr → Nat → Nat → Nat → List Nat → Prop} : xse (xFind tbX7_most 1) k = k (.iload_n 1) 1 0 0 [] := rfl
theorem tbX7_most_2 {k : Instr → Nat → Nat → Nat → List Nat → Prop} : xse (xFind tbX7_most 2) k = k (.invokevirtual 219) 0 2 8 [] := rfl
theorem tbX7_most_5 {k : Instr → Nat → Nat → Nat → List Nat → Prop} : xse (xFind tbX7_most 5) k = k (.iload_n 2) 2 0 0 [] := rfl
theorem tbX7_most_6 {k : Instr → Nat → Nat → Nat → List Nat → Prop} : xse (xFind tbX7_most 6) k = k (.aload_n 0) 0 0 0 [] := rfl
theorem tbX7_most_7 {k : Instr → Nat → Nat → Nat → List Nat → Prop} : xse (xFind tbX7_most 7) k = k (.getfield 81) 8 8 0 [] := rfl
theorem tbX7_most_10 {k : Instr → Nat → Nat → Nat → List Nat → Prop} : xse (xFind tbX7_most 10) k = k (.invokevirtual 294) 1 3 2 [] := rfl
theorem tbX7_most_13 {k : Instr → Nat → Nat → Nat → List Nat → Prop} : xse (xFind tbX7_most 13) k = k (.ireturn) 0 0 0 [] := rfl

def spX7_most (W9 : xWd) : xSp cS := (fun av S => (1, 6), fun av S K => ∃ (a : Nat) (k : Int32) (u : Int32), av = [.ref a, .int k, .int u] ∧ ((u = 0 ∨ u = 1) ∧ (cK S a = 9 ∧ cIn S a 804 1 ∧ lAll S (cRf S a 804) 3 ∧ (0 ≤ k ∧ k < cFi S (cRf S a 804) 2 → K (rI (cPsh S (lG S (cRf S a 804) k.toNatClampNeg) u (cFi S a 808))) S) ∧ (¬ (0 ≤ k ∧ k < cFi S (cRf S a 804) 2) → K (rX "java/lang/IndexOutOfBoundsException") S))))
theorem spcX7_most {av : List Value} {S : cS} {W9 : xWd} : (spX7_most W9).1 av S = (1, 6) := rfl
theorem spwX7_most {S : cS} {W9 : xWd} {K : xRes → cS → Prop} {a : Nat} {k : Int32} {u : Int32} : (spX7_most W9).2 [.ref a, .int k, .int u] S K = ((u = 0 ∨ u = 1) ∧ (cK S a = 9 ∧ cIn S a 804 1 ∧ lAll S (cRf S a 804) 3 ∧ (0 ≤ k ∧ k < cFi S (cRf S a 804) 2 → K (rI (cPsh S (lG S (cRf S a 804) k.toNatClampNeg) u (cFi S a 808))) S) ∧ (¬ (0 ≤ k ∧ k < cFi S (cRf S a 804) 2) → K (rX "java/lang/IndexOutOfBoundsException") S))) :=
  propext ⟨fun h => by
    simp only [spX7_most] at h
    obtain ⟨_, _, _, e, h⟩ := h
    simp only [List.cons.injEq, Value.int.injEq, Value.ref.injEq, rf_eq, and_true, true_and] at e
    obtain ⟨rfl, rfl, rfl⟩ := e
    exact h, fun h => ⟨_, _, _, rfl, h⟩⟩

def callX7_most (W9 : xWd) : Nat → Option (xSp cS) := fun n => match n with | 0 => some (spX7_needBoat W9) | 1 => some (spX1_push W9) | _ => none

theorem callX7_most_0 {W9 : xWd} {k : xSp cS → Prop} : xcs (callX7_most W9 0) k = k (spX7_needBoat W9) := rfl

theorem callX7_most_1 {W9 : xWd} {k : xSp cS → Prop} : xcs (callX7_most W9 1) k = k (spX1_push W9) := rfl

theorem crX7_most (l : Launch) (hl : l.stackTraces = false) (W9 : xWd) : xCallsOK l W9 (cI) (callX7_most W9) clX7_most RX7 wsX7_most 7 111 3 := by
  intro E A p e R s m args below meth c hI hF hL X
  exact List.forall_mem_cons.mpr ⟨⟨_, rfl, xCR_V X (by rw [hI]; exact (semX7_needBoat l hl W9)) gX7_most_X7_needBoat rfl rfl (by decide +kernel) (by rw [hF, hL]; decide)⟩,
    List.forall_mem_cons.mpr ⟨⟨_, rfl, xCR_V X (by rw [hI]; exact (semX1_push l hl W9)) gX7_most_X1_push rfl rfl (by decide +kernel) (by rw [hF, hL]; decide)⟩,
    fun _ h => nomatch h⟩⟩

set_option maxHeartbeats 4000000 in
set_option maxRecDepth 20000 in
theorem semX7_most (l : Launch) (hl : l.stackTraces = false) (W9 : xWd) : xSem l W9 (cI) yX7_most wsX7_most 7 111 (spX7_most W9) := by
  refine xSem_of (call := callX7_most W9) (thrf := fun _ => "") cI_law (by decide +kernel) rfl ckX7_most usX7_most (crX7_most l hl W9) xThrOK_nil ?_ ?_
  · intro av S KF h
    obtain ⟨a, k, u, rfl, h⟩ := h
    exact ⟨by intro v hv; simp only [List.mem_cons, List.not_mem_nil, or_false] at hv; rcases hv with rfl | rfl | rfl <;> first | rfl | exact cat_rf, Nat.le_of_ble_eq_true rfl⟩
  intro av S KF h G hG
  obtain ⟨a, k, u, rfl, h⟩ := h
  rw [show (spX7_most W9).1 _ S = _ from spcX7_most] at hG
  try dsimp only at hG
  change G 0 [some (.ref a), some (.int k), some (.int u)] [] S 0 0
  obtain ⟨hu, h0, h1, h2, h3, h4⟩ := h
  have g0 := fun q => (lAll_at (i := k) h2 (And.left q) (And.right q)).2
  refine xgo0 hG (fun fu hfu => ?_)
  clear hG
  simp only [↓callX7_most_0, ↓callX7_most_1, ↓cg_8_8, cisa, ↓vm_aload_n, ↓vm_getfield, ↓vm_iload_n, ↓vm_invokevirtual, ↓vm_ireturn, ↓xc_2, ↓xc_3, ↓tbX7_most_0, ↓tbX7_most_1, ↓tbX7_most_2, ↓tbX7_most_5, ↓tbX7_most_6, ↓tbX7_most_7, ↓tbX7_most_10, ↓tbX7_most_13, hfu, xstep0, xJ1_hit, xJ1_go, xJ2_hit1, xJ2_hit2, xJ2_go, ↓xif_t, ↓xif_f, seval, ↓xca_eq, ↓xre_l, ↓xre_r, xmask_t, xmask_f, xmask_nil, ↓xst_eq, xX_eq, eI_eq, eMc_eq, eMs_eq, eF_eq, eThr_eq, ↓xS1_mk, ↓xSI_mk, ↓xSR_mk, ↓xLI_0, ↓xLI_s, ↓xLR_0, ↓xLR_s, vRef_ref, vRef_null, vRef_rf, cat_int, cat_ref, cat_null, cat_rf, rf_some, rf_none, rf_null, rf_eq, rf_ref, ref_rf, ref_null, ref_ref, xOk_0, xOk_1, xOk_2r, xOk_2n, xOk_2f, vOpt_rf, vOpt_ref, vOpt_null, List.set_cons_zero, List.set_cons_succ, List.take_succ_cons, List.take_zero, List.drop_succ_cons, List.drop_zero, List.reverse_cons, List.reverse_nil, List.nil_append, List.cons_append, List.append_nil, List.length_cons, List.length_nil, List.map_cons, List.map_nil, List.sum_cons, List.sum_nil, Option.toList_some, Option.toList_none, xRecv_mk, true_and, and_true, true_implies, Nat.reduceAdd, Nat.reduceLeDiff, Nat.zero_le, Nat.le_refl, Nat.add_zero, Nat.zero_add, reduceIte, not_true_eq_false, not_false_eq_true, false_implies, and_self, implies_true, eq_self, Nat.reduceEqDiff, List.cons.injEq, xsn_1, xsn_2, false_and, and_false, or_false, false_or, or_true, true_or, xsn_3, xsn_4, h0, h1, h2, ↓spwX7_needBoat, spcX7_needBoat, ↓spwX1_push, spcX1_push]
  try simp only [xif_e]
  unfold cPsh at h3
  repeat' (first | with_reducible apply And.intro | with_reducible intro _)
  all_goals grind

def tbX7_bars : List (Nat × xHint) := [(0, .aload_n 0, 0, 0, 0, []), (1, .iload_n 1, 1, 0, 0, []), (2, .invokevirtual 219, 0, 2, 8, []), (5, .astore_n 2, 2, 0, 0, []), (6, .aload_n 0, 0, 0, 0, []), (7, .aload_n 2, 2, 0, 0, []), (8, .invokevirtual 324, 1, 2, 8, []), (11, .astore_n 3, 3, 0, 0, []), (12, .aload_n 3, 3, 0, 0, []), (13, .ifnonnull 7, 20, 0, 0, []), (16, .iconst (-1), 0, 0, 0, []), (17, .goto 9, 26, 0, 0, []), (20, .aload_n 0, 0, 0, 0, []), (21, .aload_n 2, 2, 0, 0, []), (22, .aload_n 3, 3, 0, 0, []), (23, .invokevirtual 328, 2, 3, 8, []), (26, .ireturn, 0, 0, 0, [])]
def clX7_bars : List (Instr × Nat × Nat × Nat) := [(.invokevirtual 219, 0, 2, 8), (.invokevirtual 324, 1, 2, 8), (.invokevirtual 328, 2, 3, 8)]
def thX7_bars : List (Nat × Nat) := []
theorem ckX7_bars : tbX7_bars.all (xRow RX7 cX7_bars wsX7_bars vwCl [] clX7_bars thX7_bars 4 (yX7_bars.name == "<init>") (some .int)) = true := xRow_q 0xac4801b62d2c2a0900a7020700c72d4e4401b62c2a4ddb00b61b2a 27 (by decide +kernel) (by decide +kernel)
theorem usX7_bars : xUse wsX7_bars vwCl [] = true := xUse_n
theorem tbX7_bars_0 {k : Instr → Nat → Nat → Nat → List Nat → Prop} : xse (xFind tbX7_bars 0) k = k (.aload_n 0) 0 0 0 [] := rfl
theorem tbX7_bars_1 {k : Instr → Nat → Nat → Nat → List Nat → Prop} : xse (xFind tbX7_bars 1) k = k (.iload_n 1) 1 0 0 [] := rfl
theorem tbX7_bars_2 {k : Instr → Nat → Nat → Nat → List Nat → Prop} : xse (xFind tbX7_bars 2) k = k (.invokevirtual 219) 0 2 8 [] := rfl
theorem tbX7_bars_5 {k : Instr → Nat → Nat → Nat → List Nat → Prop} : xse (xFind tbX7_bars 5) k = k (.astore_n 2) 2 0 0 [] := rfl
theorem tbX7_bars_6 {k : Instr → Nat → Nat → Nat → List Nat → Prop} : xse (xFind tbX7_bars 6) k = k (.aload_n 0) 0 0 0 [] := rfl
theorem tbX7_bars_7 {k : Instr → Nat → Nat → Nat → List Nat → Prop} : xse (xFind tbX7_bars 7) k = k (.aload_n 2) 2 0 0 [] := rfl
theorem tbX7_bars_8 {k : Instr → Nat → Nat → Nat → List Nat → Prop} : xse (xFind tbX7_bars 8) k = k (.invokevirtual 324) 1 2 8 [] := rfl
theorem tbX7_bars_11 {k : Instr → Nat → Nat → Nat → List Nat → Prop} : xse (xFind tbX7_bars 11) k = k (.astore_n 3) 3 0 0 [] := rfl
theorem tbX7_bars_12 {k : Instr → Nat → Nat → Nat → List Nat → Prop} : xse (xFind tbX7_bars 12) k = k (.aload_n 3) 3 0 0 [] := rfl
theorem tbX7_bars_13 {k : Instr → Nat → Nat → Nat → List Nat → Prop} : xse (xFind tbX7_bars 13) k = k (.ifnonnull 7) 20 0 0 [] := rfl
theorem tbX7_bars_16 {k : Instr → Nat → Nat → Nat → List Nat → Prop} : xse (xFind tbX7_bars 16) k = k (.iconst (-1)) 0 0 0 [] := rfl
theorem tbX7_bars_17 {k : Instr → Nat → Nat → Nat → List Nat → Prop} : xse (xFind tbX7_bars 17) k = k (.goto 9) 26 0 0 [] := rfl
theorem tbX7_bars_20 {k : Instr → Nat → Nat → Nat → List Nat → Prop} : xse (xFind tbX7_bars 20) k = k (.aload_n 0) 0 0 0 [] := rfl
theorem tbX7_bars_21 {k : Instr → Nat → Nat → Nat → List Nat → Prop} : xse (xFind tbX7_bars 21) k = k (.aload_n 2) 2 0 0 [] := rfl
theorem tbX7_bars_22 {k : Instr → Nat → Nat → Nat → List Nat → Prop} : xse (xFind tbX7_bars 22) k = k (.aload_n 3) 3 0 0 [] := rfl
theorem tbX7_bars_23 {k : Instr → Nat → Nat → Nat → List Nat → Prop} : xse (xFind tbX7_bars 23) k = k (.invokevirtual 328) 2 3 8 [] := rfl
theorem tbX7_bars_26 {k : Instr → Nat → Nat → Nat → List Nat → Prop} : xse (xFind tbX7_bars 26) k = k (.ireturn) 0 0 0 [] := rfl

def spX7_bars (W9 : xWd) : xSp cS := (fun av S => (1, 6), fun av S K => ∃ (a : Nat) (k : Int32), av = [.ref a, .int k] ∧ (cK S a = 9 ∧ (cIn S a 800 1 ∧ lAll S (cRf S a 800) 7) ∧ bAll S (cRf S a 804) ∧ cIn S a 804 1 ∧ lAll S (cRf S a 804) 3 ∧ (0 ≤ k ∧ k < cFi S (cRf S a 804) 2 → K (rI (match cNx S a (lG S (cRf S a 804) k.toNatClampNeg) with | none => -1 | some s => cCs S a (cRf S a 804) (lG S (cRf S a 804) k.toNatClampNeg) s)) S) ∧ (¬ (0 ≤ k ∧ k < cFi S (cRf S a 804) 2) → K (rX "java/lang/IndexOutOfBoundsException") S)))
theorem spcX7_bars {av : List Value} {S : cS} {W9 : xWd} : (spX7_bars W9).1 av S = (1, 6) := rfl
theorem spwX7_bars {S : cS} {W9 : xWd} {K : xRes → cS → Prop} {a : Nat} {k : Int32} : (spX7_bars W9).2 [.ref a, .int k] S K = (cK S a = 9 ∧ (cIn S a 800 1 ∧ lAll S (cRf S a 800) 7) ∧ bAll S (cRf S a 804) ∧ cIn S a 804 1 ∧ lAll S (cRf S a 804) 3 ∧ (0 ≤ k ∧ k < cFi S (cRf S a 804) 2 → K (rI (match cNx S a (lG S (cRf S a 804) k.toNatClampNeg) with | none => -1 | some s => cCs S a (cRf S a 804) (lG S (cRf S a 804) k.toNatClampNeg) s)) S) ∧ (¬ (0 ≤ k ∧ k < cFi S (cRf S a 804) 2) → K (rX "java/lang/IndexOutOfBoundsException") S)) :=
  propext ⟨fun h => by
    simp only [spX7_bars] at h
    obtain ⟨_, _, e, h⟩ := h
    simp only [List.cons.injEq, Value.int.injEq, Value.ref.injEq, rf_eq, and_true, true_and] at e
    obtain ⟨rfl, rfl⟩ := e
    exact h, fun h => ⟨_, _, rfl, h⟩⟩

def callX7_bars (W9 : xWd) : Nat → Option (xSp cS) := fun n => match n with | 0 => some (spX7_needBoat W9) | 1 => some (spX7_nextOf W9) | 2 => some (spX7_causeFor W9) | _ => none

theorem callX7_bars_0 {W9 : xWd} {k : xSp cS → Prop} : xcs (callX7_bars W9 0) k = k (spX7_needBoat W9) := rfl

theorem callX7_bars_1 {W9 : xWd} {k : xSp cS → Prop} : xcs (callX7_bars W9 1) k = k (spX7_nextOf W9) := rfl

theorem callX7_bars_2 {W9 : xWd} {k : xSp cS → Prop} : xcs (callX7_bars W9 2) k = k (spX7_causeFor W9) := rfl

theorem crX7_bars (l : Launch) (hl : l.stackTraces = false) (W9 : xWd) : xCallsOK l W9 (cI) (callX7_bars W9) clX7_bars RX7 wsX7_bars 8 183 4 := by
  intro E A p e R s m args below meth c hI hF hL X
  exact List.forall_mem_cons.mpr ⟨⟨_, rfl, xCR_V X (by rw [hI]; exact (semX7_needBoat l hl W9)) gX7_bars_X7_needBoat rfl rfl (by decide +kernel) (by rw [hF, hL]; decide)⟩,
    List.forall_mem_cons.mpr ⟨⟨_, rfl, xCR_V X (by rw [hI]; exact (semX7_nextOf l hl W9)) gX7_bars_X7_nextOf rfl rfl (by decide +kernel) (by rw [hF, hL]; decide)⟩,
    List.forall_mem_cons.mpr ⟨⟨_, rfl, xCR_V X (by rw [hI]; exact (semX7_causeFor l hl W9)) gX7_bars_X7_causeFor rfl rfl (by decide +kernel) (by rw [hF, hL]; decide)⟩,
    fun _ h => nomatch h⟩⟩⟩

set_option maxHeartbeats 4000000 in
set_option maxRecDepth 20000 in
theorem semX7_bars (l : Launch) (hl : l.stackTraces = false) (W9 : xWd) : xSem l W9 (cI) yX7_bars wsX7_bars 8 183 (spX7_bars W9) := by
  refine xSem_of (call := callX7_bars W9) (thrf := fun _ => "") cI_law (by decide +kernel) rfl ckX7_bars usX7_bars (crX7_bars l hl W9) xThrOK_nil ?_ ?_
  · intro av S KF h
    obtain ⟨a, k, rfl, h⟩ := h
    exact ⟨by intro v hv; simp only [List.mem_cons, List.not_mem_nil, or_false] at hv; rcases hv with rfl | rfl <;> first | rfl | exact cat_rf, Nat.le_of_ble_eq_true rfl⟩
  intro av S KF h G hG
  obtain ⟨a, k, rfl, h⟩ := h
  rw [show (spX7_bars W9).1 _ S = _ from spcX7_bars] at hG
  try dsimp only at hG
  change G 0 [some (.ref a), some (.int k), none, none] [] S 0 0
  obtain ⟨h0, ⟨hs1, hs2⟩, hb, h1, h2, h3, h4⟩ := h

  by_cases q : 0 ≤ k ∧ k < cFi S (cRf S a 804) 2
  · have h := h3 q
    have ix := (lOk_in h2.1 q.1 q.2).2.2
    have g0 := (h2.2 _ ix).2
    have hB := hb.2 _ ix
    refine xgo0 hG (fun fu hfu => ?_)
    cases hc : cNx S a (lG S (cRf S a 804) k.toNatClampNeg) with
    | none =>
      rw [hc] at h
      have h : KF (rI (-1)) S := h
      simp only [↓callX7_bars_0, ↓callX7_bars_1, ↓callX7_bars_2, cisa, ki_m1, ↓vm_aload_n, ↓vm_astore_n, ↓vm_goto, ↓vm_iconst, ↓vm_ifnonnull, ↓vm_iload_n, ↓vm_invokevirtual, ↓vm_ireturn, ↓xc_2, ↓xc_3, ↓tbX7_bars_0, ↓tbX7_bars_1, ↓tbX7_bars_2, ↓tbX7_bars_5, ↓tbX7_bars_6, ↓tbX7_bars_7, ↓tbX7_bars_8, ↓tbX7_bars_11, ↓tbX7_bars_12, ↓tbX7_bars_13, ↓tbX7_bars_16, ↓tbX7_bars_17, ↓tbX7_bars_20, ↓tbX7_bars_21, ↓tbX7_bars_22, ↓tbX7_bars_23, ↓tbX7_bars_26, hfu, xstep0, xJ1_hit, xJ1_go, xJ2_hit1, xJ2_hit2, xJ2_go, ↓xif_t, ↓xif_f, seval, ↓xca_eq, ↓xre_l, ↓xre_r, xmask_t, xmask_f, xmask_nil, ↓xst_eq, xX_eq, eI_eq, eMc_eq, eMs_eq, eF_eq, eThr_eq, ↓xS1_mk, ↓xSI_mk, ↓xSR_mk, ↓xLI_0, ↓xLI_s, ↓xLR_0, ↓xLR_s, vRef_ref, vRef_null, vRef_rf, cat_int, cat_ref, cat_null, cat_rf, rf_some, rf_none, rf_null, rf_eq, rf_ref, ref_rf, ref_null, ref_ref, xOk_0, xOk_1, xOk_2r, xOk_2n, xOk_2f, vOpt_rf, vOpt_ref, vOpt_null, List.set_cons_zero, List.set_cons_succ, List.take_succ_cons, List.take_zero, List.drop_succ_cons, List.drop_zero, List.reverse_cons, List.reverse_nil, List.nil_append, List.cons_append, List.append_nil, List.length_cons, List.length_nil, List.map_cons, List.map_nil, List.sum_cons, List.sum_nil, Option.toList_some, Option.toList_none, xRecv_mk, true_and, and_true, true_implies, Nat.reduceAdd, Nat.reduceLeDiff, Nat.zero_le, Nat.le_refl, Nat.add_zero, Nat.zero_add, reduceIte, not_true_eq_false, not_false_eq_true, false_implies, and_self, implies_true, eq_self, Nat.reduceEqDiff, List.cons.injEq, xsn_1, xsn_2, false_and, and_false, or_false, false_or, or_true, true_or, xsn_3, xsn_4, ↓spwX7_needBoat, spcX7_needBoat, ↓spwX7_nextOf, spcX7_nextOf, ↓spwX7_causeFor, spcX7_causeFor, h0, hs1, hs2, h1, h2, q, g0, hc]
      try simp only [xif_e]
      exact h
    | some s =>
      rw [hc] at h
      have h : KF (rI (cCs S a (cRf S a 804) (lG S (cRf S a 804) k.toNatClampNeg) s)) S := h
      have hs : cK S s = 7 := cNx_b hs2 hc
      simp only [↓callX7_bars_0, ↓callX7_bars_1, ↓callX7_bars_2, cisa, ki_m1, ↓vm_aload_n, ↓vm_astore_n, ↓vm_goto, ↓vm_iconst, ↓vm_ifnonnull, ↓vm_iload_n, ↓vm_invokevirtual, ↓vm_ireturn, ↓xc_2, ↓xc_3, ↓tbX7_bars_0, ↓tbX7_bars_1, ↓tbX7_bars_2, ↓tbX7_bars_5, ↓tbX7_bars_6, ↓tbX7_bars_7, ↓tbX7_bars_8, ↓tbX7_bars_11, ↓tbX7_bars_12, ↓tbX7_bars_13, ↓tbX7_bars_16, ↓tbX7_bars_17, ↓tbX7_bars_20, ↓tbX7_bars_21, ↓tbX7_bars_22, ↓tbX7_bars_23, ↓tbX7_bars_26, hfu, xstep0, xJ1_hit, xJ1_go, xJ2_hit1, xJ2_hit2, xJ2_go, ↓xif_t, ↓xif_f, seval, ↓xca_eq, ↓xre_l, ↓xre_r, xmask_t, xmask_f, xmask_nil, ↓xst_eq, xX_eq, eI_eq, eMc_eq, eMs_eq, eF_eq, eThr_eq, ↓xS1_mk, ↓xSI_mk, ↓xSR_mk, ↓xLI_0, ↓xLI_s, ↓xLR_0, ↓xLR_s, vRef_ref, vRef_null, vRef_rf, cat_int, cat_ref, cat_null, cat_rf, rf_some, rf_none, rf_null, rf_eq, rf_ref, ref_rf, ref_null, ref_ref, xOk_0, xOk_1, xOk_2r, xOk_2n, xOk_2f, vOpt_rf, vOpt_ref, vOpt_null, List.set_cons_zero, List.set_cons_succ, List.take_succ_cons, List.take_zero, List.drop_succ_cons, List.drop_zero, List.reverse_cons, List.reverse_nil, List.nil_append, List.cons_append, List.append_nil, List.length_cons, List.length_nil, List.map_cons, List.map_nil, List.sum_cons, List.sum_nil, Option.toList_some, Option.toList_none, xRecv_mk, true_and, and_true, true_implies, Nat.reduceAdd, Nat.reduceLeDiff, Nat.zero_le, Nat.le_refl, Nat.add_zero, Nat.zero_add, reduceIte, not_true_eq_false, not_false_eq_true, false_implies, and_self, implies_true, eq_self, Nat.reduceEqDiff, List.cons.injEq, xsn_1, xsn_2, false_and, and_false, or_false, false_or, or_true, true_or, xsn_3, xsn_4, ↓spwX7_needBoat, spcX7_needBoat, ↓spwX7_nextOf, spcX7_nextOf, ↓spwX7_causeFor, spcX7_causeFor, h0, hs1, hs2, h1, h2, q, g0, hc, hs, hb, hB]
      try simp only [xif_e]
      exact h
  · have h := h4 q
    refine xgo0 hG (fun fu hfu => ?_)
    simp only [↓callX7_bars_0, ↓callX7_bars_1, ↓callX7_bars_2, cisa, ki_m1, ↓vm_aload_n, ↓vm_astore_n, ↓vm_goto, ↓vm_iconst, ↓vm_ifnonnull, ↓vm_iload_n, ↓vm_invokevirtual, ↓vm_ireturn, ↓xc_2, ↓xc_3, ↓tbX7_bars_0, ↓tbX7_bars_1, ↓tbX7_bars_2, ↓tbX7_bars_5, ↓tbX7_bars_6, ↓tbX7_bars_7, ↓tbX7_bars_8, ↓tbX7_bars_11, ↓tbX7_bars_12, ↓tbX7_bars_13, ↓tbX7_bars_16, ↓tbX7_bars_17, ↓tbX7_bars_20, ↓tbX7_bars_21, ↓tbX7_bars_22, ↓tbX7_bars_23, ↓tbX7_bars_26, hfu, xstep0, xJ1_hit, xJ1_go, xJ2_hit1, xJ2_hit2, xJ2_go, ↓xif_t, ↓xif_f, seval, ↓xca_eq, ↓xre_l, ↓xre_r, xmask_t, xmask_f, xmask_nil, ↓xst_eq, xX_eq, eI_eq, eMc_eq, eMs_eq, eF_eq, eThr_eq, ↓xS1_mk, ↓xSI_mk, ↓xSR_mk, ↓xLI_0, ↓xLI_s, ↓xLR_0, ↓xLR_s, vRef_ref, vRef_null, vRef_rf, cat_int, cat_ref, cat_null, cat_rf, rf_some, rf_none, rf_null, rf_eq, rf_ref, ref_rf, ref_null, ref_ref, xOk_0, xOk_1, xOk_2r, xOk_2n, xOk_2f, vOpt_rf, vOpt_ref, vOpt_null, List.set_cons_zero, List.set_cons_succ, List.take_succ_cons, List.take_zero, List.drop_succ_cons, List.drop_zero, List.reverse_cons, List.reverse_nil, List.nil_append, List.cons_append, List.append_nil, List.length_cons, List.length_nil, List.map_cons, List.map_nil, List.sum_cons, List.sum_nil, Option.toList_some, Option.toList_none, xRecv_mk, true_and, and_true, true_implies, Nat.reduceAdd, Nat.reduceLeDiff, Nat.zero_le, Nat.le_refl, Nat.add_zero, Nat.zero_add, reduceIte, not_true_eq_false, not_false_eq_true, false_implies, and_self, implies_true, eq_self, Nat.reduceEqDiff, List.cons.injEq, xsn_1, xsn_2, false_and, and_false, or_false, false_or, or_true, true_or, xsn_3, xsn_4, ↓spwX7_needBoat, spcX7_needBoat, ↓spwX7_nextOf, spcX7_nextOf, ↓spwX7_causeFor, spcX7_causeFor, h0, h1, h2, q]
    try simp only [xif_e]
    first | exact h | grind
