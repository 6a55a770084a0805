/-! The class: rows changed, the story told; constructors of rows, boats, the story. -/
def cLst (W9 : xWd) (S : cS) (q : Nat) : cS := cSetR (cSetI (cNewO S q 0) q 0 0) q 1 (some (wE W9))
def cPg (S : cS) (q q2 : Nat) : cS := cSetR (cNewI (cNewO S q 4) q2 0 64) q 400 (some q2)
def cRow (W9 : xWd) (S : cS) (r q : Nat) (b p t m : Int32) : cS := cSetI (cSetI (cSetI (cSetI (cSetR (cLst W9 (cSetI S r 504 2) q) r 505 (some q)) r 500 b) r 501 p) r 502 t) r 503 m
def cBt1 (S : cS) (a q : Nat) (n w h : Int32) : cS := cSetI (cSetI (cSetI (cSetR (cNewI (cSetI (cSetI (cSetI S a 206 (-1)) a 207 (-1)) a 210 (-1)) q 0 10) a 214 (some q)) a 200 n) a 201 w) a 202 h
def cBt (W9 : xWd) (S : cS) (a q q2 q3 : Nat) (n w h : Int32) : cS := cSetR (cRow W9 (cNewO (cBt1 S a q n w h) q2 5) q2 q3 n (-1) (-1) 12) a 203 (some q2)
theorem dead_nO {S : cS} {q ci b : Nat} (hc : ci ≤ 9) : cDead (cNewO S q ci) b ↔ b ≠ q ∧ cDead S b := by
  unfold cDead
  rw [cK_newO]
  by_cases c : b = q
  · rw [if_pos c]
    exact ⟨fun h => absurd ⟨by omega, by omega⟩ h, fun h => absurd c h.1⟩
  · rw [if_neg c]
    exact ⟨fun h => ⟨c, h⟩, fun h => h.2⟩
theorem ne_dead {S : cS} {a q c : Nat} (h : cK S a = c) (hc : 1 ≤ c ∧ c ≤ 13) (hq : cDead S q) : (a = q) = False := eq_false (fun z => hq (by rw [← z, h]; exact hc))
theorem ne_dead' {S : cS} {a q c : Nat} (h : cK S a = c) (hc : 1 ≤ c ∧ c ≤ 13) (hq : cDead S q) : (q = a) = False := eq_false (fun z => hq (by rw [z, h]; exact hc))
theorem rOk_kd {S : cS} {a : Nat} (h : rOk S a) : lKd S (rL S a) 2 := ⟨Or.inl rfl, fun i hi b hb => by
  obtain ⟨g1, g2⟩ := h.2.2.2 i hi
  have e : some b = some (rB S a i) := hb.symm.trans g1
  cases e
  exact g2⟩
theorem big_N {N : Nat} (h : N < 8192) : (nI N < 8192) = True := by
  refine eq_true ?_
  rw [Int32.lt_iff_toInt_lt, nI_toInt (by omega)]
  show (N : Int) < 8192
  omega
def cNote (e w p : Int32) : Int32 := e <<< (16 &&& 31) ||| w <<< (8 &&& 31) ||| p

def tbX4_append : List (Nat × xHint) := [(0, .aload_n 0, 0, 0, 0, []), (1, .getfield 18, 5, 5, 2, []), (4, .aload_n 1, 1, 0, 0, []), (5, .invokevirtual 55, 0, 2, 0, []), (8, .pop, 0, 0, 0, []), (9, .aload_n 1, 1, 0, 0, []), (10, .aload_n 0, 0, 0, 0, []), (11, .putfield 59, 1, 2, 2, []), (14, .return_, 0, 0, 0, [])]
def clX4_append : List (Instr × Nat × Nat × Nat) := [(.invokevirtual 55, 0, 2, 0)]
def thX4_append : List (Nat × Nat) := []
theorem ckX4_append : tbX4_append.all (xRow RX4 cX4_append wsX4_append vwCl [1, 5] clX4_append thX4_append 2 (yX4_append.name == "<init>") none) = true := xRow_q 0xb13b00b52a2b573700b62b1200b42a 15 (by decide +kernel) (by decide +kernel)
theorem usX4_append : xUse wsX4_append vwCl [1, 5] = true := xUse_g rfl (lw_good lwl_X4_append lwl_X00 (by decide +kernel)) (xUse_g rfl (lw_good lwl_X4_append lwl_X40 (by decide +kernel)) xUse_n)
theorem tbX4_append_0 {k : Instr → Nat → Nat → Nat → List Nat → Prop} : xse (xFind tbX4_append 0) k = k (.aload_n 0) 0 0 0 [] := rfl
theorem tbX4_append_1 {k : Instr → Nat → Nat → Nat → List Nat → Prop} : xse (xFind tbX4_append 1) k = k (.getfield 18) 5 5 2 [] := rfl
theorem tbX4_append_4 {k : Instr → Nat → Nat → Nat → List Nat → Prop} : xse (xFind tbX4_append 4) k = k (.aload_n 1) 1 0 0 [] := rfl
theorem tbX4_append_5 {k : Instr → Nat → Nat → Nat → List Nat → Prop} : xse (xFind tbX4_append 5) k = k (.invokevirtual 55) 0 2 0 [] := rfl
theorem tbX4_append_8 {k : Instr → Nat → Nat → Nat → List Nat → Prop} : xse (xFind tbX4_append 8) k = k (.pop) 0 0 0 [] := rfl
theorem tbX4_append_9 {k : Instr → Nat → Nat → Nat → List Nat → Prop} : xse (xFind tbX4_append 9) k = k (.aload_n 1) 1 0 0 [] := rfl
theorem tbX4_append_10 {k : Instr → Nat → Nat → Nat → List Nat → Prop} : xse (xFind tbX4_append 10) k = k (.aload_n 0) 0 0 0 [] := rfl
theorem tbX4_append_11 {k : Instr → Nat → Nat → Nat → List Nat → Prop} : xse (xFind tbX4_append 11) k = k (.putfield 59) 1 2 2 [] := rfl
theorem tbX4_append_14 {k : Instr → Nat → Nat → Nat → List Nat → Prop} : xse (xFind tbX4_append 14) k = k (.return_) 0 0 0 [] := rfl

def spX4_append (W9 : xWd) : xSp cS := (fun av S => (1, 45), fun av S K => ∃ (a : Nat) (b : Nat), av = [.ref a, .ref b] ∧ (cK S a = 6 ∧ cIn S a 505 1 ∧ cK S b = 2 ∧ lCap W9 S (rL S a) ∧ rN S a < 30 ∧ lKd S (rL S a) 2 ∧ ∀ S2, lAdd W9 (cSetI S (rL S a) 0 (cFi S (rL S a) 0 + 1)) (rL S a) b S2 → K rV (cSetR S2 b 102 (some a))))
theorem spcX4_append {av : List Value} {S : cS} {W9 : xWd} : (spX4_append W9).1 av S = (1, 45) := rfl
theorem spwX4_append {S : cS} {W9 : xWd} {K : xRes → cS → Prop} {a : Nat} {b : Nat} : (spX4_append W9).2 [.ref a, .ref b] S K = (cK S a = 6 ∧ cIn S a 505 1 ∧ cK S b = 2 ∧ lCap W9 S (rL S a) ∧ rN S a < 30 ∧ lKd S (rL S a) 2 ∧ ∀ S2, lAdd W9 (cSetI S (rL S a) 0 (cFi S (rL S a) 0 + 1)) (rL S a) b S2 → K rV (cSetR S2 b 102 (some a))) :=
  propext ⟨fun h => by
    simp only [spX4_append] at h
    obtain ⟨_, _, e, h⟩ := h
    simp only [List.cons.injEq, Value.int.injEq, Value.ref.injEq, rf_eq, and_true, true_and] at e
    obtain ⟨rfl, rfl⟩ := e
    exact h, fun h => ⟨_, _, rfl, h⟩⟩

def callX4_append (W9 : xWd) : Nat → Option (xSp cS) := fun n => match n with | 0 => some (spJx4a65c_add_9ea2d W9) | _ => none

theorem callX4_append_0 {W9 : xWd} {k : xSp cS → Prop} : xcs (callX4_append W9 0) k = k (spJx4a65c_add_9ea2d W9) := rfl

theorem crX4_append (l : Launch) (hl : l.stackTraces = false) (W9 : xWd) : xCallsOK l W9 (cI) (callX4_append W9) clX4_append RX4 wsX4_append 7 191 2 := by
  intro E A p e R s m args below meth c hI hF hL X
  exact List.forall_mem_cons.mpr ⟨⟨_, rfl, xCR_V X (by rw [hI]; exact (semJx4a65c_add_9ea2d l hl W9)) gX4_append_Jx4a65c_add_9ea2d rfl rfl (by decide +kernel) (by rw [hF, hL]; decide)⟩,
    fun _ h => nomatch h⟩

set_option maxHeartbeats 600000 in
set_option maxRecDepth 20000 in
theorem semX4_append (l : Launch) (hl : l.stackTraces = false) (W9 : xWd) : xSem l W9 (cI) yX4_append wsX4_append 7 191 (spX4_append W9) := by
  refine xSem_of (call := callX4_append W9) (thrf := fun _ => "") cI_law (by decide +kernel) rfl ckX4_append usX4_append (crX4_append l hl W9) xThrOK_nil ?_ ?_
  · intro av S KF h
    obtain ⟨a, b, rfl, h⟩ := h
    exact ⟨by intro v hv; simp only [List.mem_cons, List.not_mem_nil, or_false] at hv; rcases hv with rfl | rfl <;> first | rfl | exact cat_rf, Nat.le_of_ble_eq_true rfl⟩
  intro av S KF h G hG
  obtain ⟨a, b, rfl, h⟩ := h
  rw [show (spX4_append W9).1 _ S = _ from spcX4_append] at hG
  try dsimp only at hG
  change G 0 [some (.ref a), some (.ref b)] [] S 0 0
  obtain ⟨h0, ⟨h1, h2⟩, h3, h4, h5, h6, h⟩ := h

  have e1 : cRf S a 505 = rL S a := rfl
  have h5 : lCn S (rL S a) < 30 := h5
  refine xgo0 hG (fun fu hfu => ?_)
  rw [e1] at h1 h2
  simp only [↓callX4_append_0, ↓cg_5_5, cisa, ↓cpf_1_2, ↓cpn_1_2, ↓cpr_1_2, ↓vm_aload_n, ↓vm_getfield, ↓vm_invokevirtual, ↓vm_pop, ↓vm_putfield, ↓vm_return_, ↓xc_2, ↓tbX4_append_0, ↓tbX4_append_1, ↓tbX4_append_4, ↓tbX4_append_5, ↓tbX4_append_8, ↓tbX4_append_9, ↓tbX4_append_10, ↓tbX4_append_11, ↓tbX4_append_14, hfu, xstep0, xJ1_hit, xJ1_go, xJ2_hit1, xJ2_hit2, xJ2_go, ↓xif_t, ↓xif_f, seval, ↓xca_eq, ↓xre_l, ↓xre_r, xmask_t, xmask_f, xmask_nil, ↓xst_eq, xX_eq, eI_eq, eMc_eq, eMs_eq, eF_eq, eThr_eq, ↓xS1_mk, ↓xSI_mk, ↓xSR_mk, ↓xLI_0, ↓xLI_s, ↓xLR_0, ↓xLR_s, vRef_ref, vRef_null, vRef_rf, cat_int, cat_ref, cat_null, cat_rf, rf_some, rf_none, rf_null, rf_eq, rf_ref, ref_rf, ref_null, ref_ref, xOk_0, xOk_1, xOk_2r, xOk_2n, xOk_2f, vOpt_rf, vOpt_ref, vOpt_null, List.set_cons_zero, List.set_cons_succ, List.take_succ_cons, List.take_zero, List.drop_succ_cons, List.drop_zero, List.reverse_cons, List.reverse_nil, List.nil_append, List.cons_append, List.append_nil, List.length_cons, List.length_nil, List.map_cons, List.map_nil, List.sum_cons, List.sum_nil, Option.toList_some, Option.toList_none, xRecv_mk, true_and, and_true, true_implies, Nat.reduceAdd, Nat.reduceLeDiff, Nat.zero_le, Nat.le_refl, Nat.add_zero, Nat.zero_add, reduceIte, not_true_eq_false, not_false_eq_true, false_implies, and_self, implies_true, eq_self, Nat.reduceEqDiff, List.cons.injEq, xsn_1, xsn_2, false_and, and_false, or_false, false_or, or_true, true_or, xsn_3, xsn_4, ↓spwJx4a65c_add_9ea2d, spcJx4a65c_add_9ea2d, h0, h1, h2, h3, h4, h5, h6]
  try simp only [xif_e]
  intro S2 hA
  exact ⟨(lAdd_K hA b (live_of (c := 2) h3 (by omega))).trans h3, h S2 hA⟩

def tbX4_release : List (Nat × xHint) := [(0, .aload_n 0, 0, 0, 0, []), (1, .aload_n 1, 1, 0, 0, []), (2, .invokevirtual 46, 0, 2, 5, []), (5, .istore_n 2, 2, 0, 0, []), (6, .iload_n 2, 2, 0, 0, []), (7, .ifCond .lt 23, 30, 0, 0, []), (10, .iload_n 2, 2, 0, 0, []), (11, .aload_n 0, 0, 0, 0, []), (12, .getfield 18, 5, 5, 2, []), (15, .invokevirtual 34, 1, 1, 0, []), (18, .if_icmp .ge 12, 30, 0, 0, []), (21, .aload_n 0, 0, 0, 0, []), (22, .getfield 18, 5, 5, 2, []), (25, .iload_n 2, 2, 0, 0, []), (26, .invokevirtual 63, 2, 2, 0, []), (29, .pop, 0, 0, 0, []), (30, .return_, 0, 0, 0, [])]
def clX4_release : List (Instr × Nat × Nat × Nat) := [(.invokevirtual 46, 0, 2, 5), (.invokevirtual 34, 1, 1, 0), (.invokevirtual 63, 2, 2, 0)]
def thX4_release : List (Nat × Nat) := []
theorem ckX4_release : tbX4_release.all (xRow RX4 cX4_release wsX4_release vwCl [5] clX4_release thX4_release 3 (yX4_release.name == "<init>") none) = true := xRow_q 0xb1573f00b61c1200b42a0c00a22200b61200b42a1c17009b1c3d2e00b62b2a 31 (by decide +kernel) (by decide +kernel)
theorem usX4_release : xUse wsX4_release vwCl [5] = true := xUse_g rfl (lw_good lwl_X4_release lwl_X40 (by decide +kernel)) xUse_n
theorem tbX4_release_0 {k : Instr → Nat → Nat → Nat → List Nat → Prop} : xse (xFind tbX4_release 0) k = k (.aload_n 0) 0 0 0 [] := rfl
theorem tbX4_release_1 {k : Instr → Nat → Nat → Nat → List Nat → Prop} : xse (xFind tbX4_release 1) k = k (.aload_n 1) 1 0 0 [] := rfl
theorem tbX4_release_2 {k : Instr → Nat → Nat → Nat → List Nat → Prop} : xse (xFind tbX4_release 2) k = k (.invokevirtual 46) 0 2 5 [] := rfl
theorem tbX4_release_5 {k : Instr → Nat → Nat → Nat → List Nat → Prop} : xse (xFind tbX4_release 5) k = k (.istore_n 2) 2 0 0 [] := rfl
theorem tbX4_release_6 {k : Instr → Nat → Nat → Nat → List Nat → Prop} : xse (xFind tbX4_release 6) k = k (.iload_n 2) 2 0 0 [] := rfl
theorem tbX4_release_7 {k : Instr → Nat → Nat → Nat → List Nat → Prop} : xse (xFind tbX4_release 7) k = k (.ifCond .lt 23) 30 0 0 [] := rfl
theorem tbX4_release_10 {k : Instr → Nat → Nat → Nat → List Nat → Prop} : xse (xFind tbX4_release 10) k = k (.iload_n 2) 2 0 0 [] := rfl
theorem tbX4_release_11 {k : Instr → Nat → Nat → Nat → List Nat → Prop} : xse (xFind tbX4_release 11) k = k (.aload_n 0) 0 0 0 [] := rfl
theorem tbX4_release_12 {k : Instr → Nat → Nat → Nat → List Nat → Prop} : xse (xFind tbX4_release 12) k = k (.getfield 18) 5 5 2 [] := rfl
theorem tbX4_release_15 {k : Instr → Nat → Nat → Nat → List Nat → Prop} : xse (xFind tbX4_release 15) k = k (.invokevirtual 34) 1 1 0 [] := rfl
theorem tbX4_release_18 {k : Instr → Nat → Nat → Nat → List Nat → Prop} : xse (xFind tbX4_release 18) k = k (.if_icmp .ge 12) 30 0 0 [] := rfl
theorem tbX4_release_21 {k : Instr → Nat → Nat → Nat → List Nat → Prop} : xse (xFind tbX4_release 21) k = k (.aload_n 0) 0 0 0 [] := rfl
theorem tbX4_release_22 {k : Instr → Nat → Nat → Nat → List Nat → Prop} : xse (xFind tbX4_release 22) k = k (.getfield 18) 5 5 2 [] := rfl
theorem tbX4_release_25 {k : Instr → Nat → Nat → Nat → List Nat → Prop} : xse (xFind tbX4_release 25) k = k (.iload_n 2) 2 0 0 [] := rfl
theorem tbX4_release_26 {k : Instr → Nat → Nat → Nat → List Nat → Prop} : xse (xFind tbX4_release 26) k = k (.invokevirtual 63) 2 2 0 [] := rfl
theorem tbX4_release_29 {k : Instr → Nat → Nat → Nat → List Nat → Prop} : xse (xFind tbX4_release 29) k = k (.pop) 0 0 0 [] := rfl
theorem tbX4_release_30 {k : Instr → Nat → Nat → Nat → List Nat → Prop} : xse (xFind tbX4_release 30) k = k (.return_) 0 0 0 [] := rfl

def spX4_release (W9 : xWd) : xSp cS := (fun av S => (0, 0), fun av S K => ∃ (a : Nat) (b : Nat), av = [.ref a, .ref b] ∧ (rOk S a ∧ rHas S a b ∧ lCap W9 S (rL S a) ∧ K rV (lRem S (rL S a) (rP S a b))))
theorem spcX4_release {av : List Value} {S : cS} {W9 : xWd} : (spX4_release W9).1 av S = (0, 0) := rfl
theorem spwX4_release {S : cS} {W9 : xWd} {K : xRes → cS → Prop} {a : Nat} {b : Nat} : (spX4_release W9).2 [.ref a, .ref b] S K = (rOk S a ∧ rHas S a b ∧ lCap W9 S (rL S a) ∧ K rV (lRem S (rL S a) (rP S a b))) :=
  propext ⟨fun h => by
    simp only [spX4_release] at h
    obtain ⟨_, _, e, h⟩ := h
    simp only [List.cons.injEq, Value.int.injEq, Value.ref.injEq, rf_eq, and_true, true_and] at e
    obtain ⟨rfl, rfl⟩ := e
    exact h, fun h => ⟨_, _, rfl, h⟩⟩

def callX4_release (W9 : xWd) : Nat → Option (xSp cS) := fun n => match n with | 0 => some (spX4_placeOf W9) | 1 => some (spJx4a65c_size_8abf5 W9) | 2 => some (spJx4a65c_remove_915e3 W9) | _ => none

theorem callX4_release_0 {W9 : xWd} {k : xSp cS → Prop} : xcs (callX4_release W9 0) k = k (spX4_placeOf W9) := rfl

theorem callX4_release_1 {W9 : xWd} {k : xSp cS → Prop} : xcs (callX4_release W9 1) k = k (spJx4a65c_size_8abf5 W9) := rfl

theorem callX4_release_2 {W9 : xWd} {k : xSp cS → Prop} : xcs (callX4_release W9 2) k = k (spJx4a65c_remove_915e3 W9) := rfl

theorem crX4_release (l : Launch) (hl : l.stackTraces = false) (W9 : xWd) : xCallsOK l W9 (cI) (callX4_release W9) clX4_release RX4 wsX4_release 4 106 3 := by
  intro E A p e R s m args below meth c hI hF hL X
  exact List.forall_mem_cons.mpr ⟨⟨_, rfl, xCR_V X (by rw [hI]; exact (semX4_placeOf l hl W9)) gX4_release_X4_placeOf rfl rfl (by decide +kernel) (by rw [hF, hL]; decide)⟩,
    List.forall_mem_cons.mpr ⟨⟨_, rfl, xCR_V X (by rw [hI]; exact (semJx4a65c_size_8abf5 l hl W9)) gX4_release_Jx4a65c_size_8abf5 rfl rfl (by decide +kernel) (by rw [hF, hL]; decide)⟩,
    List.forall_mem_cons.mpr ⟨⟨_, rfl, xCR_V X (by rw [hI]; exact (semJx4a65c_remove_915e3 l hl W9)) gX4_release_Jx4a65c_remove_915e3 rfl rfl (by decide +kernel) (by rw [hF, hL]; decide)⟩,
    fun _ h => nomatch h⟩⟩⟩

set_option maxHeartbeats 600000 in
set_option maxRecDepth 20000 in
theorem semX4_release (l : Launch) (hl : l.stackTraces = false) (W9 : xWd) : xSem l W9 (cI) yX4_release wsX4_release 4 106 (spX4_release W9) := by
  refine xSem_of (call := callX4_release W9) (thrf := fun _ => "") cI_law (by decide +kernel) rfl ckX4_release usX4_release (crX4_release l hl W9) xThrOK_nil ?_ ?_
  · intro av S KF h
    obtain ⟨a, b, rfl, h⟩ := h
    exact ⟨by intro v hv; simp only [List.mem_cons, List.not_mem_nil, or_false] at hv; rcases hv with rfl | rfl <;> first | rfl | exact cat_rf, Nat.le_of_ble_eq_true rfl⟩
  intro av S KF h G hG
  obtain ⟨a, b, rfl, h⟩ := h
  rw [show (spX4_release W9).1 _ S = _ from spcX4_release] at hG
  try dsimp only at hG
  change G 0 [some (.ref a), some (.ref b), none] [] S 0 0
  obtain ⟨hR, ⟨hp, hpn⟩, h4, h⟩ := h

  obtain ⟨f1, f2, f3, f4, f5, f6⟩ := rOk_facts hR
  have hk := rOk_kd hR
  have e1 : cRf S a 505 = rL S a := rfl
  have e2 := lt0_nI hpn (show rN S a < 1000 by omega)
  have e3 : (nI (rP S a b) < 0) = False := eq_false (nI_pos (by omega))
  have e4 : (nI (rN S a) ≤ nI (rP S a b)) = False := ge_nI hpn (by omega)
  refine xgo0 hG (fun fu hfu => ?_)
  simp only [↓callX4_release_0, ↓callX4_release_1, ↓callX4_release_2, ↓cg_5_5, cisa, ↓vm_aload_n, ↓vm_getfield, ↓vm_ifCond_lt, ↓vm_if_icmp_ge, ↓vm_iload_n, ↓vm_invokevirtual, ↓vm_istore_n, ↓vm_pop, ↓vm_return_, ↓xc_1, ↓xc_2, ↓tbX4_release_0, ↓tbX4_release_1, ↓tbX4_release_2, ↓tbX4_release_5, ↓tbX4_release_6, ↓tbX4_release_7, ↓tbX4_release_10, ↓tbX4_release_11, ↓tbX4_release_12, ↓tbX4_release_15, ↓tbX4_release_18, ↓tbX4_release_21, ↓tbX4_release_22, ↓tbX4_release_25, ↓tbX4_release_26, ↓tbX4_release_29, ↓tbX4_release_30, hfu, xstep0, xJ1_hit, xJ1_go, xJ2_hit1, xJ2_hit2, xJ2_go, ↓xif_t, ↓xif_f, seval, ↓xca_eq, ↓xre_l, ↓xre_r, xmask_t, xmask_f, xmask_nil, ↓xst_eq, xX_eq, eI_eq, eMc_eq, eMs_eq, eF_eq, eThr_eq, ↓xS1_mk, ↓xSI_mk, ↓xSR_mk, ↓xLI_0, ↓xLI_s, ↓xLR_0, ↓xLR_s, vRef_ref, vRef_null, vRef_rf, cat_int, cat_ref, cat_null, cat_rf, rf_some, rf_none, rf_null, rf_eq, rf_ref, ref_rf, ref_null, ref_ref, xOk_0, xOk_1, xOk_2r, xOk_2n, xOk_2f, vOpt_rf, vOpt_ref, vOpt_null, List.set_cons_zero, List.set_cons_succ, List.take_succ_cons, List.take_zero, List.drop_succ_cons, List.drop_zero, List.reverse_cons, List.reverse_nil, List.nil_append, List.cons_append, List.append_nil, List.length_cons, List.length_nil, List.map_cons, List.map_nil, List.sum_cons, List.sum_nil, Option.toList_some, Option.toList_none, xRecv_mk, true_and, and_true, true_implies, Nat.reduceAdd, Nat.reduceLeDiff, Nat.zero_le, Nat.le_refl, Nat.add_zero, Nat.zero_add, reduceIte, not_true_eq_false, not_false_eq_true, false_implies, and_self, implies_true, eq_self, Nat.reduceEqDiff, List.cons.injEq, xsn_1, xsn_2, false_and, and_false, or_false, false_or, or_true, true_or, xsn_3, xsn_4, ↓spwX4_placeOf, spcX4_placeOf, ↓spwJx4a65c_size_8abf5, spcJx4a65c_size_8abf5, ↓spwJx4a65c_remove_915e3, spcJx4a65c_remove_915e3, hR, f1, f2, f3, f5, hp, e2, e3, e4, h4]
  try simp only [xif_e]
  exact ⟨rP S a b, 2, rfl, hpn, hk, h⟩

def tbX6_init : List (Nat × xHint) := [(0, .aload_n 0, 0, 0, 0, []), (1, .invokespecial 1, 0, 1, 0, []), (4, .aload_n 0, 0, 0, 0, []), (5, .new 7, 0, 4, 3, []), (8, .dup, 0, 0, 0, []), (9, .invokespecial 9, 1, 1, 0, []), (12, .putfield 10, 7, 0, 2, []), (15, .aload_n 0, 0, 0, 0, []), (16, .aload_n 0, 0, 0, 0, []), (17, .getfield 10, 7, 0, 2, []), (20, .putfield 16, 7, 1, 2, []), (23, .return_, 0, 0, 0, [])]
def clX6_init : List (Instr × Nat × Nat × Nat) := [(.invokespecial 1, 0, 1, 0), (.invokespecial 9, 1, 1, 0)]
def thX6_init : List (Nat × Nat) := []
theorem ckX6_init : tbX6_init.all (xRow RX6 cX6_init wsX6_init vwCl [4, 7] clX6_init thX6_init 1 (yX6_init.name == "<init>") none) = true := xRow_q 0xb11000b50a00b42a2a0a00b50900b7590700bb2a0100b72a 24 (by decide +kernel) (by decide +kernel)
theorem usX6_init : xUse wsX6_init vwCl [4, 7] = true := xUse_g rfl (lw_good lwl_X6_init lwl_X30 (by decide +kernel)) (xUse_g rfl (lw_good lwl_X6_init lwl_X60 (by decide +kernel)) xUse_n)
theorem tbX6_init_0 {k : Instr → Nat → Nat → Nat → List Nat → Prop} : xse (xFind tbX6_init 0) k = k (.aload_n 0) 0 0 0 [] := rfl
theorem tbX6_init_1 {k : Instr → Nat → Nat → Nat → List Nat → Prop} : xse (xFind tbX6_init 1) k = k (.invokespecial 1) 0 1 0 [] := rfl
theorem tbX6_init_4 {k : Instr → Nat → Nat → Nat → List Nat → Prop} : xse (xFind tbX6_init 4) k = k (.aload_n 0) 0 0 0 [] := rfl
theorem tbX6_init_5 {k : Instr → Nat → Nat → Nat → List Nat → Prop} : xse (xFind tbX6_init 5) k = k (.new 7) 0 4 3 [] := rfl
theorem tbX6_init_8 {k : Instr → Nat → Nat → Nat → List Nat → Prop} : xse (xFind tbX6_init 8) k = k (.dup) 0 0 0 [] := rfl
theorem tbX6_init_9 {k : Instr → Nat → Nat → Nat → List Nat → Prop} : xse (xFind tbX6_init 9) k = k (.invokespecial 9) 1 1 0 [] := rfl
theorem tbX6_init_12 {k : Instr → Nat → Nat → Nat → List Nat → Prop} : xse (xFind tbX6_init 12) k = k (.putfield 10) 7 0 2 [] := rfl
theorem tbX6_init_15 {k : Instr → Nat → Nat → Nat → List Nat → Prop} : xse (xFind tbX6_init 15) k = k (.aload_n 0) 0 0 0 [] := rfl
theorem tbX6_init_16 {k : Instr → Nat → Nat → Nat → List Nat → Prop} : xse (xFind tbX6_init 16) k = k (.aload_n 0) 0 0 0 [] := rfl
theorem tbX6_init_17 {k : Instr → Nat → Nat → Nat → List Nat → Prop} : xse (xFind tbX6_init 17) k = k (.getfield 10) 7 0 2 [] := rfl
theorem tbX6_init_20 {k : Instr → Nat → Nat → Nat → List Nat → Prop} : xse (xFind tbX6_init 20) k = k (.putfield 16) 7 1 2 [] := rfl
theorem tbX6_init_23 {k : Instr → Nat → Nat → Nat → List Nat → Prop} : xse (xFind tbX6_init 23) k = k (.return_) 0 0 0 [] := rfl

def spX6_init (W9 : xWd) : xSp cS := (fun av S => (2, 67), fun av S K => ∃ (a : Nat), av = [.ref a] ∧ (cK S a = 8 ∧ ∀ q, cDead S q → ∀ q2, cDead (cNewO S q 4) q2 → K rV (cSetR (cSetR (cPg S q q2) a 700 (some q)) a 701 (some q))))
theorem spcX6_init {av : List Value} {S : cS} {W9 : xWd} : (spX6_init W9).1 av S = (2, 67) := rfl
theorem spwX6_init {S : cS} {W9 : xWd} {K : xRes → cS → Prop} {a : Nat} : (spX6_init W9).2 [.ref a] S K = (cK S a = 8 ∧ ∀ q, cDead S q → ∀ q2, cDead (cNewO S q 4) q2 → K rV (cSetR (cSetR (cPg S q q2) a 700 (some q)) a 701 (some q))) :=
  propext ⟨fun h => by
    simp only [spX6_init] at h
    obtain ⟨_, e, h⟩ := h
    simp only [List.cons.injEq, Value.int.injEq, Value.ref.injEq, rf_eq, and_true, true_and] at e
    obtain rfl := e
    exact h, fun h => ⟨_, rfl, h⟩⟩

theorem sprX6_init {W9 : xWd} : ∀ av S KF, (spX6_init W9).2 av S KF → ∃ b As, av = Value.ref b :: As := by
  intro av S KF h
  obtain ⟨a, rfl, h⟩ := h
  exact ⟨_, _, rfl⟩

def callX6_init (W9 : xWd) : Nat → Option (xSp cS) := fun n => match n with | 0 => some (spObj cS) | 1 => some (spX3_init W9) | _ => none

theorem callX6_init_0 {W9 : xWd} {k : xSp cS → Prop} : xcs (callX6_init W9 0) k = k (spObj cS) := rfl

theorem callX6_init_1 {W9 : xWd} {k : xSp cS → Prop} : xcs (callX6_init W9 1) k = k (spX3_init W9) := rfl

theorem crX6_init (l : Launch) (hl : l.stackTraces = false) (W9 : xWd) : xCallsOK l W9 (cI) (callX6_init W9) clX6_init RX6 wsX6_init 2 40 1 := by
  intro E A p e R s m args below meth c hI hF hL X
  exact List.forall_mem_cons.mpr ⟨⟨_, rfl, xCR_obj X (by decide +kernel) (by decide +kernel) (by decide +kernel) (by rw [hF, hL]; decide)⟩,
    List.forall_mem_cons.mpr ⟨⟨_, rfl, xCR_IN X (by rw [hI]; exact (semX3_init l hl W9)) gX6_init_X3_init_n9 rfl (by decide +kernel) X.2.2.2.2.2.1.2.2.2.2.1.2.1 (by decide +kernel) rfl sprX3_init (by decide +kernel) (by rw [hF, hL]; decide)⟩,
    fun _ h => nomatch h⟩⟩

set_option maxHeartbeats 600000 in
set_option maxRecDepth 20000 in
theorem semX6_init (l : Launch) (hl : l.stackTraces = false) (W9 : xWd) : xSem l W9 (cI) yX6_init wsX6_init 2 40 (spX6_init W9) := by
  refine xSem_of (call := callX6_init W9) (thrf := fun _ => "") cI_law (by decide +kernel) rfl ckX6_init usX6_init (crX6_init l hl W9) xThrOK_nil ?_ ?_
  · intro av S KF h
    obtain ⟨a, rfl, h⟩ := h
    exact ⟨by intro v hv; simp only [List.mem_cons, List.not_mem_nil, or_false] at hv; rcases hv with rfl <;> first | rfl | exact cat_rf, Nat.le_of_ble_eq_true rfl⟩
  intro av S KF h G hG
  obtain ⟨a, rfl, h⟩ := h
  rw [show (spX6_init W9).1 _ S = _ from spcX6_init] at hG
  try dsimp only at hG
  change G 0 [some (.ref a)] [] S 0 0
  obtain ⟨h0, h⟩ := h

  refine xgo hG (head := 8) (mb := [true]) (P := fun lv st S1 cs ss => ∃ q, cDead S q ∧ lv = [some (.ref a)] ∧ st = [.ref q, .ref a] ∧ S1 = cNewO S q 4 ∧ cs = 1 ∧ ss = 3) (fun lv st S1 cs ss hP => ?_) (fun fu hfu => ?_)
  · obtain ⟨q, hq, rfl, rfl, rfl, rfl, rfl⟩ := hP
    have n1 := ne_dead h0 (by omega) hq
    refine xgo0 hG (fun fu hfu => ?_)
    have hr := h q hq
    simp only [↓callX6_init_0, ↓callX6_init_1, ↓cg_7_0, ↓cnew, ↓cpf_7_0, ↓cpf_7_1, ↓cpn_7_0, ↓cpn_7_1, ↓cpr_7_0, ↓cpr_7_1, ↓vm_aload_n, ↓vm_dup, ↓vm_getfield, ↓vm_invokespecial, ↓vm_newO, ↓vm_putfield, ↓vm_return_, ↓xc_1, ↓tbX6_init_0, ↓tbX6_init_1, ↓tbX6_init_4, ↓tbX6_init_5, ↓tbX6_init_8, ↓tbX6_init_9, ↓tbX6_init_12, ↓tbX6_init_15, ↓tbX6_init_16, ↓tbX6_init_17, ↓tbX6_init_20, ↓tbX6_init_23, hfu, xstep0, xJ1_hit, xJ1_go, xJ2_hit1, xJ2_hit2, xJ2_go, ↓xif_t, ↓xif_f, seval, ↓xca_eq, ↓xre_l, ↓xre_r, xmask_t, xmask_f, xmask_nil, ↓xst_eq, xX_eq, eI_eq, eMc_eq, eMs_eq, eF_eq, eThr_eq, ↓xS1_mk, ↓xSI_mk, ↓xSR_mk, ↓xLI_0, ↓xLI_s, ↓xLR_0, ↓xLR_s, vRef_ref, vRef_null, vRef_rf, cat_int, cat_ref, cat_null, cat_rf, rf_some, rf_none, rf_null, rf_eq, rf_ref, ref_rf, ref_null, ref_ref, xOk_0, xOk_1, xOk_2r, xOk_2n, xOk_2f, vOpt_rf, vOpt_ref, vOpt_null, List.set_cons_zero, List.set_cons_succ, List.take_succ_cons, List.take_zero, List.drop_succ_cons, List.drop_zero, List.reverse_cons, List.reverse_nil, List.nil_append, List.cons_append, List.append_nil, List.length_cons, List.length_nil, List.map_cons, List.map_nil, List.sum_cons, List.sum_nil, Option.toList_some, Option.toList_none, xRecv_mk, true_and, and_true, true_implies, Nat.reduceAdd, Nat.reduceLeDiff, Nat.zero_le, Nat.le_refl, Nat.add_zero, Nat.zero_add, reduceIte, not_true_eq_false, not_false_eq_true, false_implies, and_self, implies_true, eq_self, Nat.reduceEqDiff, List.cons.injEq, xsn_1, xsn_2, false_and, and_false, or_false, false_or, or_true, true_or, xsn_3, xsn_4, ↓spObj_w, spObj_c, ↓spwX3_init, spcX3_init, cK_newO, cK_newI, cK_setR, cFr_setR, h0, n1]
    try simp only [xif_e]
    intro q2 hq2
    have n2 : (a = q2) = False := by
      refine eq_false (fun z => ?_)
      subst z
      exact ((dead_nO (by omega)).mp hq2).2 (by omega)
    have hr2 := hr q2 hq2
    simp only [n2, if_false, true_and]
    exact hr2
  · simp only [↓callX6_init_0, ↓callX6_init_1, ↓cg_7_0, ↓cnew, ↓cpf_7_0, ↓cpf_7_1, ↓cpn_7_0, ↓cpn_7_1, ↓cpr_7_0, ↓cpr_7_1, ↓vm_aload_n, ↓vm_dup, ↓vm_getfield, ↓vm_invokespecial, ↓vm_newO, ↓vm_putfield, ↓vm_return_, ↓xc_1, ↓tbX6_init_0, ↓tbX6_init_1, ↓tbX6_init_4, ↓tbX6_init_5, ↓tbX6_init_8, ↓tbX6_init_9, ↓tbX6_init_12, ↓tbX6_init_15, ↓tbX6_init_16, ↓tbX6_init_17, ↓tbX6_init_20, ↓tbX6_init_23, hfu, xstep0, xJ1_hit, xJ1_go, xJ2_hit1, xJ2_hit2, xJ2_go, ↓xif_t, ↓xif_f, seval, ↓xca_eq, ↓xre_l, ↓xre_r, xmask_t, xmask_f, xmask_nil, ↓xst_eq, xX_eq, eI_eq, eMc_eq, eMs_eq, eF_eq, eThr_eq, ↓xS1_mk, ↓xSI_mk, ↓xSR_mk, ↓xLI_0, ↓xLI_s, ↓xLR_0, ↓xLR_s, vRef_ref, vRef_null, vRef_rf, cat_int, cat_ref, cat_null, cat_rf, rf_some, rf_none, rf_null, rf_eq, rf_ref, ref_rf, ref_null, ref_ref, xOk_0, xOk_1, xOk_2r, xOk_2n, xOk_2f, vOpt_rf, vOpt_ref, vOpt_null, List.set_cons_zero, List.set_cons_succ, List.take_succ_cons, List.take_zero, List.drop_succ_cons, List.drop_zero, List.reverse_cons, List.reverse_nil, List.nil_append, List.cons_append, List.append_nil, List.length_cons, List.length_nil, List.map_cons, List.map_nil, List.sum_cons, List.sum_nil, Option.toList_some, Option.toList_none, xRecv_mk, true_and, and_true, true_implies, Nat.reduceAdd, Nat.reduceLeDiff, Nat.zero_le, Nat.le_refl, Nat.add_zero, Nat.zero_add, reduceIte, not_true_eq_false, not_false_eq_true, false_implies, and_self, implies_true, eq_self, Nat.reduceEqDiff, List.cons.injEq, xsn_1, xsn_2, false_and, and_false, or_false, false_or, or_true, true_or, xsn_3, xsn_4, ↓spObj_w, spObj_c, ↓spwX3_init, spcX3_init, h0]
    try simp only [xif_e]
    intro q hq
    first | exact ⟨q, hq, rfl⟩ | exact ⟨q, hq, rfl, rfl⟩ | exact ⟨q, hq, rfl, rfl, rfl⟩ | exact ⟨q, hq, rfl, rfl, rfl, rfl, rfl⟩

def tbX4_init : List (Nat × xHint) := [(0, .aload_n 0, 0, 0, 0, []), (1, .invokespecial 3, 0, 1, 0, []), (4, .aload_n 0, 0, 0, 0, []), (5, .iconst 2, 0, 0, 0, []), (6, .putfield 9, 5, 4, 0, []), (9, .aload_n 0, 0, 0, 0, []), (10, .new 15, 0, 0, 3, []), (13, .dup, 0, 0, 0, []), (14, .invokespecial 17, 1, 1, 0, []), (17, .putfield 18, 5, 5, 2, []), (20, .aload_n 0, 0, 0, 0, []), (21, .iload_n 1, 1, 0, 0, []), (22, .putfield 22, 5, 0, 0, []), (25, .aload_n 0, 0, 0, 0, []), (26, .iload_n 2, 2, 0, 0, []), (27, .putfield 25, 5, 1, 0, []), (30, .aload_n 0, 0, 0, 0, []), (31, .iload_n 3, 3, 0, 0, []), (32, .putfield 28, 5, 2, 0, []), (35, .aload_n 0, 0, 0, 0, []), (36, .iload 4, 4, 0, 0, []), (38, .putfield 31, 5, 3, 0, []), (41, .return_, 0, 0, 0, [])]
def clX4_init : List (Instr × Nat × Nat × Nat) := [(.invokespecial 3, 0, 1, 0), (.invokespecial 17, 1, 1, 0)]
def thX4_init : List (Nat × Nat) := []
theorem ckX4_init : tbX4_init.all (xRow RX4 cX4_init wsX4_init vwCl [0, 5] clX4_init thX4_init 5 (yX4_init.name == "<init>") none) = true := xRow_q 0xb11f00b504152a1c00b51d2a1900b51c2a1600b51b2a1200b51100b7590f00bb2a0900b5052a0300b72a 42 (by decide +kernel) (by decide +kernel)
theorem usX4_init : xUse wsX4_init vwCl [0, 5] = true := xUse_g rfl (lw_good lwl_X4_init lwl_Jx4a65c0 (by decide +kernel)) (xUse_g rfl (lw_good lwl_X4_init lwl_X40 (by decide +kernel)) xUse_n)
theorem tbX4_init_0 {k : Instr → Nat → Nat → Nat → List Nat → Prop} : xse (xFind tbX4_init 0) k = k (.aload_n 0) 0 0 0 [] := rfl
theorem tbX4_init_1 {k : Instr → Nat → Nat → Nat → List Nat → Prop} : xse (xFind tbX4_init 1) k = k (.invokespecial 3) 0 1 0 [] := rfl
theorem tbX4_init_4 {k : Instr → Nat → Nat → Nat → List Nat → Prop} : xse (xFind tbX4_init 4) k = k (.aload_n 0) 0 0 0 [] := rfl
theorem tbX4_init_5 {k : Instr → Nat → Nat → Nat → List Nat → Prop} : xse (xFind tbX4_init 5) k = k (.iconst 2) 0 0 0 [] := rfl
theorem tbX4_init_6 {k : Instr → Nat → Nat → Nat → List Nat → Prop} : xse (xFind tbX4_init 6) k = k (.putfield 9) 5 4 0 [] := rfl
theorem tbX4_init_9 {k : Instr → Nat → Nat → Nat → List Nat → Prop} : xse (xFind tbX4_init 9) k = k (.aload_n 0) 0 0 0 [] := rfl
theorem tbX4_init_10 {k : Instr → Nat → Nat → Nat → List Nat → Prop} : xse (xFind tbX4_init 10) k = k (.new 15) 0 0 3 [] := rfl
theorem tbX4_init_13 {k : Instr → Nat → Nat → Nat → List Nat → Prop} : xse (xFind tbX4_init 13) k = k (.dup) 0 0 0 [] := rfl
theorem tbX4_init_14 {k : Instr → Nat → Nat → Nat → List Nat → Prop} : xse (xFind tbX4_init 14) k = k (.invokespecial 17) 1 1 0 [] := rfl
theorem tbX4_init_17 {k : Instr → Nat → Nat → Nat → List Nat → Prop} : xse (xFind tbX4_init 17) k = k (.putfield 18) 5 5 2 [] := rfl
theorem tbX4_init_20 {k : Instr → Nat → Nat → Nat → List Nat → Prop} : xse (xFind tbX4_init 20) k = k (.aload_n 0) 0 0 0 [] := rfl
theorem tbX4_init_21 {k : Instr → Nat → Nat → Nat → List Nat → Prop} : xse (xFind tbX4_init 21) k = k (.iload_n 1) 1 0 0 [] := rfl
theorem tbX4_init_22 {k : Instr → Nat → Nat → Nat → List Nat → Prop} : xse (xFind tbX4_init 22) k = k (.putfield 22) 5 0 0 [] := rfl
theorem tbX4_init_25 {k : Instr → Nat → Nat → Nat → List Nat → Prop} : xse (xFind tbX4_init 25) k = k (.aload_n 0) 0 0 0 [] := rfl
theorem tbX4_init_26 {k : Instr → Nat → Nat → Nat → List Nat → Prop} : xse (xFind tbX4_init 26) k = k (.iload_n 2) 2 0 0 [] := rfl
theorem tbX4_init_27 {k : Instr → Nat → Nat → Nat → List Nat → Prop} : xse (xFind tbX4_init 27) k = k (.putfield 25) 5 1 0 [] := rfl
theorem tbX4_init_30 {k : Instr → Nat → Nat → Nat → List Nat → Prop} : xse (xFind tbX4_init 30) k = k (.aload_n 0) 0 0 0 [] := rfl
theorem tbX4_init_31 {k : Instr → Nat → Nat → Nat → List Nat → Prop} : xse (xFind tbX4_init 31) k = k (.iload_n 3) 3 0 0 [] := rfl
theorem tbX4_init_32 {k : Instr → Nat → Nat → Nat → List Nat → Prop} : xse (xFind tbX4_init 32) k = k (.putfield 28) 5 2 0 [] := rfl
theorem tbX4_init_35 {k : Instr → Nat → Nat → Nat → List Nat → Prop} : xse (xFind tbX4_init 35) k = k (.aload_n 0) 0 0 0 [] := rfl
theorem tbX4_init_36 {k : Instr → Nat → Nat → Nat → List Nat → Prop} : xse (xFind tbX4_init 36) k = k (.iload 4) 4 0 0 [] := rfl
theorem tbX4_init_38 {k : Instr → Nat → Nat → Nat → List Nat → Prop} : xse (xFind tbX4_init 38) k = k (.putfield 31) 5 3 0 [] := rfl
theorem tbX4_init_41 {k : Instr → Nat → Nat → Nat → List Nat → Prop} : xse (xFind tbX4_init 41) k = k (.return_) 0 0 0 [] := rfl

def spX4_init (W9 : xWd) : xSp cS := (fun av S => (1, 3), fun av S K => ∃ (a : Nat) (b : Int32) (p : Int32) (t : Int32) (m : Int32), av = [.ref a, .int b, .int p, .int t, .int m] ∧ (cK S a = 6 ∧ ∀ q, cDead S q → K rV (cRow W9 S a q b p t m)))
theorem spcX4_init {av : List Value} {S : cS} {W9 : xWd} : (spX4_init W9).1 av S = (1, 3) := rfl
theorem spwX4_init {S : cS} {W9 : xWd} {K : xRes → cS → Prop} {a : Nat} {b : Int32} {p : Int32} {t : Int32} {m : Int32} : (spX4_init W9).2 [.ref a, .int b, .int p, .int t, .int m] S K = (cK S a = 6 ∧ ∀ q, cDead S q → K rV (cRow W9 S a q b p t m)) :=
  propext ⟨fun h => by
    simp only [spX4_init] at h
    obtain ⟨_, _, _, _, _, e, h⟩ := h
    simp only [List.cons.injEq, Value.int.injEq, Value.ref.injEq, rf_eq, and_true, true_and] at e
    obtain ⟨rfl, rfl, rfl, rfl, rfl⟩ := e
    exact h, fun h => ⟨_, _, _, _, _, rfl, h⟩⟩

theorem sprX4_init {W9 : xWd} : ∀ av S KF, (spX4_init W9).2 av S KF → ∃ b As, av = Value.ref b :: As := by
  intro av S KF h
  obtain ⟨a, b, p, t, m, rfl, h⟩ := h
  exact ⟨_, _, rfl⟩

def callX4_init (W9 : xWd) : Nat → Option (xSp cS) := fun n => match n with | 0 => some (spObj cS) | 1 => some (spJx4a65c_init_da8c8 W9) | _ => none

theorem callX4_init_0 {W9 : xWd} {k : xSp cS → Prop} : xcs (callX4_init W9 0) k = k (spObj cS) := rfl

theorem callX4_init_1 {W9 : xWd} {k : xSp cS → Prop} : xcs (callX4_init W9 1) k = k (spJx4a65c_init_da8c8 W9) := rfl

theorem crX4_init (l : Launch) (hl : l.stackTraces = false) (W9 : xWd) : xCallsOK l W9 (cI) (callX4_init W9) clX4_init RX4 wsX4_init 4 80 5 := by
  intro E A p e R s m args below meth c hI hF hL X
  exact List.forall_mem_cons.mpr ⟨⟨_, rfl, xCR_obj X (by decide +kernel) (by decide +kernel) (by decide +kernel) (by rw [hF, hL]; decide)⟩,
    List.forall_mem_cons.mpr ⟨⟨_, rfl, xCR_I X (by rw [hI]; exact (semJx4a65c_init_da8c8 l hl W9)) gX4_init_Jx4a65c_init_da8c8 rfl (by decide +kernel) (by decide +kernel) (by decide +kernel) rfl sprJx4a65c_init_da8c8 (by decide +kernel) (by rw [hF, hL]; decide)⟩,
    fun _ h => nomatch h⟩⟩

set_option maxHeartbeats 600000 in
set_option maxRecDepth 20000 in
theorem semX4_init (l : Launch) (hl : l.stackTraces = false) (W9 : xWd) : xSem l W9 (cI) yX4_init wsX4_init 4 80 (spX4_init W9) := by
  refine xSem_of (call := callX4_init W9) (thrf := fun _ => "") cI_law (by decide +kernel) rfl ckX4_init usX4_init (crX4_init l hl W9) xThrOK_nil ?_ ?_
  · intro av S KF h
    obtain ⟨a, b, p, t, m, rfl, h⟩ := h
    exact ⟨by intro v hv; simp only [List.mem_cons, List.not_mem_nil, or_false] at hv; rcases hv with rfl | rfl | rfl | rfl | rfl <;> first | rfl | exact cat_rf, Nat.le_of_ble_eq_true rfl⟩
  intro av S KF h G hG
  obtain ⟨a, b, p, t, m, rfl, h⟩ := h
  rw [show (spX4_init W9).1 _ S = _ from spcX4_init] at hG
  try dsimp only at hG
  change G 0 [some (.ref a), some (.int b), some (.int p), some (.int t), some (.int m)] [] S 0 0
  obtain ⟨h0, h⟩ := h

  refine xgo hG (head := 13) (mb := [true, true, true, true, true]) (P := fun lv st S1 cs ss => ∃ q, cDead S q ∧ lv = [some (.ref a), some (.int b), some (.int p), some (.int t), some (.int m)] ∧ st = [.ref q, .ref a] ∧ S1 = cNewO (cSetI S a 504 2) q 0 ∧ cs = 1 ∧ ss = 3) (fun lv st S1 cs ss hP => ?_) (fun fu hfu => ?_)
  · obtain ⟨q, hq, rfl, rfl, rfl, rfl, rfl⟩ := hP
    have n1 := ne_dead h0 (by omega) hq
    have hr := h q hq
    refine xgo0 hG (fun fu hfu => ?_)
    simp only [↓callX4_init_0, ↓callX4_init_1, ↓cnew, ↓cp_5_0, ↓cp_5_1, ↓cp_5_2, ↓cp_5_3, ↓cp_5_4, ↓cpf_5_5, ↓cpn_5_5, ↓cpr_5_5, ki_2, ↓vm_aload_n, ↓vm_dup, ↓vm_iconst, ↓vm_iload, ↓vm_iload_n, ↓vm_invokespecial, ↓vm_newO, ↓vm_putfield, ↓vm_return_, ↓xc_1, ↓tbX4_init_0, ↓tbX4_init_1, ↓tbX4_init_4, ↓tbX4_init_5, ↓tbX4_init_6, ↓tbX4_init_9, ↓tbX4_init_10, ↓tbX4_init_13, ↓tbX4_init_14, ↓tbX4_init_17, ↓tbX4_init_20, ↓tbX4_init_21, ↓tbX4_init_22, ↓tbX4_init_25, ↓tbX4_init_26, ↓tbX4_init_27, ↓tbX4_init_30, ↓tbX4_init_31, ↓tbX4_init_32, ↓tbX4_init_35, ↓tbX4_init_36, ↓tbX4_init_38, ↓tbX4_init_41, hfu, xstep0, xJ1_hit, xJ1_go, xJ2_hit1, xJ2_hit2, xJ2_go, ↓xif_t, ↓xif_f, seval, ↓xca_eq, ↓xre_l, ↓xre_r, xmask_t, xmask_f, xmask_nil, ↓xst_eq, xX_eq, eI_eq, eMc_eq, eMs_eq, eF_eq, eThr_eq, ↓xS1_mk, ↓xSI_mk, ↓xSR_mk, ↓xLI_0, ↓xLI_s, ↓xLR_0, ↓xLR_s, vRef_ref, vRef_null, vRef_rf, cat_int, cat_ref, cat_null, cat_rf, rf_some, rf_none, rf_null, rf_eq, rf_ref, ref_rf, ref_null, ref_ref, xOk_0, xOk_1, xOk_2r, xOk_2n, xOk_2f, vOpt_rf, vOpt_ref, vOpt_null, List.set_cons_zero, List.set_cons_succ, List.take_succ_cons, List.take_zero, List.drop_succ_cons, List.drop_zero, List.reverse_cons, List.reverse_nil, List.nil_append, List.cons_append, List.append_nil, List.length_cons, List.length_nil, List.map_cons, List.map_nil, List.sum_cons, List.sum_nil, Option.toList_some, Option.toList_none, xRecv_mk, true_and, and_true, true_implies, Nat.reduceAdd, Nat.reduceLeDiff, Nat.zero_le, Nat.le_refl, Nat.add_zero, Nat.zero_add, reduceIte, not_true_eq_false, not_false_eq_true, false_implies, and_self, implies_true, eq_self, Nat.reduceEqDiff, List.cons.injEq, xsn_1, xsn_2, false_and, and_false, or_false, false_or, or_true, true_or, xsn_3, xsn_4, ↓spObj_w, spObj_c, ↓spwJx4a65c_init_da8c8, spcJx4a65c_init_da8c8, cK_newO, cK_setI, cK_setR, h0, n1]
    try simp only [xif_e]
    exact hr
  · simp only [↓callX4_init_0, ↓callX4_init_1, ↓cnew, ↓cp_5_0, ↓cp_5_1, ↓cp_5_2, ↓cp_5_3, ↓cp_5_4, ↓cpf_5_5, ↓cpn_5_5, ↓cpr_5_5, ki_2, ↓vm_aload_n, ↓vm_dup, ↓vm_iconst, ↓vm_iload, ↓vm_iload_n, ↓vm_invokespecial, ↓vm_newO, ↓vm_putfield, ↓vm_return_, ↓xc_1, ↓tbX4_init_0, ↓tbX4_init_1, ↓tbX4_init_4, ↓tbX4_init_5, ↓tbX4_init_6, ↓tbX4_init_9, ↓tbX4_init_10, ↓tbX4_init_13, ↓tbX4_init_14, ↓tbX4_init_17, ↓tbX4_init_20, ↓tbX4_init_21, ↓tbX4_init_22, ↓tbX4_init_25, ↓tbX4_init_26, ↓tbX4_init_27, ↓tbX4_init_30, ↓tbX4_init_31, ↓tbX4_init_32, ↓tbX4_init_35, ↓tbX4_init_36, ↓tbX4_init_38, ↓tbX4_init_41, hfu, xstep0, xJ1_hit, xJ1_go, xJ2_hit1, xJ2_hit2, xJ2_go, ↓xif_t, ↓xif_f, seval, ↓xca_eq, ↓xre_l, ↓xre_r, xmask_t, xmask_f, xmask_nil, ↓xst_eq, xX_eq, eI_eq, eMc_eq, eMs_eq, eF_eq, eThr_eq, ↓xS1_mk, ↓xSI_mk, ↓xSR_mk, ↓xLI_0, ↓xLI_s, ↓xLR_0, ↓xLR_s, vRef_ref, vRef_null, vRef_rf, cat_int, cat_ref, cat_null, cat_rf, rf_some, rf_none, rf_null, rf_eq, rf_ref, ref_rf, ref_null, ref_ref, xOk_0, xOk_1, xOk_2r, xOk_2n, xOk_2f, vOpt_rf, vOpt_ref, vOpt_null, List.set_cons_zero, List.set_cons_succ, List.take_succ_cons, List.take_zero, List.drop_succ_cons, List.drop_zero, List.reverse_cons, List.reverse_nil, List.nil_append, List.cons_append, List.append_nil, List.length_cons, List.length_nil, List.map_cons, List.map_nil, List.sum_cons, List.sum_nil, Option.toList_some, Option.toList_none, xRecv_mk, true_and, and_true, true_implies, Nat.reduceAdd, Nat.reduceLeDiff, Nat.zero_le, Nat.le_refl, Nat.add_zero, Nat.zero_add, reduceIte, not_true_eq_false, not_false_eq_true, false_implies, and_self, implies_true, eq_self, Nat.reduceEqDiff, List.cons.injEq, xsn_1, xsn_2, false_and, and_false, or_false, false_or, or_true, true_or, xsn_3, xsn_4, ↓spObj_w, spObj_c, ↓spwJx4a65c_init_da8c8, spcJx4a65c_init_da8c8, h0, cK_setI]
    try simp only [xif_e]
    intro q hq
    first | exact ⟨q, hq, rfl⟩ | exact ⟨q, hq, rfl, rfl⟩ | exact ⟨q, hq, rfl, rfl, rfl⟩ | exact ⟨q, hq, rfl, rfl, rfl, rfl, rfl⟩

def tbX1_init : List (Nat × xHint) := [(0, .aload_n 0, 0, 0, 0, []), (1, .invokespecial 3, 0, 1, 0, []), (4, .aload_n 0, 0, 0, 0, []), (5, .iconst (-1), 0, 0, 0, []), (6, .putfield 9, 2, 6, 0, []), (9, .aload_n 0, 0, 0, 0, []), (10, .iconst (-1), 0, 0, 0, []), (11, .putfield 15, 2, 7, 0, []), (14, .aload_n 0, 0, 0, 0, []), (15, .iconst (-1), 0, 0, 0, []), (16, .putfield 18, 2, 10, 0, []), (19, .aload_n 0, 0, 0, 0, []), (20, .bipush 10, 0, 0, 0, []), (22, .newarray .int, 0, 0, 0, []), (24, .putfield 21, 2, 14, 2, []), (27, .aload_n 0, 0, 0, 0, []), (28, .iload_n 1, 1, 0, 0, []), (29, .putfield 25, 2, 0, 0, []), (32, .aload_n 0, 0, 0, 0, []), (33, .iload_n 2, 2, 0, 0, []), (34, .putfield 28, 2, 1, 0, []), (37, .aload_n 0, 0, 0, 0, []), (38, .iload_n 3, 3, 0, 0, []), (39, .putfield 31, 2, 2, 0, []), (42, .aload_n 0, 0, 0, 0, []), (43, .new 34, 0, 5, 6, []), (46, .dup, 0, 0, 0, []), (47, .iload_n 1, 1, 0, 0, []), (48, .iconst (-1), 0, 0, 0, []), (49, .iconst (-1), 0, 0, 0, []), (50, .bipush 12, 0, 0, 0, []), (52, .invokespecial 36, 1, 5, 0, []), (55, .putfield 39, 2, 3, 2, []), (58, .return_, 0, 0, 0, [])]
def clX1_init : List (Instr × Nat × Nat × Nat) := [(.invokespecial 3, 0, 1, 0), (.invokespecial 36, 1, 5, 0)]
def thX1_init : List (Nat × Nat) := []
theorem ckX1_init : tbX1_init.all (xRow RX1 cX1_init wsX1_init vwCl [2, 5] clX1_init thX1_init 4 (yX1_init.name == "<init>") none) = true := xRow_q 0xb12700b52400b70c1002021b592200bb2a1f00b51d2a1c00b51c2a1900b51b2a1500b50abc0a102a1200b5022a0f00b5022a0900b5022a0300b72a 59 (by decide +kernel) (by decide +kernel)
theorem usX1_init : xUse wsX1_init vwCl [2, 5] = true := xUse_g rfl (lw_good lwl_X1_init lwl_X10 (by decide +kernel)) (xUse_g rfl (lw_good lwl_X1_init lwl_X40 (by decide +kernel)) xUse_n)
theorem tbX1_init_0 {k : Instr → Nat → Nat → Nat → List Nat → Prop} : xse (xFind tbX1_init 0) k = k (.aload_n 0) 0 0 0 [] := rfl
theorem tbX1_init_1 {k : Instr → Nat → Nat → Nat → List Nat → Prop} : xse (xFind tbX1_init 1) k = k (.invokespecial 3) 0 1 0 [] := rfl
theorem tbX1_init_4 {k : Instr → Nat → Nat → Nat → List Nat → Prop} : xse (xFind tbX1_init 4) k = k (.aload_n 0) 0 0 0 [] := rfl
theorem tbX1_init_5 {k : Instr → Nat → Nat → Nat → List Nat → Prop} : xse (xFind tbX1_init 5) k = k (.iconst (-1)) 0 0 0 [] := rfl
theorem tbX1_init_6 {k : Instr → Nat → Nat → Nat → List Nat → Prop} : xse (xFind tbX1_init 6) k = k (.putfield 9) 2 6 0 [] := rfl
theorem tbX1_init_9 {k : Instr → Nat → Nat → Nat → List Nat → Prop} : xse (xFind tbX1_init 9) k = k (.aload_n 0) 0 0 0 [] := rfl
theorem tbX1_init_10 {k : Instr → Nat → Nat → Nat → List Nat → Prop} : xse (xFind tbX1_init 10) k = k (.iconst (-1)) 0 0 0 [] := rfl
theorem tbX1_init_11 {k : Instr → Nat → Nat → Nat → List Nat → Prop} : xse (xFind tbX1_init 11) k = k (.putfield 15) 2 7 0 [] := rfl
theorem tbX1_init_14 {k : Instr → Nat → Nat → Nat → List Nat → Prop} : xse (xFind tbX1_init 14) k = k (.aload_n 0) 0 0 0 [] := rfl
theorem tbX1_init_15 {k : Instr → Nat → Nat → Nat → List Nat → Prop} : xse (xFind tbX1_init 15) k = k (.iconst (-1)) 0 0 0 [] := rfl
theorem tbX1_init_16 {k : Instr → Nat → Nat → Nat → List Nat → Prop} : xse (xFind tbX1_init 16) k = k (.putfield 18) 2 10 0 [] := rfl
theorem tbX1_init_19 {k : Instr → Nat → Nat → Nat → List Nat → Prop} : xse (xFind tbX1_init 19) k = k (.aload_n 0) 0 0 0 [] := rfl
theorem tbX1_init_20 {k : Instr → Nat → Nat → Nat → List Nat → Prop} : xse (xFind tbX1_init 20) k = k (.bipush 10) 0 0 0 [] := rfl
theorem tbX1_init_22 {k : Instr → Nat → Nat → Nat → List Nat → Prop} : xse (xFind tbX1_init 22) k = k (.newarray .int) 0 0 0 [] := rfl
theorem tbX1_init_24 {k : Instr → Nat → Nat → Nat → List Nat → Prop} : xse (xFind tbX1_init 24) k = k (.putfield 21) 2 14 2 [] := rfl
theorem tbX1_init_27 {k : Instr → Nat → Nat → Nat → List Nat → Prop} : xse (xFind tbX1_init 27) k = k (.aload_n 0) 0 0 0 [] := rfl
theorem tbX1_init_28 {k : Instr → Nat → Nat → Nat → List Nat → Prop} : xse (xFind tbX1_init 28) k = k (.iload_n 1) 1 0 0 [] := rfl
theorem tbX1_init_29 {k : Instr → Nat → Nat → Nat → List Nat → Prop} : xse (xFind tbX1_init 29) k = k (.putfield 25) 2 0 0 [] := rfl
theorem tbX1_init_32 {k : Instr → Nat → Nat → Nat → List Nat → Prop} : xse (xFind tbX1_init 32) k = k (.aload_n 0) 0 0 0 [] := rfl
theorem tbX1_init_33 {k : Instr → Nat → Nat → Nat → List Nat → Prop} : xse (xFind tbX1_init 33) k = k (.iload_n 2) 2 0 0 [] := rfl
theorem tbX1_init_34 {k : Instr → Nat → Nat → Nat → List Nat → Prop} : xse (xFind tbX1_init 34) k = k (.putfield 28) 2 1 0 [] := rfl
theorem tbX1_init_37 {k : Instr → Nat → Nat → Nat → List Nat → Prop} : xse (xFind tbX1_init 37) k = k (.aload_n 0) 0 0 0 [] := rfl
theorem tbX1_init_38 {k : Instr → Nat → Nat → Nat → List Nat → Prop} : xse (xFind tbX1_init 38) k = k (.iload_n 3) 3 0 0 [] := rfl
theorem tbX1_init_39 {k : Instr → Nat → Nat → Nat → List Nat → Prop} : xse (xFind tbX1_init 39) k = k (.putfield 31) 2 2 0 [] := rfl
theorem tbX1_init_42 {k : Instr → Nat → Nat → Nat → List Nat → Prop} : xse (xFind tbX1_init 42) k = k (.aload_n 0) 0 0 0 [] := rfl
theorem tbX1_init_43 {k : Instr → Nat → Nat → Nat → List Nat → Prop} : xse (xFind tbX1_init 43) k = k (.new 34) 0 5 6 [] := rfl
theorem tbX1_init_46 {k : Instr → Nat → Nat → Nat → List Nat → Prop} : xse (xFind tbX1_init 46) k = k (.dup) 0 0 0 [] := rfl
theorem tbX1_init_47 {k : Instr → Nat → Nat → Nat → List Nat → Prop} : xse (xFind tbX1_init 47) k = k (.iload_n 1) 1 0 0 [] := rfl
theorem tbX1_init_48 {k : Instr → Nat → Nat → Nat → List Nat → Prop} : xse (xFind tbX1_init 48) k = k (.iconst (-1)) 0 0 0 [] := rfl
theorem tbX1_init_49 {k : Instr → Nat → Nat → Nat → List Nat → Prop} : xse (xFind tbX1_init 49) k = k (.iconst (-1)) 0 0 0 [] := rfl
theorem tbX1_init_50 {k : Instr → Nat → Nat → Nat → List Nat → Prop} : xse (xFind tbX1_init 50) k = k (.bipush 12) 0 0 0 [] := rfl
theorem tbX1_init_52 {k : Instr → Nat → Nat → Nat → List Nat → Prop} : xse (xFind tbX1_init 52) k = k (.invokespecial 36) 1 5 0 [] := rfl
theorem tbX1_init_55 {k : Instr → Nat → Nat → Nat → List Nat → Prop} : xse (xFind tbX1_init 55) k = k (.putfield 39) 2 3 2 [] := rfl
theorem tbX1_init_58 {k : Instr → Nat → Nat → Nat → List Nat → Prop} : xse (xFind tbX1_init 58) k = k (.return_) 0 0 0 [] := rfl

def spX1_init (W9 : xWd) : xSp cS := (fun av S => (3, 19), fun av S K => ∃ (a : Nat) (n : Int32) (w : Int32) (z : Int32), av = [.ref a, .int n, .int w, .int z] ∧ (cK S a = 3 ∧ ∀ q, cDead S q → ∀ q2, cDead (cBt1 S a q n w z) q2 → ∀ q3, cDead (cNewO (cBt1 S a q n w z) q2 5) q3 → K rV (cBt W9 S a q q2 q3 n w z)))
theorem spcX1_init {av : List Value} {S : cS} {W9 : xWd} : (spX1_init W9).1 av S = (3, 19) := rfl
theorem spwX1_init {S : cS} {W9 : xWd} {K : xRes → cS → Prop} {a : Nat} {n : Int32} {w : Int32} {z : Int32} : (spX1_init W9).2 [.ref a, .int n, .int w, .int z] S K = (cK S a = 3 ∧ ∀ q, cDead S q → ∀ q2, cDead (cBt1 S a q n w z) q2 → ∀ q3, cDead (cNewO (cBt1 S a q n w z) q2 5) q3 → K rV (cBt W9 S a q q2 q3 n w z)) :=
  propext ⟨fun h => by
    simp only [spX1_init] at h
    obtain ⟨_, _, _, _, e, h⟩ := h
    simp only [List.cons.injEq, Value.int.injEq, Value.ref.injEq, rf_eq, and_true, true_and] at e
    obtain ⟨rfl, rfl, rfl, rfl⟩ := e
    exact h, fun h => ⟨_, _, _, _, rfl, h⟩⟩

theorem sprX1_init {W9 : xWd} : ∀ av S KF, (spX1_init W9).2 av S KF → ∃ b As, av = Value.ref b :: As := by
  intro av S KF h
  obtain ⟨a, n, w, z, rfl, h⟩ := h
  exact ⟨_, _, rfl⟩

def callX1_init (W9 : xWd) : Nat → Option (xSp cS) := fun n => match n with | 0 => some (spObj cS) | 1 => some (spX4_init W9) | _ => none

theorem callX1_init_0 {W9 : xWd} {k : xSp cS → Prop} : xcs (callX1_init W9 0) k = k (spObj cS) := rfl

theorem callX1_init_1 {W9 : xWd} {k : xSp cS → Prop} : xcs (callX1_init W9 1) k = k (spX4_init W9) := rfl

theorem crX1_init (l : Launch) (hl : l.stackTraces = false) (W9 : xWd) : xCallsOK l W9 (cI) (callX1_init W9) clX1_init RX1 wsX1_init 5 104 4 := by
  intro E A p e R s m args below meth c hI hF hL X
  exact List.forall_mem_cons.mpr ⟨⟨_, rfl, xCR_obj X (by decide +kernel) (by decide +kernel) (by decide +kernel) (by rw [hF, hL]; decide)⟩,
    List.forall_mem_cons.mpr ⟨⟨_, rfl, xCR_I X (by rw [hI]; exact (semX4_init l hl W9)) gX1_init_X4_init rfl (by decide +kernel) (by decide +kernel) (by decide +kernel) rfl sprX4_init (by decide +kernel) (by rw [hF, hL]; decide)⟩,
    fun _ h => nomatch h⟩⟩

set_option maxHeartbeats 600000 in
set_option maxRecDepth 20000 in
theorem semX1_init (l : Launch) (hl : l.stackTraces = false) (W9 : xWd) : xSem l W9 (cI) yX1_init wsX1_init 5 104 (spX1_init W9) := by
  refine xSem_of (call := callX1_init W9) (thrf := fun _ => "") cI_law (by decide +kernel) rfl ckX1_init usX1_init (crX1_init l hl W9) xThrOK_nil ?_ ?_
  · intro av S KF h
    obtain ⟨a, n, w, z, rfl, h⟩ := h
    exact ⟨by intro v hv; simp only [List.mem_cons, List.not_mem_nil, or_false] at hv; rcases hv with rfl | rfl | rfl | rfl <;> first | rfl | exact cat_rf, Nat.le_of_ble_eq_true rfl⟩
  intro av S KF h G hG
  obtain ⟨a, n, w, z, rfl, h⟩ := h
  rw [show (spX1_init W9).1 _ S = _ from spcX1_init] at hG
  try dsimp only at hG
  change G 0 [some (.ref a), some (.int n), some (.int w), some (.int z)] [] S 0 0
  obtain ⟨h0, h⟩ := h

  have key : ∀ q, cDead S q → ∀ q2, cDead (cBt1 S a q n w z) q2 → G 46 [some (.ref a), some (.int n), some (.int w), some (.int z)] [.ref q2, .ref a] (cNewO (cBt1 S a q n w z) q2 5) 2 16 := by
    intro q hq q2 hq2
    have n1 := ne_dead h0 (by omega) hq
    have k1 : cK (cBt1 S a q n w z) a = 3 := by
      unfold cBt1
      simp only [cK_setI, cK_setR, cK_newI, n1, if_false]
      exact h0
    have n2 := ne_dead k1 (by omega) hq2
    have hr := h q hq q2 hq2
    unfold cBt at hr
    generalize cBt1 S a q n w z = S1 at *
    refine xgo0 hG (fun fu hfu => ?_)
    simp only [↓callX1_init_0, ↓callX1_init_1, ↓cnew, ↓cnewa, ↓cp_2_0, ↓cp_2_1, ↓cp_2_10, ↓cp_2_2, ↓cp_2_6, ↓cp_2_7, ↓cpf_2_14, ↓cpf_2_3, ↓cpn_2_14, ↓cpn_2_3, ↓cpr_2_14, ↓cpr_2_3, kb_10, kb_12, kc_10, kc_12, ki_m1, ↓vm_aload_n, ↓vm_bipush, ↓vm_dup, ↓vm_iconst, ↓vm_iload_n, ↓vm_invokespecial, ↓vm_newO, ↓vm_newarray, ↓vm_putfield, ↓vm_return_, ↓xc_1, ↓xc_5, ↓tbX1_init_0, ↓tbX1_init_1, ↓tbX1_init_4, ↓tbX1_init_5, ↓tbX1_init_6, ↓tbX1_init_9, ↓tbX1_init_10, ↓tbX1_init_11, ↓tbX1_init_14, ↓tbX1_init_15, ↓tbX1_init_16, ↓tbX1_init_19, ↓tbX1_init_20, ↓tbX1_init_22, ↓tbX1_init_24, ↓tbX1_init_27, ↓tbX1_init_28, ↓tbX1_init_29, ↓tbX1_init_32, ↓tbX1_init_33, ↓tbX1_init_34, ↓tbX1_init_37, ↓tbX1_init_38, ↓tbX1_init_39, ↓tbX1_init_42, ↓tbX1_init_43, ↓tbX1_init_46, ↓tbX1_init_47, ↓tbX1_init_48, ↓tbX1_init_49, ↓tbX1_init_50, ↓tbX1_init_52, ↓tbX1_init_55, ↓tbX1_init_58, hfu, xstep0, xJ1_hit, xJ1_go, xJ2_hit1, xJ2_hit2, xJ2_go, ↓xif_t, ↓xif_f, seval, ↓xca_eq, ↓xre_l, ↓xre_r, xmask_t, xmask_f, xmask_nil, ↓xst_eq, xX_eq, eI_eq, eMc_eq, eMs_eq, eF_eq, eThr_eq, ↓xS1_mk, ↓xSI_mk, ↓xSR_mk, ↓xLI_0, ↓xLI_s, ↓xLR_0, ↓xLR_s, vRef_ref, vRef_null, vRef_rf, cat_int, cat_ref, cat_null, cat_rf, rf_some, rf_none, rf_null, rf_eq, rf_ref, ref_rf, ref_null, ref_ref, xOk_0, xOk_1, xOk_2r, xOk_2n, xOk_2f, vOpt_rf, vOpt_ref, vOpt_null, List.set_cons_zero, List.set_cons_succ, List.take_succ_cons, List.take_zero, List.drop_succ_cons, List.drop_zero, List.reverse_cons, List.reverse_nil, List.nil_append, List.cons_append, List.append_nil, List.length_cons, List.length_nil, List.map_cons, List.map_nil, List.sum_cons, List.sum_nil, Option.toList_some, Option.toList_none, xRecv_mk, true_and, and_true, true_implies, Nat.reduceAdd, Nat.reduceLeDiff, Nat.zero_le, Nat.le_refl, Nat.add_zero, Nat.zero_add, reduceIte, not_true_eq_false, not_false_eq_true, false_implies, and_self, implies_true, eq_self, Nat.reduceEqDiff, List.cons.injEq, xsn_1, xsn_2, false_and, and_false, or_false, false_or, or_true, true_or, xsn_3, xsn_4, ↓spObj_w, spObj_c, ↓spwX4_init, spcX4_init, cK_newO, k1, n2]
    try simp only [xif_e]
    intro q3 hq3
    have n3 : (a = q3) = False := by
      refine eq_false (fun y => ?_)
      subst y
      exact ((dead_nO (by omega)).mp hq3).2 (by omega)
    have k2 : cK (cRow W9 (cNewO S1 q2 5) q2 q3 n (-1) (-1) 12) a = 3 := by
      unfold cRow cLst
      simp only [cK_setI, cK_setR, cK_newO, n3, n2, if_false]
      exact k1
    exact ⟨k2, hr q3 hq3⟩
  have key2 : ∀ q, cDead S q → G 24 [some (.ref a), some (.int n), some (.int w), some (.int z)] [.ref q, .ref a] (cNewI (cSetI (cSetI (cSetI S a 206 (-1)) a 207 (-1)) a 210 (-1)) q 0 10) 1 10 := by
    intro q hq
    have n1 := ne_dead h0 (by omega) hq
    refine xgo hG (head := 46) (mb := [true, true, true, true]) (P := fun lv st S1 cs ss => ∃ q2, cDead (cBt1 S a q n w z) q2 ∧ lv = [some (.ref a), some (.int n), some (.int w), some (.int z)] ∧ st = [.ref q2, .ref a] ∧ S1 = cNewO (cBt1 S a q n w z) q2 5 ∧ cs = 2 ∧ ss = 16) (fun lv st S1 cs ss hP => ?_) (fun fu hfu => ?_)
    · obtain ⟨q2, hq2, rfl, rfl, rfl, rfl, rfl⟩ := hP
      exact key q hq q2 hq2
    · simp only [↓callX1_init_0, ↓callX1_init_1, ↓cnew, ↓cnewa, ↓cp_2_0, ↓cp_2_1, ↓cp_2_10, ↓cp_2_2, ↓cp_2_6, ↓cp_2_7, ↓cpf_2_14, ↓cpf_2_3, ↓cpn_2_14, ↓cpn_2_3, ↓cpr_2_14, ↓cpr_2_3, kb_10, kb_12, kc_10, kc_12, ki_m1, ↓vm_aload_n, ↓vm_bipush, ↓vm_dup, ↓vm_iconst, ↓vm_iload_n, ↓vm_invokespecial, ↓vm_newO, ↓vm_newarray, ↓vm_putfield, ↓vm_return_, ↓xc_1, ↓xc_5, ↓tbX1_init_0, ↓tbX1_init_1, ↓tbX1_init_4, ↓tbX1_init_5, ↓tbX1_init_6, ↓tbX1_init_9, ↓tbX1_init_10, ↓tbX1_init_11, ↓tbX1_init_14, ↓tbX1_init_15, ↓tbX1_init_16, ↓tbX1_init_19, ↓tbX1_init_20, ↓tbX1_init_22, ↓tbX1_init_24, ↓tbX1_init_27, ↓tbX1_init_28, ↓tbX1_init_29, ↓tbX1_init_32, ↓tbX1_init_33, ↓tbX1_init_34, ↓tbX1_init_37, ↓tbX1_init_38, ↓tbX1_init_39, ↓tbX1_init_42, ↓tbX1_init_43, ↓tbX1_init_46, ↓tbX1_init_47, ↓tbX1_init_48, ↓tbX1_init_49, ↓tbX1_init_50, ↓tbX1_init_52, ↓tbX1_init_55, ↓tbX1_init_58, hfu, xstep0, xJ1_hit, xJ1_go, xJ2_hit1, xJ2_hit2, xJ2_go, ↓xif_t, ↓xif_f, seval, ↓xca_eq, ↓xre_l, ↓xre_r, xmask_t, xmask_f, xmask_nil, ↓xst_eq, xX_eq, eI_eq, eMc_eq, eMs_eq, eF_eq, eThr_eq, ↓xS1_mk, ↓xSI_mk, ↓xSR_mk, ↓xLI_0, ↓xLI_s, ↓xLR_0, ↓xLR_s, vRef_ref, vRef_null, vRef_rf, cat_int, cat_ref, cat_null, cat_rf, rf_some, rf_none, rf_null, rf_eq, rf_ref, ref_rf, ref_null, ref_ref, xOk_0, xOk_1, xOk_2r, xOk_2n, xOk_2f, vOpt_rf, vOpt_ref, vOpt_null, List.set_cons_zero, List.set_cons_succ, List.take_succ_cons, List.take_zero, List.drop_succ_cons, List.drop_zero, List.reverse_cons, List.reverse_nil, List.nil_append, List.cons_append, List.append_nil, List.length_cons, List.length_nil, List.map_cons, List.map_nil, List.sum_cons, List.sum_nil, Option.toList_some, Option.toList_none, xRecv_mk, true_and, and_true, true_implies, Nat.reduceAdd, Nat.reduceLeDiff, Nat.zero_le, Nat.le_refl, Nat.add_zero, Nat.zero_add, reduceIte, not_true_eq_false, not_false_eq_true, false_implies, and_self, implies_true, eq_self, Nat.reduceEqDiff, List.cons.injEq, xsn_1, xsn_2, false_and, and_false, or_false, false_or, or_true, true_or, xsn_3, xsn_4, ↓spObj_w, spObj_c, ↓spwX4_init, spcX4_init, cK_newI, cK_setI, cK_setR, h0, n1]
      try simp only [xif_e]
      intro q2 hq2
      have hq2 : cDead (cBt1 S a q n w z) q2 := hq2
      first | exact ⟨q2, hq2, rfl⟩ | exact ⟨q2, hq2, rfl, rfl⟩ | exact ⟨q2, hq2, rfl, rfl, rfl⟩ | exact ⟨q2, hq2, rfl, rfl, rfl, rfl, rfl⟩
  refine xgo hG (head := 24) (mb := [true, true, true, true]) (P := fun lv st S1 cs ss => ∃ q, cDead S q ∧ lv = [some (.ref a), some (.int n), some (.int w), some (.int z)] ∧ st = [.ref q, .ref a] ∧ S1 = cNewI (cSetI (cSetI (cSetI S a 206 (-1)) a 207 (-1)) a 210 (-1)) q 0 10 ∧ cs = 1 ∧ ss = 10) (fun lv st S1 cs ss hP => ?_) (fun fu hfu => ?_)
  · obtain ⟨q, hq, rfl, rfl, rfl, rfl, rfl⟩ := hP
    exact key2 q hq
  · simp only [↓callX1_init_0, ↓callX1_init_1, ↓cnew, ↓cnewa, ↓cp_2_0, ↓cp_2_1, ↓cp_2_10, ↓cp_2_2, ↓cp_2_6, ↓cp_2_7, ↓cpf_2_14, ↓cpf_2_3, ↓cpn_2_14, ↓cpn_2_3, ↓cpr_2_14, ↓cpr_2_3, kb_10, kb_12, kc_10, kc_12, ki_m1, ↓vm_aload_n, ↓vm_bipush, ↓vm_dup, ↓vm_iconst, ↓vm_iload_n, ↓vm_invokespecial, ↓vm_newO, ↓vm_newarray, ↓vm_putfield, ↓vm_return_, ↓xc_1, ↓xc_5, ↓tbX1_init_0, ↓tbX1_init_1, ↓tbX1_init_4, ↓tbX1_init_5, ↓tbX1_init_6, ↓tbX1_init_9, ↓tbX1_init_10, ↓tbX1_init_11, ↓tbX1_init_14, ↓tbX1_init_15, ↓tbX1_init_16, ↓tbX1_init_19, ↓tbX1_init_20, ↓tbX1_init_22, ↓tbX1_init_24, ↓tbX1_init_27, ↓tbX1_init_28, ↓tbX1_init_29, ↓tbX1_init_32, ↓tbX1_init_33, ↓tbX1_init_34, ↓tbX1_init_37, ↓tbX1_init_38, ↓tbX1_init_39, ↓tbX1_init_42, ↓tbX1_init_43, ↓tbX1_init_46, ↓tbX1_init_47, ↓tbX1_init_48, ↓tbX1_init_49, ↓tbX1_init_50, ↓tbX1_init_52, ↓tbX1_init_55, ↓tbX1_init_58, hfu, xstep0, xJ1_hit, xJ1_go, xJ2_hit1, xJ2_hit2, xJ2_go, ↓xif_t, ↓xif_f, seval, ↓xca_eq, ↓xre_l, ↓xre_r, xmask_t, xmask_f, xmask_nil, ↓xst_eq, xX_eq, eI_eq, eMc_eq, eMs_eq, eF_eq, eThr_eq, ↓xS1_mk, ↓xSI_mk, ↓xSR_mk, ↓xLI_0, ↓xLI_s, ↓xLR_0, ↓xLR_s, vRef_ref, vRef_null, vRef_rf, cat_int, cat_ref, cat_null, cat_rf, rf_some, rf_none, rf_null, rf_eq, rf_ref, ref_rf, ref_null, ref_ref, xOk_0, xOk_1, xOk_2r, xOk_2n, xOk_2f, vOpt_rf, vOpt_ref, vOpt_null, List.set_cons_zero, List.set_cons_succ, List.take_succ_cons, List.take_zero, List.drop_succ_cons, List.drop_zero, List.reverse_cons, List.reverse_nil, List.nil_append, List.cons_append, List.append_nil, List.length_cons, List.length_nil, List.map_cons, List.map_nil, List.sum_cons, List.sum_nil, Option.toList_some, Option.toList_none, xRecv_mk, true_and, and_true, true_implies, Nat.reduceAdd, Nat.reduceLeDiff, Nat.zero_le, Nat.le_refl, Nat.add_zero, Nat.zero_add, reduceIte, not_true_eq_false, not_false_eq_true, false_implies, and_self, implies_true, eq_self, Nat.reduceEqDiff, List.cons.injEq, xsn_1, xsn_2, false_and, and_false, or_false, false_or, or_true, true_or, xsn_3, xsn_4, ↓spObj_w, spObj_c, ↓spwX4_init, spcX4_init, cK_setI, h0]
    try simp only [xif_e]
    have e10 : ¬ (10 : Int32) < 0 := by decide
    have e11 : (10 : Int32).toNatClampNeg = 10 := rfl
    try simp only [e10, e11, not_false_eq_true, true_and, Nat.reduceLeDiff]
    intro q hq
    first | exact ⟨q, hq, rfl⟩ | exact ⟨q, hq, rfl, rfl⟩ | exact ⟨q, hq, rfl, rfl, rfl⟩ | exact ⟨q, hq, rfl, rfl, rfl, rfl, rfl⟩

/-- what telling asks of a story: its notes' number, its last page, how much of that is written -/
def stL (S : cS) (a N x u : Nat) : Prop := cK S a = 8 ∧ cFi S a 702 = nI N ∧ N < 8192 ∧ cFr S a 701 = some x ∧ cK S x = 5 ∧ cIn S x 400 11 ∧ cLen S (cRf S x 400) = 64 ∧ cFi S x 401 = nI u ∧ u ≤ 64
def cTl1 (S : cS) (a N x u : Nat) (v : Int32) : cS := cSetI (cSetI (cAst S (cRf S x 400) u v) x 401 (nI (u + 1))) a 702 (nI (N + 1))
def cTl2 (S : cS) (a N x q q2 : Nat) (v : Int32) : cS := cSetI (cSetI (cAst (cSetR (cSetR (cPg S q q2) x 402 (some q)) a 701 (some q)) q2 0 v) q 401 (nI (0 + 1))) a 702 (nI (N + 1))
def tlR (S : cS) (a N x u : Nat) (v : Int32) (S2 : cS) : Prop := (u < 64 ∧ S2 = cTl1 S a N x u v) ∨ (u = 64 ∧ ∃ q q2, cDead S q ∧ cDead (cNewO S q 4) q2 ∧ S2 = cTl2 S a N x q q2 v)

def tbX6_tell : List (Nat × xHint) := [(0, .aload_n 0, 0, 0, 0, []), (1, .getfield 19, 7, 2, 0, []), (4, .sipush 8192, 0, 0, 0, []), (7, .if_icmp .lt 4, 11, 0, 0, []), (10, .return_, 0, 0, 0, []), (11, .aload_n 0, 0, 0, 0, []), (12, .getfield 16, 7, 1, 2, []), (15, .invokevirtual 23, 0, 1, 4, []), (18, .ifCond .eq 27, 45, 0, 0, []), (21, .new 7, 0, 4, 3, []), (24, .dup, 0, 0, 0, []), (25, .invokespecial 9, 1, 1, 0, []), (28, .astore 4, 4, 0, 0, []), (30, .aload_n 0, 0, 0, 0, []), (31, .getfield 16, 7, 1, 2, []), (34, .aload 4, 4, 0, 0, []), (36, .putfield 27, 4, 2, 2, []), (39, .aload_n 0, 0, 0, 0, []), (40, .aload 4, 4, 0, 0, []), (42, .putfield 16, 7, 1, 2, []), (45, .aload_n 0, 0, 0, 0, []), (46, .getfield 16, 7, 1, 2, []), (49, .iload_n 1, 1, 0, 0, []), (50, .bipush 16, 0, 0, 0, []), (52, .ishl, 0, 0, 0, []), (53, .iload_n 2, 2, 0, 0, []), (54, .bipush 8, 0, 0, 0, []), (56, .ishl, 0, 0, 0, []), (57, .ior, 0, 0, 0, []), (58, .iload_n 3, 3, 0, 0, []), (59, .ior, 0, 0, 0, []), (60, .invokevirtual 30, 2, 2, 4, []), (63, .aload_n 0, 0, 0, 0, []), (64, .dup, 0, 0, 0, []), (65, .getfield 19, 7, 2, 0, []), (68, .iconst 1, 0, 0, 0, []), (69, .iadd, 0, 0, 0, []), (70, .putfield 19, 7, 2, 0, []), (73, .return_, 0, 0, 0, [])]
def clX6_tell : List (Instr × Nat × Nat × Nat) := [(.invokevirtual 23, 0, 1, 4), (.invokespecial 9, 1, 1, 0), (.invokevirtual 30, 2, 2, 4)]
def thX6_tell : List (Nat × Nat) := []
theorem ckX6_tell : tbX6_tell.all (xRow RX6 cX6_tell wsX6_tell vwCl [4, 7] clX6_tell thX6_tell 5 (yX6_tell.name == "<init>") none) = true := xRow_q 0xb11300b560041300b4592a1e00b6801d807808101c7810101b1000b42a1000b504192a1b00b504191000b42a043a0900b7590700bb1b00991700b61000b42ab10400a10020111300b42a 74 (by decide +kernel) (by decide +kernel)
theorem usX6_tell : xUse wsX6_tell vwCl [4, 7] = true := xUse_g rfl (lw_good lwl_X6_tell lwl_X30 (by decide +kernel)) (xUse_g rfl (lw_good lwl_X6_tell lwl_X60 (by decide +kernel)) xUse_n)
theorem tbX6_tell_0 {k : Instr → Nat → Nat → Nat → List Nat → Prop} : xse (xFind tbX6_tell 0) k = k (.aload_n 0) 0 0 0 [] := rfl
theorem tbX6_tell_1 {k : Instr → Nat → Nat → Nat → List Nat → Prop} : xse (xFind tbX6_tell 1) k = k (.getfield 19) 7 2 0 [] := rfl
theorem tbX6_tell_4 {k : Instr → Nat → Nat → Nat → List Nat → Prop} : xse (xFind tbX6_tell 4) k = k (.sipush 8192) 0 0 0 [] := rfl
theorem tbX6_tell_7 {k : Instr → Nat → Nat → Nat → List Nat → Prop} : xse (xFind tbX6_tell 7) k = k (.if_icmp .lt 4) 11 0 0 [] := rfl
theorem tbX6_tell_10 {k : Instr → Nat → Nat → Nat → List Nat → Prop} : xse (xFind tbX6_tell 10) k = k (.return_) 0 0 0 [] := rfl
theorem tbX6_tell_11 {k : Instr → Nat → Nat → Nat → List Nat → Prop} : xse (xFind tbX6_tell 11) k = k (.aload_n 0) 0 0 0 [] := rfl
theorem tbX6_tell_12 {k : Instr → Nat → Nat → Nat → List Nat → Prop} : xse (xFind tbX6_tell 12) k = k (.getfield 16) 7 1 2 [] := rfl
theorem tbX6_tell_15 {k : Instr → Nat → Nat → Nat → List Nat → Prop} : xse (xFind tbX6_tell 15) k = k (.invokevirtual 23) 0 1 4 [] := rfl
theorem tbX6_tell_18 {k : Instr → Nat → Nat → Nat → List Nat → Prop} : xse (xFind tbX6_tell 18) k = k (.ifCond .eq 27) 45 0 0 [] := rfl
theorem tbX6_tell_21 {k : Instr → Nat → Nat → Nat → List Nat → Prop} : xse (xFind tbX6_tell 21) k = k (.new 7) 0 4 3 [] := rfl
theorem tbX6_tell_24 {k : Instr → Nat → Nat → Nat → List Nat → Prop} : xse (xFind tbX6_tell 24) k = k (.dup) 0 0 0 [] := rfl
theorem tbX6_tell_25 {k : Instr → Nat → Nat → Nat → List Nat → Prop} : xse (xFind tbX6_tell 25) k = k (.invokespecial 9) 1 1 0 [] := rfl
theorem tbX6_tell_28 {k : Instr → Nat → Nat → Nat → List Nat → Prop} : xse (xFind tbX6_tell 28) k = k (.astore 4) 4 0 0 [] := rfl
theorem tbX6_tell_30 {k : Instr → Nat → Nat → Nat → List Nat → Prop} : xse (xFind tbX6_tell 30) k = k (.aload_n 0) 0 0 0 [] := rfl
theorem tbX6_tell_31 {k : Instr → Nat → Nat → Nat → List Nat → Prop} : xse (xFind tbX6_tell 31) k = k (.getfield 16) 7 1 2 [] := rfl
theorem tbX6_tell_34 {k : Instr → Nat → Nat → Nat → List Nat → Prop} : xse (xFind tbX6_tell 34) k = k (.aload 4) 4 0 0 [] := rfl
theorem tbX6_tell_36 {k : Instr → Nat → Nat → Nat → List Nat → Prop} : xse (xFind tbX6_tell 36) k = k (.putfield 27) 4 2 2 [] := rfl
theorem tbX6_tell_39 {k : Instr → Nat → Nat → Nat → List Nat → Prop} : xse (xFind tbX6_tell 39) k = k (.aload_n 0) 0 0 0 [] := rfl
theorem tbX6_tell_40 {k : Instr → Nat → Nat → Nat → List Nat → Prop} : xse (xFind tbX6_tell 40) k = k (.aload 4) 4 0 0 [] := rfl
theorem tbX6_tell_42 {k : Instr → Nat → Nat → Nat → List Nat → Prop} : xse (xFind tbX6_tell 42) k = k (.putfield 16) 7 1 2 [] := rfl
theorem tbX6_tell_45 {k : Instr → Nat → Nat → Nat → List Nat → Prop} : xse (xFind tbX6_tell 45) k = k (.aload_n 0) 0 0 0 [] := rfl
theorem tbX6_tell_46 {k : Instr → Nat → Nat → Nat → List Nat → Prop} : xse (xFind tbX6_tell 46) k = k (.getfield 16) 7 1 2 [] := rfl
theorem tbX6_tell_49 {k : Instr → Nat → Nat → Nat → List Nat → Prop} : xse (xFind tbX6_tell 49) k = k (.iload_n 1) 1 0 0 [] := rfl
theorem tbX6_tell_50 {k : Instr → Nat → Nat → Nat → List Nat → Prop} : xse (xFind tbX6_tell 50) k = k (.bipush 16) 0 0 0 [] := rfl
theorem tbX6_tell_52 {k : Instr → Nat → Nat → Nat → List Nat → Prop} : xse (xFind tbX6_tell 52) k = k (.ishl) 0 0 0 [] := rfl
theorem tbX6_tell_53 {k : Instr → Nat → Nat → Nat → List Nat → Prop} : xse (xFind tbX6_tell 53) k = k (.iload_n 2) 2 0 0 [] := rfl
theorem tbX6_tell_54 {k : Instr → Nat → Nat → Nat → List Nat → Prop} : xse (xFind tbX6_tell 54) k = k (.bipush 8) 0 0 0 [] := rfl
theorem tbX6_tell_56 {k : Instr → Nat → Nat → Nat → List Nat → Prop} : xse (xFind tbX6_tell 56) k = k (.ishl) 0 0 0 [] := rfl
theorem tbX6_tell_57 {k : Instr → Nat → Nat → Nat → List Nat → Prop} : xse (xFind tbX6_tell 57) k = k (.ior) 0 0 0 [] := rfl
theorem tbX6_tell_58 {k : Instr → Nat → Nat → Nat → List Nat → Prop} : xse (xFind tbX6_tell 58) k = k (.iload_n 3) 3 0 0 [] := rfl
theorem tbX6_tell_59 {k : Instr → Nat → Nat → Nat → List Nat → Prop} : xse (xFind tbX6_tell 59) k = k (.ior) 0 0 0 [] := rfl
theorem tbX6_tell_60 {k : Instr → Nat → Nat → Nat → List Nat → Prop} : xse (xFind tbX6_tell 60) k = k (.invokevirtual 30) 2 2 4 [] := rfl
theorem tbX6_tell_63 {k : Instr → Nat → Nat → Nat → List Nat → Prop} : xse (xFind tbX6_tell 63) k = k (.aload_n 0) 0 0 0 [] := rfl
theorem tbX6_tell_64 {k : Instr → Nat → Nat → Nat → List Nat → Prop} : xse (xFind tbX6_tell 64) k = k (.dup) 0 0 0 [] := rfl
theorem tbX6_tell_65 {k : Instr → Nat → Nat → Nat → List Nat → Prop} : xse (xFind tbX6_tell 65) k = k (.getfield 19) 7 2 0 [] := rfl
theorem tbX6_tell_68 {k : Instr → Nat → Nat → Nat → List Nat → Prop} : xse (xFind tbX6_tell 68) k = k (.iconst 1) 0 0 0 [] := rfl
theorem tbX6_tell_69 {k : Instr → Nat → Nat → Nat → List Nat → Prop} : xse (xFind tbX6_tell 69) k = k (.iadd) 0 0 0 [] := rfl
theorem tbX6_tell_70 {k : Instr → Nat → Nat → Nat → List Nat → Prop} : xse (xFind tbX6_tell 70) k = k (.putfield 19) 7 2 0 [] := rfl
theorem tbX6_tell_73 {k : Instr → Nat → Nat → Nat → List Nat → Prop} : xse (xFind tbX6_tell 73) k = k (.return_) 0 0 0 [] := rfl

def spX6_tell (W9 : xWd) : xSp cS := (fun av S => (2, 67), fun av S K => ∃ (a : Nat) (e : Int32) (w : Int32) (p : Int32), av = [.ref a, .int e, .int w, .int p] ∧ (∃ N x u, stL S a N x u ∧ ∀ S2, tlR S a N x u (cNote e w p) S2 → K rV S2))
theorem spcX6_tell {av : List Value} {S : cS} {W9 : xWd} : (spX6_tell W9).1 av S = (2, 67) := rfl
theorem spwX6_tell {S : cS} {W9 : xWd} {K : xRes → cS → Prop} {a : Nat} {e : Int32} {w : Int32} {p : Int32} : (spX6_tell W9).2 [.ref a, .int e, .int w, .int p] S K = (∃ N x u, stL S a N x u ∧ ∀ S2, tlR S a N x u (cNote e w p) S2 → K rV S2) :=
  propext ⟨fun h => by
    simp only [spX6_tell] at h
    obtain ⟨_, _, _, _, e, h⟩ := h
    simp only [List.cons.injEq, Value.int.injEq, Value.ref.injEq, rf_eq, and_true, true_and] at e
    obtain ⟨rfl, rfl, rfl, rfl⟩ := e
    exact h, fun h => ⟨_, _, _, _, rfl, h⟩⟩

def callX6_tell (W9 : xWd) : Nat → Option (xSp cS) := fun n => match n with | 0 => some (spX3_isFull W9) | 1 => some (spX3_init W9) | 2 => some (spX3_write W9) | _ => none

theorem callX6_tell_0 {W9 : xWd} {k : xSp cS → Prop} : xcs (callX6_tell W9 0) k = k (spX3_isFull W9) := rfl

theorem callX6_tell_1 {W9 : xWd} {k : xSp cS → Prop} : xcs (callX6_tell W9 1) k = k (spX3_init W9) := rfl

theorem callX6_tell_2 {W9 : xWd} {k : xSp cS → Prop} : xcs (callX6_tell W9 2) k = k (spX3_write W9) := rfl

theorem crX6_tell (l : Launch) (hl : l.stackTraces = false) (W9 : xWd) : xCallsOK l W9 (cI) (callX6_tell W9) clX6_tell RX6 wsX6_tell 2 40 5 := by
  intro E A p e R s m args below meth c hI hF hL X
  exact List.forall_mem_cons.mpr ⟨⟨_, rfl, xCR_V X (by rw [hI]; exact (semX3_isFull l hl W9)) gX6_tell_X3_isFull rfl rfl (by decide +kernel) (by rw [hF, hL]; decide)⟩,
    List.forall_mem_cons.mpr ⟨⟨_, rfl, xCR_IN X (by rw [hI]; exact (semX3_init l hl W9)) gX6_tell_X3_init_n9 rfl (by decide +kernel) X.2.2.2.2.2.1.2.2.2.2.1.2.1 (by decide +kernel) rfl sprX3_init (by decide +kernel) (by rw [hF, hL]; decide)⟩,
    List.forall_mem_cons.mpr ⟨⟨_, rfl, xCR_V X (by rw [hI]; exact (semX3_write l hl W9)) gX6_tell_X3_write rfl rfl (by decide +kernel) (by rw [hF, hL]; decide)⟩,
    fun _ h => nomatch h⟩⟩⟩

set_option maxHeartbeats 600000 in
set_option maxRecDepth 20000 in
theorem semX6_tell (l : Launch) (hl : l.stackTraces = false) (W9 : xWd) : xSem l W9 (cI) yX6_tell wsX6_tell 2 40 (spX6_tell W9) := by
  refine xSem_of (call := callX6_tell W9) (thrf := fun _ => "") cI_law (by decide +kernel) rfl ckX6_tell usX6_tell (crX6_tell l hl W9) xThrOK_nil ?_ ?_
  · intro av S KF h
    obtain ⟨a, e, w, p, rfl, h⟩ := h
    exact ⟨by intro v hv; simp only [List.mem_cons, List.not_mem_nil, or_false] at hv; rcases hv with rfl | rfl | rfl | rfl <;> first | rfl | exact cat_rf, Nat.le_of_ble_eq_true rfl⟩
  intro av S KF h G hG
  obtain ⟨a, e, w, p, rfl, h⟩ := h
  rw [show (spX6_tell W9).1 _ S = _ from spcX6_tell] at hG
  try dsimp only at hG
  change G 0 [some (.ref a), some (.int e), some (.int w), some (.int p), none] [] S 0 0
  obtain ⟨N, x, u, ⟨h0, h1, h2, h3, h4, ⟨h5, h6⟩, h7, h8, h9⟩, hT⟩ := h

  have e0 := big_N h2
  have e1 : cRf S a 701 = x := by unfold cRf; rw [h3]; rfl
  have hA : u < 64 → KF rV (cTl1 S a N x u (cNote e w p)) := fun z => hT _ (Or.inl ⟨z, rfl⟩)
  have hB : u = 64 → ∀ q, cDead S q → ∀ q2, cDead (cNewO S q 4) q2 → KF rV (cTl2 S a N x q q2 (cNote e w p)) := fun z q hq q2 hq2 => hT _ (Or.inr ⟨z, q, q2, hq, hq2, rfl⟩)
  unfold cNote at hA hB
  have c45 : ∀ (S1 : cS) (x1 d u1 cs ss : Nat), cs ≤ 2 → ss ≤ 67 → cK S1 a = 8 → cFi S1 a 702 = nI N → cFr S1 a 701 = some x1 → cK S1 x1 = 5 → cFr S1 x1 400 = some d → cK S1 d = 11 → cLen S1 d = 64 → cFi S1 x1 401 = nI u1 → u1 < 64 → x1 ≠ a → KF rV (cSetI (cSetI (cAst S1 d u1 (e <<< (16 &&& 31) ||| w <<< (8 &&& 31) ||| p)) x1 401 (nI (u1 + 1))) a 702 (nI (N + 1))) → G 45 [some (.ref a), some (.int e), some (.int w), some (.int p), none] [] S1 cs ss := by
    intro S1 x1 d u1 cs ss i1 i2 i3 i4 i5 i6 i7 i8 i9 i10 i11 i12 hk
    have f1 : cRf S1 x1 400 = d := by unfold cRf; rw [i7]; rfl
    have f2 : cIn S1 x1 400 11 := ⟨by rw [f1]; exact i7, by rw [f1]; exact i8⟩
    have f3 : (a = x1) = False := eq_false (fun z => i12 z.symm)
    have f4 : cLen S1 (cRf S1 x1 400) = 64 := by rw [f1]; exact i9
    refine xgo0 hG (fun fu hfu => ?_)
    simp only [↓callX6_tell_0, ↓callX6_tell_1, ↓callX6_tell_2, ↓cg_7_1, ↓cg_7_2, cisa, ↓cnew, ↓cp_7_2, ↓cpf_4_2, ↓cpf_7_1, ↓cpn_4_2, ↓cpn_7_1, ↓cpr_4_2, ↓cpr_7_1, kb_16, kb_8, kc_16, kc_8, ki_1, ks_8192, kt_8192, ↓vm_aload, ↓vm_aload_n, ↓vm_astore, ↓vm_bipush, ↓vm_dup, ↓vm_getfield, ↓vm_iadd, ↓vm_iconst, ↓vm_ifCond_eq, ↓vm_if_icmp_lt, ↓vm_iload_n, ↓vm_invokespecial, ↓vm_invokevirtual, ↓vm_ior, ↓vm_ishl, ↓vm_newO, ↓vm_putfield, ↓vm_return_, ↓vm_sipush, ↓xc_1, ↓xc_2, ↓tbX6_tell_0, ↓tbX6_tell_1, ↓tbX6_tell_4, ↓tbX6_tell_7, ↓tbX6_tell_10, ↓tbX6_tell_11, ↓tbX6_tell_12, ↓tbX6_tell_15, ↓tbX6_tell_18, ↓tbX6_tell_21, ↓tbX6_tell_24, ↓tbX6_tell_25, ↓tbX6_tell_28, ↓tbX6_tell_30, ↓tbX6_tell_31, ↓tbX6_tell_34, ↓tbX6_tell_36, ↓tbX6_tell_39, ↓tbX6_tell_40, ↓tbX6_tell_42, ↓tbX6_tell_45, ↓tbX6_tell_46, ↓tbX6_tell_49, ↓tbX6_tell_50, ↓tbX6_tell_52, ↓tbX6_tell_53, ↓tbX6_tell_54, ↓tbX6_tell_56, ↓tbX6_tell_57, ↓tbX6_tell_58, ↓tbX6_tell_59, ↓tbX6_tell_60, ↓tbX6_tell_63, ↓tbX6_tell_64, ↓tbX6_tell_65, ↓tbX6_tell_68, ↓tbX6_tell_69, ↓tbX6_tell_70, ↓tbX6_tell_73, hfu, xstep0, xJ1_hit, xJ1_go, xJ2_hit1, xJ2_hit2, xJ2_go, ↓xif_t, ↓xif_f, seval, ↓xca_eq, ↓xre_l, ↓xre_r, xmask_t, xmask_f, xmask_nil, ↓xst_eq, xX_eq, eI_eq, eMc_eq, eMs_eq, eF_eq, eThr_eq, ↓xS1_mk, ↓xSI_mk, ↓xSR_mk, ↓xLI_0, ↓xLI_s, ↓xLR_0, ↓xLR_s, vRef_ref, vRef_null, vRef_rf, cat_int, cat_ref, cat_null, cat_rf, rf_some, rf_none, rf_null, rf_eq, rf_ref, ref_rf, ref_null, ref_ref, xOk_0, xOk_1, xOk_2r, xOk_2n, xOk_2f, vOpt_rf, vOpt_ref, vOpt_null, List.set_cons_zero, List.set_cons_succ, List.take_succ_cons, List.take_zero, List.drop_succ_cons, List.drop_zero, List.reverse_cons, List.reverse_nil, List.nil_append, List.cons_append, List.append_nil, List.length_cons, List.length_nil, List.map_cons, List.map_nil, List.sum_cons, List.sum_nil, Option.toList_some, Option.toList_none, xRecv_mk, true_and, and_true, true_implies, Nat.reduceAdd, Nat.reduceLeDiff, Nat.zero_le, Nat.le_refl, Nat.add_zero, Nat.zero_add, reduceIte, not_true_eq_false, not_false_eq_true, false_implies, and_self, implies_true, eq_self, Nat.reduceEqDiff, List.cons.injEq, xsn_1, xsn_2, false_and, and_false, or_false, false_or, or_true, true_or, xsn_3, xsn_4, cK_ast, cFr_ast, cLen_ast, cFi_ast, ↓spwX3_isFull, spcX3_isFull, ↓spwX3_init, spcX3_init, ↓spwX3_write, spcX3_write, i3, i5, i6, f2]
    try simp only [xif_e]
    refine ⟨by omega, by omega, u1, i10, by rw [f4]; exact i11, f4, ?_⟩
    simp only [cK_setI, cK_ast, i3, cFi_setI, cFi_ast, f3, i4, nI1, f1, false_and, if_false, true_and]
    first | exact ⟨i1, i2, hk⟩ | exact hk | grind
  have hxa : x ≠ a := fun z => by rw [z] at h4; omega
  by_cases c : u < 64
  · have e2 : (64 : Int32) ≤ nI u ↔ False := by
      have := ge_nI c (show 64 < 1000 by omega)
      rw [show (64 : Int32) = nI 64 from rfl, this]
    have e2 := propext e2
    have e3 : bi ((64 : Int32) ≤ nI u) = 0 := bi_f (fun z => e2.mp z)
    refine xgo hG (head := 45) (mb := [true, true, true, true, false]) (P := fun lv st S1 cs ss => lv = [some (.ref a), some (.int e), some (.int w), some (.int p), none] ∧ st = [] ∧ S = S1 ∧ cs = 0 ∧ ss = 0) (fun lv st S1 cs ss hP => ?_) (fun fu hfu => ?_)
    · obtain ⟨rfl, rfl, rfl, rfl, rfl⟩ := hP
      exact c45 S x (cRf S x 400) u 0 0 (by omega) (by omega) h0 h1 h3 h4 h5 h6 h7 h8 c hxa (hA c)
    · have h56 : cIn S x 400 11 := ⟨h5, h6⟩
      simp only [↓callX6_tell_0, ↓callX6_tell_1, ↓callX6_tell_2, ↓cg_7_1, ↓cg_7_2, cisa, ↓cnew, ↓cp_7_2, ↓cpf_4_2, ↓cpf_7_1, ↓cpn_4_2, ↓cpn_7_1, ↓cpr_4_2, ↓cpr_7_1, kb_16, kb_8, kc_16, kc_8, ki_1, ks_8192, kt_8192, ↓vm_aload, ↓vm_aload_n, ↓vm_astore, ↓vm_bipush, ↓vm_dup, ↓vm_getfield, ↓vm_iadd, ↓vm_iconst, ↓vm_ifCond_eq, ↓vm_if_icmp_lt, ↓vm_iload_n, ↓vm_invokespecial, ↓vm_invokevirtual, ↓vm_ior, ↓vm_ishl, ↓vm_newO, ↓vm_putfield, ↓vm_return_, ↓vm_sipush, ↓xc_1, ↓xc_2, ↓tbX6_tell_0, ↓tbX6_tell_1, ↓tbX6_tell_4, ↓tbX6_tell_7, ↓tbX6_tell_10, ↓tbX6_tell_11, ↓tbX6_tell_12, ↓tbX6_tell_15, ↓tbX6_tell_18, ↓tbX6_tell_21, ↓tbX6_tell_24, ↓tbX6_tell_25, ↓tbX6_tell_28, ↓tbX6_tell_30, ↓tbX6_tell_31, ↓tbX6_tell_34, ↓tbX6_tell_36, ↓tbX6_tell_39, ↓tbX6_tell_40, ↓tbX6_tell_42, ↓tbX6_tell_45, ↓tbX6_tell_46, ↓tbX6_tell_49, ↓tbX6_tell_50, ↓tbX6_tell_52, ↓tbX6_tell_53, ↓tbX6_tell_54, ↓tbX6_tell_56, ↓tbX6_tell_57, ↓tbX6_tell_58, ↓tbX6_tell_59, ↓tbX6_tell_60, ↓tbX6_tell_63, ↓tbX6_tell_64, ↓tbX6_tell_65, ↓tbX6_tell_68, ↓tbX6_tell_69, ↓tbX6_tell_70, ↓tbX6_tell_73, hfu, xstep0, xJ1_hit, xJ1_go, xJ2_hit1, xJ2_hit2, xJ2_go, ↓xif_t, ↓xif_f, seval, ↓xca_eq, ↓xre_l, ↓xre_r, xmask_t, xmask_f, xmask_nil, ↓xst_eq, xX_eq, eI_eq, eMc_eq, eMs_eq, eF_eq, eThr_eq, ↓xS1_mk, ↓xSI_mk, ↓xSR_mk, ↓xLI_0, ↓xLI_s, ↓xLR_0, ↓xLR_s, vRef_ref, vRef_null, vRef_rf, cat_int, cat_ref, cat_null, cat_rf, rf_some, rf_none, rf_null, rf_eq, rf_ref, ref_rf, ref_null, ref_ref, xOk_0, xOk_1, xOk_2r, xOk_2n, xOk_2f, vOpt_rf, vOpt_ref, vOpt_null, List.set_cons_zero, List.set_cons_succ, List.take_succ_cons, List.take_zero, List.drop_succ_cons, List.drop_zero, List.reverse_cons, List.reverse_nil, List.nil_append, List.cons_append, List.append_nil, List.length_cons, List.length_nil, List.map_cons, List.map_nil, List.sum_cons, List.sum_nil, Option.toList_some, Option.toList_none, xRecv_mk, true_and, and_true, true_implies, Nat.reduceAdd, Nat.reduceLeDiff, Nat.zero_le, Nat.le_refl, Nat.add_zero, Nat.zero_add, reduceIte, not_true_eq_false, not_false_eq_true, false_implies, and_self, implies_true, eq_self, Nat.reduceEqDiff, List.cons.injEq, xsn_1, xsn_2, false_and, and_false, or_false, false_or, or_true, true_or, xsn_3, xsn_4, cK_ast, cFr_ast, cLen_ast, cFi_ast, ↓spwX3_isFull, spcX3_isFull, ↓spwX3_init, spcX3_init, ↓spwX3_write, spcX3_write, h0, h1, e0, h3, h4, h56, h7, h8, e3]
      try simp only [xif_e]
  · have hu : u = 64 := by omega
    have hr := hB hu
    subst hu
    have e3 : bi ((64 : Int32) ≤ nI 64) = 1 := bi_t (Int32.le_refl _)
    have c24 : ∀ q, cDead S q → ∀ q2, cDead (cNewO S q 4) q2 → G 45 [some (.ref a), some (.int e), some (.int w), some (.int p), none] [] (cSetR (cSetR (cPg S q q2) x 402 (some q)) a 701 (some q)) 2 67 := by
      intro q hq q2 hq2
      obtain ⟨m1, m2⟩ := (dead_nO (by omega)).mp hq2
      have n1 := ne_dead h0 (by omega) hq
      have n2 := ne_dead h0 (by omega) m2
      have n3 := ne_dead h4 (by omega) hq
      have n4 := ne_dead h4 (by omega) m2
      have n5 := ne_dead' h0 (by omega) hq
      have n6 : (q = q2) = False := eq_false (fun z => m1 z.symm)
      have n7 : (q2 = q) = False := eq_false m1
      have n8 := ne_dead' h4 (by omega) hq
      have n9 : (x = a) = False := eq_false hxa
      refine c45 _ q q2 0 2 67 (by omega) (by omega) ?_ ?_ ?_ ?_ ?_ ?_ ?_ ?_ (by omega) (fun z => n5.mp z) (hr q hq q2 hq2)
      all_goals unfold cPg
      all_goals simp only [cK_setR, cFi_setR, cFr_setR, cLen_setR, cK_newI, cFi_newI, cFr_newI, cLen_newI, cK_newO, cFi_newO, cFr_newO, h0, h1, n1, n2, n3, n4, n5, n6, n7, n8, n9, Nat.reduceEqDiff, and_true, true_and, false_and, and_false, and_self, if_true, if_false]
      all_goals first | rfl | exact h0 | exact h1
    have c24b : ∀ q, cDead S q → G 24 [some (.ref a), some (.int e), some (.int w), some (.int p), none] [.ref q] (cNewO S q 4) 1 3 := by
      intro q hq
      have n1 := ne_dead h0 (by omega) hq
      have n3 := ne_dead h4 (by omega) hq
      refine xgo hG (head := 45) (mb := [true, true, true, true, false]) (P := fun lv st S1 cs ss => ∃ q2, cDead (cNewO S q 4) q2 ∧ lv = [some (.ref a), some (.int e), some (.int w), some (.int p), none] ∧ st = [] ∧ S1 = cSetR (cSetR (cPg S q q2) x 402 (some q)) a 701 (some q) ∧ cs = 2 ∧ ss = 67) (fun lv st S1 cs ss hP => ?_) (fun fu hfu => ?_)
      · obtain ⟨q2, hq2, rfl, rfl, rfl, rfl, rfl⟩ := hP
        exact c24 q hq q2 hq2
      · simp only [↓callX6_tell_0, ↓callX6_tell_1, ↓callX6_tell_2, ↓cg_7_1, ↓cg_7_2, cisa, ↓cnew, ↓cp_7_2, ↓cpf_4_2, ↓cpf_7_1, ↓cpn_4_2, ↓cpn_7_1, ↓cpr_4_2, ↓cpr_7_1, kb_16, kb_8, kc_16, kc_8, ki_1, ks_8192, kt_8192, ↓vm_aload, ↓vm_aload_n, ↓vm_astore, ↓vm_bipush, ↓vm_dup, ↓vm_getfield, ↓vm_iadd, ↓vm_iconst, ↓vm_ifCond_eq, ↓vm_if_icmp_lt, ↓vm_iload_n, ↓vm_invokespecial, ↓vm_invokevirtual, ↓vm_ior, ↓vm_ishl, ↓vm_newO, ↓vm_putfield, ↓vm_return_, ↓vm_sipush, ↓xc_1, ↓xc_2, ↓tbX6_tell_0, ↓tbX6_tell_1, ↓tbX6_tell_4, ↓tbX6_tell_7, ↓tbX6_tell_10, ↓tbX6_tell_11, ↓tbX6_tell_12, ↓tbX6_tell_15, ↓tbX6_tell_18, ↓tbX6_tell_21, ↓tbX6_tell_24, ↓tbX6_tell_25, ↓tbX6_tell_28, ↓tbX6_tell_30, ↓tbX6_tell_31, ↓tbX6_tell_34, ↓tbX6_tell_36, ↓tbX6_tell_39, ↓tbX6_tell_40, ↓tbX6_tell_42, ↓tbX6_tell_45, ↓tbX6_tell_46, ↓tbX6_tell_49, ↓tbX6_tell_50, ↓tbX6_tell_52, ↓tbX6_tell_53, ↓tbX6_tell_54, ↓tbX6_tell_56, ↓tbX6_tell_57, ↓tbX6_tell_58, ↓tbX6_tell_59, ↓tbX6_tell_60, ↓tbX6_tell_63, ↓tbX6_tell_64, ↓tbX6_tell_65, ↓tbX6_tell_68, ↓tbX6_tell_69, ↓tbX6_tell_70, ↓tbX6_tell_73, hfu, xstep0, xJ1_hit, xJ1_go, xJ2_hit1, xJ2_hit2, xJ2_go, ↓xif_t, ↓xif_f, seval, ↓xca_eq, ↓xre_l, ↓xre_r, xmask_t, xmask_f, xmask_nil, ↓xst_eq, xX_eq, eI_eq, eMc_eq, eMs_eq, eF_eq, eThr_eq, ↓xS1_mk, ↓xSI_mk, ↓xSR_mk, ↓xLI_0, ↓xLI_s, ↓xLR_0, ↓xLR_s, vRef_ref, vRef_null, vRef_rf, cat_int, cat_ref, cat_null, cat_rf, rf_some, rf_none, rf_null, rf_eq, rf_ref, ref_rf, ref_null, ref_ref, xOk_0, xOk_1, xOk_2r, xOk_2n, xOk_2f, vOpt_rf, vOpt_ref, vOpt_null, List.set_cons_zero, List.set_cons_succ, List.take_succ_cons, List.take_zero, List.drop_succ_cons, List.drop_zero, List.reverse_cons, List.reverse_nil, List.nil_append, List.cons_append, List.append_nil, List.length_cons, List.length_nil, List.map_cons, List.map_nil, List.sum_cons, List.sum_nil, Option.toList_some, Option.toList_none, xRecv_mk, true_and, and_true, true_implies, Nat.reduceAdd, Nat.reduceLeDiff, Nat.zero_le, Nat.le_refl, Nat.add_zero, Nat.zero_add, reduceIte, not_true_eq_false, not_false_eq_true, false_implies, and_self, implies_true, eq_self, Nat.reduceEqDiff, List.cons.injEq, xsn_1, xsn_2, false_and, and_false, or_false, false_or, or_true, true_or, xsn_3, xsn_4, cK_ast, cFr_ast, cLen_ast, cFi_ast, ↓spwX3_isFull, spcX3_isFull, ↓spwX3_init, spcX3_init, ↓spwX3_write, spcX3_write, cK_newO, cFr_newO, cK_newI, cFr_newI, cK_setR, cFr_setR, h0, h3, h4, n1, n3]
        try simp only [xif_e]
        intro q2 hq2
        obtain ⟨m1, m2⟩ := (dead_nO (by omega)).mp hq2
        have n2 := ne_dead h0 (by omega) m2
        have n4 := ne_dead h4 (by omega) m2
        simp only [n2, n4, if_false, true_and, false_and, h0, h4]
        first | exact ⟨q2, hq2, rfl⟩ | exact ⟨q2, hq2, rfl, rfl⟩ | exact ⟨q2, hq2, rfl, rfl, rfl⟩ | exact ⟨q2, hq2, rfl, rfl, rfl, rfl, rfl⟩ | grind
    refine xgo hG (head := 24) (mb := [true, true, true, true, false]) (P := fun lv st S1 cs ss => ∃ q, cDead S q ∧ lv = [some (.ref a), some (.int e), some (.int w), some (.int p), none] ∧ st = [.ref q] ∧ S1 = cNewO S q 4 ∧ cs = 1 ∧ ss = 3) (fun lv st S1 cs ss hP => ?_) (fun fu hfu => ?_)
    · obtain ⟨q, hq, rfl, rfl, rfl, rfl, rfl⟩ := hP
      exact c24b q hq
    · have h56 : cIn S x 400 11 := ⟨h5, h6⟩
      simp only [↓callX6_tell_0, ↓callX6_tell_1, ↓callX6_tell_2, ↓cg_7_1, ↓cg_7_2, cisa, ↓cnew, ↓cp_7_2, ↓cpf_4_2, ↓cpf_7_1, ↓cpn_4_2, ↓cpn_7_1, ↓cpr_4_2, ↓cpr_7_1, kb_16, kb_8, kc_16, kc_8, ki_1, ks_8192, kt_8192, ↓vm_aload, ↓vm_aload_n, ↓vm_astore, ↓vm_bipush, ↓vm_dup, ↓vm_getfield, ↓vm_iadd, ↓vm_iconst, ↓vm_ifCond_eq, ↓vm_if_icmp_lt, ↓vm_iload_n, ↓vm_invokespecial, ↓vm_invokevirtual, ↓vm_ior, ↓vm_ishl, ↓vm_newO, ↓vm_putfield, ↓vm_return_, ↓vm_sipush, ↓xc_1, ↓xc_2, ↓tbX6_tell_0, ↓tbX6_tell_1, ↓tbX6_tell_4, ↓tbX6_tell_7, ↓tbX6_tell_10, ↓tbX6_tell_11, ↓tbX6_tell_12, ↓tbX6_tell_15, ↓tbX6_tell_18, ↓tbX6_tell_21, ↓tbX6_tell_24, ↓tbX6_tell_25, ↓tbX6_tell_28, ↓tbX6_tell_30, ↓tbX6_tell_31, ↓tbX6_tell_34, ↓tbX6_tell_36, ↓tbX6_tell_39, ↓tbX6_tell_40, ↓tbX6_tell_42, ↓tbX6_tell_45, ↓tbX6_tell_46, ↓tbX6_tell_49, ↓tbX6_tell_50, ↓tbX6_tell_52, ↓tbX6_tell_53, ↓tbX6_tell_54, ↓tbX6_tell_56, ↓tbX6_tell_57, ↓tbX6_tell_58, ↓tbX6_tell_59, ↓tbX6_tell_60, ↓tbX6_tell_63, ↓tbX6_tell_64, ↓tbX6_tell_65, ↓tbX6_tell_68, ↓tbX6_tell_69, ↓tbX6_tell_70, ↓tbX6_tell_73, hfu, xstep0, xJ1_hit, xJ1_go, xJ2_hit1, xJ2_hit2, xJ2_go, ↓xif_t, ↓xif_f, seval, ↓xca_eq, ↓xre_l, ↓xre_r, xmask_t, xmask_f, xmask_nil, ↓xst_eq, xX_eq, eI_eq, eMc_eq, eMs_eq, eF_eq, eThr_eq, ↓xS1_mk, ↓xSI_mk, ↓xSR_mk, ↓xLI_0, ↓xLI_s, ↓xLR_0, ↓xLR_s, vRef_ref, vRef_null, vRef_rf, cat_int, cat_ref, cat_null, cat_rf, rf_some, rf_none, rf_null, rf_eq, rf_ref, ref_rf, ref_null, ref_ref, xOk_0, xOk_1, xOk_2r, xOk_2n, xOk_2f, vOpt_rf, vOpt_ref, vOpt_null, List.set_cons_zero, List.set_cons_succ, List.take_succ_cons, List.take_zero, List.drop_succ_cons, List.drop_zero, List.reverse_cons, List.reverse_nil, List.nil_append, List.cons_append, List.append_nil, List.length_cons, List.length_nil, List.map_cons, List.map_nil, List.sum_cons, List.sum_nil, Option.toList_some, Option.toList_none, xRecv_mk, true_and, and_true, true_implies, Nat.reduceAdd, Nat.reduceLeDiff, Nat.zero_le, Nat.le_refl, Nat.add_zero, Nat.zero_add, reduceIte, not_true_eq_false, not_false_eq_true, false_implies, and_self, implies_true, eq_self, Nat.reduceEqDiff, List.cons.injEq, xsn_1, xsn_2, false_and, and_false, or_false, false_or, or_true, true_or, xsn_3, xsn_4, cK_ast, cFr_ast, cLen_ast, cFi_ast, ↓spwX3_isFull, spcX3_isFull, ↓spwX3_init, spcX3_init, ↓spwX3_write, spcX3_write, h0, h1, e0, h3, h4, h56, h7, h8, e3]
      try simp only [xif_e]
      intro q hq
      first | exact ⟨q, hq, rfl⟩ | exact ⟨q, hq, rfl, rfl⟩ | exact ⟨q, hq, rfl, rfl, rfl⟩ | exact ⟨q, hq, rfl, rfl, rfl, rfl, rfl⟩
