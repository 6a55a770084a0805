/-! The twin's methods: places, cargo, tows. -/
/-- the barge b lies at the place p of its row -/
def mPl (M : mS) (b : Int32) (p : Nat) : Prop := vp_in b 24 ∧
  ((M.2 28 b.toNatClampNeg = -1 ∧ p < 5 ∧ ∃ t, M.2 27 b.toNatClampNeg = nI t ∧ t < 16 ∧ (∀ q, q < p → M.2 19 (5 * t + q) ≠ b) ∧ M.2 19 (5 * t + p) = b) ∨
   (M.2 28 b.toNatClampNeg ≠ -1 ∧ p < 12 ∧ ∃ w, M.2 28 b.toNatClampNeg = nI w ∧ w < 6 ∧ (∀ q, q < p → M.2 41 (12 * w + q) ≠ b) ∧ M.2 41 (12 * w + p) = b))
def mOut (M : mS) (b : Int32) (p : Nat) : Int32 := if M.2 28 b.toNatClampNeg = -1 then M.2 18 (M.2 27 b.toNatClampNeg).toNatClampNeg - 1 - nI p else 0
def mInB (M : mS) (c : Int32) : Nat → Int32
  | 0 => 0
  | n + 1 => mInB M c n + (if M.2 25 n = c then M.2 24 n else 0)
def srch (f : Nat → Int32) (b : Int32) : Nat → Nat → Nat
  | 0, k => k
  | n + 1, k => if f k = b then k else srch f b n (k + 1)
theorem srch_at (f : Nat → Int32) (b : Int32) : ∀ (n k p : Nat), k ≤ p → p < k + n → (∀ q, k ≤ q → q < p → f q ≠ b) → f p = b → srch f b n k = p
  | 0, k, p, h1, h2, _, _ => by omega
  | n + 1, k, p, h1, h2, h3, h4 => by
    unfold srch
    by_cases e : k = p
    · subst e
      rw [if_pos h4]
    · rw [if_neg (h3 k (Nat.le_refl k) (by omega))]
      exact srch_at f b n (k + 1) p (by omega) (by omega) (fun q a c => h3 q (by omega) c) h4
/-- the place of a barge in its row -/
def mPlc (M : mS) (b : Int32) : Nat :=
  if M.2 28 b.toNatClampNeg = -1 then srch (fun q => M.2 19 (5 * (M.2 27 b.toNatClampNeg).toNatClampNeg + q)) b 5 0
  else srch (fun q => M.2 41 (12 * (M.2 28 b.toNatClampNeg).toNatClampNeg + q)) b 12 0
theorem mPlc_of {M : mS} {b : Int32} {p : Nat} (h : mPl M b p) : mPlc M b = p := by
  obtain ⟨hb, hc⟩ := h
  unfold mPlc
  rcases hc with ⟨h1, hp5, t, ht, ht16, hq, hpe⟩ | ⟨h1, hp12, w, hw, hw6, hq, hpe⟩
  · rw [if_pos h1, ht, nI_clamp (by omega)]
    exact srch_at _ b 5 0 p (by omega) (by omega) (fun q _ c => hq q c) hpe
  · rw [if_neg h1, hw, nI_clamp (by omega)]
    exact srch_at _ b 12 0 p (by omega) (by omega) (fun q _ c => hq q c) hpe
theorem mul_nI (a b : Nat) : nI a * nI b = nI (a * b) := pk_mul a b
theorem lit_nI (n : Nat) : (OfNat.ofNat n : Int32) = nI n := rfl
theorem add_nI (a b : Nat) : nI a + nI b = nI (a + b) := nI_add a b
theorem m5_nI (t : Nat) : (5 : Int32) * nI t = nI (5 * t) := pk_mul 5 t
theorem m12_nI (t : Nat) : (12 : Int32) * nI t = nI (12 * t) := pk_mul 12 t

def tbX8_placeOf : List (Nat × xHint) := [(0, .iconst 0, 0, 0, 0, []), (1, .istore_n 2, 2, 0, 0, []), (2, .aload_n 0, 0, 0, 0, []), (3, .iload_n 1, 1, 0, 0, []), (4, .invokevirtual 210, 0, 2, 9, []), (7, .ifCond .eq 14, 21, 0, 0, []), (10, .iconst 5, 0, 0, 0, []), (11, .aload_n 0, 0, 0, 0, []), (12, .getfield 74, 9, 27, 2, []), (15, .iload_n 1, 1, 0, 0, []), (16, .iaload, 27, 0, 0, []), (17, .imul, 0, 0, 0, []), (18, .goto 12, 30, 0, 0, []), (21, .bipush 12, 0, 0, 0, []), (23, .aload_n 0, 0, 0, 0, []), (24, .getfield 77, 9, 28, 2, []), (27, .iload_n 1, 1, 0, 0, []), (28, .iaload, 28, 0, 0, []), (29, .imul, 0, 0, 0, []), (30, .istore_n 3, 3, 0, 0, []), (31, .aload_n 0, 0, 0, 0, []), (32, .iload_n 1, 1, 0, 0, []), (33, .invokevirtual 210, 0, 2, 9, []), (36, .ifCond .eq 14, 50, 0, 0, []), (39, .aload_n 0, 0, 0, 0, []), (40, .getfield 53, 9, 19, 2, []), (43, .iload_n 3, 3, 0, 0, []), (44, .iload_n 2, 2, 0, 0, []), (45, .iadd, 0, 0, 0, []), (46, .iaload, 19, 0, 0, []), (47, .goto 11, 58, 0, 0, []), (50, .aload_n 0, 0, 0, 0, []), (51, .getfield 113, 9, 41, 2, []), (54, .iload_n 3, 3, 0, 0, []), (55, .iload_n 2, 2, 0, 0, []), (56, .iadd, 0, 0, 0, []), (57, .iaload, 41, 0, 0, []), (58, .iload_n 1, 1, 0, 0, []), (59, .if_icmp .eq 9, 68, 0, 0, []), (62, .iinc 2 1, 2, 0, 0, []), (65, .goto (-34), 31, 0, 0, []), (68, .iload_n 2, 2, 0, 0, []), (69, .ireturn, 0, 0, 0, [])]
def clX8_placeOf : List (Instr × Nat × Nat × Nat) := [(.invokevirtual 210, 0, 2, 9)]
def thX8_placeOf : List (Nat × Nat) := []
theorem ckX8_placeOf : tbX8_placeOf.all (xRow RX8 cX8_placeOf wsX8_placeOf vwCl [9] clX8_placeOf thX8_placeOf 4 (yX8_placeOf.name == "<init>") (some .int)) = true := xRow_q 0xac1cdeffa701028409009f1b2e601c1d7100b42a0b00a72e601c1d3500b42a0e0099d200b61b2a3e682e1b4d00b42a0c100c00a7682e1b4a00b42a080e0099d200b61b2a3d03 70 (by decide +kernel) (by decide +kernel)
theorem usX8_placeOf : xUse wsX8_placeOf vwCl [9] = true := xUse_g rfl (lw_good lwl_X8_placeOf lwl_X80 (by decide +kernel)) xUse_n
theorem tbX8_placeOf_0 {k : Instr → Nat → Nat → Nat → List Nat → Prop} : xse (xFind tbX8_placeOf 0) k = k (.iconst 0) 0 0 0 [] := rfl
theorem tbX8_placeOf_1 {k : Instr → Nat → Nat → Nat → List Nat → Prop} : xse (xFind tbX8_placeOf 1) k = k (.istore_n 2) 2 0 0 [] := rfl
theorem tbX8_placeOf_2 {k : Instr → Nat → Nat → Nat → List Nat → Prop} : xse (xFind tbX8_placeOf 2) k = k (.aload_n 0) 0 0 0 [] := rfl
theorem tbX8_placeOf_3 {k : Instr → Nat → Nat → Nat → List Nat → Prop} : xse (xFind tbX8_placeOf 3) k = k (.iload_n 1) 1 0 0 [] := rfl
theorem tbX8_placeOf_4 {k : Instr → Nat → Nat → Nat → List Nat → Prop} : xse (xFind tbX8_placeOf 4) k = k (.invokevirtual 210) 0 2 9 [] := rfl
theorem tbX8_placeOf_7 {k : Instr → Nat → Nat → Nat → List Nat → Prop} : xse (xFind tbX8_placeOf 7) k = k (.ifCond .eq 14) 21 0 0 [] := rfl
theorem tbX8_placeOf_10 {k : Instr → Nat → Nat → Nat → List Nat → Prop} : xse (xFind tbX8_placeOf 10) k = k (.iconst 5) 0 0 0 [] := rfl
theorem tbX8_placeOf_11 {k : Instr → Nat → Nat → Nat → List Nat → Prop} : xse (xFind tbX8_placeOf 11) k = k (.aload_n 0) 0 0 0 [] := rfl
theorem tbX8_placeOf_12 {k : Instr → Nat → Nat → Nat → List Nat → Prop} : xse (xFind tbX8_placeOf 12) k = k (.getfield 74) 9 27 2 [] := rfl
theorem tbX8_placeOf_15 {k : Instr → Nat → Nat → Nat → List Nat → Prop} : xse (xFind tbX8_placeOf 15) k = k (.iload_n 1) 1 0 0 [] := rfl
theorem tbX8_placeOf_16 {k : Instr → Nat → Nat → Nat → List Nat → Prop} : xse (xFind tbX8_placeOf 16) k = k (.iaload) 27 0 0 [] := rfl
theorem tbX8_placeOf_17 {k : Instr → Nat → Nat → Nat → List Nat → Prop} : xse (xFind tbX8_placeOf 17) k = k (.imul) 0 0 0 [] := rfl
theorem tbX8_placeOf_18 {k : Instr → Nat → Nat → Nat → List Nat → Prop} : xse (xFind tbX8_placeOf 18) k = k (.goto 12) 30 0 0 [] := rfl
theorem tbX8_placeOf_21 {k : Instr → Nat → Nat → Nat → List Nat → Prop} : xse (xFind tbX8_placeOf 21) k = k (.bipush 12) 0 0 0 [] := rfl
theorem tbX8_placeOf_23 {k : Instr → Nat → Nat → Nat → List Nat → Prop} : xse (xFind tbX8_placeOf 23) k = k (.aload_n 0) 0 0 0 [] := rfl
theorem tbX8_placeOf_24 {k : Instr → Nat → Nat → Nat → List Nat → Prop} : xse (xFind tbX8_placeOf 24) k = k (.getfield 77) 9 28 2 [] := rfl
theorem tbX8_placeOf_27 {k : Instr → Nat → Nat → Nat → List Nat → Prop} : xse (xFind tbX8_placeOf 27) k = k (.iload_n 1) 1 0 0 [] := rfl
theorem tbX8_placeOf_28 {k : Instr → Nat → Nat → Nat → List Nat → Prop} : xse (xFind tbX8_placeOf 28) k = k (.iaload) 28 0 0 [] := rfl
theorem tbX8_placeOf_29 {k : Instr → Nat → Nat → Nat → List Nat → Prop} : xse (xFind tbX8_placeOf 29) k = k (.imul) 0 0 0 [] := rfl
theorem tbX8_placeOf_30 {k : Instr → Nat → Nat → Nat → List Nat → Prop} : xse (xFind tbX8_placeOf 30) k = k (.istore_n 3) 3 0 0 [] := rfl
theorem tbX8_placeOf_31 {k : Instr → Nat → Nat → Nat → List Nat → Prop} : xse (xFind tbX8_placeOf 31) k = k (.aload_n 0) 0 0 0 [] := rfl
theorem tbX8_placeOf_32 {k : Instr → Nat → Nat → Nat → List Nat → Prop} : xse (xFind tbX8_placeOf 32) k = k (.iload_n 1) 1 0 0 [] := rfl
theorem tbX8_placeOf_33 {k : Instr → Nat → Nat → Nat → List Nat → Prop} : xse (xFind tbX8_placeOf 33) k = k (.invokevirtual 210) 0 2 9 [] := rfl
theorem tbX8_placeOf_36 {k : Instr → Nat → Nat → Nat → List Nat → Prop} : xse (xFind tbX8_placeOf 36) k = k (.ifCond .eq 14) 50 0 0 [] := rfl
theorem tbX8_placeOf_39 {k : Instr → Nat → Nat → Nat → List Nat → Prop} : xse (xFind tbX8_placeOf 39) k = k (.aload_n 0) 0 0 0 [] := rfl
theorem tbX8_placeOf_40 {k : Instr → Nat → Nat → Nat → List Nat → Prop} : xse (xFind tbX8_placeOf 40) k = k (.getfield 53) 9 19 2 [] := rfl
theorem tbX8_placeOf_43 {k : Instr → Nat → Nat → Nat → List Nat → Prop} : xse (xFind tbX8_placeOf 43) k = k (.iload_n 3) 3 0 0 [] := rfl
theorem tbX8_placeOf_44 {k : Instr → Nat → Nat → Nat → List Nat → Prop} : xse (xFind tbX8_placeOf 44) k = k (.iload_n 2) 2 0 0 [] := rfl
theorem tbX8_placeOf_45 {k : Instr → Nat → Nat → Nat → List Nat → Prop} : xse (xFind tbX8_placeOf 45) k = k (.iadd) 0 0 0 [] := rfl
theorem tbX8_placeOf_46 {k : Instr → Nat → Nat → Nat → List Nat → Prop} : xse (xFind tbX8_placeOf 46) k = k (.iaload) 19 0 0 [] := rfl
theorem tbX8_placeOf_47 {k : Instr → Nat → Nat → Nat → List Nat → Prop} : xse (xFind tbX8_placeOf 47) k = k (.goto 11) 58 0 0 [] := rfl
theorem tbX8_placeOf_50 {k : Instr → Nat → Nat → Nat → List Nat → Prop} : xse (xFind tbX8_placeOf 50) k = k (.aload_n 0) 0 0 0 [] := rfl
theorem tbX8_placeOf_51 {k : Instr → Nat → Nat → Nat → List Nat → Prop} : xse (xFind tbX8_placeOf 51) k = k (.getfield 113) 9 41 2 [] := rfl
theorem tbX8_placeOf_54 {k : Instr → Nat → Nat → Nat → List Nat → Prop} : xse (xFind tbX8_placeOf 54) k = k (.iload_n 3) 3 0 0 [] := rfl
theorem tbX8_placeOf_55 {k : Instr → Nat → Nat → Nat → List Nat → Prop} : xse (xFind tbX8_placeOf 55) k = k (.iload_n 2) 2 0 0 [] := rfl
theorem tbX8_placeOf_56 {k : Instr → Nat → Nat → Nat → List Nat → Prop} : xse (xFind tbX8_placeOf 56) k = k (.iadd) 0 0 0 [] := rfl
theorem tbX8_placeOf_57 {k : Instr → Nat → Nat → Nat → List Nat → Prop} : xse (xFind tbX8_placeOf 57) k = k (.iaload) 41 0 0 [] := rfl
theorem tbX8_placeOf_58 {k : Instr → Nat → Nat → Nat → List Nat → Prop} : xse (xFind tbX8_placeOf 58) k = k (.iload_n 1) 1 0 0 [] := rfl
theorem tbX8_placeOf_59 {k : Instr → Nat → Nat → Nat → List Nat → Prop} : xse (xFind tbX8_placeOf 59) k = k (.if_icmp .eq 9) 68 0 0 [] := rfl
theorem tbX8_placeOf_62 {k : Instr → Nat → Nat → Nat → List Nat → Prop} : xse (xFind tbX8_placeOf 62) k = k (.iinc 2 1) 2 0 0 [] := rfl
theorem tbX8_placeOf_65 {k : Instr → Nat → Nat → Nat → List Nat → Prop} : xse (xFind tbX8_placeOf 65) k = k (.goto (-34)) 31 0 0 [] := rfl
theorem tbX8_placeOf_68 {k : Instr → Nat → Nat → Nat → List Nat → Prop} : xse (xFind tbX8_placeOf 68) k = k (.iload_n 2) 2 0 0 [] := rfl
theorem tbX8_placeOf_69 {k : Instr → Nat → Nat → Nat → List Nat → Prop} : xse (xFind tbX8_placeOf 69) k = k (.ireturn) 0 0 0 [] := rfl

def spX8_placeOf (aM : Nat → Nat) : xSp mS := (fun av M => (0, 0), fun av M K => ∃ (b : Int32), av = [.ref (aM 0), .int b] ∧ (mPl M b (mPlc M b) ∧ K (rI (nI (mPlc M b))) M))
theorem spcX8_placeOf {av : List Value} {M : mS} {aM : Nat → Nat} : (spX8_placeOf aM).1 av M = (0, 0) := rfl
theorem spwX8_placeOf {M : mS} {aM : Nat → Nat} {K : xRes → mS → Prop} {b : Int32} : (spX8_placeOf aM).2 [.ref (aM 0), .int b] M K = (mPl M b (mPlc M b) ∧ K (rI (nI (mPlc M b))) M) :=
  propext ⟨fun h => by
    simp only [spX8_placeOf] at h
    obtain ⟨_, e, h⟩ := h
    simp only [List.cons.injEq, Value.int.injEq, Value.ref.injEq, rf_eq, and_true, true_and] at e
    obtain rfl := e
    exact h, fun h => ⟨_, rfl, h⟩⟩

def callX8_placeOf (aM : Nat → Nat) : Nat → Option (xSp mS) := fun n => match n with | 0 => some (spX8_isTied aM) | _ => none

theorem callX8_placeOf_0 {aM : Nat → Nat} {k : xSp mS → Prop} : xcs (callX8_placeOf aM 0) k = k (spX8_isTied aM) := rfl

theorem crX8_placeOf (l : Launch) (W9 : xWd) (aM : Nat → Nat) (hi : mInj aM) : xCallsOK l W9 (mI aM) (callX8_placeOf aM) clX8_placeOf RX8 wsX8_placeOf 1 21 4 := by
  intro E A p e R s m args below meth c hI hF hL X
  exact List.forall_mem_cons.mpr ⟨⟨_, rfl, xCR_V X (by rw [hI]; exact (semX8_isTied l W9 aM hi)) gX8_placeOf_X8_isTied rfl rfl (by decide +kernel) (by rw [hF, hL]; decide)⟩,
    fun _ h => nomatch h⟩

set_option maxHeartbeats 4000000 in
set_option maxRecDepth 20000 in
theorem semX8_placeOf (l : Launch) (W9 : xWd) (aM : Nat → Nat) (hi : mInj aM) : xSem l W9 (mI aM) yX8_placeOf wsX8_placeOf 1 21 (spX8_placeOf aM) := by
  refine xSem_of (call := callX8_placeOf aM) (thrf := fun _ => "") (mI_law hi) (by decide +kernel) rfl ckX8_placeOf usX8_placeOf (crX8_placeOf l W9 aM hi) xThrOK_nil ?_ ?_
  · intro av M KF h
    obtain ⟨b, rfl, h⟩ := h
    exact ⟨by intro v hv; simp only [List.mem_cons, List.not_mem_nil, or_false] at hv; rcases hv with rfl | rfl <;> first | rfl | exact cat_rf, Nat.le_of_ble_eq_true rfl⟩
  intro av M KF h G hG
  obtain ⟨b, rfl, h⟩ := h
  rw [show (spX8_placeOf aM).1 _ M = _ from spcX8_placeOf] at hG
  try dsimp only at hG
  change G 0 [some (.ref (aM 0)), some (.int b), none, none] [] M 0 0
  obtain ⟨hp, h⟩ := h

  generalize mPlc M b = p at *
  obtain ⟨hb, hc⟩ := hp
  rcases hc with ⟨h1, hp5, t, ht, ht16, hq, hpe⟩ | ⟨h1, hp12, w, hw, hw6, hq, hpe⟩
  · have loop := xloop hG 31 [true, true, true, true] (fun j lv st S cs ss => lv = [some (.ref (aM 0)), some (.int b), some (.int (nI j)), some (.int (nI (5 * t)))] ∧ st = [] ∧ M = S ∧ cs = 0 ∧ ss = 0) p (by
      rintro j hj lv st S cs ss ⟨rfl, rfl, rfl, rfl, rfl⟩ fu hfu
      have hne := hq j hj
      simp only [↓callX8_placeOf_0, kb_12, kc_12, ki_0, ki_1, ki_5, ↓ma_19, ↓ma_27, ↓ma_28, ↓ma_41, ↓mg_19, ↓mg_27, ↓mg_28, ↓mg_41, misa, ↓vm_aload_n, ↓vm_bipush, ↓vm_getfield, ↓vm_goto, ↓vm_iadd, ↓vm_iaload, ↓vm_iconst, ↓vm_ifCond_eq, ↓vm_if_icmp_eq, ↓vm_iinc, ↓vm_iload_n, ↓vm_imul, ↓vm_invokevirtual, ↓vm_ireturn, ↓vm_istore_n, ↓xc_2, ↓tbX8_placeOf_0, ↓tbX8_placeOf_1, ↓tbX8_placeOf_2, ↓tbX8_placeOf_3, ↓tbX8_placeOf_4, ↓tbX8_placeOf_7, ↓tbX8_placeOf_10, ↓tbX8_placeOf_11, ↓tbX8_placeOf_12, ↓tbX8_placeOf_15, ↓tbX8_placeOf_16, ↓tbX8_placeOf_17, ↓tbX8_placeOf_18, ↓tbX8_placeOf_21, ↓tbX8_placeOf_23, ↓tbX8_placeOf_24, ↓tbX8_placeOf_27, ↓tbX8_placeOf_28, ↓tbX8_placeOf_29, ↓tbX8_placeOf_30, ↓tbX8_placeOf_31, ↓tbX8_placeOf_32, ↓tbX8_placeOf_33, ↓tbX8_placeOf_36, ↓tbX8_placeOf_39, ↓tbX8_placeOf_40, ↓tbX8_placeOf_43, ↓tbX8_placeOf_44, ↓tbX8_placeOf_45, ↓tbX8_placeOf_46, ↓tbX8_placeOf_47, ↓tbX8_placeOf_50, ↓tbX8_placeOf_51, ↓tbX8_placeOf_54, ↓tbX8_placeOf_55, ↓tbX8_placeOf_56, ↓tbX8_placeOf_57, ↓tbX8_placeOf_58, ↓tbX8_placeOf_59, ↓tbX8_placeOf_62, ↓tbX8_placeOf_65, ↓tbX8_placeOf_68, ↓tbX8_placeOf_69, hfu, xstep0, xJ1_hit, xJ1_go, xJ2_hit1, xJ2_hit2, xJ2_go, ↓xif_t, ↓xif_f, seval, ↓xca_eq, ↓xre_l, ↓xre_r, xmask_t, xmask_f, xmask_nil, ↓xst_eq, xX_eq, eI_eq, eMc_eq, eMs_eq, eF_eq, eThr_eq, ↓xS1_mk, ↓xSI_mk, ↓xSR_mk, ↓xLI_0, ↓xLI_s, ↓xLR_0, ↓xLR_s, vRef_ref, vRef_null, vRef_rf, cat_int, cat_ref, cat_null, cat_rf, rf_some, rf_none, rf_null, rf_eq, rf_ref, ref_rf, ref_null, ref_ref, xOk_0, xOk_1, xOk_2r, xOk_2n, xOk_2f, vOpt_rf, vOpt_ref, vOpt_null, List.set_cons_zero, List.set_cons_succ, List.take_succ_cons, List.take_zero, List.drop_succ_cons, List.drop_zero, List.reverse_cons, List.reverse_nil, List.nil_append, List.cons_append, List.append_nil, List.length_cons, List.length_nil, List.map_cons, List.map_nil, List.sum_cons, List.sum_nil, Option.toList_some, Option.toList_none, xRecv_mk, true_and, and_true, true_implies, Nat.reduceAdd, Nat.reduceLeDiff, Nat.zero_le, Nat.le_refl, Nat.add_zero, Nat.zero_add, reduceIte, not_true_eq_false, not_false_eq_true, false_implies, and_self, implies_true, eq_self, Nat.reduceEqDiff, List.cons.injEq, xsn_1, xsn_2, false_and, and_false, or_false, false_or, or_true, true_or, xsn_3, xsn_4, ↓spwX8_isTied, spcX8_isTied, hb, bi_0, h1, add_nI, xin_nI (show 5 * t + j < 80 by omega) (by omega), ix_nI (show 5 * t + j < 1000 by omega), nI1]
      try simp only [xif_e]
      grind -ring) (by
      rintro lv st S cs ss ⟨rfl, rfl, rfl, rfl, rfl⟩ fu hfu
      simp only [↓callX8_placeOf_0, kb_12, kc_12, ki_0, ki_1, ki_5, ↓ma_19, ↓ma_27, ↓ma_28, ↓ma_41, ↓mg_19, ↓mg_27, ↓mg_28, ↓mg_41, misa, ↓vm_aload_n, ↓vm_bipush, ↓vm_getfield, ↓vm_goto, ↓vm_iadd, ↓vm_iaload, ↓vm_iconst, ↓vm_ifCond_eq, ↓vm_if_icmp_eq, ↓vm_iinc, ↓vm_iload_n, ↓vm_imul, ↓vm_invokevirtual, ↓vm_ireturn, ↓vm_istore_n, ↓xc_2, ↓tbX8_placeOf_0, ↓tbX8_placeOf_1, ↓tbX8_placeOf_2, ↓tbX8_placeOf_3, ↓tbX8_placeOf_4, ↓tbX8_placeOf_7, ↓tbX8_placeOf_10, ↓tbX8_placeOf_11, ↓tbX8_placeOf_12, ↓tbX8_placeOf_15, ↓tbX8_placeOf_16, ↓tbX8_placeOf_17, ↓tbX8_placeOf_18, ↓tbX8_placeOf_21, ↓tbX8_placeOf_23, ↓tbX8_placeOf_24, ↓tbX8_placeOf_27, ↓tbX8_placeOf_28, ↓tbX8_placeOf_29, ↓tbX8_placeOf_30, ↓tbX8_placeOf_31, ↓tbX8_placeOf_32, ↓tbX8_placeOf_33, ↓tbX8_placeOf_36, ↓tbX8_placeOf_39, ↓tbX8_placeOf_40, ↓tbX8_placeOf_43, ↓tbX8_placeOf_44, ↓tbX8_placeOf_45, ↓tbX8_placeOf_46, ↓tbX8_placeOf_47, ↓tbX8_placeOf_50, ↓tbX8_placeOf_51, ↓tbX8_placeOf_54, ↓tbX8_placeOf_55, ↓tbX8_placeOf_56, ↓tbX8_placeOf_57, ↓tbX8_placeOf_58, ↓tbX8_placeOf_59, ↓tbX8_placeOf_62, ↓tbX8_placeOf_65, ↓tbX8_placeOf_68, ↓tbX8_placeOf_69, hfu, xstep0, xJ1_hit, xJ1_go, xJ2_hit1, xJ2_hit2, xJ2_go, ↓xif_t, ↓xif_f, seval, ↓xca_eq, ↓xre_l, ↓xre_r, xmask_t, xmask_f, xmask_nil, ↓xst_eq, xX_eq, eI_eq, eMc_eq, eMs_eq, eF_eq, eThr_eq, ↓xS1_mk, ↓xSI_mk, ↓xSR_mk, ↓xLI_0, ↓xLI_s, ↓xLR_0, ↓xLR_s, vRef_ref, vRef_null, vRef_rf, cat_int, cat_ref, cat_null, cat_rf, rf_some, rf_none, rf_null, rf_eq, rf_ref, ref_rf, ref_null, ref_ref, xOk_0, xOk_1, xOk_2r, xOk_2n, xOk_2f, vOpt_rf, vOpt_ref, vOpt_null, List.set_cons_zero, List.set_cons_succ, List.take_succ_cons, List.take_zero, List.drop_succ_cons, List.drop_zero, List.reverse_cons, List.reverse_nil, List.nil_append, List.cons_append, List.append_nil, List.length_cons, List.length_nil, List.map_cons, List.map_nil, List.sum_cons, List.sum_nil, Option.toList_some, Option.toList_none, xRecv_mk, true_and, and_true, true_implies, Nat.reduceAdd, Nat.reduceLeDiff, Nat.zero_le, Nat.le_refl, Nat.add_zero, Nat.zero_add, reduceIte, not_true_eq_false, not_false_eq_true, false_implies, and_self, implies_true, eq_self, Nat.reduceEqDiff, List.cons.injEq, xsn_1, xsn_2, false_and, and_false, or_false, false_or, or_true, true_or, xsn_3, xsn_4, ↓spwX8_isTied, spcX8_isTied, hb, bi_0, h1, add_nI, xin_nI (show 5 * t + p < 80 by omega) (by omega), ix_nI (show 5 * t + p < 1000 by omega), hpe]
      try simp only [xif_e]
      grind -ring)
    refine xgo hG (mb := [true, true, true, true]) (loop 0 (Nat.zero_le p)) (pc := 0) (fun fu hfu => ?_)
    simp only [↓callX8_placeOf_0, kb_12, kc_12, ki_0, ki_1, ki_5, ↓ma_19, ↓ma_27, ↓ma_28, ↓ma_41, ↓mg_19, ↓mg_27, ↓mg_28, ↓mg_41, misa, ↓vm_aload_n, ↓vm_bipush, ↓vm_getfield, ↓vm_goto, ↓vm_iadd, ↓vm_iaload, ↓vm_iconst, ↓vm_ifCond_eq, ↓vm_if_icmp_eq, ↓vm_iinc, ↓vm_iload_n, ↓vm_imul, ↓vm_invokevirtual, ↓vm_ireturn, ↓vm_istore_n, ↓xc_2, ↓tbX8_placeOf_0, ↓tbX8_placeOf_1, ↓tbX8_placeOf_2, ↓tbX8_placeOf_3, ↓tbX8_placeOf_4, ↓tbX8_placeOf_7, ↓tbX8_placeOf_10, ↓tbX8_placeOf_11, ↓tbX8_placeOf_12, ↓tbX8_placeOf_15, ↓tbX8_placeOf_16, ↓tbX8_placeOf_17, ↓tbX8_placeOf_18, ↓tbX8_placeOf_21, ↓tbX8_placeOf_23, ↓tbX8_placeOf_24, ↓tbX8_placeOf_27, ↓tbX8_placeOf_28, ↓tbX8_placeOf_29, ↓tbX8_placeOf_30, ↓tbX8_placeOf_31, ↓tbX8_placeOf_32, ↓tbX8_placeOf_33, ↓tbX8_placeOf_36, ↓tbX8_placeOf_39, ↓tbX8_placeOf_40, ↓tbX8_placeOf_43, ↓tbX8_placeOf_44, ↓tbX8_placeOf_45, ↓tbX8_placeOf_46, ↓tbX8_placeOf_47, ↓tbX8_placeOf_50, ↓tbX8_placeOf_51, ↓tbX8_placeOf_54, ↓tbX8_placeOf_55, ↓tbX8_placeOf_56, ↓tbX8_placeOf_57, ↓tbX8_placeOf_58, ↓tbX8_placeOf_59, ↓tbX8_placeOf_62, ↓tbX8_placeOf_65, ↓tbX8_placeOf_68, ↓tbX8_placeOf_69, hfu, xstep0, xJ1_hit, xJ1_go, xJ2_hit1, xJ2_hit2, xJ2_go, ↓xif_t, ↓xif_f, seval, ↓xca_eq, ↓xre_l, ↓xre_r, xmask_t, xmask_f, xmask_nil, ↓xst_eq, xX_eq, eI_eq, eMc_eq, eMs_eq, eF_eq, eThr_eq, ↓xS1_mk, ↓xSI_mk, ↓xSR_mk, ↓xLI_0, ↓xLI_s, ↓xLR_0, ↓xLR_s, vRef_ref, vRef_null, vRef_rf, cat_int, cat_ref, cat_null, cat_rf, rf_some, rf_none, rf_null, rf_eq, rf_ref, ref_rf, ref_null, ref_ref, xOk_0, xOk_1, xOk_2r, xOk_2n, xOk_2f, vOpt_rf, vOpt_ref, vOpt_null, List.set_cons_zero, List.set_cons_succ, List.take_succ_cons, List.take_zero, List.drop_succ_cons, List.drop_zero, List.reverse_cons, List.reverse_nil, List.nil_append, List.cons_append, List.append_nil, List.length_cons, List.length_nil, List.map_cons, List.map_nil, List.sum_cons, List.sum_nil, Option.toList_some, Option.toList_none, xRecv_mk, true_and, and_true, true_implies, Nat.reduceAdd, Nat.reduceLeDiff, Nat.zero_le, Nat.le_refl, Nat.add_zero, Nat.zero_add, reduceIte, not_true_eq_false, not_false_eq_true, false_implies, and_self, implies_true, eq_self, Nat.reduceEqDiff, List.cons.injEq, xsn_1, xsn_2, false_and, and_false, or_false, false_or, or_true, true_or, xsn_3, xsn_4, ↓spwX8_isTied, spcX8_isTied, hb, bi_0, h1, ht, m5_nI]
    try simp only [xif_e]
    grind -ring [nI_0]
  · have loop := xloop hG 31 [true, true, true, true] (fun j lv st S cs ss => lv = [some (.ref (aM 0)), some (.int b), some (.int (nI j)), some (.int (nI (12 * w)))] ∧ st = [] ∧ M = S ∧ cs = 0 ∧ ss = 0) p (by
      rintro j hj lv st S cs ss ⟨rfl, rfl, rfl, rfl, rfl⟩ fu hfu
      have hne := hq j hj
      simp only [↓callX8_placeOf_0, kb_12, kc_12, ki_0, ki_1, ki_5, ↓ma_19, ↓ma_27, ↓ma_28, ↓ma_41, ↓mg_19, ↓mg_27, ↓mg_28, ↓mg_41, misa, ↓vm_aload_n, ↓vm_bipush, ↓vm_getfield, ↓vm_goto, ↓vm_iadd, ↓vm_iaload, ↓vm_iconst, ↓vm_ifCond_eq, ↓vm_if_icmp_eq, ↓vm_iinc, ↓vm_iload_n, ↓vm_imul, ↓vm_invokevirtual, ↓vm_ireturn, ↓vm_istore_n, ↓xc_2, ↓tbX8_placeOf_0, ↓tbX8_placeOf_1, ↓tbX8_placeOf_2, ↓tbX8_placeOf_3, ↓tbX8_placeOf_4, ↓tbX8_placeOf_7, ↓tbX8_placeOf_10, ↓tbX8_placeOf_11, ↓tbX8_placeOf_12, ↓tbX8_placeOf_15, ↓tbX8_placeOf_16, ↓tbX8_placeOf_17, ↓tbX8_placeOf_18, ↓tbX8_placeOf_21, ↓tbX8_placeOf_23, ↓tbX8_placeOf_24, ↓tbX8_placeOf_27, ↓tbX8_placeOf_28, ↓tbX8_placeOf_29, ↓tbX8_placeOf_30, ↓tbX8_placeOf_31, ↓tbX8_placeOf_32, ↓tbX8_placeOf_33, ↓tbX8_placeOf_36, ↓tbX8_placeOf_39, ↓tbX8_placeOf_40, ↓tbX8_placeOf_43, ↓tbX8_placeOf_44, ↓tbX8_placeOf_45, ↓tbX8_placeOf_46, ↓tbX8_placeOf_47, ↓tbX8_placeOf_50, ↓tbX8_placeOf_51, ↓tbX8_placeOf_54, ↓tbX8_placeOf_55, ↓tbX8_placeOf_56, ↓tbX8_placeOf_57, ↓tbX8_placeOf_58, ↓tbX8_placeOf_59, ↓tbX8_placeOf_62, ↓tbX8_placeOf_65, ↓tbX8_placeOf_68, ↓tbX8_placeOf_69, hfu, xstep0, xJ1_hit, xJ1_go, xJ2_hit1, xJ2_hit2, xJ2_go, ↓xif_t, ↓xif_f, seval, ↓xca_eq, ↓xre_l, ↓xre_r, xmask_t, xmask_f, xmask_nil, ↓xst_eq, xX_eq, eI_eq, eMc_eq, eMs_eq, eF_eq, eThr_eq, ↓xS1_mk, ↓xSI_mk, ↓xSR_mk, ↓xLI_0, ↓xLI_s, ↓xLR_0, ↓xLR_s, vRef_ref, vRef_null, vRef_rf, cat_int, cat_ref, cat_null, cat_rf, rf_some, rf_none, rf_null, rf_eq, rf_ref, ref_rf, ref_null, ref_ref, xOk_0, xOk_1, xOk_2r, xOk_2n, xOk_2f, vOpt_rf, vOpt_ref, vOpt_null, List.set_cons_zero, List.set_cons_succ, List.take_succ_cons, List.take_zero, List.drop_succ_cons, List.drop_zero, List.reverse_cons, List.reverse_nil, List.nil_append, List.cons_append, List.append_nil, List.length_cons, List.length_nil, List.map_cons, List.map_nil, List.sum_cons, List.sum_nil, Option.toList_some, Option.toList_none, xRecv_mk, true_and, and_true, true_implies, Nat.reduceAdd, Nat.reduceLeDiff, Nat.zero_le, Nat.le_refl, Nat.add_zero, Nat.zero_add, reduceIte, not_true_eq_false, not_false_eq_true, false_implies, and_self, implies_true, eq_self, Nat.reduceEqDiff, List.cons.injEq, xsn_1, xsn_2, false_and, and_false, or_false, false_or, or_true, true_or, xsn_3, xsn_4, ↓spwX8_isTied, spcX8_isTied, hb, bi_0, h1, add_nI, xin_nI (show 12 * w + j < 72 by omega) (by omega), ix_nI (show 12 * w + j < 1000 by omega), nI1]
      try simp only [xif_e]
      grind -ring) (by
      rintro lv st S cs ss ⟨rfl, rfl, rfl, rfl, rfl⟩ fu hfu
      simp only [↓callX8_placeOf_0, kb_12, kc_12, ki_0, ki_1, ki_5, ↓ma_19, ↓ma_27, ↓ma_28, ↓ma_41, ↓mg_19, ↓mg_27, ↓mg_28, ↓mg_41, misa, ↓vm_aload_n, ↓vm_bipush, ↓vm_getfield, ↓vm_goto, ↓vm_iadd, ↓vm_iaload, ↓vm_iconst, ↓vm_ifCond_eq, ↓vm_if_icmp_eq, ↓vm_iinc, ↓vm_iload_n, ↓vm_imul, ↓vm_invokevirtual, ↓vm_ireturn, ↓vm_istore_n, ↓xc_2, ↓tbX8_placeOf_0, ↓tbX8_placeOf_1, ↓tbX8_placeOf_2, ↓tbX8_placeOf_3, ↓tbX8_placeOf_4, ↓tbX8_placeOf_7, ↓tbX8_placeOf_10, ↓tbX8_placeOf_11, ↓tbX8_placeOf_12, ↓tbX8_placeOf_15, ↓tbX8_placeOf_16, ↓tbX8_placeOf_17, ↓tbX8_placeOf_18, ↓tbX8_placeOf_21, ↓tbX8_placeOf_23, ↓tbX8_placeOf_24, ↓tbX8_placeOf_27, ↓tbX8_placeOf_28, ↓tbX8_placeOf_29, ↓tbX8_placeOf_30, ↓tbX8_placeOf_31, ↓tbX8_placeOf_32, ↓tbX8_placeOf_33, ↓tbX8_placeOf_36, ↓tbX8_placeOf_39, ↓tbX8_placeOf_40, ↓tbX8_placeOf_43, ↓tbX8_placeOf_44, ↓tbX8_placeOf_45, ↓tbX8_placeOf_46, ↓tbX8_placeOf_47, ↓tbX8_placeOf_50, ↓tbX8_placeOf_51, ↓tbX8_placeOf_54, ↓tbX8_placeOf_55, ↓tbX8_placeOf_56, ↓tbX8_placeOf_57, ↓tbX8_placeOf_58, ↓tbX8_placeOf_59, ↓tbX8_placeOf_62, ↓tbX8_placeOf_65, ↓tbX8_placeOf_68, ↓tbX8_placeOf_69, hfu, xstep0, xJ1_hit, xJ1_go, xJ2_hit1, xJ2_hit2, xJ2_go, ↓xif_t, ↓xif_f, seval, ↓xca_eq, ↓xre_l, ↓xre_r, xmask_t, xmask_f, xmask_nil, ↓xst_eq, xX_eq, eI_eq, eMc_eq, eMs_eq, eF_eq, eThr_eq, ↓xS1_mk, ↓xSI_mk, ↓xSR_mk, ↓xLI_0, ↓xLI_s, ↓xLR_0, ↓xLR_s, vRef_ref, vRef_null, vRef_rf, cat_int, cat_ref, cat_null, cat_rf, rf_some, rf_none, rf_null, rf_eq, rf_ref, ref_rf, ref_null, ref_ref, xOk_0, xOk_1, xOk_2r, xOk_2n, xOk_2f, vOpt_rf, vOpt_ref, vOpt_null, List.set_cons_zero, List.set_cons_succ, List.take_succ_cons, List.take_zero, List.drop_succ_cons, List.drop_zero, List.reverse_cons, List.reverse_nil, List.nil_append, List.cons_append, List.append_nil, List.length_cons, List.length_nil, List.map_cons, List.map_nil, List.sum_cons, List.sum_nil, Option.toList_some, Option.toList_none, xRecv_mk, true_and, and_true, true_implies, Nat.reduceAdd, Nat.reduceLeDiff, Nat.zero_le, Nat.le_refl, Nat.add_zero, Nat.zero_add, reduceIte, not_true_eq_false, not_false_eq_true, false_implies, and_self, implies_true, eq_self, Nat.reduceEqDiff, List.cons.injEq, xsn_1, xsn_2, false_and, and_false, or_false, false_or, or_true, true_or, xsn_3, xsn_4, ↓spwX8_isTied, spcX8_isTied, hb, bi_0, h1, add_nI, xin_nI (show 12 * w + p < 72 by omega) (by omega), ix_nI (show 12 * w + p < 1000 by omega), hpe]
      try simp only [xif_e]
      grind -ring)
    refine xgo hG (mb := [true, true, true, true]) (loop 0 (Nat.zero_le p)) (pc := 0) (fun fu hfu => ?_)
    simp only [↓callX8_placeOf_0, kb_12, kc_12, ki_0, ki_1, ki_5, ↓ma_19, ↓ma_27, ↓ma_28, ↓ma_41, ↓mg_19, ↓mg_27, ↓mg_28, ↓mg_41, misa, ↓vm_aload_n, ↓vm_bipush, ↓vm_getfield, ↓vm_goto, ↓vm_iadd, ↓vm_iaload, ↓vm_iconst, ↓vm_ifCond_eq, ↓vm_if_icmp_eq, ↓vm_iinc, ↓vm_iload_n, ↓vm_imul, ↓vm_invokevirtual, ↓vm_ireturn, ↓vm_istore_n, ↓xc_2, ↓tbX8_placeOf_0, ↓tbX8_placeOf_1, ↓tbX8_placeOf_2, ↓tbX8_placeOf_3, ↓tbX8_placeOf_4, ↓tbX8_placeOf_7, ↓tbX8_placeOf_10, ↓tbX8_placeOf_11, ↓tbX8_placeOf_12, ↓tbX8_placeOf_15, ↓tbX8_placeOf_16, ↓tbX8_placeOf_17, ↓tbX8_placeOf_18, ↓tbX8_placeOf_21, ↓tbX8_placeOf_23, ↓tbX8_placeOf_24, ↓tbX8_placeOf_27, ↓tbX8_placeOf_28, ↓tbX8_placeOf_29, ↓tbX8_placeOf_30, ↓tbX8_placeOf_31, ↓tbX8_placeOf_32, ↓tbX8_placeOf_33, ↓tbX8_placeOf_36, ↓tbX8_placeOf_39, ↓tbX8_placeOf_40, ↓tbX8_placeOf_43, ↓tbX8_placeOf_44, ↓tbX8_placeOf_45, ↓tbX8_placeOf_46, ↓tbX8_placeOf_47, ↓tbX8_placeOf_50, ↓tbX8_placeOf_51, ↓tbX8_placeOf_54, ↓tbX8_placeOf_55, ↓tbX8_placeOf_56, ↓tbX8_placeOf_57, ↓tbX8_placeOf_58, ↓tbX8_placeOf_59, ↓tbX8_placeOf_62, ↓tbX8_placeOf_65, ↓tbX8_placeOf_68, ↓tbX8_placeOf_69, hfu, xstep0, xJ1_hit, xJ1_go, xJ2_hit1, xJ2_hit2, xJ2_go, ↓xif_t, ↓xif_f, seval, ↓xca_eq, ↓xre_l, ↓xre_r, xmask_t, xmask_f, xmask_nil, ↓xst_eq, xX_eq, eI_eq, eMc_eq, eMs_eq, eF_eq, eThr_eq, ↓xS1_mk, ↓xSI_mk, ↓xSR_mk, ↓xLI_0, ↓xLI_s, ↓xLR_0, ↓xLR_s, vRef_ref, vRef_null, vRef_rf, cat_int, cat_ref, cat_null, cat_rf, rf_some, rf_none, rf_null, rf_eq, rf_ref, ref_rf, ref_null, ref_ref, xOk_0, xOk_1, xOk_2r, xOk_2n, xOk_2f, vOpt_rf, vOpt_ref, vOpt_null, List.set_cons_zero, List.set_cons_succ, List.take_succ_cons, List.take_zero, List.drop_succ_cons, List.drop_zero, List.reverse_cons, List.reverse_nil, List.nil_append, List.cons_append, List.append_nil, List.length_cons, List.length_nil, List.map_cons, List.map_nil, List.sum_cons, List.sum_nil, Option.toList_some, Option.toList_none, xRecv_mk, true_and, and_true, true_implies, Nat.reduceAdd, Nat.reduceLeDiff, Nat.zero_le, Nat.le_refl, Nat.add_zero, Nat.zero_add, reduceIte, not_true_eq_false, not_false_eq_true, false_implies, and_self, implies_true, eq_self, Nat.reduceEqDiff, List.cons.injEq, xsn_1, xsn_2, false_and, and_false, or_false, false_or, or_true, true_or, xsn_3, xsn_4, ↓spwX8_isTied, spcX8_isTied, hb, bi_0, hw, m12_nI]
    try simp only [xif_e]
    grind -ring [nI_0]

def tbX8_outside : List (Nat × xHint) := [(0, .aload_n 0, 0, 0, 0, []), (1, .iload_n 1, 1, 0, 0, []), (2, .invokevirtual 210, 0, 2, 9, []), (5, .ifCond .eq 25, 30, 0, 0, []), (8, .aload_n 0, 0, 0, 0, []), (9, .getfield 50, 9, 18, 2, []), (12, .aload_n 0, 0, 0, 0, []), (13, .getfield 74, 9, 27, 2, []), (16, .iload_n 1, 1, 0, 0, []), (17, .iaload, 27, 0, 0, []), (18, .iaload, 18, 0, 0, []), (19, .iconst 1, 0, 0, 0, []), (20, .isub, 0, 0, 0, []), (21, .aload_n 0, 0, 0, 0, []), (22, .iload_n 1, 1, 0, 0, []), (23, .invokevirtual 213, 1, 2, 9, []), (26, .isub, 0, 0, 0, []), (27, .goto 4, 31, 0, 0, []), (30, .iconst 0, 0, 0, 0, []), (31, .ireturn, 0, 0, 0, [])]
def clX8_outside : List (Instr × Nat × Nat × Nat) := [(.invokevirtual 210, 0, 2, 9), (.invokevirtual 213, 1, 2, 9)]
def thX8_outside : List (Nat × Nat) := []
theorem ckX8_outside : tbX8_outside.all (xRow RX8 cX8_outside wsX8_outside vwCl [9] clX8_outside thX8_outside 2 (yX8_outside.name == "<init>") (some .int)) = true := xRow_q 0xac030400a764d500b61b2a64042e2e1b4a00b42a3200b42a190099d200b61b2a 32 (by decide +kernel) (by decide +kernel)
theorem usX8_outside : xUse wsX8_outside vwCl [9] = true := xUse_g rfl (lw_good lwl_X8_outside lwl_X80 (by decide +kernel)) xUse_n
theorem tbX8_outside_0 {k : Instr → Nat → Nat → Nat → List Nat → Prop} : xse (xFind tbX8_outside 0) k = k (.aload_n 0) 0 0 0 [] := rfl
theorem tbX8_outside_1 {k : Instr → Nat → Nat → Nat → List Nat → Prop} : xse (xFind tbX8_outside 1) k = k (.iload_n 1) 1 0 0 [] := rfl
theorem tbX8_outside_2 {k : Instr → Nat → Nat → Nat → List Nat → Prop} : xse (xFind tbX8_outside 2) k = k (.invokevirtual 210) 0 2 9 [] := rfl
theorem tbX8_outside_5 {k : Instr → Nat → Nat → Nat → List Nat → Prop} : xse (xFind tbX8_outside 5) k = k (.ifCond .eq 25) 30 0 0 [] := rfl
theorem tbX8_outside_8 {k : Instr → Nat → Nat → Nat → List Nat → Prop} : xse (xFind tbX8_outside 8) k = k (.aload_n 0) 0 0 0 [] := rfl
theorem tbX8_outside_9 {k : Instr → Nat → Nat → Nat → List Nat → Prop} : xse (xFind tbX8_outside 9) k = k (.getfield 50) 9 18 2 [] := rfl
theorem tbX8_outside_12 {k : Instr → Nat → Nat → Nat → List Nat → Prop} : xse (xFind tbX8_outside 12) k = k (.aload_n 0) 0 0 0 [] := rfl
theorem tbX8_outside_13 {k : Instr → Nat → Nat → Nat → List Nat → Prop} : xse (xFind tbX8_outside 13) k = k (.getfield 74) 9 27 2 [] := rfl
theorem tbX8_outside_16 {k : Instr → Nat → Nat → Nat → List Nat → Prop} : xse (xFind tbX8_outside 16) k = k (.iload_n 1) 1 0 0 [] := rfl
theorem tbX8_outside_17 {k : Instr → Nat → Nat → Nat → List Nat → Prop} : xse (xFind tbX8_outside 17) k = k (.iaload) 27 0 0 [] := rfl
theorem tbX8_outside_18 {k : Instr → Nat → Nat → Nat → List Nat → Prop} : xse (xFind tbX8_outside 18) k = k (.iaload) 18 0 0 [] := rfl
theorem tbX8_outside_19 {k : Instr → Nat → Nat → Nat → List Nat → Prop} : xse (xFind tbX8_outside 19) k = k (.iconst 1) 0 0 0 [] := rfl
theorem tbX8_outside_20 {k : Instr → Nat → Nat → Nat → List Nat → Prop} : xse (xFind tbX8_outside 20) k = k (.isub) 0 0 0 [] := rfl
theorem tbX8_outside_21 {k : Instr → Nat → Nat → Nat → List Nat → Prop} : xse (xFind tbX8_outside 21) k = k (.aload_n 0) 0 0 0 [] := rfl
theorem tbX8_outside_22 {k : Instr → Nat → Nat → Nat → List Nat → Prop} : xse (xFind tbX8_outside 22) k = k (.iload_n 1) 1 0 0 [] := rfl
theorem tbX8_outside_23 {k : Instr → Nat → Nat → Nat → List Nat → Prop} : xse (xFind tbX8_outside 23) k = k (.invokevirtual 213) 1 2 9 [] := rfl
theorem tbX8_outside_26 {k : Instr → Nat → Nat → Nat → List Nat → Prop} : xse (xFind tbX8_outside 26) k = k (.isub) 0 0 0 [] := rfl
theorem tbX8_outside_27 {k : Instr → Nat → Nat → Nat → List Nat → Prop} : xse (xFind tbX8_outside 27) k = k (.goto 4) 31 0 0 [] := rfl
theorem tbX8_outside_30 {k : Instr → Nat → Nat → Nat → List Nat → Prop} : xse (xFind tbX8_outside 30) k = k (.iconst 0) 0 0 0 [] := rfl
theorem tbX8_outside_31 {k : Instr → Nat → Nat → Nat → List Nat → Prop} : xse (xFind tbX8_outside 31) k = k (.ireturn) 0 0 0 [] := rfl

def spX8_outside (aM : Nat → Nat) : xSp mS := (fun av M => (0, 0), fun av M K => ∃ (b : Int32), av = [.ref (aM 0), .int b] ∧ (mPl M b (mPlc M b) ∧ K (rI (mOut M b (mPlc M b))) M))
theorem spcX8_outside {av : List Value} {M : mS} {aM : Nat → Nat} : (spX8_outside aM).1 av M = (0, 0) := rfl
theorem spwX8_outside {M : mS} {aM : Nat → Nat} {K : xRes → mS → Prop} {b : Int32} : (spX8_outside aM).2 [.ref (aM 0), .int b] M K = (mPl M b (mPlc M b) ∧ K (rI (mOut M b (mPlc M b))) M) :=
  propext ⟨fun h => by
    simp only [spX8_outside] at h
    obtain ⟨_, e, h⟩ := h
    simp only [List.cons.injEq, Value.int.injEq, Value.ref.injEq, rf_eq, and_true, true_and] at e
    obtain rfl := e
    exact h, fun h => ⟨_, rfl, h⟩⟩

def callX8_outside (aM : Nat → Nat) : Nat → Option (xSp mS) := fun n => match n with | 0 => some (spX8_isTied aM) | 1 => some (spX8_placeOf aM) | _ => none

theorem callX8_outside_0 {aM : Nat → Nat} {k : xSp mS → Prop} : xcs (callX8_outside aM 0) k = k (spX8_isTied aM) := rfl

theorem callX8_outside_1 {aM : Nat → Nat} {k : xSp mS → Prop} : xcs (callX8_outside aM 1) k = k (spX8_placeOf aM) := rfl

theorem crX8_outside (l : Launch) (W9 : xWd) (aM : Nat → Nat) (hi : mInj aM) : xCallsOK l W9 (mI aM) (callX8_outside aM) clX8_outside RX8 wsX8_outside 2 44 2 := by
  intro E A p e R s m args below meth c hI hF hL X
  exact List.forall_mem_cons.mpr ⟨⟨_, rfl, xCR_V X (by rw [hI]; exact (semX8_isTied l W9 aM hi)) gX8_outside_X8_isTied rfl rfl (by decide +kernel) (by rw [hF, hL]; decide)⟩,
    List.forall_mem_cons.mpr ⟨⟨_, rfl, xCR_V X (by rw [hI]; exact (semX8_placeOf l W9 aM hi)) gX8_outside_X8_placeOf rfl rfl (by decide +kernel) (by rw [hF, hL]; decide)⟩,
    fun _ h => nomatch h⟩⟩

set_option maxHeartbeats 4000000 in
set_option maxRecDepth 20000 in
theorem semX8_outside (l : Launch) (W9 : xWd) (aM : Nat → Nat) (hi : mInj aM) : xSem l W9 (mI aM) yX8_outside wsX8_outside 2 44 (spX8_outside aM) := by
  refine xSem_of (call := callX8_outside aM) (thrf := fun _ => "") (mI_law hi) (by decide +kernel) rfl ckX8_outside usX8_outside (crX8_outside l W9 aM hi) xThrOK_nil ?_ ?_
  · intro av M KF h
    obtain ⟨b, rfl, h⟩ := h
    exact ⟨by intro v hv; simp only [List.mem_cons, List.not_mem_nil, or_false] at hv; rcases hv with rfl | rfl <;> first | rfl | exact cat_rf, Nat.le_of_ble_eq_true rfl⟩
  intro av M KF h G hG
  obtain ⟨b, rfl, h⟩ := h
  rw [show (spX8_outside aM).1 _ M = _ from spcX8_outside] at hG
  try dsimp only at hG
  change G 0 [some (.ref (aM 0)), some (.int b)] [] M 0 0
  obtain ⟨hp, h⟩ := h
  have hb := hp.1
  refine xgo0 hG (fun fu hfu => ?_)
  clear hG
  simp only [↓callX8_outside_0, ↓callX8_outside_1, ki_0, ki_1, ↓ma_18, ↓ma_27, ↓mg_18, ↓mg_27, misa, ↓vm_aload_n, ↓vm_getfield, ↓vm_goto, ↓vm_iaload, ↓vm_iconst, ↓vm_ifCond_eq, ↓vm_iload_n, ↓vm_invokevirtual, ↓vm_ireturn, ↓vm_isub, ↓xc_2, ↓tbX8_outside_0, ↓tbX8_outside_1, ↓tbX8_outside_2, ↓tbX8_outside_5, ↓tbX8_outside_8, ↓tbX8_outside_9, ↓tbX8_outside_12, ↓tbX8_outside_13, ↓tbX8_outside_16, ↓tbX8_outside_17, ↓tbX8_outside_18, ↓tbX8_outside_19, ↓tbX8_outside_20, ↓tbX8_outside_21, ↓tbX8_outside_22, ↓tbX8_outside_23, ↓tbX8_outside_26, ↓tbX8_outside_27, ↓tbX8_outside_30, ↓tbX8_outside_31, hfu, xstep0, xJ1_hit, xJ1_go, xJ2_hit1, xJ2_hit2, xJ2_go, ↓xif_t, ↓xif_f, seval, ↓xca_eq, ↓xre_l, ↓xre_r, xmask_t, xmask_f, xmask_nil, ↓xst_eq, xX_eq, eI_eq, eMc_eq, eMs_eq, eF_eq, eThr_eq, ↓xS1_mk, ↓xSI_mk, ↓xSR_mk, ↓xLI_0, ↓xLI_s, ↓xLR_0, ↓xLR_s, vRef_ref, vRef_null, vRef_rf, cat_int, cat_ref, cat_null, cat_rf, rf_some, rf_none, rf_null, rf_eq, rf_ref, ref_rf, ref_null, ref_ref, xOk_0, xOk_1, xOk_2r, xOk_2n, xOk_2f, vOpt_rf, vOpt_ref, vOpt_null, List.set_cons_zero, List.set_cons_succ, List.take_succ_cons, List.take_zero, List.drop_succ_cons, List.drop_zero, List.reverse_cons, List.reverse_nil, List.nil_append, List.cons_append, List.append_nil, List.length_cons, List.length_nil, List.map_cons, List.map_nil, List.sum_cons, List.sum_nil, Option.toList_some, Option.toList_none, xRecv_mk, true_and, and_true, true_implies, Nat.reduceAdd, Nat.reduceLeDiff, Nat.zero_le, Nat.le_refl, Nat.add_zero, Nat.zero_add, reduceIte, not_true_eq_false, not_false_eq_true, false_implies, and_self, implies_true, eq_self, Nat.reduceEqDiff, List.cons.injEq, xsn_1, xsn_2, false_and, and_false, or_false, false_or, or_true, true_or, xsn_3, xsn_4, hb, bi_0, ↓spwX8_isTied, spcX8_isTied, ↓spwX8_placeOf, spcX8_placeOf]
  try simp only [xif_e]
  unfold mOut at h
  rcases hp.2 with ⟨h1, hp5, t, ht, ht16, hq, hpe⟩ | ⟨h1, hp12, w, hw, hw6, hq, hpe⟩
  · have h2 := xin_nI ht16 (show 16 ≤ 1000 by omega)
    rw [← ht] at h2
    grind
  · grind

def tbX8_isOutermost : List (Nat × xHint) := [(0, .aload_n 0, 0, 0, 0, []), (1, .iload_n 1, 1, 0, 0, []), (2, .invokevirtual 210, 0, 2, 9, []), (5, .ifCond .eq 27, 32, 0, 0, []), (8, .aload_n 0, 0, 0, 0, []), (9, .getfield 74, 9, 27, 2, []), (12, .iload_n 1, 1, 0, 0, []), (13, .iaload, 27, 0, 0, []), (14, .iconst 2, 0, 0, 0, []), (15, .idiv, 0, 0, 0, []), (16, .iload_n 2, 2, 0, 0, []), (17, .if_icmp .ne 15, 32, 0, 0, []), (20, .aload_n 0, 0, 0, 0, []), (21, .iload_n 1, 1, 0, 0, []), (22, .invokevirtual 216, 1, 2, 9, []), (25, .ifCond .ne 7, 32, 0, 0, []), (28, .iconst 1, 0, 0, 0, []), (29, .goto 4, 33, 0, 0, []), (32, .iconst 0, 0, 0, 0, []), (33, .ireturn, 1, 0, 0, [])]
def clX8_isOutermost : List (Instr × Nat × Nat × Nat) := [(.invokevirtual 210, 0, 2, 9), (.invokevirtual 216, 1, 2, 9)]
def thX8_isOutermost : List (Nat × Nat) := []
theorem ckX8_isOutermost : tbX8_isOutermost.all (xRow RX8 cX8_isOutermost wsX8_isOutermost vwCl [9] clX8_isOutermost thX8_isOutermost 3 (yX8_isOutermost.name == "<init>") (some .boolean)) = true := xRow_q 0xac030400a70407009ad800b61b2a0f00a01c6c052e1b4a00b42a1b0099d200b61b2a 34 (by decide +kernel) (by decide +kernel)
theorem usX8_isOutermost : xUse wsX8_isOutermost vwCl [9] = true := xUse_g rfl (lw_good lwl_X8_isOutermost lwl_X80 (by decide +kernel)) xUse_n
theorem tbX8_isOutermost_0 {k : Instr → Nat → Nat → Nat → List Nat → Prop} : xse (xFind tbX8_isOutermost 0) k = k (.aload_n 0) 0 0 0 [] := rfl
theorem tbX8_isOutermost_1 {k : Instr → Nat → Nat → Nat → List Nat → Prop} : xse (xFind tbX8_isOutermost 1) k = k (.iload_n 1) 1 0 0 [] := rfl
theorem tbX8_isOutermost_2 {k : Instr → Nat → Nat → Nat → List Nat → Prop} : xse (xFind tbX8_isOutermost 2) k = k (.invokevirtual 210) 0 2 9 [] := rfl
theorem tbX8_isOutermost_5 {k : Instr → Nat → Nat → Nat → List Nat → Prop} : xse (xFind tbX8_isOutermost 5) k = k (.ifCond .eq 27) 32 0 0 [] := rfl
theorem tbX8_isOutermost_8 {k : Instr → Nat → Nat → Nat → List Nat → Prop} : xse (xFind tbX8_isOutermost 8) k = k (.aload_n 0) 0 0 0 [] := rfl
theorem tbX8_isOutermost_9 {k : Instr → Nat → Nat → Nat → List Nat → Prop} : xse (xFind tbX8_isOutermost 9) k = k (.getfield 74) 9 27 2 [] := rfl
theorem tbX8_isOutermost_12 {k : Instr → Nat → Nat → Nat → List Nat → Prop} : xse (xFind tbX8_isOutermost 12) k = k (.iload_n 1) 1 0 0 [] := rfl
theorem tbX8_isOutermost_13 {k : Instr → Nat → Nat → Nat → List Nat → Prop} : xse (xFind tbX8_isOutermost 13) k = k (.iaload) 27 0 0 [] := rfl
theorem tbX8_isOutermost_14 {k : Instr → Nat → Nat → Nat → List Nat → Prop} : xse (xFind tbX8_isOutermost 14) k = k (.iconst 2) 0 0 0 [] := rfl
theorem tbX8_isOutermost_15 {k : Instr → Nat → Nat → Nat → List Nat → Prop} : xse (xFind tbX8_isOutermost 15) k = k (.idiv) 0 0 0 [] := rfl
theorem tbX8_isOutermost_16 {k : Instr → Nat → Nat → Nat → List Nat → Prop} : xse (xFind tbX8_isOutermost 16) k = k (.iload_n 2) 2 0 0 [] := rfl
theorem tbX8_isOutermost_17 {k : Instr → Nat → Nat → Nat → List Nat → Prop} : xse (xFind tbX8_isOutermost 17) k = k (.if_icmp .ne 15) 32 0 0 [] := rfl
theorem tbX8_isOutermost_20 {k : Instr → Nat → Nat → Nat → List Nat → Prop} : xse (xFind tbX8_isOutermost 20) k = k (.aload_n 0) 0 0 0 [] := rfl
theorem tbX8_isOutermost_21 {k : Instr → Nat → Nat → Nat → List Nat → Prop} : xse (xFind tbX8_isOutermost 21) k = k (.iload_n 1) 1 0 0 [] := rfl
theorem tbX8_isOutermost_22 {k : Instr → Nat → Nat → Nat → List Nat → Prop} : xse (xFind tbX8_isOutermost 22) k = k (.invokevirtual 216) 1 2 9 [] := rfl
theorem tbX8_isOutermost_25 {k : Instr → Nat → Nat → Nat → List Nat → Prop} : xse (xFind tbX8_isOutermost 25) k = k (.ifCond .ne 7) 32 0 0 [] := rfl
theorem tbX8_isOutermost_28 {k : Instr → Nat → Nat → Nat → List Nat → Prop} : xse (xFind tbX8_isOutermost 28) k = k (.iconst 1) 0 0 0 [] := rfl
theorem tbX8_isOutermost_29 {k : Instr → Nat → Nat → Nat → List Nat → Prop} : xse (xFind tbX8_isOutermost 29) k = k (.goto 4) 33 0 0 [] := rfl
theorem tbX8_isOutermost_32 {k : Instr → Nat → Nat → Nat → List Nat → Prop} : xse (xFind tbX8_isOutermost 32) k = k (.iconst 0) 0 0 0 [] := rfl
theorem tbX8_isOutermost_33 {k : Instr → Nat → Nat → Nat → List Nat → Prop} : xse (xFind tbX8_isOutermost 33) k = k (.ireturn) 1 0 0 [] := rfl

def spX8_isOutermost (aM : Nat → Nat) : xSp mS := (fun av M => (0, 0), fun av M K => ∃ (b : Int32) (pt : Int32), av = [.ref (aM 0), .int b, .int pt] ∧ (mPl M b (mPlc M b) ∧ K (rI (bi (M.2 28 b.toNatClampNeg = -1 ∧ M.2 27 b.toNatClampNeg / 2 = pt ∧ mOut M b (mPlc M b) = 0))) M))
theorem spcX8_isOutermost {av : List Value} {M : mS} {aM : Nat → Nat} : (spX8_isOutermost aM).1 av M = (0, 0) := rfl
theorem spwX8_isOutermost {M : mS} {aM : Nat → Nat} {K : xRes → mS → Prop} {b : Int32} {pt : Int32} : (spX8_isOutermost aM).2 [.ref (aM 0), .int b, .int pt] M K = (mPl M b (mPlc M b) ∧ K (rI (bi (M.2 28 b.toNatClampNeg = -1 ∧ M.2 27 b.toNatClampNeg / 2 = pt ∧ mOut M b (mPlc M b) = 0))) M) :=
  propext ⟨fun h => by
    simp only [spX8_isOutermost] at h
    obtain ⟨_, _, e, h⟩ := h
    simp only [List.cons.injEq, Value.int.injEq, Value.ref.injEq, rf_eq, and_true, true_and] at e
    obtain ⟨rfl, rfl⟩ := e
    exact h, fun h => ⟨_, _, rfl, h⟩⟩

def callX8_isOutermost (aM : Nat → Nat) : Nat → Option (xSp mS) := fun n => match n with | 0 => some (spX8_isTied aM) | 1 => some (spX8_outside aM) | _ => none

theorem callX8_isOutermost_0 {aM : Nat → Nat} {k : xSp mS → Prop} : xcs (callX8_isOutermost aM 0) k = k (spX8_isTied aM) := rfl

theorem callX8_isOutermost_1 {aM : Nat → Nat} {k : xSp mS → Prop} : xcs (callX8_isOutermost aM 1) k = k (spX8_outside aM) := rfl

theorem crX8_isOutermost (l : Launch) (W9 : xWd) (aM : Nat → Nat) (hi : mInj aM) : xCallsOK l W9 (mI aM) (callX8_isOutermost aM) clX8_isOutermost RX8 wsX8_isOutermost 3 65 3 := by
  intro E A p e R s m args below meth c hI hF hL X
  exact List.forall_mem_cons.mpr ⟨⟨_, rfl, xCR_V X (by rw [hI]; exact (semX8_isTied l W9 aM hi)) gX8_isOutermost_X8_isTied rfl rfl (by decide +kernel) (by rw [hF, hL]; decide)⟩,
    List.forall_mem_cons.mpr ⟨⟨_, rfl, xCR_V X (by rw [hI]; exact (semX8_outside l W9 aM hi)) gX8_isOutermost_X8_outside rfl rfl (by decide +kernel) (by rw [hF, hL]; decide)⟩,
    fun _ h => nomatch h⟩⟩

set_option maxHeartbeats 4000000 in
set_option maxRecDepth 20000 in
theorem semX8_isOutermost (l : Launch) (W9 : xWd) (aM : Nat → Nat) (hi : mInj aM) : xSem l W9 (mI aM) yX8_isOutermost wsX8_isOutermost 3 65 (spX8_isOutermost aM) := by
  refine xSem_of (call := callX8_isOutermost aM) (thrf := fun _ => "") (mI_law hi) (by decide +kernel) rfl ckX8_isOutermost usX8_isOutermost (crX8_isOutermost l W9 aM hi) xThrOK_nil ?_ ?_
  · intro av M KF h
    obtain ⟨b, pt, rfl, h⟩ := h
    exact ⟨by intro v hv; simp only [List.mem_cons, List.not_mem_nil, or_false] at hv; rcases hv with rfl | rfl | rfl <;> first | rfl | exact cat_rf, Nat.le_of_ble_eq_true rfl⟩
  intro av M KF h G hG
  obtain ⟨b, pt, rfl, h⟩ := h
  rw [show (spX8_isOutermost aM).1 _ M = _ from spcX8_isOutermost] at hG
  try dsimp only at hG
  change G 0 [some (.ref (aM 0)), some (.int b), some (.int pt)] [] M 0 0
  obtain ⟨hp, h⟩ := h
  have hb := hp.1
  refine xgo0 hG (fun fu hfu => ?_)
  clear hG
  simp only [↓callX8_isOutermost_0, ↓callX8_isOutermost_1, ki_0, ki_1, ki_2, ↓ma_27, ↓mg_27, misa, ↓vm_aload_n, ↓vm_getfield, ↓vm_goto, ↓vm_iaload, ↓vm_iconst, ↓vm_idiv, ↓vm_ifCond_eq, ↓vm_ifCond_ne, ↓vm_if_icmp_ne, ↓vm_iload_n, ↓vm_invokevirtual, ↓vm_ireturn, ↓xc_2, ↓tbX8_isOutermost_0, ↓tbX8_isOutermost_1, ↓tbX8_isOutermost_2, ↓tbX8_isOutermost_5, ↓tbX8_isOutermost_8, ↓tbX8_isOutermost_9, ↓tbX8_isOutermost_12, ↓tbX8_isOutermost_13, ↓tbX8_isOutermost_14, ↓tbX8_isOutermost_15, ↓tbX8_isOutermost_16, ↓tbX8_isOutermost_17, ↓tbX8_isOutermost_20, ↓tbX8_isOutermost_21, ↓tbX8_isOutermost_22, ↓tbX8_isOutermost_25, ↓tbX8_isOutermost_28, ↓tbX8_isOutermost_29, ↓tbX8_isOutermost_32, ↓tbX8_isOutermost_33, hfu, xstep0, xJ1_hit, xJ1_go, xJ2_hit1, xJ2_hit2, xJ2_go, ↓xif_t, ↓xif_f, seval, ↓xca_eq, ↓xre_l, ↓xre_r, xmask_t, xmask_f, xmask_nil, ↓xst_eq, xX_eq, eI_eq, eMc_eq, eMs_eq, eF_eq, eThr_eq, ↓xS1_mk, ↓xSI_mk, ↓xSR_mk, ↓xLI_0, ↓xLI_s, ↓xLR_0, ↓xLR_s, vRef_ref, vRef_null, vRef_rf, cat_int, cat_ref, cat_null, cat_rf, rf_some, rf_none, rf_null, rf_eq, rf_ref, ref_rf, ref_null, ref_ref, xOk_0, xOk_1, xOk_2r, xOk_2n, xOk_2f, vOpt_rf, vOpt_ref, vOpt_null, List.set_cons_zero, List.set_cons_succ, List.take_succ_cons, List.take_zero, List.drop_succ_cons, List.drop_zero, List.reverse_cons, List.reverse_nil, List.nil_append, List.cons_append, List.append_nil, List.length_cons, List.length_nil, List.map_cons, List.map_nil, List.sum_cons, List.sum_nil, Option.toList_some, Option.toList_none, xRecv_mk, true_and, and_true, true_implies, Nat.reduceAdd, Nat.reduceLeDiff, Nat.zero_le, Nat.le_refl, Nat.add_zero, Nat.zero_add, reduceIte, not_true_eq_false, not_false_eq_true, false_implies, and_self, implies_true, eq_self, Nat.reduceEqDiff, List.cons.injEq, xsn_1, xsn_2, false_and, and_false, or_false, false_or, or_true, true_or, xsn_3, xsn_4, hb, bi_0, ↓spwX8_isTied, spcX8_isTied, ↓spwX8_outside, spcX8_outside]
  try simp only [xif_e]
  grind [bi]

theorem ix_lt {b : Int32} {n : Nat} (h : vp_in b n) : b.toNatClampNeg < n := Nat.not_le.mp (fun q => h (Or.inr q))
theorem ix_back {b : Int32} {n : Nat} (h : vp_in b n) (hn : n ≤ 1000) : b = nI b.toNatClampNeg := by
  obtain ⟨j, hj, rfl⟩ := vp_in_of h (by omega)
  rw [nI_clamp (by omega)]

def tbX8_inBarges : List (Nat × xHint) := [(0, .iconst 0, 0, 0, 0, []), (1, .istore_n 2, 2, 0, 0, []), (2, .iconst 0, 0, 0, 0, []), (3, .istore_n 3, 3, 0, 0, []), (4, .iload_n 3, 3, 0, 0, []), (5, .aload_n 0, 0, 0, 0, []), (6, .getfield 167, 9, 22, 0, []), (9, .if_icmp .ge 32, 41, 0, 0, []), (12, .iload_n 2, 2, 0, 0, []), (13, .aload_n 0, 0, 0, 0, []), (14, .getfield 68, 9, 25, 2, []), (17, .iload_n 3, 3, 0, 0, []), (18, .iaload, 25, 0, 0, []), (19, .iload_n 1, 1, 0, 0, []), (20, .if_icmp .ne 12, 32, 0, 0, []), (23, .aload_n 0, 0, 0, 0, []), (24, .getfield 65, 9, 24, 2, []), (27, .iload_n 3, 3, 0, 0, []), (28, .iaload, 24, 0, 0, []), (29, .goto 4, 33, 0, 0, []), (32, .iconst 0, 0, 0, 0, []), (33, .iadd, 0, 0, 0, []), (34, .istore_n 2, 2, 0, 0, []), (35, .iinc 3 1, 3, 0, 0, []), (38, .goto (-34), 4, 0, 0, []), (41, .iload_n 2, 2, 0, 0, []), (42, .ireturn, 0, 0, 0, [])]
def clX8_inBarges : List (Instr × Nat × Nat × Nat) := []
def thX8_inBarges : List (Nat × Nat) := []
theorem ckX8_inBarges : tbX8_inBarges.all (xRow RX8 cX8_inBarges wsX8_inBarges vwCl [9] clX8_inBarges thX8_inBarges 4 (yX8_inBarges.name == "<init>") (some .int)) = true := xRow_q 0xac1cdeffa70103843d60030400a72e1d4100b42a0c00a01b2e1d4400b42a1c2000a2a700b42a1d3e033d03 43 (by decide +kernel) (by decide +kernel)
theorem usX8_inBarges : xUse wsX8_inBarges vwCl [9] = true := xUse_g rfl (lw_good lwl_X8_inBarges lwl_X80 (by decide +kernel)) xUse_n
theorem tbX8_inBarges_0 {k : Instr → Nat → Nat → Nat → List Nat → Prop} : xse (xFind tbX8_inBarges 0) k = k (.iconst 0) 0 0 0 [] := rfl
theorem tbX8_inBarges_1 {k : Instr → Nat → Nat → Nat → List Nat → Prop} : xse (xFind tbX8_inBarges 1) k = k (.istore_n 2) 2 0 0 [] := rfl
theorem tbX8_inBarges_2 {k : Instr → Nat → Nat → Nat → List Nat → Prop} : xse (xFind tbX8_inBarges 2) k = k (.iconst 0) 0 0 0 [] := rfl
theorem tbX8_inBarges_3 {k : Instr → Nat → Nat → Nat → List Nat → Prop} : xse (xFind tbX8_inBarges 3) k = k (.istore_n 3) 3 0 0 [] := rfl
theorem tbX8_inBarges_4 {k : Instr → Nat → Nat → Nat → List Nat → Prop} : xse (xFind tbX8_inBarges 4) k = k (.iload_n 3) 3 0 0 [] := rfl
theorem tbX8_inBarges_5 {k : Instr → Nat → Nat → Nat → List Nat → Prop} : xse (xFind tbX8_inBarges 5) k = k (.aload_n 0) 0 0 0 [] := rfl
theorem tbX8_inBarges_6 {k : Instr → Nat → Nat → Nat → List Nat → Prop} : xse (xFind tbX8_inBarges 6) k = k (.getfield 167) 9 22 0 [] := rfl
theorem tbX8_inBarges_9 {k : Instr → Nat → Nat → Nat → List Nat → Prop} : xse (xFind tbX8_inBarges 9) k = k (.if_icmp .ge 32) 41 0 0 [] := rfl
theorem tbX8_inBarges_12 {k : Instr → Nat → Nat → Nat → List Nat → Prop} : xse (xFind tbX8_inBarges 12) k = k (.iload_n 2) 2 0 0 [] := rfl
theorem tbX8_inBarges_13 {k : Instr → Nat → Nat → Nat → List Nat → Prop} : xse (xFind tbX8_inBarges 13) k = k (.aload_n 0) 0 0 0 [] := rfl
theorem tbX8_inBarges_14 {k : Instr → Nat → Nat → Nat → List Nat → Prop} : xse (xFind tbX8_inBarges 14) k = k (.getfield 68) 9 25 2 [] := rfl
theorem tbX8_inBarges_17 {k : Instr → Nat → Nat → Nat → List Nat → Prop} : xse (xFind tbX8_inBarges 17) k = k (.iload_n 3) 3 0 0 [] := rfl
theorem tbX8_inBarges_18 {k : Instr → Nat → Nat → Nat → List Nat → Prop} : xse (xFind tbX8_inBarges 18) k = k (.iaload) 25 0 0 [] := rfl
theorem tbX8_inBarges_19 {k : Instr → Nat → Nat → Nat → List Nat → Prop} : xse (xFind tbX8_inBarges 19) k = k (.iload_n 1) 1 0 0 [] := rfl
theorem tbX8_inBarges_20 {k : Instr → Nat → Nat → Nat → List Nat → Prop} : xse (xFind tbX8_inBarges 20) k = k (.if_icmp .ne 12) 32 0 0 [] := rfl
theorem tbX8_inBarges_23 {k : Instr → Nat → Nat → Nat → List Nat → Prop} : xse (xFind tbX8_inBarges 23) k = k (.aload_n 0) 0 0 0 [] := rfl
theorem tbX8_inBarges_24 {k : Instr → Nat → Nat → Nat → List Nat → Prop} : xse (xFind tbX8_inBarges 24) k = k (.getfield 65) 9 24 2 [] := rfl
theorem tbX8_inBarges_27 {k : Instr → Nat → Nat → Nat → List Nat → Prop} : xse (xFind tbX8_inBarges 27) k = k (.iload_n 3) 3 0 0 [] := rfl
theorem tbX8_inBarges_28 {k : Instr → Nat → Nat → Nat → List Nat → Prop} : xse (xFind tbX8_inBarges 28) k = k (.iaload) 24 0 0 [] := rfl
theorem tbX8_inBarges_29 {k : Instr → Nat → Nat → Nat → List Nat → Prop} : xse (xFind tbX8_inBarges 29) k = k (.goto 4) 33 0 0 [] := rfl
theorem tbX8_inBarges_32 {k : Instr → Nat → Nat → Nat → List Nat → Prop} : xse (xFind tbX8_inBarges 32) k = k (.iconst 0) 0 0 0 [] := rfl
theorem tbX8_inBarges_33 {k : Instr → Nat → Nat → Nat → List Nat → Prop} : xse (xFind tbX8_inBarges 33) k = k (.iadd) 0 0 0 [] := rfl
theorem tbX8_inBarges_34 {k : Instr → Nat → Nat → Nat → List Nat → Prop} : xse (xFind tbX8_inBarges 34) k = k (.istore_n 2) 2 0 0 [] := rfl
theorem tbX8_inBarges_35 {k : Instr → Nat → Nat → Nat → List Nat → Prop} : xse (xFind tbX8_inBarges 35) k = k (.iinc 3 1) 3 0 0 [] := rfl
theorem tbX8_inBarges_38 {k : Instr → Nat → Nat → Nat → List Nat → Prop} : xse (xFind tbX8_inBarges 38) k = k (.goto (-34)) 4 0 0 [] := rfl
theorem tbX8_inBarges_41 {k : Instr → Nat → Nat → Nat → List Nat → Prop} : xse (xFind tbX8_inBarges 41) k = k (.iload_n 2) 2 0 0 [] := rfl
theorem tbX8_inBarges_42 {k : Instr → Nat → Nat → Nat → List Nat → Prop} : xse (xFind tbX8_inBarges 42) k = k (.ireturn) 0 0 0 [] := rfl

def spX8_inBarges (aM : Nat → Nat) : xSp mS := (fun av M => (0, 0), fun av M K => ∃ (c : Int32), av = [.ref (aM 0), .int c] ∧ ((M.1 22 = nI (nBg M) ∧ nBg M ≤ 24) ∧ K (rI (mInB M c (nBg M))) M))
theorem spcX8_inBarges {av : List Value} {M : mS} {aM : Nat → Nat} : (spX8_inBarges aM).1 av M = (0, 0) := rfl
theorem spwX8_inBarges {M : mS} {aM : Nat → Nat} {K : xRes → mS → Prop} {c : Int32} : (spX8_inBarges aM).2 [.ref (aM 0), .int c] M K = ((M.1 22 = nI (nBg M) ∧ nBg M ≤ 24) ∧ K (rI (mInB M c (nBg M))) M) :=
  propext ⟨fun h => by
    simp only [spX8_inBarges] at h
    obtain ⟨_, e, h⟩ := h
    simp only [List.cons.injEq, Value.int.injEq, Value.ref.injEq, rf_eq, and_true, true_and] at e
    obtain rfl := e
    exact h, fun h => ⟨_, rfl, h⟩⟩

set_option maxHeartbeats 4000000 in
set_option maxRecDepth 20000 in
theorem semX8_inBarges (l : Launch) (W9 : xWd) (aM : Nat → Nat) (hi : mInj aM) : xSem l W9 (mI aM) yX8_inBarges wsX8_inBarges 0 0 (spX8_inBarges aM) := by
  refine xSem_of (call := fun _ => none) (thrf := fun _ => "") (mI_law hi) (by decide +kernel) rfl ckX8_inBarges usX8_inBarges xCallsOK_nil xThrOK_nil ?_ ?_
  · intro av M KF h
    obtain ⟨c, rfl, h⟩ := h
    exact ⟨by intro v hv; simp only [List.mem_cons, List.not_mem_nil, or_false] at hv; rcases hv with rfl | rfl <;> first | rfl | exact cat_rf, Nat.le_of_ble_eq_true rfl⟩
  intro av M KF h G hG
  obtain ⟨c, rfl, h⟩ := h
  rw [show (spX8_inBarges aM).1 _ M = _ from spcX8_inBarges] at hG
  try dsimp only at hG
  change G 0 [some (.ref (aM 0)), some (.int c), none, none] [] M 0 0
  obtain ⟨⟨hn, hn6⟩, h⟩ := h

  generalize nBg M = n at *
  have loop := xloop hG 4 [true, true, true, true] (fun j lv st S cs ss => lv = [some (.ref (aM 0)), some (.int c), some (.int (mInB M c j)), some (.int (nI j))] ∧ st = [] ∧ M = S ∧ cs = 0 ∧ ss = 0) n (by
      rintro j hj lv st S cs ss ⟨rfl, rfl, rfl, rfl, rfl⟩ fu hfu
      simp only [ki_0, ki_1, ↓ma_24, ↓ma_25, ↓mg_22, ↓mg_24, ↓mg_25, ↓vm_aload_n, ↓vm_getfield, ↓vm_goto, ↓vm_iadd, ↓vm_iaload, ↓vm_iconst, ↓vm_if_icmp_ge, ↓vm_if_icmp_ne, ↓vm_iinc, ↓vm_iload_n, ↓vm_ireturn, ↓vm_istore_n, ↓tbX8_inBarges_0, ↓tbX8_inBarges_1, ↓tbX8_inBarges_2, ↓tbX8_inBarges_3, ↓tbX8_inBarges_4, ↓tbX8_inBarges_5, ↓tbX8_inBarges_6, ↓tbX8_inBarges_9, ↓tbX8_inBarges_12, ↓tbX8_inBarges_13, ↓tbX8_inBarges_14, ↓tbX8_inBarges_17, ↓tbX8_inBarges_18, ↓tbX8_inBarges_19, ↓tbX8_inBarges_20, ↓tbX8_inBarges_23, ↓tbX8_inBarges_24, ↓tbX8_inBarges_27, ↓tbX8_inBarges_28, ↓tbX8_inBarges_29, ↓tbX8_inBarges_32, ↓tbX8_inBarges_33, ↓tbX8_inBarges_34, ↓tbX8_inBarges_35, ↓tbX8_inBarges_38, ↓tbX8_inBarges_41, ↓tbX8_inBarges_42, hfu, xstep0, xJ1_hit, xJ1_go, xJ2_hit1, xJ2_hit2, xJ2_go, ↓xif_t, ↓xif_f, seval, ↓xca_eq, ↓xre_l, ↓xre_r, xmask_t, xmask_f, xmask_nil, ↓xst_eq, xX_eq, eI_eq, eMc_eq, eMs_eq, eF_eq, eThr_eq, ↓xS1_mk, ↓xSI_mk, ↓xSR_mk, ↓xLI_0, ↓xLI_s, ↓xLR_0, ↓xLR_s, vRef_ref, vRef_null, vRef_rf, cat_int, cat_ref, cat_null, cat_rf, rf_some, rf_none, rf_null, rf_eq, rf_ref, ref_rf, ref_null, ref_ref, xOk_0, xOk_1, xOk_2r, xOk_2n, xOk_2f, vOpt_rf, vOpt_ref, vOpt_null, List.set_cons_zero, List.set_cons_succ, List.take_succ_cons, List.take_zero, List.drop_succ_cons, List.drop_zero, List.reverse_cons, List.reverse_nil, List.nil_append, List.cons_append, List.append_nil, List.length_cons, List.length_nil, List.map_cons, List.map_nil, List.sum_cons, List.sum_nil, Option.toList_some, Option.toList_none, xRecv_mk, true_and, and_true, true_implies, Nat.reduceAdd, Nat.reduceLeDiff, Nat.zero_le, Nat.le_refl, Nat.add_zero, Nat.zero_add, reduceIte, not_true_eq_false, not_false_eq_true, false_implies, and_self, implies_true, eq_self, Nat.reduceEqDiff, List.cons.injEq, xsn_1, xsn_2, false_and, and_false, or_false, false_or, or_true, true_or, xsn_3, xsn_4, hn, ge_nI hj (show n < 1000 by omega), xin_nI (show j < 24 by omega) (by omega), ix_nI (show j < 1000 by omega), nI1]
      try simp only [xif_e]
      grind [mInB]) (by
      rintro lv st S cs ss ⟨rfl, rfl, rfl, rfl, rfl⟩ fu hfu
      simp only [ki_0, ki_1, ↓ma_24, ↓ma_25, ↓mg_22, ↓mg_24, ↓mg_25, ↓vm_aload_n, ↓vm_getfield, ↓vm_goto, ↓vm_iadd, ↓vm_iaload, ↓vm_iconst, ↓vm_if_icmp_ge, ↓vm_if_icmp_ne, ↓vm_iinc, ↓vm_iload_n, ↓vm_ireturn, ↓vm_istore_n, ↓tbX8_inBarges_0, ↓tbX8_inBarges_1, ↓tbX8_inBarges_2, ↓tbX8_inBarges_3, ↓tbX8_inBarges_4, ↓tbX8_inBarges_5, ↓tbX8_inBarges_6, ↓tbX8_inBarges_9, ↓tbX8_inBarges_12, ↓tbX8_inBarges_13, ↓tbX8_inBarges_14, ↓tbX8_inBarges_17, ↓tbX8_inBarges_18, ↓tbX8_inBarges_19, ↓tbX8_inBarges_20, ↓tbX8_inBarges_23, ↓tbX8_inBarges_24, ↓tbX8_inBarges_27, ↓tbX8_inBarges_28, ↓tbX8_inBarges_29, ↓tbX8_inBarges_32, ↓tbX8_inBarges_33, ↓tbX8_inBarges_34, ↓tbX8_inBarges_35, ↓tbX8_inBarges_38, ↓tbX8_inBarges_41, ↓tbX8_inBarges_42, hfu, xstep0, xJ1_hit, xJ1_go, xJ2_hit1, xJ2_hit2, xJ2_go, ↓xif_t, ↓xif_f, seval, ↓xca_eq, ↓xre_l, ↓xre_r, xmask_t, xmask_f, xmask_nil, ↓xst_eq, xX_eq, eI_eq, eMc_eq, eMs_eq, eF_eq, eThr_eq, ↓xS1_mk, ↓xSI_mk, ↓xSR_mk, ↓xLI_0, ↓xLI_s, ↓xLR_0, ↓xLR_s, vRef_ref, vRef_null, vRef_rf, cat_int, cat_ref, cat_null, cat_rf, rf_some, rf_none, rf_null, rf_eq, rf_ref, ref_rf, ref_null, ref_ref, xOk_0, xOk_1, xOk_2r, xOk_2n, xOk_2f, vOpt_rf, vOpt_ref, vOpt_null, List.set_cons_zero, List.set_cons_succ, List.take_succ_cons, List.take_zero, List.drop_succ_cons, List.drop_zero, List.reverse_cons, List.reverse_nil, List.nil_append, List.cons_append, List.append_nil, List.length_cons, List.length_nil, List.map_cons, List.map_nil, List.sum_cons, List.sum_nil, Option.toList_some, Option.toList_none, xRecv_mk, true_and, and_true, true_implies, Nat.reduceAdd, Nat.reduceLeDiff, Nat.zero_le, Nat.le_refl, Nat.add_zero, Nat.zero_add, reduceIte, not_true_eq_false, not_false_eq_true, false_implies, and_self, implies_true, eq_self, Nat.reduceEqDiff, List.cons.injEq, xsn_1, xsn_2, false_and, and_false, or_false, false_or, or_true, true_or, xsn_3, xsn_4, hn, le_nI_self]
      try simp only [xif_e]
      grind -ring)
  refine xgo hG (mb := [true, true, true, true]) (loop 0 (Nat.zero_le n)) (pc := 0) (fun fu hfu => ?_)
  simp only [ki_0, ki_1, ↓ma_24, ↓ma_25, ↓mg_22, ↓mg_24, ↓mg_25, ↓vm_aload_n, ↓vm_getfield, ↓vm_goto, ↓vm_iadd, ↓vm_iaload, ↓vm_iconst, ↓vm_if_icmp_ge, ↓vm_if_icmp_ne, ↓vm_iinc, ↓vm_iload_n, ↓vm_ireturn, ↓vm_istore_n, ↓tbX8_inBarges_0, ↓tbX8_inBarges_1, ↓tbX8_inBarges_2, ↓tbX8_inBarges_3, ↓tbX8_inBarges_4, ↓tbX8_inBarges_5, ↓tbX8_inBarges_6, ↓tbX8_inBarges_9, ↓tbX8_inBarges_12, ↓tbX8_inBarges_13, ↓tbX8_inBarges_14, ↓tbX8_inBarges_17, ↓tbX8_inBarges_18, ↓tbX8_inBarges_19, ↓tbX8_inBarges_20, ↓tbX8_inBarges_23, ↓tbX8_inBarges_24, ↓tbX8_inBarges_27, ↓tbX8_inBarges_28, ↓tbX8_inBarges_29, ↓tbX8_inBarges_32, ↓tbX8_inBarges_33, ↓tbX8_inBarges_34, ↓tbX8_inBarges_35, ↓tbX8_inBarges_38, ↓tbX8_inBarges_41, ↓tbX8_inBarges_42, hfu, xstep0, xJ1_hit, xJ1_go, xJ2_hit1, xJ2_hit2, xJ2_go, ↓xif_t, ↓xif_f, seval, ↓xca_eq, ↓xre_l, ↓xre_r, xmask_t, xmask_f, xmask_nil, ↓xst_eq, xX_eq, eI_eq, eMc_eq, eMs_eq, eF_eq, eThr_eq, ↓xS1_mk, ↓xSI_mk, ↓xSR_mk, ↓xLI_0, ↓xLI_s, ↓xLR_0, ↓xLR_s, vRef_ref, vRef_null, vRef_rf, cat_int, cat_ref, cat_null, cat_rf, rf_some, rf_none, rf_null, rf_eq, rf_ref, ref_rf, ref_null, ref_ref, xOk_0, xOk_1, xOk_2r, xOk_2n, xOk_2f, vOpt_rf, vOpt_ref, vOpt_null, List.set_cons_zero, List.set_cons_succ, List.take_succ_cons, List.take_zero, List.drop_succ_cons, List.drop_zero, List.reverse_cons, List.reverse_nil, List.nil_append, List.cons_append, List.append_nil, List.length_cons, List.length_nil, List.map_cons, List.map_nil, List.sum_cons, List.sum_nil, Option.toList_some, Option.toList_none, xRecv_mk, true_and, and_true, true_implies, Nat.reduceAdd, Nat.reduceLeDiff, Nat.zero_le, Nat.le_refl, Nat.add_zero, Nat.zero_add, reduceIte, not_true_eq_false, not_false_eq_true, false_implies, and_self, implies_true, eq_self, Nat.reduceEqDiff, List.cons.injEq, xsn_1, xsn_2, false_and, and_false, or_false, false_or, or_true, true_or, xsn_3, xsn_4, hn]
  try simp only [xif_e]
  repeat' (first | rfl | apply And.intro)

def tbX8_open : List (Nat × xHint) := [(0, .aload_n 0, 0, 0, 0, []), (1, .getfield 137, 9, 50, 2, []), (4, .iload_n 1, 1, 0, 0, []), (5, .iaload, 50, 0, 0, []), (6, .aload_n 0, 0, 0, 0, []), (7, .iload_n 1, 1, 0, 0, []), (8, .invokevirtual 219, 0, 2, 9, []), (11, .isub, 0, 0, 0, []), (12, .aload_n 0, 0, 0, 0, []), (13, .getfield 146, 9, 53, 2, []), (16, .iload_n 1, 1, 0, 0, []), (17, .iaload, 53, 0, 0, []), (18, .isub, 0, 0, 0, []), (19, .ireturn, 0, 0, 0, [])]
def clX8_open : List (Instr × Nat × Nat × Nat) := [(.invokevirtual 219, 0, 2, 9)]
def thX8_open : List (Nat × Nat) := []
theorem ckX8_open : tbX8_open.all (xRow RX8 cX8_open wsX8_open vwCl [9] clX8_open thX8_open 2 (yX8_open.name == "<init>") (some .int)) = true := xRow_q 0xac642e1b9200b42a64db00b61b2a2e1b8900b42a 20 (by decide +kernel) (by decide +kernel)
theorem usX8_open : xUse wsX8_open vwCl [9] = true := xUse_g rfl (lw_good lwl_X8_open lwl_X80 (by decide +kernel)) xUse_n
theorem tbX8_open_0 {k : Instr → Nat → Nat → Nat → List Nat → Prop} : xse (xFind tbX8_open 0) k = k (.aload_n 0) 0 0 0 [] := rfl
theorem tbX8_open_1 {k : Instr → Nat → Nat → Nat → List Nat → Prop} : xse (xFind tbX8_open 1) k = k (.getfield 137) 9 50 2 [] := rfl
theorem tbX8_open_4 {k : Instr → Nat → Nat → Nat → List Nat → Prop} : xse (xFind tbX8_open 4) k = k (.iload_n 1) 1 0 0 [] := rfl
theorem tbX8_open_5 {k : Instr → Nat → Nat → Nat → List Nat → Prop} : xse (xFind tbX8_open 5) k = k (.iaload) 50 0 0 [] := rfl
theorem tbX8_open_6 {k : Instr → Nat → Nat → Nat → List Nat → Prop} : xse (xFind tbX8_open 6) k = k (.aload_n 0) 0 0 0 [] := rfl
theorem tbX8_open_7 {k : Instr → Nat → Nat → Nat → List Nat → Prop} : xse (xFind tbX8_open 7) k = k (.iload_n 1) 1 0 0 [] := rfl
theorem tbX8_open_8 {k : Instr → Nat → Nat → Nat → List Nat → Prop} : xse (xFind tbX8_open 8) k = k (.invokevirtual 219) 0 2 9 [] := rfl
theorem tbX8_open_11 {k : Instr → Nat → Nat → Nat → List Nat → Prop} : xse (xFind tbX8_open 11) k = k (.isub) 0 0 0 [] := rfl
theorem tbX8_open_12 {k : Instr → Nat → Nat → Nat → List Nat → Prop} : xse (xFind tbX8_open 12) k = k (.aload_n 0) 0 0 0 [] := rfl
theorem tbX8_open_13 {k : Instr → Nat → Nat → Nat → List Nat → Prop} : xse (xFind tbX8_open 13) k = k (.getfield 146) 9 53 2 [] := rfl
theorem tbX8_open_16 {k : Instr → Nat → Nat → Nat → List Nat → Prop} : xse (xFind tbX8_open 16) k = k (.iload_n 1) 1 0 0 [] := rfl
theorem tbX8_open_17 {k : Instr → Nat → Nat → Nat → List Nat → Prop} : xse (xFind tbX8_open 17) k = k (.iaload) 53 0 0 [] := rfl
theorem tbX8_open_18 {k : Instr → Nat → Nat → Nat → List Nat → Prop} : xse (xFind tbX8_open 18) k = k (.isub) 0 0 0 [] := rfl
theorem tbX8_open_19 {k : Instr → Nat → Nat → Nat → List Nat → Prop} : xse (xFind tbX8_open 19) k = k (.ireturn) 0 0 0 [] := rfl

def spX8_open (aM : Nat → Nat) : xSp mS := (fun av M => (0, 0), fun av M K => ∃ (c : Int32), av = [.ref (aM 0), .int c] ∧ ((M.1 22 = nI (nBg M) ∧ nBg M ≤ 24) ∧ vp_in c 12 ∧ K (rI (M.2 50 c.toNatClampNeg - mInB M c (nBg M) - M.2 53 c.toNatClampNeg)) M))
theorem spcX8_open {av : List Value} {M : mS} {aM : Nat → Nat} : (spX8_open aM).1 av M = (0, 0) := rfl
theorem spwX8_open {M : mS} {aM : Nat → Nat} {K : xRes → mS → Prop} {c : Int32} : (spX8_open aM).2 [.ref (aM 0), .int c] M K = ((M.1 22 = nI (nBg M) ∧ nBg M ≤ 24) ∧ vp_in c 12 ∧ K (rI (M.2 50 c.toNatClampNeg - mInB M c (nBg M) - M.2 53 c.toNatClampNeg)) M) :=
  propext ⟨fun h => by
    simp only [spX8_open] at h
    obtain ⟨_, e, h⟩ := h
    simp only [List.cons.injEq, Value.int.injEq, Value.ref.injEq, rf_eq, and_true, true_and] at e
    obtain rfl := e
    exact h, fun h => ⟨_, rfl, h⟩⟩

def callX8_open (aM : Nat → Nat) : Nat → Option (xSp mS) := fun n => match n with | 0 => some (spX8_inBarges aM) | _ => none

theorem callX8_open_0 {aM : Nat → Nat} {k : xSp mS → Prop} : xcs (callX8_open aM 0) k = k (spX8_inBarges aM) := rfl

theorem crX8_open (l : Launch) (W9 : xWd) (aM : Nat → Nat) (hi : mInj aM) : xCallsOK l W9 (mI aM) (callX8_open aM) clX8_open RX8 wsX8_open 1 23 2 := by
  intro E A p e R s m args below meth c hI hF hL X
  exact List.forall_mem_cons.mpr ⟨⟨_, rfl, xCR_V X (by rw [hI]; exact (semX8_inBarges l W9 aM hi)) gX8_open_X8_inBarges rfl rfl (by decide +kernel) (by rw [hF, hL]; decide)⟩,
    fun _ h => nomatch h⟩

set_option maxHeartbeats 4000000 in
set_option maxRecDepth 20000 in
theorem semX8_open (l : Launch) (W9 : xWd) (aM : Nat → Nat) (hi : mInj aM) : xSem l W9 (mI aM) yX8_open wsX8_open 1 23 (spX8_open aM) := by
  refine xSem_of (call := callX8_open aM) (thrf := fun _ => "") (mI_law hi) (by decide +kernel) rfl ckX8_open usX8_open (crX8_open l W9 aM hi) xThrOK_nil ?_ ?_
  · intro av M KF h
    obtain ⟨c, rfl, h⟩ := h
    exact ⟨by intro v hv; simp only [List.mem_cons, List.not_mem_nil, or_false] at hv; rcases hv with rfl | rfl <;> first | rfl | exact cat_rf, Nat.le_of_ble_eq_true rfl⟩
  intro av M KF h G hG
  obtain ⟨c, rfl, h⟩ := h
  rw [show (spX8_open aM).1 _ M = _ from spcX8_open] at hG
  try dsimp only at hG
  change G 0 [some (.ref (aM 0)), some (.int c)] [] M 0 0
  obtain ⟨hn, hc, h⟩ := h
  refine xgo0 hG (fun fu hfu => ?_)
  clear hG
  simp only [↓callX8_open_0, ↓ma_50, ↓ma_53, ↓mg_50, ↓mg_53, misa, ↓vm_aload_n, ↓vm_getfield, ↓vm_iaload, ↓vm_iload_n, ↓vm_invokevirtual, ↓vm_ireturn, ↓vm_isub, ↓xc_2, ↓tbX8_open_0, ↓tbX8_open_1, ↓tbX8_open_4, ↓tbX8_open_5, ↓tbX8_open_6, ↓tbX8_open_7, ↓tbX8_open_8, ↓tbX8_open_11, ↓tbX8_open_12, ↓tbX8_open_13, ↓tbX8_open_16, ↓tbX8_open_17, ↓tbX8_open_18, ↓tbX8_open_19, hfu, xstep0, xJ1_hit, xJ1_go, xJ2_hit1, xJ2_hit2, xJ2_go, ↓xif_t, ↓xif_f, seval, ↓xca_eq, ↓xre_l, ↓xre_r, xmask_t, xmask_f, xmask_nil, ↓xst_eq, xX_eq, eI_eq, eMc_eq, eMs_eq, eF_eq, eThr_eq, ↓xS1_mk, ↓xSI_mk, ↓xSR_mk, ↓xLI_0, ↓xLI_s, ↓xLR_0, ↓xLR_s, vRef_ref, vRef_null, vRef_rf, cat_int, cat_ref, cat_null, cat_rf, rf_some, rf_none, rf_null, rf_eq, rf_ref, ref_rf, ref_null, ref_ref, xOk_0, xOk_1, xOk_2r, xOk_2n, xOk_2f, vOpt_rf, vOpt_ref, vOpt_null, List.set_cons_zero, List.set_cons_succ, List.take_succ_cons, List.take_zero, List.drop_succ_cons, List.drop_zero, List.reverse_cons, List.reverse_nil, List.nil_append, List.cons_append, List.append_nil, List.length_cons, List.length_nil, List.map_cons, List.map_nil, List.sum_cons, List.sum_nil, Option.toList_some, Option.toList_none, xRecv_mk, true_and, and_true, true_implies, Nat.reduceAdd, Nat.reduceLeDiff, Nat.zero_le, Nat.le_refl, Nat.add_zero, Nat.zero_add, reduceIte, not_true_eq_false, not_false_eq_true, false_implies, and_self, implies_true, eq_self, Nat.reduceEqDiff, List.cons.injEq, xsn_1, xsn_2, false_and, and_false, or_false, false_or, or_true, true_or, xsn_3, xsn_4, hc, ↓spwX8_inBarges, spcX8_inBarges]
  try simp only [xif_e]
  grind

abbrev mCan (M : mS) (b c u : Int32) (p n : Nat) : Prop :=
  (M.2 28 b.toNatClampNeg = -1 ∧ M.2 27 b.toNatClampNeg / 2 = M.2 48 c.toNatClampNeg ∧ mOut M b p = 0) ∧ (if M.2 47 c.toNatClampNeg = 2 then M.2 23 b.toNatClampNeg = 2 else if M.2 47 c.toNatClampNeg = 1 then M.2 23 b.toNatClampNeg = 1 else M.2 23 b.toNatClampNeg ≠ 2) ∧
  (M.2 26 b.toNatClampNeg = -1 ∨ M.2 26 b.toNatClampNeg = M.2 47 c.toNatClampNeg) ∧ (M.2 24 b.toNatClampNeg = 0 ∨ M.2 25 b.toNatClampNeg = c) ∧ M.2 24 b.toNatClampNeg + u ≤ 12 ∧ u ≤ M.2 50 c.toNatClampNeg - mInB M c n - M.2 53 c.toNatClampNeg ∧
  (if M.2 20 (M.2 48 c.toNatClampNeg).toNatClampNeg = M.1 1 then M.2 21 (M.2 48 c.toNatClampNeg).toNatClampNeg else 0) + u ≤ 12

def tbX8_canLoad : List (Nat × xHint) := [(0, .aload_n 0, 0, 0, 0, []), (1, .getfield 131, 9, 48, 2, []), (4, .iload_n 2, 2, 0, 0, []), (5, .iaload, 48, 0, 0, []), (6, .istore 4, 4, 0, 0, []), (8, .aload_n 0, 0, 0, 0, []), (9, .iload_n 1, 1, 0, 0, []), (10, .iload 4, 4, 0, 0, []), (12, .invokevirtual 222, 0, 3, 9, []), (15, .ifCond .eq 25, 40, 0, 0, []), (18, .aload_n 0, 0, 0, 0, []), (19, .getfield 62, 9, 23, 2, []), (22, .iload_n 1, 1, 0, 0, []), (23, .iaload, 23, 0, 0, []), (24, .aload_n 0, 0, 0, 0, []), (25, .getfield 128, 9, 47, 2, []), (28, .iload_n 2, 2, 0, 0, []), (29, .iaload, 47, 0, 0, []), (30, .invokestatic 225, 1, 2, 0, []), (33, .ifCond .eq 7, 40, 0, 0, []), (36, .iconst 1, 0, 0, 0, []), (37, .goto 4, 41, 0, 0, []), (40, .iconst 0, 0, 0, 0, []), (41, .istore 5, 5, 0, 0, []), (43, .iload 5, 5, 0, 0, []), (45, .ifCond .eq 51, 96, 0, 0, []), (48, .aload_n 0, 0, 0, 0, []), (49, .getfield 71, 9, 26, 2, []), (52, .iload_n 1, 1, 0, 0, []), (53, .iaload, 26, 0, 0, []), (54, .iconst (-1), 0, 0, 0, []), (55, .if_icmp .eq 18, 73, 0, 0, []), (58, .aload_n 0, 0, 0, 0, []), (59, .getfield 71, 9, 26, 2, []), (62, .iload_n 1, 1, 0, 0, []), (63, .iaload, 26, 0, 0, []), (64, .aload_n 0, 0, 0, 0, []), (65, .getfield 128, 9, 47, 2, []), (68, .iload_n 2, 2, 0, 0, []), (69, .iaload, 47, 0, 0, []), (70, .if_icmp .ne 26, 96, 0, 0, []), (73, .aload_n 0, 0, 0, 0, []), (74, .getfield 65, 9, 24, 2, []), (77, .iload_n 1, 1, 0, 0, []), (78, .iaload, 24, 0, 0, []), (79, .ifCond .eq 13, 92, 0, 0, []), (82, .aload_n 0, 0, 0, 0, []), (83, .getfield 68, 9, 25, 2, []), (86, .iload_n 1, 1, 0, 0, []), (87, .iaload, 25, 0, 0, []), (88, .iload_n 2, 2, 0, 0, []), (89, .if_icmp .ne 7, 96, 0, 0, []), (92, .iconst 1, 0, 0, 0, []), (93, .goto 4, 97, 0, 0, []), (96, .iconst 0, 0, 0, 0, []), (97, .istore 5, 5, 0, 0, []), (99, .aload_n 0, 0, 0, 0, []), (100, .getfield 56, 9, 20, 2, []), (103, .iload 4, 4, 0, 0, []), (105, .iaload, 20, 0, 0, []), (106, .aload_n 0, 0, 0, 0, []), (107, .getfield 228, 9, 1, 0, []), (110, .if_icmp .ne 13, 123, 0, 0, []), (113, .aload_n 0, 0, 0, 0, []), (114, .getfield 59, 9, 21, 2, []), (117, .iload 4, 4, 0, 0, []), (119, .iaload, 21, 0, 0, []), (120, .goto 4, 124, 0, 0, []), (123, .iconst 0, 0, 0, 0, []), (124, .istore 6, 6, 0, 0, []), (126, .iload 5, 5, 0, 0, []), (128, .ifCond .eq 38, 166, 0, 0, []), (131, .aload_n 0, 0, 0, 0, []), (132, .getfield 65, 9, 24, 2, []), (135, .iload_n 1, 1, 0, 0, []), (136, .iaload, 24, 0, 0, []), (137, .iload_n 3, 3, 0, 0, []), (138, .iadd, 0, 0, 0, []), (139, .bipush 12, 0, 0, 0, []), (141, .if_icmp .gt 25, 166, 0, 0, []), (144, .iload_n 3, 3, 0, 0, []), (145, .aload_n 0, 0, 0, 0, []), (146, .iload_n 2, 2, 0, 0, []), (147, .invokevirtual 231, 2, 2, 9, []), (150, .if_icmp .gt 16, 166, 0, 0, []), (153, .iload 6, 6, 0, 0, []), (155, .iload_n 3, 3, 0, 0, []), (156, .iadd, 0, 0, 0, []), (157, .bipush 12, 0, 0, 0, []), (159, .if_icmp .gt 7, 166, 0, 0, []), (162, .iconst 1, 0, 0, 0, []), (163, .goto 4, 167, 0, 0, []), (166, .iconst 0, 0, 0, 0, []), (167, .ireturn, 1, 0, 0, [])]
def clX8_canLoad : List (Instr × Nat × Nat × Nat) := [(.invokevirtual 222, 0, 3, 9), (.invokestatic 225, 1, 2, 0), (.invokevirtual 231, 2, 2, 9)]
def thX8_canLoad : List (Nat × Nat) := []
theorem ckX8_canLoad : tbX8_canLoad.all (xRow RX8 cX8_canLoad wsX8_canLoad vwCl [9] clX8_canLoad thX8_canLoad 7 (yX8_canLoad.name == "<init>") (some .boolean)) = true := xRow_q 0xac030400a7040700a30c10601d06151000a3e700b61c2a1d1900a30c10601d2e1b4100b42a26009905150636030400a72e04153b00b42a0d00a0e400b42a2e04153800b42a0536030400a7040700a01c2e1b4400b42a0d00992e1b4100b42a1a00a02e1c8000b42a2e1b4700b42a12009f022e1b4700b42a33009905150536030400a704070099e100b82e1c8000b42a2e1b3e00b42a190099de00b604151b2a04362e1c8300b42a 168 (by decide +kernel) (by decide +kernel)
theorem usX8_canLoad : xUse wsX8_canLoad vwCl [9] = true := xUse_g rfl (lw_good lwl_X8_canLoad lwl_X80 (by decide +kernel)) xUse_n
theorem tbX8_canLoad_0 {k : Instr → Nat → Nat → Nat → List Nat → Prop} : xse (xFind tbX8_canLoad 0) k = k (.aload_n 0) 0 0 0 [] := rfl
theorem tbX8_canLoad_1 {k : Instr → Nat → Nat → Nat → List Nat → Prop} : xse (xFind tbX8_canLoad 1) k = k (.getfield 131) 9 48 2 [] := rfl
theorem tbX8_canLoad_4 {k : Instr → Nat → Nat → Nat → List Nat → Prop} : xse (xFind tbX8_canLoad 4) k = k (.iload_n 2) 2 0 0 [] := rfl
theorem tbX8_canLoad_5 {k : Instr → Nat → Nat → Nat → List Nat → Prop} : xse (xFind tbX8_canLoad 5) k = k (.iaload) 48 0 0 [] := rfl
theorem tbX8_canLoad_6 {k : Instr → Nat → Nat → Nat → List Nat → Prop} : xse (xFind tbX8_canLoad 6) k = k (.istore 4) 4 0 0 [] := rfl
theorem tbX8_canLoad_8 {k : Instr → Nat → Nat → Nat → List Nat → Prop} : xse (xFind tbX8_canLoad 8) k = k (.aload_n 0) 0 0 0 [] := rfl
theorem tbX8_canLoad_9 {k : Instr → Nat → Nat → Nat → List Nat → Prop} : xse (xFind tbX8_canLoad 9) k = k (.iload_n 1) 1 0 0 [] := rfl
theorem tbX8_canLoad_10 {k : Instr → Nat → Nat → Nat → List Nat → Prop} : xse (xFind tbX8_canLoad 10) k = k (.iload 4) 4 0 0 [] := rfl
theorem tbX8_canLoad_12 {k : Instr → Nat → Nat → Nat → List Nat → Prop} : xse (xFind tbX8_canLoad 12) k = k (.invokevirtual 222) 0 3 9 [] := rfl
theorem tbX8_canLoad_15 {k : Instr → Nat → Nat → Nat → List Nat → Prop} : xse (xFind tbX8_canLoad 15) k = k (.ifCond .eq 25) 40 0 0 [] := rfl
theorem tbX8_canLoad_18 {k : Instr → Nat → Nat → Nat → List Nat → Prop} : xse (xFind tbX8_canLoad 18) k = k (.aload_n 0) 0 0 0 [] := rfl
theorem tbX8_canLoad_19 {k : Instr → Nat → Nat → Nat → List Nat → Prop} : xse (xFind tbX8_canLoad 19) k = k (.getfield 62) 9 23 2 [] := rfl
theorem tbX8_canLoad_22 {k : Instr → Nat → Nat → Nat → List Nat → Prop} : xse (xFind tbX8_canLoad 22) k = k (.iload_n 1) 1 0 0 [] := rfl
theorem tbX8_canLoad_23 {k : Instr → Nat → Nat → Nat → List Nat → Prop} : xse (xFind tbX8_canLoad 23) k = k (.iaload) 23 0 0 [] := rfl
theorem tbX8_canLoad_24 {k : Instr → Nat → Nat → Nat → List Nat → Prop} : xse (xFind tbX8_canLoad 24) k = k (.aload_n 0) 0 0 0 [] := rfl
theorem tbX8_canLoad_25 {k : Instr → Nat → Nat → Nat → List Nat → Prop} : xse (xFind tbX8_canLoad 25) k = k (.getfield 128) 9 47 2 [] := rfl
theorem tbX8_canLoad_28 {k : Instr → Nat → Nat → Nat → List Nat → Prop} : xse (xFind tbX8_canLoad 28) k = k (.iload_n 2) 2 0 0 [] := rfl
theorem tbX8_canLoad_29 {k : Instr → Nat → Nat → Nat → List Nat → Prop} : xse (xFind tbX8_canLoad 29) k = k (.iaload) 47 0 0 [] := rfl
theorem tbX8_canLoad_30 {k : Instr → Nat → Nat → Nat → List Nat → Prop} : xse (xFind tbX8_canLoad 30) k = k (.invokestatic 225) 1 2 0 [] := rfl
theorem tbX8_canLoad_33 {k : Instr → Nat → Nat → Nat → List Nat → Prop} : xse (xFind tbX8_canLoad 33) k = k (.ifCond .eq 7) 40 0 0 [] := rfl
theorem tbX8_canLoad_36 {k : Instr → Nat → Nat → Nat → List Nat → Prop} : xse (xFind tbX8_canLoad 36) k = k (.iconst 1) 0 0 0 [] := rfl
theorem tbX8_canLoad_37 {k : Instr → Nat → Nat → Nat → List Nat → Prop} : xse (xFind tbX8_canLoad 37) k = k (.goto 4) 41 0 0 [] := rfl
theorem tbX8_canLoad_40 {k : Instr → Nat → Nat → Nat → List Nat → Prop} : xse (xFind tbX8_canLoad 40) k = k (.iconst 0) 0 0 0 [] := rfl
theorem tbX8_canLoad_41 {k : Instr → Nat → Nat → Nat → List Nat → Prop} : xse (xFind tbX8_canLoad 41) k = k (.istore 5) 5 0 0 [] := rfl
theorem tbX8_canLoad_43 {k : Instr → Nat → Nat → Nat → List Nat → Prop} : xse (xFind tbX8_canLoad 43) k = k (.iload 5) 5 0 0 [] := rfl
theorem tbX8_canLoad_45 {k : Instr → Nat → Nat → Nat → List Nat → Prop} : xse (xFind tbX8_canLoad 45) k = k (.ifCond .eq 51) 96 0 0 [] := rfl
theorem tbX8_canLoad_48 {k : Instr → Nat → Nat → Nat → List Nat → Prop} : xse (xFind tbX8_canLoad 48) k = k (.aload_n 0) 0 0 0 [] := rfl
theorem tbX8_canLoad_49 {k : Instr → Nat → Nat → Nat → List Nat → Prop} : xse (xFind tbX8_canLoad 49) k = k (.getfield 71) 9 26 2 [] := rfl
theorem tbX8_canLoad_52 {k : Instr → Nat → Nat → Nat → List Nat → Prop} : xse (xFind tbX8_canLoad 52) k = k (.iload_n 1) 1 0 0 [] := rfl
theorem tbX8_canLoad_53 {k : Instr → Nat → Nat → Nat → List Nat → Prop} : xse (xFind tbX8_canLoad 53) k = k (.iaload) 26 0 0 [] := rfl
theorem tbX8_canLoad_54 {k : Instr → Nat → Nat → Nat → List Nat → Prop} : xse (xFind tbX8_canLoad 54) k = k (.iconst (-1)) 0 0 0 [] := rfl
theorem tbX8_canLoad_55 {k : Instr → Nat → Nat → Nat → List Nat → Prop} : xse (xFind tbX8_canLoad 55) k = k (.if_icmp .eq 18) 73 0 0 [] := rfl
theorem tbX8_canLoad_58 {k : Instr → Nat → Nat → Nat → List Nat → Prop} : xse (xFind tbX8_canLoad 58) k = k (.aload_n 0) 0 0 0 [] := rfl
theorem tbX8_canLoad_59 {k : Instr → Nat → Nat → Nat → List Nat → Prop} : xse (xFind tbX8_canLoad 59) k = k (.getfield 71) 9 26 2 [] := rfl
theorem tbX8_canLoad_62 {k : Instr → Nat → Nat → Nat → List Nat → Prop} : xse (xFind tbX8_canLoad 62) k = k (.iload_n 1) 1 0 0 [] := rfl
theorem tbX8_canLoad_63 {k : Instr → Nat → Nat → Nat → List Nat → Prop} : xse (xFind tbX8_canLoad 63) k = k (.iaload) 26 0 0 [] := rfl
theorem tbX8_canLoad_64 {k : Instr → Nat → Nat → Nat → List Nat → Prop} : xse (xFind tbX8_canLoad 64) k = k (.aload_n 0) 0 0 0 [] := rfl
theorem tbX8_canLoad_65 {k : Instr → Nat → Nat → Nat → List Nat → Prop} : xse (xFind tbX8_canLoad 65) k = k (.getfield 128) 9 47 2 [] := rfl
theorem tbX8_canLoad_68 {k : Instr → Nat → Nat → Nat → List Nat → Prop} : xse (xFind tbX8_canLoad 68) k = k (.iload_n 2) 2 0 0 [] := rfl
theorem tbX8_canLoad_69 {k : Instr → Nat → Nat → Nat → List Nat → Prop} : xse (xFind tbX8_canLoad 69) k = k (.iaload) 47 0 0 [] := rfl
theorem tbX8_canLoad_70 {k : Instr → Nat → Nat → Nat → List Nat → Prop} : xse (xFind tbX8_canLoad 70) k = k (.if_icmp .ne 26) 96 0 0 [] := rfl
theorem tbX8_canLoad_73 {k : Instr → Nat → Nat → Nat → List Nat → Prop} : xse (xFind tbX8_canLoad 73) k = k (.aload_n 0) 0 0 0 [] := rfl
theorem tbX8_canLoad_74 {k : Instr → Nat → Nat → Nat → List Nat → Prop} : xse (xFind tbX8_canLoad 74) k = k (.getfield 65) 9 24 2 [] := rfl
theorem tbX8_canLoad_77 {k : Instr → Nat → Nat → Nat → List Nat → Prop} : xse (xFind tbX8_canLoad 77) k = k (.iload_n 1) 1 0 0 [] := rfl
theorem tbX8_canLoad_78 {k : Instr → Nat → Nat → Nat → List Nat → Prop} : xse (xFind tbX8_canLoad 78) k = k (.iaload) 24 0 0 [] := rfl
theorem tbX8_canLoad_79 {k : Instr → Nat → Nat → Nat → List Nat → Prop} : xse (xFind tbX8_canLoad 79) k = k (.ifCond .eq 13) 92 0 0 [] := rfl
theorem tbX8_canLoad_82 {k : Instr → Nat → Nat → Nat → List Nat → Prop} : xse (xFind tbX8_canLoad 82) k = k (.aload_n 0) 0 0 0 [] := rfl
theorem tbX8_canLoad_83 {k : Instr → Nat → Nat → Nat → List Nat → Prop} : xse (xFind tbX8_canLoad 83) k = k (.getfield 68) 9 25 2 [] := rfl
theorem tbX8_canLoad_86 {k : Instr → Nat → Nat → Nat → List Nat → Prop} : xse (xFind tbX8_canLoad 86) k = k (.iload_n 1) 1 0 0 [] := rfl
theorem tbX8_canLoad_87 {k : Instr → Nat → Nat → Nat → List Nat → Prop} : xse (xFind tbX8_canLoad 87) k = k (.iaload) 25 0 0 [] := rfl
theorem tbX8_canLoad_88 {k : Instr → Nat → Nat → Nat → List Nat → Prop} : xse (xFind tbX8_canLoad 88) k = k (.iload_n 2) 2 0 0 [] := rfl
theorem tbX8_canLoad_89 {k : Instr → Nat → Nat → Nat → List Nat → Prop} : xse (xFind tbX8_canLoad 89) k = k (.if_icmp .ne 7) 96 0 0 [] := rfl
theorem tbX8_canLoad_92 {k : Instr → Nat → Nat → Nat → List Nat → Prop} : xse (xFind tbX8_canLoad 92) k = k (.iconst 1) 0 0 0 [] := rfl
theorem tbX8_canLoad_93 {k : Instr → Nat → Nat → Nat → List Nat → Prop} : xse (xFind tbX8_canLoad 93) k = k (.goto 4) 97 0 0 [] := rfl
theorem tbX8_canLoad_96 {k : Instr → Nat → Nat → Nat → List Nat → Prop} : xse (xFind tbX8_canLoad 96) k = k (.iconst 0) 0 0 0 [] := rfl
theorem tbX8_canLoad_97 {k : Instr → Nat → Nat → Nat → List Nat → Prop} : xse (xFind tbX8_canLoad 97) k = k (.istore 5) 5 0 0 [] := rfl
theorem tbX8_canLoad_99 {k : Instr → Nat → Nat → Nat → List Nat → Prop} : xse (xFind tbX8_canLoad 99) k = k (.aload_n 0) 0 0 0 [] := rfl
theorem tbX8_canLoad_100 {k : Instr → Nat → Nat → Nat → List Nat → Prop} : xse (xFind tbX8_canLoad 100) k = k (.getfield 56) 9 20 2 [] := rfl
theorem tbX8_canLoad_103 {k : Instr → Nat → Nat → Nat → List Nat → Prop} : xse (xFind tbX8_canLoad 103) k = k (.iload 4) 4 0 0 [] := rfl
theorem tbX8_canLoad_105 {k : Instr → Nat → Nat → Nat → List Nat → Prop} : xse (xFind tbX8_canLoad 105) k = k (.iaload) 20 0 0 [] := rfl
theorem tbX8_canLoad_106 {k : Instr → Nat → Nat → Nat → List Nat → Prop} : xse (xFind tbX8_canLoad 106) k = k (.aload_n 0) 0 0 0 [] := rfl
theorem tbX8_canLoad_107 {k : Instr → Nat → Nat → Nat → List Nat → Prop} : xse (xFind tbX8_canLoad 107) k = k (.getfield 228) 9 1 0 [] := rfl
theorem tbX8_canLoad_110 {k : Instr → Nat → Nat → Nat → List Nat → Prop} : xse (xFind tbX8_canLoad 110) k = k (.if_icmp .ne 13) 123 0 0 [] := rfl
theorem tbX8_canLoad_113 {k : Instr → Nat → Nat → Nat → List Nat → Prop} : xse (xFind tbX8_canLoad 113) k = k (.aload_n 0) 0 0 0 [] := rfl
theorem tbX8_canLoad_114 {k : Instr → Nat → Nat → Nat → List Nat → Prop} : xse (xFind tbX8_canLoad 114) k = k (.getfield 59) 9 21 2 [] := rfl
theorem tbX8_canLoad_117 {k : Instr → Nat → Nat → Nat → List Nat → Prop} : xse (xFind tbX8_canLoad 117) k = k (.iload 4) 4 0 0 [] := rfl
theorem tbX8_canLoad_119 {k : Instr → Nat → Nat → Nat → List Nat → Prop} : xse (xFind tbX8_canLoad 119) k = k (.iaload) 21 0 0 [] := rfl
theorem tbX8_canLoad_120 {k : Instr → Nat → Nat → Nat → List Nat → Prop} : xse (xFind tbX8_canLoad 120) k = k (.goto 4) 124 0 0 [] := rfl
theorem tbX8_canLoad_123 {k : Instr → Nat → Nat → Nat → List Nat → Prop} : xse (xFind tbX8_canLoad 123) k = k (.iconst 0) 0 0 0 [] := rfl
theorem tbX8_canLoad_124 {k : Instr → Nat → Nat → Nat → List Nat → Prop} : xse (xFind tbX8_canLoad 124) k = k (.istore 6) 6 0 0 [] := rfl
theorem tbX8_canLoad_126 {k : Instr → Nat → Nat → Nat → List Nat → Prop} : xse (xFind tbX8_canLoad 126) k = k (.iload 5) 5 0 0 [] := rfl
theorem tbX8_canLoad_128 {k : Instr → Nat → Nat → Nat → List Nat → Prop} : xse (xFind tbX8_canLoad 128) k = k (.ifCond .eq 38) 166 0 0 [] := rfl
theorem tbX8_canLoad_131 {k : Instr → Nat → Nat → Nat → List Nat → Prop} : xse (xFind tbX8_canLoad 131) k = k (.aload_n 0) 0 0 0 [] := rfl
theorem tbX8_canLoad_132 {k : Instr → Nat → Nat → Nat → List Nat → Prop} : xse (xFind tbX8_canLoad 132) k = k (.getfield 65) 9 24 2 [] := rfl
theorem tbX8_canLoad_135 {k : Instr → Nat → Nat → Nat → List Nat → Prop} : xse (xFind tbX8_canLoad 135) k = k (.iload_n 1) 1 0 0 [] := rfl
theorem tbX8_canLoad_136 {k : Instr → Nat → Nat → Nat → List Nat → Prop} : xse (xFind tbX8_canLoad 136) k = k (.iaload) 24 0 0 [] := rfl
theorem tbX8_canLoad_137 {k : Instr → Nat → Nat → Nat → List Nat → Prop} : xse (xFind tbX8_canLoad 137) k = k (.iload_n 3) 3 0 0 [] := rfl
theorem tbX8_canLoad_138 {k : Instr → Nat → Nat → Nat → List Nat → Prop} : xse (xFind tbX8_canLoad 138) k = k (.iadd) 0 0 0 [] := rfl
theorem tbX8_canLoad_139 {k : Instr → Nat → Nat → Nat → List Nat → Prop} : xse (xFind tbX8_canLoad 139) k = k (.bipush 12) 0 0 0 [] := rfl
theorem tbX8_canLoad_141 {k : Instr → Nat → Nat → Nat → List Nat → Prop} : xse (xFind tbX8_canLoad 141) k = k (.if_icmp .gt 25) 166 0 0 [] := rfl
theorem tbX8_canLoad_144 {k : Instr → Nat → Nat → Nat → List Nat → Prop} : xse (xFind tbX8_canLoad 144) k = k (.iload_n 3) 3 0 0 [] := rfl
theorem tbX8_canLoad_145 {k : Instr → Nat → Nat → Nat → List Nat → Prop} : xse (xFind tbX8_canLoad 145) k = k (.aload_n 0) 0 0 0 [] := rfl
theorem tbX8_canLoad_146 {k : Instr → Nat → Nat → Nat → List Nat → Prop} : xse (xFind tbX8_canLoad 146) k = k (.iload_n 2) 2 0 0 [] := rfl
theorem tbX8_canLoad_147 {k : Instr → Nat → Nat → Nat → List Nat → Prop} : xse (xFind tbX8_canLoad 147) k = k (.invokevirtual 231) 2 2 9 [] := rfl
theorem tbX8_canLoad_150 {k : Instr → Nat → Nat → Nat → List Nat → Prop} : xse (xFind tbX8_canLoad 150) k = k (.if_icmp .gt 16) 166 0 0 [] := rfl
theorem tbX8_canLoad_153 {k : Instr → Nat → Nat → Nat → List Nat → Prop} : xse (xFind tbX8_canLoad 153) k = k (.iload 6) 6 0 0 [] := rfl
theorem tbX8_canLoad_155 {k : Instr → Nat → Nat → Nat → List Nat → Prop} : xse (xFind tbX8_canLoad 155) k = k (.iload_n 3) 3 0 0 [] := rfl
theorem tbX8_canLoad_156 {k : Instr → Nat → Nat → Nat → List Nat → Prop} : xse (xFind tbX8_canLoad 156) k = k (.iadd) 0 0 0 [] := rfl
theorem tbX8_canLoad_157 {k : Instr → Nat → Nat → Nat → List Nat → Prop} : xse (xFind tbX8_canLoad 157) k = k (.bipush 12) 0 0 0 [] := rfl
theorem tbX8_canLoad_159 {k : Instr → Nat → Nat → Nat → List Nat → Prop} : xse (xFind tbX8_canLoad 159) k = k (.if_icmp .gt 7) 166 0 0 [] := rfl
theorem tbX8_canLoad_162 {k : Instr → Nat → Nat → Nat → List Nat → Prop} : xse (xFind tbX8_canLoad 162) k = k (.iconst 1) 0 0 0 [] := rfl
theorem tbX8_canLoad_163 {k : Instr → Nat → Nat → Nat → List Nat → Prop} : xse (xFind tbX8_canLoad 163) k = k (.goto 4) 167 0 0 [] := rfl
theorem tbX8_canLoad_166 {k : Instr → Nat → Nat → Nat → List Nat → Prop} : xse (xFind tbX8_canLoad 166) k = k (.iconst 0) 0 0 0 [] := rfl
theorem tbX8_canLoad_167 {k : Instr → Nat → Nat → Nat → List Nat → Prop} : xse (xFind tbX8_canLoad 167) k = k (.ireturn) 1 0 0 [] := rfl

def spX8_canLoad (aM : Nat → Nat) : xSp mS := (fun av M => (0, 0), fun av M K => ∃ (b : Int32) (c : Int32) (u : Int32), av = [.ref (aM 0), .int b, .int c, .int u] ∧ (mPl M b (mPlc M b) ∧ (M.1 22 = nI (nBg M) ∧ nBg M ≤ 24) ∧ vp_in c 12 ∧ vp_in (M.2 48 c.toNatClampNeg) 8 ∧ K (rI (bi (mCan M b c u (mPlc M b) (nBg M)))) M))
theorem spcX8_canLoad {av : List Value} {M : mS} {aM : Nat → Nat} : (spX8_canLoad aM).1 av M = (0, 0) := rfl
theorem spwX8_canLoad {M : mS} {aM : Nat → Nat} {K : xRes → mS → Prop} {b : Int32} {c : Int32} {u : Int32} : (spX8_canLoad aM).2 [.ref (aM 0), .int b, .int c, .int u] M K = (mPl M b (mPlc M b) ∧ (M.1 22 = nI (nBg M) ∧ nBg M ≤ 24) ∧ vp_in c 12 ∧ vp_in (M.2 48 c.toNatClampNeg) 8 ∧ K (rI (bi (mCan M b c u (mPlc M b) (nBg M)))) M) :=
  propext ⟨fun h => by
    simp only [spX8_canLoad] at h
    obtain ⟨_, _, _, e, h⟩ := h
    simp only [List.cons.injEq, Value.int.injEq, Value.ref.injEq, rf_eq, and_true, true_and] at e
    obtain ⟨rfl, rfl, rfl⟩ := e
    exact h, fun h => ⟨_, _, _, rfl, h⟩⟩

def callX8_canLoad (aM : Nat → Nat) : Nat → Option (xSp mS) := fun n => match n with | 0 => some (spX8_isOutermost aM) | 1 => some (spX8_suits aM) | 2 => some (spX8_open aM) | _ => none

theorem callX8_canLoad_0 {aM : Nat → Nat} {k : xSp mS → Prop} : xcs (callX8_canLoad aM 0) k = k (spX8_isOutermost aM) := rfl

theorem callX8_canLoad_1 {aM : Nat → Nat} {k : xSp mS → Prop} : xcs (callX8_canLoad aM 1) k = k (spX8_suits aM) := rfl

theorem callX8_canLoad_2 {aM : Nat → Nat} {k : xSp mS → Prop} : xcs (callX8_canLoad aM 2) k = k (spX8_open aM) := rfl

theorem crX8_canLoad (l : Launch) (W9 : xWd) (aM : Nat → Nat) (hi : mInj aM) : xCallsOK l W9 (mI aM) (callX8_canLoad aM) clX8_canLoad RX8 wsX8_canLoad 4 87 7 := by
  intro E A p e R s m args below meth c hI hF hL X
  exact List.forall_mem_cons.mpr ⟨⟨_, rfl, xCR_V X (by rw [hI]; exact (semX8_isOutermost l W9 aM hi)) gX8_canLoad_X8_isOutermost rfl rfl (by decide +kernel) (by rw [hF, hL]; decide)⟩,
    List.forall_mem_cons.mpr ⟨⟨_, rfl, xCR_S X (by rw [hI]; exact (semX8_suits l W9 aM hi)) gX8_canLoad_X8_suits rfl (by decide +kernel) (by rw [hF, hL]; decide)⟩,
    List.forall_mem_cons.mpr ⟨⟨_, rfl, xCR_V X (by rw [hI]; exact (semX8_open l W9 aM hi)) gX8_canLoad_X8_open rfl rfl (by decide +kernel) (by rw [hF, hL]; decide)⟩,
    fun _ h => nomatch h⟩⟩⟩

set_option maxHeartbeats 4000000 in
set_option maxRecDepth 20000 in
theorem semX8_canLoad (l : Launch) (W9 : xWd) (aM : Nat → Nat) (hi : mInj aM) : xSem l W9 (mI aM) yX8_canLoad wsX8_canLoad 4 87 (spX8_canLoad aM) := by
  refine xSem_of (call := callX8_canLoad aM) (thrf := fun _ => "") (mI_law hi) (by decide +kernel) rfl ckX8_canLoad usX8_canLoad (crX8_canLoad l W9 aM hi) xThrOK_nil ?_ ?_
  · intro av M KF h
    obtain ⟨b, c, u, rfl, h⟩ := h
    exact ⟨by intro v hv; simp only [List.mem_cons, List.not_mem_nil, or_false] at hv; rcases hv with rfl | rfl | rfl | rfl <;> first | rfl | exact cat_rf, Nat.le_of_ble_eq_true rfl⟩
  intro av M KF h G hG
  obtain ⟨b, c, u, rfl, h⟩ := h
  rw [show (spX8_canLoad aM).1 _ M = _ from spcX8_canLoad] at hG
  try dsimp only at hG
  change G 0 [some (.ref (aM 0)), some (.int b), some (.int c), some (.int u), none, none, none] [] M 0 0
  obtain ⟨hp, hn, hc, hf, h⟩ := h
  have hb := hp.1
  have h3 : mCan M b c u (mPlc M b) (nBg M) ↔ ((M.2 28 b.toNatClampNeg = -1 ∧ M.2 27 b.toNatClampNeg / 2 = M.2 48 c.toNatClampNeg ∧ mOut M b (mPlc M b) = 0) ∧ (if M.2 47 c.toNatClampNeg = 2 then M.2 23 b.toNatClampNeg = 2 else if M.2 47 c.toNatClampNeg = 1 then M.2 23 b.toNatClampNeg = 1 else M.2 23 b.toNatClampNeg ≠ 2) ∧ (M.2 26 b.toNatClampNeg = -1 ∨ M.2 26 b.toNatClampNeg = M.2 47 c.toNatClampNeg) ∧ (M.2 24 b.toNatClampNeg = 0 ∨ M.2 25 b.toNatClampNeg = c)) ∧ M.2 24 b.toNatClampNeg + u ≤ 12 ∧ u ≤ M.2 50 c.toNatClampNeg - mInB M c (nBg M) - M.2 53 c.toNatClampNeg ∧ (if M.2 20 (M.2 48 c.toNatClampNeg).toNatClampNeg = M.1 1 then M.2 21 (M.2 48 c.toNatClampNeg).toNatClampNeg else 0) + u ≤ 12 := by unfold mCan; grind
  have c126 : ∀ lv st S cs ss, (lv = [some (.ref (aM 0)), some (.int b), some (.int c), some (.int u), some (.int (M.2 48 c.toNatClampNeg)), some (.int (bi ((M.2 28 b.toNatClampNeg = -1 ∧ M.2 27 b.toNatClampNeg / 2 = M.2 48 c.toNatClampNeg ∧ mOut M b (mPlc M b) = 0) ∧ (if M.2 47 c.toNatClampNeg = 2 then M.2 23 b.toNatClampNeg = 2 else if M.2 47 c.toNatClampNeg = 1 then M.2 23 b.toNatClampNeg = 1 else M.2 23 b.toNatClampNeg ≠ 2) ∧ (M.2 26 b.toNatClampNeg = -1 ∨ M.2 26 b.toNatClampNeg = M.2 47 c.toNatClampNeg) ∧ (M.2 24 b.toNatClampNeg = 0 ∨ M.2 25 b.toNatClampNeg = c)))), some (.int (if M.2 20 (M.2 48 c.toNatClampNeg).toNatClampNeg = M.1 1 then M.2 21 (M.2 48 c.toNatClampNeg).toNatClampNeg else 0))] ∧ st = [] ∧ M = S ∧ cs = 0 ∧ ss = 0) → G 126 lv st S cs ss := by
      rintro lv st S cs ss ⟨rfl, rfl, rfl, rfl, (rfl)⟩
      refine xgo0 hG (fun fu hfu => ?_)
      simp only [↓callX8_canLoad_0, ↓callX8_canLoad_1, ↓callX8_canLoad_2, kb_12, kc_12, ki_0, ki_1, ki_m1, ↓ma_20, ↓ma_21, ↓ma_23, ↓ma_24, ↓ma_25, ↓ma_26, ↓ma_47, ↓ma_48, ↓mg_1, ↓mg_20, ↓mg_21, ↓mg_23, ↓mg_24, ↓mg_25, ↓mg_26, ↓mg_47, ↓mg_48, misa, ↓vm_aload_n, ↓vm_bipush, ↓vm_getfield, ↓vm_goto, ↓vm_iadd, ↓vm_iaload, ↓vm_iconst, ↓vm_ifCond_eq, ↓vm_if_icmp_eq, ↓vm_if_icmp_gt, ↓vm_if_icmp_ne, ↓vm_iload, ↓vm_iload_n, ↓vm_invokestatic, ↓vm_invokevirtual, ↓vm_ireturn, ↓vm_istore, ↓xc_2, ↓xc_3, ↓tbX8_canLoad_0, ↓tbX8_canLoad_1, ↓tbX8_canLoad_4, ↓tbX8_canLoad_5, ↓tbX8_canLoad_6, ↓tbX8_canLoad_8, ↓tbX8_canLoad_9, ↓tbX8_canLoad_10, ↓tbX8_canLoad_12, ↓tbX8_canLoad_15, ↓tbX8_canLoad_18, ↓tbX8_canLoad_19, ↓tbX8_canLoad_22, ↓tbX8_canLoad_23, ↓tbX8_canLoad_24, ↓tbX8_canLoad_25, ↓tbX8_canLoad_28, ↓tbX8_canLoad_29, ↓tbX8_canLoad_30, ↓tbX8_canLoad_33, ↓tbX8_canLoad_36, ↓tbX8_canLoad_37, ↓tbX8_canLoad_40, ↓tbX8_canLoad_41, ↓tbX8_canLoad_43, ↓tbX8_canLoad_45, ↓tbX8_canLoad_48, ↓tbX8_canLoad_49, ↓tbX8_canLoad_52, ↓tbX8_canLoad_53, ↓tbX8_canLoad_54, ↓tbX8_canLoad_55, ↓tbX8_canLoad_58, ↓tbX8_canLoad_59, ↓tbX8_canLoad_62, ↓tbX8_canLoad_63, ↓tbX8_canLoad_64, ↓tbX8_canLoad_65, ↓tbX8_canLoad_68, ↓tbX8_canLoad_69, ↓tbX8_canLoad_70, ↓tbX8_canLoad_73, ↓tbX8_canLoad_74, ↓tbX8_canLoad_77, ↓tbX8_canLoad_78, ↓tbX8_canLoad_79, ↓tbX8_canLoad_82, ↓tbX8_canLoad_83, ↓tbX8_canLoad_86, ↓tbX8_canLoad_87, ↓tbX8_canLoad_88, ↓tbX8_canLoad_89, ↓tbX8_canLoad_92, ↓tbX8_canLoad_93, ↓tbX8_canLoad_96, ↓tbX8_canLoad_97, ↓tbX8_canLoad_99, ↓tbX8_canLoad_100, ↓tbX8_canLoad_103, ↓tbX8_canLoad_105, ↓tbX8_canLoad_106, ↓tbX8_canLoad_107, ↓tbX8_canLoad_110, ↓tbX8_canLoad_113, ↓tbX8_canLoad_114, ↓tbX8_canLoad_117, ↓tbX8_canLoad_119, ↓tbX8_canLoad_120, ↓tbX8_canLoad_123, ↓tbX8_canLoad_124, ↓tbX8_canLoad_126, ↓tbX8_canLoad_128, ↓tbX8_canLoad_131, ↓tbX8_canLoad_132, ↓tbX8_canLoad_135, ↓tbX8_canLoad_136, ↓tbX8_canLoad_137, ↓tbX8_canLoad_138, ↓tbX8_canLoad_139, ↓tbX8_canLoad_141, ↓tbX8_canLoad_144, ↓tbX8_canLoad_145, ↓tbX8_canLoad_146, ↓tbX8_canLoad_147, ↓tbX8_canLoad_150, ↓tbX8_canLoad_153, ↓tbX8_canLoad_155, ↓tbX8_canLoad_156, ↓tbX8_canLoad_157, ↓tbX8_canLoad_159, ↓tbX8_canLoad_162, ↓tbX8_canLoad_163, ↓tbX8_canLoad_166, ↓tbX8_canLoad_167, hfu, xstep0, xJ1_hit, xJ1_go, xJ2_hit1, xJ2_hit2, xJ2_go, ↓xif_t, ↓xif_f, seval, ↓xca_eq, ↓xre_l, ↓xre_r, xmask_t, xmask_f, xmask_nil, ↓xst_eq, xX_eq, eI_eq, eMc_eq, eMs_eq, eF_eq, eThr_eq, ↓xS1_mk, ↓xSI_mk, ↓xSR_mk, ↓xLI_0, ↓xLI_s, ↓xLR_0, ↓xLR_s, vRef_ref, vRef_null, vRef_rf, cat_int, cat_ref, cat_null, cat_rf, rf_some, rf_none, rf_null, rf_eq, rf_ref, ref_rf, ref_null, ref_ref, xOk_0, xOk_1, xOk_2r, xOk_2n, xOk_2f, vOpt_rf, vOpt_ref, vOpt_null, List.set_cons_zero, List.set_cons_succ, List.take_succ_cons, List.take_zero, List.drop_succ_cons, List.drop_zero, List.reverse_cons, List.reverse_nil, List.nil_append, List.cons_append, List.append_nil, List.length_cons, List.length_nil, List.map_cons, List.map_nil, List.sum_cons, List.sum_nil, Option.toList_some, Option.toList_none, xRecv_mk, true_and, and_true, true_implies, Nat.reduceAdd, Nat.reduceLeDiff, Nat.zero_le, Nat.le_refl, Nat.add_zero, Nat.zero_add, reduceIte, not_true_eq_false, not_false_eq_true, false_implies, and_self, implies_true, eq_self, Nat.reduceEqDiff, List.cons.injEq, xsn_1, xsn_2, false_and, and_false, or_false, false_or, or_true, true_or, xsn_3, xsn_4, ↓spwX8_isOutermost, spcX8_isOutermost, ↓spwX8_suits, spcX8_suits, ↓spwX8_open, spcX8_open, hc, hf, hb, hp, hn, bi_0]
      try simp only [xif_e]
      grind [bi]
  have c99 : ∀ lv st S cs ss, (lv = [some (.ref (aM 0)), some (.int b), some (.int c), some (.int u), some (.int (M.2 48 c.toNatClampNeg)), some (.int (bi ((M.2 28 b.toNatClampNeg = -1 ∧ M.2 27 b.toNatClampNeg / 2 = M.2 48 c.toNatClampNeg ∧ mOut M b (mPlc M b) = 0) ∧ (if M.2 47 c.toNatClampNeg = 2 then M.2 23 b.toNatClampNeg = 2 else if M.2 47 c.toNatClampNeg = 1 then M.2 23 b.toNatClampNeg = 1 else M.2 23 b.toNatClampNeg ≠ 2) ∧ (M.2 26 b.toNatClampNeg = -1 ∨ M.2 26 b.toNatClampNeg = M.2 47 c.toNatClampNeg) ∧ (M.2 24 b.toNatClampNeg = 0 ∨ M.2 25 b.toNatClampNeg = c)))), none] ∧ st = [] ∧ M = S ∧ cs = 0 ∧ ss = 0) → G 99 lv st S cs ss := by
      rintro lv st S cs ss ⟨rfl, rfl, rfl, rfl, (rfl)⟩
      refine xgo hG (mb := [true, true, true, true, true, true, true]) c126 (fun fu hfu => ?_)
      simp only [↓callX8_canLoad_0, ↓callX8_canLoad_1, ↓callX8_canLoad_2, kb_12, kc_12, ki_0, ki_1, ki_m1, ↓ma_20, ↓ma_21, ↓ma_23, ↓ma_24, ↓ma_25, ↓ma_26, ↓ma_47, ↓ma_48, ↓mg_1, ↓mg_20, ↓mg_21, ↓mg_23, ↓mg_24, ↓mg_25, ↓mg_26, ↓mg_47, ↓mg_48, misa, ↓vm_aload_n, ↓vm_bipush, ↓vm_getfield, ↓vm_goto, ↓vm_iadd, ↓vm_iaload, ↓vm_iconst, ↓vm_ifCond_eq, ↓vm_if_icmp_eq, ↓vm_if_icmp_gt, ↓vm_if_icmp_ne, ↓vm_iload, ↓vm_iload_n, ↓vm_invokestatic, ↓vm_invokevirtual, ↓vm_ireturn, ↓vm_istore, ↓xc_2, ↓xc_3, ↓tbX8_canLoad_0, ↓tbX8_canLoad_1, ↓tbX8_canLoad_4, ↓tbX8_canLoad_5, ↓tbX8_canLoad_6, ↓tbX8_canLoad_8, ↓tbX8_canLoad_9, ↓tbX8_canLoad_10, ↓tbX8_canLoad_12, ↓tbX8_canLoad_15, ↓tbX8_canLoad_18, ↓tbX8_canLoad_19, ↓tbX8_canLoad_22, ↓tbX8_canLoad_23, ↓tbX8_canLoad_24, ↓tbX8_canLoad_25, ↓tbX8_canLoad_28, ↓tbX8_canLoad_29, ↓tbX8_canLoad_30, ↓tbX8_canLoad_33, ↓tbX8_canLoad_36, ↓tbX8_canLoad_37, ↓tbX8_canLoad_40, ↓tbX8_canLoad_41, ↓tbX8_canLoad_43, ↓tbX8_canLoad_45, ↓tbX8_canLoad_48, ↓tbX8_canLoad_49, ↓tbX8_canLoad_52, ↓tbX8_canLoad_53, ↓tbX8_canLoad_54, ↓tbX8_canLoad_55, ↓tbX8_canLoad_58, ↓tbX8_canLoad_59, ↓tbX8_canLoad_62, ↓tbX8_canLoad_63, ↓tbX8_canLoad_64, ↓tbX8_canLoad_65, ↓tbX8_canLoad_68, ↓tbX8_canLoad_69, ↓tbX8_canLoad_70, ↓tbX8_canLoad_73, ↓tbX8_canLoad_74, ↓tbX8_canLoad_77, ↓tbX8_canLoad_78, ↓tbX8_canLoad_79, ↓tbX8_canLoad_82, ↓tbX8_canLoad_83, ↓tbX8_canLoad_86, ↓tbX8_canLoad_87, ↓tbX8_canLoad_88, ↓tbX8_canLoad_89, ↓tbX8_canLoad_92, ↓tbX8_canLoad_93, ↓tbX8_canLoad_96, ↓tbX8_canLoad_97, ↓tbX8_canLoad_99, ↓tbX8_canLoad_100, ↓tbX8_canLoad_103, ↓tbX8_canLoad_105, ↓tbX8_canLoad_106, ↓tbX8_canLoad_107, ↓tbX8_canLoad_110, ↓tbX8_canLoad_113, ↓tbX8_canLoad_114, ↓tbX8_canLoad_117, ↓tbX8_canLoad_119, ↓tbX8_canLoad_120, ↓tbX8_canLoad_123, ↓tbX8_canLoad_124, ↓tbX8_canLoad_126, ↓tbX8_canLoad_128, ↓tbX8_canLoad_131, ↓tbX8_canLoad_132, ↓tbX8_canLoad_135, ↓tbX8_canLoad_136, ↓tbX8_canLoad_137, ↓tbX8_canLoad_138, ↓tbX8_canLoad_139, ↓tbX8_canLoad_141, ↓tbX8_canLoad_144, ↓tbX8_canLoad_145, ↓tbX8_canLoad_146, ↓tbX8_canLoad_147, ↓tbX8_canLoad_150, ↓tbX8_canLoad_153, ↓tbX8_canLoad_155, ↓tbX8_canLoad_156, ↓tbX8_canLoad_157, ↓tbX8_canLoad_159, ↓tbX8_canLoad_162, ↓tbX8_canLoad_163, ↓tbX8_canLoad_166, ↓tbX8_canLoad_167, hfu, xstep0, xJ1_hit, xJ1_go, xJ2_hit1, xJ2_hit2, xJ2_go, ↓xif_t, ↓xif_f, seval, ↓xca_eq, ↓xre_l, ↓xre_r, xmask_t, xmask_f, xmask_nil, ↓xst_eq, xX_eq, eI_eq, eMc_eq, eMs_eq, eF_eq, eThr_eq, ↓xS1_mk, ↓xSI_mk, ↓xSR_mk, ↓xLI_0, ↓xLI_s, ↓xLR_0, ↓xLR_s, vRef_ref, vRef_null, vRef_rf, cat_int, cat_ref, cat_null, cat_rf, rf_some, rf_none, rf_null, rf_eq, rf_ref, ref_rf, ref_null, ref_ref, xOk_0, xOk_1, xOk_2r, xOk_2n, xOk_2f, vOpt_rf, vOpt_ref, vOpt_null, List.set_cons_zero, List.set_cons_succ, List.take_succ_cons, List.take_zero, List.drop_succ_cons, List.drop_zero, List.reverse_cons, List.reverse_nil, List.nil_append, List.cons_append, List.append_nil, List.length_cons, List.length_nil, List.map_cons, List.map_nil, List.sum_cons, List.sum_nil, Option.toList_some, Option.toList_none, xRecv_mk, true_and, and_true, true_implies, Nat.reduceAdd, Nat.reduceLeDiff, Nat.zero_le, Nat.le_refl, Nat.add_zero, Nat.zero_add, reduceIte, not_true_eq_false, not_false_eq_true, false_implies, and_self, implies_true, eq_self, Nat.reduceEqDiff, List.cons.injEq, xsn_1, xsn_2, false_and, and_false, or_false, false_or, or_true, true_or, xsn_3, xsn_4, ↓spwX8_isOutermost, spcX8_isOutermost, ↓spwX8_suits, spcX8_suits, ↓spwX8_open, spcX8_open, hc, hf, hb, hp, hn, bi_0]
      try simp only [xif_e]
      grind [bi]
  have c43 : ∀ lv st S cs ss, (lv = [some (.ref (aM 0)), some (.int b), some (.int c), some (.int u), some (.int (M.2 48 c.toNatClampNeg)), some (.int (bi ((M.2 28 b.toNatClampNeg = -1 ∧ M.2 27 b.toNatClampNeg / 2 = M.2 48 c.toNatClampNeg ∧ mOut M b (mPlc M b) = 0) ∧ (if M.2 47 c.toNatClampNeg = 2 then M.2 23 b.toNatClampNeg = 2 else if M.2 47 c.toNatClampNeg = 1 then M.2 23 b.toNatClampNeg = 1 else M.2 23 b.toNatClampNeg ≠ 2)))), none] ∧ st = [] ∧ M = S ∧ cs = 0 ∧ ss = 0) → G 43 lv st S cs ss := by
      rintro lv st S cs ss ⟨rfl, rfl, rfl, rfl, (rfl)⟩
      refine xgo hG (mb := [true, true, true, true, true, true, false]) c99 (fun fu hfu => ?_)
      simp only [↓callX8_canLoad_0, ↓callX8_canLoad_1, ↓callX8_canLoad_2, kb_12, kc_12, ki_0, ki_1, ki_m1, ↓ma_20, ↓ma_21, ↓ma_23, ↓ma_24, ↓ma_25, ↓ma_26, ↓ma_47, ↓ma_48, ↓mg_1, ↓mg_20, ↓mg_21, ↓mg_23, ↓mg_24, ↓mg_25, ↓mg_26, ↓mg_47, ↓mg_48, misa, ↓vm_aload_n, ↓vm_bipush, ↓vm_getfield, ↓vm_goto, ↓vm_iadd, ↓vm_iaload, ↓vm_iconst, ↓vm_ifCond_eq, ↓vm_if_icmp_eq, ↓vm_if_icmp_gt, ↓vm_if_icmp_ne, ↓vm_iload, ↓vm_iload_n, ↓vm_invokestatic, ↓vm_invokevirtual, ↓vm_ireturn, ↓vm_istore, ↓xc_2, ↓xc_3, ↓tbX8_canLoad_0, ↓tbX8_canLoad_1, ↓tbX8_canLoad_4, ↓tbX8_canLoad_5, ↓tbX8_canLoad_6, ↓tbX8_canLoad_8, ↓tbX8_canLoad_9, ↓tbX8_canLoad_10, ↓tbX8_canLoad_12, ↓tbX8_canLoad_15, ↓tbX8_canLoad_18, ↓tbX8_canLoad_19, ↓tbX8_canLoad_22, ↓tbX8_canLoad_23, ↓tbX8_canLoad_24, ↓tbX8_canLoad_25, ↓tbX8_canLoad_28, ↓tbX8_canLoad_29, ↓tbX8_canLoad_30, ↓tbX8_canLoad_33, ↓tbX8_canLoad_36, ↓tbX8_canLoad_37, ↓tbX8_canLoad_40, ↓tbX8_canLoad_41, ↓tbX8_canLoad_43, ↓tbX8_canLoad_45, ↓tbX8_canLoad_48, ↓tbX8_canLoad_49, ↓tbX8_canLoad_52, ↓tbX8_canLoad_53, ↓tbX8_canLoad_54, ↓tbX8_canLoad_55, ↓tbX8_canLoad_58, ↓tbX8_canLoad_59, ↓tbX8_canLoad_62, ↓tbX8_canLoad_63, ↓tbX8_canLoad_64, ↓tbX8_canLoad_65, ↓tbX8_canLoad_68, ↓tbX8_canLoad_69, ↓tbX8_canLoad_70, ↓tbX8_canLoad_73, ↓tbX8_canLoad_74, ↓tbX8_canLoad_77, ↓tbX8_canLoad_78, ↓tbX8_canLoad_79, ↓tbX8_canLoad_82, ↓tbX8_canLoad_83, ↓tbX8_canLoad_86, ↓tbX8_canLoad_87, ↓tbX8_canLoad_88, ↓tbX8_canLoad_89, ↓tbX8_canLoad_92, ↓tbX8_canLoad_93, ↓tbX8_canLoad_96, ↓tbX8_canLoad_97, ↓tbX8_canLoad_99, ↓tbX8_canLoad_100, ↓tbX8_canLoad_103, ↓tbX8_canLoad_105, ↓tbX8_canLoad_106, ↓tbX8_canLoad_107, ↓tbX8_canLoad_110, ↓tbX8_canLoad_113, ↓tbX8_canLoad_114, ↓tbX8_canLoad_117, ↓tbX8_canLoad_119, ↓tbX8_canLoad_120, ↓tbX8_canLoad_123, ↓tbX8_canLoad_124, ↓tbX8_canLoad_126, ↓tbX8_canLoad_128, ↓tbX8_canLoad_131, ↓tbX8_canLoad_132, ↓tbX8_canLoad_135, ↓tbX8_canLoad_136, ↓tbX8_canLoad_137, ↓tbX8_canLoad_138, ↓tbX8_canLoad_139, ↓tbX8_canLoad_141, ↓tbX8_canLoad_144, ↓tbX8_canLoad_145, ↓tbX8_canLoad_146, ↓tbX8_canLoad_147, ↓tbX8_canLoad_150, ↓tbX8_canLoad_153, ↓tbX8_canLoad_155, ↓tbX8_canLoad_156, ↓tbX8_canLoad_157, ↓tbX8_canLoad_159, ↓tbX8_canLoad_162, ↓tbX8_canLoad_163, ↓tbX8_canLoad_166, ↓tbX8_canLoad_167, hfu, xstep0, xJ1_hit, xJ1_go, xJ2_hit1, xJ2_hit2, xJ2_go, ↓xif_t, ↓xif_f, seval, ↓xca_eq, ↓xre_l, ↓xre_r, xmask_t, xmask_f, xmask_nil, ↓xst_eq, xX_eq, eI_eq, eMc_eq, eMs_eq, eF_eq, eThr_eq, ↓xS1_mk, ↓xSI_mk, ↓xSR_mk, ↓xLI_0, ↓xLI_s, ↓xLR_0, ↓xLR_s, vRef_ref, vRef_null, vRef_rf, cat_int, cat_ref, cat_null, cat_rf, rf_some, rf_none, rf_null, rf_eq, rf_ref, ref_rf, ref_null, ref_ref, xOk_0, xOk_1, xOk_2r, xOk_2n, xOk_2f, vOpt_rf, vOpt_ref, vOpt_null, List.set_cons_zero, List.set_cons_succ, List.take_succ_cons, List.take_zero, List.drop_succ_cons, List.drop_zero, List.reverse_cons, List.reverse_nil, List.nil_append, List.cons_append, List.append_nil, List.length_cons, List.length_nil, List.map_cons, List.map_nil, List.sum_cons, List.sum_nil, Option.toList_some, Option.toList_none, xRecv_mk, true_and, and_true, true_implies, Nat.reduceAdd, Nat.reduceLeDiff, Nat.zero_le, Nat.le_refl, Nat.add_zero, Nat.zero_add, reduceIte, not_true_eq_false, not_false_eq_true, false_implies, and_self, implies_true, eq_self, Nat.reduceEqDiff, List.cons.injEq, xsn_1, xsn_2, false_and, and_false, or_false, false_or, or_true, true_or, xsn_3, xsn_4, ↓spwX8_isOutermost, spcX8_isOutermost, ↓spwX8_suits, spcX8_suits, ↓spwX8_open, spcX8_open, hc, hf, hb, hp, hn, bi_0]
      try simp only [xif_e]
      grind [bi]
  refine xgo hG (mb := [true, true, true, true, true, true, false]) c43 (fun fu hfu => ?_)
  simp only [↓callX8_canLoad_0, ↓callX8_canLoad_1, ↓callX8_canLoad_2, kb_12, kc_12, ki_0, ki_1, ki_m1, ↓ma_20, ↓ma_21, ↓ma_23, ↓ma_24, ↓ma_25, ↓ma_26, ↓ma_47, ↓ma_48, ↓mg_1, ↓mg_20, ↓mg_21, ↓mg_23, ↓mg_24, ↓mg_25, ↓mg_26, ↓mg_47, ↓mg_48, misa, ↓vm_aload_n, ↓vm_bipush, ↓vm_getfield, ↓vm_goto, ↓vm_iadd, ↓vm_iaload, ↓vm_iconst, ↓vm_ifCond_eq, ↓vm_if_icmp_eq, ↓vm_if_icmp_gt, ↓vm_if_icmp_ne, ↓vm_iload, ↓vm_iload_n, ↓vm_invokestatic, ↓vm_invokevirtual, ↓vm_ireturn, ↓vm_istore, ↓xc_2, ↓xc_3, ↓tbX8_canLoad_0, ↓tbX8_canLoad_1, ↓tbX8_canLoad_4, ↓tbX8_canLoad_5, ↓tbX8_canLoad_6, ↓tbX8_canLoad_8, ↓tbX8_canLoad_9, ↓tbX8_canLoad_10, ↓tbX8_canLoad_12, ↓tbX8_canLoad_15, ↓tbX8_canLoad_18, ↓tbX8_canLoad_19, ↓tbX8_canLoad_22, ↓tbX8_canLoad_23, ↓tbX8_canLoad_24, ↓tbX8_canLoad_25, ↓tbX8_canLoad_28, ↓tbX8_canLoad_29, ↓tbX8_canLoad_30, ↓tbX8_canLoad_33, ↓tbX8_canLoad_36, ↓tbX8_canLoad_37, ↓tbX8_canLoad_40, ↓tbX8_canLoad_41, ↓tbX8_canLoad_43, ↓tbX8_canLoad_45, ↓tbX8_canLoad_48, ↓tbX8_canLoad_49, ↓tbX8_canLoad_52, ↓tbX8_canLoad_53, ↓tbX8_canLoad_54, ↓tbX8_canLoad_55, ↓tbX8_canLoad_58, ↓tbX8_canLoad_59, ↓tbX8_canLoad_62, ↓tbX8_canLoad_63, ↓tbX8_canLoad_64, ↓tbX8_canLoad_65, ↓tbX8_canLoad_68, ↓tbX8_canLoad_69, ↓tbX8_canLoad_70, ↓tbX8_canLoad_73, ↓tbX8_canLoad_74, ↓tbX8_canLoad_77, ↓tbX8_canLoad_78, ↓tbX8_canLoad_79, ↓tbX8_canLoad_82, ↓tbX8_canLoad_83, ↓tbX8_canLoad_86, ↓tbX8_canLoad_87, ↓tbX8_canLoad_88, ↓tbX8_canLoad_89, ↓tbX8_canLoad_92, ↓tbX8_canLoad_93, ↓tbX8_canLoad_96, ↓tbX8_canLoad_97, ↓tbX8_canLoad_99, ↓tbX8_canLoad_100, ↓tbX8_canLoad_103, ↓tbX8_canLoad_105, ↓tbX8_canLoad_106, ↓tbX8_canLoad_107, ↓tbX8_canLoad_110, ↓tbX8_canLoad_113, ↓tbX8_canLoad_114, ↓tbX8_canLoad_117, ↓tbX8_canLoad_119, ↓tbX8_canLoad_120, ↓tbX8_canLoad_123, ↓tbX8_canLoad_124, ↓tbX8_canLoad_126, ↓tbX8_canLoad_128, ↓tbX8_canLoad_131, ↓tbX8_canLoad_132, ↓tbX8_canLoad_135, ↓tbX8_canLoad_136, ↓tbX8_canLoad_137, ↓tbX8_canLoad_138, ↓tbX8_canLoad_139, ↓tbX8_canLoad_141, ↓tbX8_canLoad_144, ↓tbX8_canLoad_145, ↓tbX8_canLoad_146, ↓tbX8_canLoad_147, ↓tbX8_canLoad_150, ↓tbX8_canLoad_153, ↓tbX8_canLoad_155, ↓tbX8_canLoad_156, ↓tbX8_canLoad_157, ↓tbX8_canLoad_159, ↓tbX8_canLoad_162, ↓tbX8_canLoad_163, ↓tbX8_canLoad_166, ↓tbX8_canLoad_167, hfu, xstep0, xJ1_hit, xJ1_go, xJ2_hit1, xJ2_hit2, xJ2_go, ↓xif_t, ↓xif_f, seval, ↓xca_eq, ↓xre_l, ↓xre_r, xmask_t, xmask_f, xmask_nil, ↓xst_eq, xX_eq, eI_eq, eMc_eq, eMs_eq, eF_eq, eThr_eq, ↓xS1_mk, ↓xSI_mk, ↓xSR_mk, ↓xLI_0, ↓xLI_s, ↓xLR_0, ↓xLR_s, vRef_ref, vRef_null, vRef_rf, cat_int, cat_ref, cat_null, cat_rf, rf_some, rf_none, rf_null, rf_eq, rf_ref, ref_rf, ref_null, ref_ref, xOk_0, xOk_1, xOk_2r, xOk_2n, xOk_2f, vOpt_rf, vOpt_ref, vOpt_null, List.set_cons_zero, List.set_cons_succ, List.take_succ_cons, List.take_zero, List.drop_succ_cons, List.drop_zero, List.reverse_cons, List.reverse_nil, List.nil_append, List.cons_append, List.append_nil, List.length_cons, List.length_nil, List.map_cons, List.map_nil, List.sum_cons, List.sum_nil, Option.toList_some, Option.toList_none, xRecv_mk, true_and, and_true, true_implies, Nat.reduceAdd, Nat.reduceLeDiff, Nat.zero_le, Nat.le_refl, Nat.add_zero, Nat.zero_add, reduceIte, not_true_eq_false, not_false_eq_true, false_implies, and_self, implies_true, eq_self, Nat.reduceEqDiff, List.cons.injEq, xsn_1, xsn_2, false_and, and_false, or_false, false_or, or_true, true_or, xsn_3, xsn_4, ↓spwX8_isOutermost, spcX8_isOutermost, ↓spwX8_suits, spcX8_suits, ↓spwX8_open, spcX8_open, hc, hf, hb, hp, hn, bi_0]
  try simp only [xif_e]
  grind [bi]

def mWtN (M : mS) (w : Nat) : Nat → Int32
  | 0 => 0
  | k + 1 => mWtN M w k + (1 + M.2 24 (M.2 41 (12 * w + k)).toNatClampNeg)
def mDrN (M : mS) (w : Nat) : Nat → Int32
  | 0 => 10
  | k + 1 => if mDrN M w k < 5 + 2 * M.2 24 (M.2 41 (12 * w + k)).toNatClampNeg then 5 + 2 * M.2 24 (M.2 41 (12 * w + k)).toNatClampNeg else mDrN M w k
def mWt (M : mS) (b : Int32) : Int32 := mWtN M b.toNatClampNeg (M.2 42 b.toNatClampNeg).toNatClampNeg
def mDr (M : mS) (b : Int32) : Int32 := mDrN M b.toNatClampNeg (M.2 42 b.toNatClampNeg).toNatClampNeg
def mTk (M : mS) (w : Nat) : Prop := ∃ n, M.2 42 w = nI n ∧ n ≤ 12 ∧ ∀ k, k < n → vp_in (M.2 41 (12 * w + k)) 24

def tbX8_weightOf : List (Nat × xHint) := [(0, .iconst 0, 0, 0, 0, []), (1, .istore_n 2, 2, 0, 0, []), (2, .iconst 0, 0, 0, 0, []), (3, .istore_n 3, 3, 0, 0, []), (4, .iload_n 3, 3, 0, 0, []), (5, .aload_n 0, 0, 0, 0, []), (6, .getfield 116, 9, 42, 2, []), (9, .iload_n 1, 1, 0, 0, []), (10, .iaload, 42, 0, 0, []), (11, .if_icmp .ge 30, 41, 0, 0, []), (14, .iload_n 2, 2, 0, 0, []), (15, .iconst 1, 0, 0, 0, []), (16, .aload_n 0, 0, 0, 0, []), (17, .getfield 65, 9, 24, 2, []), (20, .aload_n 0, 0, 0, 0, []), (21, .getfield 113, 9, 41, 2, []), (24, .bipush 12, 0, 0, 0, []), (26, .iload_n 1, 1, 0, 0, []), (27, .imul, 0, 0, 0, []), (28, .iload_n 3, 3, 0, 0, []), (29, .iadd, 0, 0, 0, []), (30, .iaload, 41, 0, 0, []), (31, .iaload, 24, 0, 0, []), (32, .iadd, 0, 0, 0, []), (33, .iadd, 0, 0, 0, []), (34, .istore_n 2, 2, 0, 0, []), (35, .iinc 3 1, 3, 0, 0, []), (38, .goto (-34), 4, 0, 0, []), (41, .iload_n 2, 2, 0, 0, []), (42, .ireturn, 0, 0, 0, [])]
def clX8_weightOf : List (Instr × Nat × Nat × Nat) := []
def thX8_weightOf : List (Nat × Nat) := []
theorem ckX8_weightOf : tbX8_weightOf.all (xRow RX8 cX8_weightOf wsX8_weightOf vwCl [9] clX8_weightOf thX8_weightOf 4 (yX8_weightOf.name == "<init>") (some .int)) = true := xRow_q 0xac1cdeffa70103843d60602e2e601d681b0c107100b42a4100b42a041c1e00a22e1b7400b42a1d3e033d03 43 (by decide +kernel) (by decide +kernel)
theorem usX8_weightOf : xUse wsX8_weightOf vwCl [9] = true := xUse_g rfl (lw_good lwl_X8_weightOf lwl_X80 (by decide +kernel)) xUse_n
theorem tbX8_weightOf_0 {k : Instr → Nat → Nat → Nat → List Nat → Prop} : xse (xFind tbX8_weightOf 0) k = k (.iconst 0) 0 0 0 [] := rfl
theorem tbX8_weightOf_1 {k : Instr → Nat → Nat → Nat → List Nat → Prop} : xse (xFind tbX8_weightOf 1) k = k (.istore_n 2) 2 0 0 [] := rfl
theorem tbX8_weightOf_2 {k : Instr → Nat → Nat → Nat → List Nat → Prop} : xse (xFind tbX8_weightOf 2) k = k (.iconst 0) 0 0 0 [] := rfl
theorem tbX8_weightOf_3 {k : Instr → Nat → Nat → Nat → List Nat → Prop} : xse (xFind tbX8_weightOf 3) k = k (.istore_n 3) 3 0 0 [] := rfl
theorem tbX8_weightOf_4 {k : Instr → Nat → Nat → Nat → List Nat → Prop} : xse (xFind tbX8_weightOf 4) k = k (.iload_n 3) 3 0 0 [] := rfl
theorem tbX8_weightOf_5 {k : Instr → Nat → Nat → Nat → List Nat → Prop} : xse (xFind tbX8_weightOf 5) k = k (.aload_n 0) 0 0 0 [] := rfl
theorem tbX8_weightOf_6 {k : Instr → Nat → Nat → Nat → List Nat → Prop} : xse (xFind tbX8_weightOf 6) k = k (.getfield 116) 9 42 2 [] := rfl
theorem tbX8_weightOf_9 {k : Instr → Nat → Nat → Nat → List Nat → Prop} : xse (xFind tbX8_weightOf 9) k = k (.iload_n 1) 1 0 0 [] := rfl
theorem tbX8_weightOf_10 {k : Instr → Nat → Nat → Nat → List Nat → Prop} : xse (xFind tbX8_weightOf 10) k = k (.iaload) 42 0 0 [] := rfl
theorem tbX8_weightOf_11 {k : Instr → Nat → Nat → Nat → List Nat → Prop} : xse (xFind tbX8_weightOf 11) k = k (.if_icmp .ge 30) 41 0 0 [] := rfl
theorem tbX8_weightOf_14 {k : Instr → Nat → Nat → Nat → List Nat → Prop} : xse (xFind tbX8_weightOf 14) k = k (.iload_n 2) 2 0 0 [] := rfl
theorem tbX8_weightOf_15 {k : Instr → Nat → Nat → Nat → List Nat → Prop} : xse (xFind tbX8_weightOf 15) k = k (.iconst 1) 0 0 0 [] := rfl
theorem tbX8_weightOf_16 {k : Instr → Nat → Nat → Nat → List Nat → Prop} : xse (xFind tbX8_weightOf 16) k = k (.aload_n 0) 0 0 0 [] := rfl
theorem tbX8_weightOf_17 {k : Instr → Nat → Nat → Nat → List Nat → Prop} : xse (xFind tbX8_weightOf 17) k = k (.getfield 65) 9 24 2 [] := rfl
theorem tbX8_weightOf_20 {k : Instr → Nat → Nat → Nat → List Nat → Prop} : xse (xFind tbX8_weightOf 20) k = k (.aload_n 0) 0 0 0 [] := rfl
theorem tbX8_weightOf_21 {k : Instr → Nat → Nat → Nat → List Nat → Prop} : xse (xFind tbX8_weightOf 21) k = k (.getfield 113) 9 41 2 [] := rfl
theorem tbX8_weightOf_24 {k : Instr → Nat → Nat → Nat → List Nat → Prop} : xse (xFind tbX8_weightOf 24) k = k (.bipush 12) 0 0 0 [] := rfl
theorem tbX8_weightOf_26 {k : Instr → Nat → Nat → Nat → List Nat → Prop} : xse (xFind tbX8_weightOf 26) k = k (.iload_n 1) 1 0 0 [] := rfl
theorem tbX8_weightOf_27 {k : Instr → Nat → Nat → Nat → List Nat → Prop} : xse (xFind tbX8_weightOf 27) k = k (.imul) 0 0 0 [] := rfl
theorem tbX8_weightOf_28 {k : Instr → Nat → Nat → Nat → List Nat → Prop} : xse (xFind tbX8_weightOf 28) k = k (.iload_n 3) 3 0 0 [] := rfl
theorem tbX8_weightOf_29 {k : Instr → Nat → Nat → Nat → List Nat → Prop} : xse (xFind tbX8_weightOf 29) k = k (.iadd) 0 0 0 [] := rfl
theorem tbX8_weightOf_30 {k : Instr → Nat → Nat → Nat → List Nat → Prop} : xse (xFind tbX8_weightOf 30) k = k (.iaload) 41 0 0 [] := rfl
theorem tbX8_weightOf_31 {k : Instr → Nat → Nat → Nat → List Nat → Prop} : xse (xFind tbX8_weightOf 31) k = k (.iaload) 24 0 0 [] := rfl
theorem tbX8_weightOf_32 {k : Instr → Nat → Nat → Nat → List Nat → Prop} : xse (xFind tbX8_weightOf 32) k = k (.iadd) 0 0 0 [] := rfl
theorem tbX8_weightOf_33 {k : Instr → Nat → Nat → Nat → List Nat → Prop} : xse (xFind tbX8_weightOf 33) k = k (.iadd) 0 0 0 [] := rfl
theorem tbX8_weightOf_34 {k : Instr → Nat → Nat → Nat → List Nat → Prop} : xse (xFind tbX8_weightOf 34) k = k (.istore_n 2) 2 0 0 [] := rfl
theorem tbX8_weightOf_35 {k : Instr → Nat → Nat → Nat → List Nat → Prop} : xse (xFind tbX8_weightOf 35) k = k (.iinc 3 1) 3 0 0 [] := rfl
theorem tbX8_weightOf_38 {k : Instr → Nat → Nat → Nat → List Nat → Prop} : xse (xFind tbX8_weightOf 38) k = k (.goto (-34)) 4 0 0 [] := rfl
theorem tbX8_weightOf_41 {k : Instr → Nat → Nat → Nat → List Nat → Prop} : xse (xFind tbX8_weightOf 41) k = k (.iload_n 2) 2 0 0 [] := rfl
theorem tbX8_weightOf_42 {k : Instr → Nat → Nat → Nat → List Nat → Prop} : xse (xFind tbX8_weightOf 42) k = k (.ireturn) 0 0 0 [] := rfl

def spX8_weightOf (aM : Nat → Nat) : xSp mS := (fun av M => (0, 0), fun av M K => ∃ (b : Int32), av = [.ref (aM 0), .int b] ∧ (vp_in b 6 ∧ mTk M b.toNatClampNeg ∧ K (rI (mWt M b)) M))
theorem spcX8_weightOf {av : List Value} {M : mS} {aM : Nat → Nat} : (spX8_weightOf aM).1 av M = (0, 0) := rfl
theorem spwX8_weightOf {M : mS} {aM : Nat → Nat} {K : xRes → mS → Prop} {b : Int32} : (spX8_weightOf aM).2 [.ref (aM 0), .int b] M K = (vp_in b 6 ∧ mTk M b.toNatClampNeg ∧ K (rI (mWt M b)) M) :=
  propext ⟨fun h => by
    simp only [spX8_weightOf] at h
    obtain ⟨_, e, h⟩ := h
    simp only [List.cons.injEq, Value.int.injEq, Value.ref.injEq, rf_eq, and_true, true_and] at e
    obtain rfl := e
    exact h, fun h => ⟨_, rfl, h⟩⟩

set_option maxHeartbeats 4000000 in
set_option maxRecDepth 20000 in
theorem semX8_weightOf (l : Launch) (W9 : xWd) (aM : Nat → Nat) (hi : mInj aM) : xSem l W9 (mI aM) yX8_weightOf wsX8_weightOf 0 0 (spX8_weightOf aM) := by
  refine xSem_of (call := fun _ => none) (thrf := fun _ => "") (mI_law hi) (by decide +kernel) rfl ckX8_weightOf usX8_weightOf xCallsOK_nil xThrOK_nil ?_ ?_
  · intro av M KF h
    obtain ⟨b, rfl, h⟩ := h
    exact ⟨by intro v hv; simp only [List.mem_cons, List.not_mem_nil, or_false] at hv; rcases hv with rfl | rfl <;> first | rfl | exact cat_rf, Nat.le_of_ble_eq_true rfl⟩
  intro av M KF h G hG
  obtain ⟨b, rfl, h⟩ := h
  rw [show (spX8_weightOf aM).1 _ M = _ from spcX8_weightOf] at hG
  try dsimp only at hG
  change G 0 [some (.ref (aM 0)), some (.int b), none, none] [] M 0 0
  obtain ⟨hb, ⟨n, hn, hn12, hk⟩, h⟩ := h

  obtain ⟨w, hw, rfl⟩ := vp_in_of hb (by omega)
  rw [ix_nI (by omega)] at hn hk
  have e : mWt M (nI w) = mWtN M w n := by unfold mWt; rw [ix_nI (by omega), hn, ix_nI (by omega)]
  rw [e] at h
  have loop := xloop hG 4 [true, true, true, true] (fun j lv st S cs ss => lv = [some (.ref (aM 0)), some (.int (nI w)), some (.int (mWtN M w j)), some (.int (nI j))] ∧ st = [] ∧ M = S ∧ cs = 0 ∧ ss = 0) n (by
      rintro j hj lv st S cs ss ⟨rfl, rfl, rfl, rfl, rfl⟩ fu hfu
      have hkj := hk j hj
      simp only [kb_12, kc_12, ki_0, ki_1, ↓ma_24, ↓ma_41, ↓ma_42, ↓mg_24, ↓mg_41, ↓mg_42, ↓vm_aload_n, ↓vm_bipush, ↓vm_getfield, ↓vm_goto, ↓vm_iadd, ↓vm_iaload, ↓vm_iconst, ↓vm_if_icmp_ge, ↓vm_iinc, ↓vm_iload_n, ↓vm_imul, ↓vm_ireturn, ↓vm_istore_n, ↓tbX8_weightOf_0, ↓tbX8_weightOf_1, ↓tbX8_weightOf_2, ↓tbX8_weightOf_3, ↓tbX8_weightOf_4, ↓tbX8_weightOf_5, ↓tbX8_weightOf_6, ↓tbX8_weightOf_9, ↓tbX8_weightOf_10, ↓tbX8_weightOf_11, ↓tbX8_weightOf_14, ↓tbX8_weightOf_15, ↓tbX8_weightOf_16, ↓tbX8_weightOf_17, ↓tbX8_weightOf_20, ↓tbX8_weightOf_21, ↓tbX8_weightOf_24, ↓tbX8_weightOf_26, ↓tbX8_weightOf_27, ↓tbX8_weightOf_28, ↓tbX8_weightOf_29, ↓tbX8_weightOf_30, ↓tbX8_weightOf_31, ↓tbX8_weightOf_32, ↓tbX8_weightOf_33, ↓tbX8_weightOf_34, ↓tbX8_weightOf_35, ↓tbX8_weightOf_38, ↓tbX8_weightOf_41, ↓tbX8_weightOf_42, hfu, xstep0, xJ1_hit, xJ1_go, xJ2_hit1, xJ2_hit2, xJ2_go, ↓xif_t, ↓xif_f, seval, ↓xca_eq, ↓xre_l, ↓xre_r, xmask_t, xmask_f, xmask_nil, ↓xst_eq, xX_eq, eI_eq, eMc_eq, eMs_eq, eF_eq, eThr_eq, ↓xS1_mk, ↓xSI_mk, ↓xSR_mk, ↓xLI_0, ↓xLI_s, ↓xLR_0, ↓xLR_s, vRef_ref, vRef_null, vRef_rf, cat_int, cat_ref, cat_null, cat_rf, rf_some, rf_none, rf_null, rf_eq, rf_ref, ref_rf, ref_null, ref_ref, xOk_0, xOk_1, xOk_2r, xOk_2n, xOk_2f, vOpt_rf, vOpt_ref, vOpt_null, List.set_cons_zero, List.set_cons_succ, List.take_succ_cons, List.take_zero, List.drop_succ_cons, List.drop_zero, List.reverse_cons, List.reverse_nil, List.nil_append, List.cons_append, List.append_nil, List.length_cons, List.length_nil, List.map_cons, List.map_nil, List.sum_cons, List.sum_nil, Option.toList_some, Option.toList_none, xRecv_mk, true_and, and_true, true_implies, Nat.reduceAdd, Nat.reduceLeDiff, Nat.zero_le, Nat.le_refl, Nat.add_zero, Nat.zero_add, reduceIte, not_true_eq_false, not_false_eq_true, false_implies, and_self, implies_true, eq_self, Nat.reduceEqDiff, List.cons.injEq, xsn_1, xsn_2, false_and, and_false, or_false, false_or, or_true, true_or, xsn_3, xsn_4, hb, hn, ix_nI (show w < 1000 by omega), ge_nI hj (show n < 1000 by omega), m12_nI, add_nI, xin_nI (show 12 * w + j < 72 by omega) (by omega), ix_nI (show 12 * w + j < 1000 by omega), hkj, nI1]
      try simp only [xif_e]
      grind -ring [mWtN]) (by
      rintro lv st S cs ss ⟨rfl, rfl, rfl, rfl, rfl⟩ fu hfu
      simp only [kb_12, kc_12, ki_0, ki_1, ↓ma_24, ↓ma_41, ↓ma_42, ↓mg_24, ↓mg_41, ↓mg_42, ↓vm_aload_n, ↓vm_bipush, ↓vm_getfield, ↓vm_goto, ↓vm_iadd, ↓vm_iaload, ↓vm_iconst, ↓vm_if_icmp_ge, ↓vm_iinc, ↓vm_iload_n, ↓vm_imul, ↓vm_ireturn, ↓vm_istore_n, ↓tbX8_weightOf_0, ↓tbX8_weightOf_1, ↓tbX8_weightOf_2, ↓tbX8_weightOf_3, ↓tbX8_weightOf_4, ↓tbX8_weightOf_5, ↓tbX8_weightOf_6, ↓tbX8_weightOf_9, ↓tbX8_weightOf_10, ↓tbX8_weightOf_11, ↓tbX8_weightOf_14, ↓tbX8_weightOf_15, ↓tbX8_weightOf_16, ↓tbX8_weightOf_17, ↓tbX8_weightOf_20, ↓tbX8_weightOf_21, ↓tbX8_weightOf_24, ↓tbX8_weightOf_26, ↓tbX8_weightOf_27, ↓tbX8_weightOf_28, ↓tbX8_weightOf_29, ↓tbX8_weightOf_30, ↓tbX8_weightOf_31, ↓tbX8_weightOf_32, ↓tbX8_weightOf_33, ↓tbX8_weightOf_34, ↓tbX8_weightOf_35, ↓tbX8_weightOf_38, ↓tbX8_weightOf_41, ↓tbX8_weightOf_42, hfu, xstep0, xJ1_hit, xJ1_go, xJ2_hit1, xJ2_hit2, xJ2_go, ↓xif_t, ↓xif_f, seval, ↓xca_eq, ↓xre_l, ↓xre_r, xmask_t, xmask_f, xmask_nil, ↓xst_eq, xX_eq, eI_eq, eMc_eq, eMs_eq, eF_eq, eThr_eq, ↓xS1_mk, ↓xSI_mk, ↓xSR_mk, ↓xLI_0, ↓xLI_s, ↓xLR_0, ↓xLR_s, vRef_ref, vRef_null, vRef_rf, cat_int, cat_ref, cat_null, cat_rf, rf_some, rf_none, rf_null, rf_eq, rf_ref, ref_rf, ref_null, ref_ref, xOk_0, xOk_1, xOk_2r, xOk_2n, xOk_2f, vOpt_rf, vOpt_ref, vOpt_null, List.set_cons_zero, List.set_cons_succ, List.take_succ_cons, List.take_zero, List.drop_succ_cons, List.drop_zero, List.reverse_cons, List.reverse_nil, List.nil_append, List.cons_append, List.append_nil, List.length_cons, List.length_nil, List.map_cons, List.map_nil, List.sum_cons, List.sum_nil, Option.toList_some, Option.toList_none, xRecv_mk, true_and, and_true, true_implies, Nat.reduceAdd, Nat.reduceLeDiff, Nat.zero_le, Nat.le_refl, Nat.add_zero, Nat.zero_add, reduceIte, not_true_eq_false, not_false_eq_true, false_implies, and_self, implies_true, eq_self, Nat.reduceEqDiff, List.cons.injEq, xsn_1, xsn_2, false_and, and_false, or_false, false_or, or_true, true_or, xsn_3, xsn_4, hb, hn, ix_nI (show w < 1000 by omega), le_nI_self]
      try simp only [xif_e]
      grind -ring)
  refine xgo hG (mb := [true, true, true, true]) (loop 0 (Nat.zero_le n)) (pc := 0) (fun fu hfu => ?_)
  simp only [kb_12, kc_12, ki_0, ki_1, ↓ma_24, ↓ma_41, ↓ma_42, ↓mg_24, ↓mg_41, ↓mg_42, ↓vm_aload_n, ↓vm_bipush, ↓vm_getfield, ↓vm_goto, ↓vm_iadd, ↓vm_iaload, ↓vm_iconst, ↓vm_if_icmp_ge, ↓vm_iinc, ↓vm_iload_n, ↓vm_imul, ↓vm_ireturn, ↓vm_istore_n, ↓tbX8_weightOf_0, ↓tbX8_weightOf_1, ↓tbX8_weightOf_2, ↓tbX8_weightOf_3, ↓tbX8_weightOf_4, ↓tbX8_weightOf_5, ↓tbX8_weightOf_6, ↓tbX8_weightOf_9, ↓tbX8_weightOf_10, ↓tbX8_weightOf_11, ↓tbX8_weightOf_14, ↓tbX8_weightOf_15, ↓tbX8_weightOf_16, ↓tbX8_weightOf_17, ↓tbX8_weightOf_20, ↓tbX8_weightOf_21, ↓tbX8_weightOf_24, ↓tbX8_weightOf_26, ↓tbX8_weightOf_27, ↓tbX8_weightOf_28, ↓tbX8_weightOf_29, ↓tbX8_weightOf_30, ↓tbX8_weightOf_31, ↓tbX8_weightOf_32, ↓tbX8_weightOf_33, ↓tbX8_weightOf_34, ↓tbX8_weightOf_35, ↓tbX8_weightOf_38, ↓tbX8_weightOf_41, ↓tbX8_weightOf_42, hfu, xstep0, xJ1_hit, xJ1_go, xJ2_hit1, xJ2_hit2, xJ2_go, ↓xif_t, ↓xif_f, seval, ↓xca_eq, ↓xre_l, ↓xre_r, xmask_t, xmask_f, xmask_nil, ↓xst_eq, xX_eq, eI_eq, eMc_eq, eMs_eq, eF_eq, eThr_eq, ↓xS1_mk, ↓xSI_mk, ↓xSR_mk, ↓xLI_0, ↓xLI_s, ↓xLR_0, ↓xLR_s, vRef_ref, vRef_null, vRef_rf, cat_int, cat_ref, cat_null, cat_rf, rf_some, rf_none, rf_null, rf_eq, rf_ref, ref_rf, ref_null, ref_ref, xOk_0, xOk_1, xOk_2r, xOk_2n, xOk_2f, vOpt_rf, vOpt_ref, vOpt_null, List.set_cons_zero, List.set_cons_succ, List.take_succ_cons, List.take_zero, List.drop_succ_cons, List.drop_zero, List.reverse_cons, List.reverse_nil, List.nil_append, List.cons_append, List.append_nil, List.length_cons, List.length_nil, List.map_cons, List.map_nil, List.sum_cons, List.sum_nil, Option.toList_some, Option.toList_none, xRecv_mk, true_and, and_true, true_implies, Nat.reduceAdd, Nat.reduceLeDiff, Nat.zero_le, Nat.le_refl, Nat.add_zero, Nat.zero_add, reduceIte, not_true_eq_false, not_false_eq_true, false_implies, and_self, implies_true, eq_self, Nat.reduceEqDiff, List.cons.injEq, xsn_1, xsn_2, false_and, and_false, or_false, false_or, or_true, true_or, xsn_3, xsn_4]
  try simp only [xif_e]
  repeat' (first | rfl | apply And.intro)

def tbX8_draughtOf : List (Nat × xHint) := [(0, .bipush 10, 0, 0, 0, []), (2, .istore_n 2, 2, 0, 0, []), (3, .iconst 0, 0, 0, 0, []), (4, .istore_n 3, 3, 0, 0, []), (5, .iload_n 3, 3, 0, 0, []), (6, .aload_n 0, 0, 0, 0, []), (7, .getfield 116, 9, 42, 2, []), (10, .iload_n 1, 1, 0, 0, []), (11, .iaload, 42, 0, 0, []), (12, .if_icmp .ge 44, 56, 0, 0, []), (15, .iconst 5, 0, 0, 0, []), (16, .iconst 2, 0, 0, 0, []), (17, .aload_n 0, 0, 0, 0, []), (18, .getfield 65, 9, 24, 2, []), (21, .aload_n 0, 0, 0, 0, []), (22, .getfield 113, 9, 41, 2, []), (25, .bipush 12, 0, 0, 0, []), (27, .iload_n 1, 1, 0, 0, []), (28, .imul, 0, 0, 0, []), (29, .iload_n 3, 3, 0, 0, []), (30, .iadd, 0, 0, 0, []), (31, .iaload, 41, 0, 0, []), (32, .iaload, 24, 0, 0, []), (33, .imul, 0, 0, 0, []), (34, .iadd, 0, 0, 0, []), (35, .istore 4, 4, 0, 0, []), (37, .iload 4, 4, 0, 0, []), (39, .iload_n 2, 2, 0, 0, []), (40, .if_icmp .le 8, 48, 0, 0, []), (43, .iload 4, 4, 0, 0, []), (45, .goto 4, 49, 0, 0, []), (48, .iload_n 2, 2, 0, 0, []), (49, .istore_n 2, 2, 0, 0, []), (50, .iinc 3 1, 3, 0, 0, []), (53, .goto (-48), 5, 0, 0, []), (56, .iload_n 2, 2, 0, 0, []), (57, .ireturn, 0, 0, 0, [])]
def clX8_draughtOf : List (Instr × Nat × Nat × Nat) := []
def thX8_draughtOf : List (Nat × Nat) := []
theorem ckX8_draughtOf : tbX8_draughtOf.all (xRow RX8 cX8_draughtOf wsX8_draughtOf vwCl [9] clX8_draughtOf thX8_draughtOf 5 (yX8_draughtOf.name == "<init>") (some .int)) = true := xRow_q 0xac1cd0ffa70103843d1c0400a704150800a41c0415043660682e2e601d681b0c107100b42a4100b42a05082c00a22e1b7400b42a1d3e033d0a10 58 (by decide +kernel) (by decide +kernel)
theorem usX8_draughtOf : xUse wsX8_draughtOf vwCl [9] = true := xUse_g rfl (lw_good lwl_X8_draughtOf lwl_X80 (by decide +kernel)) xUse_n
theorem tbX8_draughtOf_0 {k : Instr → Nat → Nat → Nat → List Nat → Prop} : xse (xFind tbX8_draughtOf 0) k = k (.bipush 10) 0 0 0 [] := rfl
theorem tbX8_draughtOf_2 {k : Instr → Nat → Nat → Nat → List Nat → Prop} : xse (xFind tbX8_draughtOf 2) k = k (.istore_n 2) 2 0 0 [] := rfl
theorem tbX8_draughtOf_3 {k : Instr → Nat → Nat → Nat → List Nat → Prop} : xse (xFind tbX8_draughtOf 3) k = k (.iconst 0) 0 0 0 [] := rfl
theorem tbX8_draughtOf_4 {k : Instr → Nat → Nat → Nat → List Nat → Prop} : xse (xFind tbX8_draughtOf 4) k = k (.istore_n 3) 3 0 0 [] := rfl
theorem tbX8_draughtOf_5 {k : Instr → Nat → Nat → Nat → List Nat → Prop} : xse (xFind tbX8_draughtOf 5) k = k (.iload_n 3) 3 0 0 [] := rfl
theorem tbX8_draughtOf_6 {k : Instr → Nat → Nat → Nat → List Nat → Prop} : xse (xFind tbX8_draughtOf 6) k = k (.aload_n 0) 0 0 0 [] := rfl
theorem tbX8_draughtOf_7 {k : Instr → Nat → Nat → Nat → List Nat → Prop} : xse (xFind tbX8_draughtOf 7) k = k (.getfield 116) 9 42 2 [] := rfl
theorem tbX8_draughtOf_10 {k : Instr → Nat → Nat → Nat → List Nat → Prop} : xse (xFind tbX8_draughtOf 10) k = k (.iload_n 1) 1 0 0 [] := rfl
theorem tbX8_draughtOf_11 {k : Instr → Nat → Nat → Nat → List Nat → Prop} : xse (xFind tbX8_draughtOf 11) k = k (.iaload) 42 0 0 [] := rfl
theorem tbX8_draughtOf_12 {k : Instr → Nat → Nat → Nat → List Nat → Prop} : xse (xFind tbX8_draughtOf 12) k = k (.if_icmp .ge 44) 56 0 0 [] := rfl
theorem tbX8_draughtOf_15 {k : Instr → Nat → Nat → Nat → List Nat → Prop} : xse (xFind tbX8_draughtOf 15) k = k (.iconst 5) 0 0 0 [] := rfl
theorem tbX8_draughtOf_16 {k : Instr → Nat → Nat → Nat → List Nat → Prop} : xse (xFind tbX8_draughtOf 16) k = k (.iconst 2) 0 0 0 [] := rfl
theorem tbX8_draughtOf_17 {k : Instr → Nat → Nat → Nat → List Nat → Prop} : xse (xFind tbX8_draughtOf 17) k = k (.aload_n 0) 0 0 0 [] := rfl
theorem tbX8_draughtOf_18 {k : Instr → Nat → Nat → Nat → List Nat → Prop} : xse (xFind tbX8_draughtOf 18) k = k (.getfield 65) 9 24 2 [] := rfl
theorem tbX8_draughtOf_21 {k : Instr → Nat → Nat → Nat → List Nat → Prop} : xse (xFind tbX8_draughtOf 21) k = k (.aload_n 0) 0 0 0 [] := rfl
theorem tbX8_draughtOf_22 {k : Instr → Nat → Nat → Nat → List Nat → Prop} : xse (xFind tbX8_draughtOf 22) k = k (.getfield 113) 9 41 2 [] := rfl
theorem tbX8_draughtOf_25 {k : Instr → Nat → Nat → Nat → List Nat → Prop} : xse (xFind tbX8_draughtOf 25) k = k (.bipush 12) 0 0 0 [] := rfl
theorem tbX8_draughtOf_27 {k : Instr → Nat → Nat → Nat → List Nat → Prop} : xse (xFind tbX8_draughtOf 27) k = k (.iload_n 1) 1 0 0 [] := rfl
theorem tbX8_draughtOf_28 {k : Instr → Nat → Nat → Nat → List Nat → Prop} : xse (xFind tbX8_draughtOf 28) k = k (.imul) 0 0 0 [] := rfl
theorem tbX8_draughtOf_29 {k : Instr → Nat → Nat → Nat → List Nat → Prop} : xse (xFind tbX8_draughtOf 29) k = k (.iload_n 3) 3 0 0 [] := rfl
theorem tbX8_draughtOf_30 {k : Instr → Nat → Nat → Nat → List Nat → Prop} : xse (xFind tbX8_draughtOf 30) k = k (.iadd) 0 0 0 [] := rfl
theorem tbX8_draughtOf_31 {k : Instr → Nat → Nat → Nat → List Nat → Prop} : xse (xFind tbX8_draughtOf 31) k = k (.iaload) 41 0 0 [] := rfl
theorem tbX8_draughtOf_32 {k : Instr → Nat → Nat → Nat → List Nat → Prop} : xse (xFind tbX8_draughtOf 32) k = k (.iaload) 24 0 0 [] := rfl
theorem tbX8_draughtOf_33 {k : Instr → Nat → Nat → Nat → List Nat → Prop} : xse (xFind tbX8_draughtOf 33) k = k (.imul) 0 0 0 [] := rfl
theorem tbX8_draughtOf_34 {k : Instr → Nat → Nat → Nat → List Nat → Prop} : xse (xFind tbX8_draughtOf 34) k = k (.iadd) 0 0 0 [] := rfl
theorem tbX8_draughtOf_35 {k : Instr → Nat → Nat → Nat → List Nat → Prop} : xse (xFind tbX8_draughtOf 35) k = k (.istore 4) 4 0 0 [] := rfl
theorem tbX8_draughtOf_37 {k : Instr → Nat → Nat → Nat → List Nat → Prop} : xse (xFind tbX8_draughtOf 37) k = k (.iload 4) 4 0 0 [] := rfl
theorem tbX8_draughtOf_39 {k : Instr → Nat → Nat → Nat → List Nat → Prop} : xse (xFind tbX8_draughtOf 39) k = k (.iload_n 2) 2 0 0 [] := rfl
theorem tbX8_draughtOf_40 {k : Instr → Nat → Nat → Nat → List Nat → Prop} : xse (xFind tbX8_draughtOf 40) k = k (.if_icmp .le 8) 48 0 0 [] := rfl
theorem tbX8_draughtOf_43 {k : Instr → Nat → Nat → Nat → List Nat → Prop} : xse (xFind tbX8_draughtOf 43) k = k (.iload 4) 4 0 0 [] := rfl
theorem tbX8_draughtOf_45 {k : Instr → Nat → Nat → Nat → List Nat → Prop} : xse (xFind tbX8_draughtOf 45) k = k (.goto 4) 49 0 0 [] := rfl
theorem tbX8_draughtOf_48 {k : Instr → Nat → Nat → Nat → List Nat → Prop} : xse (xFind tbX8_draughtOf 48) k = k (.iload_n 2) 2 0 0 [] := rfl
theorem tbX8_draughtOf_49 {k : Instr → Nat → Nat → Nat → List Nat → Prop} : xse (xFind tbX8_draughtOf 49) k = k (.istore_n 2) 2 0 0 [] := rfl
theorem tbX8_draughtOf_50 {k : Instr → Nat → Nat → Nat → List Nat → Prop} : xse (xFind tbX8_draughtOf 50) k = k (.iinc 3 1) 3 0 0 [] := rfl
theorem tbX8_draughtOf_53 {k : Instr → Nat → Nat → Nat → List Nat → Prop} : xse (xFind tbX8_draughtOf 53) k = k (.goto (-48)) 5 0 0 [] := rfl
theorem tbX8_draughtOf_56 {k : Instr → Nat → Nat → Nat → List Nat → Prop} : xse (xFind tbX8_draughtOf 56) k = k (.iload_n 2) 2 0 0 [] := rfl
theorem tbX8_draughtOf_57 {k : Instr → Nat → Nat → Nat → List Nat → Prop} : xse (xFind tbX8_draughtOf 57) k = k (.ireturn) 0 0 0 [] := rfl

def spX8_draughtOf (aM : Nat → Nat) : xSp mS := (fun av M => (0, 0), fun av M K => ∃ (b : Int32), av = [.ref (aM 0), .int b] ∧ (vp_in b 6 ∧ mTk M b.toNatClampNeg ∧ K (rI (mDr M b)) M))
theorem spcX8_draughtOf {av : List Value} {M : mS} {aM : Nat → Nat} : (spX8_draughtOf aM).1 av M = (0, 0) := rfl
theorem spwX8_draughtOf {M : mS} {aM : Nat → Nat} {K : xRes → mS → Prop} {b : Int32} : (spX8_draughtOf aM).2 [.ref (aM 0), .int b] M K = (vp_in b 6 ∧ mTk M b.toNatClampNeg ∧ K (rI (mDr M b)) M) :=
  propext ⟨fun h => by
    simp only [spX8_draughtOf] at h
    obtain ⟨_, e, h⟩ := h
    simp only [List.cons.injEq, Value.int.injEq, Value.ref.injEq, rf_eq, and_true, true_and] at e
    obtain rfl := e
    exact h, fun h => ⟨_, rfl, h⟩⟩

set_option maxHeartbeats 4000000 in
set_option maxRecDepth 20000 in
theorem semX8_draughtOf (l : Launch) (W9 : xWd) (aM : Nat → Nat) (hi : mInj aM) : xSem l W9 (mI aM) yX8_draughtOf wsX8_draughtOf 0 0 (spX8_draughtOf aM) := by
  refine xSem_of (call := fun _ => none) (thrf := fun _ => "") (mI_law hi) (by decide +kernel) rfl ckX8_draughtOf usX8_draughtOf xCallsOK_nil xThrOK_nil ?_ ?_
  · intro av M KF h
    obtain ⟨b, rfl, h⟩ := h
    exact ⟨by intro v hv; simp only [List.mem_cons, List.not_mem_nil, or_false] at hv; rcases hv with rfl | rfl <;> first | rfl | exact cat_rf, Nat.le_of_ble_eq_true rfl⟩
  intro av M KF h G hG
  obtain ⟨b, rfl, h⟩ := h
  rw [show (spX8_draughtOf aM).1 _ M = _ from spcX8_draughtOf] at hG
  try dsimp only at hG
  change G 0 [some (.ref (aM 0)), some (.int b), none, none, none] [] M 0 0
  obtain ⟨hb, ⟨n, hn, hn12, hk⟩, h⟩ := h

  obtain ⟨w, hw, rfl⟩ := vp_in_of hb (by omega)
  rw [ix_nI (by omega)] at hn hk
  have e : mDr M (nI w) = mDrN M w n := by unfold mDr; rw [ix_nI (by omega), hn, ix_nI (by omega)]
  rw [e] at h
  have loop := xloop hG 5 [true, true, true, true, false] (fun j lv st S cs ss => lv = [some (.ref (aM 0)), some (.int (nI w)), some (.int (mDrN M w j)), some (.int (nI j)), none] ∧ st = [] ∧ M = S ∧ cs = 0 ∧ ss = 0) n (by
      rintro j hj lv st S cs ss ⟨rfl, rfl, rfl, rfl, rfl⟩ fu hfu
      have hkj := hk j hj
      simp only [kb_10, kb_12, kc_10, kc_12, ki_0, ki_1, ki_2, ki_5, ↓ma_24, ↓ma_41, ↓ma_42, ↓mg_24, ↓mg_41, ↓mg_42, ↓vm_aload_n, ↓vm_bipush, ↓vm_getfield, ↓vm_goto, ↓vm_iadd, ↓vm_iaload, ↓vm_iconst, ↓vm_if_icmp_ge, ↓vm_if_icmp_le, ↓vm_iinc, ↓vm_iload, ↓vm_iload_n, ↓vm_imul, ↓vm_ireturn, ↓vm_istore, ↓vm_istore_n, ↓tbX8_draughtOf_0, ↓tbX8_draughtOf_2, ↓tbX8_draughtOf_3, ↓tbX8_draughtOf_4, ↓tbX8_draughtOf_5, ↓tbX8_draughtOf_6, ↓tbX8_draughtOf_7, ↓tbX8_draughtOf_10, ↓tbX8_draughtOf_11, ↓tbX8_draughtOf_12, ↓tbX8_draughtOf_15, ↓tbX8_draughtOf_16, ↓tbX8_draughtOf_17, ↓tbX8_draughtOf_18, ↓tbX8_draughtOf_21, ↓tbX8_draughtOf_22, ↓tbX8_draughtOf_25, ↓tbX8_draughtOf_27, ↓tbX8_draughtOf_28, ↓tbX8_draughtOf_29, ↓tbX8_draughtOf_30, ↓tbX8_draughtOf_31, ↓tbX8_draughtOf_32, ↓tbX8_draughtOf_33, ↓tbX8_draughtOf_34, ↓tbX8_draughtOf_35, ↓tbX8_draughtOf_37, ↓tbX8_draughtOf_39, ↓tbX8_draughtOf_40, ↓tbX8_draughtOf_43, ↓tbX8_draughtOf_45, ↓tbX8_draughtOf_48, ↓tbX8_draughtOf_49, ↓tbX8_draughtOf_50, ↓tbX8_draughtOf_53, ↓tbX8_draughtOf_56, ↓tbX8_draughtOf_57, hfu, xstep0, xJ1_hit, xJ1_go, xJ2_hit1, xJ2_hit2, xJ2_go, ↓xif_t, ↓xif_f, seval, ↓xca_eq, ↓xre_l, ↓xre_r, xmask_t, xmask_f, xmask_nil, ↓xst_eq, xX_eq, eI_eq, eMc_eq, eMs_eq, eF_eq, eThr_eq, ↓xS1_mk, ↓xSI_mk, ↓xSR_mk, ↓xLI_0, ↓xLI_s, ↓xLR_0, ↓xLR_s, vRef_ref, vRef_null, vRef_rf, cat_int, cat_ref, cat_null, cat_rf, rf_some, rf_none, rf_null, rf_eq, rf_ref, ref_rf, ref_null, ref_ref, xOk_0, xOk_1, xOk_2r, xOk_2n, xOk_2f, vOpt_rf, vOpt_ref, vOpt_null, List.set_cons_zero, List.set_cons_succ, List.take_succ_cons, List.take_zero, List.drop_succ_cons, List.drop_zero, List.reverse_cons, List.reverse_nil, List.nil_append, List.cons_append, List.append_nil, List.length_cons, List.length_nil, List.map_cons, List.map_nil, List.sum_cons, List.sum_nil, Option.toList_some, Option.toList_none, xRecv_mk, true_and, and_true, true_implies, Nat.reduceAdd, Nat.reduceLeDiff, Nat.zero_le, Nat.le_refl, Nat.add_zero, Nat.zero_add, reduceIte, not_true_eq_false, not_false_eq_true, false_implies, and_self, implies_true, eq_self, Nat.reduceEqDiff, List.cons.injEq, xsn_1, xsn_2, false_and, and_false, or_false, false_or, or_true, true_or, xsn_3, xsn_4, hb, hn, ix_nI (show w < 1000 by omega), ge_nI hj (show n < 1000 by omega), m12_nI, add_nI, xin_nI (show 12 * w + j < 72 by omega) (by omega), ix_nI (show 12 * w + j < 1000 by omega), hkj, nI1]
      try simp only [xif_e]
      grind -ring [mDrN]) (by
      rintro lv st S cs ss ⟨rfl, rfl, rfl, rfl, rfl⟩ fu hfu
      simp only [kb_10, kb_12, kc_10, kc_12, ki_0, ki_1, ki_2, ki_5, ↓ma_24, ↓ma_41, ↓ma_42, ↓mg_24, ↓mg_41, ↓mg_42, ↓vm_aload_n, ↓vm_bipush, ↓vm_getfield, ↓vm_goto, ↓vm_iadd, ↓vm_iaload, ↓vm_iconst, ↓vm_if_icmp_ge, ↓vm_if_icmp_le, ↓vm_iinc, ↓vm_iload, ↓vm_iload_n, ↓vm_imul, ↓vm_ireturn, ↓vm_istore, ↓vm_istore_n, ↓tbX8_draughtOf_0, ↓tbX8_draughtOf_2, ↓tbX8_draughtOf_3, ↓tbX8_draughtOf_4, ↓tbX8_draughtOf_5, ↓tbX8_draughtOf_6, ↓tbX8_draughtOf_7, ↓tbX8_draughtOf_10, ↓tbX8_draughtOf_11, ↓tbX8_draughtOf_12, ↓tbX8_draughtOf_15, ↓tbX8_draughtOf_16, ↓tbX8_draughtOf_17, ↓tbX8_draughtOf_18, ↓tbX8_draughtOf_21, ↓tbX8_draughtOf_22, ↓tbX8_draughtOf_25, ↓tbX8_draughtOf_27, ↓tbX8_draughtOf_28, ↓tbX8_draughtOf_29, ↓tbX8_draughtOf_30, ↓tbX8_draughtOf_31, ↓tbX8_draughtOf_32, ↓tbX8_draughtOf_33, ↓tbX8_draughtOf_34, ↓tbX8_draughtOf_35, ↓tbX8_draughtOf_37, ↓tbX8_draughtOf_39, ↓tbX8_draughtOf_40, ↓tbX8_draughtOf_43, ↓tbX8_draughtOf_45, ↓tbX8_draughtOf_48, ↓tbX8_draughtOf_49, ↓tbX8_draughtOf_50, ↓tbX8_draughtOf_53, ↓tbX8_draughtOf_56, ↓tbX8_draughtOf_57, hfu, xstep0, xJ1_hit, xJ1_go, xJ2_hit1, xJ2_hit2, xJ2_go, ↓xif_t, ↓xif_f, seval, ↓xca_eq, ↓xre_l, ↓xre_r, xmask_t, xmask_f, xmask_nil, ↓xst_eq, xX_eq, eI_eq, eMc_eq, eMs_eq, eF_eq, eThr_eq, ↓xS1_mk, ↓xSI_mk, ↓xSR_mk, ↓xLI_0, ↓xLI_s, ↓xLR_0, ↓xLR_s, vRef_ref, vRef_null, vRef_rf, cat_int, cat_ref, cat_null, cat_rf, rf_some, rf_none, rf_null, rf_eq, rf_ref, ref_rf, ref_null, ref_ref, xOk_0, xOk_1, xOk_2r, xOk_2n, xOk_2f, vOpt_rf, vOpt_ref, vOpt_null, List.set_cons_zero, List.set_cons_succ, List.take_succ_cons, List.take_zero, List.drop_succ_cons, List.drop_zero, List.reverse_cons, List.reverse_nil, List.nil_append, List.cons_append, List.append_nil, List.length_cons, List.length_nil, List.map_cons, List.map_nil, List.sum_cons, List.sum_nil, Option.toList_some, Option.toList_none, xRecv_mk, true_and, and_true, true_implies, Nat.reduceAdd, Nat.reduceLeDiff, Nat.zero_le, Nat.le_refl, Nat.add_zero, Nat.zero_add, reduceIte, not_true_eq_false, not_false_eq_true, false_implies, and_self, implies_true, eq_self, Nat.reduceEqDiff, List.cons.injEq, xsn_1, xsn_2, false_and, and_false, or_false, false_or, or_true, true_or, xsn_3, xsn_4, hb, hn, ix_nI (show w < 1000 by omega), le_nI_self]
      try simp only [xif_e]
      grind -ring)
  refine xgo hG (mb := [true, true, true, true, false]) (loop 0 (Nat.zero_le n)) (pc := 0) (fun fu hfu => ?_)
  simp only [kb_10, kb_12, kc_10, kc_12, ki_0, ki_1, ki_2, ki_5, ↓ma_24, ↓ma_41, ↓ma_42, ↓mg_24, ↓mg_41, ↓mg_42, ↓vm_aload_n, ↓vm_bipush, ↓vm_getfield, ↓vm_goto, ↓vm_iadd, ↓vm_iaload, ↓vm_iconst, ↓vm_if_icmp_ge, ↓vm_if_icmp_le, ↓vm_iinc, ↓vm_iload, ↓vm_iload_n, ↓vm_imul, ↓vm_ireturn, ↓vm_istore, ↓vm_istore_n, ↓tbX8_draughtOf_0, ↓tbX8_draughtOf_2, ↓tbX8_draughtOf_3, ↓tbX8_draughtOf_4, ↓tbX8_draughtOf_5, ↓tbX8_draughtOf_6, ↓tbX8_draughtOf_7, ↓tbX8_draughtOf_10, ↓tbX8_draughtOf_11, ↓tbX8_draughtOf_12, ↓tbX8_draughtOf_15, ↓tbX8_draughtOf_16, ↓tbX8_draughtOf_17, ↓tbX8_draughtOf_18, ↓tbX8_draughtOf_21, ↓tbX8_draughtOf_22, ↓tbX8_draughtOf_25, ↓tbX8_draughtOf_27, ↓tbX8_draughtOf_28, ↓tbX8_draughtOf_29, ↓tbX8_draughtOf_30, ↓tbX8_draughtOf_31, ↓tbX8_draughtOf_32, ↓tbX8_draughtOf_33, ↓tbX8_draughtOf_34, ↓tbX8_draughtOf_35, ↓tbX8_draughtOf_37, ↓tbX8_draughtOf_39, ↓tbX8_draughtOf_40, ↓tbX8_draughtOf_43, ↓tbX8_draughtOf_45, ↓tbX8_draughtOf_48, ↓tbX8_draughtOf_49, ↓tbX8_draughtOf_50, ↓tbX8_draughtOf_53, ↓tbX8_draughtOf_56, ↓tbX8_draughtOf_57, hfu, xstep0, xJ1_hit, xJ1_go, xJ2_hit1, xJ2_hit2, xJ2_go, ↓xif_t, ↓xif_f, seval, ↓xca_eq, ↓xre_l, ↓xre_r, xmask_t, xmask_f, xmask_nil, ↓xst_eq, xX_eq, eI_eq, eMc_eq, eMs_eq, eF_eq, eThr_eq, ↓xS1_mk, ↓xSI_mk, ↓xSR_mk, ↓xLI_0, ↓xLI_s, ↓xLR_0, ↓xLR_s, vRef_ref, vRef_null, vRef_rf, cat_int, cat_ref, cat_null, cat_rf, rf_some, rf_none, rf_null, rf_eq, rf_ref, ref_rf, ref_null, ref_ref, xOk_0, xOk_1, xOk_2r, xOk_2n, xOk_2f, vOpt_rf, vOpt_ref, vOpt_null, List.set_cons_zero, List.set_cons_succ, List.take_succ_cons, List.take_zero, List.drop_succ_cons, List.drop_zero, List.reverse_cons, List.reverse_nil, List.nil_append, List.cons_append, List.append_nil, List.length_cons, List.length_nil, List.map_cons, List.map_nil, List.sum_cons, List.sum_nil, Option.toList_some, Option.toList_none, xRecv_mk, true_and, and_true, true_implies, Nat.reduceAdd, Nat.reduceLeDiff, Nat.zero_le, Nat.le_refl, Nat.add_zero, Nat.zero_add, reduceIte, not_true_eq_false, not_false_eq_true, false_implies, and_self, implies_true, eq_self, Nat.reduceEqDiff, List.cons.injEq, xsn_1, xsn_2, false_and, and_false, or_false, false_or, or_true, true_or, xsn_3, xsn_4]
  try simp only [xif_e]
  repeat' (first | rfl | apply And.intro)
