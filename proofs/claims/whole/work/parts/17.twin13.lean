/-! The twin's methods: sets of barges, and what is shifted. -/
abbrev mHas (s : Int32) (x : Int32) : Prop := s >>> (x &&& 31) &&& 1 = 1
def mSn (s : Int32) : Nat → Int32
  | 0 => 0
  | j + 1 => mSn s j + (if mHas s (nI j) then 1 else 0)
def mIs (M : mS) (p s : Int32) : Nat → Bool
  | 0 => decide (0 ≤ s)
  | j + 1 => mIs M p s j && decide (¬ mHas s (nI j) ∨ ((0 ≤ nI j ∧ nI j ≤ M.1 22 - 1) ∧ M.2 28 j = -1 ∧ M.2 27 j / 2 = p))
theorem mIs_f {M : mS} {p s : Int32} {j : Nat} (h : mIs M p s j = false) : ∀ k, j ≤ k → mIs M p s k = false
  | 0, hk => by
    have : j = 0 := by omega
    subst this
    exact h
  | k + 1, hk => by
    by_cases e : j = k + 1
    · subst e
      exact h
    · show (mIs M p s k && _) = false
      rw [mIs_f h k (by omega)]
      rfl
abbrev mIsr (M : mS) (p s : Int32) : Prop := mIs M p s 31 = true ∧ mSn s 31 ≤ 6

def tbX8_isSet : List (Nat × xHint) := [(0, .iconst 0, 0, 0, 0, []), (1, .istore_n 3, 3, 0, 0, []), (2, .iload_n 2, 2, 0, 0, []), (3, .ifCond .lt 7, 10, 0, 0, []), (6, .iconst 1, 0, 0, 0, []), (7, .goto 4, 11, 0, 0, []), (10, .iconst 0, 0, 0, 0, []), (11, .istore 4, 4, 0, 0, []), (13, .iconst 0, 0, 0, 0, []), (14, .istore 5, 5, 0, 0, []), (16, .iload 5, 5, 0, 0, []), (18, .bipush 31, 0, 0, 0, []), (20, .if_icmp .ge 87, 107, 0, 0, []), (23, .iload 4, 4, 0, 0, []), (25, .ifCond .eq 82, 107, 0, 0, []), (28, .iload_n 2, 2, 0, 0, []), (29, .iload 5, 5, 0, 0, []), (31, .ishr, 0, 0, 0, []), (32, .iconst 1, 0, 0, 0, []), (33, .iand, 0, 0, 0, []), (34, .iconst 1, 0, 0, 0, []), (35, .if_icmp .ne 7, 42, 0, 0, []), (38, .iconst 1, 0, 0, 0, []), (39, .goto 4, 43, 0, 0, []), (42, .iconst 0, 0, 0, 0, []), (43, .istore 6, 6, 0, 0, []), (45, .iload_n 3, 3, 0, 0, []), (46, .iload 6, 6, 0, 0, []), (48, .ifCond .eq 7, 55, 0, 0, []), (51, .iconst 1, 0, 0, 0, []), (52, .goto 4, 56, 0, 0, []), (55, .iconst 0, 0, 0, 0, []), (56, .iadd, 0, 0, 0, []), (57, .istore_n 3, 3, 0, 0, []), (58, .iload 6, 6, 0, 0, []), (60, .ifCond .eq 34, 94, 0, 0, []), (63, .aload_n 0, 0, 0, 0, []), (64, .iload 5, 5, 0, 0, []), (66, .invokevirtual 234, 0, 2, 9, []), (69, .ifCond .eq 29, 98, 0, 0, []), (72, .aload_n 0, 0, 0, 0, []), (73, .iload 5, 5, 0, 0, []), (75, .invokevirtual 210, 1, 2, 9, []), (78, .ifCond .eq 20, 98, 0, 0, []), (81, .aload_n 0, 0, 0, 0, []), (82, .getfield 74, 9, 27, 2, []), (85, .iload 5, 5, 0, 0, []), (87, .iaload, 27, 0, 0, []), (88, .iconst 2, 0, 0, 0, []), (89, .idiv, 0, 0, 0, []), (90, .iload_n 1, 1, 0, 0, []), (91, .if_icmp .ne 7, 98, 0, 0, []), (94, .iconst 1, 0, 0, 0, []), (95, .goto 4, 99, 0, 0, []), (98, .iconst 0, 0, 0, 0, []), (99, .istore 4, 4, 0, 0, []), (101, .iinc 5 1, 5, 0, 0, []), (104, .goto (-88), 16, 0, 0, []), (107, .iload 4, 4, 0, 0, []), (109, .ifCond .eq 13, 122, 0, 0, []), (112, .iload_n 3, 3, 0, 0, []), (113, .bipush 6, 0, 0, 0, []), (115, .if_icmp .gt 7, 122, 0, 0, []), (118, .iconst 1, 0, 0, 0, []), (119, .goto 4, 123, 0, 0, []), (122, .iconst 0, 0, 0, 0, []), (123, .ireturn, 1, 0, 0, [])]
def clX8_isSet : List (Instr × Nat × Nat × Nat) := [(.invokevirtual 234, 0, 2, 9), (.invokevirtual 210, 1, 2, 9)]
def thX8_isSet : List (Nat × Nat) := []
theorem ckX8_isSet : tbX8_isSet.all (xRow RX8 cX8_isSet wsX8_isSet vwCl [9] clX8_isSet thX8_isSet 7 (yX8_isSet.name == "<init>") (some .boolean)) = true := xRow_q 0xac030400a7040700a306101d0d00990415a8ffa70105840436030400a7040700a01b6c052e05154a00b42a140099d200b605152a1d0099ea00b605152a22009906153e60030400a70407009906151d0636030400a7040700a0047e047a05151c52009904155700a21f1005150536030436030400a70407009b1c3e03 124 (by decide +kernel) (by decide +kernel)
theorem usX8_isSet : xUse wsX8_isSet vwCl [9] = true := xUse_g rfl (lw_good lwl_X8_isSet lwl_X80 (by decide +kernel)) xUse_n
theorem tbX8_isSet_0 {k : Instr → Nat → Nat → Nat → List Nat → Prop} : xse (xFind tbX8_isSet 0) k = k (.iconst 0) 0 0 0 [] := rfl
theorem tbX8_isSet_1 {k : Instr → Nat → Nat → Nat → List Nat → Prop} : xse (xFind tbX8_isSet 1) k = k (.istore_n 3) 3 0 0 [] := rfl
theorem tbX8_isSet_2 {k : Instr → Nat → Nat → Nat → List Nat → Prop} : xse (xFind tbX8_isSet 2) k = k (.iload_n 2) 2 0 0 [] := rfl
theorem tbX8_isSet_3 {k : Instr → Nat → Nat → Nat → List Nat → Prop} : xse (xFind tbX8_isSet 3) k = k (.ifCond .lt 7) 10 0 0 [] := rfl
theorem tbX8_isSet_6 {k : Instr → Nat → Nat → Nat → List Nat → Prop} : xse (xFind tbX8_isSet 6) k = k (.iconst 1) 0 0 0 [] := rfl
theorem tbX8_isSet_7 {k : Instr → Nat → Nat → Nat → List Nat → Prop} : xse (xFind tbX8_isSet 7) k = k (.goto 4) 11 0 0 [] := rfl
theorem tbX8_isSet_10 {k : Instr → Nat → Nat → Nat → List Nat → Prop} : xse (xFind tbX8_isSet 10) k = k (.iconst 0) 0 0 0 [] := rfl
theorem tbX8_isSet_11 {k : Instr → Nat → Nat → Nat → List Nat → Prop} : xse (xFind tbX8_isSet 11) k = k (.istore 4) 4 0 0 [] := rfl
theorem tbX8_isSet_13 {k : Instr → Nat → Nat → Nat → List Nat → Prop} : xse (xFind tbX8_isSet 13) k = k (.iconst 0) 0 0 0 [] := rfl
theorem tbX8_isSet_14 {k : Instr → Nat → Nat → Nat → List Nat → Prop} : xse (xFind tbX8_isSet 14) k = k (.istore 5) 5 0 0 [] := rfl
theorem tbX8_isSet_16 {k : Instr → Nat → Nat → Nat → List Nat → Prop} : xse (xFind tbX8_isSet 16) k = k (.iload 5) 5 0 0 [] := rfl
theorem tbX8_isSet_18 {k : Instr → Nat → Nat → Nat → List Nat → Prop} : xse (xFind tbX8_isSet 18) k = k (.bipush 31) 0 0 0 [] := rfl
theorem tbX8_isSet_20 {k : Instr → Nat → Nat → Nat → List Nat → Prop} : xse (xFind tbX8_isSet 20) k = k (.if_icmp .ge 87) 107 0 0 [] := rfl
theorem tbX8_isSet_23 {k : Instr → Nat → Nat → Nat → List Nat → Prop} : xse (xFind tbX8_isSet 23) k = k (.iload 4) 4 0 0 [] := rfl
theorem tbX8_isSet_25 {k : Instr → Nat → Nat → Nat → List Nat → Prop} : xse (xFind tbX8_isSet 25) k = k (.ifCond .eq 82) 107 0 0 [] := rfl
theorem tbX8_isSet_28 {k : Instr → Nat → Nat → Nat → List Nat → Prop} : xse (xFind tbX8_isSet 28) k = k (.iload_n 2) 2 0 0 [] := rfl
theorem tbX8_isSet_29 {k : Instr → Nat → Nat → Nat → List Nat → Prop} : xse (xFind tbX8_isSet 29) k = k (.iload 5) 5 0 0 [] := rfl
theorem tbX8_isSet_31 {k : Instr → Nat → Nat → Nat → List Nat → Prop} : xse (xFind tbX8_isSet 31) k = k (.ishr) 0 0 0 [] := rfl
theorem tbX8_isSet_32 {k : Instr → Nat → Nat → Nat → List Nat → Prop} : xse (xFind tbX8_isSet 32) k = k (.iconst 1) 0 0 0 [] := rfl
theorem tbX8_isSet_33 {k : Instr → Nat → Nat → Nat → List Nat → Prop} : xse (xFind tbX8_isSet 33) k = k (.iand) 0 0 0 [] := rfl
theorem tbX8_isSet_34 {k : Instr → Nat → Nat → Nat → List Nat → Prop} : xse (xFind tbX8_isSet 34) k = k (.iconst 1) 0 0 0 [] := rfl
theorem tbX8_isSet_35 {k : Instr → Nat → Nat → Nat → List Nat → Prop} : xse (xFind tbX8_isSet 35) k = k (.if_icmp .ne 7) 42 0 0 [] := rfl
theorem tbX8_isSet_38 {k : Instr → Nat → Nat → Nat → List Nat → Prop} : xse (xFind tbX8_isSet 38) k = k (.iconst 1) 0 0 0 [] := rfl
theorem tbX8_isSet_39 {k : Instr → Nat → Nat → Nat → List Nat → Prop} : xse (xFind tbX8_isSet 39) k = k (.goto 4) 43 0 0 [] := rfl
theorem tbX8_isSet_42 {k : Instr → Nat → Nat → Nat → List Nat → Prop} : xse (xFind tbX8_isSet 42) k = k (.iconst 0) 0 0 0 [] := rfl
theorem tbX8_isSet_43 {k : Instr → Nat → Nat → Nat → List Nat → Prop} : xse (xFind tbX8_isSet 43) k = k (.istore 6) 6 0 0 [] := rfl
theorem tbX8_isSet_45 {k : Instr → Nat → Nat → Nat → List Nat → Prop} : xse (xFind tbX8_isSet 45) k = k (.iload_n 3) 3 0 0 [] := rfl
theorem tbX8_isSet_46 {k : Instr → Nat → Nat → Nat → List Nat → Prop} : xse (xFind tbX8_isSet 46) k = k (.iload 6) 6 0 0 [] := rfl
theorem tbX8_isSet_48 {k : Instr → Nat → Nat → Nat → List Nat → Prop} : xse (xFind tbX8_isSet 48) k = k (.ifCond .eq 7) 55 0 0 [] := rfl
theorem tbX8_isSet_51 {k : Instr → Nat → Nat → Nat → List Nat → Prop} : xse (xFind tbX8_isSet 51) k = k (.iconst 1) 0 0 0 [] := rfl
theorem tbX8_isSet_52 {k : Instr → Nat → Nat → Nat → List Nat → Prop} : xse (xFind tbX8_isSet 52) k = k (.goto 4) 56 0 0 [] := rfl
theorem tbX8_isSet_55 {k : Instr → Nat → Nat → Nat → List Nat → Prop} : xse (xFind tbX8_isSet 55) k = k (.iconst 0) 0 0 0 [] := rfl
theorem tbX8_isSet_56 {k : Instr → Nat → Nat → Nat → List Nat → Prop} : xse (xFind tbX8_isSet 56) k = k (.iadd) 0 0 0 [] := rfl
theorem tbX8_isSet_57 {k : Instr → Nat → Nat → Nat → List Nat → Prop} : xse (xFind tbX8_isSet 57) k = k (.istore_n 3) 3 0 0 [] := rfl
theorem tbX8_isSet_58 {k : Instr → Nat → Nat → Nat → List Nat → Prop} : xse (xFind tbX8_isSet 58) k = k (.iload 6) 6 0 0 [] := rfl
theorem tbX8_isSet_60 {k : Instr → Nat → Nat → Nat → List Nat → Prop} : xse (xFind tbX8_isSet 60) k = k (.ifCond .eq 34) 94 0 0 [] := rfl
theorem tbX8_isSet_63 {k : Instr → Nat → Nat → Nat → List Nat → Prop} : xse (xFind tbX8_isSet 63) k = k (.aload_n 0) 0 0 0 [] := rfl
theorem tbX8_isSet_64 {k : Instr → Nat → Nat → Nat → List Nat → Prop} : xse (xFind tbX8_isSet 64) k = k (.iload 5) 5 0 0 [] := rfl
theorem tbX8_isSet_66 {k : Instr → Nat → Nat → Nat → List Nat → Prop} : xse (xFind tbX8_isSet 66) k = k (.invokevirtual 234) 0 2 9 [] := rfl
theorem tbX8_isSet_69 {k : Instr → Nat → Nat → Nat → List Nat → Prop} : xse (xFind tbX8_isSet 69) k = k (.ifCond .eq 29) 98 0 0 [] := rfl
theorem tbX8_isSet_72 {k : Instr → Nat → Nat → Nat → List Nat → Prop} : xse (xFind tbX8_isSet 72) k = k (.aload_n 0) 0 0 0 [] := rfl
theorem tbX8_isSet_73 {k : Instr → Nat → Nat → Nat → List Nat → Prop} : xse (xFind tbX8_isSet 73) k = k (.iload 5) 5 0 0 [] := rfl
theorem tbX8_isSet_75 {k : Instr → Nat → Nat → Nat → List Nat → Prop} : xse (xFind tbX8_isSet 75) k = k (.invokevirtual 210) 1 2 9 [] := rfl
theorem tbX8_isSet_78 {k : Instr → Nat → Nat → Nat → List Nat → Prop} : xse (xFind tbX8_isSet 78) k = k (.ifCond .eq 20) 98 0 0 [] := rfl
theorem tbX8_isSet_81 {k : Instr → Nat → Nat → Nat → List Nat → Prop} : xse (xFind tbX8_isSet 81) k = k (.aload_n 0) 0 0 0 [] := rfl
theorem tbX8_isSet_82 {k : Instr → Nat → Nat → Nat → List Nat → Prop} : xse (xFind tbX8_isSet 82) k = k (.getfield 74) 9 27 2 [] := rfl
theorem tbX8_isSet_85 {k : Instr → Nat → Nat → Nat → List Nat → Prop} : xse (xFind tbX8_isSet 85) k = k (.iload 5) 5 0 0 [] := rfl
theorem tbX8_isSet_87 {k : Instr → Nat → Nat → Nat → List Nat → Prop} : xse (xFind tbX8_isSet 87) k = k (.iaload) 27 0 0 [] := rfl
theorem tbX8_isSet_88 {k : Instr → Nat → Nat → Nat → List Nat → Prop} : xse (xFind tbX8_isSet 88) k = k (.iconst 2) 0 0 0 [] := rfl
theorem tbX8_isSet_89 {k : Instr → Nat → Nat → Nat → List Nat → Prop} : xse (xFind tbX8_isSet 89) k = k (.idiv) 0 0 0 [] := rfl
theorem tbX8_isSet_90 {k : Instr → Nat → Nat → Nat → List Nat → Prop} : xse (xFind tbX8_isSet 90) k = k (.iload_n 1) 1 0 0 [] := rfl
theorem tbX8_isSet_91 {k : Instr → Nat → Nat → Nat → List Nat → Prop} : xse (xFind tbX8_isSet 91) k = k (.if_icmp .ne 7) 98 0 0 [] := rfl
theorem tbX8_isSet_94 {k : Instr → Nat → Nat → Nat → List Nat → Prop} : xse (xFind tbX8_isSet 94) k = k (.iconst 1) 0 0 0 [] := rfl
theorem tbX8_isSet_95 {k : Instr → Nat → Nat → Nat → List Nat → Prop} : xse (xFind tbX8_isSet 95) k = k (.goto 4) 99 0 0 [] := rfl
theorem tbX8_isSet_98 {k : Instr → Nat → Nat → Nat → List Nat → Prop} : xse (xFind tbX8_isSet 98) k = k (.iconst 0) 0 0 0 [] := rfl
theorem tbX8_isSet_99 {k : Instr → Nat → Nat → Nat → List Nat → Prop} : xse (xFind tbX8_isSet 99) k = k (.istore 4) 4 0 0 [] := rfl
theorem tbX8_isSet_101 {k : Instr → Nat → Nat → Nat → List Nat → Prop} : xse (xFind tbX8_isSet 101) k = k (.iinc 5 1) 5 0 0 [] := rfl
theorem tbX8_isSet_104 {k : Instr → Nat → Nat → Nat → List Nat → Prop} : xse (xFind tbX8_isSet 104) k = k (.goto (-88)) 16 0 0 [] := rfl
theorem tbX8_isSet_107 {k : Instr → Nat → Nat → Nat → List Nat → Prop} : xse (xFind tbX8_isSet 107) k = k (.iload 4) 4 0 0 [] := rfl
theorem tbX8_isSet_109 {k : Instr → Nat → Nat → Nat → List Nat → Prop} : xse (xFind tbX8_isSet 109) k = k (.ifCond .eq 13) 122 0 0 [] := rfl
theorem tbX8_isSet_112 {k : Instr → Nat → Nat → Nat → List Nat → Prop} : xse (xFind tbX8_isSet 112) k = k (.iload_n 3) 3 0 0 [] := rfl
theorem tbX8_isSet_113 {k : Instr → Nat → Nat → Nat → List Nat → Prop} : xse (xFind tbX8_isSet 113) k = k (.bipush 6) 0 0 0 [] := rfl
theorem tbX8_isSet_115 {k : Instr → Nat → Nat → Nat → List Nat → Prop} : xse (xFind tbX8_isSet 115) k = k (.if_icmp .gt 7) 122 0 0 [] := rfl
theorem tbX8_isSet_118 {k : Instr → Nat → Nat → Nat → List Nat → Prop} : xse (xFind tbX8_isSet 118) k = k (.iconst 1) 0 0 0 [] := rfl
theorem tbX8_isSet_119 {k : Instr → Nat → Nat → Nat → List Nat → Prop} : xse (xFind tbX8_isSet 119) k = k (.goto 4) 123 0 0 [] := rfl
theorem tbX8_isSet_122 {k : Instr → Nat → Nat → Nat → List Nat → Prop} : xse (xFind tbX8_isSet 122) k = k (.iconst 0) 0 0 0 [] := rfl
theorem tbX8_isSet_123 {k : Instr → Nat → Nat → Nat → List Nat → Prop} : xse (xFind tbX8_isSet 123) k = k (.ireturn) 1 0 0 [] := rfl

def spX8_isSet (aM : Nat → Nat) : xSp mS := (fun av M => (0, 0), fun av M K => ∃ (p : Int32) (s : Int32), av = [.ref (aM 0), .int p, .int s] ∧ ((M.1 22 = nI (nBg M) ∧ nBg M ≤ 24) ∧ K (rI (bi (mIsr M p s))) M))
theorem spcX8_isSet {av : List Value} {M : mS} {aM : Nat → Nat} : (spX8_isSet aM).1 av M = (0, 0) := rfl
theorem spwX8_isSet {M : mS} {aM : Nat → Nat} {K : xRes → mS → Prop} {p : Int32} {s : Int32} : (spX8_isSet aM).2 [.ref (aM 0), .int p, .int s] M K = ((M.1 22 = nI (nBg M) ∧ nBg M ≤ 24) ∧ K (rI (bi (mIsr M p s))) M) :=
  propext ⟨fun h => by
    simp only [spX8_isSet] at h
    obtain ⟨_, _, e, h⟩ := h
    simp only [List.cons.injEq, Value.int.injEq, Value.ref.injEq, rf_eq, and_true, true_and] at e
    obtain ⟨rfl, rfl⟩ := e
    exact h, fun h => ⟨_, _, rfl, h⟩⟩

def callX8_isSet (aM : Nat → Nat) : Nat → Option (xSp mS) := fun n => match n with | 0 => some (spX8_isBarge aM) | 1 => some (spX8_isTied aM) | _ => none

theorem callX8_isSet_0 {aM : Nat → Nat} {k : xSp mS → Prop} : xcs (callX8_isSet aM 0) k = k (spX8_isBarge aM) := rfl

theorem callX8_isSet_1 {aM : Nat → Nat} {k : xSp mS → Prop} : xcs (callX8_isSet aM 1) k = k (spX8_isTied aM) := rfl

theorem crX8_isSet (l : Launch) (W9 : xWd) (aM : Nat → Nat) (hi : mInj aM) : xCallsOK l W9 (mI aM) (callX8_isSet aM) clX8_isSet RX8 wsX8_isSet 2 43 7 := by
  intro E A p e R s m args below meth c hI hF hL X
  exact List.forall_mem_cons.mpr ⟨⟨_, rfl, xCR_V X (by rw [hI]; exact (semX8_isBarge l W9 aM hi)) gX8_isSet_X8_isBarge rfl rfl (by decide +kernel) (by rw [hF, hL]; decide)⟩,
    List.forall_mem_cons.mpr ⟨⟨_, rfl, xCR_V X (by rw [hI]; exact (semX8_isTied l W9 aM hi)) gX8_isSet_X8_isTied rfl rfl (by decide +kernel) (by rw [hF, hL]; decide)⟩,
    fun _ h => nomatch h⟩⟩

set_option maxHeartbeats 4000000 in
set_option maxRecDepth 20000 in
theorem semX8_isSet (l : Launch) (W9 : xWd) (aM : Nat → Nat) (hi : mInj aM) : xSem l W9 (mI aM) yX8_isSet wsX8_isSet 2 43 (spX8_isSet aM) := by
  refine xSem_of (call := callX8_isSet aM) (thrf := fun _ => "") (mI_law hi) (by decide +kernel) rfl ckX8_isSet usX8_isSet (crX8_isSet l W9 aM hi) xThrOK_nil ?_ ?_
  · intro av M KF h
    obtain ⟨p, s, rfl, h⟩ := h
    exact ⟨by intro v hv; simp only [List.mem_cons, List.not_mem_nil, or_false] at hv; rcases hv with rfl | rfl | rfl <;> first | rfl | exact cat_rf, Nat.le_of_ble_eq_true rfl⟩
  intro av M KF h G hG
  obtain ⟨p, s, rfl, h⟩ := h
  rw [show (spX8_isSet aM).1 _ M = _ from spcX8_isSet] at hG
  try dsimp only at hG
  change G 0 [some (.ref (aM 0)), some (.int p), some (.int s), none, none, none, none] [] M 0 0
  obtain ⟨hg, h⟩ := h

  have loop := xloop hG 16 [true, true, true, true, true, true, false] (fun j lv st S cs ss => lv = [some (.ref (aM 0)), some (.int p), some (.int s), some (.int (mSn s j)), some (.int (bi (mIs M p s j = true))), some (.int (nI j)), none] ∧ st = [] ∧ M = S ∧ cs = 0 ∧ ss = 0) 31 (by
      rintro j hj lv st S cs ss ⟨rfl, rfl, rfl, rfl, rfl⟩ fu hfu
      have e0 : ((31 : Int32) ≤ nI j) = False := ge_nI hj (show 31 < 1000 by omega)
      cases c : mIs M p s j with
      | false =>
        have c2 := mIs_f c 31 (by omega)
        have e1 : bi (mIsr M p s) = 0 := bi_f (fun q => by have q1 := q.1; rw [c2] at q1; cases q1)
        rw [e1] at h
        have e2 : bi (false = true) = 0 := rfl
        simp only [↓callX8_isSet_0, ↓callX8_isSet_1, kb_31, kb_6, kc_31, kc_6, ki_0, ki_1, ki_2, ↓ma_27, ↓mg_27, misa, ↓vm_aload_n, ↓vm_bipush, ↓vm_getfield, ↓vm_goto, ↓vm_iadd, ↓vm_iaload, ↓vm_iand, ↓vm_iconst, ↓vm_idiv, ↓vm_ifCond_eq, ↓vm_ifCond_lt, ↓vm_if_icmp_ge, ↓vm_if_icmp_gt, ↓vm_if_icmp_ne, ↓vm_iinc, ↓vm_iload, ↓vm_iload_n, ↓vm_invokevirtual, ↓vm_ireturn, ↓vm_ishr, ↓vm_istore, ↓vm_istore_n, ↓xc_2, ↓tbX8_isSet_0, ↓tbX8_isSet_1, ↓tbX8_isSet_2, ↓tbX8_isSet_3, ↓tbX8_isSet_6, ↓tbX8_isSet_7, ↓tbX8_isSet_10, ↓tbX8_isSet_11, ↓tbX8_isSet_13, ↓tbX8_isSet_14, ↓tbX8_isSet_16, ↓tbX8_isSet_18, ↓tbX8_isSet_20, ↓tbX8_isSet_23, ↓tbX8_isSet_25, ↓tbX8_isSet_28, ↓tbX8_isSet_29, ↓tbX8_isSet_31, ↓tbX8_isSet_32, ↓tbX8_isSet_33, ↓tbX8_isSet_34, ↓tbX8_isSet_35, ↓tbX8_isSet_38, ↓tbX8_isSet_39, ↓tbX8_isSet_42, ↓tbX8_isSet_43, ↓tbX8_isSet_45, ↓tbX8_isSet_46, ↓tbX8_isSet_48, ↓tbX8_isSet_51, ↓tbX8_isSet_52, ↓tbX8_isSet_55, ↓tbX8_isSet_56, ↓tbX8_isSet_57, ↓tbX8_isSet_58, ↓tbX8_isSet_60, ↓tbX8_isSet_63, ↓tbX8_isSet_64, ↓tbX8_isSet_66, ↓tbX8_isSet_69, ↓tbX8_isSet_72, ↓tbX8_isSet_73, ↓tbX8_isSet_75, ↓tbX8_isSet_78, ↓tbX8_isSet_81, ↓tbX8_isSet_82, ↓tbX8_isSet_85, ↓tbX8_isSet_87, ↓tbX8_isSet_88, ↓tbX8_isSet_89, ↓tbX8_isSet_90, ↓tbX8_isSet_91, ↓tbX8_isSet_94, ↓tbX8_isSet_95, ↓tbX8_isSet_98, ↓tbX8_isSet_99, ↓tbX8_isSet_101, ↓tbX8_isSet_104, ↓tbX8_isSet_107, ↓tbX8_isSet_109, ↓tbX8_isSet_112, ↓tbX8_isSet_113, ↓tbX8_isSet_115, ↓tbX8_isSet_118, ↓tbX8_isSet_119, ↓tbX8_isSet_122, ↓tbX8_isSet_123, hfu, xstep0, xJ1_hit, xJ1_go, xJ2_hit1, xJ2_hit2, xJ2_go, ↓xif_t, ↓xif_f, seval, ↓xca_eq, ↓xre_l, ↓xre_r, xmask_t, xmask_f, xmask_nil, ↓xst_eq, xX_eq, eI_eq, eMc_eq, eMs_eq, eF_eq, eThr_eq, ↓xS1_mk, ↓xSI_mk, ↓xSR_mk, ↓xLI_0, ↓xLI_s, ↓xLR_0, ↓xLR_s, vRef_ref, vRef_null, vRef_rf, cat_int, cat_ref, cat_null, cat_rf, rf_some, rf_none, rf_null, rf_eq, rf_ref, ref_rf, ref_null, ref_ref, xOk_0, xOk_1, xOk_2r, xOk_2n, xOk_2f, vOpt_rf, vOpt_ref, vOpt_null, List.set_cons_zero, List.set_cons_succ, List.take_succ_cons, List.take_zero, List.drop_succ_cons, List.drop_zero, List.reverse_cons, List.reverse_nil, List.nil_append, List.cons_append, List.append_nil, List.length_cons, List.length_nil, List.map_cons, List.map_nil, List.sum_cons, List.sum_nil, Option.toList_some, Option.toList_none, xRecv_mk, true_and, and_true, true_implies, Nat.reduceAdd, Nat.reduceLeDiff, Nat.zero_le, Nat.le_refl, Nat.add_zero, Nat.zero_add, reduceIte, not_true_eq_false, not_false_eq_true, false_implies, and_self, implies_true, eq_self, Nat.reduceEqDiff, List.cons.injEq, xsn_1, xsn_2, false_and, and_false, or_false, false_or, or_true, true_or, xsn_3, xsn_4, mAst_1, mAst_2, mSet_1, mSet_2, bi_0, ↓spwX8_isBarge, spcX8_isBarge, ↓spwX8_isTied, spcX8_isTied, e0, e2]
        try simp only [xif_e]
        exact h
      | true =>
        have e2 : bi (true = true) = 1 := rfl
        have hi := @in_bg M (nI j) hg
        have hs : mSn s (j + 1) = mSn s j + (if mHas s (nI j) then 1 else 0) := rfl
        have hv : mIs M p s (j + 1) = (mIs M p s j && decide (¬ mHas s (nI j) ∨ ((0 ≤ nI j ∧ nI j ≤ M.1 22 - 1) ∧ M.2 28 j = -1 ∧ M.2 27 j / 2 = p))) := rfl
        rw [c] at hv
        by_cases d : mHas s (nI j)
        · rw [if_pos d] at hs
          simp only [↓callX8_isSet_0, ↓callX8_isSet_1, kb_31, kb_6, kc_31, kc_6, ki_0, ki_1, ki_2, ↓ma_27, ↓mg_27, misa, ↓vm_aload_n, ↓vm_bipush, ↓vm_getfield, ↓vm_goto, ↓vm_iadd, ↓vm_iaload, ↓vm_iand, ↓vm_iconst, ↓vm_idiv, ↓vm_ifCond_eq, ↓vm_ifCond_lt, ↓vm_if_icmp_ge, ↓vm_if_icmp_gt, ↓vm_if_icmp_ne, ↓vm_iinc, ↓vm_iload, ↓vm_iload_n, ↓vm_invokevirtual, ↓vm_ireturn, ↓vm_ishr, ↓vm_istore, ↓vm_istore_n, ↓xc_2, ↓tbX8_isSet_0, ↓tbX8_isSet_1, ↓tbX8_isSet_2, ↓tbX8_isSet_3, ↓tbX8_isSet_6, ↓tbX8_isSet_7, ↓tbX8_isSet_10, ↓tbX8_isSet_11, ↓tbX8_isSet_13, ↓tbX8_isSet_14, ↓tbX8_isSet_16, ↓tbX8_isSet_18, ↓tbX8_isSet_20, ↓tbX8_isSet_23, ↓tbX8_isSet_25, ↓tbX8_isSet_28, ↓tbX8_isSet_29, ↓tbX8_isSet_31, ↓tbX8_isSet_32, ↓tbX8_isSet_33, ↓tbX8_isSet_34, ↓tbX8_isSet_35, ↓tbX8_isSet_38, ↓tbX8_isSet_39, ↓tbX8_isSet_42, ↓tbX8_isSet_43, ↓tbX8_isSet_45, ↓tbX8_isSet_46, ↓tbX8_isSet_48, ↓tbX8_isSet_51, ↓tbX8_isSet_52, ↓tbX8_isSet_55, ↓tbX8_isSet_56, ↓tbX8_isSet_57, ↓tbX8_isSet_58, ↓tbX8_isSet_60, ↓tbX8_isSet_63, ↓tbX8_isSet_64, ↓tbX8_isSet_66, ↓tbX8_isSet_69, ↓tbX8_isSet_72, ↓tbX8_isSet_73, ↓tbX8_isSet_75, ↓tbX8_isSet_78, ↓tbX8_isSet_81, ↓tbX8_isSet_82, ↓tbX8_isSet_85, ↓tbX8_isSet_87, ↓tbX8_isSet_88, ↓tbX8_isSet_89, ↓tbX8_isSet_90, ↓tbX8_isSet_91, ↓tbX8_isSet_94, ↓tbX8_isSet_95, ↓tbX8_isSet_98, ↓tbX8_isSet_99, ↓tbX8_isSet_101, ↓tbX8_isSet_104, ↓tbX8_isSet_107, ↓tbX8_isSet_109, ↓tbX8_isSet_112, ↓tbX8_isSet_113, ↓tbX8_isSet_115, ↓tbX8_isSet_118, ↓tbX8_isSet_119, ↓tbX8_isSet_122, ↓tbX8_isSet_123, hfu, xstep0, xJ1_hit, xJ1_go, xJ2_hit1, xJ2_hit2, xJ2_go, ↓xif_t, ↓xif_f, seval, ↓xca_eq, ↓xre_l, ↓xre_r, xmask_t, xmask_f, xmask_nil, ↓xst_eq, xX_eq, eI_eq, eMc_eq, eMs_eq, eF_eq, eThr_eq, ↓xS1_mk, ↓xSI_mk, ↓xSR_mk, ↓xLI_0, ↓xLI_s, ↓xLR_0, ↓xLR_s, vRef_ref, vRef_null, vRef_rf, cat_int, cat_ref, cat_null, cat_rf, rf_some, rf_none, rf_null, rf_eq, rf_ref, ref_rf, ref_null, ref_ref, xOk_0, xOk_1, xOk_2r, xOk_2n, xOk_2f, vOpt_rf, vOpt_ref, vOpt_null, List.set_cons_zero, List.set_cons_succ, List.take_succ_cons, List.take_zero, List.drop_succ_cons, List.drop_zero, List.reverse_cons, List.reverse_nil, List.nil_append, List.cons_append, List.append_nil, List.length_cons, List.length_nil, List.map_cons, List.map_nil, List.sum_cons, List.sum_nil, Option.toList_some, Option.toList_none, xRecv_mk, true_and, and_true, true_implies, Nat.reduceAdd, Nat.reduceLeDiff, Nat.zero_le, Nat.le_refl, Nat.add_zero, Nat.zero_add, reduceIte, not_true_eq_false, not_false_eq_true, false_implies, and_self, implies_true, eq_self, Nat.reduceEqDiff, List.cons.injEq, xsn_1, xsn_2, false_and, and_false, or_false, false_or, or_true, true_or, xsn_3, xsn_4, mAst_1, mAst_2, mSet_1, mSet_2, bi_0, ↓spwX8_isBarge, spcX8_isBarge, ↓spwX8_isTied, spcX8_isTied, e0, e2, ix_nI (show j < 1000 by omega), d, hs, hv, nI1, Bool.true_and, decide_eq_true_eq]
          try simp only [xif_e]
          repeat' (first | with_reducible apply And.intro | with_reducible intro _)
          all_goals grind [bi]
        · rw [if_neg d] at hs
          have d2 : ¬ s >>> (nI j &&& 31) &&& 1 = 1 := d
          simp only [↓callX8_isSet_0, ↓callX8_isSet_1, kb_31, kb_6, kc_31, kc_6, ki_0, ki_1, ki_2, ↓ma_27, ↓mg_27, misa, ↓vm_aload_n, ↓vm_bipush, ↓vm_getfield, ↓vm_goto, ↓vm_iadd, ↓vm_iaload, ↓vm_iand, ↓vm_iconst, ↓vm_idiv, ↓vm_ifCond_eq, ↓vm_ifCond_lt, ↓vm_if_icmp_ge, ↓vm_if_icmp_gt, ↓vm_if_icmp_ne, ↓vm_iinc, ↓vm_iload, ↓vm_iload_n, ↓vm_invokevirtual, ↓vm_ireturn, ↓vm_ishr, ↓vm_istore, ↓vm_istore_n, ↓xc_2, ↓tbX8_isSet_0, ↓tbX8_isSet_1, ↓tbX8_isSet_2, ↓tbX8_isSet_3, ↓tbX8_isSet_6, ↓tbX8_isSet_7, ↓tbX8_isSet_10, ↓tbX8_isSet_11, ↓tbX8_isSet_13, ↓tbX8_isSet_14, ↓tbX8_isSet_16, ↓tbX8_isSet_18, ↓tbX8_isSet_20, ↓tbX8_isSet_23, ↓tbX8_isSet_25, ↓tbX8_isSet_28, ↓tbX8_isSet_29, ↓tbX8_isSet_31, ↓tbX8_isSet_32, ↓tbX8_isSet_33, ↓tbX8_isSet_34, ↓tbX8_isSet_35, ↓tbX8_isSet_38, ↓tbX8_isSet_39, ↓tbX8_isSet_42, ↓tbX8_isSet_43, ↓tbX8_isSet_45, ↓tbX8_isSet_46, ↓tbX8_isSet_48, ↓tbX8_isSet_51, ↓tbX8_isSet_52, ↓tbX8_isSet_55, ↓tbX8_isSet_56, ↓tbX8_isSet_57, ↓tbX8_isSet_58, ↓tbX8_isSet_60, ↓tbX8_isSet_63, ↓tbX8_isSet_64, ↓tbX8_isSet_66, ↓tbX8_isSet_69, ↓tbX8_isSet_72, ↓tbX8_isSet_73, ↓tbX8_isSet_75, ↓tbX8_isSet_78, ↓tbX8_isSet_81, ↓tbX8_isSet_82, ↓tbX8_isSet_85, ↓tbX8_isSet_87, ↓tbX8_isSet_88, ↓tbX8_isSet_89, ↓tbX8_isSet_90, ↓tbX8_isSet_91, ↓tbX8_isSet_94, ↓tbX8_isSet_95, ↓tbX8_isSet_98, ↓tbX8_isSet_99, ↓tbX8_isSet_101, ↓tbX8_isSet_104, ↓tbX8_isSet_107, ↓tbX8_isSet_109, ↓tbX8_isSet_112, ↓tbX8_isSet_113, ↓tbX8_isSet_115, ↓tbX8_isSet_118, ↓tbX8_isSet_119, ↓tbX8_isSet_122, ↓tbX8_isSet_123, hfu, xstep0, xJ1_hit, xJ1_go, xJ2_hit1, xJ2_hit2, xJ2_go, ↓xif_t, ↓xif_f, seval, ↓xca_eq, ↓xre_l, ↓xre_r, xmask_t, xmask_f, xmask_nil, ↓xst_eq, xX_eq, eI_eq, eMc_eq, eMs_eq, eF_eq, eThr_eq, ↓xS1_mk, ↓xSI_mk, ↓xSR_mk, ↓xLI_0, ↓xLI_s, ↓xLR_0, ↓xLR_s, vRef_ref, vRef_null, vRef_rf, cat_int, cat_ref, cat_null, cat_rf, rf_some, rf_none, rf_null, rf_eq, rf_ref, ref_rf, ref_null, ref_ref, xOk_0, xOk_1, xOk_2r, xOk_2n, xOk_2f, vOpt_rf, vOpt_ref, vOpt_null, List.set_cons_zero, List.set_cons_succ, List.take_succ_cons, List.take_zero, List.drop_succ_cons, List.drop_zero, List.reverse_cons, List.reverse_nil, List.nil_append, List.cons_append, List.append_nil, List.length_cons, List.length_nil, List.map_cons, List.map_nil, List.sum_cons, List.sum_nil, Option.toList_some, Option.toList_none, xRecv_mk, true_and, and_true, true_implies, Nat.reduceAdd, Nat.reduceLeDiff, Nat.zero_le, Nat.le_refl, Nat.add_zero, Nat.zero_add, reduceIte, not_true_eq_false, not_false_eq_true, false_implies, and_self, implies_true, eq_self, Nat.reduceEqDiff, List.cons.injEq, xsn_1, xsn_2, false_and, and_false, or_false, false_or, or_true, true_or, xsn_3, xsn_4, mAst_1, mAst_2, mSet_1, mSet_2, bi_0, ↓spwX8_isBarge, spcX8_isBarge, ↓spwX8_isTied, spcX8_isTied, e0, e2, ix_nI (show j < 1000 by omega), d, d2, hs, hv, nI1, Bool.true_and, decide_eq_true_eq]
          try simp only [xif_e]
          repeat' (first | with_reducible apply And.intro | with_reducible intro _)
          all_goals grind [bi]) (by
      rintro lv st S cs ss ⟨rfl, rfl, rfl, rfl, rfl⟩ fu hfu
      have e0 : ((31 : Int32) ≤ nI 31) = True := eq_true (Int32.le_refl _)
      simp only [↓callX8_isSet_0, ↓callX8_isSet_1, kb_31, kb_6, kc_31, kc_6, ki_0, ki_1, ki_2, ↓ma_27, ↓mg_27, misa, ↓vm_aload_n, ↓vm_bipush, ↓vm_getfield, ↓vm_goto, ↓vm_iadd, ↓vm_iaload, ↓vm_iand, ↓vm_iconst, ↓vm_idiv, ↓vm_ifCond_eq, ↓vm_ifCond_lt, ↓vm_if_icmp_ge, ↓vm_if_icmp_gt, ↓vm_if_icmp_ne, ↓vm_iinc, ↓vm_iload, ↓vm_iload_n, ↓vm_invokevirtual, ↓vm_ireturn, ↓vm_ishr, ↓vm_istore, ↓vm_istore_n, ↓xc_2, ↓tbX8_isSet_0, ↓tbX8_isSet_1, ↓tbX8_isSet_2, ↓tbX8_isSet_3, ↓tbX8_isSet_6, ↓tbX8_isSet_7, ↓tbX8_isSet_10, ↓tbX8_isSet_11, ↓tbX8_isSet_13, ↓tbX8_isSet_14, ↓tbX8_isSet_16, ↓tbX8_isSet_18, ↓tbX8_isSet_20, ↓tbX8_isSet_23, ↓tbX8_isSet_25, ↓tbX8_isSet_28, ↓tbX8_isSet_29, ↓tbX8_isSet_31, ↓tbX8_isSet_32, ↓tbX8_isSet_33, ↓tbX8_isSet_34, ↓tbX8_isSet_35, ↓tbX8_isSet_38, ↓tbX8_isSet_39, ↓tbX8_isSet_42, ↓tbX8_isSet_43, ↓tbX8_isSet_45, ↓tbX8_isSet_46, ↓tbX8_isSet_48, ↓tbX8_isSet_51, ↓tbX8_isSet_52, ↓tbX8_isSet_55, ↓tbX8_isSet_56, ↓tbX8_isSet_57, ↓tbX8_isSet_58, ↓tbX8_isSet_60, ↓tbX8_isSet_63, ↓tbX8_isSet_64, ↓tbX8_isSet_66, ↓tbX8_isSet_69, ↓tbX8_isSet_72, ↓tbX8_isSet_73, ↓tbX8_isSet_75, ↓tbX8_isSet_78, ↓tbX8_isSet_81, ↓tbX8_isSet_82, ↓tbX8_isSet_85, ↓tbX8_isSet_87, ↓tbX8_isSet_88, ↓tbX8_isSet_89, ↓tbX8_isSet_90, ↓tbX8_isSet_91, ↓tbX8_isSet_94, ↓tbX8_isSet_95, ↓tbX8_isSet_98, ↓tbX8_isSet_99, ↓tbX8_isSet_101, ↓tbX8_isSet_104, ↓tbX8_isSet_107, ↓tbX8_isSet_109, ↓tbX8_isSet_112, ↓tbX8_isSet_113, ↓tbX8_isSet_115, ↓tbX8_isSet_118, ↓tbX8_isSet_119, ↓tbX8_isSet_122, ↓tbX8_isSet_123, hfu, xstep0, xJ1_hit, xJ1_go, xJ2_hit1, xJ2_hit2, xJ2_go, ↓xif_t, ↓xif_f, seval, ↓xca_eq, ↓xre_l, ↓xre_r, xmask_t, xmask_f, xmask_nil, ↓xst_eq, xX_eq, eI_eq, eMc_eq, eMs_eq, eF_eq, eThr_eq, ↓xS1_mk, ↓xSI_mk, ↓xSR_mk, ↓xLI_0, ↓xLI_s, ↓xLR_0, ↓xLR_s, vRef_ref, vRef_null, vRef_rf, cat_int, cat_ref, cat_null, cat_rf, rf_some, rf_none, rf_null, rf_eq, rf_ref, ref_rf, ref_null, ref_ref, xOk_0, xOk_1, xOk_2r, xOk_2n, xOk_2f, vOpt_rf, vOpt_ref, vOpt_null, List.set_cons_zero, List.set_cons_succ, List.take_succ_cons, List.take_zero, List.drop_succ_cons, List.drop_zero, List.reverse_cons, List.reverse_nil, List.nil_append, List.cons_append, List.append_nil, List.length_cons, List.length_nil, List.map_cons, List.map_nil, List.sum_cons, List.sum_nil, Option.toList_some, Option.toList_none, xRecv_mk, true_and, and_true, true_implies, Nat.reduceAdd, Nat.reduceLeDiff, Nat.zero_le, Nat.le_refl, Nat.add_zero, Nat.zero_add, reduceIte, not_true_eq_false, not_false_eq_true, false_implies, and_self, implies_true, eq_self, Nat.reduceEqDiff, List.cons.injEq, xsn_1, xsn_2, false_and, and_false, or_false, false_or, or_true, true_or, xsn_3, xsn_4, mAst_1, mAst_2, mSet_1, mSet_2, bi_0, ↓spwX8_isBarge, spcX8_isBarge, ↓spwX8_isTied, spcX8_isTied, e0]
      try simp only [xif_e]
      repeat' (first | with_reducible apply And.intro | with_reducible intro _)
      all_goals grind [bi])
  refine xgo hG (mb := [true, true, true, true, true, true, false]) (loop 0 (Nat.zero_le _)) (pc := 0) (fun fu hfu => ?_)
  simp only [↓callX8_isSet_0, ↓callX8_isSet_1, kb_31, kb_6, kc_31, kc_6, ki_0, ki_1, ki_2, ↓ma_27, ↓mg_27, misa, ↓vm_aload_n, ↓vm_bipush, ↓vm_getfield, ↓vm_goto, ↓vm_iadd, ↓vm_iaload, ↓vm_iand, ↓vm_iconst, ↓vm_idiv, ↓vm_ifCond_eq, ↓vm_ifCond_lt, ↓vm_if_icmp_ge, ↓vm_if_icmp_gt, ↓vm_if_icmp_ne, ↓vm_iinc, ↓vm_iload, ↓vm_iload_n, ↓vm_invokevirtual, ↓vm_ireturn, ↓vm_ishr, ↓vm_istore, ↓vm_istore_n, ↓xc_2, ↓tbX8_isSet_0, ↓tbX8_isSet_1, ↓tbX8_isSet_2, ↓tbX8_isSet_3, ↓tbX8_isSet_6, ↓tbX8_isSet_7, ↓tbX8_isSet_10, ↓tbX8_isSet_11, ↓tbX8_isSet_13, ↓tbX8_isSet_14, ↓tbX8_isSet_16, ↓tbX8_isSet_18, ↓tbX8_isSet_20, ↓tbX8_isSet_23, ↓tbX8_isSet_25, ↓tbX8_isSet_28, ↓tbX8_isSet_29, ↓tbX8_isSet_31, ↓tbX8_isSet_32, ↓tbX8_isSet_33, ↓tbX8_isSet_34, ↓tbX8_isSet_35, ↓tbX8_isSet_38, ↓tbX8_isSet_39, ↓tbX8_isSet_42, ↓tbX8_isSet_43, ↓tbX8_isSet_45, ↓tbX8_isSet_46, ↓tbX8_isSet_48, ↓tbX8_isSet_51, ↓tbX8_isSet_52, ↓tbX8_isSet_55, ↓tbX8_isSet_56, ↓tbX8_isSet_57, ↓tbX8_isSet_58, ↓tbX8_isSet_60, ↓tbX8_isSet_63, ↓tbX8_isSet_64, ↓tbX8_isSet_66, ↓tbX8_isSet_69, ↓tbX8_isSet_72, ↓tbX8_isSet_73, ↓tbX8_isSet_75, ↓tbX8_isSet_78, ↓tbX8_isSet_81, ↓tbX8_isSet_82, ↓tbX8_isSet_85, ↓tbX8_isSet_87, ↓tbX8_isSet_88, ↓tbX8_isSet_89, ↓tbX8_isSet_90, ↓tbX8_isSet_91, ↓tbX8_isSet_94, ↓tbX8_isSet_95, ↓tbX8_isSet_98, ↓tbX8_isSet_99, ↓tbX8_isSet_101, ↓tbX8_isSet_104, ↓tbX8_isSet_107, ↓tbX8_isSet_109, ↓tbX8_isSet_112, ↓tbX8_isSet_113, ↓tbX8_isSet_115, ↓tbX8_isSet_118, ↓tbX8_isSet_119, ↓tbX8_isSet_122, ↓tbX8_isSet_123, hfu, xstep0, xJ1_hit, xJ1_go, xJ2_hit1, xJ2_hit2, xJ2_go, ↓xif_t, ↓xif_f, seval, ↓xca_eq, ↓xre_l, ↓xre_r, xmask_t, xmask_f, xmask_nil, ↓xst_eq, xX_eq, eI_eq, eMc_eq, eMs_eq, eF_eq, eThr_eq, ↓xS1_mk, ↓xSI_mk, ↓xSR_mk, ↓xLI_0, ↓xLI_s, ↓xLR_0, ↓xLR_s, vRef_ref, vRef_null, vRef_rf, cat_int, cat_ref, cat_null, cat_rf, rf_some, rf_none, rf_null, rf_eq, rf_ref, ref_rf, ref_null, ref_ref, xOk_0, xOk_1, xOk_2r, xOk_2n, xOk_2f, vOpt_rf, vOpt_ref, vOpt_null, List.set_cons_zero, List.set_cons_succ, List.take_succ_cons, List.take_zero, List.drop_succ_cons, List.drop_zero, List.reverse_cons, List.reverse_nil, List.nil_append, List.cons_append, List.append_nil, List.length_cons, List.length_nil, List.map_cons, List.map_nil, List.sum_cons, List.sum_nil, Option.toList_some, Option.toList_none, xRecv_mk, true_and, and_true, true_implies, Nat.reduceAdd, Nat.reduceLeDiff, Nat.zero_le, Nat.le_refl, Nat.add_zero, Nat.zero_add, reduceIte, not_true_eq_false, not_false_eq_true, false_implies, and_self, implies_true, eq_self, Nat.reduceEqDiff, List.cons.injEq, xsn_1, xsn_2, false_and, and_false, or_false, false_or, or_true, true_or, xsn_3, xsn_4, mAst_1, mAst_2, mSet_1, mSet_2, bi_0, ↓spwX8_isBarge, spcX8_isBarge, ↓spwX8_isTied, spcX8_isTied]
  try simp only [xif_e]
  have z : mIs M p s 0 = decide (0 ≤ s) := rfl
  have z2 : mSn s 0 = 0 := rfl
  simp only [z, z2, decide_eq_true_eq]
  repeat' (first | with_reducible apply And.intro | with_reducible intro _)
  all_goals grind [bi, nI_0]

def mShO (M : mS) (s : Int32) (t n : Nat) : Nat → Int32
  | 0 => 0
  | j + 1 => mShO M s t n j + (if mHas s (M.2 19 (5 * t + (n - 1 - j))) then 0 else 1)
def mShN (M : mS) (s : Int32) (t n : Nat) (z : Int32) : Nat → Int32
  | 0 => z
  | j + 1 => mShN M s t n z j + (if mHas s (M.2 19 (5 * t + (n - 1 - j))) then mShO M s t n j else 0)
def mShT (M : mS) (s : Int32) (t : Nat) (z : Int32) : Int32 := mShN M s t (nT M t) z (nT M t)
def oShifts (M : mS) (p s : Int32) : Int32 × mS :=
  if ¬ (0 ≤ p ∧ p ≤ 7) then (0, mSet M 0 1)
  else if ¬ mIsr M p s then (0, mSet M 0 2)
  else (mShT M s (2 * p.toNatClampNeg + 1) (mShT M s (2 * p.toNatClampNeg) 0), mSet M 0 0)
theorem m2_nI (t : Nat) : (2 : Int32) * nI t = nI (2 * t) := pk_mul 2 t
theorem nI2 {j : Nat} : nI j + 2 = nI (j + 2) := nI_add j 2

def tbX8_shifts : List (Nat × xHint) := [(0, .aload_n 0, 0, 0, 0, []), (1, .iload_n 1, 1, 0, 0, []), (2, .invokestatic 163, 0, 1, 0, []), (5, .ifCond .ne 7, 12, 0, 0, []), (8, .iconst 1, 0, 0, 0, []), (9, .goto 17, 26, 0, 0, []), (12, .aload_n 0, 0, 0, 0, []), (13, .iload_n 1, 1, 0, 0, []), (14, .iload_n 2, 2, 0, 0, []), (15, .invokevirtual 347, 1, 3, 9, []), (18, .ifCond .eq 7, 25, 0, 0, []), (21, .iconst 0, 0, 0, 0, []), (22, .goto 4, 26, 0, 0, []), (25, .iconst 2, 0, 0, 0, []), (26, .invokevirtual 183, 2, 2, 9, []), (29, .ifCond .ne 5, 34, 0, 0, []), (32, .iconst 0, 0, 0, 0, []), (33, .ireturn, 0, 0, 0, []), (34, .iconst 0, 0, 0, 0, []), (35, .istore_n 3, 3, 0, 0, []), (36, .iconst 2, 0, 0, 0, []), (37, .iload_n 1, 1, 0, 0, []), (38, .imul, 0, 0, 0, []), (39, .istore 4, 4, 0, 0, []), (41, .iload 4, 4, 0, 0, []), (43, .iconst 2, 0, 0, 0, []), (44, .iload_n 1, 1, 0, 0, []), (45, .imul, 0, 0, 0, []), (46, .iconst 2, 0, 0, 0, []), (47, .iadd, 0, 0, 0, []), (48, .if_icmp .ge 90, 138, 0, 0, []), (51, .iconst 0, 0, 0, 0, []), (52, .istore 5, 5, 0, 0, []), (54, .aload_n 0, 0, 0, 0, []), (55, .getfield 50, 9, 18, 2, []), (58, .iload 4, 4, 0, 0, []), (60, .iaload, 18, 0, 0, []), (61, .iconst 1, 0, 0, 0, []), (62, .isub, 0, 0, 0, []), (63, .istore 6, 6, 0, 0, []), (65, .iload 6, 6, 0, 0, []), (67, .ifCond .lt 65, 132, 0, 0, []), (70, .iload_n 2, 2, 0, 0, []), (71, .aload_n 0, 0, 0, 0, []), (72, .getfield 53, 9, 19, 2, []), (75, .iconst 5, 0, 0, 0, []), (76, .iload 4, 4, 0, 0, []), (78, .imul, 0, 0, 0, []), (79, .iload 6, 6, 0, 0, []), (81, .iadd, 0, 0, 0, []), (82, .iaload, 19, 0, 0, []), (83, .ishr, 0, 0, 0, []), (84, .iconst 1, 0, 0, 0, []), (85, .iand, 0, 0, 0, []), (86, .iconst 1, 0, 0, 0, []), (87, .if_icmp .ne 7, 94, 0, 0, []), (90, .iconst 1, 0, 0, 0, []), (91, .goto 4, 95, 0, 0, []), (94, .iconst 0, 0, 0, 0, []), (95, .istore 7, 7, 0, 0, []), (97, .iload_n 3, 3, 0, 0, []), (98, .iload 7, 7, 0, 0, []), (100, .ifCond .eq 8, 108, 0, 0, []), (103, .iload 5, 5, 0, 0, []), (105, .goto 4, 109, 0, 0, []), (108, .iconst 0, 0, 0, 0, []), (109, .iadd, 0, 0, 0, []), (110, .istore_n 3, 3, 0, 0, []), (111, .iload 5, 5, 0, 0, []), (113, .iload 7, 7, 0, 0, []), (115, .ifCond .eq 7, 122, 0, 0, []), (118, .iconst 0, 0, 0, 0, []), (119, .goto 4, 123, 0, 0, []), (122, .iconst 1, 0, 0, 0, []), (123, .iadd, 0, 0, 0, []), (124, .istore 5, 5, 0, 0, []), (126, .iinc 6 (-1), 6, 0, 0, []), (129, .goto (-64), 65, 0, 0, []), (132, .iinc 4 1, 4, 0, 0, []), (135, .goto (-94), 41, 0, 0, []), (138, .iload_n 3, 3, 0, 0, []), (139, .ireturn, 0, 0, 0, [])]
def clX8_shifts : List (Instr × Nat × Nat × Nat) := [(.invokestatic 163, 0, 1, 0), (.invokevirtual 347, 1, 3, 9), (.invokevirtual 183, 2, 2, 9)]
def thX8_shifts : List (Nat × Nat) := []
theorem ckX8_shifts : tbX8_shifts.all (xRow RX8 cX8_shifts wsX8_shifts vwCl [9] clX8_shifts thX8_shifts 8 (yX8_shifts.name == "<init>") (some .int)) = true := xRow_q 0xac1da2ffa7010484c0ffa7ff0684053660040400a703070099071505153e60030400a7051508009907151d0736030400a7040700a0047e047a2e600615680415083500b42a1c41009b0615063664042e04153200b42a0536035a00a26005681b0504150436681b053e03ac0305009ab700b6050400a7030700995b01b61c1b2a1100a70407009aa300b81b2a 140 (by decide +kernel) (by decide +kernel)
theorem usX8_shifts : xUse wsX8_shifts vwCl [9] = true := xUse_g rfl (lw_good lwl_X8_shifts lwl_X80 (by decide +kernel)) xUse_n
theorem tbX8_shifts_0 {k : Instr → Nat → Nat → Nat → List Nat → Prop} : xse (xFind tbX8_shifts 0) k = k (.aload_n 0) 0 0 0 [] := rfl
theorem tbX8_shifts_1 {k : Instr → Nat → Nat → Nat → List Nat → Prop} : xse (xFind tbX8_shifts 1) k = k (.iload_n 1) 1 0 0 [] := rfl
theorem tbX8_shifts_2 {k : Instr → Nat → Nat → Nat → List Nat → Prop} : xse (xFind tbX8_shifts 2) k = k (.invokestatic 163) 0 1 0 [] := rfl
theorem tbX8_shifts_5 {k : Instr → Nat → Nat → Nat → List Nat → Prop} : xse (xFind tbX8_shifts 5) k = k (.ifCond .ne 7) 12 0 0 [] := rfl
theorem tbX8_shifts_8 {k : Instr → Nat → Nat → Nat → List Nat → Prop} : xse (xFind tbX8_shifts 8) k = k (.iconst 1) 0 0 0 [] := rfl
theorem tbX8_shifts_9 {k : Instr → Nat → Nat → Nat → List Nat → Prop} : xse (xFind tbX8_shifts 9) k = k (.goto 17) 26 0 0 [] := rfl
theorem tbX8_shifts_12 {k : Instr → Nat → Nat → Nat → List Nat → Prop} : xse (xFind tbX8_shifts 12) k = k (.aload_n 0) 0 0 0 [] := rfl
theorem tbX8_shifts_13 {k : Instr → Nat → Nat → Nat → List Nat → Prop} : xse (xFind tbX8_shifts 13) k = k (.iload_n 1) 1 0 0 [] := rfl
theorem tbX8_shifts_14 {k : Instr → Nat → Nat → Nat → List Nat → Prop} : xse (xFind tbX8_shifts 14) k = k (.iload_n 2) 2 0 0 [] := rfl
theorem tbX8_shifts_15 {k : Instr → Nat → Nat → Nat → List Nat → Prop} : xse (xFind tbX8_shifts 15) k = k (.invokevirtual 347) 1 3 9 [] := rfl
theorem tbX8_shifts_18 {k : Instr → Nat → Nat → Nat → List Nat → Prop} : xse (xFind tbX8_shifts 18) k = k (.ifCond .eq 7) 25 0 0 [] := rfl
theorem tbX8_shifts_21 {k : Instr → Nat → Nat → Nat → List Nat → Prop} : xse (xFind tbX8_shifts 21) k = k (.iconst 0) 0 0 0 [] := rfl
theorem tbX8_shifts_22 {k : Instr → Nat → Nat → Nat → List Nat → Prop} : xse (xFind tbX8_shifts 22) k = k (.goto 4) 26 0 0 [] := rfl
theorem tbX8_shifts_25 {k : Instr → Nat → Nat → Nat → List Nat → Prop} : xse (xFind tbX8_shifts 25) k = k (.iconst 2) 0 0 0 [] := rfl
theorem tbX8_shifts_26 {k : Instr → Nat → Nat → Nat → List Nat → Prop} : xse (xFind tbX8_shifts 26) k = k (.invokevirtual 183) 2 2 9 [] := rfl
theorem tbX8_shifts_29 {k : Instr → Nat → Nat → Nat → List Nat → Prop} : xse (xFind tbX8_shifts 29) k = k (.ifCond .ne 5) 34 0 0 [] := rfl
theorem tbX8_shifts_32 {k : Instr → Nat → Nat → Nat → List Nat → Prop} : xse (xFind tbX8_shifts 32) k = k (.iconst 0) 0 0 0 [] := rfl
theorem tbX8_shifts_33 {k : Instr → Nat → Nat → Nat → List Nat → Prop} : xse (xFind tbX8_shifts 33) k = k (.ireturn) 0 0 0 [] := rfl
theorem tbX8_shifts_34 {k : Instr → Nat → Nat → Nat → List Nat → Prop} : xse (xFind tbX8_shifts 34) k = k (.iconst 0) 0 0 0 [] := rfl
theorem tbX8_shifts_35 {k : Instr → Nat → Nat → Nat → List Nat → Prop} : xse (xFind tbX8_shifts 35) k = k (.istore_n 3) 3 0 0 [] := rfl
theorem tbX8_shifts_36 {k : Instr → Nat → Nat → Nat → List Nat → Prop} : xse (xFind tbX8_shifts 36) k = k (.iconst 2) 0 0 0 [] := rfl
theorem tbX8_shifts_37 {k : Instr → Nat → Nat → Nat → List Nat → Prop} : xse (xFind tbX8_shifts 37) k = k (.iload_n 1) 1 0 0 [] := rfl
theorem tbX8_shifts_38 {k : Instr → Nat → Nat → Nat → List Nat → Prop} : xse (xFind tbX8_shifts 38) k = k (.imul) 0 0 0 [] := rfl
theorem tbX8_shifts_39 {k : Instr → Nat → Nat → Nat → List Nat → Prop} : xse (xFind tbX8_shifts 39) k = k (.istore 4) 4 0 0 [] := rfl
theorem tbX8_shifts_41 {k : Instr → Nat → Nat → Nat → List Nat → Prop} : xse (xFind tbX8_shifts 41) k = k (.iload 4) 4 0 0 [] := rfl
theorem tbX8_shifts_43 {k : Instr → Nat → Nat → Nat → List Nat → Prop} : xse (xFind tbX8_shifts 43) k = k (.iconst 2) 0 0 0 [] := rfl
theorem tbX8_shifts_44 {k : Instr → Nat → Nat → Nat → List Nat → Prop} : xse (xFind tbX8_shifts 44) k = k (.iload_n 1) 1 0 0 [] := rfl
theorem tbX8_shifts_45 {k : Instr → Nat → Nat → Nat → List Nat → Prop} : xse (xFind tbX8_shifts 45) k = k (.imul) 0 0 0 [] := rfl
theorem tbX8_shifts_46 {k : Instr → Nat → Nat → Nat → List Nat → Prop} : xse (xFind tbX8_shifts 46) k = k (.iconst 2) 0 0 0 [] := rfl
theorem tbX8_shifts_47 {k : Instr → Nat → Nat → Nat → List Nat → Prop} : xse (xFind tbX8_shifts 47) k = k (.iadd) 0 0 0 [] := rfl
theorem tbX8_shifts_48 {k : Instr → Nat → Nat → Nat → List Nat → Prop} : xse (xFind tbX8_shifts 48) k = k (.if_icmp .ge 90) 138 0 0 [] := rfl
theorem tbX8_shifts_51 {k : Instr → Nat → Nat → Nat → List Nat → Prop} : xse (xFind tbX8_shifts 51) k = k (.iconst 0) 0 0 0 [] := rfl
theorem tbX8_shifts_52 {k : Instr → Nat → Nat → Nat → List Nat → Prop} : xse (xFind tbX8_shifts 52) k = k (.istore 5) 5 0 0 [] := rfl
theorem tbX8_shifts_54 {k : Instr → Nat → Nat → Nat → List Nat → Prop} : xse (xFind tbX8_shifts 54) k = k (.aload_n 0) 0 0 0 [] := rfl
theorem tbX8_shifts_55 {k : Instr → Nat → Nat → Nat → List Nat → Prop} : xse (xFind tbX8_shifts 55) k = k (.getfield 50) 9 18 2 [] := rfl
theorem tbX8_shifts_58 {k : Instr → Nat → Nat → Nat → List Nat → Prop} : xse (xFind tbX8_shifts 58) k = k (.iload 4) 4 0 0 [] := rfl
theorem tbX8_shifts_60 {k : Instr → Nat → Nat → Nat → List Nat → Prop} : xse (xFind tbX8_shifts 60) k = k (.iaload) 18 0 0 [] := rfl
theorem tbX8_shifts_61 {k : Instr → Nat → Nat → Nat → List Nat → Prop} : xse (xFind tbX8_shifts 61) k = k (.iconst 1) 0 0 0 [] := rfl
theorem tbX8_shifts_62 {k : Instr → Nat → Nat → Nat → List Nat → Prop} : xse (xFind tbX8_shifts 62) k = k (.isub) 0 0 0 [] := rfl
theorem tbX8_shifts_63 {k : Instr → Nat → Nat → Nat → List Nat → Prop} : xse (xFind tbX8_shifts 63) k = k (.istore 6) 6 0 0 [] := rfl
theorem tbX8_shifts_65 {k : Instr → Nat → Nat → Nat → List Nat → Prop} : xse (xFind tbX8_shifts 65) k = k (.iload 6) 6 0 0 [] := rfl
theorem tbX8_shifts_67 {k : Instr → Nat → Nat → Nat → List Nat → Prop} : xse (xFind tbX8_shifts 67) k = k (.ifCond .lt 65) 132 0 0 [] := rfl
theorem tbX8_shifts_70 {k : Instr → Nat → Nat → Nat → List Nat → Prop} : xse (xFind tbX8_shifts 70) k = k (.iload_n 2) 2 0 0 [] := rfl
theorem tbX8_shifts_71 {k : Instr → Nat → Nat → Nat → List Nat → Prop} : xse (xFind tbX8_shifts 71) k = k (.aload_n 0) 0 0 0 [] := rfl
theorem tbX8_shifts_72 {k : Instr → Nat → Nat → Nat → List Nat → Prop} : xse (xFind tbX8_shifts 72) k = k (.getfield 53) 9 19 2 [] := rfl
theorem tbX8_shifts_75 {k : Instr → Nat → Nat → Nat → List Nat → Prop} : xse (xFind tbX8_shifts 75) k = k (.iconst 5) 0 0 0 [] := rfl
theorem tbX8_shifts_76 {k : Instr → Nat → Nat → Nat → List Nat → Prop} : xse (xFind tbX8_shifts 76) k = k (.iload 4) 4 0 0 [] := rfl
theorem tbX8_shifts_78 {k : Instr → Nat → Nat → Nat → List Nat → Prop} : xse (xFind tbX8_shifts 78) k = k (.imul) 0 0 0 [] := rfl
theorem tbX8_shifts_79 {k : Instr → Nat → Nat → Nat → List Nat → Prop} : xse (xFind tbX8_shifts 79) k = k (.iload 6) 6 0 0 [] := rfl
theorem tbX8_shifts_81 {k : Instr → Nat → Nat → Nat → List Nat → Prop} : xse (xFind tbX8_shifts 81) k = k (.iadd) 0 0 0 [] := rfl
theorem tbX8_shifts_82 {k : Instr → Nat → Nat → Nat → List Nat → Prop} : xse (xFind tbX8_shifts 82) k = k (.iaload) 19 0 0 [] := rfl
theorem tbX8_shifts_83 {k : Instr → Nat → Nat → Nat → List Nat → Prop} : xse (xFind tbX8_shifts 83) k = k (.ishr) 0 0 0 [] := rfl
theorem tbX8_shifts_84 {k : Instr → Nat → Nat → Nat → List Nat → Prop} : xse (xFind tbX8_shifts 84) k = k (.iconst 1) 0 0 0 [] := rfl
theorem tbX8_shifts_85 {k : Instr → Nat → Nat → Nat → List Nat → Prop} : xse (xFind tbX8_shifts 85) k = k (.iand) 0 0 0 [] := rfl
theorem tbX8_shifts_86 {k : Instr → Nat → Nat → Nat → List Nat → Prop} : xse (xFind tbX8_shifts 86) k = k (.iconst 1) 0 0 0 [] := rfl
theorem tbX8_shifts_87 {k : Instr → Nat → Nat → Nat → List Nat → Prop} : xse (xFind tbX8_shifts 87) k = k (.if_icmp .ne 7) 94 0 0 [] := rfl
theorem tbX8_shifts_90 {k : Instr → Nat → Nat → Nat → List Nat → Prop} : xse (xFind tbX8_shifts 90) k = k (.iconst 1) 0 0 0 [] := rfl
theorem tbX8_shifts_91 {k : Instr → Nat → Nat → Nat → List Nat → Prop} : xse (xFind tbX8_shifts 91) k = k (.goto 4) 95 0 0 [] := rfl
theorem tbX8_shifts_94 {k : Instr → Nat → Nat → Nat → List Nat → Prop} : xse (xFind tbX8_shifts 94) k = k (.iconst 0) 0 0 0 [] := rfl
theorem tbX8_shifts_95 {k : Instr → Nat → Nat → Nat → List Nat → Prop} : xse (xFind tbX8_shifts 95) k = k (.istore 7) 7 0 0 [] := rfl
theorem tbX8_shifts_97 {k : Instr → Nat → Nat → Nat → List Nat → Prop} : xse (xFind tbX8_shifts 97) k = k (.iload_n 3) 3 0 0 [] := rfl
theorem tbX8_shifts_98 {k : Instr → Nat → Nat → Nat → List Nat → Prop} : xse (xFind tbX8_shifts 98) k = k (.iload 7) 7 0 0 [] := rfl
theorem tbX8_shifts_100 {k : Instr → Nat → Nat → Nat → List Nat → Prop} : xse (xFind tbX8_shifts 100) k = k (.ifCond .eq 8) 108 0 0 [] := rfl
theorem tbX8_shifts_103 {k : Instr → Nat → Nat → Nat → List Nat → Prop} : xse (xFind tbX8_shifts 103) k = k (.iload 5) 5 0 0 [] := rfl
theorem tbX8_shifts_105 {k : Instr → Nat → Nat → Nat → List Nat → Prop} : xse (xFind tbX8_shifts 105) k = k (.goto 4) 109 0 0 [] := rfl
theorem tbX8_shifts_108 {k : Instr → Nat → Nat → Nat → List Nat → Prop} : xse (xFind tbX8_shifts 108) k = k (.iconst 0) 0 0 0 [] := rfl
theorem tbX8_shifts_109 {k : Instr → Nat → Nat → Nat → List Nat → Prop} : xse (xFind tbX8_shifts 109) k = k (.iadd) 0 0 0 [] := rfl
theorem tbX8_shifts_110 {k : Instr → Nat → Nat → Nat → List Nat → Prop} : xse (xFind tbX8_shifts 110) k = k (.istore_n 3) 3 0 0 [] := rfl
theorem tbX8_shifts_111 {k : Instr → Nat → Nat → Nat → List Nat → Prop} : xse (xFind tbX8_shifts 111) k = k (.iload 5) 5 0 0 [] := rfl
theorem tbX8_shifts_113 {k : Instr → Nat → Nat → Nat → List Nat → Prop} : xse (xFind tbX8_shifts 113) k = k (.iload 7) 7 0 0 [] := rfl
theorem tbX8_shifts_115 {k : Instr → Nat → Nat → Nat → List Nat → Prop} : xse (xFind tbX8_shifts 115) k = k (.ifCond .eq 7) 122 0 0 [] := rfl
theorem tbX8_shifts_118 {k : Instr → Nat → Nat → Nat → List Nat → Prop} : xse (xFind tbX8_shifts 118) k = k (.iconst 0) 0 0 0 [] := rfl
theorem tbX8_shifts_119 {k : Instr → Nat → Nat → Nat → List Nat → Prop} : xse (xFind tbX8_shifts 119) k = k (.goto 4) 123 0 0 [] := rfl
theorem tbX8_shifts_122 {k : Instr → Nat → Nat → Nat → List Nat → Prop} : xse (xFind tbX8_shifts 122) k = k (.iconst 1) 0 0 0 [] := rfl
theorem tbX8_shifts_123 {k : Instr → Nat → Nat → Nat → List Nat → Prop} : xse (xFind tbX8_shifts 123) k = k (.iadd) 0 0 0 [] := rfl
theorem tbX8_shifts_124 {k : Instr → Nat → Nat → Nat → List Nat → Prop} : xse (xFind tbX8_shifts 124) k = k (.istore 5) 5 0 0 [] := rfl
theorem tbX8_shifts_126 {k : Instr → Nat → Nat → Nat → List Nat → Prop} : xse (xFind tbX8_shifts 126) k = k (.iinc 6 (-1)) 6 0 0 [] := rfl
theorem tbX8_shifts_129 {k : Instr → Nat → Nat → Nat → List Nat → Prop} : xse (xFind tbX8_shifts 129) k = k (.goto (-64)) 65 0 0 [] := rfl
theorem tbX8_shifts_132 {k : Instr → Nat → Nat → Nat → List Nat → Prop} : xse (xFind tbX8_shifts 132) k = k (.iinc 4 1) 4 0 0 [] := rfl
theorem tbX8_shifts_135 {k : Instr → Nat → Nat → Nat → List Nat → Prop} : xse (xFind tbX8_shifts 135) k = k (.goto (-94)) 41 0 0 [] := rfl
theorem tbX8_shifts_138 {k : Instr → Nat → Nat → Nat → List Nat → Prop} : xse (xFind tbX8_shifts 138) k = k (.iload_n 3) 3 0 0 [] := rfl
theorem tbX8_shifts_139 {k : Instr → Nat → Nat → Nat → List Nat → Prop} : xse (xFind tbX8_shifts 139) k = k (.ireturn) 0 0 0 [] := rfl

def spX8_shifts (aM : Nat → Nat) : xSp mS := (fun av M => (0, 0), fun av M K => ∃ (p : Int32) (s : Int32), av = [.ref (aM 0), .int p, .int s] ∧ ((M.1 22 = nI (nBg M) ∧ nBg M ≤ 24) ∧ mTd M ∧ K (rI (oShifts M p s).1) (oShifts M p s).2))
theorem spcX8_shifts {av : List Value} {M : mS} {aM : Nat → Nat} : (spX8_shifts aM).1 av M = (0, 0) := rfl
theorem spwX8_shifts {M : mS} {aM : Nat → Nat} {K : xRes → mS → Prop} {p : Int32} {s : Int32} : (spX8_shifts aM).2 [.ref (aM 0), .int p, .int s] M K = ((M.1 22 = nI (nBg M) ∧ nBg M ≤ 24) ∧ mTd M ∧ K (rI (oShifts M p s).1) (oShifts M p s).2) :=
  propext ⟨fun h => by
    simp only [spX8_shifts] at h
    obtain ⟨_, _, e, h⟩ := h
    simp only [List.cons.injEq, Value.int.injEq, Value.ref.injEq, rf_eq, and_true, true_and] at e
    obtain ⟨rfl, rfl⟩ := e
    exact h, fun h => ⟨_, _, rfl, h⟩⟩

def callX8_shifts (aM : Nat → Nat) : Nat → Option (xSp mS) := fun n => match n with | 0 => some (spX8_isPoint aM) | 1 => some (spX8_isSet aM) | 2 => some (spX8_holds aM) | _ => none

theorem callX8_shifts_0 {aM : Nat → Nat} {k : xSp mS → Prop} : xcs (callX8_shifts aM 0) k = k (spX8_isPoint aM) := rfl

theorem callX8_shifts_1 {aM : Nat → Nat} {k : xSp mS → Prop} : xcs (callX8_shifts aM 1) k = k (spX8_isSet aM) := rfl

theorem callX8_shifts_2 {aM : Nat → Nat} {k : xSp mS → Prop} : xcs (callX8_shifts aM 2) k = k (spX8_holds aM) := rfl

theorem crX8_shifts (l : Launch) (W9 : xWd) (aM : Nat → Nat) (hi : mInj aM) : xCallsOK l W9 (mI aM) (callX8_shifts aM) clX8_shifts RX8 wsX8_shifts 3 69 8 := by
  intro E A p e R s m args below meth c hI hF hL X
  exact List.forall_mem_cons.mpr ⟨⟨_, rfl, xCR_S X (by rw [hI]; exact (semX8_isPoint l W9 aM hi)) gX8_shifts_X8_isPoint rfl (by decide +kernel) (by rw [hF, hL]; decide)⟩,
    List.forall_mem_cons.mpr ⟨⟨_, rfl, xCR_V X (by rw [hI]; exact (semX8_isSet l W9 aM hi)) gX8_shifts_X8_isSet rfl rfl (by decide +kernel) (by rw [hF, hL]; decide)⟩,
    List.forall_mem_cons.mpr ⟨⟨_, rfl, xCR_V X (by rw [hI]; exact (semX8_holds l W9 aM hi)) gX8_shifts_X8_holds rfl rfl (by decide +kernel) (by rw [hF, hL]; decide)⟩,
    fun _ h => nomatch h⟩⟩⟩

set_option maxHeartbeats 4000000 in
set_option maxRecDepth 20000 in
theorem semX8_shifts (l : Launch) (W9 : xWd) (aM : Nat → Nat) (hi : mInj aM) : xSem l W9 (mI aM) yX8_shifts wsX8_shifts 3 69 (spX8_shifts aM) := by
  refine xSem_of (call := callX8_shifts aM) (thrf := fun _ => "") (mI_law hi) (by decide +kernel) rfl ckX8_shifts usX8_shifts (crX8_shifts l W9 aM hi) xThrOK_nil ?_ ?_
  · intro av M KF h
    obtain ⟨p, s, rfl, h⟩ := h
    exact ⟨by intro v hv; simp only [List.mem_cons, List.not_mem_nil, or_false] at hv; rcases hv with rfl | rfl | rfl <;> first | rfl | exact cat_rf, Nat.le_of_ble_eq_true rfl⟩
  intro av M KF h G hG
  obtain ⟨p, s, rfl, h⟩ := h
  rw [show (spX8_shifts aM).1 _ M = _ from spcX8_shifts] at hG
  try dsimp only at hG
  change G 0 [some (.ref (aM 0)), some (.int p), some (.int s), none, none, none, none, none] [] M 0 0
  obtain ⟨hg, ht, h⟩ := h

  unfold oShifts at h
  by_cases c : 0 ≤ p ∧ p ≤ 7
  · rw [if_neg (fun q => q c)] at h
    by_cases d : mIsr M p s
    · rw [if_neg (fun q => q d)] at h
      obtain ⟨y, hy, rfl⟩ := vp_in_of (in_7 c.1 c.2) (by omega)
      rw [ix_nI (by omega)] at h
      have tier : ∀ (t : Nat) (z : Int32), t < 16 → (∀ lv st S cs ss, (lv = [some (.ref (aM 0)), some (.int (nI y)), some (.int s), some (.int (mShT M s t z)), some (.int (nI (t + 1))), none, none, none] ∧ st = [] ∧ mSet M 0 0 = S ∧ cs = 0 ∧ ss = 0) → G 41 lv st S cs ss) → t < 2 * y + 2 → ∀ lv st S cs ss, (lv = [some (.ref (aM 0)), some (.int (nI y)), some (.int s), some (.int z), some (.int (nI t)), none, none, none] ∧ st = [] ∧ mSet M 0 0 = S ∧ cs = 0 ∧ ss = 0) → G 41 lv st S cs ss := by
        intro t z ht16 hnext hty
        obtain ⟨hn, hn5⟩ := ht t ht16
        unfold mShT at hnext
        generalize nT M t = n at *
        have loop := xloop2 hG 65 [true, true, true, true, true, true, true, false] (fun j lv st S cs ss => lv = [some (.ref (aM 0)), some (.int (nI y)), some (.int s), some (.int (mShN M s t n z j)), some (.int (nI t)), some (.int (mShO M s t n j)), some (.int (nI (n - j) - 1)), none] ∧ st = [] ∧ mSet M 0 0 = S ∧ cs = 0 ∧ ss = 0) n 41 [true, true, true, true, true, false, false, false] _ hnext (by
            rintro j hj lv st S cs ss ⟨rfl, rfl, rfl, rfl, rfl⟩ fu hfu
            have e1 : nI (n - j) - 1 = nI (n - 1 - j) := by rw [sub1_nI (by omega)]; congr 1; omega
            have e2 : (nI (n - 1 - j) < 0) = False := eq_false (nI_pos (by omega))
            have e3 : nI (n - 1 - j) + -1 = nI (n - (j + 1)) - 1 := by
              rw [show n - 1 - j = n - (j + 1) by omega]
              generalize n - (j + 1) = m
              cases m with
              | zero => decide
              | succ k => rw [pk_m1, nI_pred]
            have hs : mShN M s t n z (j + 1) = mShN M s t n z j + (if mHas s (M.2 19 (5 * t + (n - 1 - j))) then mShO M s t n j else 0) := rfl
            have ho : mShO M s t n (j + 1) = mShO M s t n j + (if mHas s (M.2 19 (5 * t + (n - 1 - j))) then 0 else 1) := rfl
            by_cases q : mHas s (M.2 19 (5 * t + (n - 1 - j)))
            · rw [if_pos q] at hs ho
              simp only [↓callX8_shifts_0, ↓callX8_shifts_1, ↓callX8_shifts_2, ki_0, ki_1, ki_2, ki_5, ki_m1, ↓ma_18, ↓ma_19, ↓mg_18, ↓mg_19, misa, ↓vm_aload_n, ↓vm_getfield, ↓vm_goto, ↓vm_iadd, ↓vm_iaload, ↓vm_iand, ↓vm_iconst, ↓vm_ifCond_eq, ↓vm_ifCond_lt, ↓vm_ifCond_ne, ↓vm_if_icmp_ge, ↓vm_if_icmp_ne, ↓vm_iinc, ↓vm_iload, ↓vm_iload_n, ↓vm_imul, ↓vm_invokestatic, ↓vm_invokevirtual, ↓vm_ireturn, ↓vm_ishr, ↓vm_istore, ↓vm_istore_n, ↓vm_isub, ↓xc_1, ↓xc_2, ↓xc_3, ↓tbX8_shifts_0, ↓tbX8_shifts_1, ↓tbX8_shifts_2, ↓tbX8_shifts_5, ↓tbX8_shifts_8, ↓tbX8_shifts_9, ↓tbX8_shifts_12, ↓tbX8_shifts_13, ↓tbX8_shifts_14, ↓tbX8_shifts_15, ↓tbX8_shifts_18, ↓tbX8_shifts_21, ↓tbX8_shifts_22, ↓tbX8_shifts_25, ↓tbX8_shifts_26, ↓tbX8_shifts_29, ↓tbX8_shifts_32, ↓tbX8_shifts_33, ↓tbX8_shifts_34, ↓tbX8_shifts_35, ↓tbX8_shifts_36, ↓tbX8_shifts_37, ↓tbX8_shifts_38, ↓tbX8_shifts_39, ↓tbX8_shifts_41, ↓tbX8_shifts_43, ↓tbX8_shifts_44, ↓tbX8_shifts_45, ↓tbX8_shifts_46, ↓tbX8_shifts_47, ↓tbX8_shifts_48, ↓tbX8_shifts_51, ↓tbX8_shifts_52, ↓tbX8_shifts_54, ↓tbX8_shifts_55, ↓tbX8_shifts_58, ↓tbX8_shifts_60, ↓tbX8_shifts_61, ↓tbX8_shifts_62, ↓tbX8_shifts_63, ↓tbX8_shifts_65, ↓tbX8_shifts_67, ↓tbX8_shifts_70, ↓tbX8_shifts_71, ↓tbX8_shifts_72, ↓tbX8_shifts_75, ↓tbX8_shifts_76, ↓tbX8_shifts_78, ↓tbX8_shifts_79, ↓tbX8_shifts_81, ↓tbX8_shifts_82, ↓tbX8_shifts_83, ↓tbX8_shifts_84, ↓tbX8_shifts_85, ↓tbX8_shifts_86, ↓tbX8_shifts_87, ↓tbX8_shifts_90, ↓tbX8_shifts_91, ↓tbX8_shifts_94, ↓tbX8_shifts_95, ↓tbX8_shifts_97, ↓tbX8_shifts_98, ↓tbX8_shifts_100, ↓tbX8_shifts_103, ↓tbX8_shifts_105, ↓tbX8_shifts_108, ↓tbX8_shifts_109, ↓tbX8_shifts_110, ↓tbX8_shifts_111, ↓tbX8_shifts_113, ↓tbX8_shifts_115, ↓tbX8_shifts_118, ↓tbX8_shifts_119, ↓tbX8_shifts_122, ↓tbX8_shifts_123, ↓tbX8_shifts_124, ↓tbX8_shifts_126, ↓tbX8_shifts_129, ↓tbX8_shifts_132, ↓tbX8_shifts_135, ↓tbX8_shifts_138, ↓tbX8_shifts_139, hfu, xstep0, xJ1_hit, xJ1_go, xJ2_hit1, xJ2_hit2, xJ2_go, ↓xif_t, ↓xif_f, seval, ↓xca_eq, ↓xre_l, ↓xre_r, xmask_t, xmask_f, xmask_nil, ↓xst_eq, xX_eq, eI_eq, eMc_eq, eMs_eq, eF_eq, eThr_eq, ↓xS1_mk, ↓xSI_mk, ↓xSR_mk, ↓xLI_0, ↓xLI_s, ↓xLR_0, ↓xLR_s, vRef_ref, vRef_null, vRef_rf, cat_int, cat_ref, cat_null, cat_rf, rf_some, rf_none, rf_null, rf_eq, rf_ref, ref_rf, ref_null, ref_ref, xOk_0, xOk_1, xOk_2r, xOk_2n, xOk_2f, vOpt_rf, vOpt_ref, vOpt_null, List.set_cons_zero, List.set_cons_succ, List.take_succ_cons, List.take_zero, List.drop_succ_cons, List.drop_zero, List.reverse_cons, List.reverse_nil, List.nil_append, List.cons_append, List.append_nil, List.length_cons, List.length_nil, List.map_cons, List.map_nil, List.sum_cons, List.sum_nil, Option.toList_some, Option.toList_none, xRecv_mk, true_and, and_true, true_implies, Nat.reduceAdd, Nat.reduceLeDiff, Nat.zero_le, Nat.le_refl, Nat.add_zero, Nat.zero_add, reduceIte, not_true_eq_false, not_false_eq_true, false_implies, and_self, implies_true, eq_self, Nat.reduceEqDiff, List.cons.injEq, xsn_1, xsn_2, false_and, and_false, or_false, false_or, or_true, true_or, xsn_3, xsn_4, mAst_1, mAst_2, mSet_1, mSet_2, bi_0, ↓spwX8_isPoint, spcX8_isPoint, ↓spwX8_isSet, spcX8_isSet, ↓spwX8_holds, spcX8_holds, e1, e2, e3, m5_nI, add_nI, xin_nI (show 5 * t + (n - 1 - j) < 80 by omega) (by omega), ix_nI (show 5 * t + (n - 1 - j) < 1000 by omega), q, hs, ho]
              try simp only [xif_e]
            · rw [if_neg q] at hs ho
              have q2 : ¬ s >>> (M.2 19 (5 * t + (n - 1 - j)) &&& 31) &&& 1 = 1 := q
              simp only [↓callX8_shifts_0, ↓callX8_shifts_1, ↓callX8_shifts_2, ki_0, ki_1, ki_2, ki_5, ki_m1, ↓ma_18, ↓ma_19, ↓mg_18, ↓mg_19, misa, ↓vm_aload_n, ↓vm_getfield, ↓vm_goto, ↓vm_iadd, ↓vm_iaload, ↓vm_iand, ↓vm_iconst, ↓vm_ifCond_eq, ↓vm_ifCond_lt, ↓vm_ifCond_ne, ↓vm_if_icmp_ge, ↓vm_if_icmp_ne, ↓vm_iinc, ↓vm_iload, ↓vm_iload_n, ↓vm_imul, ↓vm_invokestatic, ↓vm_invokevirtual, ↓vm_ireturn, ↓vm_ishr, ↓vm_istore, ↓vm_istore_n, ↓vm_isub, ↓xc_1, ↓xc_2, ↓xc_3, ↓tbX8_shifts_0, ↓tbX8_shifts_1, ↓tbX8_shifts_2, ↓tbX8_shifts_5, ↓tbX8_shifts_8, ↓tbX8_shifts_9, ↓tbX8_shifts_12, ↓tbX8_shifts_13, ↓tbX8_shifts_14, ↓tbX8_shifts_15, ↓tbX8_shifts_18, ↓tbX8_shifts_21, ↓tbX8_shifts_22, ↓tbX8_shifts_25, ↓tbX8_shifts_26, ↓tbX8_shifts_29, ↓tbX8_shifts_32, ↓tbX8_shifts_33, ↓tbX8_shifts_34, ↓tbX8_shifts_35, ↓tbX8_shifts_36, ↓tbX8_shifts_37, ↓tbX8_shifts_38, ↓tbX8_shifts_39, ↓tbX8_shifts_41, ↓tbX8_shifts_43, ↓tbX8_shifts_44, ↓tbX8_shifts_45, ↓tbX8_shifts_46, ↓tbX8_shifts_47, ↓tbX8_shifts_48, ↓tbX8_shifts_51, ↓tbX8_shifts_52, ↓tbX8_shifts_54, ↓tbX8_shifts_55, ↓tbX8_shifts_58, ↓tbX8_shifts_60, ↓tbX8_shifts_61, ↓tbX8_shifts_62, ↓tbX8_shifts_63, ↓tbX8_shifts_65, ↓tbX8_shifts_67, ↓tbX8_shifts_70, ↓tbX8_shifts_71, ↓tbX8_shifts_72, ↓tbX8_shifts_75, ↓tbX8_shifts_76, ↓tbX8_shifts_78, ↓tbX8_shifts_79, ↓tbX8_shifts_81, ↓tbX8_shifts_82, ↓tbX8_shifts_83, ↓tbX8_shifts_84, ↓tbX8_shifts_85, ↓tbX8_shifts_86, ↓tbX8_shifts_87, ↓tbX8_shifts_90, ↓tbX8_shifts_91, ↓tbX8_shifts_94, ↓tbX8_shifts_95, ↓tbX8_shifts_97, ↓tbX8_shifts_98, ↓tbX8_shifts_100, ↓tbX8_shifts_103, ↓tbX8_shifts_105, ↓tbX8_shifts_108, ↓tbX8_shifts_109, ↓tbX8_shifts_110, ↓tbX8_shifts_111, ↓tbX8_shifts_113, ↓tbX8_shifts_115, ↓tbX8_shifts_118, ↓tbX8_shifts_119, ↓tbX8_shifts_122, ↓tbX8_shifts_123, ↓tbX8_shifts_124, ↓tbX8_shifts_126, ↓tbX8_shifts_129, ↓tbX8_shifts_132, ↓tbX8_shifts_135, ↓tbX8_shifts_138, ↓tbX8_shifts_139, hfu, xstep0, xJ1_hit, xJ1_go, xJ2_hit1, xJ2_hit2, xJ2_go, ↓xif_t, ↓xif_f, seval, ↓xca_eq, ↓xre_l, ↓xre_r, xmask_t, xmask_f, xmask_nil, ↓xst_eq, xX_eq, eI_eq, eMc_eq, eMs_eq, eF_eq, eThr_eq, ↓xS1_mk, ↓xSI_mk, ↓xSR_mk, ↓xLI_0, ↓xLI_s, ↓xLR_0, ↓xLR_s, vRef_ref, vRef_null, vRef_rf, cat_int, cat_ref, cat_null, cat_rf, rf_some, rf_none, rf_null, rf_eq, rf_ref, ref_rf, ref_null, ref_ref, xOk_0, xOk_1, xOk_2r, xOk_2n, xOk_2f, vOpt_rf, vOpt_ref, vOpt_null, List.set_cons_zero, List.set_cons_succ, List.take_succ_cons, List.take_zero, List.drop_succ_cons, List.drop_zero, List.reverse_cons, List.reverse_nil, List.nil_append, List.cons_append, List.append_nil, List.length_cons, List.length_nil, List.map_cons, List.map_nil, List.sum_cons, List.sum_nil, Option.toList_some, Option.toList_none, xRecv_mk, true_and, and_true, true_implies, Nat.reduceAdd, Nat.reduceLeDiff, Nat.zero_le, Nat.le_refl, Nat.add_zero, Nat.zero_add, reduceIte, not_true_eq_false, not_false_eq_true, false_implies, and_self, implies_true, eq_self, Nat.reduceEqDiff, List.cons.injEq, xsn_1, xsn_2, false_and, and_false, or_false, false_or, or_true, true_or, xsn_3, xsn_4, mAst_1, mAst_2, mSet_1, mSet_2, bi_0, ↓spwX8_isPoint, spcX8_isPoint, ↓spwX8_isSet, spcX8_isSet, ↓spwX8_holds, spcX8_holds, e1, e2, e3, m5_nI, add_nI, xin_nI (show 5 * t + (n - 1 - j) < 80 by omega) (by omega), ix_nI (show 5 * t + (n - 1 - j) < 1000 by omega), q2, hs, ho]) (by
            rintro lv st S cs ss ⟨rfl, rfl, rfl, rfl, rfl⟩ fu hfu
            have e1 : (nI (n - n) - 1 < 0) = True := by rw [Nat.sub_self]; decide
            simp only [↓callX8_shifts_0, ↓callX8_shifts_1, ↓callX8_shifts_2, ki_0, ki_1, ki_2, ki_5, ki_m1, ↓ma_18, ↓ma_19, ↓mg_18, ↓mg_19, misa, ↓vm_aload_n, ↓vm_getfield, ↓vm_goto, ↓vm_iadd, ↓vm_iaload, ↓vm_iand, ↓vm_iconst, ↓vm_ifCond_eq, ↓vm_ifCond_lt, ↓vm_ifCond_ne, ↓vm_if_icmp_ge, ↓vm_if_icmp_ne, ↓vm_iinc, ↓vm_iload, ↓vm_iload_n, ↓vm_imul, ↓vm_invokestatic, ↓vm_invokevirtual, ↓vm_ireturn, ↓vm_ishr, ↓vm_istore, ↓vm_istore_n, ↓vm_isub, ↓xc_1, ↓xc_2, ↓xc_3, ↓tbX8_shifts_0, ↓tbX8_shifts_1, ↓tbX8_shifts_2, ↓tbX8_shifts_5, ↓tbX8_shifts_8, ↓tbX8_shifts_9, ↓tbX8_shifts_12, ↓tbX8_shifts_13, ↓tbX8_shifts_14, ↓tbX8_shifts_15, ↓tbX8_shifts_18, ↓tbX8_shifts_21, ↓tbX8_shifts_22, ↓tbX8_shifts_25, ↓tbX8_shifts_26, ↓tbX8_shifts_29, ↓tbX8_shifts_32, ↓tbX8_shifts_33, ↓tbX8_shifts_34, ↓tbX8_shifts_35, ↓tbX8_shifts_36, ↓tbX8_shifts_37, ↓tbX8_shifts_38, ↓tbX8_shifts_39, ↓tbX8_shifts_41, ↓tbX8_shifts_43, ↓tbX8_shifts_44, ↓tbX8_shifts_45, ↓tbX8_shifts_46, ↓tbX8_shifts_47, ↓tbX8_shifts_48, ↓tbX8_shifts_51, ↓tbX8_shifts_52, ↓tbX8_shifts_54, ↓tbX8_shifts_55, ↓tbX8_shifts_58, ↓tbX8_shifts_60, ↓tbX8_shifts_61, ↓tbX8_shifts_62, ↓tbX8_shifts_63, ↓tbX8_shifts_65, ↓tbX8_shifts_67, ↓tbX8_shifts_70, ↓tbX8_shifts_71, ↓tbX8_shifts_72, ↓tbX8_shifts_75, ↓tbX8_shifts_76, ↓tbX8_shifts_78, ↓tbX8_shifts_79, ↓tbX8_shifts_81, ↓tbX8_shifts_82, ↓tbX8_shifts_83, ↓tbX8_shifts_84, ↓tbX8_shifts_85, ↓tbX8_shifts_86, ↓tbX8_shifts_87, ↓tbX8_shifts_90, ↓tbX8_shifts_91, ↓tbX8_shifts_94, ↓tbX8_shifts_95, ↓tbX8_shifts_97, ↓tbX8_shifts_98, ↓tbX8_shifts_100, ↓tbX8_shifts_103, ↓tbX8_shifts_105, ↓tbX8_shifts_108, ↓tbX8_shifts_109, ↓tbX8_shifts_110, ↓tbX8_shifts_111, ↓tbX8_shifts_113, ↓tbX8_shifts_115, ↓tbX8_shifts_118, ↓tbX8_shifts_119, ↓tbX8_shifts_122, ↓tbX8_shifts_123, ↓tbX8_shifts_124, ↓tbX8_shifts_126, ↓tbX8_shifts_129, ↓tbX8_shifts_132, ↓tbX8_shifts_135, ↓tbX8_shifts_138, ↓tbX8_shifts_139, hfu, xstep0, xJ1_hit, xJ1_go, xJ2_hit1, xJ2_hit2, xJ2_go, ↓xif_t, ↓xif_f, seval, ↓xca_eq, ↓xre_l, ↓xre_r, xmask_t, xmask_f, xmask_nil, ↓xst_eq, xX_eq, eI_eq, eMc_eq, eMs_eq, eF_eq, eThr_eq, ↓xS1_mk, ↓xSI_mk, ↓xSR_mk, ↓xLI_0, ↓xLI_s, ↓xLR_0, ↓xLR_s, vRef_ref, vRef_null, vRef_rf, cat_int, cat_ref, cat_null, cat_rf, rf_some, rf_none, rf_null, rf_eq, rf_ref, ref_rf, ref_null, ref_ref, xOk_0, xOk_1, xOk_2r, xOk_2n, xOk_2f, vOpt_rf, vOpt_ref, vOpt_null, List.set_cons_zero, List.set_cons_succ, List.take_succ_cons, List.take_zero, List.drop_succ_cons, List.drop_zero, List.reverse_cons, List.reverse_nil, List.nil_append, List.cons_append, List.append_nil, List.length_cons, List.length_nil, List.map_cons, List.map_nil, List.sum_cons, List.sum_nil, Option.toList_some, Option.toList_none, xRecv_mk, true_and, and_true, true_implies, Nat.reduceAdd, Nat.reduceLeDiff, Nat.zero_le, Nat.le_refl, Nat.add_zero, Nat.zero_add, reduceIte, not_true_eq_false, not_false_eq_true, false_implies, and_self, implies_true, eq_self, Nat.reduceEqDiff, List.cons.injEq, xsn_1, xsn_2, false_and, and_false, or_false, false_or, or_true, true_or, xsn_3, xsn_4, mAst_1, mAst_2, mSet_1, mSet_2, bi_0, ↓spwX8_isPoint, spcX8_isPoint, ↓spwX8_isSet, spcX8_isSet, ↓spwX8_holds, spcX8_holds, e1, nI1]
            try simp only [xif_e]
            repeat' (first | rfl | apply And.intro))
        rintro lv st S cs ss ⟨rfl, rfl, rfl, rfl, (rfl)⟩
        refine xgo hG (mb := [true, true, true, true, true, true, true, false]) (loop 0 (Nat.zero_le _)) (fun fu hfu => ?_)
        have e2 : (nI (2 * y + 2) ≤ nI t) = False := by rw [le_nI (by omega) (by omega)]; simp; omega
        simp only [↓callX8_shifts_0, ↓callX8_shifts_1, ↓callX8_shifts_2, ki_0, ki_1, ki_2, ki_5, ki_m1, ↓ma_18, ↓ma_19, ↓mg_18, ↓mg_19, misa, ↓vm_aload_n, ↓vm_getfield, ↓vm_goto, ↓vm_iadd, ↓vm_iaload, ↓vm_iand, ↓vm_iconst, ↓vm_ifCond_eq, ↓vm_ifCond_lt, ↓vm_ifCond_ne, ↓vm_if_icmp_ge, ↓vm_if_icmp_ne, ↓vm_iinc, ↓vm_iload, ↓vm_iload_n, ↓vm_imul, ↓vm_invokestatic, ↓vm_invokevirtual, ↓vm_ireturn, ↓vm_ishr, ↓vm_istore, ↓vm_istore_n, ↓vm_isub, ↓xc_1, ↓xc_2, ↓xc_3, ↓tbX8_shifts_0, ↓tbX8_shifts_1, ↓tbX8_shifts_2, ↓tbX8_shifts_5, ↓tbX8_shifts_8, ↓tbX8_shifts_9, ↓tbX8_shifts_12, ↓tbX8_shifts_13, ↓tbX8_shifts_14, ↓tbX8_shifts_15, ↓tbX8_shifts_18, ↓tbX8_shifts_21, ↓tbX8_shifts_22, ↓tbX8_shifts_25, ↓tbX8_shifts_26, ↓tbX8_shifts_29, ↓tbX8_shifts_32, ↓tbX8_shifts_33, ↓tbX8_shifts_34, ↓tbX8_shifts_35, ↓tbX8_shifts_36, ↓tbX8_shifts_37, ↓tbX8_shifts_38, ↓tbX8_shifts_39, ↓tbX8_shifts_41, ↓tbX8_shifts_43, ↓tbX8_shifts_44, ↓tbX8_shifts_45, ↓tbX8_shifts_46, ↓tbX8_shifts_47, ↓tbX8_shifts_48, ↓tbX8_shifts_51, ↓tbX8_shifts_52, ↓tbX8_shifts_54, ↓tbX8_shifts_55, ↓tbX8_shifts_58, ↓tbX8_shifts_60, ↓tbX8_shifts_61, ↓tbX8_shifts_62, ↓tbX8_shifts_63, ↓tbX8_shifts_65, ↓tbX8_shifts_67, ↓tbX8_shifts_70, ↓tbX8_shifts_71, ↓tbX8_shifts_72, ↓tbX8_shifts_75, ↓tbX8_shifts_76, ↓tbX8_shifts_78, ↓tbX8_shifts_79, ↓tbX8_shifts_81, ↓tbX8_shifts_82, ↓tbX8_shifts_83, ↓tbX8_shifts_84, ↓tbX8_shifts_85, ↓tbX8_shifts_86, ↓tbX8_shifts_87, ↓tbX8_shifts_90, ↓tbX8_shifts_91, ↓tbX8_shifts_94, ↓tbX8_shifts_95, ↓tbX8_shifts_97, ↓tbX8_shifts_98, ↓tbX8_shifts_100, ↓tbX8_shifts_103, ↓tbX8_shifts_105, ↓tbX8_shifts_108, ↓tbX8_shifts_109, ↓tbX8_shifts_110, ↓tbX8_shifts_111, ↓tbX8_shifts_113, ↓tbX8_shifts_115, ↓tbX8_shifts_118, ↓tbX8_shifts_119, ↓tbX8_shifts_122, ↓tbX8_shifts_123, ↓tbX8_shifts_124, ↓tbX8_shifts_126, ↓tbX8_shifts_129, ↓tbX8_shifts_132, ↓tbX8_shifts_135, ↓tbX8_shifts_138, ↓tbX8_shifts_139, hfu, xstep0, xJ1_hit, xJ1_go, xJ2_hit1, xJ2_hit2, xJ2_go, ↓xif_t, ↓xif_f, seval, ↓xca_eq, ↓xre_l, ↓xre_r, xmask_t, xmask_f, xmask_nil, ↓xst_eq, xX_eq, eI_eq, eMc_eq, eMs_eq, eF_eq, eThr_eq, ↓xS1_mk, ↓xSI_mk, ↓xSR_mk, ↓xLI_0, ↓xLI_s, ↓xLR_0, ↓xLR_s, vRef_ref, vRef_null, vRef_rf, cat_int, cat_ref, cat_null, cat_rf, rf_some, rf_none, rf_null, rf_eq, rf_ref, ref_rf, ref_null, ref_ref, xOk_0, xOk_1, xOk_2r, xOk_2n, xOk_2f, vOpt_rf, vOpt_ref, vOpt_null, List.set_cons_zero, List.set_cons_succ, List.take_succ_cons, List.take_zero, List.drop_succ_cons, List.drop_zero, List.reverse_cons, List.reverse_nil, List.nil_append, List.cons_append, List.append_nil, List.length_cons, List.length_nil, List.map_cons, List.map_nil, List.sum_cons, List.sum_nil, Option.toList_some, Option.toList_none, xRecv_mk, true_and, and_true, true_implies, Nat.reduceAdd, Nat.reduceLeDiff, Nat.zero_le, Nat.le_refl, Nat.add_zero, Nat.zero_add, reduceIte, not_true_eq_false, not_false_eq_true, false_implies, and_self, implies_true, eq_self, Nat.reduceEqDiff, List.cons.injEq, xsn_1, xsn_2, false_and, and_false, or_false, false_or, or_true, true_or, xsn_3, xsn_4, mAst_1, mAst_2, mSet_1, mSet_2, bi_0, ↓spwX8_isPoint, spcX8_isPoint, ↓spwX8_isSet, spcX8_isSet, ↓spwX8_holds, spcX8_holds, m2_nI, nI2, e2, xin_nI ht16 (show 16 ≤ 1000 by omega), ix_nI (show t < 1000 by omega), hn]
        try simp only [xif_e]
        repeat' (first | rfl | apply And.intro)
      have cE : ∀ lv st S cs ss, (lv = [some (.ref (aM 0)), some (.int (nI y)), some (.int s), some (.int (mShT M s (2 * y + 1) (mShT M s (2 * y) 0))), some (.int (nI (2 * y + 1 + 1))), none, none, none] ∧ st = [] ∧ mSet M 0 0 = S ∧ cs = 0 ∧ ss = 0) → G 41 lv st S cs ss := by
        rintro lv st S cs ss ⟨rfl, rfl, rfl, rfl, (rfl)⟩
        refine xgo0 hG (fun fu hfu => ?_)
        have e2 : (nI (2 * y + 2) ≤ nI (2 * y + 1 + 1)) = True := by rw [le_nI (by omega) (by omega)]; simp
        simp only [↓callX8_shifts_0, ↓callX8_shifts_1, ↓callX8_shifts_2, ki_0, ki_1, ki_2, ki_5, ki_m1, ↓ma_18, ↓ma_19, ↓mg_18, ↓mg_19, misa, ↓vm_aload_n, ↓vm_getfield, ↓vm_goto, ↓vm_iadd, ↓vm_iaload, ↓vm_iand, ↓vm_iconst, ↓vm_ifCond_eq, ↓vm_ifCond_lt, ↓vm_ifCond_ne, ↓vm_if_icmp_ge, ↓vm_if_icmp_ne, ↓vm_iinc, ↓vm_iload, ↓vm_iload_n, ↓vm_imul, ↓vm_invokestatic, ↓vm_invokevirtual, ↓vm_ireturn, ↓vm_ishr, ↓vm_istore, ↓vm_istore_n, ↓vm_isub, ↓xc_1, ↓xc_2, ↓xc_3, ↓tbX8_shifts_0, ↓tbX8_shifts_1, ↓tbX8_shifts_2, ↓tbX8_shifts_5, ↓tbX8_shifts_8, ↓tbX8_shifts_9, ↓tbX8_shifts_12, ↓tbX8_shifts_13, ↓tbX8_shifts_14, ↓tbX8_shifts_15, ↓tbX8_shifts_18, ↓tbX8_shifts_21, ↓tbX8_shifts_22, ↓tbX8_shifts_25, ↓tbX8_shifts_26, ↓tbX8_shifts_29, ↓tbX8_shifts_32, ↓tbX8_shifts_33, ↓tbX8_shifts_34, ↓tbX8_shifts_35, ↓tbX8_shifts_36, ↓tbX8_shifts_37, ↓tbX8_shifts_38, ↓tbX8_shifts_39, ↓tbX8_shifts_41, ↓tbX8_shifts_43, ↓tbX8_shifts_44, ↓tbX8_shifts_45, ↓tbX8_shifts_46, ↓tbX8_shifts_47, ↓tbX8_shifts_48, ↓tbX8_shifts_51, ↓tbX8_shifts_52, ↓tbX8_shifts_54, ↓tbX8_shifts_55, ↓tbX8_shifts_58, ↓tbX8_shifts_60, ↓tbX8_shifts_61, ↓tbX8_shifts_62, ↓tbX8_shifts_63, ↓tbX8_shifts_65, ↓tbX8_shifts_67, ↓tbX8_shifts_70, ↓tbX8_shifts_71, ↓tbX8_shifts_72, ↓tbX8_shifts_75, ↓tbX8_shifts_76, ↓tbX8_shifts_78, ↓tbX8_shifts_79, ↓tbX8_shifts_81, ↓tbX8_shifts_82, ↓tbX8_shifts_83, ↓tbX8_shifts_84, ↓tbX8_shifts_85, ↓tbX8_shifts_86, ↓tbX8_shifts_87, ↓tbX8_shifts_90, ↓tbX8_shifts_91, ↓tbX8_shifts_94, ↓tbX8_shifts_95, ↓tbX8_shifts_97, ↓tbX8_shifts_98, ↓tbX8_shifts_100, ↓tbX8_shifts_103, ↓tbX8_shifts_105, ↓tbX8_shifts_108, ↓tbX8_shifts_109, ↓tbX8_shifts_110, ↓tbX8_shifts_111, ↓tbX8_shifts_113, ↓tbX8_shifts_115, ↓tbX8_shifts_118, ↓tbX8_shifts_119, ↓tbX8_shifts_122, ↓tbX8_shifts_123, ↓tbX8_shifts_124, ↓tbX8_shifts_126, ↓tbX8_shifts_129, ↓tbX8_shifts_132, ↓tbX8_shifts_135, ↓tbX8_shifts_138, ↓tbX8_shifts_139, hfu, xstep0, xJ1_hit, xJ1_go, xJ2_hit1, xJ2_hit2, xJ2_go, ↓xif_t, ↓xif_f, seval, ↓xca_eq, ↓xre_l, ↓xre_r, xmask_t, xmask_f, xmask_nil, ↓xst_eq, xX_eq, eI_eq, eMc_eq, eMs_eq, eF_eq, eThr_eq, ↓xS1_mk, ↓xSI_mk, ↓xSR_mk, ↓xLI_0, ↓xLI_s, ↓xLR_0, ↓xLR_s, vRef_ref, vRef_null, vRef_rf, cat_int, cat_ref, cat_null, cat_rf, rf_some, rf_none, rf_null, rf_eq, rf_ref, ref_rf, ref_null, ref_ref, xOk_0, xOk_1, xOk_2r, xOk_2n, xOk_2f, vOpt_rf, vOpt_ref, vOpt_null, List.set_cons_zero, List.set_cons_succ, List.take_succ_cons, List.take_zero, List.drop_succ_cons, List.drop_zero, List.reverse_cons, List.reverse_nil, List.nil_append, List.cons_append, List.append_nil, List.length_cons, List.length_nil, List.map_cons, List.map_nil, List.sum_cons, List.sum_nil, Option.toList_some, Option.toList_none, xRecv_mk, true_and, and_true, true_implies, Nat.reduceAdd, Nat.reduceLeDiff, Nat.zero_le, Nat.le_refl, Nat.add_zero, Nat.zero_add, reduceIte, not_true_eq_false, not_false_eq_true, false_implies, and_self, implies_true, eq_self, Nat.reduceEqDiff, List.cons.injEq, xsn_1, xsn_2, false_and, and_false, or_false, false_or, or_true, true_or, xsn_3, xsn_4, mAst_1, mAst_2, mSet_1, mSet_2, bi_0, ↓spwX8_isPoint, spcX8_isPoint, ↓spwX8_isSet, spcX8_isSet, ↓spwX8_holds, spcX8_holds, m2_nI, nI2, e2]
        try simp only [xif_e]
        exact h
      refine xgo hG (mb := [true, true, true, true, true, false, false, false]) (tier (2 * y) 0 (by omega) (tier (2 * y + 1) _ (by omega) cE (by omega)) (by omega)) (pc := 0) (fun fu hfu => ?_)
      simp only [↓callX8_shifts_0, ↓callX8_shifts_1, ↓callX8_shifts_2, ki_0, ki_1, ki_2, ki_5, ki_m1, ↓ma_18, ↓ma_19, ↓mg_18, ↓mg_19, misa, ↓vm_aload_n, ↓vm_getfield, ↓vm_goto, ↓vm_iadd, ↓vm_iaload, ↓vm_iand, ↓vm_iconst, ↓vm_ifCond_eq, ↓vm_ifCond_lt, ↓vm_ifCond_ne, ↓vm_if_icmp_ge, ↓vm_if_icmp_ne, ↓vm_iinc, ↓vm_iload, ↓vm_iload_n, ↓vm_imul, ↓vm_invokestatic, ↓vm_invokevirtual, ↓vm_ireturn, ↓vm_ishr, ↓vm_istore, ↓vm_istore_n, ↓vm_isub, ↓xc_1, ↓xc_2, ↓xc_3, ↓tbX8_shifts_0, ↓tbX8_shifts_1, ↓tbX8_shifts_2, ↓tbX8_shifts_5, ↓tbX8_shifts_8, ↓tbX8_shifts_9, ↓tbX8_shifts_12, ↓tbX8_shifts_13, ↓tbX8_shifts_14, ↓tbX8_shifts_15, ↓tbX8_shifts_18, ↓tbX8_shifts_21, ↓tbX8_shifts_22, ↓tbX8_shifts_25, ↓tbX8_shifts_26, ↓tbX8_shifts_29, ↓tbX8_shifts_32, ↓tbX8_shifts_33, ↓tbX8_shifts_34, ↓tbX8_shifts_35, ↓tbX8_shifts_36, ↓tbX8_shifts_37, ↓tbX8_shifts_38, ↓tbX8_shifts_39, ↓tbX8_shifts_41, ↓tbX8_shifts_43, ↓tbX8_shifts_44, ↓tbX8_shifts_45, ↓tbX8_shifts_46, ↓tbX8_shifts_47, ↓tbX8_shifts_48, ↓tbX8_shifts_51, ↓tbX8_shifts_52, ↓tbX8_shifts_54, ↓tbX8_shifts_55, ↓tbX8_shifts_58, ↓tbX8_shifts_60, ↓tbX8_shifts_61, ↓tbX8_shifts_62, ↓tbX8_shifts_63, ↓tbX8_shifts_65, ↓tbX8_shifts_67, ↓tbX8_shifts_70, ↓tbX8_shifts_71, ↓tbX8_shifts_72, ↓tbX8_shifts_75, ↓tbX8_shifts_76, ↓tbX8_shifts_78, ↓tbX8_shifts_79, ↓tbX8_shifts_81, ↓tbX8_shifts_82, ↓tbX8_shifts_83, ↓tbX8_shifts_84, ↓tbX8_shifts_85, ↓tbX8_shifts_86, ↓tbX8_shifts_87, ↓tbX8_shifts_90, ↓tbX8_shifts_91, ↓tbX8_shifts_94, ↓tbX8_shifts_95, ↓tbX8_shifts_97, ↓tbX8_shifts_98, ↓tbX8_shifts_100, ↓tbX8_shifts_103, ↓tbX8_shifts_105, ↓tbX8_shifts_108, ↓tbX8_shifts_109, ↓tbX8_shifts_110, ↓tbX8_shifts_111, ↓tbX8_shifts_113, ↓tbX8_shifts_115, ↓tbX8_shifts_118, ↓tbX8_shifts_119, ↓tbX8_shifts_122, ↓tbX8_shifts_123, ↓tbX8_shifts_124, ↓tbX8_shifts_126, ↓tbX8_shifts_129, ↓tbX8_shifts_132, ↓tbX8_shifts_135, ↓tbX8_shifts_138, ↓tbX8_shifts_139, hfu, xstep0, xJ1_hit, xJ1_go, xJ2_hit1, xJ2_hit2, xJ2_go, ↓xif_t, ↓xif_f, seval, ↓xca_eq, ↓xre_l, ↓xre_r, xmask_t, xmask_f, xmask_nil, ↓xst_eq, xX_eq, eI_eq, eMc_eq, eMs_eq, eF_eq, eThr_eq, ↓xS1_mk, ↓xSI_mk, ↓xSR_mk, ↓xLI_0, ↓xLI_s, ↓xLR_0, ↓xLR_s, vRef_ref, vRef_null, vRef_rf, cat_int, cat_ref, cat_null, cat_rf, rf_some, rf_none, rf_null, rf_eq, rf_ref, ref_rf, ref_null, ref_ref, xOk_0, xOk_1, xOk_2r, xOk_2n, xOk_2f, vOpt_rf, vOpt_ref, vOpt_null, List.set_cons_zero, List.set_cons_succ, List.take_succ_cons, List.take_zero, List.drop_succ_cons, List.drop_zero, List.reverse_cons, List.reverse_nil, List.nil_append, List.cons_append, List.append_nil, List.length_cons, List.length_nil, List.map_cons, List.map_nil, List.sum_cons, List.sum_nil, Option.toList_some, Option.toList_none, xRecv_mk, true_and, and_true, true_implies, Nat.reduceAdd, Nat.reduceLeDiff, Nat.zero_le, Nat.le_refl, Nat.add_zero, Nat.zero_add, reduceIte, not_true_eq_false, not_false_eq_true, false_implies, and_self, implies_true, eq_self, Nat.reduceEqDiff, List.cons.injEq, xsn_1, xsn_2, false_and, and_false, or_false, false_or, or_true, true_or, xsn_3, xsn_4, mAst_1, mAst_2, mSet_1, mSet_2, bi_0, ↓spwX8_isPoint, spcX8_isPoint, ↓spwX8_isSet, spcX8_isSet, ↓spwX8_holds, spcX8_holds, c, d, hg, m2_nI]
      try simp only [xif_e]
      repeat' (first | exact fun _ => trivial | exact fun q => absurd d q | rfl | apply And.intro)
    · rw [if_pos d] at h
      refine xgo hG (mb := []) (head := 41) (P := fun _ _ _ _ _ => False) (fun _ _ _ _ _ q => q.elim) (pc := 0) (fun fu hfu => ?_)
      simp only [↓callX8_shifts_0, ↓callX8_shifts_1, ↓callX8_shifts_2, ki_0, ki_1, ki_2, ki_5, ki_m1, ↓ma_18, ↓ma_19, ↓mg_18, ↓mg_19, misa, ↓vm_aload_n, ↓vm_getfield, ↓vm_goto, ↓vm_iadd, ↓vm_iaload, ↓vm_iand, ↓vm_iconst, ↓vm_ifCond_eq, ↓vm_ifCond_lt, ↓vm_ifCond_ne, ↓vm_if_icmp_ge, ↓vm_if_icmp_ne, ↓vm_iinc, ↓vm_iload, ↓vm_iload_n, ↓vm_imul, ↓vm_invokestatic, ↓vm_invokevirtual, ↓vm_ireturn, ↓vm_ishr, ↓vm_istore, ↓vm_istore_n, ↓vm_isub, ↓xc_1, ↓xc_2, ↓xc_3, ↓tbX8_shifts_0, ↓tbX8_shifts_1, ↓tbX8_shifts_2, ↓tbX8_shifts_5, ↓tbX8_shifts_8, ↓tbX8_shifts_9, ↓tbX8_shifts_12, ↓tbX8_shifts_13, ↓tbX8_shifts_14, ↓tbX8_shifts_15, ↓tbX8_shifts_18, ↓tbX8_shifts_21, ↓tbX8_shifts_22, ↓tbX8_shifts_25, ↓tbX8_shifts_26, ↓tbX8_shifts_29, ↓tbX8_shifts_32, ↓tbX8_shifts_33, ↓tbX8_shifts_34, ↓tbX8_shifts_35, ↓tbX8_shifts_36, ↓tbX8_shifts_37, ↓tbX8_shifts_38, ↓tbX8_shifts_39, ↓tbX8_shifts_41, ↓tbX8_shifts_43, ↓tbX8_shifts_44, ↓tbX8_shifts_45, ↓tbX8_shifts_46, ↓tbX8_shifts_47, ↓tbX8_shifts_48, ↓tbX8_shifts_51, ↓tbX8_shifts_52, ↓tbX8_shifts_54, ↓tbX8_shifts_55, ↓tbX8_shifts_58, ↓tbX8_shifts_60, ↓tbX8_shifts_61, ↓tbX8_shifts_62, ↓tbX8_shifts_63, ↓tbX8_shifts_65, ↓tbX8_shifts_67, ↓tbX8_shifts_70, ↓tbX8_shifts_71, ↓tbX8_shifts_72, ↓tbX8_shifts_75, ↓tbX8_shifts_76, ↓tbX8_shifts_78, ↓tbX8_shifts_79, ↓tbX8_shifts_81, ↓tbX8_shifts_82, ↓tbX8_shifts_83, ↓tbX8_shifts_84, ↓tbX8_shifts_85, ↓tbX8_shifts_86, ↓tbX8_shifts_87, ↓tbX8_shifts_90, ↓tbX8_shifts_91, ↓tbX8_shifts_94, ↓tbX8_shifts_95, ↓tbX8_shifts_97, ↓tbX8_shifts_98, ↓tbX8_shifts_100, ↓tbX8_shifts_103, ↓tbX8_shifts_105, ↓tbX8_shifts_108, ↓tbX8_shifts_109, ↓tbX8_shifts_110, ↓tbX8_shifts_111, ↓tbX8_shifts_113, ↓tbX8_shifts_115, ↓tbX8_shifts_118, ↓tbX8_shifts_119, ↓tbX8_shifts_122, ↓tbX8_shifts_123, ↓tbX8_shifts_124, ↓tbX8_shifts_126, ↓tbX8_shifts_129, ↓tbX8_shifts_132, ↓tbX8_shifts_135, ↓tbX8_shifts_138, ↓tbX8_shifts_139, hfu, xstep0, xJ1_hit, xJ1_go, xJ2_hit1, xJ2_hit2, xJ2_go, ↓xif_t, ↓xif_f, seval, ↓xca_eq, ↓xre_l, ↓xre_r, xmask_t, xmask_f, xmask_nil, ↓xst_eq, xX_eq, eI_eq, eMc_eq, eMs_eq, eF_eq, eThr_eq, ↓xS1_mk, ↓xSI_mk, ↓xSR_mk, ↓xLI_0, ↓xLI_s, ↓xLR_0, ↓xLR_s, vRef_ref, vRef_null, vRef_rf, cat_int, cat_ref, cat_null, cat_rf, rf_some, rf_none, rf_null, rf_eq, rf_ref, ref_rf, ref_null, ref_ref, xOk_0, xOk_1, xOk_2r, xOk_2n, xOk_2f, vOpt_rf, vOpt_ref, vOpt_null, List.set_cons_zero, List.set_cons_succ, List.take_succ_cons, List.take_zero, List.drop_succ_cons, List.drop_zero, List.reverse_cons, List.reverse_nil, List.nil_append, List.cons_append, List.append_nil, List.length_cons, List.length_nil, List.map_cons, List.map_nil, List.sum_cons, List.sum_nil, Option.toList_some, Option.toList_none, xRecv_mk, true_and, and_true, true_implies, Nat.reduceAdd, Nat.reduceLeDiff, Nat.zero_le, Nat.le_refl, Nat.add_zero, Nat.zero_add, reduceIte, not_true_eq_false, not_false_eq_true, false_implies, and_self, implies_true, eq_self, Nat.reduceEqDiff, List.cons.injEq, xsn_1, xsn_2, false_and, and_false, or_false, false_or, or_true, true_or, xsn_3, xsn_4, mAst_1, mAst_2, mSet_1, mSet_2, bi_0, ↓spwX8_isPoint, spcX8_isPoint, ↓spwX8_isSet, spcX8_isSet, ↓spwX8_holds, spcX8_holds, c, d, hg]
      try simp only [xif_e]
      exact h
  · rw [if_pos c] at h
    refine xgo hG (mb := []) (head := 41) (P := fun _ _ _ _ _ => False) (fun _ _ _ _ _ q => q.elim) (pc := 0) (fun fu hfu => ?_)
    simp only [↓callX8_shifts_0, ↓callX8_shifts_1, ↓callX8_shifts_2, ki_0, ki_1, ki_2, ki_5, ki_m1, ↓ma_18, ↓ma_19, ↓mg_18, ↓mg_19, misa, ↓vm_aload_n, ↓vm_getfield, ↓vm_goto, ↓vm_iadd, ↓vm_iaload, ↓vm_iand, ↓vm_iconst, ↓vm_ifCond_eq, ↓vm_ifCond_lt, ↓vm_ifCond_ne, ↓vm_if_icmp_ge, ↓vm_if_icmp_ne, ↓vm_iinc, ↓vm_iload, ↓vm_iload_n, ↓vm_imul, ↓vm_invokestatic, ↓vm_invokevirtual, ↓vm_ireturn, ↓vm_ishr, ↓vm_istore, ↓vm_istore_n, ↓vm_isub, ↓xc_1, ↓xc_2, ↓xc_3, ↓tbX8_shifts_0, ↓tbX8_shifts_1, ↓tbX8_shifts_2, ↓tbX8_shifts_5, ↓tbX8_shifts_8, ↓tbX8_shifts_9, ↓tbX8_shifts_12, ↓tbX8_shifts_13, ↓tbX8_shifts_14, ↓tbX8_shifts_15, ↓tbX8_shifts_18, ↓tbX8_shifts_21, ↓tbX8_shifts_22, ↓tbX8_shifts_25, ↓tbX8_shifts_26, ↓tbX8_shifts_29, ↓tbX8_shifts_32, ↓tbX8_shifts_33, ↓tbX8_shifts_34, ↓tbX8_shifts_35, ↓tbX8_shifts_36, ↓tbX8_shifts_37, ↓tbX8_shifts_38, ↓tbX8_shifts_39, ↓tbX8_shifts_41, ↓tbX8_shifts_43, ↓tbX8_shifts_44, ↓tbX8_shifts_45, ↓tbX8_shifts_46, ↓tbX8_shifts_47, ↓tbX8_shifts_48, ↓tbX8_shifts_51, ↓tbX8_shifts_52, ↓tbX8_shifts_54, ↓tbX8_shifts_55, ↓tbX8_shifts_58, ↓tbX8_shifts_60, ↓tbX8_shifts_61, ↓tbX8_shifts_62, ↓tbX8_shifts_63, ↓tbX8_shifts_65, ↓tbX8_shifts_67, ↓tbX8_shifts_70, ↓tbX8_shifts_71, ↓tbX8_shifts_72, ↓tbX8_shifts_75, ↓tbX8_shifts_76, ↓tbX8_shifts_78, ↓tbX8_shifts_79, ↓tbX8_shifts_81, ↓tbX8_shifts_82, ↓tbX8_shifts_83, ↓tbX8_shifts_84, ↓tbX8_shifts_85, ↓tbX8_shifts_86, ↓tbX8_shifts_87, ↓tbX8_shifts_90, ↓tbX8_shifts_91, ↓tbX8_shifts_94, ↓tbX8_shifts_95, ↓tbX8_shifts_97, ↓tbX8_shifts_98, ↓tbX8_shifts_100, ↓tbX8_shifts_103, ↓tbX8_shifts_105, ↓tbX8_shifts_108, ↓tbX8_shifts_109, ↓tbX8_shifts_110, ↓tbX8_shifts_111, ↓tbX8_shifts_113, ↓tbX8_shifts_115, ↓tbX8_shifts_118, ↓tbX8_shifts_119, ↓tbX8_shifts_122, ↓tbX8_shifts_123, ↓tbX8_shifts_124, ↓tbX8_shifts_126, ↓tbX8_shifts_129, ↓tbX8_shifts_132, ↓tbX8_shifts_135, ↓tbX8_shifts_138, ↓tbX8_shifts_139, hfu, xstep0, xJ1_hit, xJ1_go, xJ2_hit1, xJ2_hit2, xJ2_go, ↓xif_t, ↓xif_f, seval, ↓xca_eq, ↓xre_l, ↓xre_r, xmask_t, xmask_f, xmask_nil, ↓xst_eq, xX_eq, eI_eq, eMc_eq, eMs_eq, eF_eq, eThr_eq, ↓xS1_mk, ↓xSI_mk, ↓xSR_mk, ↓xLI_0, ↓xLI_s, ↓xLR_0, ↓xLR_s, vRef_ref, vRef_null, vRef_rf, cat_int, cat_ref, cat_null, cat_rf, rf_some, rf_none, rf_null, rf_eq, rf_ref, ref_rf, ref_null, ref_ref, xOk_0, xOk_1, xOk_2r, xOk_2n, xOk_2f, vOpt_rf, vOpt_ref, vOpt_null, List.set_cons_zero, List.set_cons_succ, List.take_succ_cons, List.take_zero, List.drop_succ_cons, List.drop_zero, List.reverse_cons, List.reverse_nil, List.nil_append, List.cons_append, List.append_nil, List.length_cons, List.length_nil, List.map_cons, List.map_nil, List.sum_cons, List.sum_nil, Option.toList_some, Option.toList_none, xRecv_mk, true_and, and_true, true_implies, Nat.reduceAdd, Nat.reduceLeDiff, Nat.zero_le, Nat.le_refl, Nat.add_zero, Nat.zero_add, reduceIte, not_true_eq_false, not_false_eq_true, false_implies, and_self, implies_true, eq_self, Nat.reduceEqDiff, List.cons.injEq, xsn_1, xsn_2, false_and, and_false, or_false, false_or, or_true, true_or, xsn_3, xsn_4, mAst_1, mAst_2, mSet_1, mSet_2, bi_0, ↓spwX8_isPoint, spcX8_isPoint, ↓spwX8_isSet, spcX8_isSet, ↓spwX8_holds, spcX8_holds, c]
    try simp only [xif_e]
    exact h

def tbX8_shiftsAnew : List (Nat × xHint) := [(0, .aload_n 0, 0, 0, 0, []), (1, .iload_n 1, 1, 0, 0, []), (2, .iload_n 2, 2, 0, 0, []), (3, .invokevirtual 350, 0, 3, 9, []), (6, .ireturn, 0, 0, 0, [])]
def clX8_shiftsAnew : List (Instr × Nat × Nat × Nat) := [(.invokevirtual 350, 0, 3, 9)]
def thX8_shiftsAnew : List (Nat × Nat) := []
theorem ckX8_shiftsAnew : tbX8_shiftsAnew.all (xRow RX8 cX8_shiftsAnew wsX8_shiftsAnew vwCl [] clX8_shiftsAnew thX8_shiftsAnew 3 (yX8_shiftsAnew.name == "<init>") (some .int)) = true := xRow_q 0xac5e01b61c1b2a 7 (by decide +kernel) (by decide +kernel)
theorem usX8_shiftsAnew : xUse wsX8_shiftsAnew vwCl [] = true := xUse_n
theorem tbX8_shiftsAnew_0 {k : Instr → Nat → Nat → Nat → List Nat → Prop} : xse (xFind tbX8_shiftsAnew 0) k = k (.aload_n 0) 0 0 0 [] := rfl
theorem tbX8_shiftsAnew_1 {k : Instr → Nat → Nat → Nat → List Nat → Prop} : xse (xFind tbX8_shiftsAnew 1) k = k (.iload_n 1) 1 0 0 [] := rfl
theorem tbX8_shiftsAnew_2 {k : Instr → Nat → Nat → Nat → List Nat → Prop} : xse (xFind tbX8_shiftsAnew 2) k = k (.iload_n 2) 2 0 0 [] := rfl
theorem tbX8_shiftsAnew_3 {k : Instr → Nat → Nat → Nat → List Nat → Prop} : xse (xFind tbX8_shiftsAnew 3) k = k (.invokevirtual 350) 0 3 9 [] := rfl
theorem tbX8_shiftsAnew_6 {k : Instr → Nat → Nat → Nat → List Nat → Prop} : xse (xFind tbX8_shiftsAnew 6) k = k (.ireturn) 0 0 0 [] := rfl

def spX8_shiftsAnew (aM : Nat → Nat) : xSp mS := (fun av M => (0, 0), fun av M K => ∃ (p : Int32) (s : Int32), av = [.ref (aM 0), .int p, .int s] ∧ ((M.1 22 = nI (nBg M) ∧ nBg M ≤ 24) ∧ mTd M ∧ K (rI (oShifts M p s).1) (oShifts M p s).2))
theorem spcX8_shiftsAnew {av : List Value} {M : mS} {aM : Nat → Nat} : (spX8_shiftsAnew aM).1 av M = (0, 0) := rfl
theorem spwX8_shiftsAnew {M : mS} {aM : Nat → Nat} {K : xRes → mS → Prop} {p : Int32} {s : Int32} : (spX8_shiftsAnew aM).2 [.ref (aM 0), .int p, .int s] M K = ((M.1 22 = nI (nBg M) ∧ nBg M ≤ 24) ∧ mTd M ∧ K (rI (oShifts M p s).1) (oShifts M p s).2) :=
  propext ⟨fun h => by
    simp only [spX8_shiftsAnew] at h
    obtain ⟨_, _, e, h⟩ := h
    simp only [List.cons.injEq, Value.int.injEq, Value.ref.injEq, rf_eq, and_true, true_and] at e
    obtain ⟨rfl, rfl⟩ := e
    exact h, fun h => ⟨_, _, rfl, h⟩⟩

def callX8_shiftsAnew (aM : Nat → Nat) : Nat → Option (xSp mS) := fun n => match n with | 0 => some (spX8_shifts aM) | _ => none

theorem callX8_shiftsAnew_0 {aM : Nat → Nat} {k : xSp mS → Prop} : xcs (callX8_shiftsAnew aM 0) k = k (spX8_shifts aM) := rfl

theorem crX8_shiftsAnew (l : Launch) (W9 : xWd) (aM : Nat → Nat) (hi : mInj aM) : xCallsOK l W9 (mI aM) (callX8_shiftsAnew aM) clX8_shiftsAnew RX8 wsX8_shiftsAnew 4 96 3 := by
  intro E A p e R s m args below meth c hI hF hL X
  exact List.forall_mem_cons.mpr ⟨⟨_, rfl, xCR_V X (by rw [hI]; exact (semX8_shifts l W9 aM hi)) gX8_shiftsAnew_X8_shifts rfl rfl (by decide +kernel) (by rw [hF, hL]; decide)⟩,
    fun _ h => nomatch h⟩

set_option maxHeartbeats 4000000 in
set_option maxRecDepth 20000 in
theorem semX8_shiftsAnew (l : Launch) (W9 : xWd) (aM : Nat → Nat) (hi : mInj aM) : xSem l W9 (mI aM) yX8_shiftsAnew wsX8_shiftsAnew 4 96 (spX8_shiftsAnew aM) := by
  refine xSem_of (call := callX8_shiftsAnew aM) (thrf := fun _ => "") (mI_law hi) (by decide +kernel) rfl ckX8_shiftsAnew usX8_shiftsAnew (crX8_shiftsAnew l W9 aM hi) xThrOK_nil ?_ ?_
  · intro av M KF h
    obtain ⟨p, s, rfl, h⟩ := h
    exact ⟨by intro v hv; simp only [List.mem_cons, List.not_mem_nil, or_false] at hv; rcases hv with rfl | rfl | rfl <;> first | rfl | exact cat_rf, Nat.le_of_ble_eq_true rfl⟩
  intro av M KF h G hG
  obtain ⟨p, s, rfl, h⟩ := h
  rw [show (spX8_shiftsAnew aM).1 _ M = _ from spcX8_shiftsAnew] at hG
  try dsimp only at hG
  change G 0 [some (.ref (aM 0)), some (.int p), some (.int s)] [] M 0 0
  obtain ⟨hg, ht, h⟩ := h
  refine xgo0 hG (fun fu hfu => ?_)
  clear hG
  simp only [↓callX8_shiftsAnew_0, misa, ↓vm_aload_n, ↓vm_iload_n, ↓vm_invokevirtual, ↓vm_ireturn, ↓xc_3, ↓tbX8_shiftsAnew_0, ↓tbX8_shiftsAnew_1, ↓tbX8_shiftsAnew_2, ↓tbX8_shiftsAnew_3, ↓tbX8_shiftsAnew_6, hfu, xstep0, xJ1_hit, xJ1_go, xJ2_hit1, xJ2_hit2, xJ2_go, ↓xif_t, ↓xif_f, seval, ↓xca_eq, ↓xre_l, ↓xre_r, xmask_t, xmask_f, xmask_nil, ↓xst_eq, xX_eq, eI_eq, eMc_eq, eMs_eq, eF_eq, eThr_eq, ↓xS1_mk, ↓xSI_mk, ↓xSR_mk, ↓xLI_0, ↓xLI_s, ↓xLR_0, ↓xLR_s, vRef_ref, vRef_null, vRef_rf, cat_int, cat_ref, cat_null, cat_rf, rf_some, rf_none, rf_null, rf_eq, rf_ref, ref_rf, ref_null, ref_ref, xOk_0, xOk_1, xOk_2r, xOk_2n, xOk_2f, vOpt_rf, vOpt_ref, vOpt_null, List.set_cons_zero, List.set_cons_succ, List.take_succ_cons, List.take_zero, List.drop_succ_cons, List.drop_zero, List.reverse_cons, List.reverse_nil, List.nil_append, List.cons_append, List.append_nil, List.length_cons, List.length_nil, List.map_cons, List.map_nil, List.sum_cons, List.sum_nil, Option.toList_some, Option.toList_none, xRecv_mk, true_and, and_true, true_implies, Nat.reduceAdd, Nat.reduceLeDiff, Nat.zero_le, Nat.le_refl, Nat.add_zero, Nat.zero_add, reduceIte, not_true_eq_false, not_false_eq_true, false_implies, and_self, implies_true, eq_self, Nat.reduceEqDiff, List.cons.injEq, xsn_1, xsn_2, false_and, and_false, or_false, false_or, or_true, true_or, xsn_3, xsn_4, hg, ht, ↓spwX8_shifts, spcX8_shifts]
  try simp only [xif_e]
  exact h
