/-! The class: sets of barges. -/
def cChB (S : cS) (G : Nat) (p s : Int32) (j : Nat) : Prop := ¬ (s &&& 1 <<< (cFi S (lG S G j) 100 &&& 31) = 0) ∧ (cFi S (cRf S (lG S G j) 102) 500 = -1 ∧ cFi S (cRf S (lG S G j) 102) 501 = p)
noncomputable def cCh (S : cS) (G : Nat) (p s : Int32) : Nat → List Nat
  | 0 => []
  | j + 1 => haveI := Classical.propDecidable (cChB S G p s j); if cChB S G p s j then cCh S G p s j ++ [lG S G j] else cCh S G p s j
theorem cCh_t {S : cS} {G : Nat} {p s : Int32} {j : Nat} (h : cChB S G p s j) : cCh S G p s (j + 1) = cCh S G p s j ++ [lG S G j] := if_pos h
theorem cCh_f {S : cS} {G : Nat} {p s : Int32} {j : Nat} (h : ¬ cChB S G p s j) : cCh S G p s (j + 1) = cCh S G p s j := if_neg h
theorem cCh_le {S : cS} {G : Nat} {p s : Int32} : ∀ j, (cCh S G p s j).length ≤ j
  | 0 => Nat.le_refl _
  | j + 1 => by
    have := cCh_le (S := S) (G := G) (p := p) (s := s) j
    by_cases c : cChB S G p s j
    · rw [cCh_t c, List.length_append]
      simp
      exact this
    · rw [cCh_f c]
      omega

def tbX7_needTiedSet : List (Nat × xHint) := [(0, .iload_n 2, 2, 0, 0, []), (1, .ifCond .lt 16, 17, 0, 0, []), (4, .iload_n 2, 2, 0, 0, []), (5, .invokestatic 433, 0, 1, 0, []), (8, .bipush 6, 0, 0, 0, []), (10, .if_icmp .gt 7, 17, 0, 0, []), (13, .iconst 1, 0, 0, 0, []), (14, .goto 4, 18, 0, 0, []), (17, .iconst 0, 0, 0, 0, []), (18, .invokestatic 131, 1, 1, 0, []), (21, .new 7, 0, 0, 3, []), (24, .dup, 0, 0, 0, []), (25, .invokespecial 9, 2, 1, 0, []), (28, .astore_n 3, 3, 0, 0, []), (29, .iconst 0, 0, 0, 0, []), (30, .istore 4, 4, 0, 0, []), (32, .iload 4, 4, 0, 0, []), (34, .aload_n 0, 0, 0, 0, []), (35, .getfield 19, 8, 2, 2, []), (38, .invokevirtual 108, 3, 1, 0, []), (41, .if_icmp .ge 49, 90, 0, 0, []), (44, .aload_n 0, 0, 0, 0, []), (45, .getfield 19, 8, 2, 2, []), (48, .iload 4, 4, 0, 0, []), (50, .invokevirtual 312, 4, 2, 0, []), (53, .checkcast 113, 1, 0, 0, []), (56, .astore 5, 5, 0, 0, []), (58, .iload_n 2, 2, 0, 0, []), (59, .aload 5, 5, 0, 0, []), (61, .invokevirtual 438, 5, 1, 1, []), (64, .iand, 0, 0, 0, []), (65, .ifCond .eq 19, 84, 0, 0, []), (68, .aload 5, 5, 0, 0, []), (70, .iload_n 1, 1, 0, 0, []), (71, .invokevirtual 241, 6, 2, 1, []), (74, .ifCond .eq 10, 84, 0, 0, []), (77, .aload_n 3, 3, 0, 0, []), (78, .aload 5, 5, 0, 0, []), (80, .invokevirtual 44, 7, 2, 0, []), (83, .pop, 0, 0, 0, []), (84, .iinc 4 1, 4, 0, 0, []), (87, .goto (-55), 32, 0, 0, []), (90, .aload_n 3, 3, 0, 0, []), (91, .invokevirtual 108, 3, 1, 0, []), (94, .iload_n 2, 2, 0, 0, []), (95, .invokestatic 433, 0, 1, 0, []), (98, .if_icmp .ne 7, 105, 0, 0, []), (101, .iconst 1, 0, 0, 0, []), (102, .goto 4, 106, 0, 0, []), (105, .iconst 0, 0, 0, 0, []), (106, .invokestatic 131, 1, 1, 0, []), (109, .aload_n 3, 3, 0, 0, []), (110, .areturn, 0, 0, 0, [])]
def clX7_needTiedSet : List (Instr × Nat × Nat × Nat) := [(.invokestatic 433, 0, 1, 0), (.invokestatic 131, 1, 1, 0), (.invokespecial 9, 2, 1, 0), (.invokevirtual 108, 3, 1, 0), (.invokevirtual 312, 4, 2, 0), (.invokevirtual 438, 5, 1, 1), (.invokevirtual 241, 6, 2, 1), (.invokevirtual 44, 7, 2, 0)]
def thX7_needTiedSet : List (Nat × Nat) := []
theorem ckX7_needTiedSet : tbX7_needTiedSet.all (xRow RX7 cX7_needTiedSet wsX7_needTiedSet vwCl [0, 8] clX7_needTiedSet thX7_needTiedSet 6 (yX7_needTiedSet.name == "<init>") (some (.object "java/util/ArrayList"))) = true := xRow_q 0xb02d8300b8030400a7040700a0b101b81c6c00b62dc9ffa7010484572c00b605192d0a0099f100b61b05191300997eb601b605191c053a7100c03801b604151300b42a3100a26c00b61300b42a04150436034e0900b7590700bb8300b8030400a7040700a30610b101b81c10009b1c 111 (by decide +kernel) (by decide +kernel)
theorem usX7_needTiedSet : xUse wsX7_needTiedSet vwCl [0, 8] = true := xUse_g rfl (lw_good lwl_X7_needTiedSet lwl_Jx4a65c0 (by decide +kernel)) (xUse_g rfl (lw_good lwl_X7_needTiedSet lwl_X70 (by decide +kernel)) xUse_n)
theorem tbX7_needTiedSet_0 {k : Instr → Nat → Nat → Nat → List Nat → Prop} : xse (xFind tbX7_needTiedSet 0) k = k (.iload_n 2) 2 0 0 [] := rfl
theorem tbX7_needTiedSet_1 {k : Instr → Nat → Nat → Nat → List Nat → Prop} : xse (xFind tbX7_needTiedSet 1) k = k (.ifCond .lt 16) 17 0 0 [] := rfl
theorem tbX7_needTiedSet_4 {k : Instr → Nat → Nat → Nat → List Nat → Prop} : xse (xFind tbX7_needTiedSet 4) k = k (.iload_n 2) 2 0 0 [] := rfl
theorem tbX7_needTiedSet_5 {k : Instr → Nat → Nat → Nat → List Nat → Prop} : xse (xFind tbX7_needTiedSet 5) k = k (.invokestatic 433) 0 1 0 [] := rfl
theorem tbX7_needTiedSet_8 {k : Instr → Nat → Nat → Nat → List Nat → Prop} : xse (xFind tbX7_needTiedSet 8) k = k (.bipush 6) 0 0 0 [] := rfl
theorem tbX7_needTiedSet_10 {k : Instr → Nat → Nat → Nat → List Nat → Prop} : xse (xFind tbX7_needTiedSet 10) k = k (.if_icmp .gt 7) 17 0 0 [] := rfl
theorem tbX7_needTiedSet_13 {k : Instr → Nat → Nat → Nat → List Nat → Prop} : xse (xFind tbX7_needTiedSet 13) k = k (.iconst 1) 0 0 0 [] := rfl
theorem tbX7_needTiedSet_14 {k : Instr → Nat → Nat → Nat → List Nat → Prop} : xse (xFind tbX7_needTiedSet 14) k = k (.goto 4) 18 0 0 [] := rfl
theorem tbX7_needTiedSet_17 {k : Instr → Nat → Nat → Nat → List Nat → Prop} : xse (xFind tbX7_needTiedSet 17) k = k (.iconst 0) 0 0 0 [] := rfl
theorem tbX7_needTiedSet_18 {k : Instr → Nat → Nat → Nat → List Nat → Prop} : xse (xFind tbX7_needTiedSet 18) k = k (.invokestatic 131) 1 1 0 [] := rfl
theorem tbX7_needTiedSet_21 {k : Instr → Nat → Nat → Nat → List Nat → Prop} : xse (xFind tbX7_needTiedSet 21) k = k (.new 7) 0 0 3 [] := rfl
theorem tbX7_needTiedSet_24 {k : Instr → Nat → Nat → Nat → List Nat → Prop} : xse (xFind tbX7_needTiedSet 24) k = k (.dup) 0 0 0 [] := rfl
theorem tbX7_needTiedSet_25 {k : Instr → Nat → Nat → Nat → List Nat → Prop} : xse (xFind tbX7_needTiedSet 25) k = k (.invokespecial 9) 2 1 0 [] := rfl
theorem tbX7_needTiedSet_28 {k : Instr → Nat → Nat → Nat → List Nat → Prop} : xse (xFind tbX7_needTiedSet 28) k = k (.astore_n 3) 3 0 0 [] := rfl
theorem tbX7_needTiedSet_29 {k : Instr → Nat → Nat → Nat → List Nat → Prop} : xse (xFind tbX7_needTiedSet 29) k = k (.iconst 0) 0 0 0 [] := rfl
theorem tbX7_needTiedSet_30 {k : Instr → Nat → Nat → Nat → List Nat → Prop} : xse (xFind tbX7_needTiedSet 30) k = k (.istore 4) 4 0 0 [] := rfl
theorem tbX7_needTiedSet_32 {k : Instr → Nat → Nat → Nat → List Nat → Prop} : xse (xFind tbX7_needTiedSet 32) k = k (.iload 4) 4 0 0 [] := rfl
theorem tbX7_needTiedSet_34 {k : Instr → Nat → Nat → Nat → List Nat → Prop} : xse (xFind tbX7_needTiedSet 34) k = k (.aload_n 0) 0 0 0 [] := rfl
theorem tbX7_needTiedSet_35 {k : Instr → Nat → Nat → Nat → List Nat → Prop} : xse (xFind tbX7_needTiedSet 35) k = k (.getfield 19) 8 2 2 [] := rfl
theorem tbX7_needTiedSet_38 {k : Instr → Nat → Nat → Nat → List Nat → Prop} : xse (xFind tbX7_needTiedSet 38) k = k (.invokevirtual 108) 3 1 0 [] := rfl
theorem tbX7_needTiedSet_41 {k : Instr → Nat → Nat → Nat → List Nat → Prop} : xse (xFind tbX7_needTiedSet 41) k = k (.if_icmp .ge 49) 90 0 0 [] := rfl
theorem tbX7_needTiedSet_44 {k : Instr → Nat → Nat → Nat → List Nat → Prop} : xse (xFind tbX7_needTiedSet 44) k = k (.aload_n 0) 0 0 0 [] := rfl
theorem tbX7_needTiedSet_45 {k : Instr → Nat → Nat → Nat → List Nat → Prop} : xse (xFind tbX7_needTiedSet 45) k = k (.getfield 19) 8 2 2 [] := rfl
theorem tbX7_needTiedSet_48 {k : Instr → Nat → Nat → Nat → List Nat → Prop} : xse (xFind tbX7_needTiedSet 48) k = k (.iload 4) 4 0 0 [] := rfl
theorem tbX7_needTiedSet_50 {k : Instr → Nat → Nat → Nat → List Nat → Prop} : xse (xFind tbX7_needTiedSet 50) k = k (.invokevirtual 312) 4 2 0 [] := rfl
theorem tbX7_needTiedSet_53 {k : Instr → Nat → Nat → Nat → List Nat → Prop} : xse (xFind tbX7_needTiedSet 53) k = k (.checkcast 113) 1 0 0 [] := rfl
theorem tbX7_needTiedSet_56 {k : Instr → Nat → Nat → Nat → List Nat → Prop} : xse (xFind tbX7_needTiedSet 56) k = k (.astore 5) 5 0 0 [] := rfl
theorem tbX7_needTiedSet_58 {k : Instr → Nat → Nat → Nat → List Nat → Prop} : xse (xFind tbX7_needTiedSet 58) k = k (.iload_n 2) 2 0 0 [] := rfl
theorem tbX7_needTiedSet_59 {k : Instr → Nat → Nat → Nat → List Nat → Prop} : xse (xFind tbX7_needTiedSet 59) k = k (.aload 5) 5 0 0 [] := rfl
theorem tbX7_needTiedSet_61 {k : Instr → Nat → Nat → Nat → List Nat → Prop} : xse (xFind tbX7_needTiedSet 61) k = k (.invokevirtual 438) 5 1 1 [] := rfl
theorem tbX7_needTiedSet_64 {k : Instr → Nat → Nat → Nat → List Nat → Prop} : xse (xFind tbX7_needTiedSet 64) k = k (.iand) 0 0 0 [] := rfl
theorem tbX7_needTiedSet_65 {k : Instr → Nat → Nat → Nat → List Nat → Prop} : xse (xFind tbX7_needTiedSet 65) k = k (.ifCond .eq 19) 84 0 0 [] := rfl
theorem tbX7_needTiedSet_68 {k : Instr → Nat → Nat → Nat → List Nat → Prop} : xse (xFind tbX7_needTiedSet 68) k = k (.aload 5) 5 0 0 [] := rfl
theorem tbX7_needTiedSet_70 {k : Instr → Nat → Nat → Nat → List Nat → Prop} : xse (xFind tbX7_needTiedSet 70) k = k (.iload_n 1) 1 0 0 [] := rfl
theorem tbX7_needTiedSet_71 {k : Instr → Nat → Nat → Nat → List Nat → Prop} : xse (xFind tbX7_needTiedSet 71) k = k (.invokevirtual 241) 6 2 1 [] := rfl
theorem tbX7_needTiedSet_74 {k : Instr → Nat → Nat → Nat → List Nat → Prop} : xse (xFind tbX7_needTiedSet 74) k = k (.ifCond .eq 10) 84 0 0 [] := rfl
theorem tbX7_needTiedSet_77 {k : Instr → Nat → Nat → Nat → List Nat → Prop} : xse (xFind tbX7_needTiedSet 77) k = k (.aload_n 3) 3 0 0 [] := rfl
theorem tbX7_needTiedSet_78 {k : Instr → Nat → Nat → Nat → List Nat → Prop} : xse (xFind tbX7_needTiedSet 78) k = k (.aload 5) 5 0 0 [] := rfl
theorem tbX7_needTiedSet_80 {k : Instr → Nat → Nat → Nat → List Nat → Prop} : xse (xFind tbX7_needTiedSet 80) k = k (.invokevirtual 44) 7 2 0 [] := rfl
theorem tbX7_needTiedSet_83 {k : Instr → Nat → Nat → Nat → List Nat → Prop} : xse (xFind tbX7_needTiedSet 83) k = k (.pop) 0 0 0 [] := rfl
theorem tbX7_needTiedSet_84 {k : Instr → Nat → Nat → Nat → List Nat → Prop} : xse (xFind tbX7_needTiedSet 84) k = k (.iinc 4 1) 4 0 0 [] := rfl
theorem tbX7_needTiedSet_87 {k : Instr → Nat → Nat → Nat → List Nat → Prop} : xse (xFind tbX7_needTiedSet 87) k = k (.goto (-55)) 32 0 0 [] := rfl
theorem tbX7_needTiedSet_90 {k : Instr → Nat → Nat → Nat → List Nat → Prop} : xse (xFind tbX7_needTiedSet 90) k = k (.aload_n 3) 3 0 0 [] := rfl
theorem tbX7_needTiedSet_91 {k : Instr → Nat → Nat → Nat → List Nat → Prop} : xse (xFind tbX7_needTiedSet 91) k = k (.invokevirtual 108) 3 1 0 [] := rfl
theorem tbX7_needTiedSet_94 {k : Instr → Nat → Nat → Nat → List Nat → Prop} : xse (xFind tbX7_needTiedSet 94) k = k (.iload_n 2) 2 0 0 [] := rfl
theorem tbX7_needTiedSet_95 {k : Instr → Nat → Nat → Nat → List Nat → Prop} : xse (xFind tbX7_needTiedSet 95) k = k (.invokestatic 433) 0 1 0 [] := rfl
theorem tbX7_needTiedSet_98 {k : Instr → Nat → Nat → Nat → List Nat → Prop} : xse (xFind tbX7_needTiedSet 98) k = k (.if_icmp .ne 7) 105 0 0 [] := rfl
theorem tbX7_needTiedSet_101 {k : Instr → Nat → Nat → Nat → List Nat → Prop} : xse (xFind tbX7_needTiedSet 101) k = k (.iconst 1) 0 0 0 [] := rfl
theorem tbX7_needTiedSet_102 {k : Instr → Nat → Nat → Nat → List Nat → Prop} : xse (xFind tbX7_needTiedSet 102) k = k (.goto 4) 106 0 0 [] := rfl
theorem tbX7_needTiedSet_105 {k : Instr → Nat → Nat → Nat → List Nat → Prop} : xse (xFind tbX7_needTiedSet 105) k = k (.iconst 0) 0 0 0 [] := rfl
theorem tbX7_needTiedSet_106 {k : Instr → Nat → Nat → Nat → List Nat → Prop} : xse (xFind tbX7_needTiedSet 106) k = k (.invokestatic 131) 1 1 0 [] := rfl
theorem tbX7_needTiedSet_109 {k : Instr → Nat → Nat → Nat → List Nat → Prop} : xse (xFind tbX7_needTiedSet 109) k = k (.aload_n 3) 3 0 0 [] := rfl
theorem tbX7_needTiedSet_110 {k : Instr → Nat → Nat → Nat → List Nat → Prop} : xse (xFind tbX7_needTiedSet 110) k = k (.areturn) 0 0 0 [] := rfl

def spX7_needTiedSet (W9 : xWd) : xSp cS := (fun av S => (33, 1365), fun av S K => ∃ (a : Nat) (p : Int32) (s : Int32), av = [.ref a, .int p, .int s] ∧ (cK S a = 9 ∧ cIn S a 802 1 ∧ (lAll S (cRf S a 802) 2 ∧ lCap W9 S (cRf S a 802) ∧ ∀ k, k < lCn S (cRf S a 802) → cIn S (lG S (cRf S a 802) k) 102 6) ∧ (¬ (0 ≤ s ∧ cBc s ≤ 6) → K (rX "java/lang/IllegalArgumentException") S) ∧ (0 ≤ s ∧ cBc s ≤ 6 → ∀ q S2, tI W9 S S2 q (cCh S (cRf S a 802) p s (lCn S (cRf S a 802))) → (¬ nI (cCh S (cRf S a 802) p s (lCn S (cRf S a 802))).length = cBc s → K (rX "java/lang/IllegalArgumentException") S2) ∧ (nI (cCh S (cRf S a 802) p s (lCn S (cRf S a 802))).length = cBc s → K (rR q) S2))))
theorem spcX7_needTiedSet {av : List Value} {S : cS} {W9 : xWd} : (spX7_needTiedSet W9).1 av S = (33, 1365) := rfl
theorem spwX7_needTiedSet {S : cS} {W9 : xWd} {K : xRes → cS → Prop} {a : Nat} {p : Int32} {s : Int32} : (spX7_needTiedSet W9).2 [.ref a, .int p, .int s] S K = (cK S a = 9 ∧ cIn S a 802 1 ∧ (lAll S (cRf S a 802) 2 ∧ lCap W9 S (cRf S a 802) ∧ ∀ k, k < lCn S (cRf S a 802) → cIn S (lG S (cRf S a 802) k) 102 6) ∧ (¬ (0 ≤ s ∧ cBc s ≤ 6) → K (rX "java/lang/IllegalArgumentException") S) ∧ (0 ≤ s ∧ cBc s ≤ 6 → ∀ q S2, tI W9 S S2 q (cCh S (cRf S a 802) p s (lCn S (cRf S a 802))) → (¬ nI (cCh S (cRf S a 802) p s (lCn S (cRf S a 802))).length = cBc s → K (rX "java/lang/IllegalArgumentException") S2) ∧ (nI (cCh S (cRf S a 802) p s (lCn S (cRf S a 802))).length = cBc s → K (rR q) S2))) :=
  propext ⟨fun h => by
    simp only [spX7_needTiedSet] at h
    obtain ⟨_, _, _, e, h⟩ := h
    simp only [List.cons.injEq, Value.int.injEq, Value.ref.injEq, rf_eq, and_true, true_and] at e
    obtain ⟨rfl, rfl, rfl⟩ := e
    exact h, fun h => ⟨_, _, _, rfl, h⟩⟩

def callX7_needTiedSet (W9 : xWd) : Nat → Option (xSp cS) := fun n => match n with | 0 => some (spJ6_bitCount_0f7a4 W9) | 1 => some (spX7_needArgument W9) | 2 => some (spJx4a65c_init_da8c8 W9) | 3 => some (spJx4a65c_size_8abf5 W9) | 4 => some (spJx4a65c_get_915e3 W9) | 5 => some (spX0_bit W9) | 6 => some (spX0_isTiedAt W9) | 7 => some (spJx4a65c_add_9ea2d W9) | _ => none

theorem callX7_needTiedSet_0 {W9 : xWd} {k : xSp cS → Prop} : xcs (callX7_needTiedSet W9 0) k = k (spJ6_bitCount_0f7a4 W9) := rfl

theorem callX7_needTiedSet_1 {W9 : xWd} {k : xSp cS → Prop} : xcs (callX7_needTiedSet W9 1) k = k (spX7_needArgument W9) := rfl

theorem callX7_needTiedSet_2 {W9 : xWd} {k : xSp cS → Prop} : xcs (callX7_needTiedSet W9 2) k = k (spJx4a65c_init_da8c8 W9) := rfl

theorem callX7_needTiedSet_3 {W9 : xWd} {k : xSp cS → Prop} : xcs (callX7_needTiedSet W9 3) k = k (spJx4a65c_size_8abf5 W9) := rfl

theorem callX7_needTiedSet_4 {W9 : xWd} {k : xSp cS → Prop} : xcs (callX7_needTiedSet W9 4) k = k (spJx4a65c_get_915e3 W9) := rfl

theorem callX7_needTiedSet_5 {W9 : xWd} {k : xSp cS → Prop} : xcs (callX7_needTiedSet W9 5) k = k (spX0_bit W9) := rfl

theorem callX7_needTiedSet_6 {W9 : xWd} {k : xSp cS → Prop} : xcs (callX7_needTiedSet W9 6) k = k (spX0_isTiedAt W9) := rfl

theorem callX7_needTiedSet_7 {W9 : xWd} {k : xSp cS → Prop} : xcs (callX7_needTiedSet W9 7) k = k (spJx4a65c_add_9ea2d W9) := rfl

theorem crX7_needTiedSet (l : Launch) (hl : l.stackTraces = false) (W9 : xWd) : xCallsOK l W9 (cI) (callX7_needTiedSet W9) clX7_needTiedSet RX7 wsX7_needTiedSet 7 191 6 := by
  intro E A p e R s m args below meth c hI hF hL X
  exact List.forall_mem_cons.mpr ⟨⟨_, rfl, xCR_S X (by rw [hI]; exact (semJ6_bitCount_0f7a4 l hl W9)) gX7_needTiedSet_J6_bitCount_0f7a4 rfl (by decide +kernel) (by rw [hF, hL]; decide)⟩,
    List.forall_mem_cons.mpr ⟨⟨_, rfl, xCR_S X (by rw [hI]; exact (semX7_needArgument l hl W9)) gX7_needTiedSet_X7_needArgument rfl (by decide +kernel) (by rw [hF, hL]; decide)⟩,
    List.forall_mem_cons.mpr ⟨⟨_, rfl, xCR_I X (by rw [hI]; exact (semJx4a65c_init_da8c8 l hl W9)) gX7_needTiedSet_Jx4a65c_init_da8c8 rfl (by decide +kernel) (by decide +kernel) (by decide +kernel) rfl sprJx4a65c_init_da8c8 (by decide +kernel) (by rw [hF, hL]; decide)⟩,
    List.forall_mem_cons.mpr ⟨⟨_, rfl, xCR_V X (by rw [hI]; exact (semJx4a65c_size_8abf5 l hl W9)) gX7_needTiedSet_Jx4a65c_size_8abf5 rfl rfl (by decide +kernel) (by rw [hF, hL]; decide)⟩,
    List.forall_mem_cons.mpr ⟨⟨_, rfl, xCR_V X (by rw [hI]; exact (semJx4a65c_get_915e3 l hl W9)) gX7_needTiedSet_Jx4a65c_get_915e3 rfl rfl (by decide +kernel) (by rw [hF, hL]; decide)⟩,
    List.forall_mem_cons.mpr ⟨⟨_, rfl, xCR_V X (by rw [hI]; exact (semX0_bit l hl W9)) gX7_needTiedSet_X0_bit rfl rfl (by decide +kernel) (by rw [hF, hL]; decide)⟩,
    List.forall_mem_cons.mpr ⟨⟨_, rfl, xCR_V X (by rw [hI]; exact (semX0_isTiedAt l hl W9)) gX7_needTiedSet_X0_isTiedAt rfl rfl (by decide +kernel) (by rw [hF, hL]; decide)⟩,
    List.forall_mem_cons.mpr ⟨⟨_, rfl, xCR_V X (by rw [hI]; exact (semJx4a65c_add_9ea2d l hl W9)) gX7_needTiedSet_Jx4a65c_add_9ea2d rfl rfl (by decide +kernel) (by rw [hF, hL]; decide)⟩,
    fun _ h => nomatch h⟩⟩⟩⟩⟩⟩⟩⟩

set_option maxHeartbeats 600000 in
set_option maxRecDepth 20000 in
theorem semX7_needTiedSet (l : Launch) (hl : l.stackTraces = false) (W9 : xWd) : xSem l W9 (cI) yX7_needTiedSet wsX7_needTiedSet 7 191 (spX7_needTiedSet W9) := by
  refine xSem_of (call := callX7_needTiedSet W9) (thrf := fun _ => "") cI_law (by decide +kernel) rfl ckX7_needTiedSet usX7_needTiedSet (crX7_needTiedSet l hl W9) xThrOK_nil ?_ ?_
  · intro av S KF h
    obtain ⟨a, p, s, rfl, h⟩ := h
    exact ⟨by intro v hv; simp only [List.mem_cons, List.not_mem_nil, or_false] at hv; rcases hv with rfl | rfl | rfl <;> first | rfl | exact cat_rf, Nat.le_of_ble_eq_true rfl⟩
  intro av S KF h G hG
  obtain ⟨a, p, s, rfl, h⟩ := h
  rw [show (spX7_needTiedSet W9).1 _ S = _ from spcX7_needTiedSet] at hG
  try dsimp only at hG
  change G 0 [some (.ref a), some (.int p), some (.int s), none, none, none] [] S 0 0
  obtain ⟨h0, ⟨h1, h2⟩, ⟨h3, h4, h5⟩, hbad, hok⟩ := h

  generalize hG0 : cRf S a 802 = g at *
  have hn30 := h4.2.2.1
  by_cases c0 : 0 ≤ s ∧ cBc s ≤ 6
  · have hok := hok c0
    have loop : ∀ q, cDead S q → ∀ lv st S1 cs ss, (lv = [some (.ref a), some (.int p), some (.int s), some (.ref q), some (.int 0), none] ∧ st = [] ∧ cSetR (cSetI (cNewO S q 0) q 0 0) q 1 (some (wE W9)) = S1 ∧ cs = 2 ∧ ss = 9) → G 32 lv st S1 cs ss := by
      intro q hq
      have lp := xloop hG 32 [true, true, true, true, true, false] (fun j lv st S1 cs ss => lv = [some (.ref a), some (.int p), some (.int s), some (.ref q), some (.int (nI j)), none] ∧ st = [] ∧ tI W9 S S1 q (cCh S g p s j) ∧ cs = 2 + (cCh S g p s j).length ∧ ss = 9 + 45 * (cCh S g p s j).length) (lCn S g) (by
          rintro j hj lv st S1 cs ss ⟨rfl, rfl, hI, rfl, rfl⟩ fu hfu
          obtain ⟨r1, r2, r3, r4, r5⟩ := hI.rd (c := 0) h4
          have la := live_of h0 (by omega)
          have x1 : cK S1 a = 9 := (hI.1.1 a la).trans h0
          have x2 : cFr S1 a 802 = some g := (hI.1.2.2.1 a 802 (by omega) la).trans h1
          obtain ⟨g1, g2⟩ := h3.2 j hj
          obtain ⟨y1, y2⟩ := h5 j hj
          have x6 : lNth S1 g j = some (lG S g j) := (r5 j).trans g1
          have hB : cChB S g p s j = (¬ (s &&& 1 <<< (cFi S (lG S g j) 100 &&& 31) = 0) ∧ (cFi S (cRf S (lG S g j) 102) 500 = -1 ∧ cFi S (cRf S (lG S g j) 102) 501 = p)) := rfl
          have st := @cCh_t S g p s j
          have sf := @cCh_f S g p s j
          have hle := cCh_le (S := S) (G := g) (p := p) (s := s) j
          have ha := hI.m (x := cFi S1 q 0 + 1)
          have kd := hI.kd
          have hcq := hI.2.2.1.1
          have hnq := hI.2.2.2.1.1
          have had := fun S2 (z : lAdd W9 (cSetI S1 q 0 (cFi S1 q 0 + 1)) q (lG S g j) S2) => ha.add g2 (by omega) z
          generalize hw : cCh S g p s j = w at *
          generalize hb : lG S g j = b at *
          have lb := live_of g2 (by omega)
          have lr := live_of y2 (by omega)
          have x7 : cK S1 b = 2 := (hI.1.1 b lb).trans g2
          have x8 : cFi S1 b 100 = cFi S b 100 := hI.1.2.1 b 100 (by omega) lb
          have x9 : cRf S1 b 102 = cRf S b 102 := by unfold cRf; rw [hI.1.2.2.1 b 102 (by omega) lb]
          have x10 : cIn S1 b 102 6 := by
            unfold cIn
            rw [x9, hI.1.2.2.1 b 102 (by omega) lb]
            exact ⟨y1, (hI.1.1 _ lr).trans y2⟩
          have x11 : cFi S1 (cRf S b 102) 500 = cFi S (cRf S b 102) 500 := hI.1.2.1 _ 500 (by omega) lr
          have x12 : cFi S1 (cRf S b 102) 501 = cFi S (cRf S b 102) 501 := hI.1.2.1 _ 501 (by omega) lr
          have e0 := ge_nI hj (show lCn S g < 1000 by omega)
          have e2 := lt0_nI hj (show lCn S g < 1000 by omega)
          by_cases c1 : s &&& 1 <<< (cFi S b 100 &&& 31) = 0
          · have nb : ¬ cChB S g p s j := by rw [hB]; exact fun z => z.1 c1
            have sf := sf nb
            simp only [↓callX7_needTiedSet_0, ↓callX7_needTiedSet_1, ↓callX7_needTiedSet_2, ↓callX7_needTiedSet_3, ↓callX7_needTiedSet_4, ↓callX7_needTiedSet_5, ↓callX7_needTiedSet_6, ↓callX7_needTiedSet_7, ↓cg_8_2, cisa, ↓cnew, kb_6, kc_6, ki_0, ki_1, ↓vm_aload, ↓vm_aload_n, ↓vm_areturn, ↓vm_astore, ↓vm_astore_n, ↓vm_bipush, ↓vm_checkcast, ↓vm_dup, ↓vm_getfield, ↓vm_goto, ↓vm_iand, ↓vm_iconst, ↓vm_ifCond_eq, ↓vm_ifCond_lt, ↓vm_if_icmp_ge, ↓vm_if_icmp_gt, ↓vm_if_icmp_ne, ↓vm_iinc, ↓vm_iload, ↓vm_iload_n, ↓vm_invokespecial, ↓vm_invokestatic, ↓vm_invokevirtual, ↓vm_istore, ↓vm_newO, ↓vm_pop, ↓xc_1, ↓xc_2, ↓tbX7_needTiedSet_0, ↓tbX7_needTiedSet_1, ↓tbX7_needTiedSet_4, ↓tbX7_needTiedSet_5, ↓tbX7_needTiedSet_8, ↓tbX7_needTiedSet_10, ↓tbX7_needTiedSet_13, ↓tbX7_needTiedSet_14, ↓tbX7_needTiedSet_17, ↓tbX7_needTiedSet_18, ↓tbX7_needTiedSet_21, ↓tbX7_needTiedSet_24, ↓tbX7_needTiedSet_25, ↓tbX7_needTiedSet_28, ↓tbX7_needTiedSet_29, ↓tbX7_needTiedSet_30, ↓tbX7_needTiedSet_32, ↓tbX7_needTiedSet_34, ↓tbX7_needTiedSet_35, ↓tbX7_needTiedSet_38, ↓tbX7_needTiedSet_41, ↓tbX7_needTiedSet_44, ↓tbX7_needTiedSet_45, ↓tbX7_needTiedSet_48, ↓tbX7_needTiedSet_50, ↓tbX7_needTiedSet_53, ↓tbX7_needTiedSet_56, ↓tbX7_needTiedSet_58, ↓tbX7_needTiedSet_59, ↓tbX7_needTiedSet_61, ↓tbX7_needTiedSet_64, ↓tbX7_needTiedSet_65, ↓tbX7_needTiedSet_68, ↓tbX7_needTiedSet_70, ↓tbX7_needTiedSet_71, ↓tbX7_needTiedSet_74, ↓tbX7_needTiedSet_77, ↓tbX7_needTiedSet_78, ↓tbX7_needTiedSet_80, ↓tbX7_needTiedSet_83, ↓tbX7_needTiedSet_84, ↓tbX7_needTiedSet_87, ↓tbX7_needTiedSet_90, ↓tbX7_needTiedSet_91, ↓tbX7_needTiedSet_94, ↓tbX7_needTiedSet_95, ↓tbX7_needTiedSet_98, ↓tbX7_needTiedSet_101, ↓tbX7_needTiedSet_102, ↓tbX7_needTiedSet_105, ↓tbX7_needTiedSet_106, ↓tbX7_needTiedSet_109, ↓tbX7_needTiedSet_110, hfu, xstep0, xJ1_hit, xJ1_go, xJ2_hit1, xJ2_hit2, xJ2_go, ↓xif_t, ↓xif_f, seval, ↓xca_eq, ↓xre_l, ↓xre_r, xmask_t, xmask_f, xmask_nil, ↓xst_eq, xX_eq, eI_eq, eMc_eq, eMs_eq, eF_eq, eThr_eq, ↓xS1_mk, ↓xSI_mk, ↓xSR_mk, ↓xLI_0, ↓xLI_s, ↓xLR_0, ↓xLR_s, vRef_ref, vRef_null, vRef_rf, cat_int, cat_ref, cat_null, cat_rf, rf_some, rf_none, rf_null, rf_eq, rf_ref, ref_rf, ref_null, ref_ref, xOk_0, xOk_1, xOk_2r, xOk_2n, xOk_2f, vOpt_rf, vOpt_ref, vOpt_null, List.set_cons_zero, List.set_cons_succ, List.take_succ_cons, List.take_zero, List.drop_succ_cons, List.drop_zero, List.reverse_cons, List.reverse_nil, List.nil_append, List.cons_append, List.append_nil, List.length_cons, List.length_nil, List.map_cons, List.map_nil, List.sum_cons, List.sum_nil, Option.toList_some, Option.toList_none, xRecv_mk, true_and, and_true, true_implies, Nat.reduceAdd, Nat.reduceLeDiff, Nat.zero_le, Nat.le_refl, Nat.add_zero, Nat.zero_add, reduceIte, not_true_eq_false, not_false_eq_true, false_implies, and_self, implies_true, eq_self, Nat.reduceEqDiff, List.cons.injEq, xsn_1, xsn_2, false_and, and_false, or_false, false_or, or_true, true_or, xsn_3, xsn_4, ↓spwJ6_bitCount_0f7a4, spcJ6_bitCount_0f7a4, ↓spwX7_needArgument, spcX7_needArgument, ↓spwJx4a65c_init_da8c8, spcJx4a65c_init_da8c8, ↓spwJx4a65c_size_8abf5, spcJx4a65c_size_8abf5, ↓spwJx4a65c_get_915e3, spcJx4a65c_get_915e3, ↓spwX0_bit, spcX0_bit, ↓spwX0_isTiedAt, spcX0_isTiedAt, ↓spwJx4a65c_add_9ea2d, spcJx4a65c_add_9ea2d, x1, x2, r1, r2, r3, x6, x7, x8, e0, pos_nI (show j < 1000 by omega), e2, ix_nI (show j < 1000 by omega), c1, nI1, sf, hI]
            try simp only [xif_e]
            repeat' (first | rfl | omega | apply And.intro)
          · by_cases c2 : cFi S (cRf S b 102) 500 = -1 ∧ cFi S (cRf S b 102) 501 = p
            · have nb : cChB S g p s j := by rw [hB]; exact ⟨c1, c2⟩
              have st := st nb
              simp only [↓callX7_needTiedSet_0, ↓callX7_needTiedSet_1, ↓callX7_needTiedSet_2, ↓callX7_needTiedSet_3, ↓callX7_needTiedSet_4, ↓callX7_needTiedSet_5, ↓callX7_needTiedSet_6, ↓callX7_needTiedSet_7, ↓cg_8_2, cisa, ↓cnew, kb_6, kc_6, ki_0, ki_1, ↓vm_aload, ↓vm_aload_n, ↓vm_areturn, ↓vm_astore, ↓vm_astore_n, ↓vm_bipush, ↓vm_checkcast, ↓vm_dup, ↓vm_getfield, ↓vm_goto, ↓vm_iand, ↓vm_iconst, ↓vm_ifCond_eq, ↓vm_ifCond_lt, ↓vm_if_icmp_ge, ↓vm_if_icmp_gt, ↓vm_if_icmp_ne, ↓vm_iinc, ↓vm_iload, ↓vm_iload_n, ↓vm_invokespecial, ↓vm_invokestatic, ↓vm_invokevirtual, ↓vm_istore, ↓vm_newO, ↓vm_pop, ↓xc_1, ↓xc_2, ↓tbX7_needTiedSet_0, ↓tbX7_needTiedSet_1, ↓tbX7_needTiedSet_4, ↓tbX7_needTiedSet_5, ↓tbX7_needTiedSet_8, ↓tbX7_needTiedSet_10, ↓tbX7_needTiedSet_13, ↓tbX7_needTiedSet_14, ↓tbX7_needTiedSet_17, ↓tbX7_needTiedSet_18, ↓tbX7_needTiedSet_21, ↓tbX7_needTiedSet_24, ↓tbX7_needTiedSet_25, ↓tbX7_needTiedSet_28, ↓tbX7_needTiedSet_29, ↓tbX7_needTiedSet_30, ↓tbX7_needTiedSet_32, ↓tbX7_needTiedSet_34, ↓tbX7_needTiedSet_35, ↓tbX7_needTiedSet_38, ↓tbX7_needTiedSet_41, ↓tbX7_needTiedSet_44, ↓tbX7_needTiedSet_45, ↓tbX7_needTiedSet_48, ↓tbX7_needTiedSet_50, ↓tbX7_needTiedSet_53, ↓tbX7_needTiedSet_56, ↓tbX7_needTiedSet_58, ↓tbX7_needTiedSet_59, ↓tbX7_needTiedSet_61, ↓tbX7_needTiedSet_64, ↓tbX7_needTiedSet_65, ↓tbX7_needTiedSet_68, ↓tbX7_needTiedSet_70, ↓tbX7_needTiedSet_71, ↓tbX7_needTiedSet_74, ↓tbX7_needTiedSet_77, ↓tbX7_needTiedSet_78, ↓tbX7_needTiedSet_80, ↓tbX7_needTiedSet_83, ↓tbX7_needTiedSet_84, ↓tbX7_needTiedSet_87, ↓tbX7_needTiedSet_90, ↓tbX7_needTiedSet_91, ↓tbX7_needTiedSet_94, ↓tbX7_needTiedSet_95, ↓tbX7_needTiedSet_98, ↓tbX7_needTiedSet_101, ↓tbX7_needTiedSet_102, ↓tbX7_needTiedSet_105, ↓tbX7_needTiedSet_106, ↓tbX7_needTiedSet_109, ↓tbX7_needTiedSet_110, hfu, xstep0, xJ1_hit, xJ1_go, xJ2_hit1, xJ2_hit2, xJ2_go, ↓xif_t, ↓xif_f, seval, ↓xca_eq, ↓xre_l, ↓xre_r, xmask_t, xmask_f, xmask_nil, ↓xst_eq, xX_eq, eI_eq, eMc_eq, eMs_eq, eF_eq, eThr_eq, ↓xS1_mk, ↓xSI_mk, ↓xSR_mk, ↓xLI_0, ↓xLI_s, ↓xLR_0, ↓xLR_s, vRef_ref, vRef_null, vRef_rf, cat_int, cat_ref, cat_null, cat_rf, rf_some, rf_none, rf_null, rf_eq, rf_ref, ref_rf, ref_null, ref_ref, xOk_0, xOk_1, xOk_2r, xOk_2n, xOk_2f, vOpt_rf, vOpt_ref, vOpt_null, List.set_cons_zero, List.set_cons_succ, List.take_succ_cons, List.take_zero, List.drop_succ_cons, List.drop_zero, List.reverse_cons, List.reverse_nil, List.nil_append, List.cons_append, List.append_nil, List.length_cons, List.length_nil, List.map_cons, List.map_nil, List.sum_cons, List.sum_nil, Option.toList_some, Option.toList_none, xRecv_mk, true_and, and_true, true_implies, Nat.reduceAdd, Nat.reduceLeDiff, Nat.zero_le, Nat.le_refl, Nat.add_zero, Nat.zero_add, reduceIte, not_true_eq_false, not_false_eq_true, false_implies, and_self, implies_true, eq_self, Nat.reduceEqDiff, List.cons.injEq, xsn_1, xsn_2, false_and, and_false, or_false, false_or, or_true, true_or, xsn_3, xsn_4, ↓spwJ6_bitCount_0f7a4, spcJ6_bitCount_0f7a4, ↓spwX7_needArgument, spcX7_needArgument, ↓spwJx4a65c_init_da8c8, spcJx4a65c_init_da8c8, ↓spwJx4a65c_size_8abf5, spcJx4a65c_size_8abf5, ↓spwJx4a65c_get_915e3, spcJx4a65c_get_915e3, ↓spwX0_bit, spcX0_bit, ↓spwX0_isTiedAt, spcX0_isTiedAt, ↓spwJx4a65c_add_9ea2d, spcJx4a65c_add_9ea2d, x1, x2, r1, r2, r3, x6, x7, x8, x9, x10, x11, x12, e0, pos_nI (show j < 1000 by omega), e2, ix_nI (show j < 1000 by omega), c1, c2, nI1, st, hcq, hnq, kd]
              try simp only [xif_e]
              have b1 : ¬ bi True = 0 := by decide
              have ll : (w ++ [b]).length = w.length + 1 := by rw [List.length_append]; rfl
              rw [ll]
              refine ⟨by omega, by omega, by omega, by omega, by omega, by omega, by omega, by omega, fun z => absurd z b1, fun _ => ⟨hcq.1, by omega, by omega, by omega, fun S2 hA => ⟨had S2 hA, by omega, by omega⟩⟩⟩
            · have nb : ¬ cChB S g p s j := by rw [hB]; exact fun z => c2 z.2
              have sf := sf nb
              simp only [↓callX7_needTiedSet_0, ↓callX7_needTiedSet_1, ↓callX7_needTiedSet_2, ↓callX7_needTiedSet_3, ↓callX7_needTiedSet_4, ↓callX7_needTiedSet_5, ↓callX7_needTiedSet_6, ↓callX7_needTiedSet_7, ↓cg_8_2, cisa, ↓cnew, kb_6, kc_6, ki_0, ki_1, ↓vm_aload, ↓vm_aload_n, ↓vm_areturn, ↓vm_astore, ↓vm_astore_n, ↓vm_bipush, ↓vm_checkcast, ↓vm_dup, ↓vm_getfield, ↓vm_goto, ↓vm_iand, ↓vm_iconst, ↓vm_ifCond_eq, ↓vm_ifCond_lt, ↓vm_if_icmp_ge, ↓vm_if_icmp_gt, ↓vm_if_icmp_ne, ↓vm_iinc, ↓vm_iload, ↓vm_iload_n, ↓vm_invokespecial, ↓vm_invokestatic, ↓vm_invokevirtual, ↓vm_istore, ↓vm_newO, ↓vm_pop, ↓xc_1, ↓xc_2, ↓tbX7_needTiedSet_0, ↓tbX7_needTiedSet_1, ↓tbX7_needTiedSet_4, ↓tbX7_needTiedSet_5, ↓tbX7_needTiedSet_8, ↓tbX7_needTiedSet_10, ↓tbX7_needTiedSet_13, ↓tbX7_needTiedSet_14, ↓tbX7_needTiedSet_17, ↓tbX7_needTiedSet_18, ↓tbX7_needTiedSet_21, ↓tbX7_needTiedSet_24, ↓tbX7_needTiedSet_25, ↓tbX7_needTiedSet_28, ↓tbX7_needTiedSet_29, ↓tbX7_needTiedSet_30, ↓tbX7_needTiedSet_32, ↓tbX7_needTiedSet_34, ↓tbX7_needTiedSet_35, ↓tbX7_needTiedSet_38, ↓tbX7_needTiedSet_41, ↓tbX7_needTiedSet_44, ↓tbX7_needTiedSet_45, ↓tbX7_needTiedSet_48, ↓tbX7_needTiedSet_50, ↓tbX7_needTiedSet_53, ↓tbX7_needTiedSet_56, ↓tbX7_needTiedSet_58, ↓tbX7_needTiedSet_59, ↓tbX7_needTiedSet_61, ↓tbX7_needTiedSet_64, ↓tbX7_needTiedSet_65, ↓tbX7_needTiedSet_68, ↓tbX7_needTiedSet_70, ↓tbX7_needTiedSet_71, ↓tbX7_needTiedSet_74, ↓tbX7_needTiedSet_77, ↓tbX7_needTiedSet_78, ↓tbX7_needTiedSet_80, ↓tbX7_needTiedSet_83, ↓tbX7_needTiedSet_84, ↓tbX7_needTiedSet_87, ↓tbX7_needTiedSet_90, ↓tbX7_needTiedSet_91, ↓tbX7_needTiedSet_94, ↓tbX7_needTiedSet_95, ↓tbX7_needTiedSet_98, ↓tbX7_needTiedSet_101, ↓tbX7_needTiedSet_102, ↓tbX7_needTiedSet_105, ↓tbX7_needTiedSet_106, ↓tbX7_needTiedSet_109, ↓tbX7_needTiedSet_110, hfu, xstep0, xJ1_hit, xJ1_go, xJ2_hit1, xJ2_hit2, xJ2_go, ↓xif_t, ↓xif_f, seval, ↓xca_eq, ↓xre_l, ↓xre_r, xmask_t, xmask_f, xmask_nil, ↓xst_eq, xX_eq, eI_eq, eMc_eq, eMs_eq, eF_eq, eThr_eq, ↓xS1_mk, ↓xSI_mk, ↓xSR_mk, ↓xLI_0, ↓xLI_s, ↓xLR_0, ↓xLR_s, vRef_ref, vRef_null, vRef_rf, cat_int, cat_ref, cat_null, cat_rf, rf_some, rf_none, rf_null, rf_eq, rf_ref, ref_rf, ref_null, ref_ref, xOk_0, xOk_1, xOk_2r, xOk_2n, xOk_2f, vOpt_rf, vOpt_ref, vOpt_null, List.set_cons_zero, List.set_cons_succ, List.take_succ_cons, List.take_zero, List.drop_succ_cons, List.drop_zero, List.reverse_cons, List.reverse_nil, List.nil_append, List.cons_append, List.append_nil, List.length_cons, List.length_nil, List.map_cons, List.map_nil, List.sum_cons, List.sum_nil, Option.toList_some, Option.toList_none, xRecv_mk, true_and, and_true, true_implies, Nat.reduceAdd, Nat.reduceLeDiff, Nat.zero_le, Nat.le_refl, Nat.add_zero, Nat.zero_add, reduceIte, not_true_eq_false, not_false_eq_true, false_implies, and_self, implies_true, eq_self, Nat.reduceEqDiff, List.cons.injEq, xsn_1, xsn_2, false_and, and_false, or_false, false_or, or_true, true_or, xsn_3, xsn_4, ↓spwJ6_bitCount_0f7a4, spcJ6_bitCount_0f7a4, ↓spwX7_needArgument, spcX7_needArgument, ↓spwJx4a65c_init_da8c8, spcJx4a65c_init_da8c8, ↓spwJx4a65c_size_8abf5, spcJx4a65c_size_8abf5, ↓spwJx4a65c_get_915e3, spcJx4a65c_get_915e3, ↓spwX0_bit, spcX0_bit, ↓spwX0_isTiedAt, spcX0_isTiedAt, ↓spwJx4a65c_add_9ea2d, spcJx4a65c_add_9ea2d, x1, x2, r1, r2, r3, x6, x7, x8, x9, x10, x11, x12, e0, pos_nI (show j < 1000 by omega), e2, ix_nI (show j < 1000 by omega), c1, c2, nI1, sf, hI]
              try simp only [xif_e]
              have b1 : bi False = 0 := rfl
              refine ⟨by omega, by omega, by omega, by omega, by omega, by omega, by omega, by omega, fun _ => trivial, fun z => absurd b1 z⟩) (by
          rintro lv st S1 cs ss ⟨rfl, rfl, hI, rfl, rfl⟩ fu hfu
          obtain ⟨r1, r2, r3, r4, r5⟩ := hI.rd (c := 0) h4
          have la := live_of h0 (by omega)
          have x1 : cK S1 a = 9 := (hI.1.1 a la).trans h0
          have x2 : cFr S1 a 802 = some g := (hI.1.2.2.1 a 802 (by omega) la).trans h1
          have hk := hok q S1 hI
          have hkq := hI.2.2.1.1.1
          have hnq : cFi S1 q 2 = nI (cCh S g p s (lCn S g)).length := by rw [hI.2.2.1.1.2.1, hI.2.2.2.1.1]
          have hle := cCh_le (S := S) (G := g) (p := p) (s := s) (lCn S g)
          generalize hw : cCh S g p s (lCn S g) = w at *
          by_cases c3 : nI w.length = cBc s
          · simp only [↓callX7_needTiedSet_0, ↓callX7_needTiedSet_1, ↓callX7_needTiedSet_2, ↓callX7_needTiedSet_3, ↓callX7_needTiedSet_4, ↓callX7_needTiedSet_5, ↓callX7_needTiedSet_6, ↓callX7_needTiedSet_7, ↓cg_8_2, cisa, ↓cnew, kb_6, kc_6, ki_0, ki_1, ↓vm_aload, ↓vm_aload_n, ↓vm_areturn, ↓vm_astore, ↓vm_astore_n, ↓vm_bipush, ↓vm_checkcast, ↓vm_dup, ↓vm_getfield, ↓vm_goto, ↓vm_iand, ↓vm_iconst, ↓vm_ifCond_eq, ↓vm_ifCond_lt, ↓vm_if_icmp_ge, ↓vm_if_icmp_gt, ↓vm_if_icmp_ne, ↓vm_iinc, ↓vm_iload, ↓vm_iload_n, ↓vm_invokespecial, ↓vm_invokestatic, ↓vm_invokevirtual, ↓vm_istore, ↓vm_newO, ↓vm_pop, ↓xc_1, ↓xc_2, ↓tbX7_needTiedSet_0, ↓tbX7_needTiedSet_1, ↓tbX7_needTiedSet_4, ↓tbX7_needTiedSet_5, ↓tbX7_needTiedSet_8, ↓tbX7_needTiedSet_10, ↓tbX7_needTiedSet_13, ↓tbX7_needTiedSet_14, ↓tbX7_needTiedSet_17, ↓tbX7_needTiedSet_18, ↓tbX7_needTiedSet_21, ↓tbX7_needTiedSet_24, ↓tbX7_needTiedSet_25, ↓tbX7_needTiedSet_28, ↓tbX7_needTiedSet_29, ↓tbX7_needTiedSet_30, ↓tbX7_needTiedSet_32, ↓tbX7_needTiedSet_34, ↓tbX7_needTiedSet_35, ↓tbX7_needTiedSet_38, ↓tbX7_needTiedSet_41, ↓tbX7_needTiedSet_44, ↓tbX7_needTiedSet_45, ↓tbX7_needTiedSet_48, ↓tbX7_needTiedSet_50, ↓tbX7_needTiedSet_53, ↓tbX7_needTiedSet_56, ↓tbX7_needTiedSet_58, ↓tbX7_needTiedSet_59, ↓tbX7_needTiedSet_61, ↓tbX7_needTiedSet_64, ↓tbX7_needTiedSet_65, ↓tbX7_needTiedSet_68, ↓tbX7_needTiedSet_70, ↓tbX7_needTiedSet_71, ↓tbX7_needTiedSet_74, ↓tbX7_needTiedSet_77, ↓tbX7_needTiedSet_78, ↓tbX7_needTiedSet_80, ↓tbX7_needTiedSet_83, ↓tbX7_needTiedSet_84, ↓tbX7_needTiedSet_87, ↓tbX7_needTiedSet_90, ↓tbX7_needTiedSet_91, ↓tbX7_needTiedSet_94, ↓tbX7_needTiedSet_95, ↓tbX7_needTiedSet_98, ↓tbX7_needTiedSet_101, ↓tbX7_needTiedSet_102, ↓tbX7_needTiedSet_105, ↓tbX7_needTiedSet_106, ↓tbX7_needTiedSet_109, ↓tbX7_needTiedSet_110, hfu, xstep0, xJ1_hit, xJ1_go, xJ2_hit1, xJ2_hit2, xJ2_go, ↓xif_t, ↓xif_f, seval, ↓xca_eq, ↓xre_l, ↓xre_r, xmask_t, xmask_f, xmask_nil, ↓xst_eq, xX_eq, eI_eq, eMc_eq, eMs_eq, eF_eq, eThr_eq, ↓xS1_mk, ↓xSI_mk, ↓xSR_mk, ↓xLI_0, ↓xLI_s, ↓xLR_0, ↓xLR_s, vRef_ref, vRef_null, vRef_rf, cat_int, cat_ref, cat_null, cat_rf, rf_some, rf_none, rf_null, rf_eq, rf_ref, ref_rf, ref_null, ref_ref, xOk_0, xOk_1, xOk_2r, xOk_2n, xOk_2f, vOpt_rf, vOpt_ref, vOpt_null, List.set_cons_zero, List.set_cons_succ, List.take_succ_cons, List.take_zero, List.drop_succ_cons, List.drop_zero, List.reverse_cons, List.reverse_nil, List.nil_append, List.cons_append, List.append_nil, List.length_cons, List.length_nil, List.map_cons, List.map_nil, List.sum_cons, List.sum_nil, Option.toList_some, Option.toList_none, xRecv_mk, true_and, and_true, true_implies, Nat.reduceAdd, Nat.reduceLeDiff, Nat.zero_le, Nat.le_refl, Nat.add_zero, Nat.zero_add, reduceIte, not_true_eq_false, not_false_eq_true, false_implies, and_self, implies_true, eq_self, Nat.reduceEqDiff, List.cons.injEq, xsn_1, xsn_2, false_and, and_false, or_false, false_or, or_true, true_or, xsn_3, xsn_4, ↓spwJ6_bitCount_0f7a4, spcJ6_bitCount_0f7a4, ↓spwX7_needArgument, spcX7_needArgument, ↓spwJx4a65c_init_da8c8, spcJx4a65c_init_da8c8, ↓spwJx4a65c_size_8abf5, spcJx4a65c_size_8abf5, ↓spwJx4a65c_get_915e3, spcJx4a65c_get_915e3, ↓spwX0_bit, spcX0_bit, ↓spwX0_isTiedAt, spcX0_isTiedAt, ↓spwJx4a65c_add_9ea2d, spcJx4a65c_add_9ea2d, x1, x2, r1, r3, le_nI_self, hkq, hnq, c3]
            try simp only [xif_e]
            have hk2 := hk.2 c3
            refine ⟨by omega, by omega, by omega, by omega, by omega, by omega, by omega, by omega, by omega, by omega, hk2⟩
          · simp only [↓callX7_needTiedSet_0, ↓callX7_needTiedSet_1, ↓callX7_needTiedSet_2, ↓callX7_needTiedSet_3, ↓callX7_needTiedSet_4, ↓callX7_needTiedSet_5, ↓callX7_needTiedSet_6, ↓callX7_needTiedSet_7, ↓cg_8_2, cisa, ↓cnew, kb_6, kc_6, ki_0, ki_1, ↓vm_aload, ↓vm_aload_n, ↓vm_areturn, ↓vm_astore, ↓vm_astore_n, ↓vm_bipush, ↓vm_checkcast, ↓vm_dup, ↓vm_getfield, ↓vm_goto, ↓vm_iand, ↓vm_iconst, ↓vm_ifCond_eq, ↓vm_ifCond_lt, ↓vm_if_icmp_ge, ↓vm_if_icmp_gt, ↓vm_if_icmp_ne, ↓vm_iinc, ↓vm_iload, ↓vm_iload_n, ↓vm_invokespecial, ↓vm_invokestatic, ↓vm_invokevirtual, ↓vm_istore, ↓vm_newO, ↓vm_pop, ↓xc_1, ↓xc_2, ↓tbX7_needTiedSet_0, ↓tbX7_needTiedSet_1, ↓tbX7_needTiedSet_4, ↓tbX7_needTiedSet_5, ↓tbX7_needTiedSet_8, ↓tbX7_needTiedSet_10, ↓tbX7_needTiedSet_13, ↓tbX7_needTiedSet_14, ↓tbX7_needTiedSet_17, ↓tbX7_needTiedSet_18, ↓tbX7_needTiedSet_21, ↓tbX7_needTiedSet_24, ↓tbX7_needTiedSet_25, ↓tbX7_needTiedSet_28, ↓tbX7_needTiedSet_29, ↓tbX7_needTiedSet_30, ↓tbX7_needTiedSet_32, ↓tbX7_needTiedSet_34, ↓tbX7_needTiedSet_35, ↓tbX7_needTiedSet_38, ↓tbX7_needTiedSet_41, ↓tbX7_needTiedSet_44, ↓tbX7_needTiedSet_45, ↓tbX7_needTiedSet_48, ↓tbX7_needTiedSet_50, ↓tbX7_needTiedSet_53, ↓tbX7_needTiedSet_56, ↓tbX7_needTiedSet_58, ↓tbX7_needTiedSet_59, ↓tbX7_needTiedSet_61, ↓tbX7_needTiedSet_64, ↓tbX7_needTiedSet_65, ↓tbX7_needTiedSet_68, ↓tbX7_needTiedSet_70, ↓tbX7_needTiedSet_71, ↓tbX7_needTiedSet_74, ↓tbX7_needTiedSet_77, ↓tbX7_needTiedSet_78, ↓tbX7_needTiedSet_80, ↓tbX7_needTiedSet_83, ↓tbX7_needTiedSet_84, ↓tbX7_needTiedSet_87, ↓tbX7_needTiedSet_90, ↓tbX7_needTiedSet_91, ↓tbX7_needTiedSet_94, ↓tbX7_needTiedSet_95, ↓tbX7_needTiedSet_98, ↓tbX7_needTiedSet_101, ↓tbX7_needTiedSet_102, ↓tbX7_needTiedSet_105, ↓tbX7_needTiedSet_106, ↓tbX7_needTiedSet_109, ↓tbX7_needTiedSet_110, hfu, xstep0, xJ1_hit, xJ1_go, xJ2_hit1, xJ2_hit2, xJ2_go, ↓xif_t, ↓xif_f, seval, ↓xca_eq, ↓xre_l, ↓xre_r, xmask_t, xmask_f, xmask_nil, ↓xst_eq, xX_eq, eI_eq, eMc_eq, eMs_eq, eF_eq, eThr_eq, ↓xS1_mk, ↓xSI_mk, ↓xSR_mk, ↓xLI_0, ↓xLI_s, ↓xLR_0, ↓xLR_s, vRef_ref, vRef_null, vRef_rf, cat_int, cat_ref, cat_null, cat_rf, rf_some, rf_none, rf_null, rf_eq, rf_ref, ref_rf, ref_null, ref_ref, xOk_0, xOk_1, xOk_2r, xOk_2n, xOk_2f, vOpt_rf, vOpt_ref, vOpt_null, List.set_cons_zero, List.set_cons_succ, List.take_succ_cons, List.take_zero, List.drop_succ_cons, List.drop_zero, List.reverse_cons, List.reverse_nil, List.nil_append, List.cons_append, List.append_nil, List.length_cons, List.length_nil, List.map_cons, List.map_nil, List.sum_cons, List.sum_nil, Option.toList_some, Option.toList_none, xRecv_mk, true_and, and_true, true_implies, Nat.reduceAdd, Nat.reduceLeDiff, Nat.zero_le, Nat.le_refl, Nat.add_zero, Nat.zero_add, reduceIte, not_true_eq_false, not_false_eq_true, false_implies, and_self, implies_true, eq_self, Nat.reduceEqDiff, List.cons.injEq, xsn_1, xsn_2, false_and, and_false, or_false, false_or, or_true, true_or, xsn_3, xsn_4, ↓spwJ6_bitCount_0f7a4, spcJ6_bitCount_0f7a4, ↓spwX7_needArgument, spcX7_needArgument, ↓spwJx4a65c_init_da8c8, spcJx4a65c_init_da8c8, ↓spwJx4a65c_size_8abf5, spcJx4a65c_size_8abf5, ↓spwJx4a65c_get_915e3, spcJx4a65c_get_915e3, ↓spwX0_bit, spcX0_bit, ↓spwX0_isTiedAt, spcX0_isTiedAt, ↓spwJx4a65c_add_9ea2d, spcJx4a65c_add_9ea2d, x1, x2, r1, r3, le_nI_self, hkq, hnq, c3]
            try simp only [xif_e]
            have hk2 := hk.1 c3
            refine ⟨by omega, by omega, by omega, by omega, by omega, by omega, by omega, by omega, hk2⟩)
      rintro lv st S1 cs ss ⟨rfl, rfl, rfl, rfl, rfl⟩
      exact lp 0 (Nat.zero_le _) _ _ _ _ _ ⟨rfl, rfl, tI_new hq, rfl, rfl⟩
    refine xgo hG (head := 32) (mb := [true, true, true, true, true, false]) (P := fun lv st S1 cs ss => ∃ q, cDead S q ∧ lv = [some (.ref a), some (.int p), some (.int s), some (.ref q), some (.int 0), none] ∧ st = [] ∧ cSetR (cSetI (cNewO S q 0) q 0 0) q 1 (some (wE W9)) = S1 ∧ cs = 2 ∧ ss = 9) (fun lv st S1 cs ss hP => by obtain ⟨q, hq, hP⟩ := hP; exact loop q hq lv st S1 cs ss hP) (pc := 0) (fun fu hfu => ?_)
    have d1 : ¬ s < 0 := fun z => by
      have z1 := Int32.lt_iff_toInt_lt.mp z
      have z2 := Int32.le_iff_toInt_le.mp c0.1
      omega
    have d2 : ¬ 6 < cBc s := fun z => by
      have z1 := Int32.lt_iff_toInt_lt.mp z
      have z2 := Int32.le_iff_toInt_le.mp c0.2
      omega
    simp only [↓callX7_needTiedSet_0, ↓callX7_needTiedSet_1, ↓callX7_needTiedSet_2, ↓callX7_needTiedSet_3, ↓callX7_needTiedSet_4, ↓callX7_needTiedSet_5, ↓callX7_needTiedSet_6, ↓callX7_needTiedSet_7, ↓cg_8_2, cisa, ↓cnew, kb_6, kc_6, ki_0, ki_1, ↓vm_aload, ↓vm_aload_n, ↓vm_areturn, ↓vm_astore, ↓vm_astore_n, ↓vm_bipush, ↓vm_checkcast, ↓vm_dup, ↓vm_getfield, ↓vm_goto, ↓vm_iand, ↓vm_iconst, ↓vm_ifCond_eq, ↓vm_ifCond_lt, ↓vm_if_icmp_ge, ↓vm_if_icmp_gt, ↓vm_if_icmp_ne, ↓vm_iinc, ↓vm_iload, ↓vm_iload_n, ↓vm_invokespecial, ↓vm_invokestatic, ↓vm_invokevirtual, ↓vm_istore, ↓vm_newO, ↓vm_pop, ↓xc_1, ↓xc_2, ↓tbX7_needTiedSet_0, ↓tbX7_needTiedSet_1, ↓tbX7_needTiedSet_4, ↓tbX7_needTiedSet_5, ↓tbX7_needTiedSet_8, ↓tbX7_needTiedSet_10, ↓tbX7_needTiedSet_13, ↓tbX7_needTiedSet_14, ↓tbX7_needTiedSet_17, ↓tbX7_needTiedSet_18, ↓tbX7_needTiedSet_21, ↓tbX7_needTiedSet_24, ↓tbX7_needTiedSet_25, ↓tbX7_needTiedSet_28, ↓tbX7_needTiedSet_29, ↓tbX7_needTiedSet_30, ↓tbX7_needTiedSet_32, ↓tbX7_needTiedSet_34, ↓tbX7_needTiedSet_35, ↓tbX7_needTiedSet_38, ↓tbX7_needTiedSet_41, ↓tbX7_needTiedSet_44, ↓tbX7_needTiedSet_45, ↓tbX7_needTiedSet_48, ↓tbX7_needTiedSet_50, ↓tbX7_needTiedSet_53, ↓tbX7_needTiedSet_56, ↓tbX7_needTiedSet_58, ↓tbX7_needTiedSet_59, ↓tbX7_needTiedSet_61, ↓tbX7_needTiedSet_64, ↓tbX7_needTiedSet_65, ↓tbX7_needTiedSet_68, ↓tbX7_needTiedSet_70, ↓tbX7_needTiedSet_71, ↓tbX7_needTiedSet_74, ↓tbX7_needTiedSet_77, ↓tbX7_needTiedSet_78, ↓tbX7_needTiedSet_80, ↓tbX7_needTiedSet_83, ↓tbX7_needTiedSet_84, ↓tbX7_needTiedSet_87, ↓tbX7_needTiedSet_90, ↓tbX7_needTiedSet_91, ↓tbX7_needTiedSet_94, ↓tbX7_needTiedSet_95, ↓tbX7_needTiedSet_98, ↓tbX7_needTiedSet_101, ↓tbX7_needTiedSet_102, ↓tbX7_needTiedSet_105, ↓tbX7_needTiedSet_106, ↓tbX7_needTiedSet_109, ↓tbX7_needTiedSet_110, hfu, xstep0, xJ1_hit, xJ1_go, xJ2_hit1, xJ2_hit2, xJ2_go, ↓xif_t, ↓xif_f, seval, ↓xca_eq, ↓xre_l, ↓xre_r, xmask_t, xmask_f, xmask_nil, ↓xst_eq, xX_eq, eI_eq, eMc_eq, eMs_eq, eF_eq, eThr_eq, ↓xS1_mk, ↓xSI_mk, ↓xSR_mk, ↓xLI_0, ↓xLI_s, ↓xLR_0, ↓xLR_s, vRef_ref, vRef_null, vRef_rf, cat_int, cat_ref, cat_null, cat_rf, rf_some, rf_none, rf_null, rf_eq, rf_ref, ref_rf, ref_null, ref_ref, xOk_0, xOk_1, xOk_2r, xOk_2n, xOk_2f, vOpt_rf, vOpt_ref, vOpt_null, List.set_cons_zero, List.set_cons_succ, List.take_succ_cons, List.take_zero, List.drop_succ_cons, List.drop_zero, List.reverse_cons, List.reverse_nil, List.nil_append, List.cons_append, List.append_nil, List.length_cons, List.length_nil, List.map_cons, List.map_nil, List.sum_cons, List.sum_nil, Option.toList_some, Option.toList_none, xRecv_mk, true_and, and_true, true_implies, Nat.reduceAdd, Nat.reduceLeDiff, Nat.zero_le, Nat.le_refl, Nat.add_zero, Nat.zero_add, reduceIte, not_true_eq_false, not_false_eq_true, false_implies, and_self, implies_true, eq_self, Nat.reduceEqDiff, List.cons.injEq, xsn_1, xsn_2, false_and, and_false, or_false, false_or, or_true, true_or, xsn_3, xsn_4, ↓spwJ6_bitCount_0f7a4, spcJ6_bitCount_0f7a4, ↓spwX7_needArgument, spcX7_needArgument, ↓spwJx4a65c_init_da8c8, spcJx4a65c_init_da8c8, ↓spwJx4a65c_size_8abf5, spcJx4a65c_size_8abf5, ↓spwJx4a65c_get_915e3, spcJx4a65c_get_915e3, ↓spwX0_bit, spcX0_bit, ↓spwX0_isTiedAt, spcX0_isTiedAt, ↓spwJx4a65c_add_9ea2d, spcJx4a65c_add_9ea2d, d1, d2, h0, cK_newO, cK_setI]
    try simp only [xif_e]
    intro q hq
    first | exact ⟨q, hq, rfl⟩ | exact ⟨q, hq, rfl, rfl⟩ | exact ⟨q, hq, rfl, rfl, rfl⟩ | exact ⟨q, hq, rfl, rfl, rfl, rfl, rfl⟩ | trace_state
  · have hbad := hbad c0
    refine xgo hG (mb := []) (head := 32) (P := fun _ _ _ _ _ => False) (fun _ _ _ _ _ q => q.elim) (pc := 0) (fun fu hfu => ?_)
    have d1 : ¬ s < 0 → 0 ≤ s := fun z => by
      rw [Int32.le_iff_toInt_le]
      rw [Int32.lt_iff_toInt_lt] at z
      omega
    have d2 : ¬ 6 < cBc s → cBc s ≤ 6 := fun z => by
      rw [Int32.le_iff_toInt_le]
      rw [Int32.lt_iff_toInt_lt] at z
      omega
    simp only [↓callX7_needTiedSet_0, ↓callX7_needTiedSet_1, ↓callX7_needTiedSet_2, ↓callX7_needTiedSet_3, ↓callX7_needTiedSet_4, ↓callX7_needTiedSet_5, ↓callX7_needTiedSet_6, ↓callX7_needTiedSet_7, ↓cg_8_2, cisa, ↓cnew, kb_6, kc_6, ki_0, ki_1, ↓vm_aload, ↓vm_aload_n, ↓vm_areturn, ↓vm_astore, ↓vm_astore_n, ↓vm_bipush, ↓vm_checkcast, ↓vm_dup, ↓vm_getfield, ↓vm_goto, ↓vm_iand, ↓vm_iconst, ↓vm_ifCond_eq, ↓vm_ifCond_lt, ↓vm_if_icmp_ge, ↓vm_if_icmp_gt, ↓vm_if_icmp_ne, ↓vm_iinc, ↓vm_iload, ↓vm_iload_n, ↓vm_invokespecial, ↓vm_invokestatic, ↓vm_invokevirtual, ↓vm_istore, ↓vm_newO, ↓vm_pop, ↓xc_1, ↓xc_2, ↓tbX7_needTiedSet_0, ↓tbX7_needTiedSet_1, ↓tbX7_needTiedSet_4, ↓tbX7_needTiedSet_5, ↓tbX7_needTiedSet_8, ↓tbX7_needTiedSet_10, ↓tbX7_needTiedSet_13, ↓tbX7_needTiedSet_14, ↓tbX7_needTiedSet_17, ↓tbX7_needTiedSet_18, ↓tbX7_needTiedSet_21, ↓tbX7_needTiedSet_24, ↓tbX7_needTiedSet_25, ↓tbX7_needTiedSet_28, ↓tbX7_needTiedSet_29, ↓tbX7_needTiedSet_30, ↓tbX7_needTiedSet_32, ↓tbX7_needTiedSet_34, ↓tbX7_needTiedSet_35, ↓tbX7_needTiedSet_38, ↓tbX7_needTiedSet_41, ↓tbX7_needTiedSet_44, ↓tbX7_needTiedSet_45, ↓tbX7_needTiedSet_48, ↓tbX7_needTiedSet_50, ↓tbX7_needTiedSet_53, ↓tbX7_needTiedSet_56, ↓tbX7_needTiedSet_58, ↓tbX7_needTiedSet_59, ↓tbX7_needTiedSet_61, ↓tbX7_needTiedSet_64, ↓tbX7_needTiedSet_65, ↓tbX7_needTiedSet_68, ↓tbX7_needTiedSet_70, ↓tbX7_needTiedSet_71, ↓tbX7_needTiedSet_74, ↓tbX7_needTiedSet_77, ↓tbX7_needTiedSet_78, ↓tbX7_needTiedSet_80, ↓tbX7_needTiedSet_83, ↓tbX7_needTiedSet_84, ↓tbX7_needTiedSet_87, ↓tbX7_needTiedSet_90, ↓tbX7_needTiedSet_91, ↓tbX7_needTiedSet_94, ↓tbX7_needTiedSet_95, ↓tbX7_needTiedSet_98, ↓tbX7_needTiedSet_101, ↓tbX7_needTiedSet_102, ↓tbX7_needTiedSet_105, ↓tbX7_needTiedSet_106, ↓tbX7_needTiedSet_109, ↓tbX7_needTiedSet_110, hfu, xstep0, xJ1_hit, xJ1_go, xJ2_hit1, xJ2_hit2, xJ2_go, ↓xif_t, ↓xif_f, seval, ↓xca_eq, ↓xre_l, ↓xre_r, xmask_t, xmask_f, xmask_nil, ↓xst_eq, xX_eq, eI_eq, eMc_eq, eMs_eq, eF_eq, eThr_eq, ↓xS1_mk, ↓xSI_mk, ↓xSR_mk, ↓xLI_0, ↓xLI_s, ↓xLR_0, ↓xLR_s, vRef_ref, vRef_null, vRef_rf, cat_int, cat_ref, cat_null, cat_rf, rf_some, rf_none, rf_null, rf_eq, rf_ref, ref_rf, ref_null, ref_ref, xOk_0, xOk_1, xOk_2r, xOk_2n, xOk_2f, vOpt_rf, vOpt_ref, vOpt_null, List.set_cons_zero, List.set_cons_succ, List.take_succ_cons, List.take_zero, List.drop_succ_cons, List.drop_zero, List.reverse_cons, List.reverse_nil, List.nil_append, List.cons_append, List.append_nil, List.length_cons, List.length_nil, List.map_cons, List.map_nil, List.sum_cons, List.sum_nil, Option.toList_some, Option.toList_none, xRecv_mk, true_and, and_true, true_implies, Nat.reduceAdd, Nat.reduceLeDiff, Nat.zero_le, Nat.le_refl, Nat.add_zero, Nat.zero_add, reduceIte, not_true_eq_false, not_false_eq_true, false_implies, and_self, implies_true, eq_self, Nat.reduceEqDiff, List.cons.injEq, xsn_1, xsn_2, false_and, and_false, or_false, false_or, or_true, true_or, xsn_3, xsn_4, ↓spwJ6_bitCount_0f7a4, spcJ6_bitCount_0f7a4, ↓spwX7_needArgument, spcX7_needArgument, ↓spwJx4a65c_init_da8c8, spcJx4a65c_init_da8c8, ↓spwJx4a65c_size_8abf5, spcJx4a65c_size_8abf5, ↓spwJx4a65c_get_915e3, spcJx4a65c_get_915e3, ↓spwX0_bit, spcX0_bit, ↓spwX0_isTiedAt, spcX0_isTiedAt, ↓spwJx4a65c_add_9ea2d, spcJx4a65c_add_9ea2d]
    try simp only [xif_e]
    exact ⟨fun _ => hbad, fun z => ⟨fun _ => hbad, fun z2 => absurd ⟨d1 z, d2 z2⟩ c0⟩⟩
