/-! The class: meetings. -/
def bAll (S : cS) (L : Nat) : Prop := lAll S L 3 ∧ ∀ k, k < lCn S L → bOk S (lG S L k)
abbrev cM1 (S : cS) (s b o : Nat) : Prop := cFi S o 207 = cFi S s 600 ∧ (¬ cFi S s 607 = 0 ∨ (¬ cFi S o 208 = bi (cFi S b 206 < cFi S b 210) ∧ cFi S s 606 < rMax 1 (rMin (cFi S (cRf S o 203) 504) (nI (rN S (cRf S o 203)))) + rMax 1 (rMin (cFi S (cRf S b 203) 504) (nI (rN S (cRf S b 203)))) ∧ cFi S b 212 &&& 1 <<< (cFi S o 200 &&& 31) = 0))
def cMt (S : cS) (L s b : Nat) : Nat → Bool
  | 0 => false
  | k + 1 => cMt S L s b k || decide (cFi S s 604 = 0 ∧ cM1 S s b (lG S L k))
theorem cMt_t {S : cS} {L s b k : Nat} (h : cFi S s 604 = 0 ∧ cM1 S s b (lG S L k)) : ∀ n, k < n → cMt S L s b n = true
  | 0, hk => by omega
  | n + 1, hk => by
    show (cMt S L s b n || decide (cFi S s 604 = 0 ∧ cM1 S s b (lG S L n))) = true
    by_cases e : k = n
    · subst e
      rw [decide_eq_true h]
      simp
    · rw [cMt_t h n (by omega)]
      rfl
theorem cMt_l {S : cS} {L s b : Nat} (h : ¬ cFi S s 604 = 0) : ∀ n, cMt S L s b n = false
  | 0 => rfl
  | n + 1 => by
    show (cMt S L s b n || decide (cFi S s 604 = 0 ∧ cM1 S s b (lG S L n))) = false
    rw [cMt_l h n, decide_eq_false (fun q => h q.1)]
    rfl

def tbX7_meetsIn : List (Nat × xHint) := [(0, .iconst 0, 0, 0, 0, []), (1, .istore_n 3, 3, 0, 0, []), (2, .iload_n 3, 3, 0, 0, []), (3, .aload_n 0, 0, 0, 0, []), (4, .getfield 25, 8, 4, 2, []), (7, .invokevirtual 108, 0, 1, 0, []), (10, .if_icmp .ge 121, 131, 0, 0, []), (13, .aload_n 1, 1, 0, 0, []), (14, .getfield 442, 6, 4, 1, []), (17, .ifCond .ne 114, 131, 0, 0, []), (20, .aload_n 0, 0, 0, 0, []), (21, .getfield 25, 8, 4, 2, []), (24, .iload_n 3, 3, 0, 0, []), (25, .invokevirtual 312, 1, 2, 0, []), (28, .checkcast 210, 2, 0, 0, []), (31, .astore 4, 4, 0, 0, []), (33, .aload 4, 4, 0, 0, []), (35, .getfield 332, 2, 7, 0, []), (38, .aload_n 1, 1, 0, 0, []), (39, .getfield 463, 6, 0, 0, []), (42, .if_icmp .eq 6, 48, 0, 0, []), (45, .goto 80, 125, 0, 0, []), (48, .aload 4, 4, 0, 0, []), (50, .getfield 492, 2, 8, 1, []), (53, .aload_n 2, 2, 0, 0, []), (54, .invokevirtual 456, 2, 1, 2, []), (57, .if_icmp .eq 7, 64, 0, 0, []), (60, .iconst 1, 0, 0, 0, []), (61, .goto 4, 65, 0, 0, []), (64, .iconst 0, 0, 0, 0, []), (65, .istore 5, 5, 0, 0, []), (67, .aload 4, 4, 0, 0, []), (69, .getfield 232, 2, 3, 2, []), (72, .invokevirtual 341, 3, 1, 5, []), (75, .aload_n 2, 2, 0, 0, []), (76, .getfield 232, 2, 3, 2, []), (79, .invokevirtual 341, 3, 1, 5, []), (82, .iadd, 0, 0, 0, []), (83, .aload_n 1, 1, 0, 0, []), (84, .getfield 495, 6, 6, 0, []), (87, .if_icmp .le 7, 94, 0, 0, []), (90, .iconst 1, 0, 0, 0, []), (91, .goto 4, 95, 0, 0, []), (94, .iconst 0, 0, 0, 0, []), (95, .istore 6, 6, 0, 0, []), (97, .aload_n 1, 1, 0, 0, []), (98, .getfield 482, 6, 7, 1, []), (101, .ifCond .ne 22, 123, 0, 0, []), (104, .iload 5, 5, 0, 0, []), (106, .ifCond .eq 19, 125, 0, 0, []), (109, .iload 6, 6, 0, 0, []), (111, .ifCond .eq 14, 125, 0, 0, []), (114, .aload_n 2, 2, 0, 0, []), (115, .aload 4, 4, 0, 0, []), (117, .invokevirtual 267, 4, 2, 2, []), (120, .ifCond .ne 5, 125, 0, 0, []), (123, .iconst 1, 0, 0, 0, []), (124, .ireturn, 1, 0, 0, []), (125, .iinc 3 1, 3, 0, 0, []), (128, .goto (-126), 2, 0, 0, []), (131, .iconst 0, 0, 0, 0, []), (132, .ireturn, 1, 0, 0, [])]
def clX7_meetsIn : List (Instr × Nat × Nat × Nat) := [(.invokevirtual 108, 0, 1, 0), (.invokevirtual 312, 1, 2, 0), (.invokevirtual 456, 2, 1, 2), (.invokevirtual 341, 3, 1, 5), (.invokevirtual 267, 4, 2, 2)]
def thX7_meetsIn : List (Nat × Nat) := []
theorem ckX7_meetsIn : tbX7_meetsIn.all (xRow RX7 cX7_meetsIn wsX7_meetsIn vwCl [2, 6, 8] clX7_meetsIn thX7_meetsIn 7 (yX7_meetsIn.name == "<init>") (some .boolean)) = true := xRow_q 0xac0382ffa7010384ac0405009a0b01b604192c0e00990615130099051516009ae201b42b0636030400a7040700a4ef01b42b605501b6e800b42c5501b6e800b404190536030400a70407009fc801b62cec01b404195000a706009fcf01b42b4c01b40419043ad200c03801b61d1900b42a72009aba01b42b7900a26c00b61900b42a1d3e03 133 (by decide +kernel) (by decide +kernel)
theorem usX7_meetsIn : xUse wsX7_meetsIn vwCl [2, 6, 8] = true := xUse_g rfl (lw_good lwl_X7_meetsIn lwl_X10 (by decide +kernel)) (xUse_g rfl (lw_good lwl_X7_meetsIn lwl_X50 (by decide +kernel)) (xUse_g rfl (lw_good lwl_X7_meetsIn lwl_X70 (by decide +kernel)) xUse_n))
theorem tbX7_meetsIn_0 {k : Instr → Nat → Nat → Nat → List Nat → Prop} : xse (xFind tbX7_meetsIn 0) k = k (.iconst 0) 0 0 0 [] := rfl
theorem tbX7_meetsIn_1 {k : Instr → Nat → Nat → Nat → List Nat → Prop} : xse (xFind tbX7_meetsIn 1) k = k (.istore_n 3) 3 0 0 [] := rfl
theorem tbX7_meetsIn_2 {k : Instr → Nat → Nat → Nat → List Nat → Prop} : xse (xFind tbX7_meetsIn 2) k = k (.iload_n 3) 3 0 0 [] := rfl
theorem tbX7_meetsIn_3 {k : Instr → Nat → Nat → Nat → List Nat → Prop} : xse (xFind tbX7_meetsIn 3) k = k (.aload_n 0) 0 0 0 [] := rfl
theorem tbX7_meetsIn_4 {k : Instr → Nat → Nat → Nat → List Nat → Prop} : xse (xFind tbX7_meetsIn 4) k = k (.getfield 25) 8 4 2 [] := rfl
theorem tbX7_meetsIn_7 {k : Instr → Nat → Nat → Nat → List Nat → Prop} : xse (xFind tbX7_meetsIn 7) k = k (.invokevirtual 108) 0 1 0 [] := rfl
theorem tbX7_meetsIn_10 {k : Instr → Nat → Nat → Nat → List Nat → Prop} : xse (xFind tbX7_meetsIn 10) k = k (.if_icmp .ge 121) 131 0 0 [] := rfl
theorem tbX7_meetsIn_13 {k : Instr → Nat → Nat → Nat → List Nat → Prop} : xse (xFind tbX7_meetsIn 13) k = k (.aload_n 1) 1 0 0 [] := rfl
theorem tbX7_meetsIn_14 {k : Instr → Nat → Nat → Nat → List Nat → Prop} : xse (xFind tbX7_meetsIn 14) k = k (.getfield 442) 6 4 1 [] := rfl
theorem tbX7_meetsIn_17 {k : Instr → Nat → Nat → Nat → List Nat → Prop} : xse (xFind tbX7_meetsIn 17) k = k (.ifCond .ne 114) 131 0 0 [] := rfl
theorem tbX7_meetsIn_20 {k : Instr → Nat → Nat → Nat → List Nat → Prop} : xse (xFind tbX7_meetsIn 20) k = k (.aload_n 0) 0 0 0 [] := rfl
theorem tbX7_meetsIn_21 {k : Instr → Nat → Nat → Nat → List Nat → Prop} : xse (xFind tbX7_meetsIn 21) k = k (.getfield 25) 8 4 2 [] := rfl
theorem tbX7_meetsIn_24 {k : Instr → Nat → Nat → Nat → List Nat → Prop} : xse (xFind tbX7_meetsIn 24) k = k (.iload_n 3) 3 0 0 [] := rfl
theorem tbX7_meetsIn_25 {k : Instr → Nat → Nat → Nat → List Nat → Prop} : xse (xFind tbX7_meetsIn 25) k = k (.invokevirtual 312) 1 2 0 [] := rfl
theorem tbX7_meetsIn_28 {k : Instr → Nat → Nat → Nat → List Nat → Prop} : xse (xFind tbX7_meetsIn 28) k = k (.checkcast 210) 2 0 0 [] := rfl
theorem tbX7_meetsIn_31 {k : Instr → Nat → Nat → Nat → List Nat → Prop} : xse (xFind tbX7_meetsIn 31) k = k (.astore 4) 4 0 0 [] := rfl
theorem tbX7_meetsIn_33 {k : Instr → Nat → Nat → Nat → List Nat → Prop} : xse (xFind tbX7_meetsIn 33) k = k (.aload 4) 4 0 0 [] := rfl
theorem tbX7_meetsIn_35 {k : Instr → Nat → Nat → Nat → List Nat → Prop} : xse (xFind tbX7_meetsIn 35) k = k (.getfield 332) 2 7 0 [] := rfl
theorem tbX7_meetsIn_38 {k : Instr → Nat → Nat → Nat → List Nat → Prop} : xse (xFind tbX7_meetsIn 38) k = k (.aload_n 1) 1 0 0 [] := rfl
theorem tbX7_meetsIn_39 {k : Instr → Nat → Nat → Nat → List Nat → Prop} : xse (xFind tbX7_meetsIn 39) k = k (.getfield 463) 6 0 0 [] := rfl
theorem tbX7_meetsIn_42 {k : Instr → Nat → Nat → Nat → List Nat → Prop} : xse (xFind tbX7_meetsIn 42) k = k (.if_icmp .eq 6) 48 0 0 [] := rfl
theorem tbX7_meetsIn_45 {k : Instr → Nat → Nat → Nat → List Nat → Prop} : xse (xFind tbX7_meetsIn 45) k = k (.goto 80) 125 0 0 [] := rfl
theorem tbX7_meetsIn_48 {k : Instr → Nat → Nat → Nat → List Nat → Prop} : xse (xFind tbX7_meetsIn 48) k = k (.aload 4) 4 0 0 [] := rfl
theorem tbX7_meetsIn_50 {k : Instr → Nat → Nat → Nat → List Nat → Prop} : xse (xFind tbX7_meetsIn 50) k = k (.getfield 492) 2 8 1 [] := rfl
theorem tbX7_meetsIn_53 {k : Instr → Nat → Nat → Nat → List Nat → Prop} : xse (xFind tbX7_meetsIn 53) k = k (.aload_n 2) 2 0 0 [] := rfl
theorem tbX7_meetsIn_54 {k : Instr → Nat → Nat → Nat → List Nat → Prop} : xse (xFind tbX7_meetsIn 54) k = k (.invokevirtual 456) 2 1 2 [] := rfl
theorem tbX7_meetsIn_57 {k : Instr → Nat → Nat → Nat → List Nat → Prop} : xse (xFind tbX7_meetsIn 57) k = k (.if_icmp .eq 7) 64 0 0 [] := rfl
theorem tbX7_meetsIn_60 {k : Instr → Nat → Nat → Nat → List Nat → Prop} : xse (xFind tbX7_meetsIn 60) k = k (.iconst 1) 0 0 0 [] := rfl
theorem tbX7_meetsIn_61 {k : Instr → Nat → Nat → Nat → List Nat → Prop} : xse (xFind tbX7_meetsIn 61) k = k (.goto 4) 65 0 0 [] := rfl
theorem tbX7_meetsIn_64 {k : Instr → Nat → Nat → Nat → List Nat → Prop} : xse (xFind tbX7_meetsIn 64) k = k (.iconst 0) 0 0 0 [] := rfl
theorem tbX7_meetsIn_65 {k : Instr → Nat → Nat → Nat → List Nat → Prop} : xse (xFind tbX7_meetsIn 65) k = k (.istore 5) 5 0 0 [] := rfl
theorem tbX7_meetsIn_67 {k : Instr → Nat → Nat → Nat → List Nat → Prop} : xse (xFind tbX7_meetsIn 67) k = k (.aload 4) 4 0 0 [] := rfl
theorem tbX7_meetsIn_69 {k : Instr → Nat → Nat → Nat → List Nat → Prop} : xse (xFind tbX7_meetsIn 69) k = k (.getfield 232) 2 3 2 [] := rfl
theorem tbX7_meetsIn_72 {k : Instr → Nat → Nat → Nat → List Nat → Prop} : xse (xFind tbX7_meetsIn 72) k = k (.invokevirtual 341) 3 1 5 [] := rfl
theorem tbX7_meetsIn_75 {k : Instr → Nat → Nat → Nat → List Nat → Prop} : xse (xFind tbX7_meetsIn 75) k = k (.aload_n 2) 2 0 0 [] := rfl
theorem tbX7_meetsIn_76 {k : Instr → Nat → Nat → Nat → List Nat → Prop} : xse (xFind tbX7_meetsIn 76) k = k (.getfield 232) 2 3 2 [] := rfl
theorem tbX7_meetsIn_79 {k : Instr → Nat → Nat → Nat → List Nat → Prop} : xse (xFind tbX7_meetsIn 79) k = k (.invokevirtual 341) 3 1 5 [] := rfl
theorem tbX7_meetsIn_82 {k : Instr → Nat → Nat → Nat → List Nat → Prop} : xse (xFind tbX7_meetsIn 82) k = k (.iadd) 0 0 0 [] := rfl
theorem tbX7_meetsIn_83 {k : Instr → Nat → Nat → Nat → List Nat → Prop} : xse (xFind tbX7_meetsIn 83) k = k (.aload_n 1) 1 0 0 [] := rfl
theorem tbX7_meetsIn_84 {k : Instr → Nat → Nat → Nat → List Nat → Prop} : xse (xFind tbX7_meetsIn 84) k = k (.getfield 495) 6 6 0 [] := rfl
theorem tbX7_meetsIn_87 {k : Instr → Nat → Nat → Nat → List Nat → Prop} : xse (xFind tbX7_meetsIn 87) k = k (.if_icmp .le 7) 94 0 0 [] := rfl
theorem tbX7_meetsIn_90 {k : Instr → Nat → Nat → Nat → List Nat → Prop} : xse (xFind tbX7_meetsIn 90) k = k (.iconst 1) 0 0 0 [] := rfl
theorem tbX7_meetsIn_91 {k : Instr → Nat → Nat → Nat → List Nat → Prop} : xse (xFind tbX7_meetsIn 91) k = k (.goto 4) 95 0 0 [] := rfl
theorem tbX7_meetsIn_94 {k : Instr → Nat → Nat → Nat → List Nat → Prop} : xse (xFind tbX7_meetsIn 94) k = k (.iconst 0) 0 0 0 [] := rfl
theorem tbX7_meetsIn_95 {k : Instr → Nat → Nat → Nat → List Nat → Prop} : xse (xFind tbX7_meetsIn 95) k = k (.istore 6) 6 0 0 [] := rfl
theorem tbX7_meetsIn_97 {k : Instr → Nat → Nat → Nat → List Nat → Prop} : xse (xFind tbX7_meetsIn 97) k = k (.aload_n 1) 1 0 0 [] := rfl
theorem tbX7_meetsIn_98 {k : Instr → Nat → Nat → Nat → List Nat → Prop} : xse (xFind tbX7_meetsIn 98) k = k (.getfield 482) 6 7 1 [] := rfl
theorem tbX7_meetsIn_101 {k : Instr → Nat → Nat → Nat → List Nat → Prop} : xse (xFind tbX7_meetsIn 101) k = k (.ifCond .ne 22) 123 0 0 [] := rfl
theorem tbX7_meetsIn_104 {k : Instr → Nat → Nat → Nat → List Nat → Prop} : xse (xFind tbX7_meetsIn 104) k = k (.iload 5) 5 0 0 [] := rfl
theorem tbX7_meetsIn_106 {k : Instr → Nat → Nat → Nat → List Nat → Prop} : xse (xFind tbX7_meetsIn 106) k = k (.ifCond .eq 19) 125 0 0 [] := rfl
theorem tbX7_meetsIn_109 {k : Instr → Nat → Nat → Nat → List Nat → Prop} : xse (xFind tbX7_meetsIn 109) k = k (.iload 6) 6 0 0 [] := rfl
theorem tbX7_meetsIn_111 {k : Instr → Nat → Nat → Nat → List Nat → Prop} : xse (xFind tbX7_meetsIn 111) k = k (.ifCond .eq 14) 125 0 0 [] := rfl
theorem tbX7_meetsIn_114 {k : Instr → Nat → Nat → Nat → List Nat → Prop} : xse (xFind tbX7_meetsIn 114) k = k (.aload_n 2) 2 0 0 [] := rfl
theorem tbX7_meetsIn_115 {k : Instr → Nat → Nat → Nat → List Nat → Prop} : xse (xFind tbX7_meetsIn 115) k = k (.aload 4) 4 0 0 [] := rfl
theorem tbX7_meetsIn_117 {k : Instr → Nat → Nat → Nat → List Nat → Prop} : xse (xFind tbX7_meetsIn 117) k = k (.invokevirtual 267) 4 2 2 [] := rfl
theorem tbX7_meetsIn_120 {k : Instr → Nat → Nat → Nat → List Nat → Prop} : xse (xFind tbX7_meetsIn 120) k = k (.ifCond .ne 5) 125 0 0 [] := rfl
theorem tbX7_meetsIn_123 {k : Instr → Nat → Nat → Nat → List Nat → Prop} : xse (xFind tbX7_meetsIn 123) k = k (.iconst 1) 0 0 0 [] := rfl
theorem tbX7_meetsIn_124 {k : Instr → Nat → Nat → Nat → List Nat → Prop} : xse (xFind tbX7_meetsIn 124) k = k (.ireturn) 1 0 0 [] := rfl
theorem tbX7_meetsIn_125 {k : Instr → Nat → Nat → Nat → List Nat → Prop} : xse (xFind tbX7_meetsIn 125) k = k (.iinc 3 1) 3 0 0 [] := rfl
theorem tbX7_meetsIn_128 {k : Instr → Nat → Nat → Nat → List Nat → Prop} : xse (xFind tbX7_meetsIn 128) k = k (.goto (-126)) 2 0 0 [] := rfl
theorem tbX7_meetsIn_131 {k : Instr → Nat → Nat → Nat → List Nat → Prop} : xse (xFind tbX7_meetsIn 131) k = k (.iconst 0) 0 0 0 [] := rfl
theorem tbX7_meetsIn_132 {k : Instr → Nat → Nat → Nat → List Nat → Prop} : xse (xFind tbX7_meetsIn 132) k = k (.ireturn) 1 0 0 [] := rfl

def spX7_meetsIn (W9 : xWd) : xSp cS := (fun av S => (0, 0), fun av S K => ∃ (a : Nat) (s : Nat) (b : Nat), av = [.ref a, .ref s, .ref b] ∧ (cK S a = 9 ∧ cIn S a 804 1 ∧ bAll S (cRf S a 804) ∧ cK S s = 7 ∧ bOk S b ∧ K (rI (bi (cMt S (cRf S a 804) s b (lCn S (cRf S a 804)) = true))) S))
theorem spcX7_meetsIn {av : List Value} {S : cS} {W9 : xWd} : (spX7_meetsIn W9).1 av S = (0, 0) := rfl
theorem spwX7_meetsIn {S : cS} {W9 : xWd} {K : xRes → cS → Prop} {a : Nat} {s : Nat} {b : Nat} : (spX7_meetsIn W9).2 [.ref a, .ref s, .ref b] S K = (cK S a = 9 ∧ cIn S a 804 1 ∧ bAll S (cRf S a 804) ∧ cK S s = 7 ∧ bOk S b ∧ K (rI (bi (cMt S (cRf S a 804) s b (lCn S (cRf S a 804)) = true))) S) :=
  propext ⟨fun h => by
    simp only [spX7_meetsIn] at h
    obtain ⟨_, _, _, e, h⟩ := h
    simp only [List.cons.injEq, Value.int.injEq, Value.ref.injEq, rf_eq, and_true, true_and] at e
    obtain ⟨rfl, rfl, rfl⟩ := e
    exact h, fun h => ⟨_, _, _, rfl, h⟩⟩

def callX7_meetsIn (W9 : xWd) : Nat → Option (xSp cS) := fun n => match n with | 0 => some (spJx4a65c_size_8abf5 W9) | 1 => some (spJx4a65c_get_915e3 W9) | 2 => some (spX1_isBoundUp W9) | 3 => some (spX4_breadth W9) | 4 => some (spX1_agreesWith W9) | _ => none

theorem callX7_meetsIn_0 {W9 : xWd} {k : xSp cS → Prop} : xcs (callX7_meetsIn W9 0) k = k (spJx4a65c_size_8abf5 W9) := rfl

theorem callX7_meetsIn_1 {W9 : xWd} {k : xSp cS → Prop} : xcs (callX7_meetsIn W9 1) k = k (spJx4a65c_get_915e3 W9) := rfl

theorem callX7_meetsIn_2 {W9 : xWd} {k : xSp cS → Prop} : xcs (callX7_meetsIn W9 2) k = k (spX1_isBoundUp W9) := rfl

theorem callX7_meetsIn_3 {W9 : xWd} {k : xSp cS → Prop} : xcs (callX7_meetsIn W9 3) k = k (spX4_breadth W9) := rfl

theorem callX7_meetsIn_4 {W9 : xWd} {k : xSp cS → Prop} : xcs (callX7_meetsIn W9 4) k = k (spX1_agreesWith W9) := rfl

theorem crX7_meetsIn (l : Launch) (hl : l.stackTraces = false) (W9 : xWd) : xCallsOK l W9 (cI) (callX7_meetsIn W9) clX7_meetsIn RX7 wsX7_meetsIn 3 64 7 := by
  intro E A p e R s m args below meth c hI hF hL X
  exact List.forall_mem_cons.mpr ⟨⟨_, rfl, xCR_V X (by rw [hI]; exact (semJx4a65c_size_8abf5 l hl W9)) gX7_meetsIn_Jx4a65c_size_8abf5 rfl rfl (by decide +kernel) (by rw [hF, hL]; decide)⟩,
    List.forall_mem_cons.mpr ⟨⟨_, rfl, xCR_V X (by rw [hI]; exact (semJx4a65c_get_915e3 l hl W9)) gX7_meetsIn_Jx4a65c_get_915e3 rfl rfl (by decide +kernel) (by rw [hF, hL]; decide)⟩,
    List.forall_mem_cons.mpr ⟨⟨_, rfl, xCR_V X (by rw [hI]; exact (semX1_isBoundUp l hl W9)) gX7_meetsIn_X1_isBoundUp rfl rfl (by decide +kernel) (by rw [hF, hL]; decide)⟩,
    List.forall_mem_cons.mpr ⟨⟨_, rfl, xCR_V X (by rw [hI]; exact (semX4_breadth l hl W9)) gX7_meetsIn_X4_breadth rfl rfl (by decide +kernel) (by rw [hF, hL]; decide)⟩,
    List.forall_mem_cons.mpr ⟨⟨_, rfl, xCR_V X (by rw [hI]; exact (semX1_agreesWith l hl W9)) gX7_meetsIn_X1_agreesWith rfl rfl (by decide +kernel) (by rw [hF, hL]; decide)⟩,
    fun _ h => nomatch h⟩⟩⟩⟩⟩

set_option maxHeartbeats 4000000 in
set_option maxRecDepth 20000 in
theorem semX7_meetsIn (l : Launch) (hl : l.stackTraces = false) (W9 : xWd) : xSem l W9 (cI) yX7_meetsIn wsX7_meetsIn 3 64 (spX7_meetsIn W9) := by
  refine xSem_of (call := callX7_meetsIn W9) (thrf := fun _ => "") cI_law (by decide +kernel) rfl ckX7_meetsIn usX7_meetsIn (crX7_meetsIn l hl W9) xThrOK_nil ?_ ?_
  · intro av S KF h
    obtain ⟨a, s, b, rfl, h⟩ := h
    exact ⟨by intro v hv; simp only [List.mem_cons, List.not_mem_nil, or_false] at hv; rcases hv with rfl | rfl | rfl <;> first | rfl | exact cat_rf, Nat.le_of_ble_eq_true rfl⟩
  intro av S KF h G hG
  obtain ⟨a, s, b, rfl, h⟩ := h
  rw [show (spX7_meetsIn W9).1 _ S = _ from spcX7_meetsIn] at hG
  try dsimp only at hG
  change G 0 [some (.ref a), some (.ref s), some (.ref b), none, none, none, none] [] S 0 0
  obtain ⟨h0, ⟨h1, h2⟩, ⟨h3, h3b⟩, h4, hB, h⟩ := h

  obtain ⟨f1, f2, f3, f4⟩ := lAll_facts h3
  obtain ⟨b1, ⟨b2, b2b⟩, b3⟩ := hB
  generalize hL : cRf S a 804 = L at *
  by_cases hl : cFi S s 604 = 0
  · have loop := xloop hG 2 [true, true, true, true, false, false, false] (fun j lv st S2 cs ss => lv = [some (.ref a), some (.ref s), some (.ref b), some (.int (nI j)), none, none, none] ∧ st = [] ∧ S = S2 ∧ cs = 0 ∧ ss = 0 ∧ cMt S L s b j = false) (lCn S L) (by
        rintro j hj lv st S2 cs ss ⟨rfl, rfl, rfl, rfl, rfl, hd⟩ fu hfu
        obtain ⟨g1, g2⟩ := h3.2 _ hj
        obtain ⟨o1, ⟨o2, o2b⟩, o3⟩ := h3b _ hj
        have e0 := ge_nI hj (show lCn S L < 1000 by omega)
        have e2 := lt0_nI hj (show lCn S L < 1000 by omega)
        have hstep : cMt S L s b (j + 1) = (cMt S L s b j || decide (cFi S s 604 = 0 ∧ cM1 S s b (lG S L j))) := rfl
        have hu := bi_01 (cFi S b 206 < cFi S b 210)
        by_cases c : cM1 S s b (lG S L j)
        · have z := cMt_t ⟨hl, c⟩ _ hj
          rw [z] at h
          have h : KF (rI 1) S := h
          simp only [↓callX7_meetsIn_0, ↓callX7_meetsIn_1, ↓callX7_meetsIn_2, ↓callX7_meetsIn_3, ↓callX7_meetsIn_4, ↓cg_2_3, ↓cg_2_7, ↓cg_2_8, ↓cg_6_0, ↓cg_6_4, ↓cg_6_6, ↓cg_6_7, ↓cg_8_4, cisa, ki_0, ki_1, ↓vm_aload, ↓vm_aload_n, ↓vm_astore, ↓vm_checkcast, ↓vm_getfield, ↓vm_goto, ↓vm_iadd, ↓vm_iconst, ↓vm_ifCond_eq, ↓vm_ifCond_ne, ↓vm_if_icmp_eq, ↓vm_if_icmp_ge, ↓vm_if_icmp_le, ↓vm_iinc, ↓vm_iload, ↓vm_iload_n, ↓vm_invokevirtual, ↓vm_ireturn, ↓vm_istore, ↓vm_istore_n, ↓xc_1, ↓xc_2, ↓tbX7_meetsIn_0, ↓tbX7_meetsIn_1, ↓tbX7_meetsIn_2, ↓tbX7_meetsIn_3, ↓tbX7_meetsIn_4, ↓tbX7_meetsIn_7, ↓tbX7_meetsIn_10, ↓tbX7_meetsIn_13, ↓tbX7_meetsIn_14, ↓tbX7_meetsIn_17, ↓tbX7_meetsIn_20, ↓tbX7_meetsIn_21, ↓tbX7_meetsIn_24, ↓tbX7_meetsIn_25, ↓tbX7_meetsIn_28, ↓tbX7_meetsIn_31, ↓tbX7_meetsIn_33, ↓tbX7_meetsIn_35, ↓tbX7_meetsIn_38, ↓tbX7_meetsIn_39, ↓tbX7_meetsIn_42, ↓tbX7_meetsIn_45, ↓tbX7_meetsIn_48, ↓tbX7_meetsIn_50, ↓tbX7_meetsIn_53, ↓tbX7_meetsIn_54, ↓tbX7_meetsIn_57, ↓tbX7_meetsIn_60, ↓tbX7_meetsIn_61, ↓tbX7_meetsIn_64, ↓tbX7_meetsIn_65, ↓tbX7_meetsIn_67, ↓tbX7_meetsIn_69, ↓tbX7_meetsIn_72, ↓tbX7_meetsIn_75, ↓tbX7_meetsIn_76, ↓tbX7_meetsIn_79, ↓tbX7_meetsIn_82, ↓tbX7_meetsIn_83, ↓tbX7_meetsIn_84, ↓tbX7_meetsIn_87, ↓tbX7_meetsIn_90, ↓tbX7_meetsIn_91, ↓tbX7_meetsIn_94, ↓tbX7_meetsIn_95, ↓tbX7_meetsIn_97, ↓tbX7_meetsIn_98, ↓tbX7_meetsIn_101, ↓tbX7_meetsIn_104, ↓tbX7_meetsIn_106, ↓tbX7_meetsIn_109, ↓tbX7_meetsIn_111, ↓tbX7_meetsIn_114, ↓tbX7_meetsIn_115, ↓tbX7_meetsIn_117, ↓tbX7_meetsIn_120, ↓tbX7_meetsIn_123, ↓tbX7_meetsIn_124, ↓tbX7_meetsIn_125, ↓tbX7_meetsIn_128, ↓tbX7_meetsIn_131, ↓tbX7_meetsIn_132, hfu, xstep0, xJ1_hit, xJ1_go, xJ2_hit1, xJ2_hit2, xJ2_go, ↓xif_t, ↓xif_f, seval, ↓xca_eq, ↓xre_l, ↓xre_r, xmask_t, xmask_f, xmask_nil, ↓xst_eq, xX_eq, eI_eq, eMc_eq, eMs_eq, eF_eq, eThr_eq, ↓xS1_mk, ↓xSI_mk, ↓xSR_mk, ↓xLI_0, ↓xLI_s, ↓xLR_0, ↓xLR_s, vRef_ref, vRef_null, vRef_rf, cat_int, cat_ref, cat_null, cat_rf, rf_some, rf_none, rf_null, rf_eq, rf_ref, ref_rf, ref_null, ref_ref, xOk_0, xOk_1, xOk_2r, xOk_2n, xOk_2f, vOpt_rf, vOpt_ref, vOpt_null, List.set_cons_zero, List.set_cons_succ, List.take_succ_cons, List.take_zero, List.drop_succ_cons, List.drop_zero, List.reverse_cons, List.reverse_nil, List.nil_append, List.cons_append, List.append_nil, List.length_cons, List.length_nil, List.map_cons, List.map_nil, List.sum_cons, List.sum_nil, Option.toList_some, Option.toList_none, xRecv_mk, true_and, and_true, true_implies, Nat.reduceAdd, Nat.reduceLeDiff, Nat.zero_le, Nat.le_refl, Nat.add_zero, Nat.zero_add, reduceIte, not_true_eq_false, not_false_eq_true, false_implies, and_self, implies_true, eq_self, Nat.reduceEqDiff, List.cons.injEq, xsn_1, xsn_2, false_and, and_false, or_false, false_or, or_true, true_or, xsn_3, xsn_4, ↓spwJx4a65c_size_8abf5, spcJx4a65c_size_8abf5, ↓spwJx4a65c_get_915e3, spcJx4a65c_get_915e3, ↓spwX1_isBoundUp, spcX1_isBoundUp, ↓spwX4_breadth, spcX4_breadth, ↓spwX1_agreesWith, spcX1_agreesWith, h0, h1, hL, h4, hl, f1, f2, f3, b1, b2, b2b, b3, o1, o2, o2b, o3, e0, pos_nI (show j < 1000 by omega), e2, ix_nI (show j < 1000 by omega), g1, g2, bi_0, nI1]
          try simp only [xif_e]
          repeat' (first | with_reducible apply And.intro | with_reducible intro _)
          all_goals grind (splits := 20)
        · rw [hd, decide_eq_false (fun q => c q.2)] at hstep
          simp only [↓callX7_meetsIn_0, ↓callX7_meetsIn_1, ↓callX7_meetsIn_2, ↓callX7_meetsIn_3, ↓callX7_meetsIn_4, ↓cg_2_3, ↓cg_2_7, ↓cg_2_8, ↓cg_6_0, ↓cg_6_4, ↓cg_6_6, ↓cg_6_7, ↓cg_8_4, cisa, ki_0, ki_1, ↓vm_aload, ↓vm_aload_n, ↓vm_astore, ↓vm_checkcast, ↓vm_getfield, ↓vm_goto, ↓vm_iadd, ↓vm_iconst, ↓vm_ifCond_eq, ↓vm_ifCond_ne, ↓vm_if_icmp_eq, ↓vm_if_icmp_ge, ↓vm_if_icmp_le, ↓vm_iinc, ↓vm_iload, ↓vm_iload_n, ↓vm_invokevirtual, ↓vm_ireturn, ↓vm_istore, ↓vm_istore_n, ↓xc_1, ↓xc_2, ↓tbX7_meetsIn_0, ↓tbX7_meetsIn_1, ↓tbX7_meetsIn_2, ↓tbX7_meetsIn_3, ↓tbX7_meetsIn_4, ↓tbX7_meetsIn_7, ↓tbX7_meetsIn_10, ↓tbX7_meetsIn_13, ↓tbX7_meetsIn_14, ↓tbX7_meetsIn_17, ↓tbX7_meetsIn_20, ↓tbX7_meetsIn_21, ↓tbX7_meetsIn_24, ↓tbX7_meetsIn_25, ↓tbX7_meetsIn_28, ↓tbX7_meetsIn_31, ↓tbX7_meetsIn_33, ↓tbX7_meetsIn_35, ↓tbX7_meetsIn_38, ↓tbX7_meetsIn_39, ↓tbX7_meetsIn_42, ↓tbX7_meetsIn_45, ↓tbX7_meetsIn_48, ↓tbX7_meetsIn_50, ↓tbX7_meetsIn_53, ↓tbX7_meetsIn_54, ↓tbX7_meetsIn_57, ↓tbX7_meetsIn_60, ↓tbX7_meetsIn_61, ↓tbX7_meetsIn_64, ↓tbX7_meetsIn_65, ↓tbX7_meetsIn_67, ↓tbX7_meetsIn_69, ↓tbX7_meetsIn_72, ↓tbX7_meetsIn_75, ↓tbX7_meetsIn_76, ↓tbX7_meetsIn_79, ↓tbX7_meetsIn_82, ↓tbX7_meetsIn_83, ↓tbX7_meetsIn_84, ↓tbX7_meetsIn_87, ↓tbX7_meetsIn_90, ↓tbX7_meetsIn_91, ↓tbX7_meetsIn_94, ↓tbX7_meetsIn_95, ↓tbX7_meetsIn_97, ↓tbX7_meetsIn_98, ↓tbX7_meetsIn_101, ↓tbX7_meetsIn_104, ↓tbX7_meetsIn_106, ↓tbX7_meetsIn_109, ↓tbX7_meetsIn_111, ↓tbX7_meetsIn_114, ↓tbX7_meetsIn_115, ↓tbX7_meetsIn_117, ↓tbX7_meetsIn_120, ↓tbX7_meetsIn_123, ↓tbX7_meetsIn_124, ↓tbX7_meetsIn_125, ↓tbX7_meetsIn_128, ↓tbX7_meetsIn_131, ↓tbX7_meetsIn_132, hfu, xstep0, xJ1_hit, xJ1_go, xJ2_hit1, xJ2_hit2, xJ2_go, ↓xif_t, ↓xif_f, seval, ↓xca_eq, ↓xre_l, ↓xre_r, xmask_t, xmask_f, xmask_nil, ↓xst_eq, xX_eq, eI_eq, eMc_eq, eMs_eq, eF_eq, eThr_eq, ↓xS1_mk, ↓xSI_mk, ↓xSR_mk, ↓xLI_0, ↓xLI_s, ↓xLR_0, ↓xLR_s, vRef_ref, vRef_null, vRef_rf, cat_int, cat_ref, cat_null, cat_rf, rf_some, rf_none, rf_null, rf_eq, rf_ref, ref_rf, ref_null, ref_ref, xOk_0, xOk_1, xOk_2r, xOk_2n, xOk_2f, vOpt_rf, vOpt_ref, vOpt_null, List.set_cons_zero, List.set_cons_succ, List.take_succ_cons, List.take_zero, List.drop_succ_cons, List.drop_zero, List.reverse_cons, List.reverse_nil, List.nil_append, List.cons_append, List.append_nil, List.length_cons, List.length_nil, List.map_cons, List.map_nil, List.sum_cons, List.sum_nil, Option.toList_some, Option.toList_none, xRecv_mk, true_and, and_true, true_implies, Nat.reduceAdd, Nat.reduceLeDiff, Nat.zero_le, Nat.le_refl, Nat.add_zero, Nat.zero_add, reduceIte, not_true_eq_false, not_false_eq_true, false_implies, and_self, implies_true, eq_self, Nat.reduceEqDiff, List.cons.injEq, xsn_1, xsn_2, false_and, and_false, or_false, false_or, or_true, true_or, xsn_3, xsn_4, ↓spwJx4a65c_size_8abf5, spcJx4a65c_size_8abf5, ↓spwJx4a65c_get_915e3, spcJx4a65c_get_915e3, ↓spwX1_isBoundUp, spcX1_isBoundUp, ↓spwX4_breadth, spcX4_breadth, ↓spwX1_agreesWith, spcX1_agreesWith, h0, h1, hL, h4, hl, f1, f2, f3, b1, b2, b2b, b3, o1, o2, o2b, o3, e0, pos_nI (show j < 1000 by omega), e2, ix_nI (show j < 1000 by omega), g1, g2, bi_0, nI1, hstep]
          try simp only [xif_e]
          repeat' (first | with_reducible apply And.intro | with_reducible intro _)
          all_goals grind (splits := 20)) (by
        rintro lv st S2 cs ss ⟨rfl, rfl, rfl, rfl, rfl, hd⟩ fu hfu
        rw [hd] at h
        have h : KF (rI 0) S := h
        simp only [↓callX7_meetsIn_0, ↓callX7_meetsIn_1, ↓callX7_meetsIn_2, ↓callX7_meetsIn_3, ↓callX7_meetsIn_4, ↓cg_2_3, ↓cg_2_7, ↓cg_2_8, ↓cg_6_0, ↓cg_6_4, ↓cg_6_6, ↓cg_6_7, ↓cg_8_4, cisa, ki_0, ki_1, ↓vm_aload, ↓vm_aload_n, ↓vm_astore, ↓vm_checkcast, ↓vm_getfield, ↓vm_goto, ↓vm_iadd, ↓vm_iconst, ↓vm_ifCond_eq, ↓vm_ifCond_ne, ↓vm_if_icmp_eq, ↓vm_if_icmp_ge, ↓vm_if_icmp_le, ↓vm_iinc, ↓vm_iload, ↓vm_iload_n, ↓vm_invokevirtual, ↓vm_ireturn, ↓vm_istore, ↓vm_istore_n, ↓xc_1, ↓xc_2, ↓tbX7_meetsIn_0, ↓tbX7_meetsIn_1, ↓tbX7_meetsIn_2, ↓tbX7_meetsIn_3, ↓tbX7_meetsIn_4, ↓tbX7_meetsIn_7, ↓tbX7_meetsIn_10, ↓tbX7_meetsIn_13, ↓tbX7_meetsIn_14, ↓tbX7_meetsIn_17, ↓tbX7_meetsIn_20, ↓tbX7_meetsIn_21, ↓tbX7_meetsIn_24, ↓tbX7_meetsIn_25, ↓tbX7_meetsIn_28, ↓tbX7_meetsIn_31, ↓tbX7_meetsIn_33, ↓tbX7_meetsIn_35, ↓tbX7_meetsIn_38, ↓tbX7_meetsIn_39, ↓tbX7_meetsIn_42, ↓tbX7_meetsIn_45, ↓tbX7_meetsIn_48, ↓tbX7_meetsIn_50, ↓tbX7_meetsIn_53, ↓tbX7_meetsIn_54, ↓tbX7_meetsIn_57, ↓tbX7_meetsIn_60, ↓tbX7_meetsIn_61, ↓tbX7_meetsIn_64, ↓tbX7_meetsIn_65, ↓tbX7_meetsIn_67, ↓tbX7_meetsIn_69, ↓tbX7_meetsIn_72, ↓tbX7_meetsIn_75, ↓tbX7_meetsIn_76, ↓tbX7_meetsIn_79, ↓tbX7_meetsIn_82, ↓tbX7_meetsIn_83, ↓tbX7_meetsIn_84, ↓tbX7_meetsIn_87, ↓tbX7_meetsIn_90, ↓tbX7_meetsIn_91, ↓tbX7_meetsIn_94, ↓tbX7_meetsIn_95, ↓tbX7_meetsIn_97, ↓tbX7_meetsIn_98, ↓tbX7_meetsIn_101, ↓tbX7_meetsIn_104, ↓tbX7_meetsIn_106, ↓tbX7_meetsIn_109, ↓tbX7_meetsIn_111, ↓tbX7_meetsIn_114, ↓tbX7_meetsIn_115, ↓tbX7_meetsIn_117, ↓tbX7_meetsIn_120, ↓tbX7_meetsIn_123, ↓tbX7_meetsIn_124, ↓tbX7_meetsIn_125, ↓tbX7_meetsIn_128, ↓tbX7_meetsIn_131, ↓tbX7_meetsIn_132, hfu, xstep0, xJ1_hit, xJ1_go, xJ2_hit1, xJ2_hit2, xJ2_go, ↓xif_t, ↓xif_f, seval, ↓xca_eq, ↓xre_l, ↓xre_r, xmask_t, xmask_f, xmask_nil, ↓xst_eq, xX_eq, eI_eq, eMc_eq, eMs_eq, eF_eq, eThr_eq, ↓xS1_mk, ↓xSI_mk, ↓xSR_mk, ↓xLI_0, ↓xLI_s, ↓xLR_0, ↓xLR_s, vRef_ref, vRef_null, vRef_rf, cat_int, cat_ref, cat_null, cat_rf, rf_some, rf_none, rf_null, rf_eq, rf_ref, ref_rf, ref_null, ref_ref, xOk_0, xOk_1, xOk_2r, xOk_2n, xOk_2f, vOpt_rf, vOpt_ref, vOpt_null, List.set_cons_zero, List.set_cons_succ, List.take_succ_cons, List.take_zero, List.drop_succ_cons, List.drop_zero, List.reverse_cons, List.reverse_nil, List.nil_append, List.cons_append, List.append_nil, List.length_cons, List.length_nil, List.map_cons, List.map_nil, List.sum_cons, List.sum_nil, Option.toList_some, Option.toList_none, xRecv_mk, true_and, and_true, true_implies, Nat.reduceAdd, Nat.reduceLeDiff, Nat.zero_le, Nat.le_refl, Nat.add_zero, Nat.zero_add, reduceIte, not_true_eq_false, not_false_eq_true, false_implies, and_self, implies_true, eq_self, Nat.reduceEqDiff, List.cons.injEq, xsn_1, xsn_2, false_and, and_false, or_false, false_or, or_true, true_or, xsn_3, xsn_4, ↓spwJx4a65c_size_8abf5, spcJx4a65c_size_8abf5, ↓spwJx4a65c_get_915e3, spcJx4a65c_get_915e3, ↓spwX1_isBoundUp, spcX1_isBoundUp, ↓spwX4_breadth, spcX4_breadth, ↓spwX1_agreesWith, spcX1_agreesWith, h0, h1, hL, f1, f3, le_nI_self]
        try simp only [xif_e]
        exact h)
    refine xgo hG (mb := [true, true, true, true, false, false, false]) (loop 0 (Nat.zero_le _)) (pc := 0) (fun fu hfu => ?_)
    simp only [↓callX7_meetsIn_0, ↓callX7_meetsIn_1, ↓callX7_meetsIn_2, ↓callX7_meetsIn_3, ↓callX7_meetsIn_4, ↓cg_2_3, ↓cg_2_7, ↓cg_2_8, ↓cg_6_0, ↓cg_6_4, ↓cg_6_6, ↓cg_6_7, ↓cg_8_4, cisa, ki_0, ki_1, ↓vm_aload, ↓vm_aload_n, ↓vm_astore, ↓vm_checkcast, ↓vm_getfield, ↓vm_goto, ↓vm_iadd, ↓vm_iconst, ↓vm_ifCond_eq, ↓vm_ifCond_ne, ↓vm_if_icmp_eq, ↓vm_if_icmp_ge, ↓vm_if_icmp_le, ↓vm_iinc, ↓vm_iload, ↓vm_iload_n, ↓vm_invokevirtual, ↓vm_ireturn, ↓vm_istore, ↓vm_istore_n, ↓xc_1, ↓xc_2, ↓tbX7_meetsIn_0, ↓tbX7_meetsIn_1, ↓tbX7_meetsIn_2, ↓tbX7_meetsIn_3, ↓tbX7_meetsIn_4, ↓tbX7_meetsIn_7, ↓tbX7_meetsIn_10, ↓tbX7_meetsIn_13, ↓tbX7_meetsIn_14, ↓tbX7_meetsIn_17, ↓tbX7_meetsIn_20, ↓tbX7_meetsIn_21, ↓tbX7_meetsIn_24, ↓tbX7_meetsIn_25, ↓tbX7_meetsIn_28, ↓tbX7_meetsIn_31, ↓tbX7_meetsIn_33, ↓tbX7_meetsIn_35, ↓tbX7_meetsIn_38, ↓tbX7_meetsIn_39, ↓tbX7_meetsIn_42, ↓tbX7_meetsIn_45, ↓tbX7_meetsIn_48, ↓tbX7_meetsIn_50, ↓tbX7_meetsIn_53, ↓tbX7_meetsIn_54, ↓tbX7_meetsIn_57, ↓tbX7_meetsIn_60, ↓tbX7_meetsIn_61, ↓tbX7_meetsIn_64, ↓tbX7_meetsIn_65, ↓tbX7_meetsIn_67, ↓tbX7_meetsIn_69, ↓tbX7_meetsIn_72, ↓tbX7_meetsIn_75, ↓tbX7_meetsIn_76, ↓tbX7_meetsIn_79, ↓tbX7_meetsIn_82, ↓tbX7_meetsIn_83, ↓tbX7_meetsIn_84, ↓tbX7_meetsIn_87, ↓tbX7_meetsIn_90, ↓tbX7_meetsIn_91, ↓tbX7_meetsIn_94, ↓tbX7_meetsIn_95, ↓tbX7_meetsIn_97, ↓tbX7_meetsIn_98, ↓tbX7_meetsIn_101, ↓tbX7_meetsIn_104, ↓tbX7_meetsIn_106, ↓tbX7_meetsIn_109, ↓tbX7_meetsIn_111, ↓tbX7_meetsIn_114, ↓tbX7_meetsIn_115, ↓tbX7_meetsIn_117, ↓tbX7_meetsIn_120, ↓tbX7_meetsIn_123, ↓tbX7_meetsIn_124, ↓tbX7_meetsIn_125, ↓tbX7_meetsIn_128, ↓tbX7_meetsIn_131, ↓tbX7_meetsIn_132, hfu, xstep0, xJ1_hit, xJ1_go, xJ2_hit1, xJ2_hit2, xJ2_go, ↓xif_t, ↓xif_f, seval, ↓xca_eq, ↓xre_l, ↓xre_r, xmask_t, xmask_f, xmask_nil, ↓xst_eq, xX_eq, eI_eq, eMc_eq, eMs_eq, eF_eq, eThr_eq, ↓xS1_mk, ↓xSI_mk, ↓xSR_mk, ↓xLI_0, ↓xLI_s, ↓xLR_0, ↓xLR_s, vRef_ref, vRef_null, vRef_rf, cat_int, cat_ref, cat_null, cat_rf, rf_some, rf_none, rf_null, rf_eq, rf_ref, ref_rf, ref_null, ref_ref, xOk_0, xOk_1, xOk_2r, xOk_2n, xOk_2f, vOpt_rf, vOpt_ref, vOpt_null, List.set_cons_zero, List.set_cons_succ, List.take_succ_cons, List.take_zero, List.drop_succ_cons, List.drop_zero, List.reverse_cons, List.reverse_nil, List.nil_append, List.cons_append, List.append_nil, List.length_cons, List.length_nil, List.map_cons, List.map_nil, List.sum_cons, List.sum_nil, Option.toList_some, Option.toList_none, xRecv_mk, true_and, and_true, true_implies, Nat.reduceAdd, Nat.reduceLeDiff, Nat.zero_le, Nat.le_refl, Nat.add_zero, Nat.zero_add, reduceIte, not_true_eq_false, not_false_eq_true, false_implies, and_self, implies_true, eq_self, Nat.reduceEqDiff, List.cons.injEq, xsn_1, xsn_2, false_and, and_false, or_false, false_or, or_true, true_or, xsn_3, xsn_4, ↓spwJx4a65c_size_8abf5, spcJx4a65c_size_8abf5, ↓spwJx4a65c_get_915e3, spcJx4a65c_get_915e3, ↓spwX1_isBoundUp, spcX1_isBoundUp, ↓spwX4_breadth, spcX4_breadth, ↓spwX1_agreesWith, spcX1_agreesWith]
    try simp only [xif_e]
    repeat' (first | rfl | apply And.intro)
  · rw [cMt_l hl] at h
    have h : KF (rI 0) S := h
    refine xgo hG (mb := []) (head := 20) (P := fun _ _ _ _ _ => False) (fun _ _ _ _ _ q => q.elim) (pc := 0) (fun fu hfu => ?_)
    simp only [↓callX7_meetsIn_0, ↓callX7_meetsIn_1, ↓callX7_meetsIn_2, ↓callX7_meetsIn_3, ↓callX7_meetsIn_4, ↓cg_2_3, ↓cg_2_7, ↓cg_2_8, ↓cg_6_0, ↓cg_6_4, ↓cg_6_6, ↓cg_6_7, ↓cg_8_4, cisa, ki_0, ki_1, ↓vm_aload, ↓vm_aload_n, ↓vm_astore, ↓vm_checkcast, ↓vm_getfield, ↓vm_goto, ↓vm_iadd, ↓vm_iconst, ↓vm_ifCond_eq, ↓vm_ifCond_ne, ↓vm_if_icmp_eq, ↓vm_if_icmp_ge, ↓vm_if_icmp_le, ↓vm_iinc, ↓vm_iload, ↓vm_iload_n, ↓vm_invokevirtual, ↓vm_ireturn, ↓vm_istore, ↓vm_istore_n, ↓xc_1, ↓xc_2, ↓tbX7_meetsIn_0, ↓tbX7_meetsIn_1, ↓tbX7_meetsIn_2, ↓tbX7_meetsIn_3, ↓tbX7_meetsIn_4, ↓tbX7_meetsIn_7, ↓tbX7_meetsIn_10, ↓tbX7_meetsIn_13, ↓tbX7_meetsIn_14, ↓tbX7_meetsIn_17, ↓tbX7_meetsIn_20, ↓tbX7_meetsIn_21, ↓tbX7_meetsIn_24, ↓tbX7_meetsIn_25, ↓tbX7_meetsIn_28, ↓tbX7_meetsIn_31, ↓tbX7_meetsIn_33, ↓tbX7_meetsIn_35, ↓tbX7_meetsIn_38, ↓tbX7_meetsIn_39, ↓tbX7_meetsIn_42, ↓tbX7_meetsIn_45, ↓tbX7_meetsIn_48, ↓tbX7_meetsIn_50, ↓tbX7_meetsIn_53, ↓tbX7_meetsIn_54, ↓tbX7_meetsIn_57, ↓tbX7_meetsIn_60, ↓tbX7_meetsIn_61, ↓tbX7_meetsIn_64, ↓tbX7_meetsIn_65, ↓tbX7_meetsIn_67, ↓tbX7_meetsIn_69, ↓tbX7_meetsIn_72, ↓tbX7_meetsIn_75, ↓tbX7_meetsIn_76, ↓tbX7_meetsIn_79, ↓tbX7_meetsIn_82, ↓tbX7_meetsIn_83, ↓tbX7_meetsIn_84, ↓tbX7_meetsIn_87, ↓tbX7_meetsIn_90, ↓tbX7_meetsIn_91, ↓tbX7_meetsIn_94, ↓tbX7_meetsIn_95, ↓tbX7_meetsIn_97, ↓tbX7_meetsIn_98, ↓tbX7_meetsIn_101, ↓tbX7_meetsIn_104, ↓tbX7_meetsIn_106, ↓tbX7_meetsIn_109, ↓tbX7_meetsIn_111, ↓tbX7_meetsIn_114, ↓tbX7_meetsIn_115, ↓tbX7_meetsIn_117, ↓tbX7_meetsIn_120, ↓tbX7_meetsIn_123, ↓tbX7_meetsIn_124, ↓tbX7_meetsIn_125, ↓tbX7_meetsIn_128, ↓tbX7_meetsIn_131, ↓tbX7_meetsIn_132, hfu, xstep0, xJ1_hit, xJ1_go, xJ2_hit1, xJ2_hit2, xJ2_go, ↓xif_t, ↓xif_f, seval, ↓xca_eq, ↓xre_l, ↓xre_r, xmask_t, xmask_f, xmask_nil, ↓xst_eq, xX_eq, eI_eq, eMc_eq, eMs_eq, eF_eq, eThr_eq, ↓xS1_mk, ↓xSI_mk, ↓xSR_mk, ↓xLI_0, ↓xLI_s, ↓xLR_0, ↓xLR_s, vRef_ref, vRef_null, vRef_rf, cat_int, cat_ref, cat_null, cat_rf, rf_some, rf_none, rf_null, rf_eq, rf_ref, ref_rf, ref_null, ref_ref, xOk_0, xOk_1, xOk_2r, xOk_2n, xOk_2f, vOpt_rf, vOpt_ref, vOpt_null, List.set_cons_zero, List.set_cons_succ, List.take_succ_cons, List.take_zero, List.drop_succ_cons, List.drop_zero, List.reverse_cons, List.reverse_nil, List.nil_append, List.cons_append, List.append_nil, List.length_cons, List.length_nil, List.map_cons, List.map_nil, List.sum_cons, List.sum_nil, Option.toList_some, Option.toList_none, xRecv_mk, true_and, and_true, true_implies, Nat.reduceAdd, Nat.reduceLeDiff, Nat.zero_le, Nat.le_refl, Nat.add_zero, Nat.zero_add, reduceIte, not_true_eq_false, not_false_eq_true, false_implies, and_self, implies_true, eq_self, Nat.reduceEqDiff, List.cons.injEq, xsn_1, xsn_2, false_and, and_false, or_false, false_or, or_true, true_or, xsn_3, xsn_4, ↓spwJx4a65c_size_8abf5, spcJx4a65c_size_8abf5, ↓spwJx4a65c_get_915e3, spcJx4a65c_get_915e3, ↓spwX1_isBoundUp, spcX1_isBoundUp, ↓spwX4_breadth, spcX4_breadth, ↓spwX1_agreesWith, spcX1_agreesWith, h0, h1, hL, h4, hl, f1, f3]
    try simp only [xif_e]
    repeat' (first | with_reducible apply And.intro | with_reducible intro _)
    all_goals grind
