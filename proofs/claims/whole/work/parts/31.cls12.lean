/-! The class: hours to a point. -/
def cSt (S : cS) (b : Nat) : Int32 := if cFi S b 207 = -1 then cFi S b 206 else if cFi S b 208 = 0 then cFi S b 207 else cFi S b 207 + 1
noncomputable def cHs (S : cS) (L b : Nat) (u : Int32) (lo : Nat) : Nat → Int32
  | 0 => cFi S b 209
  | j + 1 => cHs S L b u lo j + cHr S (lG S L (lo + j)) (nI (rN S (cRf S b 203))) u
noncomputable def cHb (S : cS) (o L b : Nat) (u : Int32) (lo : Nat) : Nat → Bool
  | 0 => false
  | j + 1 => cHb S o L b u lo j || decide (¬ cSz S o b (lG S L (lo + j)) u = 0)
theorem cHb_t {S : cS} {o L b : Nat} {u : Int32} {lo k : Nat} (h : ¬ cSz S o b (lG S L (lo + k)) u = 0) : ∀ n, k < n → cHb S o L b u lo n = true
  | 0, hk => by omega
  | n + 1, hk => by
    show (cHb S o L b u lo n || decide (¬ cSz S o b (lG S L (lo + n)) u = 0)) = true
    by_cases e : k = n
    · subst e
      rw [decide_eq_true h]
      simp
    · rw [cHb_t h n (by omega)]
      rfl
noncomputable def cHo (S : cS) (o b x y : Nat) : Int32 :=
  if cHb S o (cRf S o 800) b (bi (x < y)) (if x < y then x else y) (if x < y then y - x else x - y) = true then -1 else cHs S (cRf S o 800) b (bi (x < y)) (if x < y then x else y) (if x < y then y - x else x - y)

def tbX7_hours : List (Nat × xHint) := [(0, .aload_n 0, 0, 0, 0, []), (1, .iload_n 1, 1, 0, 0, []), (2, .invokevirtual 219, 0, 2, 8, []), (5, .astore_n 3, 3, 0, 0, []), (6, .iload_n 2, 2, 0, 0, []), (7, .invokestatic 128, 1, 1, 0, []), (10, .aload_n 3, 3, 0, 0, []), (11, .invokevirtual 223, 2, 1, 2, []), (14, .ifCond .eq 10, 24, 0, 0, []), (17, .aload_n 3, 3, 0, 0, []), (18, .invokevirtual 298, 3, 1, 2, []), (21, .goto 7, 28, 0, 0, []), (24, .aload_n 3, 3, 0, 0, []), (25, .getfield 238, 2, 6, 0, []), (28, .istore 4, 4, 0, 0, []), (30, .iload_n 2, 2, 0, 0, []), (31, .iload 4, 4, 0, 0, []), (33, .if_icmp .le 7, 40, 0, 0, []), (36, .iconst 1, 0, 0, 0, []), (37, .goto 4, 41, 0, 0, []), (40, .iconst 0, 0, 0, 0, []), (41, .istore 5, 5, 0, 0, []), (43, .aload_n 3, 3, 0, 0, []), (44, .getfield 301, 2, 9, 0, []), (47, .istore 6, 6, 0, 0, []), (49, .iload 4, 4, 0, 0, []), (51, .iload_n 2, 2, 0, 0, []), (52, .invokestatic 304, 4, 2, 0, []), (55, .istore 7, 7, 0, 0, []), (57, .iconst 0, 0, 0, 0, []), (58, .iload 4, 4, 0, 0, []), (60, .iload_n 2, 2, 0, 0, []), (61, .invokestatic 309, 5, 2, 0, []), (64, .invokestatic 304, 4, 2, 0, []), (67, .istore 8, 8, 0, 0, []), (69, .iload 8, 8, 0, 0, []), (71, .iload 7, 7, 0, 0, []), (73, .if_icmp .ge 68, 141, 0, 0, []), (76, .iload 8, 8, 0, 0, []), (78, .aload_n 0, 0, 0, 0, []), (79, .getfield 10, 8, 0, 2, []), (82, .invokevirtual 108, 6, 1, 0, []), (85, .if_icmp .ge 56, 141, 0, 0, []), (88, .aload_n 0, 0, 0, 0, []), (89, .getfield 10, 8, 0, 2, []), (92, .iload 8, 8, 0, 0, []), (94, .invokevirtual 312, 7, 2, 0, []), (97, .checkcast 39, 6, 0, 0, []), (100, .astore 9, 9, 0, 0, []), (102, .aload_n 0, 0, 0, 0, []), (103, .aload_n 3, 3, 0, 0, []), (104, .aload 9, 9, 0, 0, []), (106, .iload 5, 5, 0, 0, []), (108, .invokevirtual 316, 8, 4, 8, []), (111, .ifCond .eq 5, 116, 0, 0, []), (114, .iconst (-1), 0, 0, 0, []), (115, .ireturn, 0, 0, 0, []), (116, .iload 6, 6, 0, 0, []), (118, .aload 9, 9, 0, 0, []), (120, .aload_n 3, 3, 0, 0, []), (121, .getfield 232, 2, 3, 2, []), (124, .invokevirtual 101, 9, 1, 5, []), (127, .iload 5, 5, 0, 0, []), (129, .invokevirtual 320, 10, 3, 6, []), (132, .iadd, 0, 0, 0, []), (133, .istore 6, 6, 0, 0, []), (135, .iinc 8 1, 8, 0, 0, []), (138, .goto (-69), 69, 0, 0, []), (141, .iload 6, 6, 0, 0, []), (143, .ireturn, 0, 0, 0, [])]
def clX7_hours : List (Instr × Nat × Nat × Nat) := [(.invokevirtual 219, 0, 2, 8), (.invokestatic 128, 1, 1, 0), (.invokevirtual 223, 2, 1, 2), (.invokevirtual 298, 3, 1, 2), (.invokestatic 304, 4, 2, 0), (.invokestatic 309, 5, 2, 0), (.invokevirtual 108, 6, 1, 0), (.invokevirtual 312, 7, 2, 0), (.invokevirtual 316, 8, 4, 8), (.invokevirtual 101, 9, 1, 5), (.invokevirtual 320, 10, 3, 6)]
def thX7_hours : List (Nat × Nat) := []
theorem ckX7_hours : tbX7_hours.all (xRow RX7 cX7_hours wsX7_hours vwCl [2, 8] clX7_hours thX7_hours 10 (yX7_hours.name == "<init>") (some .int)) = true := xRow_q 0xac0615bbffa70108840636604001b605156500b6e800b42d09190615ac020500993c01b6051509192d2a093a2700c03801b608150a00b42a3800a26c00b60a00b42a08154400a20715081508363001b83501b81c04150307363001b81c041506362d01b42d0536030400a7040700a404151c0436ee00b42d0700a72a01b62d0a0099df00b62d8000b81c4edb00b61b2a 144 (by decide +kernel) (by decide +kernel)
theorem usX7_hours : xUse wsX7_hours vwCl [2, 8] = true := xUse_g rfl (lw_good lwl_X7_hours lwl_X10 (by decide +kernel)) (xUse_g rfl (lw_good lwl_X7_hours lwl_X70 (by decide +kernel)) xUse_n)
theorem tbX7_hours_0 {k : Instr → Nat → Nat → Nat → List Nat → Prop} : xse (xFind tbX7_hours 0) k = k (.aload_n 0) 0 0 0 [] := rfl
theorem tbX7_hours_1 {k : Instr → Nat → Nat → Nat → List Nat → Prop} : xse (xFind tbX7_hours 1) k = k (.iload_n 1) 1 0 0 [] := rfl
theorem tbX7_hours_2 {k : Instr → Nat → Nat → Nat → List Nat → Prop} : xse (xFind tbX7_hours 2) k = k (.invokevirtual 219) 0 2 8 [] := rfl
theorem tbX7_hours_5 {k : Instr → Nat → Nat → Nat → List Nat → Prop} : xse (xFind tbX7_hours 5) k = k (.astore_n 3) 3 0 0 [] := rfl
theorem tbX7_hours_6 {k : Instr → Nat → Nat → Nat → List Nat → Prop} : xse (xFind tbX7_hours 6) k = k (.iload_n 2) 2 0 0 [] := rfl
theorem tbX7_hours_7 {k : Instr → Nat → Nat → Nat → List Nat → Prop} : xse (xFind tbX7_hours 7) k = k (.invokestatic 128) 1 1 0 [] := rfl
theorem tbX7_hours_10 {k : Instr → Nat → Nat → Nat → List Nat → Prop} : xse (xFind tbX7_hours 10) k = k (.aload_n 3) 3 0 0 [] := rfl
theorem tbX7_hours_11 {k : Instr → Nat → Nat → Nat → List Nat → Prop} : xse (xFind tbX7_hours 11) k = k (.invokevirtual 223) 2 1 2 [] := rfl
theorem tbX7_hours_14 {k : Instr → Nat → Nat → Nat → List Nat → Prop} : xse (xFind tbX7_hours 14) k = k (.ifCond .eq 10) 24 0 0 [] := rfl
theorem tbX7_hours_17 {k : Instr → Nat → Nat → Nat → List Nat → Prop} : xse (xFind tbX7_hours 17) k = k (.aload_n 3) 3 0 0 [] := rfl
theorem tbX7_hours_18 {k : Instr → Nat → Nat → Nat → List Nat → Prop} : xse (xFind tbX7_hours 18) k = k (.invokevirtual 298) 3 1 2 [] := rfl
theorem tbX7_hours_21 {k : Instr → Nat → Nat → Nat → List Nat → Prop} : xse (xFind tbX7_hours 21) k = k (.goto 7) 28 0 0 [] := rfl
theorem tbX7_hours_24 {k : Instr → Nat → Nat → Nat → List Nat → Prop} : xse (xFind tbX7_hours 24) k = k (.aload_n 3) 3 0 0 [] := rfl
theorem tbX7_hours_25 {k : Instr → Nat → Nat → Nat → List Nat → Prop} : xse (xFind tbX7_hours 25) k = k (.getfield 238) 2 6 0 [] := rfl
theorem tbX7_hours_28 {k : Instr → Nat → Nat → Nat → List Nat → Prop} : xse (xFind tbX7_hours 28) k = k (.istore 4) 4 0 0 [] := rfl
theorem tbX7_hours_30 {k : Instr → Nat → Nat → Nat → List Nat → Prop} : xse (xFind tbX7_hours 30) k = k (.iload_n 2) 2 0 0 [] := rfl
theorem tbX7_hours_31 {k : Instr → Nat → Nat → Nat → List Nat → Prop} : xse (xFind tbX7_hours 31) k = k (.iload 4) 4 0 0 [] := rfl
theorem tbX7_hours_33 {k : Instr → Nat → Nat → Nat → List Nat → Prop} : xse (xFind tbX7_hours 33) k = k (.if_icmp .le 7) 40 0 0 [] := rfl
theorem tbX7_hours_36 {k : Instr → Nat → Nat → Nat → List Nat → Prop} : xse (xFind tbX7_hours 36) k = k (.iconst 1) 0 0 0 [] := rfl
theorem tbX7_hours_37 {k : Instr → Nat → Nat → Nat → List Nat → Prop} : xse (xFind tbX7_hours 37) k = k (.goto 4) 41 0 0 [] := rfl
theorem tbX7_hours_40 {k : Instr → Nat → Nat → Nat → List Nat → Prop} : xse (xFind tbX7_hours 40) k = k (.iconst 0) 0 0 0 [] := rfl
theorem tbX7_hours_41 {k : Instr → Nat → Nat → Nat → List Nat → Prop} : xse (xFind tbX7_hours 41) k = k (.istore 5) 5 0 0 [] := rfl
theorem tbX7_hours_43 {k : Instr → Nat → Nat → Nat → List Nat → Prop} : xse (xFind tbX7_hours 43) k = k (.aload_n 3) 3 0 0 [] := rfl
theorem tbX7_hours_44 {k : Instr → Nat → Nat → Nat → List Nat → Prop} : xse (xFind tbX7_hours 44) k = k (.getfield 301) 2 9 0 [] := rfl
theorem tbX7_hours_47 {k : Instr → Nat → Nat → Nat → List Nat → Prop} : xse (xFind tbX7_hours 47) k = k (.istore 6) 6 0 0 [] := rfl
theorem tbX7_hours_49 {k : Instr → Nat → Nat → Nat → List Nat → Prop} : xse (xFind tbX7_hours 49) k = k (.iload 4) 4 0 0 [] := rfl
theorem tbX7_hours_51 {k : Instr → Nat → Nat → Nat → List Nat → Prop} : xse (xFind tbX7_hours 51) k = k (.iload_n 2) 2 0 0 [] := rfl
theorem tbX7_hours_52 {k : Instr → Nat → Nat → Nat → List Nat → Prop} : xse (xFind tbX7_hours 52) k = k (.invokestatic 304) 4 2 0 [] := rfl
theorem tbX7_hours_55 {k : Instr → Nat → Nat → Nat → List Nat → Prop} : xse (xFind tbX7_hours 55) k = k (.istore 7) 7 0 0 [] := rfl
theorem tbX7_hours_57 {k : Instr → Nat → Nat → Nat → List Nat → Prop} : xse (xFind tbX7_hours 57) k = k (.iconst 0) 0 0 0 [] := rfl
theorem tbX7_hours_58 {k : Instr → Nat → Nat → Nat → List Nat → Prop} : xse (xFind tbX7_hours 58) k = k (.iload 4) 4 0 0 [] := rfl
theorem tbX7_hours_60 {k : Instr → Nat → Nat → Nat → List Nat → Prop} : xse (xFind tbX7_hours 60) k = k (.iload_n 2) 2 0 0 [] := rfl
theorem tbX7_hours_61 {k : Instr → Nat → Nat → Nat → List Nat → Prop} : xse (xFind tbX7_hours 61) k = k (.invokestatic 309) 5 2 0 [] := rfl
theorem tbX7_hours_64 {k : Instr → Nat → Nat → Nat → List Nat → Prop} : xse (xFind tbX7_hours 64) k = k (.invokestatic 304) 4 2 0 [] := rfl
theorem tbX7_hours_67 {k : Instr → Nat → Nat → Nat → List Nat → Prop} : xse (xFind tbX7_hours 67) k = k (.istore 8) 8 0 0 [] := rfl
theorem tbX7_hours_69 {k : Instr → Nat → Nat → Nat → List Nat → Prop} : xse (xFind tbX7_hours 69) k = k (.iload 8) 8 0 0 [] := rfl
theorem tbX7_hours_71 {k : Instr → Nat → Nat → Nat → List Nat → Prop} : xse (xFind tbX7_hours 71) k = k (.iload 7) 7 0 0 [] := rfl
theorem tbX7_hours_73 {k : Instr → Nat → Nat → Nat → List Nat → Prop} : xse (xFind tbX7_hours 73) k = k (.if_icmp .ge 68) 141 0 0 [] := rfl
theorem tbX7_hours_76 {k : Instr → Nat → Nat → Nat → List Nat → Prop} : xse (xFind tbX7_hours 76) k = k (.iload 8) 8 0 0 [] := rfl
theorem tbX7_hours_78 {k : Instr → Nat → Nat → Nat → List Nat → Prop} : xse (xFind tbX7_hours 78) k = k (.aload_n 0) 0 0 0 [] := rfl
theorem tbX7_hours_79 {k : Instr → Nat → Nat → Nat → List Nat → Prop} : xse (xFind tbX7_hours 79) k = k (.getfield 10) 8 0 2 [] := rfl
theorem tbX7_hours_82 {k : Instr → Nat → Nat → Nat → List Nat → Prop} : xse (xFind tbX7_hours 82) k = k (.invokevirtual 108) 6 1 0 [] := rfl
theorem tbX7_hours_85 {k : Instr → Nat → Nat → Nat → List Nat → Prop} : xse (xFind tbX7_hours 85) k = k (.if_icmp .ge 56) 141 0 0 [] := rfl
theorem tbX7_hours_88 {k : Instr → Nat → Nat → Nat → List Nat → Prop} : xse (xFind tbX7_hours 88) k = k (.aload_n 0) 0 0 0 [] := rfl
theorem tbX7_hours_89 {k : Instr → Nat → Nat → Nat → List Nat → Prop} : xse (xFind tbX7_hours 89) k = k (.getfield 10) 8 0 2 [] := rfl
theorem tbX7_hours_92 {k : Instr → Nat → Nat → Nat → List Nat → Prop} : xse (xFind tbX7_hours 92) k = k (.iload 8) 8 0 0 [] := rfl
theorem tbX7_hours_94 {k : Instr → Nat → Nat → Nat → List Nat → Prop} : xse (xFind tbX7_hours 94) k = k (.invokevirtual 312) 7 2 0 [] := rfl
theorem tbX7_hours_97 {k : Instr → Nat → Nat → Nat → List Nat → Prop} : xse (xFind tbX7_hours 97) k = k (.checkcast 39) 6 0 0 [] := rfl
theorem tbX7_hours_100 {k : Instr → Nat → Nat → Nat → List Nat → Prop} : xse (xFind tbX7_hours 100) k = k (.astore 9) 9 0 0 [] := rfl
theorem tbX7_hours_102 {k : Instr → Nat → Nat → Nat → List Nat → Prop} : xse (xFind tbX7_hours 102) k = k (.aload_n 0) 0 0 0 [] := rfl
theorem tbX7_hours_103 {k : Instr → Nat → Nat → Nat → List Nat → Prop} : xse (xFind tbX7_hours 103) k = k (.aload_n 3) 3 0 0 [] := rfl
theorem tbX7_hours_104 {k : Instr → Nat → Nat → Nat → List Nat → Prop} : xse (xFind tbX7_hours 104) k = k (.aload 9) 9 0 0 [] := rfl
theorem tbX7_hours_106 {k : Instr → Nat → Nat → Nat → List Nat → Prop} : xse (xFind tbX7_hours 106) k = k (.iload 5) 5 0 0 [] := rfl
theorem tbX7_hours_108 {k : Instr → Nat → Nat → Nat → List Nat → Prop} : xse (xFind tbX7_hours 108) k = k (.invokevirtual 316) 8 4 8 [] := rfl
theorem tbX7_hours_111 {k : Instr → Nat → Nat → Nat → List Nat → Prop} : xse (xFind tbX7_hours 111) k = k (.ifCond .eq 5) 116 0 0 [] := rfl
theorem tbX7_hours_114 {k : Instr → Nat → Nat → Nat → List Nat → Prop} : xse (xFind tbX7_hours 114) k = k (.iconst (-1)) 0 0 0 [] := rfl
theorem tbX7_hours_115 {k : Instr → Nat → Nat → Nat → List Nat → Prop} : xse (xFind tbX7_hours 115) k = k (.ireturn) 0 0 0 [] := rfl
theorem tbX7_hours_116 {k : Instr → Nat → Nat → Nat → List Nat → Prop} : xse (xFind tbX7_hours 116) k = k (.iload 6) 6 0 0 [] := rfl
theorem tbX7_hours_118 {k : Instr → Nat → Nat → Nat → List Nat → Prop} : xse (xFind tbX7_hours 118) k = k (.aload 9) 9 0 0 [] := rfl
theorem tbX7_hours_120 {k : Instr → Nat → Nat → Nat → List Nat → Prop} : xse (xFind tbX7_hours 120) k = k (.aload_n 3) 3 0 0 [] := rfl
theorem tbX7_hours_121 {k : Instr → Nat → Nat → Nat → List Nat → Prop} : xse (xFind tbX7_hours 121) k = k (.getfield 232) 2 3 2 [] := rfl
theorem tbX7_hours_124 {k : Instr → Nat → Nat → Nat → List Nat → Prop} : xse (xFind tbX7_hours 124) k = k (.invokevirtual 101) 9 1 5 [] := rfl
theorem tbX7_hours_127 {k : Instr → Nat → Nat → Nat → List Nat → Prop} : xse (xFind tbX7_hours 127) k = k (.iload 5) 5 0 0 [] := rfl
theorem tbX7_hours_129 {k : Instr → Nat → Nat → Nat → List Nat → Prop} : xse (xFind tbX7_hours 129) k = k (.invokevirtual 320) 10 3 6 [] := rfl
theorem tbX7_hours_132 {k : Instr → Nat → Nat → Nat → List Nat → Prop} : xse (xFind tbX7_hours 132) k = k (.iadd) 0 0 0 [] := rfl
theorem tbX7_hours_133 {k : Instr → Nat → Nat → Nat → List Nat → Prop} : xse (xFind tbX7_hours 133) k = k (.istore 6) 6 0 0 [] := rfl
theorem tbX7_hours_135 {k : Instr → Nat → Nat → Nat → List Nat → Prop} : xse (xFind tbX7_hours 135) k = k (.iinc 8 1) 8 0 0 [] := rfl
theorem tbX7_hours_138 {k : Instr → Nat → Nat → Nat → List Nat → Prop} : xse (xFind tbX7_hours 138) k = k (.goto (-69)) 69 0 0 [] := rfl
theorem tbX7_hours_141 {k : Instr → Nat → Nat → Nat → List Nat → Prop} : xse (xFind tbX7_hours 141) k = k (.iload 6) 6 0 0 [] := rfl
theorem tbX7_hours_143 {k : Instr → Nat → Nat → Nat → List Nat → Prop} : xse (xFind tbX7_hours 143) k = k (.ireturn) 0 0 0 [] := rfl

def spX7_hours (W9 : xWd) : xSp cS := (fun av S => (2, 12), fun av S K => ∃ (a : Nat) (k : Int32) (p : Int32), av = [.ref a, .int k, .int p] ∧ (cK S a = 9 ∧ bAll S (cRf S a 804) ∧ (cIn S a 800 1 ∧ lAll S (cRf S a 800) 7 ∧ lCn S (cRf S a 800) = 7) ∧ cIn S a 804 1 ∧ lAll S (cRf S a 804) 3 ∧ (0 ≤ k ∧ k < cFi S (cRf S a 804) 2 → vp_in (cSt S (lG S (cRf S a 804) k.toNatClampNeg)) 8 ∧ (0 ≤ p ∧ p < 8 → K (rI (cHo S a (lG S (cRf S a 804) k.toNatClampNeg) (cSt S (lG S (cRf S a 804) k.toNatClampNeg)).toNatClampNeg p.toNatClampNeg)) S) ∧ (¬ (0 ≤ p ∧ p < 8) → K (rX "java/lang/IndexOutOfBoundsException") S)) ∧ (¬ (0 ≤ k ∧ k < cFi S (cRf S a 804) 2) → K (rX "java/lang/IndexOutOfBoundsException") S)))
theorem spcX7_hours {av : List Value} {S : cS} {W9 : xWd} : (spX7_hours W9).1 av S = (2, 12) := rfl
theorem spwX7_hours {S : cS} {W9 : xWd} {K : xRes → cS → Prop} {a : Nat} {k : Int32} {p : Int32} : (spX7_hours W9).2 [.ref a, .int k, .int p] S K = (cK S a = 9 ∧ bAll S (cRf S a 804) ∧ (cIn S a 800 1 ∧ lAll S (cRf S a 800) 7 ∧ lCn S (cRf S a 800) = 7) ∧ cIn S a 804 1 ∧ lAll S (cRf S a 804) 3 ∧ (0 ≤ k ∧ k < cFi S (cRf S a 804) 2 → vp_in (cSt S (lG S (cRf S a 804) k.toNatClampNeg)) 8 ∧ (0 ≤ p ∧ p < 8 → K (rI (cHo S a (lG S (cRf S a 804) k.toNatClampNeg) (cSt S (lG S (cRf S a 804) k.toNatClampNeg)).toNatClampNeg p.toNatClampNeg)) S) ∧ (¬ (0 ≤ p ∧ p < 8) → K (rX "java/lang/IndexOutOfBoundsException") S)) ∧ (¬ (0 ≤ k ∧ k < cFi S (cRf S a 804) 2) → K (rX "java/lang/IndexOutOfBoundsException") S)) :=
  propext ⟨fun h => by
    simp only [spX7_hours] at h
    obtain ⟨_, _, _, e, h⟩ := h
    simp only [List.cons.injEq, Value.int.injEq, Value.ref.injEq, rf_eq, and_true, true_and] at e
    obtain ⟨rfl, rfl, rfl⟩ := e
    exact h, fun h => ⟨_, _, _, rfl, h⟩⟩

def callX7_hours (W9 : xWd) : Nat → Option (xSp cS) := fun n => match n with | 0 => some (spX7_needBoat W9) | 1 => some (spX7_needPoint W9) | 2 => some (spX1_isUnderWay W9) | 3 => some (spX1_pointAhead W9) | 4 => some (sp_max cS) | 5 => some (sp_min cS) | 6 => some (spJx4a65c_size_8abf5 W9) | 7 => some (spJx4a65c_get_915e3 W9) | 8 => some (spX7_causeOfSize W9) | 9 => some (spX4_size W9) | 10 => some (spX5_hoursFor W9) | _ => none

theorem callX7_hours_0 {W9 : xWd} {k : xSp cS → Prop} : xcs (callX7_hours W9 0) k = k (spX7_needBoat W9) := rfl

theorem callX7_hours_1 {W9 : xWd} {k : xSp cS → Prop} : xcs (callX7_hours W9 1) k = k (spX7_needPoint W9) := rfl

theorem callX7_hours_2 {W9 : xWd} {k : xSp cS → Prop} : xcs (callX7_hours W9 2) k = k (spX1_isUnderWay W9) := rfl

theorem callX7_hours_3 {W9 : xWd} {k : xSp cS → Prop} : xcs (callX7_hours W9 3) k = k (spX1_pointAhead W9) := rfl

theorem callX7_hours_4 {W9 : xWd} {k : xSp cS → Prop} : xcs (callX7_hours W9 4) k = k (sp_max cS) := rfl

theorem callX7_hours_5 {W9 : xWd} {k : xSp cS → Prop} : xcs (callX7_hours W9 5) k = k (sp_min cS) := rfl

theorem callX7_hours_6 {W9 : xWd} {k : xSp cS → Prop} : xcs (callX7_hours W9 6) k = k (spJx4a65c_size_8abf5 W9) := rfl

theorem callX7_hours_7 {W9 : xWd} {k : xSp cS → Prop} : xcs (callX7_hours W9 7) k = k (spJx4a65c_get_915e3 W9) := rfl

theorem callX7_hours_8 {W9 : xWd} {k : xSp cS → Prop} : xcs (callX7_hours W9 8) k = k (spX7_causeOfSize W9) := rfl

theorem callX7_hours_9 {W9 : xWd} {k : xSp cS → Prop} : xcs (callX7_hours W9 9) k = k (spX4_size W9) := rfl

theorem callX7_hours_10 {W9 : xWd} {k : xSp cS → Prop} : xcs (callX7_hours W9 10) k = k (spX5_hoursFor W9) := rfl

theorem crX7_hours (l : Launch) (hl : l.stackTraces = false) (W9 : xWd) : xCallsOK l W9 (cI) (callX7_hours W9) clX7_hours RX7 wsX7_hours 8 131 10 := by
  intro E A p e R s m args below meth c hI hF hL X
  exact List.forall_mem_cons.mpr ⟨⟨_, rfl, xCR_V X (by rw [hI]; exact (semX7_needBoat l hl W9)) gX7_hours_X7_needBoat rfl rfl (by decide +kernel) (by rw [hF, hL]; decide)⟩,
    List.forall_mem_cons.mpr ⟨⟨_, rfl, xCR_S X (by rw [hI]; exact (semX7_needPoint l hl W9)) gX7_hours_X7_needPoint rfl (by decide +kernel) (by rw [hF, hL]; decide)⟩,
    List.forall_mem_cons.mpr ⟨⟨_, rfl, xCR_V X (by rw [hI]; exact (semX1_isUnderWay l hl W9)) gX7_hours_X1_isUnderWay rfl rfl (by decide +kernel) (by rw [hF, hL]; decide)⟩,
    List.forall_mem_cons.mpr ⟨⟨_, rfl, xCR_V X (by rw [hI]; exact (semX1_pointAhead l hl W9)) gX7_hours_X1_pointAhead rfl rfl (by decide +kernel) (by rw [hF, hL]; decide)⟩,
    List.forall_mem_cons.mpr ⟨⟨_, rfl, xCR_max X (by decide +kernel) (by decide +kernel) (by decide +kernel) (by decide +kernel) (by rw [hF, hL]; decide)⟩,
    List.forall_mem_cons.mpr ⟨⟨_, rfl, xCR_min X (by decide +kernel) (by decide +kernel) (by decide +kernel) (by decide +kernel) (by rw [hF, hL]; decide)⟩,
    List.forall_mem_cons.mpr ⟨⟨_, rfl, xCR_V X (by rw [hI]; exact (semJx4a65c_size_8abf5 l hl W9)) gX7_hours_Jx4a65c_size_8abf5 rfl rfl (by decide +kernel) (by rw [hF, hL]; decide)⟩,
    List.forall_mem_cons.mpr ⟨⟨_, rfl, xCR_V X (by rw [hI]; exact (semJx4a65c_get_915e3 l hl W9)) gX7_hours_Jx4a65c_get_915e3 rfl rfl (by decide +kernel) (by rw [hF, hL]; decide)⟩,
    List.forall_mem_cons.mpr ⟨⟨_, rfl, xCR_V X (by rw [hI]; exact (semX7_causeOfSize l hl W9)) gX7_hours_X7_causeOfSize rfl rfl (by decide +kernel) (by rw [hF, hL]; decide)⟩,
    List.forall_mem_cons.mpr ⟨⟨_, rfl, xCR_V X (by rw [hI]; exact (semX4_size l hl W9)) gX7_hours_X4_size rfl rfl (by decide +kernel) (by rw [hF, hL]; decide)⟩,
    List.forall_mem_cons.mpr ⟨⟨_, rfl, xCR_V X (by rw [hI]; exact (semX5_hoursFor l hl W9)) gX7_hours_X5_hoursFor rfl rfl (by decide +kernel) (by rw [hF, hL]; decide)⟩,
    fun _ h => nomatch h⟩⟩⟩⟩⟩⟩⟩⟩⟩⟩⟩

set_option maxHeartbeats 4000000 in
set_option maxRecDepth 20000 in
theorem semX7_hours (l : Launch) (hl : l.stackTraces = false) (W9 : xWd) : xSem l W9 (cI) yX7_hours wsX7_hours 8 131 (spX7_hours W9) := by
  refine xSem_of (call := callX7_hours W9) (thrf := fun _ => "") cI_law (by decide +kernel) rfl ckX7_hours usX7_hours (crX7_hours l hl W9) xThrOK_nil ?_ ?_
  · intro av S KF h
    obtain ⟨a, k, p, rfl, h⟩ := h
    exact ⟨by intro v hv; simp only [List.mem_cons, List.not_mem_nil, or_false] at hv; rcases hv with rfl | rfl | rfl <;> first | rfl | exact cat_rf, Nat.le_of_ble_eq_true rfl⟩
  intro av S KF h G hG
  obtain ⟨a, k, p, rfl, h⟩ := h
  rw [show (spX7_hours W9).1 _ S = _ from spcX7_hours] at hG
  try dsimp only at hG
  change G 0 [some (.ref a), some (.int k), some (.int p), none, none, none, none, none, none, none] [] S 0 0
  obtain ⟨h0, hb, ⟨⟨s1, s1b⟩, s2, s3⟩, h1, h2, h3, h4⟩ := h

  by_cases q : 0 ≤ k ∧ k < cFi S (cRf S a 804) 2
  · obtain ⟨h5, h6, h7⟩ := h3 q
    have ix := (lOk_in h2.1 q.1 q.2).2.2
    have g0 := (h2.2 _ ix).2
    have hB := hb.2 _ ix
    generalize hb0 : lG S (cRf S a 804) k.toNatClampNeg = b at *
    obtain ⟨b1, ⟨b2, b2b⟩, b3⟩ := hB
    have hB : bOk S b := ⟨b1, ⟨b2, b2b⟩, b3⟩
    obtain ⟨f1, f2, f3, f4, f5, f6⟩ := rOk_facts b3
    have f7 := b3.2.1
    have f8 : cRf S (cRf S b 203) 505 = rL S (cRf S b 203) := rfl
    obtain ⟨t1, t2, t3, t4⟩ := lAll_facts s2
    rw [s3] at t3
    by_cases hp : 0 ≤ p ∧ p < 8
    · have h := h6 hp
      obtain ⟨x, hx, ex⟩ := vp_in_of h5 (by omega)
      obtain ⟨y, hy, rfl⟩ := vp_in_of (show vp_in p 8 by
        have a1 := Int32.le_iff_toInt_le.mp hp.1
        have a2 := Int32.lt_iff_toInt_lt.mp hp.2
        rw [vp_in_iff]
        have c1 : (0 : Int32).toInt = 0 := rfl
        have c2 : (8 : Int32).toInt = 8 := rfl
        omega) (by omega)
      rw [ex, ix_nI (by omega), ix_nI (by omega)] at h
      unfold cHo at h
      generalize hu : bi (x < y) = u at *
      have hu01 : u = 0 ∨ u = 1 := by rw [← hu]; exact bi_01 _
      generalize hlo : (if x < y then x else y) = lo at *
      generalize hn : (if x < y then y - x else x - y) = n at *
      have hbd : lo + n < 8 := by split at hlo <;> split at hn <;> omega
      have loop := xloop hG 69 [true, true, true, true, true, true, true, true, true, false] (fun j lv st S2 cs ss => lv = [some (.ref a), some (.int k), some (.int (nI y)), some (.ref b), some (.int (nI x)), some (.int u), some (.int (cHs S (cRf S a 800) b u lo j)), some (.int (nI (lo + n))), some (.int (nI (lo + j))), none] ∧ st = [] ∧ S = S2 ∧ cs = 2 ∧ ss = 12 ∧ cHb S a (cRf S a 800) b u lo j = false) n (by
          rintro j hj lv st S2 cs ss ⟨rfl, rfl, rfl, rfl, rfl, hd⟩ fu hfu
          obtain ⟨g1, g2⟩ := s2.2 (lo + j) (by omega)
          have e0 : (nI (lo + n) ≤ nI (lo + j)) = False := ge_nI (show lo + j < lo + n by omega) (by omega)
          have e1 : (nI 7 ≤ nI (lo + j)) = False := ge_nI (show lo + j < 7 by omega) (by omega)
          have e2 := lt0_nI (show lo + j < 7 by omega) (show 7 < 1000 by omega)
          have hs1 : cHs S (cRf S a 800) b u lo (j + 1) = cHs S (cRf S a 800) b u lo j + cHr S (lG S (cRf S a 800) (lo + j)) (nI (rN S (cRf S b 203))) u := rfl
          have hs2 : cHb S a (cRf S a 800) b u lo (j + 1) = (cHb S a (cRf S a 800) b u lo j || decide (¬ cSz S a b (lG S (cRf S a 800) (lo + j)) u = 0)) := rfl
          by_cases c : cSz S a b (lG S (cRf S a 800) (lo + j)) u = 0
          · rw [hd, decide_eq_false (fun z => z c)] at hs2
            unfold cHr at hs1
            simp only [↓callX7_hours_0, ↓callX7_hours_1, ↓callX7_hours_10, ↓callX7_hours_2, ↓callX7_hours_3, ↓callX7_hours_4, ↓callX7_hours_5, ↓callX7_hours_6, ↓callX7_hours_7, ↓callX7_hours_8, ↓callX7_hours_9, ↓cg_2_3, ↓cg_2_6, ↓cg_2_9, ↓cg_8_0, cisa, ki_0, ki_1, ki_m1, ↓vm_aload, ↓vm_aload_n, ↓vm_astore, ↓vm_astore_n, ↓vm_checkcast, ↓vm_getfield, ↓vm_goto, ↓vm_iadd, ↓vm_iconst, ↓vm_ifCond_eq, ↓vm_if_icmp_ge, ↓vm_if_icmp_le, ↓vm_iinc, ↓vm_iload, ↓vm_iload_n, ↓vm_invokestatic, ↓vm_invokevirtual, ↓vm_ireturn, ↓vm_istore, ↓xc_1, ↓xc_2, ↓xc_3, ↓xc_4, ↓tbX7_hours_0, ↓tbX7_hours_1, ↓tbX7_hours_2, ↓tbX7_hours_5, ↓tbX7_hours_6, ↓tbX7_hours_7, ↓tbX7_hours_10, ↓tbX7_hours_11, ↓tbX7_hours_14, ↓tbX7_hours_17, ↓tbX7_hours_18, ↓tbX7_hours_21, ↓tbX7_hours_24, ↓tbX7_hours_25, ↓tbX7_hours_28, ↓tbX7_hours_30, ↓tbX7_hours_31, ↓tbX7_hours_33, ↓tbX7_hours_36, ↓tbX7_hours_37, ↓tbX7_hours_40, ↓tbX7_hours_41, ↓tbX7_hours_43, ↓tbX7_hours_44, ↓tbX7_hours_47, ↓tbX7_hours_49, ↓tbX7_hours_51, ↓tbX7_hours_52, ↓tbX7_hours_55, ↓tbX7_hours_57, ↓tbX7_hours_58, ↓tbX7_hours_60, ↓tbX7_hours_61, ↓tbX7_hours_64, ↓tbX7_hours_67, ↓tbX7_hours_69, ↓tbX7_hours_71, ↓tbX7_hours_73, ↓tbX7_hours_76, ↓tbX7_hours_78, ↓tbX7_hours_79, ↓tbX7_hours_82, ↓tbX7_hours_85, ↓tbX7_hours_88, ↓tbX7_hours_89, ↓tbX7_hours_92, ↓tbX7_hours_94, ↓tbX7_hours_97, ↓tbX7_hours_100, ↓tbX7_hours_102, ↓tbX7_hours_103, ↓tbX7_hours_104, ↓tbX7_hours_106, ↓tbX7_hours_108, ↓tbX7_hours_111, ↓tbX7_hours_114, ↓tbX7_hours_115, ↓tbX7_hours_116, ↓tbX7_hours_118, ↓tbX7_hours_120, ↓tbX7_hours_121, ↓tbX7_hours_124, ↓tbX7_hours_127, ↓tbX7_hours_129, ↓tbX7_hours_132, ↓tbX7_hours_133, ↓tbX7_hours_135, ↓tbX7_hours_138, ↓tbX7_hours_141, ↓tbX7_hours_143, hfu, xstep0, xJ1_hit, xJ1_go, xJ2_hit1, xJ2_hit2, xJ2_go, ↓xif_t, ↓xif_f, seval, ↓xca_eq, ↓xre_l, ↓xre_r, xmask_t, xmask_f, xmask_nil, ↓xst_eq, xX_eq, eI_eq, eMc_eq, eMs_eq, eF_eq, eThr_eq, ↓xS1_mk, ↓xSI_mk, ↓xSR_mk, ↓xLI_0, ↓xLI_s, ↓xLR_0, ↓xLR_s, vRef_ref, vRef_null, vRef_rf, cat_int, cat_ref, cat_null, cat_rf, rf_some, rf_none, rf_null, rf_eq, rf_ref, ref_rf, ref_null, ref_ref, xOk_0, xOk_1, xOk_2r, xOk_2n, xOk_2f, vOpt_rf, vOpt_ref, vOpt_null, List.set_cons_zero, List.set_cons_succ, List.take_succ_cons, List.take_zero, List.drop_succ_cons, List.drop_zero, List.reverse_cons, List.reverse_nil, List.nil_append, List.cons_append, List.append_nil, List.length_cons, List.length_nil, List.map_cons, List.map_nil, List.sum_cons, List.sum_nil, Option.toList_some, Option.toList_none, xRecv_mk, true_and, and_true, true_implies, Nat.reduceAdd, Nat.reduceLeDiff, Nat.zero_le, Nat.le_refl, Nat.add_zero, Nat.zero_add, reduceIte, not_true_eq_false, not_false_eq_true, false_implies, and_self, implies_true, eq_self, Nat.reduceEqDiff, List.cons.injEq, xsn_1, xsn_2, false_and, and_false, or_false, false_or, or_true, true_or, xsn_3, xsn_4, ↓spwX7_needBoat, spcX7_needBoat, ↓spwX7_needPoint, spcX7_needPoint, ↓spwX1_isUnderWay, spcX1_isUnderWay, ↓spwX1_pointAhead, spcX1_pointAhead, ↓sp_max_w, sp_max_c, ↓sp_min_w, sp_min_c, ↓spwJx4a65c_size_8abf5, spcJx4a65c_size_8abf5, ↓spwJx4a65c_get_915e3, spcJx4a65c_get_915e3, ↓spwX7_causeOfSize, spcX7_causeOfSize, ↓spwX4_size, spcX4_size, ↓spwX5_hoursFor, spcX5_hoursFor, h0, s1, t1, t2, t3, hB, b1, b2, b2b, b3, f1, f5, f7, f8, hu01, e0, e1, pos_nI (show lo + j < 1000 by omega), e2, ix_nI (show lo + j < 1000 by omega), g1, g2, c, nI1, hs1, hs2]
            try simp only [xif_e]
            first | done | (repeat' (first | rfl | apply And.intro))
          · have z := cHb_t c n hj
            rw [if_pos z] at h
            simp only [↓callX7_hours_0, ↓callX7_hours_1, ↓callX7_hours_10, ↓callX7_hours_2, ↓callX7_hours_3, ↓callX7_hours_4, ↓callX7_hours_5, ↓callX7_hours_6, ↓callX7_hours_7, ↓callX7_hours_8, ↓callX7_hours_9, ↓cg_2_3, ↓cg_2_6, ↓cg_2_9, ↓cg_8_0, cisa, ki_0, ki_1, ki_m1, ↓vm_aload, ↓vm_aload_n, ↓vm_astore, ↓vm_astore_n, ↓vm_checkcast, ↓vm_getfield, ↓vm_goto, ↓vm_iadd, ↓vm_iconst, ↓vm_ifCond_eq, ↓vm_if_icmp_ge, ↓vm_if_icmp_le, ↓vm_iinc, ↓vm_iload, ↓vm_iload_n, ↓vm_invokestatic, ↓vm_invokevirtual, ↓vm_ireturn, ↓vm_istore, ↓xc_1, ↓xc_2, ↓xc_3, ↓xc_4, ↓tbX7_hours_0, ↓tbX7_hours_1, ↓tbX7_hours_2, ↓tbX7_hours_5, ↓tbX7_hours_6, ↓tbX7_hours_7, ↓tbX7_hours_10, ↓tbX7_hours_11, ↓tbX7_hours_14, ↓tbX7_hours_17, ↓tbX7_hours_18, ↓tbX7_hours_21, ↓tbX7_hours_24, ↓tbX7_hours_25, ↓tbX7_hours_28, ↓tbX7_hours_30, ↓tbX7_hours_31, ↓tbX7_hours_33, ↓tbX7_hours_36, ↓tbX7_hours_37, ↓tbX7_hours_40, ↓tbX7_hours_41, ↓tbX7_hours_43, ↓tbX7_hours_44, ↓tbX7_hours_47, ↓tbX7_hours_49, ↓tbX7_hours_51, ↓tbX7_hours_52, ↓tbX7_hours_55, ↓tbX7_hours_57, ↓tbX7_hours_58, ↓tbX7_hours_60, ↓tbX7_hours_61, ↓tbX7_hours_64, ↓tbX7_hours_67, ↓tbX7_hours_69, ↓tbX7_hours_71, ↓tbX7_hours_73, ↓tbX7_hours_76, ↓tbX7_hours_78, ↓tbX7_hours_79, ↓tbX7_hours_82, ↓tbX7_hours_85, ↓tbX7_hours_88, ↓tbX7_hours_89, ↓tbX7_hours_92, ↓tbX7_hours_94, ↓tbX7_hours_97, ↓tbX7_hours_100, ↓tbX7_hours_102, ↓tbX7_hours_103, ↓tbX7_hours_104, ↓tbX7_hours_106, ↓tbX7_hours_108, ↓tbX7_hours_111, ↓tbX7_hours_114, ↓tbX7_hours_115, ↓tbX7_hours_116, ↓tbX7_hours_118, ↓tbX7_hours_120, ↓tbX7_hours_121, ↓tbX7_hours_124, ↓tbX7_hours_127, ↓tbX7_hours_129, ↓tbX7_hours_132, ↓tbX7_hours_133, ↓tbX7_hours_135, ↓tbX7_hours_138, ↓tbX7_hours_141, ↓tbX7_hours_143, hfu, xstep0, xJ1_hit, xJ1_go, xJ2_hit1, xJ2_hit2, xJ2_go, ↓xif_t, ↓xif_f, seval, ↓xca_eq, ↓xre_l, ↓xre_r, xmask_t, xmask_f, xmask_nil, ↓xst_eq, xX_eq, eI_eq, eMc_eq, eMs_eq, eF_eq, eThr_eq, ↓xS1_mk, ↓xSI_mk, ↓xSR_mk, ↓xLI_0, ↓xLI_s, ↓xLR_0, ↓xLR_s, vRef_ref, vRef_null, vRef_rf, cat_int, cat_ref, cat_null, cat_rf, rf_some, rf_none, rf_null, rf_eq, rf_ref, ref_rf, ref_null, ref_ref, xOk_0, xOk_1, xOk_2r, xOk_2n, xOk_2f, vOpt_rf, vOpt_ref, vOpt_null, List.set_cons_zero, List.set_cons_succ, List.take_succ_cons, List.take_zero, List.drop_succ_cons, List.drop_zero, List.reverse_cons, List.reverse_nil, List.nil_append, List.cons_append, List.append_nil, List.length_cons, List.length_nil, List.map_cons, List.map_nil, List.sum_cons, List.sum_nil, Option.toList_some, Option.toList_none, xRecv_mk, true_and, and_true, true_implies, Nat.reduceAdd, Nat.reduceLeDiff, Nat.zero_le, Nat.le_refl, Nat.add_zero, Nat.zero_add, reduceIte, not_true_eq_false, not_false_eq_true, false_implies, and_self, implies_true, eq_self, Nat.reduceEqDiff, List.cons.injEq, xsn_1, xsn_2, false_and, and_false, or_false, false_or, or_true, true_or, xsn_3, xsn_4, ↓spwX7_needBoat, spcX7_needBoat, ↓spwX7_needPoint, spcX7_needPoint, ↓spwX1_isUnderWay, spcX1_isUnderWay, ↓spwX1_pointAhead, spcX1_pointAhead, ↓sp_max_w, sp_max_c, ↓sp_min_w, sp_min_c, ↓spwJx4a65c_size_8abf5, spcJx4a65c_size_8abf5, ↓spwJx4a65c_get_915e3, spcJx4a65c_get_915e3, ↓spwX7_causeOfSize, spcX7_causeOfSize, ↓spwX4_size, spcX4_size, ↓spwX5_hoursFor, spcX5_hoursFor, h0, s1, t1, t2, t3, hB, b1, b2, b2b, b3, f1, f5, f7, f8, hu01, e0, e1, pos_nI (show lo + j < 1000 by omega), e2, ix_nI (show lo + j < 1000 by omega), g1, g2, c]
            try simp only [xif_e]
            exact h) (by
          rintro lv st S2 cs ss ⟨rfl, rfl, rfl, rfl, rfl, hd⟩ fu hfu
          rw [hd] at h
          have h : KF (rI (cHs S (cRf S a 800) b u lo n)) S := h
          simp only [↓callX7_hours_0, ↓callX7_hours_1, ↓callX7_hours_10, ↓callX7_hours_2, ↓callX7_hours_3, ↓callX7_hours_4, ↓callX7_hours_5, ↓callX7_hours_6, ↓callX7_hours_7, ↓callX7_hours_8, ↓callX7_hours_9, ↓cg_2_3, ↓cg_2_6, ↓cg_2_9, ↓cg_8_0, cisa, ki_0, ki_1, ki_m1, ↓vm_aload, ↓vm_aload_n, ↓vm_astore, ↓vm_astore_n, ↓vm_checkcast, ↓vm_getfield, ↓vm_goto, ↓vm_iadd, ↓vm_iconst, ↓vm_ifCond_eq, ↓vm_if_icmp_ge, ↓vm_if_icmp_le, ↓vm_iinc, ↓vm_iload, ↓vm_iload_n, ↓vm_invokestatic, ↓vm_invokevirtual, ↓vm_ireturn, ↓vm_istore, ↓xc_1, ↓xc_2, ↓xc_3, ↓xc_4, ↓tbX7_hours_0, ↓tbX7_hours_1, ↓tbX7_hours_2, ↓tbX7_hours_5, ↓tbX7_hours_6, ↓tbX7_hours_7, ↓tbX7_hours_10, ↓tbX7_hours_11, ↓tbX7_hours_14, ↓tbX7_hours_17, ↓tbX7_hours_18, ↓tbX7_hours_21, ↓tbX7_hours_24, ↓tbX7_hours_25, ↓tbX7_hours_28, ↓tbX7_hours_30, ↓tbX7_hours_31, ↓tbX7_hours_33, ↓tbX7_hours_36, ↓tbX7_hours_37, ↓tbX7_hours_40, ↓tbX7_hours_41, ↓tbX7_hours_43, ↓tbX7_hours_44, ↓tbX7_hours_47, ↓tbX7_hours_49, ↓tbX7_hours_51, ↓tbX7_hours_52, ↓tbX7_hours_55, ↓tbX7_hours_57, ↓tbX7_hours_58, ↓tbX7_hours_60, ↓tbX7_hours_61, ↓tbX7_hours_64, ↓tbX7_hours_67, ↓tbX7_hours_69, ↓tbX7_hours_71, ↓tbX7_hours_73, ↓tbX7_hours_76, ↓tbX7_hours_78, ↓tbX7_hours_79, ↓tbX7_hours_82, ↓tbX7_hours_85, ↓tbX7_hours_88, ↓tbX7_hours_89, ↓tbX7_hours_92, ↓tbX7_hours_94, ↓tbX7_hours_97, ↓tbX7_hours_100, ↓tbX7_hours_102, ↓tbX7_hours_103, ↓tbX7_hours_104, ↓tbX7_hours_106, ↓tbX7_hours_108, ↓tbX7_hours_111, ↓tbX7_hours_114, ↓tbX7_hours_115, ↓tbX7_hours_116, ↓tbX7_hours_118, ↓tbX7_hours_120, ↓tbX7_hours_121, ↓tbX7_hours_124, ↓tbX7_hours_127, ↓tbX7_hours_129, ↓tbX7_hours_132, ↓tbX7_hours_133, ↓tbX7_hours_135, ↓tbX7_hours_138, ↓tbX7_hours_141, ↓tbX7_hours_143, hfu, xstep0, xJ1_hit, xJ1_go, xJ2_hit1, xJ2_hit2, xJ2_go, ↓xif_t, ↓xif_f, seval, ↓xca_eq, ↓xre_l, ↓xre_r, xmask_t, xmask_f, xmask_nil, ↓xst_eq, xX_eq, eI_eq, eMc_eq, eMs_eq, eF_eq, eThr_eq, ↓xS1_mk, ↓xSI_mk, ↓xSR_mk, ↓xLI_0, ↓xLI_s, ↓xLR_0, ↓xLR_s, vRef_ref, vRef_null, vRef_rf, cat_int, cat_ref, cat_null, cat_rf, rf_some, rf_none, rf_null, rf_eq, rf_ref, ref_rf, ref_null, ref_ref, xOk_0, xOk_1, xOk_2r, xOk_2n, xOk_2f, vOpt_rf, vOpt_ref, vOpt_null, List.set_cons_zero, List.set_cons_succ, List.take_succ_cons, List.take_zero, List.drop_succ_cons, List.drop_zero, List.reverse_cons, List.reverse_nil, List.nil_append, List.cons_append, List.append_nil, List.length_cons, List.length_nil, List.map_cons, List.map_nil, List.sum_cons, List.sum_nil, Option.toList_some, Option.toList_none, xRecv_mk, true_and, and_true, true_implies, Nat.reduceAdd, Nat.reduceLeDiff, Nat.zero_le, Nat.le_refl, Nat.add_zero, Nat.zero_add, reduceIte, not_true_eq_false, not_false_eq_true, false_implies, and_self, implies_true, eq_self, Nat.reduceEqDiff, List.cons.injEq, xsn_1, xsn_2, false_and, and_false, or_false, false_or, or_true, true_or, xsn_3, xsn_4, ↓spwX7_needBoat, spcX7_needBoat, ↓spwX7_needPoint, spcX7_needPoint, ↓spwX1_isUnderWay, spcX1_isUnderWay, ↓spwX1_pointAhead, spcX1_pointAhead, ↓sp_max_w, sp_max_c, ↓sp_min_w, sp_min_c, ↓spwJx4a65c_size_8abf5, spcJx4a65c_size_8abf5, ↓spwJx4a65c_get_915e3, spcJx4a65c_get_915e3, ↓spwX7_causeOfSize, spcX7_causeOfSize, ↓spwX4_size, spcX4_size, ↓spwX5_hoursFor, spcX5_hoursFor, le_nI_self]
          try simp only [xif_e]
          exact h)
      refine xgo hG (mb := [true, true, true, true, true, true, true, true, true, false]) (loop 0 (Nat.zero_le _)) (pc := 0) (fun fu hfu => ?_)
      have hst := ex
      unfold cSt at hst
      have m1 : (if nI x < nI y then nI y else nI x) = nI (lo + n) := by
        by_cases d : x < y
        · rw [if_pos (nI_lt d (by omega))]; rw [if_pos d] at hlo hn; congr 1; omega
        · rw [if_neg (fun z => d (by rwa [lt_nI (by omega) (by omega)] at z))]; rw [if_neg d] at hlo hn; congr 1; omega
      have m2 : (if nI y < nI x then nI y else nI x) = nI lo := by
        by_cases d : x < y
        · rw [if_neg (fun z => by rw [lt_nI (by omega) (by omega)] at z; omega)]; rw [if_pos d] at hlo; rw [hlo]
        · rw [if_neg d] at hlo
          by_cases d2 : y < x
          · rw [if_pos (nI_lt d2 (by omega)), hlo]
          · have : x = y := by omega
            rw [if_neg (fun z => d2 (by rwa [lt_nI (by omega) (by omega)] at z)), this, hlo]
      have m3 : (if (0 : Int32) < nI lo then nI lo else 0) = nI lo := by
        by_cases d : lo = 0
        · rw [d]; rfl
        · rw [if_pos (show (0 : Int32) < nI lo from nI_lt (a := 0) (b := lo) (by omega) (by omega))]
      have m4 : (nI y ≤ nI x) = ¬ (x < y) := by rw [le_nI (by omega) (by omega)]; simp
      simp only [↓callX7_hours_0, ↓callX7_hours_1, ↓callX7_hours_10, ↓callX7_hours_2, ↓callX7_hours_3, ↓callX7_hours_4, ↓callX7_hours_5, ↓callX7_hours_6, ↓callX7_hours_7, ↓callX7_hours_8, ↓callX7_hours_9, ↓cg_2_3, ↓cg_2_6, ↓cg_2_9, ↓cg_8_0, cisa, ki_0, ki_1, ki_m1, ↓vm_aload, ↓vm_aload_n, ↓vm_astore, ↓vm_astore_n, ↓vm_checkcast, ↓vm_getfield, ↓vm_goto, ↓vm_iadd, ↓vm_iconst, ↓vm_ifCond_eq, ↓vm_if_icmp_ge, ↓vm_if_icmp_le, ↓vm_iinc, ↓vm_iload, ↓vm_iload_n, ↓vm_invokestatic, ↓vm_invokevirtual, ↓vm_ireturn, ↓vm_istore, ↓xc_1, ↓xc_2, ↓xc_3, ↓xc_4, ↓tbX7_hours_0, ↓tbX7_hours_1, ↓tbX7_hours_2, ↓tbX7_hours_5, ↓tbX7_hours_6, ↓tbX7_hours_7, ↓tbX7_hours_10, ↓tbX7_hours_11, ↓tbX7_hours_14, ↓tbX7_hours_17, ↓tbX7_hours_18, ↓tbX7_hours_21, ↓tbX7_hours_24, ↓tbX7_hours_25, ↓tbX7_hours_28, ↓tbX7_hours_30, ↓tbX7_hours_31, ↓tbX7_hours_33, ↓tbX7_hours_36, ↓tbX7_hours_37, ↓tbX7_hours_40, ↓tbX7_hours_41, ↓tbX7_hours_43, ↓tbX7_hours_44, ↓tbX7_hours_47, ↓tbX7_hours_49, ↓tbX7_hours_51, ↓tbX7_hours_52, ↓tbX7_hours_55, ↓tbX7_hours_57, ↓tbX7_hours_58, ↓tbX7_hours_60, ↓tbX7_hours_61, ↓tbX7_hours_64, ↓tbX7_hours_67, ↓tbX7_hours_69, ↓tbX7_hours_71, ↓tbX7_hours_73, ↓tbX7_hours_76, ↓tbX7_hours_78, ↓tbX7_hours_79, ↓tbX7_hours_82, ↓tbX7_hours_85, ↓tbX7_hours_88, ↓tbX7_hours_89, ↓tbX7_hours_92, ↓tbX7_hours_94, ↓tbX7_hours_97, ↓tbX7_hours_100, ↓tbX7_hours_102, ↓tbX7_hours_103, ↓tbX7_hours_104, ↓tbX7_hours_106, ↓tbX7_hours_108, ↓tbX7_hours_111, ↓tbX7_hours_114, ↓tbX7_hours_115, ↓tbX7_hours_116, ↓tbX7_hours_118, ↓tbX7_hours_120, ↓tbX7_hours_121, ↓tbX7_hours_124, ↓tbX7_hours_127, ↓tbX7_hours_129, ↓tbX7_hours_132, ↓tbX7_hours_133, ↓tbX7_hours_135, ↓tbX7_hours_138, ↓tbX7_hours_141, ↓tbX7_hours_143, hfu, xstep0, xJ1_hit, xJ1_go, xJ2_hit1, xJ2_hit2, xJ2_go, ↓xif_t, ↓xif_f, seval, ↓xca_eq, ↓xre_l, ↓xre_r, xmask_t, xmask_f, xmask_nil, ↓xst_eq, xX_eq, eI_eq, eMc_eq, eMs_eq, eF_eq, eThr_eq, ↓xS1_mk, ↓xSI_mk, ↓xSR_mk, ↓xLI_0, ↓xLI_s, ↓xLR_0, ↓xLR_s, vRef_ref, vRef_null, vRef_rf, cat_int, cat_ref, cat_null, cat_rf, rf_some, rf_none, rf_null, rf_eq, rf_ref, ref_rf, ref_null, ref_ref, xOk_0, xOk_1, xOk_2r, xOk_2n, xOk_2f, vOpt_rf, vOpt_ref, vOpt_null, List.set_cons_zero, List.set_cons_succ, List.take_succ_cons, List.take_zero, List.drop_succ_cons, List.drop_zero, List.reverse_cons, List.reverse_nil, List.nil_append, List.cons_append, List.append_nil, List.length_cons, List.length_nil, List.map_cons, List.map_nil, List.sum_cons, List.sum_nil, Option.toList_some, Option.toList_none, xRecv_mk, true_and, and_true, true_implies, Nat.reduceAdd, Nat.reduceLeDiff, Nat.zero_le, Nat.le_refl, Nat.add_zero, Nat.zero_add, reduceIte, not_true_eq_false, not_false_eq_true, false_implies, and_self, implies_true, eq_self, Nat.reduceEqDiff, List.cons.injEq, xsn_1, xsn_2, false_and, and_false, or_false, false_or, or_true, true_or, xsn_3, xsn_4, ↓spwX7_needBoat, spcX7_needBoat, ↓spwX7_needPoint, spcX7_needPoint, ↓spwX1_isUnderWay, spcX1_isUnderWay, ↓spwX1_pointAhead, spcX1_pointAhead, ↓sp_max_w, sp_max_c, ↓sp_min_w, sp_min_c, ↓spwJx4a65c_size_8abf5, spcJx4a65c_size_8abf5, ↓spwJx4a65c_get_915e3, spcJx4a65c_get_915e3, ↓spwX7_causeOfSize, spcX7_causeOfSize, ↓spwX4_size, spcX4_size, ↓spwX5_hoursFor, spcX5_hoursFor, h0, h1, h2, q, hb0, g0, hp, bi_0]
      try simp only [xif_e]
      have z0 : cHs S (cRf S a 800) b u lo 0 = cFi S b 209 := rfl
      have z1 : cHb S a (cRf S a 800) b u lo 0 = false := rfl
      repeat' (first | with_reducible apply And.intro | with_reducible intro _)
      all_goals grind [bi]
    · have h := h7 hp
      refine xgo hG (mb := []) (head := 10) (P := fun _ _ _ _ _ => False) (fun _ _ _ _ _ q => q.elim) (pc := 0) (fun fu hfu => ?_)
      simp only [↓callX7_hours_0, ↓callX7_hours_1, ↓callX7_hours_10, ↓callX7_hours_2, ↓callX7_hours_3, ↓callX7_hours_4, ↓callX7_hours_5, ↓callX7_hours_6, ↓callX7_hours_7, ↓callX7_hours_8, ↓callX7_hours_9, ↓cg_2_3, ↓cg_2_6, ↓cg_2_9, ↓cg_8_0, cisa, ki_0, ki_1, ki_m1, ↓vm_aload, ↓vm_aload_n, ↓vm_astore, ↓vm_astore_n, ↓vm_checkcast, ↓vm_getfield, ↓vm_goto, ↓vm_iadd, ↓vm_iconst, ↓vm_ifCond_eq, ↓vm_if_icmp_ge, ↓vm_if_icmp_le, ↓vm_iinc, ↓vm_iload, ↓vm_iload_n, ↓vm_invokestatic, ↓vm_invokevirtual, ↓vm_ireturn, ↓vm_istore, ↓xc_1, ↓xc_2, ↓xc_3, ↓xc_4, ↓tbX7_hours_0, ↓tbX7_hours_1, ↓tbX7_hours_2, ↓tbX7_hours_5, ↓tbX7_hours_6, ↓tbX7_hours_7, ↓tbX7_hours_10, ↓tbX7_hours_11, ↓tbX7_hours_14, ↓tbX7_hours_17, ↓tbX7_hours_18, ↓tbX7_hours_21, ↓tbX7_hours_24, ↓tbX7_hours_25, ↓tbX7_hours_28, ↓tbX7_hours_30, ↓tbX7_hours_31, ↓tbX7_hours_33, ↓tbX7_hours_36, ↓tbX7_hours_37, ↓tbX7_hours_40, ↓tbX7_hours_41, ↓tbX7_hours_43, ↓tbX7_hours_44, ↓tbX7_hours_47, ↓tbX7_hours_49, ↓tbX7_hours_51, ↓tbX7_hours_52, ↓tbX7_hours_55, ↓tbX7_hours_57, ↓tbX7_hours_58, ↓tbX7_hours_60, ↓tbX7_hours_61, ↓tbX7_hours_64, ↓tbX7_hours_67, ↓tbX7_hours_69, ↓tbX7_hours_71, ↓tbX7_hours_73, ↓tbX7_hours_76, ↓tbX7_hours_78, ↓tbX7_hours_79, ↓tbX7_hours_82, ↓tbX7_hours_85, ↓tbX7_hours_88, ↓tbX7_hours_89, ↓tbX7_hours_92, ↓tbX7_hours_94, ↓tbX7_hours_97, ↓tbX7_hours_100, ↓tbX7_hours_102, ↓tbX7_hours_103, ↓tbX7_hours_104, ↓tbX7_hours_106, ↓tbX7_hours_108, ↓tbX7_hours_111, ↓tbX7_hours_114, ↓tbX7_hours_115, ↓tbX7_hours_116, ↓tbX7_hours_118, ↓tbX7_hours_120, ↓tbX7_hours_121, ↓tbX7_hours_124, ↓tbX7_hours_127, ↓tbX7_hours_129, ↓tbX7_hours_132, ↓tbX7_hours_133, ↓tbX7_hours_135, ↓tbX7_hours_138, ↓tbX7_hours_141, ↓tbX7_hours_143, hfu, xstep0, xJ1_hit, xJ1_go, xJ2_hit1, xJ2_hit2, xJ2_go, ↓xif_t, ↓xif_f, seval, ↓xca_eq, ↓xre_l, ↓xre_r, xmask_t, xmask_f, xmask_nil, ↓xst_eq, xX_eq, eI_eq, eMc_eq, eMs_eq, eF_eq, eThr_eq, ↓xS1_mk, ↓xSI_mk, ↓xSR_mk, ↓xLI_0, ↓xLI_s, ↓xLR_0, ↓xLR_s, vRef_ref, vRef_null, vRef_rf, cat_int, cat_ref, cat_null, cat_rf, rf_some, rf_none, rf_null, rf_eq, rf_ref, ref_rf, ref_null, ref_ref, xOk_0, xOk_1, xOk_2r, xOk_2n, xOk_2f, vOpt_rf, vOpt_ref, vOpt_null, List.set_cons_zero, List.set_cons_succ, List.take_succ_cons, List.take_zero, List.drop_succ_cons, List.drop_zero, List.reverse_cons, List.reverse_nil, List.nil_append, List.cons_append, List.append_nil, List.length_cons, List.length_nil, List.map_cons, List.map_nil, List.sum_cons, List.sum_nil, Option.toList_some, Option.toList_none, xRecv_mk, true_and, and_true, true_implies, Nat.reduceAdd, Nat.reduceLeDiff, Nat.zero_le, Nat.le_refl, Nat.add_zero, Nat.zero_add, reduceIte, not_true_eq_false, not_false_eq_true, false_implies, and_self, implies_true, eq_self, Nat.reduceEqDiff, List.cons.injEq, xsn_1, xsn_2, false_and, and_false, or_false, false_or, or_true, true_or, xsn_3, xsn_4, ↓spwX7_needBoat, spcX7_needBoat, ↓spwX7_needPoint, spcX7_needPoint, ↓spwX1_isUnderWay, spcX1_isUnderWay, ↓spwX1_pointAhead, spcX1_pointAhead, ↓sp_max_w, sp_max_c, ↓sp_min_w, sp_min_c, ↓spwJx4a65c_size_8abf5, spcJx4a65c_size_8abf5, ↓spwJx4a65c_get_915e3, spcJx4a65c_get_915e3, ↓spwX7_causeOfSize, spcX7_causeOfSize, ↓spwX4_size, spcX4_size, ↓spwX5_hoursFor, spcX5_hoursFor, h0, h1, h2, q, hb0, g0, hp]
      try simp only [xif_e]
      first | exact h | grind
  · have h := h4 q
    refine xgo hG (mb := []) (head := 6) (P := fun _ _ _ _ _ => False) (fun _ _ _ _ _ q => q.elim) (pc := 0) (fun fu hfu => ?_)
    simp only [↓callX7_hours_0, ↓callX7_hours_1, ↓callX7_hours_10, ↓callX7_hours_2, ↓callX7_hours_3, ↓callX7_hours_4, ↓callX7_hours_5, ↓callX7_hours_6, ↓callX7_hours_7, ↓callX7_hours_8, ↓callX7_hours_9, ↓cg_2_3, ↓cg_2_6, ↓cg_2_9, ↓cg_8_0, cisa, ki_0, ki_1, ki_m1, ↓vm_aload, ↓vm_aload_n, ↓vm_astore, ↓vm_astore_n, ↓vm_checkcast, ↓vm_getfield, ↓vm_goto, ↓vm_iadd, ↓vm_iconst, ↓vm_ifCond_eq, ↓vm_if_icmp_ge, ↓vm_if_icmp_le, ↓vm_iinc, ↓vm_iload, ↓vm_iload_n, ↓vm_invokestatic, ↓vm_invokevirtual, ↓vm_ireturn, ↓vm_istore, ↓xc_1, ↓xc_2, ↓xc_3, ↓xc_4, ↓tbX7_hours_0, ↓tbX7_hours_1, ↓tbX7_hours_2, ↓tbX7_hours_5, ↓tbX7_hours_6, ↓tbX7_hours_7, ↓tbX7_hours_10, ↓tbX7_hours_11, ↓tbX7_hours_14, ↓tbX7_hours_17, ↓tbX7_hours_18, ↓tbX7_hours_21, ↓tbX7_hours_24, ↓tbX7_hours_25, ↓tbX7_hours_28, ↓tbX7_hours_30, ↓tbX7_hours_31, ↓tbX7_hours_33, ↓tbX7_hours_36, ↓tbX7_hours_37, ↓tbX7_hours_40, ↓tbX7_hours_41, ↓tbX7_hours_43, ↓tbX7_hours_44, ↓tbX7_hours_47, ↓tbX7_hours_49, ↓tbX7_hours_51, ↓tbX7_hours_52, ↓tbX7_hours_55, ↓tbX7_hours_57, ↓tbX7_hours_58, ↓tbX7_hours_60, ↓tbX7_hours_61, ↓tbX7_hours_64, ↓tbX7_hours_67, ↓tbX7_hours_69, ↓tbX7_hours_71, ↓tbX7_hours_73, ↓tbX7_hours_76, ↓tbX7_hours_78, ↓tbX7_hours_79, ↓tbX7_hours_82, ↓tbX7_hours_85, ↓tbX7_hours_88, ↓tbX7_hours_89, ↓tbX7_hours_92, ↓tbX7_hours_94, ↓tbX7_hours_97, ↓tbX7_hours_100, ↓tbX7_hours_102, ↓tbX7_hours_103, ↓tbX7_hours_104, ↓tbX7_hours_106, ↓tbX7_hours_108, ↓tbX7_hours_111, ↓tbX7_hours_114, ↓tbX7_hours_115, ↓tbX7_hours_116, ↓tbX7_hours_118, ↓tbX7_hours_120, ↓tbX7_hours_121, ↓tbX7_hours_124, ↓tbX7_hours_127, ↓tbX7_hours_129, ↓tbX7_hours_132, ↓tbX7_hours_133, ↓tbX7_hours_135, ↓tbX7_hours_138, ↓tbX7_hours_141, ↓tbX7_hours_143, hfu, xstep0, xJ1_hit, xJ1_go, xJ2_hit1, xJ2_hit2, xJ2_go, ↓xif_t, ↓xif_f, seval, ↓xca_eq, ↓xre_l, ↓xre_r, xmask_t, xmask_f, xmask_nil, ↓xst_eq, xX_eq, eI_eq, eMc_eq, eMs_eq, eF_eq, eThr_eq, ↓xS1_mk, ↓xSI_mk, ↓xSR_mk, ↓xLI_0, ↓xLI_s, ↓xLR_0, ↓xLR_s, vRef_ref, vRef_null, vRef_rf, cat_int, cat_ref, cat_null, cat_rf, rf_some, rf_none, rf_null, rf_eq, rf_ref, ref_rf, ref_null, ref_ref, xOk_0, xOk_1, xOk_2r, xOk_2n, xOk_2f, vOpt_rf, vOpt_ref, vOpt_null, List.set_cons_zero, List.set_cons_succ, List.take_succ_cons, List.take_zero, List.drop_succ_cons, List.drop_zero, List.reverse_cons, List.reverse_nil, List.nil_append, List.cons_append, List.append_nil, List.length_cons, List.length_nil, List.map_cons, List.map_nil, List.sum_cons, List.sum_nil, Option.toList_some, Option.toList_none, xRecv_mk, true_and, and_true, true_implies, Nat.reduceAdd, Nat.reduceLeDiff, Nat.zero_le, Nat.le_refl, Nat.add_zero, Nat.zero_add, reduceIte, not_true_eq_false, not_false_eq_true, false_implies, and_self, implies_true, eq_self, Nat.reduceEqDiff, List.cons.injEq, xsn_1, xsn_2, false_and, and_false, or_false, false_or, or_true, true_or, xsn_3, xsn_4, ↓spwX7_needBoat, spcX7_needBoat, ↓spwX7_needPoint, spcX7_needPoint, ↓spwX1_isUnderWay, spcX1_isUnderWay, ↓spwX1_pointAhead, spcX1_pointAhead, ↓sp_max_w, sp_max_c, ↓sp_min_w, sp_min_c, ↓spwJx4a65c_size_8abf5, spcJx4a65c_size_8abf5, ↓spwJx4a65c_get_915e3, spcJx4a65c_get_915e3, ↓spwX7_causeOfSize, spcX7_causeOfSize, ↓spwX4_size, spcX4_size, ↓spwX5_hoursFor, spcX5_hoursFor, h0, h1, h2, q]
    try simp only [xif_e]
    first | exact h | grind
