/-! The twin's methods: hours to a point; sets of barges. -/
/-- the sections from a on, upwards, or downwards; how many hours they take, whether one bars -/
def mSc (a : Nat) (u : Bool) (j : Nat) : Nat := if u then a + j else a - 1 - j
def mHs (M : mS) (b : Int32) (a : Nat) (u : Bool) : Nat → Int32
  | 0 => if M.2 34 b.toNatClampNeg = -1 then 0 else M.2 36 b.toNatClampNeg
  | j + 1 => mHs M b a u j + mHrs M (nI (mSc a u j)) b (bi (u = true))
def mHb (M : mS) (b : Int32) (a : Nat) (u : Bool) : Nat → Bool
  | 0 => false
  | j + 1 => mHb M b a u j || decide (0 < mUnfit M (nI (mSc a u j)) b (bi (u = true)))
def mAt0 (M : mS) (b : Int32) : Int32 := if M.2 34 b.toNatClampNeg = -1 then M.2 33 b.toNatClampNeg else if M.2 35 b.toNatClampNeg = 0 then M.2 34 b.toNatClampNeg else M.2 34 b.toNatClampNeg + 1
def mHoA (M : mS) (b : Int32) (a p : Nat) : Int32 := if mHb M b a (decide (a < p)) (if a < p then p - a else a - p) = true then -1 else mHs M b a (decide (a < p)) (if a < p then p - a else a - p)
def oHours (M : mS) (b p : Int32) : Int32 × mS :=
  if (0 ≤ b ∧ b ≤ M.1 29 - 1) ∧ 0 ≤ p ∧ p ≤ 7 then (mHoA (mSet M 0 0) b (mAt0 M b).toNatClampNeg p.toNatClampNeg, mSet M 0 0) else (0, mSet M 0 1)

def tbX8_hours : List (Nat × xHint) := [(0, .aload_n 0, 0, 0, 0, []), (1, .aload_n 0, 0, 0, 0, []), (2, .iload_n 1, 1, 0, 0, []), (3, .invokevirtual 247, 0, 2, 9, []), (6, .ifCond .eq 14, 20, 0, 0, []), (9, .iload_n 2, 2, 0, 0, []), (10, .invokestatic 163, 1, 1, 0, []), (13, .ifCond .eq 7, 20, 0, 0, []), (16, .iconst 0, 0, 0, 0, []), (17, .goto 4, 21, 0, 0, []), (20, .iconst 1, 0, 0, 0, []), (21, .invokevirtual 183, 2, 2, 9, []), (24, .ifCond .ne 5, 29, 0, 0, []), (27, .iconst 0, 0, 0, 0, []), (28, .ireturn, 0, 0, 0, []), (29, .aload_n 0, 0, 0, 0, []), (30, .iload_n 1, 1, 0, 0, []), (31, .invokevirtual 250, 3, 2, 9, []), (34, .ifCond .eq 12, 46, 0, 0, []), (37, .aload_n 0, 0, 0, 0, []), (38, .getfield 89, 9, 33, 2, []), (41, .iload_n 1, 1, 0, 0, []), (42, .iaload, 33, 0, 0, []), (43, .goto 29, 72, 0, 0, []), (46, .aload_n 0, 0, 0, 0, []), (47, .getfield 95, 9, 35, 2, []), (50, .iload_n 1, 1, 0, 0, []), (51, .baload, 35, 0, 0, []), (52, .ifCond .eq 14, 66, 0, 0, []), (55, .aload_n 0, 0, 0, 0, []), (56, .getfield 92, 9, 34, 2, []), (59, .iload_n 1, 1, 0, 0, []), (60, .iaload, 34, 0, 0, []), (61, .iconst 1, 0, 0, 0, []), (62, .iadd, 0, 0, 0, []), (63, .goto 9, 72, 0, 0, []), (66, .aload_n 0, 0, 0, 0, []), (67, .getfield 92, 9, 34, 2, []), (70, .iload_n 1, 1, 0, 0, []), (71, .iaload, 34, 0, 0, []), (72, .istore_n 3, 3, 0, 0, []), (73, .aload_n 0, 0, 0, 0, []), (74, .iload_n 1, 1, 0, 0, []), (75, .invokevirtual 250, 3, 2, 9, []), (78, .ifCond .eq 7, 85, 0, 0, []), (81, .iconst 0, 0, 0, 0, []), (82, .goto 9, 91, 0, 0, []), (85, .aload_n 0, 0, 0, 0, []), (86, .getfield 98, 9, 36, 2, []), (89, .iload_n 1, 1, 0, 0, []), (90, .iaload, 36, 0, 0, []), (91, .istore 4, 4, 0, 0, []), (93, .iconst 0, 0, 0, 0, []), (94, .istore 5, 5, 0, 0, []), (96, .iload_n 3, 3, 0, 0, []), (97, .iload_n 2, 2, 0, 0, []), (98, .if_icmp .eq 83, 181, 0, 0, []), (101, .iload_n 2, 2, 0, 0, []), (102, .iload_n 3, 3, 0, 0, []), (103, .if_icmp .le 7, 110, 0, 0, []), (106, .iconst 1, 0, 0, 0, []), (107, .goto 4, 111, 0, 0, []), (110, .iconst 0, 0, 0, 0, []), (111, .istore 6, 6, 0, 0, []), (113, .iload 6, 6, 0, 0, []), (115, .ifCond .eq 7, 122, 0, 0, []), (118, .iload_n 3, 3, 0, 0, []), (119, .goto 6, 125, 0, 0, []), (122, .iload_n 3, 3, 0, 0, []), (123, .iconst 1, 0, 0, 0, []), (124, .isub, 0, 0, 0, []), (125, .istore 7, 7, 0, 0, []), (127, .iload 5, 5, 0, 0, []), (129, .ifCond .ne 15, 144, 0, 0, []), (132, .aload_n 0, 0, 0, 0, []), (133, .iload 7, 7, 0, 0, []), (135, .iload_n 1, 1, 0, 0, []), (136, .iload 6, 6, 0, 0, []), (138, .invokevirtual 297, 4, 4, 9, []), (141, .ifCond .le 7, 148, 0, 0, []), (144, .iconst 1, 0, 0, 0, []), (145, .goto 4, 149, 0, 0, []), (148, .iconst 0, 0, 0, 0, []), (149, .istore 5, 5, 0, 0, []), (151, .iload 4, 4, 0, 0, []), (153, .aload_n 0, 0, 0, 0, []), (154, .iload 7, 7, 0, 0, []), (156, .iload_n 1, 1, 0, 0, []), (157, .iload 6, 6, 0, 0, []), (159, .invokevirtual 301, 5, 4, 9, []), (162, .iadd, 0, 0, 0, []), (163, .istore 4, 4, 0, 0, []), (165, .iload_n 3, 3, 0, 0, []), (166, .iload 6, 6, 0, 0, []), (168, .ifCond .eq 7, 175, 0, 0, []), (171, .iconst 1, 0, 0, 0, []), (172, .goto 4, 176, 0, 0, []), (175, .iconst (-1), 0, 0, 0, []), (176, .iadd, 0, 0, 0, []), (177, .istore_n 3, 3, 0, 0, []), (178, .goto (-82), 96, 0, 0, []), (181, .iload 5, 5, 0, 0, []), (183, .ifCond .eq 7, 190, 0, 0, []), (186, .iconst (-1), 0, 0, 0, []), (187, .goto 5, 192, 0, 0, []), (190, .iload 4, 4, 0, 0, []), (192, .ireturn, 0, 0, 0, [])]
def clX8_hours : List (Instr × Nat × Nat × Nat) := [(.invokevirtual 247, 0, 2, 9), (.invokestatic 163, 1, 1, 0), (.invokevirtual 183, 2, 2, 9), (.invokevirtual 250, 3, 2, 9), (.invokevirtual 297, 4, 4, 9), (.invokevirtual 301, 5, 4, 9)]
def thX8_hours : List (Nat × Nat) := []
theorem ckX8_hours : tbX8_hours.all (xRow RX8 cX8_hours wsX8_hours vwCl [9] clX8_hours thX8_hours 8 (yX8_hours.name == "<init>") (some .int)) = true := xRow_q 0xac04150500a7020700990515aeffa73e60020400a70407009906151d0436602d01b606151b07152a04150536030400a70407009e2901b606151b07152a0f009a0515073664041d0600a71d07009906150636030400a7040700a41d1c53009f1c1d05360304362e1b6200b42a0900a703070099fa00b61b2a3e2e1b5c00b42a0900a760042e1b5c00b42a0e0099331b5f00b42a1d00a72e1b5900b42a0c0099fa00b61b2aac0305009ab700b6040400a703070099a300b81c0e0099f700b61b2a2a 193 (by decide +kernel) (by decide +kernel)
theorem usX8_hours : xUse wsX8_hours vwCl [9] = true := xUse_g rfl (lw_good lwl_X8_hours lwl_X80 (by decide +kernel)) xUse_n
theorem tbX8_hours_0 {k : Instr → Nat → Nat → Nat → List Nat → Prop} : xse (xFind tbX8_hours 0) k = k (.aload_n 0) 0 0 0 [] := rfl
theorem tbX8_hours_1 {k : Instr → Nat → Nat → Nat → List Nat → Prop} : xse (xFind tbX8_hours 1) k = k (.aload_n 0) 0 0 0 [] := rfl
theorem tbX8_hours_2 {k : Instr → Nat → Nat → Nat → List Nat → Prop} : xse (xFind tbX8_hours 2) k = k (.iload_n 1) 1 0 0 [] := rfl
theorem tbX8_hours_3 {k : Instr → Nat → Nat → Nat → List Nat → Prop} : xse (xFind tbX8_hours 3) k = k (.invokevirtual 247) 0 2 9 [] := rfl
theorem tbX8_hours_6 {k : Instr → Nat → Nat → Nat → List Nat → Prop} : xse (xFind tbX8_hours 6) k = k (.ifCond .eq 14) 20 0 0 [] := rfl
theorem tbX8_hours_9 {k : Instr → Nat → Nat → Nat → List Nat → Prop} : xse (xFind tbX8_hours 9) k = k (.iload_n 2) 2 0 0 [] := rfl
theorem tbX8_hours_10 {k : Instr → Nat → Nat → Nat → List Nat → Prop} : xse (xFind tbX8_hours 10) k = k (.invokestatic 163) 1 1 0 [] := rfl
theorem tbX8_hours_13 {k : Instr → Nat → Nat → Nat → List Nat → Prop} : xse (xFind tbX8_hours 13) k = k (.ifCond .eq 7) 20 0 0 [] := rfl
theorem tbX8_hours_16 {k : Instr → Nat → Nat → Nat → List Nat → Prop} : xse (xFind tbX8_hours 16) k = k (.iconst 0) 0 0 0 [] := rfl
theorem tbX8_hours_17 {k : Instr → Nat → Nat → Nat → List Nat → Prop} : xse (xFind tbX8_hours 17) k = k (.goto 4) 21 0 0 [] := rfl
theorem tbX8_hours_20 {k : Instr → Nat → Nat → Nat → List Nat → Prop} : xse (xFind tbX8_hours 20) k = k (.iconst 1) 0 0 0 [] := rfl
theorem tbX8_hours_21 {k : Instr → Nat → Nat → Nat → List Nat → Prop} : xse (xFind tbX8_hours 21) k = k (.invokevirtual 183) 2 2 9 [] := rfl
theorem tbX8_hours_24 {k : Instr → Nat → Nat → Nat → List Nat → Prop} : xse (xFind tbX8_hours 24) k = k (.ifCond .ne 5) 29 0 0 [] := rfl
theorem tbX8_hours_27 {k : Instr → Nat → Nat → Nat → List Nat → Prop} : xse (xFind tbX8_hours 27) k = k (.iconst 0) 0 0 0 [] := rfl
theorem tbX8_hours_28 {k : Instr → Nat → Nat → Nat → List Nat → Prop} : xse (xFind tbX8_hours 28) k = k (.ireturn) 0 0 0 [] := rfl
theorem tbX8_hours_29 {k : Instr → Nat → Nat → Nat → List Nat → Prop} : xse (xFind tbX8_hours 29) k = k (.aload_n 0) 0 0 0 [] := rfl
theorem tbX8_hours_30 {k : Instr → Nat → Nat → Nat → List Nat → Prop} : xse (xFind tbX8_hours 30) k = k (.iload_n 1) 1 0 0 [] := rfl
theorem tbX8_hours_31 {k : Instr → Nat → Nat → Nat → List Nat → Prop} : xse (xFind tbX8_hours 31) k = k (.invokevirtual 250) 3 2 9 [] := rfl
theorem tbX8_hours_34 {k : Instr → Nat → Nat → Nat → List Nat → Prop} : xse (xFind tbX8_hours 34) k = k (.ifCond .eq 12) 46 0 0 [] := rfl
theorem tbX8_hours_37 {k : Instr → Nat → Nat → Nat → List Nat → Prop} : xse (xFind tbX8_hours 37) k = k (.aload_n 0) 0 0 0 [] := rfl
theorem tbX8_hours_38 {k : Instr → Nat → Nat → Nat → List Nat → Prop} : xse (xFind tbX8_hours 38) k = k (.getfield 89) 9 33 2 [] := rfl
theorem tbX8_hours_41 {k : Instr → Nat → Nat → Nat → List Nat → Prop} : xse (xFind tbX8_hours 41) k = k (.iload_n 1) 1 0 0 [] := rfl
theorem tbX8_hours_42 {k : Instr → Nat → Nat → Nat → List Nat → Prop} : xse (xFind tbX8_hours 42) k = k (.iaload) 33 0 0 [] := rfl
theorem tbX8_hours_43 {k : Instr → Nat → Nat → Nat → List Nat → Prop} : xse (xFind tbX8_hours 43) k = k (.goto 29) 72 0 0 [] := rfl
theorem tbX8_hours_46 {k : Instr → Nat → Nat → Nat → List Nat → Prop} : xse (xFind tbX8_hours 46) k = k (.aload_n 0) 0 0 0 [] := rfl
theorem tbX8_hours_47 {k : Instr → Nat → Nat → Nat → List Nat → Prop} : xse (xFind tbX8_hours 47) k = k (.getfield 95) 9 35 2 [] := rfl
theorem tbX8_hours_50 {k : Instr → Nat → Nat → Nat → List Nat → Prop} : xse (xFind tbX8_hours 50) k = k (.iload_n 1) 1 0 0 [] := rfl
theorem tbX8_hours_51 {k : Instr → Nat → Nat → Nat → List Nat → Prop} : xse (xFind tbX8_hours 51) k = k (.baload) 35 0 0 [] := rfl
theorem tbX8_hours_52 {k : Instr → Nat → Nat → Nat → List Nat → Prop} : xse (xFind tbX8_hours 52) k = k (.ifCond .eq 14) 66 0 0 [] := rfl
theorem tbX8_hours_55 {k : Instr → Nat → Nat → Nat → List Nat → Prop} : xse (xFind tbX8_hours 55) k = k (.aload_n 0) 0 0 0 [] := rfl
theorem tbX8_hours_56 {k : Instr → Nat → Nat → Nat → List Nat → Prop} : xse (xFind tbX8_hours 56) k = k (.getfield 92) 9 34 2 [] := rfl
theorem tbX8_hours_59 {k : Instr → Nat → Nat → Nat → List Nat → Prop} : xse (xFind tbX8_hours 59) k = k (.iload_n 1) 1 0 0 [] := rfl
theorem tbX8_hours_60 {k : Instr → Nat → Nat → Nat → List Nat → Prop} : xse (xFind tbX8_hours 60) k = k (.iaload) 34 0 0 [] := rfl
theorem tbX8_hours_61 {k : Instr → Nat → Nat → Nat → List Nat → Prop} : xse (xFind tbX8_hours 61) k = k (.iconst 1) 0 0 0 [] := rfl
theorem tbX8_hours_62 {k : Instr → Nat → Nat → Nat → List Nat → Prop} : xse (xFind tbX8_hours 62) k = k (.iadd) 0 0 0 [] := rfl
theorem tbX8_hours_63 {k : Instr → Nat → Nat → Nat → List Nat → Prop} : xse (xFind tbX8_hours 63) k = k (.goto 9) 72 0 0 [] := rfl
theorem tbX8_hours_66 {k : Instr → Nat → Nat → Nat → List Nat → Prop} : xse (xFind tbX8_hours 66) k = k (.aload_n 0) 0 0 0 [] := rfl
theorem tbX8_hours_67 {k : Instr → Nat → Nat → Nat → List Nat → Prop} : xse (xFind tbX8_hours 67) k = k (.getfield 92) 9 34 2 [] := rfl
theorem tbX8_hours_70 {k : Instr → Nat → Nat → Nat → List Nat → Prop} : xse (xFind tbX8_hours 70) k = k (.iload_n 1) 1 0 0 [] := rfl
theorem tbX8_hours_71 {k : Instr → Nat → Nat → Nat → List Nat → Prop} : xse (xFind tbX8_hours 71) k = k (.iaload) 34 0 0 [] := rfl
theorem tbX8_hours_72 {k : Instr → Nat → Nat → Nat → List Nat → Prop} : xse (xFind tbX8_hours 72) k = k (.istore_n 3) 3 0 0 [] := rfl
theorem tbX8_hours_73 {k : Instr → Nat → Nat → Nat → List Nat → Prop} : xse (xFind tbX8_hours 73) k = k (.aload_n 0) 0 0 0 [] := rfl
theorem tbX8_hours_74 {k : Instr → Nat → Nat → Nat → List Nat → Prop} : xse (xFind tbX8_hours 74) k = k (.iload_n 1) 1 0 0 [] := rfl
theorem tbX8_hours_75 {k : Instr → Nat → Nat → Nat → List Nat → Prop} : xse (xFind tbX8_hours 75) k = k (.invokevirtual 250) 3 2 9 [] := rfl
theorem tbX8_hours_78 {k : Instr → Nat → Nat → Nat → List Nat → Prop} : xse (xFind tbX8_hours 78) k = k (.ifCond .eq 7) 85 0 0 [] := rfl
theorem tbX8_hours_81 {k : Instr → Nat → Nat → Nat → List Nat → Prop} : xse (xFind tbX8_hours 81) k = k (.iconst 0) 0 0 0 [] := rfl
theorem tbX8_hours_82 {k : Instr → Nat → Nat → Nat → List Nat → Prop} : xse (xFind tbX8_hours 82) k = k (.goto 9) 91 0 0 [] := rfl
theorem tbX8_hours_85 {k : Instr → Nat → Nat → Nat → List Nat → Prop} : xse (xFind tbX8_hours 85) k = k (.aload_n 0) 0 0 0 [] := rfl
theorem tbX8_hours_86 {k : Instr → Nat → Nat → Nat → List Nat → Prop} : xse (xFind tbX8_hours 86) k = k (.getfield 98) 9 36 2 [] := rfl
theorem tbX8_hours_89 {k : Instr → Nat → Nat → Nat → List Nat → Prop} : xse (xFind tbX8_hours 89) k = k (.iload_n 1) 1 0 0 [] := rfl
theorem tbX8_hours_90 {k : Instr → Nat → Nat → Nat → List Nat → Prop} : xse (xFind tbX8_hours 90) k = k (.iaload) 36 0 0 [] := rfl
theorem tbX8_hours_91 {k : Instr → Nat → Nat → Nat → List Nat → Prop} : xse (xFind tbX8_hours 91) k = k (.istore 4) 4 0 0 [] := rfl
theorem tbX8_hours_93 {k : Instr → Nat → Nat → Nat → List Nat → Prop} : xse (xFind tbX8_hours 93) k = k (.iconst 0) 0 0 0 [] := rfl
theorem tbX8_hours_94 {k : Instr → Nat → Nat → Nat → List Nat → Prop} : xse (xFind tbX8_hours 94) k = k (.istore 5) 5 0 0 [] := rfl
theorem tbX8_hours_96 {k : Instr → Nat → Nat → Nat → List Nat → Prop} : xse (xFind tbX8_hours 96) k = k (.iload_n 3) 3 0 0 [] := rfl
theorem tbX8_hours_97 {k : Instr → Nat → Nat → Nat → List Nat → Prop} : xse (xFind tbX8_hours 97) k = k (.iload_n 2) 2 0 0 [] := rfl
theorem tbX8_hours_98 {k : Instr → Nat → Nat → Nat → List Nat → Prop} : xse (xFind tbX8_hours 98) k = k (.if_icmp .eq 83) 181 0 0 [] := rfl
theorem tbX8_hours_101 {k : Instr → Nat → Nat → Nat → List Nat → Prop} : xse (xFind tbX8_hours 101) k = k (.iload_n 2) 2 0 0 [] := rfl
theorem tbX8_hours_102 {k : Instr → Nat → Nat → Nat → List Nat → Prop} : xse (xFind tbX8_hours 102) k = k (.iload_n 3) 3 0 0 [] := rfl
theorem tbX8_hours_103 {k : Instr → Nat → Nat → Nat → List Nat → Prop} : xse (xFind tbX8_hours 103) k = k (.if_icmp .le 7) 110 0 0 [] := rfl
theorem tbX8_hours_106 {k : Instr → Nat → Nat → Nat → List Nat → Prop} : xse (xFind tbX8_hours 106) k = k (.iconst 1) 0 0 0 [] := rfl
theorem tbX8_hours_107 {k : Instr → Nat → Nat → Nat → List Nat → Prop} : xse (xFind tbX8_hours 107) k = k (.goto 4) 111 0 0 [] := rfl
theorem tbX8_hours_110 {k : Instr → Nat → Nat → Nat → List Nat → Prop} : xse (xFind tbX8_hours 110) k = k (.iconst 0) 0 0 0 [] := rfl
theorem tbX8_hours_111 {k : Instr → Nat → Nat → Nat → List Nat → Prop} : xse (xFind tbX8_hours 111) k = k (.istore 6) 6 0 0 [] := rfl
theorem tbX8_hours_113 {k : Instr → Nat → Nat → Nat → List Nat → Prop} : xse (xFind tbX8_hours 113) k = k (.iload 6) 6 0 0 [] := rfl
theorem tbX8_hours_115 {k : Instr → Nat → Nat → Nat → List Nat → Prop} : xse (xFind tbX8_hours 115) k = k (.ifCond .eq 7) 122 0 0 [] := rfl
theorem tbX8_hours_118 {k : Instr → Nat → Nat → Nat → List Nat → Prop} : xse (xFind tbX8_hours 118) k = k (.iload_n 3) 3 0 0 [] := rfl
theorem tbX8_hours_119 {k : Instr → Nat → Nat → Nat → List Nat → Prop} : xse (xFind tbX8_hours 119) k = k (.goto 6) 125 0 0 [] := rfl
theorem tbX8_hours_122 {k : Instr → Nat → Nat → Nat → List Nat → Prop} : xse (xFind tbX8_hours 122) k = k (.iload_n 3) 3 0 0 [] := rfl
theorem tbX8_hours_123 {k : Instr → Nat → Nat → Nat → List Nat → Prop} : xse (xFind tbX8_hours 123) k = k (.iconst 1) 0 0 0 [] := rfl
theorem tbX8_hours_124 {k : Instr → Nat → Nat → Nat → List Nat → Prop} : xse (xFind tbX8_hours 124) k = k (.isub) 0 0 0 [] := rfl
theorem tbX8_hours_125 {k : Instr → Nat → Nat → Nat → List Nat → Prop} : xse (xFind tbX8_hours 125) k = k (.istore 7) 7 0 0 [] := rfl
theorem tbX8_hours_127 {k : Instr → Nat → Nat → Nat → List Nat → Prop} : xse (xFind tbX8_hours 127) k = k (.iload 5) 5 0 0 [] := rfl
theorem tbX8_hours_129 {k : Instr → Nat → Nat → Nat → List Nat → Prop} : xse (xFind tbX8_hours 129) k = k (.ifCond .ne 15) 144 0 0 [] := rfl
theorem tbX8_hours_132 {k : Instr → Nat → Nat → Nat → List Nat → Prop} : xse (xFind tbX8_hours 132) k = k (.aload_n 0) 0 0 0 [] := rfl
theorem tbX8_hours_133 {k : Instr → Nat → Nat → Nat → List Nat → Prop} : xse (xFind tbX8_hours 133) k = k (.iload 7) 7 0 0 [] := rfl
theorem tbX8_hours_135 {k : Instr → Nat → Nat → Nat → List Nat → Prop} : xse (xFind tbX8_hours 135) k = k (.iload_n 1) 1 0 0 [] := rfl
theorem tbX8_hours_136 {k : Instr → Nat → Nat → Nat → List Nat → Prop} : xse (xFind tbX8_hours 136) k = k (.iload 6) 6 0 0 [] := rfl
theorem tbX8_hours_138 {k : Instr → Nat → Nat → Nat → List Nat → Prop} : xse (xFind tbX8_hours 138) k = k (.invokevirtual 297) 4 4 9 [] := rfl
theorem tbX8_hours_141 {k : Instr → Nat → Nat → Nat → List Nat → Prop} : xse (xFind tbX8_hours 141) k = k (.ifCond .le 7) 148 0 0 [] := rfl
theorem tbX8_hours_144 {k : Instr → Nat → Nat → Nat → List Nat → Prop} : xse (xFind tbX8_hours 144) k = k (.iconst 1) 0 0 0 [] := rfl
theorem tbX8_hours_145 {k : Instr → Nat → Nat → Nat → List Nat → Prop} : xse (xFind tbX8_hours 145) k = k (.goto 4) 149 0 0 [] := rfl
theorem tbX8_hours_148 {k : Instr → Nat → Nat → Nat → List Nat → Prop} : xse (xFind tbX8_hours 148) k = k (.iconst 0) 0 0 0 [] := rfl
theorem tbX8_hours_149 {k : Instr → Nat → Nat → Nat → List Nat → Prop} : xse (xFind tbX8_hours 149) k = k (.istore 5) 5 0 0 [] := rfl
theorem tbX8_hours_151 {k : Instr → Nat → Nat → Nat → List Nat → Prop} : xse (xFind tbX8_hours 151) k = k (.iload 4) 4 0 0 [] := rfl
theorem tbX8_hours_153 {k : Instr → Nat → Nat → Nat → List Nat → Prop} : xse (xFind tbX8_hours 153) k = k (.aload_n 0) 0 0 0 [] := rfl
theorem tbX8_hours_154 {k : Instr → Nat → Nat → Nat → List Nat → Prop} : xse (xFind tbX8_hours 154) k = k (.iload 7) 7 0 0 [] := rfl
theorem tbX8_hours_156 {k : Instr → Nat → Nat → Nat → List Nat → Prop} : xse (xFind tbX8_hours 156) k = k (.iload_n 1) 1 0 0 [] := rfl
theorem tbX8_hours_157 {k : Instr → Nat → Nat → Nat → List Nat → Prop} : xse (xFind tbX8_hours 157) k = k (.iload 6) 6 0 0 [] := rfl
theorem tbX8_hours_159 {k : Instr → Nat → Nat → Nat → List Nat → Prop} : xse (xFind tbX8_hours 159) k = k (.invokevirtual 301) 5 4 9 [] := rfl
theorem tbX8_hours_162 {k : Instr → Nat → Nat → Nat → List Nat → Prop} : xse (xFind tbX8_hours 162) k = k (.iadd) 0 0 0 [] := rfl
theorem tbX8_hours_163 {k : Instr → Nat → Nat → Nat → List Nat → Prop} : xse (xFind tbX8_hours 163) k = k (.istore 4) 4 0 0 [] := rfl
theorem tbX8_hours_165 {k : Instr → Nat → Nat → Nat → List Nat → Prop} : xse (xFind tbX8_hours 165) k = k (.iload_n 3) 3 0 0 [] := rfl
theorem tbX8_hours_166 {k : Instr → Nat → Nat → Nat → List Nat → Prop} : xse (xFind tbX8_hours 166) k = k (.iload 6) 6 0 0 [] := rfl
theorem tbX8_hours_168 {k : Instr → Nat → Nat → Nat → List Nat → Prop} : xse (xFind tbX8_hours 168) k = k (.ifCond .eq 7) 175 0 0 [] := rfl
theorem tbX8_hours_171 {k : Instr → Nat → Nat → Nat → List Nat → Prop} : xse (xFind tbX8_hours 171) k = k (.iconst 1) 0 0 0 [] := rfl
theorem tbX8_hours_172 {k : Instr → Nat → Nat → Nat → List Nat → Prop} : xse (xFind tbX8_hours 172) k = k (.goto 4) 176 0 0 [] := rfl
theorem tbX8_hours_175 {k : Instr → Nat → Nat → Nat → List Nat → Prop} : xse (xFind tbX8_hours 175) k = k (.iconst (-1)) 0 0 0 [] := rfl
theorem tbX8_hours_176 {k : Instr → Nat → Nat → Nat → List Nat → Prop} : xse (xFind tbX8_hours 176) k = k (.iadd) 0 0 0 [] := rfl
theorem tbX8_hours_177 {k : Instr → Nat → Nat → Nat → List Nat → Prop} : xse (xFind tbX8_hours 177) k = k (.istore_n 3) 3 0 0 [] := rfl
theorem tbX8_hours_178 {k : Instr → Nat → Nat → Nat → List Nat → Prop} : xse (xFind tbX8_hours 178) k = k (.goto (-82)) 96 0 0 [] := rfl
theorem tbX8_hours_181 {k : Instr → Nat → Nat → Nat → List Nat → Prop} : xse (xFind tbX8_hours 181) k = k (.iload 5) 5 0 0 [] := rfl
theorem tbX8_hours_183 {k : Instr → Nat → Nat → Nat → List Nat → Prop} : xse (xFind tbX8_hours 183) k = k (.ifCond .eq 7) 190 0 0 [] := rfl
theorem tbX8_hours_186 {k : Instr → Nat → Nat → Nat → List Nat → Prop} : xse (xFind tbX8_hours 186) k = k (.iconst (-1)) 0 0 0 [] := rfl
theorem tbX8_hours_187 {k : Instr → Nat → Nat → Nat → List Nat → Prop} : xse (xFind tbX8_hours 187) k = k (.goto 5) 192 0 0 [] := rfl
theorem tbX8_hours_190 {k : Instr → Nat → Nat → Nat → List Nat → Prop} : xse (xFind tbX8_hours 190) k = k (.iload 4) 4 0 0 [] := rfl
theorem tbX8_hours_192 {k : Instr → Nat → Nat → Nat → List Nat → Prop} : xse (xFind tbX8_hours 192) k = k (.ireturn) 0 0 0 [] := rfl

def spX8_hours (aM : Nat → Nat) : xSp mS := (fun av M => (0, 0), fun av M K => ∃ (b : Int32) (p : Int32), av = [.ref (aM 0), .int b, .int p] ∧ ((M.1 29 = nI (nBt M) ∧ nBt M ≤ 6) ∧ (iBt M b → mTk (mSet M 0 0) b.toNatClampNeg ∧ vp_in (mAt0 M b) 8) ∧ K (rI (oHours M b p).1) (oHours M b p).2))
theorem spcX8_hours {av : List Value} {M : mS} {aM : Nat → Nat} : (spX8_hours aM).1 av M = (0, 0) := rfl
theorem spwX8_hours {M : mS} {aM : Nat → Nat} {K : xRes → mS → Prop} {b : Int32} {p : Int32} : (spX8_hours aM).2 [.ref (aM 0), .int b, .int p] M K = ((M.1 29 = nI (nBt M) ∧ nBt M ≤ 6) ∧ (iBt M b → mTk (mSet M 0 0) b.toNatClampNeg ∧ vp_in (mAt0 M b) 8) ∧ K (rI (oHours M b p).1) (oHours M b p).2) :=
  propext ⟨fun h => by
    simp only [spX8_hours] at h
    obtain ⟨_, _, e, h⟩ := h
    simp only [List.cons.injEq, Value.int.injEq, Value.ref.injEq, rf_eq, and_true, true_and] at e
    obtain ⟨rfl, rfl⟩ := e
    exact h, fun h => ⟨_, _, rfl, h⟩⟩

def callX8_hours (aM : Nat → Nat) : Nat → Option (xSp mS) := fun n => match n with | 0 => some (spX8_isBoat aM) | 1 => some (spX8_isPoint aM) | 2 => some (spX8_holds aM) | 3 => some (spX8_stands aM) | 4 => some (spX8_unfit aM) | 5 => some (spX8_hoursIn aM) | _ => none

theorem callX8_hours_0 {aM : Nat → Nat} {k : xSp mS → Prop} : xcs (callX8_hours aM 0) k = k (spX8_isBoat aM) := rfl

theorem callX8_hours_1 {aM : Nat → Nat} {k : xSp mS → Prop} : xcs (callX8_hours aM 1) k = k (spX8_isPoint aM) := rfl

theorem callX8_hours_2 {aM : Nat → Nat} {k : xSp mS → Prop} : xcs (callX8_hours aM 2) k = k (spX8_holds aM) := rfl

theorem callX8_hours_3 {aM : Nat → Nat} {k : xSp mS → Prop} : xcs (callX8_hours aM 3) k = k (spX8_stands aM) := rfl

theorem callX8_hours_4 {aM : Nat → Nat} {k : xSp mS → Prop} : xcs (callX8_hours aM 4) k = k (spX8_unfit aM) := rfl

theorem callX8_hours_5 {aM : Nat → Nat} {k : xSp mS → Prop} : xcs (callX8_hours aM 5) k = k (spX8_hoursIn aM) := rfl

theorem crX8_hours (l : Launch) (W9 : xWd) (aM : Nat → Nat) (hi : mInj aM) : xCallsOK l W9 (mI aM) (callX8_hours aM) clX8_hours RX8 wsX8_hours 2 48 8 := by
  intro E A p e R s m args below meth c hI hF hL X
  exact List.forall_mem_cons.mpr ⟨⟨_, rfl, xCR_V X (by rw [hI]; exact (semX8_isBoat l W9 aM hi)) gX8_hours_X8_isBoat rfl rfl (by decide +kernel) (by rw [hF, hL]; decide)⟩,
    List.forall_mem_cons.mpr ⟨⟨_, rfl, xCR_S X (by rw [hI]; exact (semX8_isPoint l W9 aM hi)) gX8_hours_X8_isPoint rfl (by decide +kernel) (by rw [hF, hL]; decide)⟩,
    List.forall_mem_cons.mpr ⟨⟨_, rfl, xCR_V X (by rw [hI]; exact (semX8_holds l W9 aM hi)) gX8_hours_X8_holds rfl rfl (by decide +kernel) (by rw [hF, hL]; decide)⟩,
    List.forall_mem_cons.mpr ⟨⟨_, rfl, xCR_V X (by rw [hI]; exact (semX8_stands l W9 aM hi)) gX8_hours_X8_stands rfl rfl (by decide +kernel) (by rw [hF, hL]; decide)⟩,
    List.forall_mem_cons.mpr ⟨⟨_, rfl, xCR_V X (by rw [hI]; exact (semX8_unfit l W9 aM hi)) gX8_hours_X8_unfit rfl rfl (by decide +kernel) (by rw [hF, hL]; decide)⟩,
    List.forall_mem_cons.mpr ⟨⟨_, rfl, xCR_V X (by rw [hI]; exact (semX8_hoursIn l W9 aM hi)) gX8_hours_X8_hoursIn rfl rfl (by decide +kernel) (by rw [hF, hL]; decide)⟩,
    fun _ h => nomatch h⟩⟩⟩⟩⟩⟩

set_option maxHeartbeats 4000000 in
set_option maxRecDepth 20000 in
theorem semX8_hours (l : Launch) (W9 : xWd) (aM : Nat → Nat) (hi : mInj aM) : xSem l W9 (mI aM) yX8_hours wsX8_hours 2 48 (spX8_hours aM) := by
  refine xSem_of (call := callX8_hours aM) (thrf := fun _ => "") (mI_law hi) (by decide +kernel) rfl ckX8_hours usX8_hours (crX8_hours l W9 aM hi) xThrOK_nil ?_ ?_
  · intro av M KF h
    obtain ⟨b, p, rfl, h⟩ := h
    exact ⟨by intro v hv; simp only [List.mem_cons, List.not_mem_nil, or_false] at hv; rcases hv with rfl | rfl | rfl <;> first | rfl | exact cat_rf, Nat.le_of_ble_eq_true rfl⟩
  intro av M KF h G hG
  obtain ⟨b, p, rfl, h⟩ := h
  rw [show (spX8_hours aM).1 _ M = _ from spcX8_hours] at hG
  try dsimp only at hG
  change G 0 [some (.ref (aM 0)), some (.int b), some (.int p), none, none, none, none, none] [] M 0 0
  obtain ⟨hn, hb, h⟩ := h

  have h7 := @in_bt M b hn
  unfold oHours at h
  by_cases c : (0 ≤ b ∧ b ≤ M.1 29 - 1) ∧ 0 ≤ p ∧ p ≤ 7
  · rw [if_pos c] at h
    obtain ⟨c1, c2⟩ := c
    have h1 := h7 c1.1 c1.2
    obtain ⟨hT, hA⟩ := hb c1
    obtain ⟨y, hy, rfl⟩ := vp_in_of (in_7 c2.1 c2.2) (by omega)
    obtain ⟨a, ha, ea⟩ := vp_in_of hA (by omega)
    rw [ea, ix_nI (by omega), ix_nI (by omega)] at h
    unfold mHoA at h
    have key : ∀ (u : Bool) (n : Nat), (u = true → a + n = y) → (u = false → a = y + n) → KF (rI (if mHb (mSet M 0 0) b a u n = true then -1 else mHs (mSet M 0 0) b a u n)) (mSet M 0 0) → ∀ lv st S cs ss, (lv = [some (.ref (aM 0)), some (.int b), some (.int (nI y)), some (.int (nI a)), some (.int (mHs (mSet M 0 0) b a u 0)), some (.int 0), none, none] ∧ st = [] ∧ mSet M 0 0 = S ∧ cs = 0 ∧ ss = 0) → G 96 lv st S cs ss := by
      intro u n hu1 hu2 hK lv st S cs ss hI
      have loop := xloop hG 96 [true, true, true, true, true, true, false, false] (fun j lv st S cs ss => lv = [some (.ref (aM 0)), some (.int b), some (.int (nI y)), some (.int (nI (if u then a + j else a - j))), some (.int (mHs (mSet M 0 0) b a u j)), some (.int (bi (mHb (mSet M 0 0) b a u j = true))), none, none] ∧ st = [] ∧ mSet M 0 0 = S ∧ cs = 0 ∧ ss = 0) n (by
          rintro j hj lv st S cs ss ⟨rfl, rfl, rfl, rfl, rfl⟩ fu hfu
          cases u with
          | true =>
            have hay := hu1 rfl
            have d1 : (nI (a + j) = nI y) = False := by rw [eq_nI (by omega) (by omega)]; simp; omega
            have d2 : (nI y ≤ nI (a + j)) = False := by rw [le_nI (by omega) (by omega)]; simp; omega
            have d3 : vp_in (nI (a + j)) 7 := xin_nI (by omega) (by omega)
            have hs : mHs (mSet M 0 0) b a true (j + 1) = mHs (mSet M 0 0) b a true j + mHrs (mSet M 0 0) (nI (a + j)) b 1 := rfl
            have hv : mHb (mSet M 0 0) b a true (j + 1) = (mHb (mSet M 0 0) b a true j || decide (0 < mUnfit (mSet M 0 0) (nI (a + j)) b 1)) := rfl
            simp only [↓callX8_hours_0, ↓callX8_hours_1, ↓callX8_hours_2, ↓callX8_hours_3, ↓callX8_hours_4, ↓callX8_hours_5, ki_0, ki_1, ki_m1, ↓ma_33, ↓ma_34, ↓ma_35, ↓ma_36, ↓mg_33, ↓mg_34, ↓mg_35, ↓mg_36, misa, ↓vm_aload_n, ↓vm_baload, ↓vm_getfield, ↓vm_goto, ↓vm_iadd, ↓vm_iaload, ↓vm_iconst, ↓vm_ifCond_eq, ↓vm_ifCond_le, ↓vm_ifCond_ne, ↓vm_if_icmp_eq, ↓vm_if_icmp_le, ↓vm_iload, ↓vm_iload_n, ↓vm_invokestatic, ↓vm_invokevirtual, ↓vm_ireturn, ↓vm_istore, ↓vm_istore_n, ↓vm_isub, ↓xc_1, ↓xc_2, ↓xc_4, ↓tbX8_hours_0, ↓tbX8_hours_1, ↓tbX8_hours_2, ↓tbX8_hours_3, ↓tbX8_hours_6, ↓tbX8_hours_9, ↓tbX8_hours_10, ↓tbX8_hours_13, ↓tbX8_hours_16, ↓tbX8_hours_17, ↓tbX8_hours_20, ↓tbX8_hours_21, ↓tbX8_hours_24, ↓tbX8_hours_27, ↓tbX8_hours_28, ↓tbX8_hours_29, ↓tbX8_hours_30, ↓tbX8_hours_31, ↓tbX8_hours_34, ↓tbX8_hours_37, ↓tbX8_hours_38, ↓tbX8_hours_41, ↓tbX8_hours_42, ↓tbX8_hours_43, ↓tbX8_hours_46, ↓tbX8_hours_47, ↓tbX8_hours_50, ↓tbX8_hours_51, ↓tbX8_hours_52, ↓tbX8_hours_55, ↓tbX8_hours_56, ↓tbX8_hours_59, ↓tbX8_hours_60, ↓tbX8_hours_61, ↓tbX8_hours_62, ↓tbX8_hours_63, ↓tbX8_hours_66, ↓tbX8_hours_67, ↓tbX8_hours_70, ↓tbX8_hours_71, ↓tbX8_hours_72, ↓tbX8_hours_73, ↓tbX8_hours_74, ↓tbX8_hours_75, ↓tbX8_hours_78, ↓tbX8_hours_81, ↓tbX8_hours_82, ↓tbX8_hours_85, ↓tbX8_hours_86, ↓tbX8_hours_89, ↓tbX8_hours_90, ↓tbX8_hours_91, ↓tbX8_hours_93, ↓tbX8_hours_94, ↓tbX8_hours_96, ↓tbX8_hours_97, ↓tbX8_hours_98, ↓tbX8_hours_101, ↓tbX8_hours_102, ↓tbX8_hours_103, ↓tbX8_hours_106, ↓tbX8_hours_107, ↓tbX8_hours_110, ↓tbX8_hours_111, ↓tbX8_hours_113, ↓tbX8_hours_115, ↓tbX8_hours_118, ↓tbX8_hours_119, ↓tbX8_hours_122, ↓tbX8_hours_123, ↓tbX8_hours_124, ↓tbX8_hours_125, ↓tbX8_hours_127, ↓tbX8_hours_129, ↓tbX8_hours_132, ↓tbX8_hours_133, ↓tbX8_hours_135, ↓tbX8_hours_136, ↓tbX8_hours_138, ↓tbX8_hours_141, ↓tbX8_hours_144, ↓tbX8_hours_145, ↓tbX8_hours_148, ↓tbX8_hours_149, ↓tbX8_hours_151, ↓tbX8_hours_153, ↓tbX8_hours_154, ↓tbX8_hours_156, ↓tbX8_hours_157, ↓tbX8_hours_159, ↓tbX8_hours_162, ↓tbX8_hours_163, ↓tbX8_hours_165, ↓tbX8_hours_166, ↓tbX8_hours_168, ↓tbX8_hours_171, ↓tbX8_hours_172, ↓tbX8_hours_175, ↓tbX8_hours_176, ↓tbX8_hours_177, ↓tbX8_hours_178, ↓tbX8_hours_181, ↓tbX8_hours_183, ↓tbX8_hours_186, ↓tbX8_hours_187, ↓tbX8_hours_190, ↓tbX8_hours_192, hfu, xstep0, xJ1_hit, xJ1_go, xJ2_hit1, xJ2_hit2, xJ2_go, ↓xif_t, ↓xif_f, seval, ↓xca_eq, ↓xre_l, ↓xre_r, xmask_t, xmask_f, xmask_nil, ↓xst_eq, xX_eq, eI_eq, eMc_eq, eMs_eq, eF_eq, eThr_eq, ↓xS1_mk, ↓xSI_mk, ↓xSR_mk, ↓xLI_0, ↓xLI_s, ↓xLR_0, ↓xLR_s, vRef_ref, vRef_null, vRef_rf, cat_int, cat_ref, cat_null, cat_rf, rf_some, rf_none, rf_null, rf_eq, rf_ref, ref_rf, ref_null, ref_ref, xOk_0, xOk_1, xOk_2r, xOk_2n, xOk_2f, vOpt_rf, vOpt_ref, vOpt_null, List.set_cons_zero, List.set_cons_succ, List.take_succ_cons, List.take_zero, List.drop_succ_cons, List.drop_zero, List.reverse_cons, List.reverse_nil, List.nil_append, List.cons_append, List.append_nil, List.length_cons, List.length_nil, List.map_cons, List.map_nil, List.sum_cons, List.sum_nil, Option.toList_some, Option.toList_none, xRecv_mk, true_and, and_true, true_implies, Nat.reduceAdd, Nat.reduceLeDiff, Nat.zero_le, Nat.le_refl, Nat.add_zero, Nat.zero_add, reduceIte, not_true_eq_false, not_false_eq_true, false_implies, and_self, implies_true, eq_self, Nat.reduceEqDiff, List.cons.injEq, xsn_1, xsn_2, false_and, and_false, or_false, false_or, or_true, true_or, xsn_3, xsn_4, mAst_1, mAst_2, mSet_1, mSet_2, bi_0, ↓spwX8_isBoat, spcX8_isBoat, ↓spwX8_isPoint, spcX8_isPoint, ↓spwX8_holds, spcX8_holds, ↓spwX8_stands, spcX8_stands, ↓spwX8_unfit, spcX8_unfit, ↓spwX8_hoursIn, spcX8_hoursIn, d1, d2, d3, h1, hT, hs, hv, nI1, if_true, Nat.add_assoc]
            try simp only [xif_e]
            repeat' (first | with_reducible apply And.intro | with_reducible intro _)
            all_goals grind [bi]
          | false =>
            have hay := hu2 rfl
            have d1 : (nI (a - j) = nI y) = False := by rw [eq_nI (by omega) (by omega)]; simp; omega
            have d2 : (nI y ≤ nI (a - j)) = True := by rw [le_nI (by omega) (by omega)]; simp; omega
            have d4 : nI (a - j) - 1 = nI (a - 1 - j) := by rw [sub1_nI (by omega)]; congr 1; omega
            have d5 : nI (a - j) + -1 = nI (a - (j + 1)) := by
              have z := pk_m1 (a - (j + 1))
              rwa [show a - (j + 1) + 1 = a - j by omega] at z
            have d3 : vp_in (nI (a - 1 - j)) 7 := xin_nI (by omega) (by omega)
            have hs : mHs (mSet M 0 0) b a false (j + 1) = mHs (mSet M 0 0) b a false j + mHrs (mSet M 0 0) (nI (a - 1 - j)) b 0 := rfl
            have hv : mHb (mSet M 0 0) b a false (j + 1) = (mHb (mSet M 0 0) b a false j || decide (0 < mUnfit (mSet M 0 0) (nI (a - 1 - j)) b 0)) := rfl
            simp only [↓callX8_hours_0, ↓callX8_hours_1, ↓callX8_hours_2, ↓callX8_hours_3, ↓callX8_hours_4, ↓callX8_hours_5, ki_0, ki_1, ki_m1, ↓ma_33, ↓ma_34, ↓ma_35, ↓ma_36, ↓mg_33, ↓mg_34, ↓mg_35, ↓mg_36, misa, ↓vm_aload_n, ↓vm_baload, ↓vm_getfield, ↓vm_goto, ↓vm_iadd, ↓vm_iaload, ↓vm_iconst, ↓vm_ifCond_eq, ↓vm_ifCond_le, ↓vm_ifCond_ne, ↓vm_if_icmp_eq, ↓vm_if_icmp_le, ↓vm_iload, ↓vm_iload_n, ↓vm_invokestatic, ↓vm_invokevirtual, ↓vm_ireturn, ↓vm_istore, ↓vm_istore_n, ↓vm_isub, ↓xc_1, ↓xc_2, ↓xc_4, ↓tbX8_hours_0, ↓tbX8_hours_1, ↓tbX8_hours_2, ↓tbX8_hours_3, ↓tbX8_hours_6, ↓tbX8_hours_9, ↓tbX8_hours_10, ↓tbX8_hours_13, ↓tbX8_hours_16, ↓tbX8_hours_17, ↓tbX8_hours_20, ↓tbX8_hours_21, ↓tbX8_hours_24, ↓tbX8_hours_27, ↓tbX8_hours_28, ↓tbX8_hours_29, ↓tbX8_hours_30, ↓tbX8_hours_31, ↓tbX8_hours_34, ↓tbX8_hours_37, ↓tbX8_hours_38, ↓tbX8_hours_41, ↓tbX8_hours_42, ↓tbX8_hours_43, ↓tbX8_hours_46, ↓tbX8_hours_47, ↓tbX8_hours_50, ↓tbX8_hours_51, ↓tbX8_hours_52, ↓tbX8_hours_55, ↓tbX8_hours_56, ↓tbX8_hours_59, ↓tbX8_hours_60, ↓tbX8_hours_61, ↓tbX8_hours_62, ↓tbX8_hours_63, ↓tbX8_hours_66, ↓tbX8_hours_67, ↓tbX8_hours_70, ↓tbX8_hours_71, ↓tbX8_hours_72, ↓tbX8_hours_73, ↓tbX8_hours_74, ↓tbX8_hours_75, ↓tbX8_hours_78, ↓tbX8_hours_81, ↓tbX8_hours_82, ↓tbX8_hours_85, ↓tbX8_hours_86, ↓tbX8_hours_89, ↓tbX8_hours_90, ↓tbX8_hours_91, ↓tbX8_hours_93, ↓tbX8_hours_94, ↓tbX8_hours_96, ↓tbX8_hours_97, ↓tbX8_hours_98, ↓tbX8_hours_101, ↓tbX8_hours_102, ↓tbX8_hours_103, ↓tbX8_hours_106, ↓tbX8_hours_107, ↓tbX8_hours_110, ↓tbX8_hours_111, ↓tbX8_hours_113, ↓tbX8_hours_115, ↓tbX8_hours_118, ↓tbX8_hours_119, ↓tbX8_hours_122, ↓tbX8_hours_123, ↓tbX8_hours_124, ↓tbX8_hours_125, ↓tbX8_hours_127, ↓tbX8_hours_129, ↓tbX8_hours_132, ↓tbX8_hours_133, ↓tbX8_hours_135, ↓tbX8_hours_136, ↓tbX8_hours_138, ↓tbX8_hours_141, ↓tbX8_hours_144, ↓tbX8_hours_145, ↓tbX8_hours_148, ↓tbX8_hours_149, ↓tbX8_hours_151, ↓tbX8_hours_153, ↓tbX8_hours_154, ↓tbX8_hours_156, ↓tbX8_hours_157, ↓tbX8_hours_159, ↓tbX8_hours_162, ↓tbX8_hours_163, ↓tbX8_hours_165, ↓tbX8_hours_166, ↓tbX8_hours_168, ↓tbX8_hours_171, ↓tbX8_hours_172, ↓tbX8_hours_175, ↓tbX8_hours_176, ↓tbX8_hours_177, ↓tbX8_hours_178, ↓tbX8_hours_181, ↓tbX8_hours_183, ↓tbX8_hours_186, ↓tbX8_hours_187, ↓tbX8_hours_190, ↓tbX8_hours_192, hfu, xstep0, xJ1_hit, xJ1_go, xJ2_hit1, xJ2_hit2, xJ2_go, ↓xif_t, ↓xif_f, seval, ↓xca_eq, ↓xre_l, ↓xre_r, xmask_t, xmask_f, xmask_nil, ↓xst_eq, xX_eq, eI_eq, eMc_eq, eMs_eq, eF_eq, eThr_eq, ↓xS1_mk, ↓xSI_mk, ↓xSR_mk, ↓xLI_0, ↓xLI_s, ↓xLR_0, ↓xLR_s, vRef_ref, vRef_null, vRef_rf, cat_int, cat_ref, cat_null, cat_rf, rf_some, rf_none, rf_null, rf_eq, rf_ref, ref_rf, ref_null, ref_ref, xOk_0, xOk_1, xOk_2r, xOk_2n, xOk_2f, vOpt_rf, vOpt_ref, vOpt_null, List.set_cons_zero, List.set_cons_succ, List.take_succ_cons, List.take_zero, List.drop_succ_cons, List.drop_zero, List.reverse_cons, List.reverse_nil, List.nil_append, List.cons_append, List.append_nil, List.length_cons, List.length_nil, List.map_cons, List.map_nil, List.sum_cons, List.sum_nil, Option.toList_some, Option.toList_none, xRecv_mk, true_and, and_true, true_implies, Nat.reduceAdd, Nat.reduceLeDiff, Nat.zero_le, Nat.le_refl, Nat.add_zero, Nat.zero_add, reduceIte, not_true_eq_false, not_false_eq_true, false_implies, and_self, implies_true, eq_self, Nat.reduceEqDiff, List.cons.injEq, xsn_1, xsn_2, false_and, and_false, or_false, false_or, or_true, true_or, xsn_3, xsn_4, mAst_1, mAst_2, mSet_1, mSet_2, bi_0, ↓spwX8_isBoat, spcX8_isBoat, ↓spwX8_isPoint, spcX8_isPoint, ↓spwX8_holds, spcX8_holds, ↓spwX8_stands, spcX8_stands, ↓spwX8_unfit, spcX8_unfit, ↓spwX8_hoursIn, spcX8_hoursIn, d1, d2, d3, d4, d5, h1, hT, hs, hv, if_false, Bool.false_eq_true]
            try simp only [xif_e]
            repeat' (first | with_reducible apply And.intro | with_reducible intro _)
            all_goals grind [bi]) (by
          rintro lv st S cs ss ⟨rfl, rfl, rfl, rfl, rfl⟩ fu hfu
          have d1 : (if u then a + n else a - n) = y := by
            cases u with
            | true => exact hu1 rfl
            | false =>
              have := hu2 rfl
              show a - n = y
              omega
          rw [d1]
          simp only [↓callX8_hours_0, ↓callX8_hours_1, ↓callX8_hours_2, ↓callX8_hours_3, ↓callX8_hours_4, ↓callX8_hours_5, ki_0, ki_1, ki_m1, ↓ma_33, ↓ma_34, ↓ma_35, ↓ma_36, ↓mg_33, ↓mg_34, ↓mg_35, ↓mg_36, misa, ↓vm_aload_n, ↓vm_baload, ↓vm_getfield, ↓vm_goto, ↓vm_iadd, ↓vm_iaload, ↓vm_iconst, ↓vm_ifCond_eq, ↓vm_ifCond_le, ↓vm_ifCond_ne, ↓vm_if_icmp_eq, ↓vm_if_icmp_le, ↓vm_iload, ↓vm_iload_n, ↓vm_invokestatic, ↓vm_invokevirtual, ↓vm_ireturn, ↓vm_istore, ↓vm_istore_n, ↓vm_isub, ↓xc_1, ↓xc_2, ↓xc_4, ↓tbX8_hours_0, ↓tbX8_hours_1, ↓tbX8_hours_2, ↓tbX8_hours_3, ↓tbX8_hours_6, ↓tbX8_hours_9, ↓tbX8_hours_10, ↓tbX8_hours_13, ↓tbX8_hours_16, ↓tbX8_hours_17, ↓tbX8_hours_20, ↓tbX8_hours_21, ↓tbX8_hours_24, ↓tbX8_hours_27, ↓tbX8_hours_28, ↓tbX8_hours_29, ↓tbX8_hours_30, ↓tbX8_hours_31, ↓tbX8_hours_34, ↓tbX8_hours_37, ↓tbX8_hours_38, ↓tbX8_hours_41, ↓tbX8_hours_42, ↓tbX8_hours_43, ↓tbX8_hours_46, ↓tbX8_hours_47, ↓tbX8_hours_50, ↓tbX8_hours_51, ↓tbX8_hours_52, ↓tbX8_hours_55, ↓tbX8_hours_56, ↓tbX8_hours_59, ↓tbX8_hours_60, ↓tbX8_hours_61, ↓tbX8_hours_62, ↓tbX8_hours_63, ↓tbX8_hours_66, ↓tbX8_hours_67, ↓tbX8_hours_70, ↓tbX8_hours_71, ↓tbX8_hours_72, ↓tbX8_hours_73, ↓tbX8_hours_74, ↓tbX8_hours_75, ↓tbX8_hours_78, ↓tbX8_hours_81, ↓tbX8_hours_82, ↓tbX8_hours_85, ↓tbX8_hours_86, ↓tbX8_hours_89, ↓tbX8_hours_90, ↓tbX8_hours_91, ↓tbX8_hours_93, ↓tbX8_hours_94, ↓tbX8_hours_96, ↓tbX8_hours_97, ↓tbX8_hours_98, ↓tbX8_hours_101, ↓tbX8_hours_102, ↓tbX8_hours_103, ↓tbX8_hours_106, ↓tbX8_hours_107, ↓tbX8_hours_110, ↓tbX8_hours_111, ↓tbX8_hours_113, ↓tbX8_hours_115, ↓tbX8_hours_118, ↓tbX8_hours_119, ↓tbX8_hours_122, ↓tbX8_hours_123, ↓tbX8_hours_124, ↓tbX8_hours_125, ↓tbX8_hours_127, ↓tbX8_hours_129, ↓tbX8_hours_132, ↓tbX8_hours_133, ↓tbX8_hours_135, ↓tbX8_hours_136, ↓tbX8_hours_138, ↓tbX8_hours_141, ↓tbX8_hours_144, ↓tbX8_hours_145, ↓tbX8_hours_148, ↓tbX8_hours_149, ↓tbX8_hours_151, ↓tbX8_hours_153, ↓tbX8_hours_154, ↓tbX8_hours_156, ↓tbX8_hours_157, ↓tbX8_hours_159, ↓tbX8_hours_162, ↓tbX8_hours_163, ↓tbX8_hours_165, ↓tbX8_hours_166, ↓tbX8_hours_168, ↓tbX8_hours_171, ↓tbX8_hours_172, ↓tbX8_hours_175, ↓tbX8_hours_176, ↓tbX8_hours_177, ↓tbX8_hours_178, ↓tbX8_hours_181, ↓tbX8_hours_183, ↓tbX8_hours_186, ↓tbX8_hours_187, ↓tbX8_hours_190, ↓tbX8_hours_192, hfu, xstep0, xJ1_hit, xJ1_go, xJ2_hit1, xJ2_hit2, xJ2_go, ↓xif_t, ↓xif_f, seval, ↓xca_eq, ↓xre_l, ↓xre_r, xmask_t, xmask_f, xmask_nil, ↓xst_eq, xX_eq, eI_eq, eMc_eq, eMs_eq, eF_eq, eThr_eq, ↓xS1_mk, ↓xSI_mk, ↓xSR_mk, ↓xLI_0, ↓xLI_s, ↓xLR_0, ↓xLR_s, vRef_ref, vRef_null, vRef_rf, cat_int, cat_ref, cat_null, cat_rf, rf_some, rf_none, rf_null, rf_eq, rf_ref, ref_rf, ref_null, ref_ref, xOk_0, xOk_1, xOk_2r, xOk_2n, xOk_2f, vOpt_rf, vOpt_ref, vOpt_null, List.set_cons_zero, List.set_cons_succ, List.take_succ_cons, List.take_zero, List.drop_succ_cons, List.drop_zero, List.reverse_cons, List.reverse_nil, List.nil_append, List.cons_append, List.append_nil, List.length_cons, List.length_nil, List.map_cons, List.map_nil, List.sum_cons, List.sum_nil, Option.toList_some, Option.toList_none, xRecv_mk, true_and, and_true, true_implies, Nat.reduceAdd, Nat.reduceLeDiff, Nat.zero_le, Nat.le_refl, Nat.add_zero, Nat.zero_add, reduceIte, not_true_eq_false, not_false_eq_true, false_implies, and_self, implies_true, eq_self, Nat.reduceEqDiff, List.cons.injEq, xsn_1, xsn_2, false_and, and_false, or_false, false_or, or_true, true_or, xsn_3, xsn_4, mAst_1, mAst_2, mSet_1, mSet_2, bi_0, ↓spwX8_isBoat, spcX8_isBoat, ↓spwX8_isPoint, spcX8_isPoint, ↓spwX8_holds, spcX8_holds, ↓spwX8_stands, spcX8_stands, ↓spwX8_unfit, spcX8_unfit, ↓spwX8_hoursIn, spcX8_hoursIn]
          try simp only [xif_e]
          repeat' (first | with_reducible apply And.intro | with_reducible intro _)
          all_goals grind [bi])
      refine loop 0 (Nat.zero_le _) lv st S cs ss ?_
      obtain ⟨e1, e2⟩ := hI
      refine ⟨?_, e2⟩
      rw [e1]
      cases u <;> rfl
    have c96 : ∀ lv st S cs ss, (lv = [some (.ref (aM 0)), some (.int b), some (.int (nI y)), some (.int (nI a)), some (.int (if M.2 34 b.toNatClampNeg = -1 then 0 else M.2 36 b.toNatClampNeg)), some (.int 0), none, none] ∧ st = [] ∧ mSet M 0 0 = S ∧ cs = 0 ∧ ss = 0) → G 96 lv st S cs ss := by
      by_cases d : a < y
      · rw [if_pos d, decide_eq_true d] at h
        exact key true (y - a) (fun _ => by omega) (fun q => by cases q) h
      · rw [if_neg d, decide_eq_false d] at h
        exact key false (a - y) (fun q => by cases q) (fun _ => by omega) h
    refine xgo hG (mb := [true, true, true, true, true, true, false, false]) c96 (pc := 0) (fun fu hfu => ?_)
    unfold mAt0 at ea
    simp only [↓callX8_hours_0, ↓callX8_hours_1, ↓callX8_hours_2, ↓callX8_hours_3, ↓callX8_hours_4, ↓callX8_hours_5, ki_0, ki_1, ki_m1, ↓ma_33, ↓ma_34, ↓ma_35, ↓ma_36, ↓mg_33, ↓mg_34, ↓mg_35, ↓mg_36, misa, ↓vm_aload_n, ↓vm_baload, ↓vm_getfield, ↓vm_goto, ↓vm_iadd, ↓vm_iaload, ↓vm_iconst, ↓vm_ifCond_eq, ↓vm_ifCond_le, ↓vm_ifCond_ne, ↓vm_if_icmp_eq, ↓vm_if_icmp_le, ↓vm_iload, ↓vm_iload_n, ↓vm_invokestatic, ↓vm_invokevirtual, ↓vm_ireturn, ↓vm_istore, ↓vm_istore_n, ↓vm_isub, ↓xc_1, ↓xc_2, ↓xc_4, ↓tbX8_hours_0, ↓tbX8_hours_1, ↓tbX8_hours_2, ↓tbX8_hours_3, ↓tbX8_hours_6, ↓tbX8_hours_9, ↓tbX8_hours_10, ↓tbX8_hours_13, ↓tbX8_hours_16, ↓tbX8_hours_17, ↓tbX8_hours_20, ↓tbX8_hours_21, ↓tbX8_hours_24, ↓tbX8_hours_27, ↓tbX8_hours_28, ↓tbX8_hours_29, ↓tbX8_hours_30, ↓tbX8_hours_31, ↓tbX8_hours_34, ↓tbX8_hours_37, ↓tbX8_hours_38, ↓tbX8_hours_41, ↓tbX8_hours_42, ↓tbX8_hours_43, ↓tbX8_hours_46, ↓tbX8_hours_47, ↓tbX8_hours_50, ↓tbX8_hours_51, ↓tbX8_hours_52, ↓tbX8_hours_55, ↓tbX8_hours_56, ↓tbX8_hours_59, ↓tbX8_hours_60, ↓tbX8_hours_61, ↓tbX8_hours_62, ↓tbX8_hours_63, ↓tbX8_hours_66, ↓tbX8_hours_67, ↓tbX8_hours_70, ↓tbX8_hours_71, ↓tbX8_hours_72, ↓tbX8_hours_73, ↓tbX8_hours_74, ↓tbX8_hours_75, ↓tbX8_hours_78, ↓tbX8_hours_81, ↓tbX8_hours_82, ↓tbX8_hours_85, ↓tbX8_hours_86, ↓tbX8_hours_89, ↓tbX8_hours_90, ↓tbX8_hours_91, ↓tbX8_hours_93, ↓tbX8_hours_94, ↓tbX8_hours_96, ↓tbX8_hours_97, ↓tbX8_hours_98, ↓tbX8_hours_101, ↓tbX8_hours_102, ↓tbX8_hours_103, ↓tbX8_hours_106, ↓tbX8_hours_107, ↓tbX8_hours_110, ↓tbX8_hours_111, ↓tbX8_hours_113, ↓tbX8_hours_115, ↓tbX8_hours_118, ↓tbX8_hours_119, ↓tbX8_hours_122, ↓tbX8_hours_123, ↓tbX8_hours_124, ↓tbX8_hours_125, ↓tbX8_hours_127, ↓tbX8_hours_129, ↓tbX8_hours_132, ↓tbX8_hours_133, ↓tbX8_hours_135, ↓tbX8_hours_136, ↓tbX8_hours_138, ↓tbX8_hours_141, ↓tbX8_hours_144, ↓tbX8_hours_145, ↓tbX8_hours_148, ↓tbX8_hours_149, ↓tbX8_hours_151, ↓tbX8_hours_153, ↓tbX8_hours_154, ↓tbX8_hours_156, ↓tbX8_hours_157, ↓tbX8_hours_159, ↓tbX8_hours_162, ↓tbX8_hours_163, ↓tbX8_hours_165, ↓tbX8_hours_166, ↓tbX8_hours_168, ↓tbX8_hours_171, ↓tbX8_hours_172, ↓tbX8_hours_175, ↓tbX8_hours_176, ↓tbX8_hours_177, ↓tbX8_hours_178, ↓tbX8_hours_181, ↓tbX8_hours_183, ↓tbX8_hours_186, ↓tbX8_hours_187, ↓tbX8_hours_190, ↓tbX8_hours_192, hfu, xstep0, xJ1_hit, xJ1_go, xJ2_hit1, xJ2_hit2, xJ2_go, ↓xif_t, ↓xif_f, seval, ↓xca_eq, ↓xre_l, ↓xre_r, xmask_t, xmask_f, xmask_nil, ↓xst_eq, xX_eq, eI_eq, eMc_eq, eMs_eq, eF_eq, eThr_eq, ↓xS1_mk, ↓xSI_mk, ↓xSR_mk, ↓xLI_0, ↓xLI_s, ↓xLR_0, ↓xLR_s, vRef_ref, vRef_null, vRef_rf, cat_int, cat_ref, cat_null, cat_rf, rf_some, rf_none, rf_null, rf_eq, rf_ref, ref_rf, ref_null, ref_ref, xOk_0, xOk_1, xOk_2r, xOk_2n, xOk_2f, vOpt_rf, vOpt_ref, vOpt_null, List.set_cons_zero, List.set_cons_succ, List.take_succ_cons, List.take_zero, List.drop_succ_cons, List.drop_zero, List.reverse_cons, List.reverse_nil, List.nil_append, List.cons_append, List.append_nil, List.length_cons, List.length_nil, List.map_cons, List.map_nil, List.sum_cons, List.sum_nil, Option.toList_some, Option.toList_none, xRecv_mk, true_and, and_true, true_implies, Nat.reduceAdd, Nat.reduceLeDiff, Nat.zero_le, Nat.le_refl, Nat.add_zero, Nat.zero_add, reduceIte, not_true_eq_false, not_false_eq_true, false_implies, and_self, implies_true, eq_self, Nat.reduceEqDiff, List.cons.injEq, xsn_1, xsn_2, false_and, and_false, or_false, false_or, or_true, true_or, xsn_3, xsn_4, mAst_1, mAst_2, mSet_1, mSet_2, bi_0, ↓spwX8_isBoat, spcX8_isBoat, ↓spwX8_isPoint, spcX8_isPoint, ↓spwX8_holds, spcX8_holds, ↓spwX8_stands, spcX8_stands, ↓spwX8_unfit, spcX8_unfit, ↓spwX8_hoursIn, spcX8_hoursIn, c1, c2, h1]
    try simp only [xif_e]
    repeat' (first | with_reducible apply And.intro | with_reducible intro _)
    all_goals grind [bi]
  · rw [if_neg c] at h
    refine xgo hG (mb := []) (head := 96) (P := fun _ _ _ _ _ => False) (fun _ _ _ _ _ q => q.elim) (pc := 0) (fun fu hfu => ?_)
    simp only [↓callX8_hours_0, ↓callX8_hours_1, ↓callX8_hours_2, ↓callX8_hours_3, ↓callX8_hours_4, ↓callX8_hours_5, ki_0, ki_1, ki_m1, ↓ma_33, ↓ma_34, ↓ma_35, ↓ma_36, ↓mg_33, ↓mg_34, ↓mg_35, ↓mg_36, misa, ↓vm_aload_n, ↓vm_baload, ↓vm_getfield, ↓vm_goto, ↓vm_iadd, ↓vm_iaload, ↓vm_iconst, ↓vm_ifCond_eq, ↓vm_ifCond_le, ↓vm_ifCond_ne, ↓vm_if_icmp_eq, ↓vm_if_icmp_le, ↓vm_iload, ↓vm_iload_n, ↓vm_invokestatic, ↓vm_invokevirtual, ↓vm_ireturn, ↓vm_istore, ↓vm_istore_n, ↓vm_isub, ↓xc_1, ↓xc_2, ↓xc_4, ↓tbX8_hours_0, ↓tbX8_hours_1, ↓tbX8_hours_2, ↓tbX8_hours_3, ↓tbX8_hours_6, ↓tbX8_hours_9, ↓tbX8_hours_10, ↓tbX8_hours_13, ↓tbX8_hours_16, ↓tbX8_hours_17, ↓tbX8_hours_20, ↓tbX8_hours_21, ↓tbX8_hours_24, ↓tbX8_hours_27, ↓tbX8_hours_28, ↓tbX8_hours_29, ↓tbX8_hours_30, ↓tbX8_hours_31, ↓tbX8_hours_34, ↓tbX8_hours_37, ↓tbX8_hours_38, ↓tbX8_hours_41, ↓tbX8_hours_42, ↓tbX8_hours_43, ↓tbX8_hours_46, ↓tbX8_hours_47, ↓tbX8_hours_50, ↓tbX8_hours_51, ↓tbX8_hours_52, ↓tbX8_hours_55, ↓tbX8_hours_56, ↓tbX8_hours_59, ↓tbX8_hours_60, ↓tbX8_hours_61, ↓tbX8_hours_62, ↓tbX8_hours_63, ↓tbX8_hours_66, ↓tbX8_hours_67, ↓tbX8_hours_70, ↓tbX8_hours_71, ↓tbX8_hours_72, ↓tbX8_hours_73, ↓tbX8_hours_74, ↓tbX8_hours_75, ↓tbX8_hours_78, ↓tbX8_hours_81, ↓tbX8_hours_82, ↓tbX8_hours_85, ↓tbX8_hours_86, ↓tbX8_hours_89, ↓tbX8_hours_90, ↓tbX8_hours_91, ↓tbX8_hours_93, ↓tbX8_hours_94, ↓tbX8_hours_96, ↓tbX8_hours_97, ↓tbX8_hours_98, ↓tbX8_hours_101, ↓tbX8_hours_102, ↓tbX8_hours_103, ↓tbX8_hours_106, ↓tbX8_hours_107, ↓tbX8_hours_110, ↓tbX8_hours_111, ↓tbX8_hours_113, ↓tbX8_hours_115, ↓tbX8_hours_118, ↓tbX8_hours_119, ↓tbX8_hours_122, ↓tbX8_hours_123, ↓tbX8_hours_124, ↓tbX8_hours_125, ↓tbX8_hours_127, ↓tbX8_hours_129, ↓tbX8_hours_132, ↓tbX8_hours_133, ↓tbX8_hours_135, ↓tbX8_hours_136, ↓tbX8_hours_138, ↓tbX8_hours_141, ↓tbX8_hours_144, ↓tbX8_hours_145, ↓tbX8_hours_148, ↓tbX8_hours_149, ↓tbX8_hours_151, ↓tbX8_hours_153, ↓tbX8_hours_154, ↓tbX8_hours_156, ↓tbX8_hours_157, ↓tbX8_hours_159, ↓tbX8_hours_162, ↓tbX8_hours_163, ↓tbX8_hours_165, ↓tbX8_hours_166, ↓tbX8_hours_168, ↓tbX8_hours_171, ↓tbX8_hours_172, ↓tbX8_hours_175, ↓tbX8_hours_176, ↓tbX8_hours_177, ↓tbX8_hours_178, ↓tbX8_hours_181, ↓tbX8_hours_183, ↓tbX8_hours_186, ↓tbX8_hours_187, ↓tbX8_hours_190, ↓tbX8_hours_192, hfu, xstep0, xJ1_hit, xJ1_go, xJ2_hit1, xJ2_hit2, xJ2_go, ↓xif_t, ↓xif_f, seval, ↓xca_eq, ↓xre_l, ↓xre_r, xmask_t, xmask_f, xmask_nil, ↓xst_eq, xX_eq, eI_eq, eMc_eq, eMs_eq, eF_eq, eThr_eq, ↓xS1_mk, ↓xSI_mk, ↓xSR_mk, ↓xLI_0, ↓xLI_s, ↓xLR_0, ↓xLR_s, vRef_ref, vRef_null, vRef_rf, cat_int, cat_ref, cat_null, cat_rf, rf_some, rf_none, rf_null, rf_eq, rf_ref, ref_rf, ref_null, ref_ref, xOk_0, xOk_1, xOk_2r, xOk_2n, xOk_2f, vOpt_rf, vOpt_ref, vOpt_null, List.set_cons_zero, List.set_cons_succ, List.take_succ_cons, List.take_zero, List.drop_succ_cons, List.drop_zero, List.reverse_cons, List.reverse_nil, List.nil_append, List.cons_append, List.append_nil, List.length_cons, List.length_nil, List.map_cons, List.map_nil, List.sum_cons, List.sum_nil, Option.toList_some, Option.toList_none, xRecv_mk, true_and, and_true, true_implies, Nat.reduceAdd, Nat.reduceLeDiff, Nat.zero_le, Nat.le_refl, Nat.add_zero, Nat.zero_add, reduceIte, not_true_eq_false, not_false_eq_true, false_implies, and_self, implies_true, eq_self, Nat.reduceEqDiff, List.cons.injEq, xsn_1, xsn_2, false_and, and_false, or_false, false_or, or_true, true_or, xsn_3, xsn_4, mAst_1, mAst_2, mSet_1, mSet_2, bi_0, ↓spwX8_isBoat, spcX8_isBoat, ↓spwX8_isPoint, spcX8_isPoint, ↓spwX8_holds, spcX8_holds, ↓spwX8_stands, spcX8_stands, ↓spwX8_unfit, spcX8_unfit, ↓spwX8_hoursIn, spcX8_hoursIn]
    try simp only [xif_e]
    repeat' (first | with_reducible apply And.intro | with_reducible intro _)
    all_goals grind [bi]
