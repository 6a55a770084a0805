/-! The twin's methods: what is told. -/
def oReach (M : mS) (s h d w z : Int32) : mS :=
  if ¬ (0 ≤ s ∧ s ≤ 6) then mSet M 0 1
  else if ¬ ((1 ≤ h ∧ h ≤ 9) ∧ (10 ≤ d ∧ d ≤ 99) ∧ 1 ≤ w ∧ w ≤ 4) then mSet M 0 2
  else if 0 < mCnt M s (nBt M) then mSet M 0 3
  else mAst (mAst (mAst (mAst (mAst (mSet M 0 0) 5 s.toNatClampNeg 0) 9 s.toNatClampNeg h) 6 s.toNatClampNeg d) 10 s.toNatClampNeg w) 11 s.toNatClampNeg z
def oLock (M : mS) (s c t z : Int32) : mS :=
  if ¬ (0 ≤ s ∧ s ≤ 6) then mSet M 0 1
  else if ¬ ((1 ≤ c ∧ c ≤ 9) ∧ 1 ≤ t ∧ t ≤ 3) then mSet M 0 2
  else if 0 < mCnt M s (nBt M) then mSet M 0 3
  else mAst (mAst (mAst (mAst (mAst (mAst (mSet M 0 0) 5 s.toNatClampNeg 1) 12 s.toNatClampNeg c) 13 s.toNatClampNeg t) 14 s.toNatClampNeg z) 15 s.toNatClampNeg 0) 16 s.toNatClampNeg 0
def oDredge (M : mS) (s y : Int32) : Int32 × mS :=
  if ¬ (0 ≤ s ∧ s ≤ 6) then (0, mSet M 0 1)
  else if ¬ (1 ≤ y ∧ y ≤ 20) then (0, mSet M 0 2)
  else if 99 < M.2 6 s.toNatClampNeg + y then (0, mSet M 0 3)
  else (M.2 6 s.toNatClampNeg + y, mAst (mSet M 0 0) 6 s.toNatClampNeg (M.2 6 s.toNatClampNeg + y))
def oStage (M : mS) (v f : Int32) : Int32 × mS :=
  if ((-30 ≤ v ∧ v ≤ 60) ∧ -9 ≤ f ∧ f ≤ 9) then (M.1 2, mSet (mSet (mSet M 0 0) 2 v) 3 f) else (0, mSet M 0 1)
def oWeather (M : mS) (s i z : Int32) : Int32 × mS :=
  if ¬ (0 ≤ s ∧ s ≤ 6) then (0, mSet M 0 1)
  else if (0 ≤ i ∧ i ≤ 3) then (M.2 7 s.toNatClampNeg, mAst (mAst (mSet M 0 0) 7 s.toNatClampNeg i) 8 s.toNatClampNeg z)
  else (0, mSet M 0 2)
def oFog (M : mS) (z : Int32) : Int32 × mS := (M.1 4, mSet (mSet M 0 0) 4 z)
def oBank (M : mS) (p t m : Int32) : Int32 × mS :=
  if ¬ ((0 ≤ p ∧ p ≤ 7) ∧ 0 ≤ t ∧ t ≤ 1) then (0, mSet M 0 1)
  else if ¬ (0 ≤ m ∧ m ≤ 5) then (0, mSet M 0 2)
  else if m < M.2 18 (2 * p + t).toNatClampNeg then (0, mSet M 0 3)
  else (M.2 17 (2 * p + t).toNatClampNeg, mAst (mSet M 0 0) 17 (2 * p + t).toNatClampNeg m)
def mTies (M : mS) (b t : Int32) : mS := mAst (mAst (mAst (mAst M 27 b.toNatClampNeg t) 28 b.toNatClampNeg (-1)) 19 (5 * t + M.2 18 t.toNatClampNeg).toNatClampNeg b) 18 t.toNatClampNeg (M.2 18 t.toNatClampNeg + 1)
theorem mTies_1 (M : mS) (b t : Int32) : (mTies M b t).1 = M.1 := rfl
def oBarge (M : mS) (y p t : Int32) : Int32 × mS :=
  if ¬ ((0 ≤ p ∧ p ≤ 7) ∧ 0 ≤ t ∧ t ≤ 1) then (0, mSet M 0 1)
  else if ¬ (0 ≤ y ∧ y ≤ 2) then (0, mSet M 0 2)
  else if M.1 22 = 24 ∨ ¬ M.2 18 (2 * p + t).toNatClampNeg < M.2 17 (2 * p + t).toNatClampNeg then (0, mSet M 0 3)
  else (M.1 22 + 1 - 1, mSet (mTies (mAst (mAst (mAst (mAst (mSet M 0 0) 23 (M.1 22).toNatClampNeg y) 24 (M.1 22).toNatClampNeg 0) 25 (M.1 22).toNatClampNeg (-1)) 26 (M.1 22).toNatClampNeg (-1)) (M.1 22) (2 * p + t)) 22 (M.1 22 + 1))
def oContract (M : mS) (k f t u l r : Int32) : Int32 × mS :=
  if ¬ ((0 ≤ f ∧ f ≤ 7) ∧ 0 ≤ t ∧ t ≤ 7) then (0, mSet M 0 1)
  else if ¬ ((0 ≤ k ∧ k ≤ 2) ∧ (1 ≤ u ∧ u ≤ 99) ∧ (0 ≤ l ∧ l ≤ 5000) ∧ (0 ≤ r ∧ r ≤ 300) ∧ f ≠ t) then (0, mSet M 0 2)
  else if M.1 46 = 12 then (0, mSet M 0 3)
  else (M.1 46 + 1 - 1, mSet (mAst (mAst (mAst (mAst (mAst (mAst (mSet M 0 0) 47 (M.1 46).toNatClampNeg k) 48 (M.1 46).toNatClampNeg f) 49 (M.1 46).toNatClampNeg t) 50 (M.1 46).toNatClampNeg u) 51 (M.1 46).toNatClampNeg l) 52 (M.1 46).toNatClampNeg r) 46 (M.1 46 + 1))
def oDivert (M : mS) (c t : Int32) : Int32 × mS :=
  if ¬ ((0 ≤ c ∧ c ≤ M.1 46 - 1) ∧ 0 ≤ t ∧ t ≤ 7) then (0, mSet M 0 1)
  else if M.2 48 c.toNatClampNeg = t ∨ M.2 49 c.toNatClampNeg = t then (0, mSet M 0 2)
  else (M.2 49 c.toNatClampNeg, mAst (mAst (mSet M 0 0) 49 c.toNatClampNeg t) 55 c.toNatClampNeg (M.2 55 c.toNatClampNeg + 1))

def tbX8_reach : List (Nat × xHint) := [(0, .iload_n 1, 1, 0, 0, []), (1, .invokestatic 176, 0, 1, 0, []), (4, .istore 6, 6, 0, 0, []), (6, .iload_n 2, 2, 0, 0, []), (7, .iconst 1, 0, 0, 0, []), (8, .bipush 9, 0, 0, 0, []), (10, .invokestatic 159, 1, 3, 0, []), (13, .ifCond .eq 28, 41, 0, 0, []), (16, .iload_n 3, 3, 0, 0, []), (17, .bipush 10, 0, 0, 0, []), (19, .bipush 99, 0, 0, 0, []), (21, .invokestatic 159, 1, 3, 0, []), (24, .ifCond .eq 17, 41, 0, 0, []), (27, .iload 4, 4, 0, 0, []), (29, .iconst 1, 0, 0, 0, []), (30, .iconst 4, 0, 0, 0, []), (31, .invokestatic 159, 1, 3, 0, []), (34, .ifCond .eq 7, 41, 0, 0, []), (37, .iconst 1, 0, 0, 0, []), (38, .goto 4, 42, 0, 0, []), (41, .iconst 0, 0, 0, 0, []), (42, .istore 7, 7, 0, 0, []), (44, .aload_n 0, 0, 0, 0, []), (45, .iload 6, 6, 0, 0, []), (47, .ifCond .ne 7, 54, 0, 0, []), (50, .iconst 1, 0, 0, 0, []), (51, .goto 25, 76, 0, 0, []), (54, .iload 7, 7, 0, 0, []), (56, .ifCond .ne 7, 63, 0, 0, []), (59, .iconst 2, 0, 0, 0, []), (60, .goto 16, 76, 0, 0, []), (63, .aload_n 0, 0, 0, 0, []), (64, .iload_n 1, 1, 0, 0, []), (65, .invokevirtual 179, 2, 2, 9, []), (68, .ifCond .le 7, 75, 0, 0, []), (71, .iconst 3, 0, 0, 0, []), (72, .goto 4, 76, 0, 0, []), (75, .iconst 0, 0, 0, 0, []), (76, .invokevirtual 183, 3, 2, 9, []), (79, .ifCond .eq 40, 119, 0, 0, []), (82, .aload_n 0, 0, 0, 0, []), (83, .getfield 7, 9, 5, 2, []), (86, .iload_n 1, 1, 0, 0, []), (87, .iconst 0, 0, 0, 0, []), (88, .bastore, 5, 0, 0, []), (89, .aload_n 0, 0, 0, 0, []), (90, .getfield 23, 9, 9, 2, []), (93, .iload_n 1, 1, 0, 0, []), (94, .iload_n 2, 2, 0, 0, []), (95, .iastore, 9, 0, 0, []), (96, .aload_n 0, 0, 0, 0, []), (97, .getfield 13, 9, 6, 2, []), (100, .iload_n 1, 1, 0, 0, []), (101, .iload_n 3, 3, 0, 0, []), (102, .iastore, 6, 0, 0, []), (103, .aload_n 0, 0, 0, 0, []), (104, .getfield 26, 9, 10, 2, []), (107, .iload_n 1, 1, 0, 0, []), (108, .iload 4, 4, 0, 0, []), (110, .iastore, 10, 0, 0, []), (111, .aload_n 0, 0, 0, 0, []), (112, .getfield 29, 9, 11, 2, []), (115, .iload_n 1, 1, 0, 0, []), (116, .iload 5, 5, 0, 0, []), (118, .bastore, 11, 0, 0, []), (119, .return_, 0, 0, 0, [])]
def clX8_reach : List (Instr × Nat × Nat × Nat) := [(.invokestatic 176, 0, 1, 0), (.invokestatic 159, 1, 3, 0), (.invokevirtual 179, 2, 2, 9), (.invokevirtual 183, 3, 2, 9)]
def thX8_reach : List (Nat × Nat) := []
theorem ckX8_reach : tbX8_reach.all (xRow RX8 cX8_reach wsX8_reach vwCl [9] clX8_reach thX8_reach 8 (yX8_reach.name == "<init>") none) = true := xRow_q 0xb15405151b1d00b42a4f04151b1a00b42a4f1d1b0d00b42a4f1c1b1700b42a54031b0700b42a280099b700b6030400a70607009eb300b61b2a1000a70507009a07151900a70407009a06152a0736030400a7040700999f00b8070404151100999f00b863100a101d1c00999f00b80910041c0636b000b81b 120 (by decide +kernel) (by decide +kernel)
theorem usX8_reach : xUse wsX8_reach vwCl [9] = true := xUse_g rfl (lw_good lwl_X8_reach lwl_X80 (by decide +kernel)) xUse_n
theorem tbX8_reach_0 {k : Instr → Nat → Nat → Nat → List Nat → Prop} : xse (xFind tbX8_reach 0) k = k (.iload_n 1) 1 0 0 [] := rfl
theorem tbX8_reach_1 {k : Instr → Nat → Nat → Nat → List Nat → Prop} : xse (xFind tbX8_reach 1) k = k (.invokestatic 176) 0 1 0 [] := rfl
theorem tbX8_reach_4 {k : Instr → Nat → Nat → Nat → List Nat → Prop} : xse (xFind tbX8_reach 4) k = k (.istore 6) 6 0 0 [] := rfl
theorem tbX8_reach_6 {k : Instr → Nat → Nat → Nat → List Nat → Prop} : xse (xFind tbX8_reach 6) k = k (.iload_n 2) 2 0 0 [] := rfl
theorem tbX8_reach_7 {k : Instr → Nat → Nat → Nat → List Nat → Prop} : xse (xFind tbX8_reach 7) k = k (.iconst 1) 0 0 0 [] := rfl
theorem tbX8_reach_8 {k : Instr → Nat → Nat → Nat → List Nat → Prop} : xse (xFind tbX8_reach 8) k = k (.bipush 9) 0 0 0 [] := rfl
theorem tbX8_reach_10 {k : Instr → Nat → Nat → Nat → List Nat → Prop} : xse (xFind tbX8_reach 10) k = k (.invokestatic 159) 1 3 0 [] := rfl
theorem tbX8_reach_13 {k : Instr → Nat → Nat → Nat → List Nat → Prop} : xse (xFind tbX8_reach 13) k = k (.ifCond .eq 28) 41 0 0 [] := rfl
theorem tbX8_reach_16 {k : Instr → Nat → Nat → Nat → List Nat → Prop} : xse (xFind tbX8_reach 16) k = k (.iload_n 3) 3 0 0 [] := rfl
theorem tbX8_reach_17 {k : Instr → Nat → Nat → Nat → List Nat → Prop} : xse (xFind tbX8_reach 17) k = k (.bipush 10) 0 0 0 [] := rfl
theorem tbX8_reach_19 {k : Instr → Nat → Nat → Nat → List Nat → Prop} : xse (xFind tbX8_reach 19) k = k (.bipush 99) 0 0 0 [] := rfl
theorem tbX8_reach_21 {k : Instr → Nat → Nat → Nat → List Nat → Prop} : xse (xFind tbX8_reach 21) k = k (.invokestatic 159) 1 3 0 [] := rfl
theorem tbX8_reach_24 {k : Instr → Nat → Nat → Nat → List Nat → Prop} : xse (xFind tbX8_reach 24) k = k (.ifCond .eq 17) 41 0 0 [] := rfl
theorem tbX8_reach_27 {k : Instr → Nat → Nat → Nat → List Nat → Prop} : xse (xFind tbX8_reach 27) k = k (.iload 4) 4 0 0 [] := rfl
theorem tbX8_reach_29 {k : Instr → Nat → Nat → Nat → List Nat → Prop} : xse (xFind tbX8_reach 29) k = k (.iconst 1) 0 0 0 [] := rfl
theorem tbX8_reach_30 {k : Instr → Nat → Nat → Nat → List Nat → Prop} : xse (xFind tbX8_reach 30) k = k (.iconst 4) 0 0 0 [] := rfl
theorem tbX8_reach_31 {k : Instr → Nat → Nat → Nat → List Nat → Prop} : xse (xFind tbX8_reach 31) k = k (.invokestatic 159) 1 3 0 [] := rfl
theorem tbX8_reach_34 {k : Instr → Nat → Nat → Nat → List Nat → Prop} : xse (xFind tbX8_reach 34) k = k (.ifCond .eq 7) 41 0 0 [] := rfl
theorem tbX8_reach_37 {k : Instr → Nat → Nat → Nat → List Nat → Prop} : xse (xFind tbX8_reach 37) k = k (.iconst 1) 0 0 0 [] := rfl
theorem tbX8_reach_38 {k : Instr → Nat → Nat → Nat → List Nat → Prop} : xse (xFind tbX8_reach 38) k = k (.goto 4) 42 0 0 [] := rfl
theorem tbX8_reach_41 {k : Instr → Nat → Nat → Nat → List Nat → Prop} : xse (xFind tbX8_reach 41) k = k (.iconst 0) 0 0 0 [] := rfl
theorem tbX8_reach_42 {k : Instr → Nat → Nat → Nat → List Nat → Prop} : xse (xFind tbX8_reach 42) k = k (.istore 7) 7 0 0 [] := rfl
theorem tbX8_reach_44 {k : Instr → Nat → Nat → Nat → List Nat → Prop} : xse (xFind tbX8_reach 44) k = k (.aload_n 0) 0 0 0 [] := rfl
theorem tbX8_reach_45 {k : Instr → Nat → Nat → Nat → List Nat → Prop} : xse (xFind tbX8_reach 45) k = k (.iload 6) 6 0 0 [] := rfl
theorem tbX8_reach_47 {k : Instr → Nat → Nat → Nat → List Nat → Prop} : xse (xFind tbX8_reach 47) k = k (.ifCond .ne 7) 54 0 0 [] := rfl
theorem tbX8_reach_50 {k : Instr → Nat → Nat → Nat → List Nat → Prop} : xse (xFind tbX8_reach 50) k = k (.iconst 1) 0 0 0 [] := rfl
theorem tbX8_reach_51 {k : Instr → Nat → Nat → Nat → List Nat → Prop} : xse (xFind tbX8_reach 51) k = k (.goto 25) 76 0 0 [] := rfl
theorem tbX8_reach_54 {k : Instr → Nat → Nat → Nat → List Nat → Prop} : xse (xFind tbX8_reach 54) k = k (.iload 7) 7 0 0 [] := rfl
theorem tbX8_reach_56 {k : Instr → Nat → Nat → Nat → List Nat → Prop} : xse (xFind tbX8_reach 56) k = k (.ifCond .ne 7) 63 0 0 [] := rfl
theorem tbX8_reach_59 {k : Instr → Nat → Nat → Nat → List Nat → Prop} : xse (xFind tbX8_reach 59) k = k (.iconst 2) 0 0 0 [] := rfl
theorem tbX8_reach_60 {k : Instr → Nat → Nat → Nat → List Nat → Prop} : xse (xFind tbX8_reach 60) k = k (.goto 16) 76 0 0 [] := rfl
theorem tbX8_reach_63 {k : Instr → Nat → Nat → Nat → List Nat → Prop} : xse (xFind tbX8_reach 63) k = k (.aload_n 0) 0 0 0 [] := rfl
theorem tbX8_reach_64 {k : Instr → Nat → Nat → Nat → List Nat → Prop} : xse (xFind tbX8_reach 64) k = k (.iload_n 1) 1 0 0 [] := rfl
theorem tbX8_reach_65 {k : Instr → Nat → Nat → Nat → List Nat → Prop} : xse (xFind tbX8_reach 65) k = k (.invokevirtual 179) 2 2 9 [] := rfl
theorem tbX8_reach_68 {k : Instr → Nat → Nat → Nat → List Nat → Prop} : xse (xFind tbX8_reach 68) k = k (.ifCond .le 7) 75 0 0 [] := rfl
theorem tbX8_reach_71 {k : Instr → Nat → Nat → Nat → List Nat → Prop} : xse (xFind tbX8_reach 71) k = k (.iconst 3) 0 0 0 [] := rfl
theorem tbX8_reach_72 {k : Instr → Nat → Nat → Nat → List Nat → Prop} : xse (xFind tbX8_reach 72) k = k (.goto 4) 76 0 0 [] := rfl
theorem tbX8_reach_75 {k : Instr → Nat → Nat → Nat → List Nat → Prop} : xse (xFind tbX8_reach 75) k = k (.iconst 0) 0 0 0 [] := rfl
theorem tbX8_reach_76 {k : Instr → Nat → Nat → Nat → List Nat → Prop} : xse (xFind tbX8_reach 76) k = k (.invokevirtual 183) 3 2 9 [] := rfl
theorem tbX8_reach_79 {k : Instr → Nat → Nat → Nat → List Nat → Prop} : xse (xFind tbX8_reach 79) k = k (.ifCond .eq 40) 119 0 0 [] := rfl
theorem tbX8_reach_82 {k : Instr → Nat → Nat → Nat → List Nat → Prop} : xse (xFind tbX8_reach 82) k = k (.aload_n 0) 0 0 0 [] := rfl
theorem tbX8_reach_83 {k : Instr → Nat → Nat → Nat → List Nat → Prop} : xse (xFind tbX8_reach 83) k = k (.getfield 7) 9 5 2 [] := rfl
theorem tbX8_reach_86 {k : Instr → Nat → Nat → Nat → List Nat → Prop} : xse (xFind tbX8_reach 86) k = k (.iload_n 1) 1 0 0 [] := rfl
theorem tbX8_reach_87 {k : Instr → Nat → Nat → Nat → List Nat → Prop} : xse (xFind tbX8_reach 87) k = k (.iconst 0) 0 0 0 [] := rfl
theorem tbX8_reach_88 {k : Instr → Nat → Nat → Nat → List Nat → Prop} : xse (xFind tbX8_reach 88) k = k (.bastore) 5 0 0 [] := rfl
theorem tbX8_reach_89 {k : Instr → Nat → Nat → Nat → List Nat → Prop} : xse (xFind tbX8_reach 89) k = k (.aload_n 0) 0 0 0 [] := rfl
theorem tbX8_reach_90 {k : Instr → Nat → Nat → Nat → List Nat → Prop} : xse (xFind tbX8_reach 90) k = k (.getfield 23) 9 9 2 [] := rfl
theorem tbX8_reach_93 {k : Instr → Nat → Nat → Nat → List Nat → Prop} : xse (xFind tbX8_reach 93) k = k (.iload_n 1) 1 0 0 [] := rfl
theorem tbX8_reach_94 {k : Instr → Nat → Nat → Nat → List Nat → Prop} : xse (xFind tbX8_reach 94) k = k (.iload_n 2) 2 0 0 [] := rfl
theorem tbX8_reach_95 {k : Instr → Nat → Nat → Nat → List Nat → Prop} : xse (xFind tbX8_reach 95) k = k (.iastore) 9 0 0 [] := rfl
theorem tbX8_reach_96 {k : Instr → Nat → Nat → Nat → List Nat → Prop} : xse (xFind tbX8_reach 96) k = k (.aload_n 0) 0 0 0 [] := rfl
theorem tbX8_reach_97 {k : Instr → Nat → Nat → Nat → List Nat → Prop} : xse (xFind tbX8_reach 97) k = k (.getfield 13) 9 6 2 [] := rfl
theorem tbX8_reach_100 {k : Instr → Nat → Nat → Nat → List Nat → Prop} : xse (xFind tbX8_reach 100) k = k (.iload_n 1) 1 0 0 [] := rfl
theorem tbX8_reach_101 {k : Instr → Nat → Nat → Nat → List Nat → Prop} : xse (xFind tbX8_reach 101) k = k (.iload_n 3) 3 0 0 [] := rfl
theorem tbX8_reach_102 {k : Instr → Nat → Nat → Nat → List Nat → Prop} : xse (xFind tbX8_reach 102) k = k (.iastore) 6 0 0 [] := rfl
theorem tbX8_reach_103 {k : Instr → Nat → Nat → Nat → List Nat → Prop} : xse (xFind tbX8_reach 103) k = k (.aload_n 0) 0 0 0 [] := rfl
theorem tbX8_reach_104 {k : Instr → Nat → Nat → Nat → List Nat → Prop} : xse (xFind tbX8_reach 104) k = k (.getfield 26) 9 10 2 [] := rfl
theorem tbX8_reach_107 {k : Instr → Nat → Nat → Nat → List Nat → Prop} : xse (xFind tbX8_reach 107) k = k (.iload_n 1) 1 0 0 [] := rfl
theorem tbX8_reach_108 {k : Instr → Nat → Nat → Nat → List Nat → Prop} : xse (xFind tbX8_reach 108) k = k (.iload 4) 4 0 0 [] := rfl
theorem tbX8_reach_110 {k : Instr → Nat → Nat → Nat → List Nat → Prop} : xse (xFind tbX8_reach 110) k = k (.iastore) 10 0 0 [] := rfl
theorem tbX8_reach_111 {k : Instr → Nat → Nat → Nat → List Nat → Prop} : xse (xFind tbX8_reach 111) k = k (.aload_n 0) 0 0 0 [] := rfl
theorem tbX8_reach_112 {k : Instr → Nat → Nat → Nat → List Nat → Prop} : xse (xFind tbX8_reach 112) k = k (.getfield 29) 9 11 2 [] := rfl
theorem tbX8_reach_115 {k : Instr → Nat → Nat → Nat → List Nat → Prop} : xse (xFind tbX8_reach 115) k = k (.iload_n 1) 1 0 0 [] := rfl
theorem tbX8_reach_116 {k : Instr → Nat → Nat → Nat → List Nat → Prop} : xse (xFind tbX8_reach 116) k = k (.iload 5) 5 0 0 [] := rfl
theorem tbX8_reach_118 {k : Instr → Nat → Nat → Nat → List Nat → Prop} : xse (xFind tbX8_reach 118) k = k (.bastore) 11 0 0 [] := rfl
theorem tbX8_reach_119 {k : Instr → Nat → Nat → Nat → List Nat → Prop} : xse (xFind tbX8_reach 119) k = k (.return_) 0 0 0 [] := rfl

def spX8_reach (aM : Nat → Nat) : xSp mS := (fun av M => (0, 0), fun av M K => ∃ (s : Int32) (ho : Int32) (d : Int32) (w : Int32) (z : Int32), av = [.ref (aM 0), .int s, .int ho, .int d, .int w, .int z] ∧ ((z = 0 ∨ z = 1) ∧ ((M.1 29 = nI (nBt M) ∧ nBt M ≤ 6) ∧ K rV (oReach M s ho d w z))))
theorem spcX8_reach {av : List Value} {M : mS} {aM : Nat → Nat} : (spX8_reach aM).1 av M = (0, 0) := rfl
theorem spwX8_reach {M : mS} {aM : Nat → Nat} {K : xRes → mS → Prop} {s : Int32} {ho : Int32} {d : Int32} {w : Int32} {z : Int32} : (spX8_reach aM).2 [.ref (aM 0), .int s, .int ho, .int d, .int w, .int z] M K = ((z = 0 ∨ z = 1) ∧ ((M.1 29 = nI (nBt M) ∧ nBt M ≤ 6) ∧ K rV (oReach M s ho d w z))) :=
  propext ⟨fun h => by
    simp only [spX8_reach] at h
    obtain ⟨_, _, _, _, _, e, h⟩ := h
    simp only [List.cons.injEq, Value.int.injEq, Value.ref.injEq, rf_eq, and_true, true_and] at e
    obtain ⟨rfl, rfl, rfl, rfl, rfl⟩ := e
    exact h, fun h => ⟨_, _, _, _, _, rfl, h⟩⟩

def callX8_reach (aM : Nat → Nat) : Nat → Option (xSp mS) := fun n => match n with | 0 => some (spX8_isSection aM) | 1 => some (spX8_in aM) | 2 => some (spX8_boatsIn aM) | 3 => some (spX8_holds aM) | _ => none

theorem callX8_reach_0 {aM : Nat → Nat} {k : xSp mS → Prop} : xcs (callX8_reach aM 0) k = k (spX8_isSection aM) := rfl

theorem callX8_reach_1 {aM : Nat → Nat} {k : xSp mS → Prop} : xcs (callX8_reach aM 1) k = k (spX8_in aM) := rfl

theorem callX8_reach_2 {aM : Nat → Nat} {k : xSp mS → Prop} : xcs (callX8_reach aM 2) k = k (spX8_boatsIn aM) := rfl

theorem callX8_reach_3 {aM : Nat → Nat} {k : xSp mS → Prop} : xcs (callX8_reach aM 3) k = k (spX8_holds aM) := rfl

theorem crX8_reach (l : Launch) (W9 : xWd) (aM : Nat → Nat) (hi : mInj aM) : xCallsOK l W9 (mI aM) (callX8_reach aM) clX8_reach RX8 wsX8_reach 2 42 8 := by
  intro E A p e R s m args below meth c hI hF hL X
  exact List.forall_mem_cons.mpr ⟨⟨_, rfl, xCR_S X (by rw [hI]; exact (semX8_isSection l W9 aM hi)) gX8_reach_X8_isSection rfl (by decide +kernel) (by rw [hF, hL]; decide)⟩,
    List.forall_mem_cons.mpr ⟨⟨_, rfl, xCR_S X (by rw [hI]; exact (semX8_in l W9 aM hi)) gX8_reach_X8_in rfl (by decide +kernel) (by rw [hF, hL]; decide)⟩,
    List.forall_mem_cons.mpr ⟨⟨_, rfl, xCR_V X (by rw [hI]; exact (semX8_boatsIn l W9 aM hi)) gX8_reach_X8_boatsIn rfl rfl (by decide +kernel) (by rw [hF, hL]; decide)⟩,
    List.forall_mem_cons.mpr ⟨⟨_, rfl, xCR_V X (by rw [hI]; exact (semX8_holds l W9 aM hi)) gX8_reach_X8_holds rfl rfl (by decide +kernel) (by rw [hF, hL]; decide)⟩,
    fun _ h => nomatch h⟩⟩⟩⟩

set_option maxHeartbeats 4000000 in
set_option maxRecDepth 20000 in
theorem semX8_reach (l : Launch) (W9 : xWd) (aM : Nat → Nat) (hi : mInj aM) : xSem l W9 (mI aM) yX8_reach wsX8_reach 2 42 (spX8_reach aM) := by
  refine xSem_of (call := callX8_reach aM) (thrf := fun _ => "") (mI_law hi) (by decide +kernel) rfl ckX8_reach usX8_reach (crX8_reach l W9 aM hi) xThrOK_nil ?_ ?_
  · intro av M KF h
    obtain ⟨s, ho, d, w, z, rfl, h⟩ := h
    exact ⟨by intro v hv; simp only [List.mem_cons, List.not_mem_nil, or_false] at hv; rcases hv with rfl | rfl | rfl | rfl | rfl | rfl <;> first | rfl | exact cat_rf, Nat.le_of_ble_eq_true rfl⟩
  intro av M KF h G hG
  obtain ⟨s, ho, d, w, z, rfl, h⟩ := h
  rw [show (spX8_reach aM).1 _ M = _ from spcX8_reach] at hG
  try dsimp only at hG
  change G 0 [some (.ref (aM 0)), some (.int s), some (.int ho), some (.int d), some (.int w), some (.int z), none, none] [] M 0 0
  obtain ⟨hz, hn, h⟩ := h
  refine xgo0 hG (fun fu hfu => ?_)
  clear hG
  simp only [↓callX8_reach_0, ↓callX8_reach_1, ↓callX8_reach_2, ↓callX8_reach_3, kb_10, kb_9, kb_99, kc_10, kc_9, kc_99, ki_0, ki_1, ki_2, ki_3, ki_4, ↓mg_10, ↓mg_11, ↓mg_5, ↓mg_6, ↓mg_9, misa, ↓ms_10, ↓ms_11, ↓ms_5, ↓ms_6, ↓ms_9, ↓vm_aload_n, ↓vm_bastore, ↓vm_bipush, ↓vm_getfield, ↓vm_goto, ↓vm_iastore, ↓vm_iconst, ↓vm_ifCond_eq, ↓vm_ifCond_le, ↓vm_ifCond_ne, ↓vm_iload, ↓vm_iload_n, ↓vm_invokestatic, ↓vm_invokevirtual, ↓vm_istore, ↓vm_return_, ↓xc_1, ↓xc_2, ↓xc_3, ↓tbX8_reach_0, ↓tbX8_reach_1, ↓tbX8_reach_4, ↓tbX8_reach_6, ↓tbX8_reach_7, ↓tbX8_reach_8, ↓tbX8_reach_10, ↓tbX8_reach_13, ↓tbX8_reach_16, ↓tbX8_reach_17, ↓tbX8_reach_19, ↓tbX8_reach_21, ↓tbX8_reach_24, ↓tbX8_reach_27, ↓tbX8_reach_29, ↓tbX8_reach_30, ↓tbX8_reach_31, ↓tbX8_reach_34, ↓tbX8_reach_37, ↓tbX8_reach_38, ↓tbX8_reach_41, ↓tbX8_reach_42, ↓tbX8_reach_44, ↓tbX8_reach_45, ↓tbX8_reach_47, ↓tbX8_reach_50, ↓tbX8_reach_51, ↓tbX8_reach_54, ↓tbX8_reach_56, ↓tbX8_reach_59, ↓tbX8_reach_60, ↓tbX8_reach_63, ↓tbX8_reach_64, ↓tbX8_reach_65, ↓tbX8_reach_68, ↓tbX8_reach_71, ↓tbX8_reach_72, ↓tbX8_reach_75, ↓tbX8_reach_76, ↓tbX8_reach_79, ↓tbX8_reach_82, ↓tbX8_reach_83, ↓tbX8_reach_86, ↓tbX8_reach_87, ↓tbX8_reach_88, ↓tbX8_reach_89, ↓tbX8_reach_90, ↓tbX8_reach_93, ↓tbX8_reach_94, ↓tbX8_reach_95, ↓tbX8_reach_96, ↓tbX8_reach_97, ↓tbX8_reach_100, ↓tbX8_reach_101, ↓tbX8_reach_102, ↓tbX8_reach_103, ↓tbX8_reach_104, ↓tbX8_reach_107, ↓tbX8_reach_108, ↓tbX8_reach_110, ↓tbX8_reach_111, ↓tbX8_reach_112, ↓tbX8_reach_115, ↓tbX8_reach_116, ↓tbX8_reach_118, ↓tbX8_reach_119, hfu, xstep0, xJ1_hit, xJ1_go, xJ2_hit1, xJ2_hit2, xJ2_go, ↓xif_t, ↓xif_f, seval, ↓xca_eq, ↓xre_l, ↓xre_r, xmask_t, xmask_f, xmask_nil, ↓xst_eq, xX_eq, eI_eq, eMc_eq, eMs_eq, eF_eq, eThr_eq, ↓xS1_mk, ↓xSI_mk, ↓xSR_mk, ↓xLI_0, ↓xLI_s, ↓xLR_0, ↓xLR_s, vRef_ref, vRef_null, vRef_rf, cat_int, cat_ref, cat_null, cat_rf, rf_some, rf_none, rf_null, rf_eq, rf_ref, ref_rf, ref_null, ref_ref, xOk_0, xOk_1, xOk_2r, xOk_2n, xOk_2f, vOpt_rf, vOpt_ref, vOpt_null, List.set_cons_zero, List.set_cons_succ, List.take_succ_cons, List.take_zero, List.drop_succ_cons, List.drop_zero, List.reverse_cons, List.reverse_nil, List.nil_append, List.cons_append, List.append_nil, List.length_cons, List.length_nil, List.map_cons, List.map_nil, List.sum_cons, List.sum_nil, Option.toList_some, Option.toList_none, xRecv_mk, true_and, and_true, true_implies, Nat.reduceAdd, Nat.reduceLeDiff, Nat.zero_le, Nat.le_refl, Nat.add_zero, Nat.zero_add, reduceIte, not_true_eq_false, not_false_eq_true, false_implies, and_self, implies_true, eq_self, Nat.reduceEqDiff, List.cons.injEq, xsn_1, xsn_2, false_and, and_false, or_false, false_or, or_true, true_or, xsn_3, xsn_4, mAst_1, mAst_2, mSet_1, mSet_2, bi_0, ↓spwX8_isSection, spcX8_isSection, ↓spwX8_in, spcX8_in, ↓spwX8_boatsIn, spcX8_boatsIn, ↓spwX8_holds, spcX8_holds]
  try simp only [xif_e]
  unfold oReach at h
  have h6 := @in_6 s
  repeat' (first | with_reducible apply And.intro | with_reducible intro _)
  all_goals grind [bi]

def tbX8_lock : List (Nat × xHint) := [(0, .iload_n 1, 1, 0, 0, []), (1, .invokestatic 176, 0, 1, 0, []), (4, .istore 5, 5, 0, 0, []), (6, .iload_n 2, 2, 0, 0, []), (7, .iconst 1, 0, 0, 0, []), (8, .bipush 9, 0, 0, 0, []), (10, .invokestatic 159, 1, 3, 0, []), (13, .ifCond .eq 16, 29, 0, 0, []), (16, .iload_n 3, 3, 0, 0, []), (17, .iconst 1, 0, 0, 0, []), (18, .iconst 3, 0, 0, 0, []), (19, .invokestatic 159, 1, 3, 0, []), (22, .ifCond .eq 7, 29, 0, 0, []), (25, .iconst 1, 0, 0, 0, []), (26, .goto 4, 30, 0, 0, []), (29, .iconst 0, 0, 0, 0, []), (30, .istore 6, 6, 0, 0, []), (32, .aload_n 0, 0, 0, 0, []), (33, .iload 5, 5, 0, 0, []), (35, .ifCond .ne 7, 42, 0, 0, []), (38, .iconst 1, 0, 0, 0, []), (39, .goto 25, 64, 0, 0, []), (42, .iload 6, 6, 0, 0, []), (44, .ifCond .ne 7, 51, 0, 0, []), (47, .iconst 2, 0, 0, 0, []), (48, .goto 16, 64, 0, 0, []), (51, .aload_n 0, 0, 0, 0, []), (52, .iload_n 1, 1, 0, 0, []), (53, .invokevirtual 179, 2, 2, 9, []), (56, .ifCond .le 7, 63, 0, 0, []), (59, .iconst 3, 0, 0, 0, []), (60, .goto 4, 64, 0, 0, []), (63, .iconst 0, 0, 0, 0, []), (64, .invokevirtual 183, 3, 2, 9, []), (67, .ifCond .eq 46, 113, 0, 0, []), (70, .aload_n 0, 0, 0, 0, []), (71, .getfield 7, 9, 5, 2, []), (74, .iload_n 1, 1, 0, 0, []), (75, .iconst 1, 0, 0, 0, []), (76, .bastore, 5, 0, 0, []), (77, .aload_n 0, 0, 0, 0, []), (78, .getfield 32, 9, 12, 2, []), (81, .iload_n 1, 1, 0, 0, []), (82, .iload_n 2, 2, 0, 0, []), (83, .iastore, 12, 0, 0, []), (84, .aload_n 0, 0, 0, 0, []), (85, .getfield 35, 9, 13, 2, []), (88, .iload_n 1, 1, 0, 0, []), (89, .iload_n 3, 3, 0, 0, []), (90, .iastore, 13, 0, 0, []), (91, .aload_n 0, 0, 0, 0, []), (92, .getfield 38, 9, 14, 2, []), (95, .iload_n 1, 1, 0, 0, []), (96, .iload 4, 4, 0, 0, []), (98, .bastore, 14, 0, 0, []), (99, .aload_n 0, 0, 0, 0, []), (100, .getfield 41, 9, 15, 2, []), (103, .iload_n 1, 1, 0, 0, []), (104, .iconst 0, 0, 0, 0, []), (105, .bastore, 15, 0, 0, []), (106, .aload_n 0, 0, 0, 0, []), (107, .getfield 44, 9, 16, 2, []), (110, .iload_n 1, 1, 0, 0, []), (111, .iconst 0, 0, 0, 0, []), (112, .iastore, 16, 0, 0, []), (113, .return_, 0, 0, 0, [])]
def clX8_lock : List (Instr × Nat × Nat × Nat) := [(.invokestatic 176, 0, 1, 0), (.invokestatic 159, 1, 3, 0), (.invokevirtual 179, 2, 2, 9), (.invokevirtual 183, 3, 2, 9)]
def thX8_lock : List (Nat × Nat) := []
theorem ckX8_lock : tbX8_lock.all (xRow RX8 cX8_lock wsX8_lock vwCl [9] clX8_lock thX8_lock 7 (yX8_lock.name == "<init>") none) = true := xRow_q 0xb14f031b2c00b42a54031b2900b42a5404151b2600b42a4f1d1b2300b42a4f1c1b2000b42a54041b0700b42a2e0099b700b6030400a70607009eb300b61b2a1000a70507009a06151900a70407009a05152a0636030400a7040700999f00b806041d1000999f00b80910041c0536b000b81b 114 (by decide +kernel) (by decide +kernel)
theorem usX8_lock : xUse wsX8_lock vwCl [9] = true := xUse_g rfl (lw_good lwl_X8_lock lwl_X80 (by decide +kernel)) xUse_n
theorem tbX8_lock_0 {k : Instr → Nat → Nat → Nat → List Nat → Prop} : xse (xFind tbX8_lock 0) k = k (.iload_n 1) 1 0 0 [] := rfl
theorem tbX8_lock_1 {k : Instr → Nat → Nat → Nat → List Nat → Prop} : xse (xFind tbX8_lock 1) k = k (.invokestatic 176) 0 1 0 [] := rfl
theorem tbX8_lock_4 {k : Instr → Nat → Nat → Nat → List Nat → Prop} : xse (xFind tbX8_lock 4) k = k (.istore 5) 5 0 0 [] := rfl
theorem tbX8_lock_6 {k : Instr → Nat → Nat → Nat → List Nat → Prop} : xse (xFind tbX8_lock 6) k = k (.iload_n 2) 2 0 0 [] := rfl
theorem tbX8_lock_7 {k : Instr → Nat → Nat → Nat → List Nat → Prop} : xse (xFind tbX8_lock 7) k = k (.iconst 1) 0 0 0 [] := rfl
theorem tbX8_lock_8 {k : Instr → Nat → Nat → Nat → List Nat → Prop} : xse (xFind tbX8_lock 8) k = k (.bipush 9) 0 0 0 [] := rfl
theorem tbX8_lock_10 {k : Instr → Nat → Nat → Nat → List Nat → Prop} : xse (xFind tbX8_lock 10) k = k (.invokestatic 159) 1 3 0 [] := rfl
theorem tbX8_lock_13 {k : Instr → Nat → Nat → Nat → List Nat → Prop} : xse (xFind tbX8_lock 13) k = k (.ifCond .eq 16) 29 0 0 [] := rfl
theorem tbX8_lock_16 {k : Instr → Nat → Nat → Nat → List Nat → Prop} : xse (xFind tbX8_lock 16) k = k (.iload_n 3) 3 0 0 [] := rfl
theorem tbX8_lock_17 {k : Instr → Nat → Nat → Nat → List Nat → Prop} : xse (xFind tbX8_lock 17) k = k (.iconst 1) 0 0 0 [] := rfl
theorem tbX8_lock_18 {k : Instr → Nat → Nat → Nat → List Nat → Prop} : xse (xFind tbX8_lock 18) k = k (.iconst 3) 0 0 0 [] := rfl
theorem tbX8_lock_19 {k : Instr → Nat → Nat → Nat → List Nat → Prop} : xse (xFind tbX8_lock 19) k = k (.invokestatic 159) 1 3 0 [] := rfl
theorem tbX8_lock_22 {k : Instr → Nat → Nat → Nat → List Nat → Prop} : xse (xFind tbX8_lock 22) k = k (.ifCond .eq 7) 29 0 0 [] := rfl
theorem tbX8_lock_25 {k : Instr → Nat → Nat → Nat → List Nat → Prop} : xse (xFind tbX8_lock 25) k = k (.iconst 1) 0 0 0 [] := rfl
theorem tbX8_lock_26 {k : Instr → Nat → Nat → Nat → List Nat → Prop} : xse (xFind tbX8_lock 26) k = k (.goto 4) 30 0 0 [] := rfl
theorem tbX8_lock_29 {k : Instr → Nat → Nat → Nat → List Nat → Prop} : xse (xFind tbX8_lock 29) k = k (.iconst 0) 0 0 0 [] := rfl
theorem tbX8_lock_30 {k : Instr → Nat → Nat → Nat → List Nat → Prop} : xse (xFind tbX8_lock 30) k = k (.istore 6) 6 0 0 [] := rfl
theorem tbX8_lock_32 {k : Instr → Nat → Nat → Nat → List Nat → Prop} : xse (xFind tbX8_lock 32) k = k (.aload_n 0) 0 0 0 [] := rfl
theorem tbX8_lock_33 {k : Instr → Nat → Nat → Nat → List Nat → Prop} : xse (xFind tbX8_lock 33) k = k (.iload 5) 5 0 0 [] := rfl
theorem tbX8_lock_35 {k : Instr → Nat → Nat → Nat → List Nat → Prop} : xse (xFind tbX8_lock 35) k = k (.ifCond .ne 7) 42 0 0 [] := rfl
theorem tbX8_lock_38 {k : Instr → Nat → Nat → Nat → List Nat → Prop} : xse (xFind tbX8_lock 38) k = k (.iconst 1) 0 0 0 [] := rfl
theorem tbX8_lock_39 {k : Instr → Nat → Nat → Nat → List Nat → Prop} : xse (xFind tbX8_lock 39) k = k (.goto 25) 64 0 0 [] := rfl
theorem tbX8_lock_42 {k : Instr → Nat → Nat → Nat → List Nat → Prop} : xse (xFind tbX8_lock 42) k = k (.iload 6) 6 0 0 [] := rfl
theorem tbX8_lock_44 {k : Instr → Nat → Nat → Nat → List Nat → Prop} : xse (xFind tbX8_lock 44) k = k (.ifCond .ne 7) 51 0 0 [] := rfl
theorem tbX8_lock_47 {k : Instr → Nat → Nat → Nat → List Nat → Prop} : xse (xFind tbX8_lock 47) k = k (.iconst 2) 0 0 0 [] := rfl
theorem tbX8_lock_48 {k : Instr → Nat → Nat → Nat → List Nat → Prop} : xse (xFind tbX8_lock 48) k = k (.goto 16) 64 0 0 [] := rfl
theorem tbX8_lock_51 {k : Instr → Nat → Nat → Nat → List Nat → Prop} : xse (xFind tbX8_lock 51) k = k (.aload_n 0) 0 0 0 [] := rfl
theorem tbX8_lock_52 {k : Instr → Nat → Nat → Nat → List Nat → Prop} : xse (xFind tbX8_lock 52) k = k (.iload_n 1) 1 0 0 [] := rfl
theorem tbX8_lock_53 {k : Instr → Nat → Nat → Nat → List Nat → Prop} : xse (xFind tbX8_lock 53) k = k (.invokevirtual 179) 2 2 9 [] := rfl
theorem tbX8_lock_56 {k : Instr → Nat → Nat → Nat → List Nat → Prop} : xse (xFind tbX8_lock 56) k = k (.ifCond .le 7) 63 0 0 [] := rfl
theorem tbX8_lock_59 {k : Instr → Nat → Nat → Nat → List Nat → Prop} : xse (xFind tbX8_lock 59) k = k (.iconst 3) 0 0 0 [] := rfl
theorem tbX8_lock_60 {k : Instr → Nat → Nat → Nat → List Nat → Prop} : xse (xFind tbX8_lock 60) k = k (.goto 4) 64 0 0 [] := rfl
theorem tbX8_lock_63 {k : Instr → Nat → Nat → Nat → List Nat → Prop} : xse (xFind tbX8_lock 63) k = k (.iconst 0) 0 0 0 [] := rfl
theorem tbX8_lock_64 {k : Instr → Nat → Nat → Nat → List Nat → Prop} : xse (xFind tbX8_lock 64) k = k (.invokevirtual 183) 3 2 9 [] := rfl
theorem tbX8_lock_67 {k : Instr → Nat → Nat → Nat → List Nat → Prop} : xse (xFind tbX8_lock 67) k = k (.ifCond .eq 46) 113 0 0 [] := rfl
theorem tbX8_lock_70 {k : Instr → Nat → Nat → Nat → List Nat → Prop} : xse (xFind tbX8_lock 70) k = k (.aload_n 0) 0 0 0 [] := rfl
theorem tbX8_lock_71 {k : Instr → Nat → Nat → Nat → List Nat → Prop} : xse (xFind tbX8_lock 71) k = k (.getfield 7) 9 5 2 [] := rfl
theorem tbX8_lock_74 {k : Instr → Nat → Nat → Nat → List Nat → Prop} : xse (xFind tbX8_lock 74) k = k (.iload_n 1) 1 0 0 [] := rfl
theorem tbX8_lock_75 {k : Instr → Nat → Nat → Nat → List Nat → Prop} : xse (xFind tbX8_lock 75) k = k (.iconst 1) 0 0 0 [] := rfl
theorem tbX8_lock_76 {k : Instr → Nat → Nat → Nat → List Nat → Prop} : xse (xFind tbX8_lock 76) k = k (.bastore) 5 0 0 [] := rfl
theorem tbX8_lock_77 {k : Instr → Nat → Nat → Nat → List Nat → Prop} : xse (xFind tbX8_lock 77) k = k (.aload_n 0) 0 0 0 [] := rfl
theorem tbX8_lock_78 {k : Instr → Nat → Nat → Nat → List Nat → Prop} : xse (xFind tbX8_lock 78) k = k (.getfield 32) 9 12 2 [] := rfl
theorem tbX8_lock_81 {k : Instr → Nat → Nat → Nat → List Nat → Prop} : xse (xFind tbX8_lock 81) k = k (.iload_n 1) 1 0 0 [] := rfl
theorem tbX8_lock_82 {k : Instr → Nat → Nat → Nat → List Nat → Prop} : xse (xFind tbX8_lock 82) k = k (.iload_n 2) 2 0 0 [] := rfl
theorem tbX8_lock_83 {k : Instr → Nat → Nat → Nat → List Nat → Prop} : xse (xFind tbX8_lock 83) k = k (.iastore) 12 0 0 [] := rfl
theorem tbX8_lock_84 {k : Instr → Nat → Nat → Nat → List Nat → Prop} : xse (xFind tbX8_lock 84) k = k (.aload_n 0) 0 0 0 [] := rfl
theorem tbX8_lock_85 {k : Instr → Nat → Nat → Nat → List Nat → Prop} : xse (xFind tbX8_lock 85) k = k (.getfield 35) 9 13 2 [] := rfl
theorem tbX8_lock_88 {k : Instr → Nat → Nat → Nat → List Nat → Prop} : xse (xFind tbX8_lock 88) k = k (.iload_n 1) 1 0 0 [] := rfl
theorem tbX8_lock_89 {k : Instr → Nat → Nat → Nat → List Nat → Prop} : xse (xFind tbX8_lock 89) k = k (.iload_n 3) 3 0 0 [] := rfl
theorem tbX8_lock_90 {k : Instr → Nat → Nat → Nat → List Nat → Prop} : xse (xFind tbX8_lock 90) k = k (.iastore) 13 0 0 [] := rfl
theorem tbX8_lock_91 {k : Instr → Nat → Nat → Nat → List Nat → Prop} : xse (xFind tbX8_lock 91) k = k (.aload_n 0) 0 0 0 [] := rfl
theorem tbX8_lock_92 {k : Instr → Nat → Nat → Nat → List Nat → Prop} : xse (xFind tbX8_lock 92) k = k (.getfield 38) 9 14 2 [] := rfl
theorem tbX8_lock_95 {k : Instr → Nat → Nat → Nat → List Nat → Prop} : xse (xFind tbX8_lock 95) k = k (.iload_n 1) 1 0 0 [] := rfl
theorem tbX8_lock_96 {k : Instr → Nat → Nat → Nat → List Nat → Prop} : xse (xFind tbX8_lock 96) k = k (.iload 4) 4 0 0 [] := rfl
theorem tbX8_lock_98 {k : Instr → Nat → Nat → Nat → List Nat → Prop} : xse (xFind tbX8_lock 98) k = k (.bastore) 14 0 0 [] := rfl
theorem tbX8_lock_99 {k : Instr → Nat → Nat → Nat → List Nat → Prop} : xse (xFind tbX8_lock 99) k = k (.aload_n 0) 0 0 0 [] := rfl
theorem tbX8_lock_100 {k : Instr → Nat → Nat → Nat → List Nat → Prop} : xse (xFind tbX8_lock 100) k = k (.getfield 41) 9 15 2 [] := rfl
theorem tbX8_lock_103 {k : Instr → Nat → Nat → Nat → List Nat → Prop} : xse (xFind tbX8_lock 103) k = k (.iload_n 1) 1 0 0 [] := rfl
theorem tbX8_lock_104 {k : Instr → Nat → Nat → Nat → List Nat → Prop} : xse (xFind tbX8_lock 104) k = k (.iconst 0) 0 0 0 [] := rfl
theorem tbX8_lock_105 {k : Instr → Nat → Nat → Nat → List Nat → Prop} : xse (xFind tbX8_lock 105) k = k (.bastore) 15 0 0 [] := rfl
theorem tbX8_lock_106 {k : Instr → Nat → Nat → Nat → List Nat → Prop} : xse (xFind tbX8_lock 106) k = k (.aload_n 0) 0 0 0 [] := rfl
theorem tbX8_lock_107 {k : Instr → Nat → Nat → Nat → List Nat → Prop} : xse (xFind tbX8_lock 107) k = k (.getfield 44) 9 16 2 [] := rfl
theorem tbX8_lock_110 {k : Instr → Nat → Nat → Nat → List Nat → Prop} : xse (xFind tbX8_lock 110) k = k (.iload_n 1) 1 0 0 [] := rfl
theorem tbX8_lock_111 {k : Instr → Nat → Nat → Nat → List Nat → Prop} : xse (xFind tbX8_lock 111) k = k (.iconst 0) 0 0 0 [] := rfl
theorem tbX8_lock_112 {k : Instr → Nat → Nat → Nat → List Nat → Prop} : xse (xFind tbX8_lock 112) k = k (.iastore) 16 0 0 [] := rfl
theorem tbX8_lock_113 {k : Instr → Nat → Nat → Nat → List Nat → Prop} : xse (xFind tbX8_lock 113) k = k (.return_) 0 0 0 [] := rfl

def spX8_lock (aM : Nat → Nat) : xSp mS := (fun av M => (0, 0), fun av M K => ∃ (s : Int32) (c : Int32) (t : Int32) (z : Int32), av = [.ref (aM 0), .int s, .int c, .int t, .int z] ∧ ((z = 0 ∨ z = 1) ∧ ((M.1 29 = nI (nBt M) ∧ nBt M ≤ 6) ∧ K rV (oLock M s c t z))))
theorem spcX8_lock {av : List Value} {M : mS} {aM : Nat → Nat} : (spX8_lock aM).1 av M = (0, 0) := rfl
theorem spwX8_lock {M : mS} {aM : Nat → Nat} {K : xRes → mS → Prop} {s : Int32} {c : Int32} {t : Int32} {z : Int32} : (spX8_lock aM).2 [.ref (aM 0), .int s, .int c, .int t, .int z] M K = ((z = 0 ∨ z = 1) ∧ ((M.1 29 = nI (nBt M) ∧ nBt M ≤ 6) ∧ K rV (oLock M s c t z))) :=
  propext ⟨fun h => by
    simp only [spX8_lock] at h
    obtain ⟨_, _, _, _, e, h⟩ := h
    simp only [List.cons.injEq, Value.int.injEq, Value.ref.injEq, rf_eq, and_true, true_and] at e
    obtain ⟨rfl, rfl, rfl, rfl⟩ := e
    exact h, fun h => ⟨_, _, _, _, rfl, h⟩⟩

def callX8_lock (aM : Nat → Nat) : Nat → Option (xSp mS) := fun n => match n with | 0 => some (spX8_isSection aM) | 1 => some (spX8_in aM) | 2 => some (spX8_boatsIn aM) | 3 => some (spX8_holds aM) | _ => none

theorem callX8_lock_0 {aM : Nat → Nat} {k : xSp mS → Prop} : xcs (callX8_lock aM 0) k = k (spX8_isSection aM) := rfl

theorem callX8_lock_1 {aM : Nat → Nat} {k : xSp mS → Prop} : xcs (callX8_lock aM 1) k = k (spX8_in aM) := rfl

theorem callX8_lock_2 {aM : Nat → Nat} {k : xSp mS → Prop} : xcs (callX8_lock aM 2) k = k (spX8_boatsIn aM) := rfl

theorem callX8_lock_3 {aM : Nat → Nat} {k : xSp mS → Prop} : xcs (callX8_lock aM 3) k = k (spX8_holds aM) := rfl

theorem crX8_lock (l : Launch) (W9 : xWd) (aM : Nat → Nat) (hi : mInj aM) : xCallsOK l W9 (mI aM) (callX8_lock aM) clX8_lock RX8 wsX8_lock 2 42 7 := by
  intro E A p e R s m args below meth c hI hF hL X
  exact List.forall_mem_cons.mpr ⟨⟨_, rfl, xCR_S X (by rw [hI]; exact (semX8_isSection l W9 aM hi)) gX8_lock_X8_isSection rfl (by decide +kernel) (by rw [hF, hL]; decide)⟩,
    List.forall_mem_cons.mpr ⟨⟨_, rfl, xCR_S X (by rw [hI]; exact (semX8_in l W9 aM hi)) gX8_lock_X8_in rfl (by decide +kernel) (by rw [hF, hL]; decide)⟩,
    List.forall_mem_cons.mpr ⟨⟨_, rfl, xCR_V X (by rw [hI]; exact (semX8_boatsIn l W9 aM hi)) gX8_lock_X8_boatsIn rfl rfl (by decide +kernel) (by rw [hF, hL]; decide)⟩,
    List.forall_mem_cons.mpr ⟨⟨_, rfl, xCR_V X (by rw [hI]; exact (semX8_holds l W9 aM hi)) gX8_lock_X8_holds rfl rfl (by decide +kernel) (by rw [hF, hL]; decide)⟩,
    fun _ h => nomatch h⟩⟩⟩⟩

set_option maxHeartbeats 4000000 in
set_option maxRecDepth 20000 in
theorem semX8_lock (l : Launch) (W9 : xWd) (aM : Nat → Nat) (hi : mInj aM) : xSem l W9 (mI aM) yX8_lock wsX8_lock 2 42 (spX8_lock aM) := by
  refine xSem_of (call := callX8_lock aM) (thrf := fun _ => "") (mI_law hi) (by decide +kernel) rfl ckX8_lock usX8_lock (crX8_lock l W9 aM hi) xThrOK_nil ?_ ?_
  · intro av M KF h
    obtain ⟨s, c, t, z, rfl, h⟩ := h
    exact ⟨by intro v hv; simp only [List.mem_cons, List.not_mem_nil, or_false] at hv; rcases hv with rfl | rfl | rfl | rfl | rfl <;> first | rfl | exact cat_rf, Nat.le_of_ble_eq_true rfl⟩
  intro av M KF h G hG
  obtain ⟨s, c, t, z, rfl, h⟩ := h
  rw [show (spX8_lock aM).1 _ M = _ from spcX8_lock] at hG
  try dsimp only at hG
  change G 0 [some (.ref (aM 0)), some (.int s), some (.int c), some (.int t), some (.int z), none, none] [] M 0 0
  obtain ⟨hz, hn, h⟩ := h
  refine xgo0 hG (fun fu hfu => ?_)
  clear hG
  simp only [↓callX8_lock_0, ↓callX8_lock_1, ↓callX8_lock_2, ↓callX8_lock_3, kb_9, kc_9, ki_0, ki_1, ki_2, ki_3, ↓mg_12, ↓mg_13, ↓mg_14, ↓mg_15, ↓mg_16, ↓mg_5, misa, ↓ms_12, ↓ms_13, ↓ms_14, ↓ms_15, ↓ms_16, ↓ms_5, ↓vm_aload_n, ↓vm_bastore, ↓vm_bipush, ↓vm_getfield, ↓vm_goto, ↓vm_iastore, ↓vm_iconst, ↓vm_ifCond_eq, ↓vm_ifCond_le, ↓vm_ifCond_ne, ↓vm_iload, ↓vm_iload_n, ↓vm_invokestatic, ↓vm_invokevirtual, ↓vm_istore, ↓vm_return_, ↓xc_1, ↓xc_2, ↓xc_3, ↓tbX8_lock_0, ↓tbX8_lock_1, ↓tbX8_lock_4, ↓tbX8_lock_6, ↓tbX8_lock_7, ↓tbX8_lock_8, ↓tbX8_lock_10, ↓tbX8_lock_13, ↓tbX8_lock_16, ↓tbX8_lock_17, ↓tbX8_lock_18, ↓tbX8_lock_19, ↓tbX8_lock_22, ↓tbX8_lock_25, ↓tbX8_lock_26, ↓tbX8_lock_29, ↓tbX8_lock_30, ↓tbX8_lock_32, ↓tbX8_lock_33, ↓tbX8_lock_35, ↓tbX8_lock_38, ↓tbX8_lock_39, ↓tbX8_lock_42, ↓tbX8_lock_44, ↓tbX8_lock_47, ↓tbX8_lock_48, ↓tbX8_lock_51, ↓tbX8_lock_52, ↓tbX8_lock_53, ↓tbX8_lock_56, ↓tbX8_lock_59, ↓tbX8_lock_60, ↓tbX8_lock_63, ↓tbX8_lock_64, ↓tbX8_lock_67, ↓tbX8_lock_70, ↓tbX8_lock_71, ↓tbX8_lock_74, ↓tbX8_lock_75, ↓tbX8_lock_76, ↓tbX8_lock_77, ↓tbX8_lock_78, ↓tbX8_lock_81, ↓tbX8_lock_82, ↓tbX8_lock_83, ↓tbX8_lock_84, ↓tbX8_lock_85, ↓tbX8_lock_88, ↓tbX8_lock_89, ↓tbX8_lock_90, ↓tbX8_lock_91, ↓tbX8_lock_92, ↓tbX8_lock_95, ↓tbX8_lock_96, ↓tbX8_lock_98, ↓tbX8_lock_99, ↓tbX8_lock_100, ↓tbX8_lock_103, ↓tbX8_lock_104, ↓tbX8_lock_105, ↓tbX8_lock_106, ↓tbX8_lock_107, ↓tbX8_lock_110, ↓tbX8_lock_111, ↓tbX8_lock_112, ↓tbX8_lock_113, hfu, xstep0, xJ1_hit, xJ1_go, xJ2_hit1, xJ2_hit2, xJ2_go, ↓xif_t, ↓xif_f, seval, ↓xca_eq, ↓xre_l, ↓xre_r, xmask_t, xmask_f, xmask_nil, ↓xst_eq, xX_eq, eI_eq, eMc_eq, eMs_eq, eF_eq, eThr_eq, ↓xS1_mk, ↓xSI_mk, ↓xSR_mk, ↓xLI_0, ↓xLI_s, ↓xLR_0, ↓xLR_s, vRef_ref, vRef_null, vRef_rf, cat_int, cat_ref, cat_null, cat_rf, rf_some, rf_none, rf_null, rf_eq, rf_ref, ref_rf, ref_null, ref_ref, xOk_0, xOk_1, xOk_2r, xOk_2n, xOk_2f, vOpt_rf, vOpt_ref, vOpt_null, List.set_cons_zero, List.set_cons_succ, List.take_succ_cons, List.take_zero, List.drop_succ_cons, List.drop_zero, List.reverse_cons, List.reverse_nil, List.nil_append, List.cons_append, List.append_nil, List.length_cons, List.length_nil, List.map_cons, List.map_nil, List.sum_cons, List.sum_nil, Option.toList_some, Option.toList_none, xRecv_mk, true_and, and_true, true_implies, Nat.reduceAdd, Nat.reduceLeDiff, Nat.zero_le, Nat.le_refl, Nat.add_zero, Nat.zero_add, reduceIte, not_true_eq_false, not_false_eq_true, false_implies, and_self, implies_true, eq_self, Nat.reduceEqDiff, List.cons.injEq, xsn_1, xsn_2, false_and, and_false, or_false, false_or, or_true, true_or, xsn_3, xsn_4, mAst_1, mAst_2, mSet_1, mSet_2, bi_0, ↓spwX8_isSection, spcX8_isSection, ↓spwX8_in, spcX8_in, ↓spwX8_boatsIn, spcX8_boatsIn, ↓spwX8_holds, spcX8_holds]
  try simp only [xif_e]
  unfold oLock at h
  have h6 := @in_6 s
  repeat' (first | with_reducible apply And.intro | with_reducible intro _)
  all_goals grind [bi]

def tbX8_dredge : List (Nat × xHint) := [(0, .iload_n 1, 1, 0, 0, []), (1, .invokestatic 176, 0, 1, 0, []), (4, .istore_n 3, 3, 0, 0, []), (5, .aload_n 0, 0, 0, 0, []), (6, .iload_n 3, 3, 0, 0, []), (7, .ifCond .ne 7, 14, 0, 0, []), (10, .iconst 1, 0, 0, 0, []), (11, .goto 35, 46, 0, 0, []), (14, .iload_n 2, 2, 0, 0, []), (15, .iconst 1, 0, 0, 0, []), (16, .bipush 20, 0, 0, 0, []), (18, .invokestatic 159, 1, 3, 0, []), (21, .ifCond .ne 7, 28, 0, 0, []), (24, .iconst 2, 0, 0, 0, []), (25, .goto 21, 46, 0, 0, []), (28, .aload_n 0, 0, 0, 0, []), (29, .getfield 13, 9, 6, 2, []), (32, .iload_n 1, 1, 0, 0, []), (33, .iaload, 6, 0, 0, []), (34, .iload_n 2, 2, 0, 0, []), (35, .iadd, 0, 0, 0, []), (36, .bipush 99, 0, 0, 0, []), (38, .if_icmp .le 7, 45, 0, 0, []), (41, .iconst 3, 0, 0, 0, []), (42, .goto 4, 46, 0, 0, []), (45, .iconst 0, 0, 0, 0, []), (46, .invokevirtual 183, 2, 2, 9, []), (49, .ifCond .ne 5, 54, 0, 0, []), (52, .iconst 0, 0, 0, 0, []), (53, .ireturn, 0, 0, 0, []), (54, .aload_n 0, 0, 0, 0, []), (55, .getfield 13, 9, 6, 2, []), (58, .iload_n 1, 1, 0, 0, []), (59, .dup2, 0, 0, 0, []), (60, .iaload, 6, 0, 0, []), (61, .iload_n 2, 2, 0, 0, []), (62, .iadd, 0, 0, 0, []), (63, .iastore, 6, 0, 0, []), (64, .aload_n 0, 0, 0, 0, []), (65, .getfield 13, 9, 6, 2, []), (68, .iload_n 1, 1, 0, 0, []), (69, .iaload, 6, 0, 0, []), (70, .ireturn, 0, 0, 0, [])]
def clX8_dredge : List (Instr × Nat × Nat × Nat) := [(.invokestatic 176, 0, 1, 0), (.invokestatic 159, 1, 3, 0), (.invokevirtual 183, 2, 2, 9)]
def thX8_dredge : List (Nat × Nat) := []
theorem ckX8_dredge : tbX8_dredge.all (xRow RX8 cX8_dredge wsX8_dredge vwCl [9] clX8_dredge thX8_dredge 4 (yX8_dredge.name == "<init>") (some .int)) = true := xRow_q 0xac2e1b0d00b42a4f601c2e5c1b0d00b42aac0305009ab700b6030400a7060700a46310601c2e1b0d00b42a1500a70507009a9f00b81410041c2300a70407009a1d2a3eb000b81b 71 (by decide +kernel) (by decide +kernel)
theorem usX8_dredge : xUse wsX8_dredge vwCl [9] = true := xUse_g rfl (lw_good lwl_X8_dredge lwl_X80 (by decide +kernel)) xUse_n
theorem tbX8_dredge_0 {k : Instr → Nat → Nat → Nat → List Nat → Prop} : xse (xFind tbX8_dredge 0) k = k (.iload_n 1) 1 0 0 [] := rfl
theorem tbX8_dredge_1 {k : Instr → Nat → Nat → Nat → List Nat → Prop} : xse (xFind tbX8_dredge 1) k = k (.invokestatic 176) 0 1 0 [] := rfl
theorem tbX8_dredge_4 {k : Instr → Nat → Nat → Nat → List Nat → Prop} : xse (xFind tbX8_dredge 4) k = k (.istore_n 3) 3 0 0 [] := rfl
theorem tbX8_dredge_5 {k : Instr → Nat → Nat → Nat → List Nat → Prop} : xse (xFind tbX8_dredge 5) k = k (.aload_n 0) 0 0 0 [] := rfl
theorem tbX8_dredge_6 {k : Instr → Nat → Nat → Nat → List Nat → Prop} : xse (xFind tbX8_dredge 6) k = k (.iload_n 3) 3 0 0 [] := rfl
theorem tbX8_dredge_7 {k : Instr → Nat → Nat → Nat → List Nat → Prop} : xse (xFind tbX8_dredge 7) k = k (.ifCond .ne 7) 14 0 0 [] := rfl
theorem tbX8_dredge_10 {k : Instr → Nat → Nat → Nat → List Nat → Prop} : xse (xFind tbX8_dredge 10) k = k (.iconst 1) 0 0 0 [] := rfl
theorem tbX8_dredge_11 {k : Instr → Nat → Nat → Nat → List Nat → Prop} : xse (xFind tbX8_dredge 11) k = k (.goto 35) 46 0 0 [] := rfl
theorem tbX8_dredge_14 {k : Instr → Nat → Nat → Nat → List Nat → Prop} : xse (xFind tbX8_dredge 14) k = k (.iload_n 2) 2 0 0 [] := rfl
theorem tbX8_dredge_15 {k : Instr → Nat → Nat → Nat → List Nat → Prop} : xse (xFind tbX8_dredge 15) k = k (.iconst 1) 0 0 0 [] := rfl
theorem tbX8_dredge_16 {k : Instr → Nat → Nat → Nat → List Nat → Prop} : xse (xFind tbX8_dredge 16) k = k (.bipush 20) 0 0 0 [] := rfl
theorem tbX8_dredge_18 {k : Instr → Nat → Nat → Nat → List Nat → Prop} : xse (xFind tbX8_dredge 18) k = k (.invokestatic 159) 1 3 0 [] := rfl
theorem tbX8_dredge_21 {k : Instr → Nat → Nat → Nat → List Nat → Prop} : xse (xFind tbX8_dredge 21) k = k (.ifCond .ne 7) 28 0 0 [] := rfl
theorem tbX8_dredge_24 {k : Instr → Nat → Nat → Nat → List Nat → Prop} : xse (xFind tbX8_dredge 24) k = k (.iconst 2) 0 0 0 [] := rfl
theorem tbX8_dredge_25 {k : Instr → Nat → Nat → Nat → List Nat → Prop} : xse (xFind tbX8_dredge 25) k = k (.goto 21) 46 0 0 [] := rfl
theorem tbX8_dredge_28 {k : Instr → Nat → Nat → Nat → List Nat → Prop} : xse (xFind tbX8_dredge 28) k = k (.aload_n 0) 0 0 0 [] := rfl
theorem tbX8_dredge_29 {k : Instr → Nat → Nat → Nat → List Nat → Prop} : xse (xFind tbX8_dredge 29) k = k (.getfield 13) 9 6 2 [] := rfl
theorem tbX8_dredge_32 {k : Instr → Nat → Nat → Nat → List Nat → Prop} : xse (xFind tbX8_dredge 32) k = k (.iload_n 1) 1 0 0 [] := rfl
theorem tbX8_dredge_33 {k : Instr → Nat → Nat → Nat → List Nat → Prop} : xse (xFind tbX8_dredge 33) k = k (.iaload) 6 0 0 [] := rfl
theorem tbX8_dredge_34 {k : Instr → Nat → Nat → Nat → List Nat → Prop} : xse (xFind tbX8_dredge 34) k = k (.iload_n 2) 2 0 0 [] := rfl
theorem tbX8_dredge_35 {k : Instr → Nat → Nat → Nat → List Nat → Prop} : xse (xFind tbX8_dredge 35) k = k (.iadd) 0 0 0 [] := rfl
theorem tbX8_dredge_36 {k : Instr → Nat → Nat → Nat → List Nat → Prop} : xse (xFind tbX8_dredge 36) k = k (.bipush 99) 0 0 0 [] := rfl
theorem tbX8_dredge_38 {k : Instr → Nat → Nat → Nat → List Nat → Prop} : xse (xFind tbX8_dredge 38) k = k (.if_icmp .le 7) 45 0 0 [] := rfl
theorem tbX8_dredge_41 {k : Instr → Nat → Nat → Nat → List Nat → Prop} : xse (xFind tbX8_dredge 41) k = k (.iconst 3) 0 0 0 [] := rfl
theorem tbX8_dredge_42 {k : Instr → Nat → Nat → Nat → List Nat → Prop} : xse (xFind tbX8_dredge 42) k = k (.goto 4) 46 0 0 [] := rfl
theorem tbX8_dredge_45 {k : Instr → Nat → Nat → Nat → List Nat → Prop} : xse (xFind tbX8_dredge 45) k = k (.iconst 0) 0 0 0 [] := rfl
theorem tbX8_dredge_46 {k : Instr → Nat → Nat → Nat → List Nat → Prop} : xse (xFind tbX8_dredge 46) k = k (.invokevirtual 183) 2 2 9 [] := rfl
theorem tbX8_dredge_49 {k : Instr → Nat → Nat → Nat → List Nat → Prop} : xse (xFind tbX8_dredge 49) k = k (.ifCond .ne 5) 54 0 0 [] := rfl
theorem tbX8_dredge_52 {k : Instr → Nat → Nat → Nat → List Nat → Prop} : xse (xFind tbX8_dredge 52) k = k (.iconst 0) 0 0 0 [] := rfl
theorem tbX8_dredge_53 {k : Instr → Nat → Nat → Nat → List Nat → Prop} : xse (xFind tbX8_dredge 53) k = k (.ireturn) 0 0 0 [] := rfl
theorem tbX8_dredge_54 {k : Instr → Nat → Nat → Nat → List Nat → Prop} : xse (xFind tbX8_dredge 54) k = k (.aload_n 0) 0 0 0 [] := rfl
theorem tbX8_dredge_55 {k : Instr → Nat → Nat → Nat → List Nat → Prop} : xse (xFind tbX8_dredge 55) k = k (.getfield 13) 9 6 2 [] := rfl
theorem tbX8_dredge_58 {k : Instr → Nat → Nat → Nat → List Nat → Prop} : xse (xFind tbX8_dredge 58) k = k (.iload_n 1) 1 0 0 [] := rfl
theorem tbX8_dredge_59 {k : Instr → Nat → Nat → Nat → List Nat → Prop} : xse (xFind tbX8_dredge 59) k = k (.dup2) 0 0 0 [] := rfl
theorem tbX8_dredge_60 {k : Instr → Nat → Nat → Nat → List Nat → Prop} : xse (xFind tbX8_dredge 60) k = k (.iaload) 6 0 0 [] := rfl
theorem tbX8_dredge_61 {k : Instr → Nat → Nat → Nat → List Nat → Prop} : xse (xFind tbX8_dredge 61) k = k (.iload_n 2) 2 0 0 [] := rfl
theorem tbX8_dredge_62 {k : Instr → Nat → Nat → Nat → List Nat → Prop} : xse (xFind tbX8_dredge 62) k = k (.iadd) 0 0 0 [] := rfl
theorem tbX8_dredge_63 {k : Instr → Nat → Nat → Nat → List Nat → Prop} : xse (xFind tbX8_dredge 63) k = k (.iastore) 6 0 0 [] := rfl
theorem tbX8_dredge_64 {k : Instr → Nat → Nat → Nat → List Nat → Prop} : xse (xFind tbX8_dredge 64) k = k (.aload_n 0) 0 0 0 [] := rfl
theorem tbX8_dredge_65 {k : Instr → Nat → Nat → Nat → List Nat → Prop} : xse (xFind tbX8_dredge 65) k = k (.getfield 13) 9 6 2 [] := rfl
theorem tbX8_dredge_68 {k : Instr → Nat → Nat → Nat → List Nat → Prop} : xse (xFind tbX8_dredge 68) k = k (.iload_n 1) 1 0 0 [] := rfl
theorem tbX8_dredge_69 {k : Instr → Nat → Nat → Nat → List Nat → Prop} : xse (xFind tbX8_dredge 69) k = k (.iaload) 6 0 0 [] := rfl
theorem tbX8_dredge_70 {k : Instr → Nat → Nat → Nat → List Nat → Prop} : xse (xFind tbX8_dredge 70) k = k (.ireturn) 0 0 0 [] := rfl

def spX8_dredge (aM : Nat → Nat) : xSp mS := (fun av M => (0, 0), fun av M K => ∃ (s : Int32) (y : Int32), av = [.ref (aM 0), .int s, .int y] ∧ (K (rI (oDredge M s y).1) (oDredge M s y).2))
theorem spcX8_dredge {av : List Value} {M : mS} {aM : Nat → Nat} : (spX8_dredge aM).1 av M = (0, 0) := rfl
theorem spwX8_dredge {M : mS} {aM : Nat → Nat} {K : xRes → mS → Prop} {s : Int32} {y : Int32} : (spX8_dredge aM).2 [.ref (aM 0), .int s, .int y] M K = (K (rI (oDredge M s y).1) (oDredge M s y).2) :=
  propext ⟨fun h => by
    simp only [spX8_dredge] at h
    obtain ⟨_, _, e, h⟩ := h
    simp only [List.cons.injEq, Value.int.injEq, Value.ref.injEq, rf_eq, and_true, true_and] at e
    obtain ⟨rfl, rfl⟩ := e
    exact h, fun h => ⟨_, _, rfl, h⟩⟩

def callX8_dredge (aM : Nat → Nat) : Nat → Option (xSp mS) := fun n => match n with | 0 => some (spX8_isSection aM) | 1 => some (spX8_in aM) | 2 => some (spX8_holds aM) | _ => none

theorem callX8_dredge_0 {aM : Nat → Nat} {k : xSp mS → Prop} : xcs (callX8_dredge aM 0) k = k (spX8_isSection aM) := rfl

theorem callX8_dredge_1 {aM : Nat → Nat} {k : xSp mS → Prop} : xcs (callX8_dredge aM 1) k = k (spX8_in aM) := rfl

theorem callX8_dredge_2 {aM : Nat → Nat} {k : xSp mS → Prop} : xcs (callX8_dredge aM 2) k = k (spX8_holds aM) := rfl

theorem crX8_dredge (l : Launch) (W9 : xWd) (aM : Nat → Nat) (hi : mInj aM) : xCallsOK l W9 (mI aM) (callX8_dredge aM) clX8_dredge RX8 wsX8_dredge 2 42 4 := by
  intro E A p e R s m args below meth c hI hF hL X
  exact List.forall_mem_cons.mpr ⟨⟨_, rfl, xCR_S X (by rw [hI]; exact (semX8_isSection l W9 aM hi)) gX8_dredge_X8_isSection rfl (by decide +kernel) (by rw [hF, hL]; decide)⟩,
    List.forall_mem_cons.mpr ⟨⟨_, rfl, xCR_S X (by rw [hI]; exact (semX8_in l W9 aM hi)) gX8_dredge_X8_in rfl (by decide +kernel) (by rw [hF, hL]; decide)⟩,
    List.forall_mem_cons.mpr ⟨⟨_, rfl, xCR_V X (by rw [hI]; exact (semX8_holds l W9 aM hi)) gX8_dredge_X8_holds rfl rfl (by decide +kernel) (by rw [hF, hL]; decide)⟩,
    fun _ h => nomatch h⟩⟩⟩

set_option maxHeartbeats 4000000 in
set_option maxRecDepth 20000 in
theorem semX8_dredge (l : Launch) (W9 : xWd) (aM : Nat → Nat) (hi : mInj aM) : xSem l W9 (mI aM) yX8_dredge wsX8_dredge 2 42 (spX8_dredge aM) := by
  refine xSem_of (call := callX8_dredge aM) (thrf := fun _ => "") (mI_law hi) (by decide +kernel) rfl ckX8_dredge usX8_dredge (crX8_dredge l W9 aM hi) xThrOK_nil ?_ ?_
  · intro av M KF h
    obtain ⟨s, y, rfl, h⟩ := h
    exact ⟨by intro v hv; simp only [List.mem_cons, List.not_mem_nil, or_false] at hv; rcases hv with rfl | rfl | rfl <;> first | rfl | exact cat_rf, Nat.le_of_ble_eq_true rfl⟩
  intro av M KF h G hG
  obtain ⟨s, y, rfl, h⟩ := h
  rw [show (spX8_dredge aM).1 _ M = _ from spcX8_dredge] at hG
  try dsimp only at hG
  change G 0 [some (.ref (aM 0)), some (.int s), some (.int y), none] [] M 0 0
  refine xgo0 hG (fun fu hfu => ?_)
  clear hG
  simp only [↓callX8_dredge_0, ↓callX8_dredge_1, ↓callX8_dredge_2, kb_20, kb_99, kc_20, kc_99, ki_0, ki_1, ki_2, ki_3, ↓ma_6, ↓mg_6, misa, ↓ms_6, ↓vm_aload_n, ↓vm_bipush, ↓vm_dup2, ↓vm_getfield, ↓vm_goto, ↓vm_iadd, ↓vm_iaload, ↓vm_iastore, ↓vm_iconst, ↓vm_ifCond_ne, ↓vm_if_icmp_le, ↓vm_iload_n, ↓vm_invokestatic, ↓vm_invokevirtual, ↓vm_ireturn, ↓vm_istore_n, ↓xc_1, ↓xc_2, ↓xc_3, ↓tbX8_dredge_0, ↓tbX8_dredge_1, ↓tbX8_dredge_4, ↓tbX8_dredge_5, ↓tbX8_dredge_6, ↓tbX8_dredge_7, ↓tbX8_dredge_10, ↓tbX8_dredge_11, ↓tbX8_dredge_14, ↓tbX8_dredge_15, ↓tbX8_dredge_16, ↓tbX8_dredge_18, ↓tbX8_dredge_21, ↓tbX8_dredge_24, ↓tbX8_dredge_25, ↓tbX8_dredge_28, ↓tbX8_dredge_29, ↓tbX8_dredge_32, ↓tbX8_dredge_33, ↓tbX8_dredge_34, ↓tbX8_dredge_35, ↓tbX8_dredge_36, ↓tbX8_dredge_38, ↓tbX8_dredge_41, ↓tbX8_dredge_42, ↓tbX8_dredge_45, ↓tbX8_dredge_46, ↓tbX8_dredge_49, ↓tbX8_dredge_52, ↓tbX8_dredge_53, ↓tbX8_dredge_54, ↓tbX8_dredge_55, ↓tbX8_dredge_58, ↓tbX8_dredge_59, ↓tbX8_dredge_60, ↓tbX8_dredge_61, ↓tbX8_dredge_62, ↓tbX8_dredge_63, ↓tbX8_dredge_64, ↓tbX8_dredge_65, ↓tbX8_dredge_68, ↓tbX8_dredge_69, ↓tbX8_dredge_70, hfu, xstep0, xJ1_hit, xJ1_go, xJ2_hit1, xJ2_hit2, xJ2_go, ↓xif_t, ↓xif_f, seval, ↓xca_eq, ↓xre_l, ↓xre_r, xmask_t, xmask_f, xmask_nil, ↓xst_eq, xX_eq, eI_eq, eMc_eq, eMs_eq, eF_eq, eThr_eq, ↓xS1_mk, ↓xSI_mk, ↓xSR_mk, ↓xLI_0, ↓xLI_s, ↓xLR_0, ↓xLR_s, vRef_ref, vRef_null, vRef_rf, cat_int, cat_ref, cat_null, cat_rf, rf_some, rf_none, rf_null, rf_eq, rf_ref, ref_rf, ref_null, ref_ref, xOk_0, xOk_1, xOk_2r, xOk_2n, xOk_2f, vOpt_rf, vOpt_ref, vOpt_null, List.set_cons_zero, List.set_cons_succ, List.take_succ_cons, List.take_zero, List.drop_succ_cons, List.drop_zero, List.reverse_cons, List.reverse_nil, List.nil_append, List.cons_append, List.append_nil, List.length_cons, List.length_nil, List.map_cons, List.map_nil, List.sum_cons, List.sum_nil, Option.toList_some, Option.toList_none, xRecv_mk, true_and, and_true, true_implies, Nat.reduceAdd, Nat.reduceLeDiff, Nat.zero_le, Nat.le_refl, Nat.add_zero, Nat.zero_add, reduceIte, not_true_eq_false, not_false_eq_true, false_implies, and_self, implies_true, eq_self, Nat.reduceEqDiff, List.cons.injEq, xsn_1, xsn_2, false_and, and_false, or_false, false_or, or_true, true_or, xsn_3, xsn_4, mAst_1, mAst_2, mSet_1, mSet_2, bi_0, ↓spwX8_isSection, spcX8_isSection, ↓spwX8_in, spcX8_in, ↓spwX8_holds, spcX8_holds]
  try simp only [xif_e]
  unfold oDredge at h
  have h6 := @in_6 s
  repeat' (first | with_reducible apply And.intro | with_reducible intro _)
  all_goals grind [bi]

def tbX8_stage : List (Nat × xHint) := [(0, .aload_n 0, 0, 0, 0, []), (1, .iload_n 1, 1, 0, 0, []), (2, .bipush (-30), 0, 0, 0, []), (4, .bipush 60, 0, 0, 0, []), (6, .invokestatic 159, 0, 3, 0, []), (9, .ifCond .eq 18, 27, 0, 0, []), (12, .iload_n 2, 2, 0, 0, []), (13, .bipush (-9), 0, 0, 0, []), (15, .bipush 9, 0, 0, 0, []), (17, .invokestatic 159, 0, 3, 0, []), (20, .ifCond .eq 7, 27, 0, 0, []), (23, .iconst 0, 0, 0, 0, []), (24, .goto 4, 28, 0, 0, []), (27, .iconst 1, 0, 0, 0, []), (28, .invokevirtual 183, 1, 2, 9, []), (31, .ifCond .ne 5, 36, 0, 0, []), (34, .iconst 0, 0, 0, 0, []), (35, .ireturn, 0, 0, 0, []), (36, .aload_n 0, 0, 0, 0, []), (37, .getfield 186, 9, 2, 0, []), (40, .istore_n 3, 3, 0, 0, []), (41, .aload_n 0, 0, 0, 0, []), (42, .iload_n 1, 1, 0, 0, []), (43, .putfield 186, 9, 2, 0, []), (46, .aload_n 0, 0, 0, 0, []), (47, .iload_n 2, 2, 0, 0, []), (48, .putfield 189, 9, 3, 0, []), (51, .iload_n 3, 3, 0, 0, []), (52, .ireturn, 0, 0, 0, [])]
def clX8_stage : List (Instr × Nat × Nat × Nat) := [(.invokestatic 159, 0, 3, 0), (.invokevirtual 183, 1, 2, 9)]
def thX8_stage : List (Nat × Nat) := []
theorem ckX8_stage : tbX8_stage.all (xRow RX8 cX8_stage wsX8_stage vwCl [9] clX8_stage thX8_stage 4 (yX8_stage.name == "<init>") (some .int)) = true := xRow_q 0xac1dbd00b51c2aba00b51b2a3eba00b42aac0305009ab700b6040400a7030700999f00b80910f7101c1200999f00b83c10e2101b2a 53 (by decide +kernel) (by decide +kernel)
theorem usX8_stage : xUse wsX8_stage vwCl [9] = true := xUse_g rfl (lw_good lwl_X8_stage lwl_X80 (by decide +kernel)) xUse_n
theorem tbX8_stage_0 {k : Instr → Nat → Nat → Nat → List Nat → Prop} : xse (xFind tbX8_stage 0) k = k (.aload_n 0) 0 0 0 [] := rfl
theorem tbX8_stage_1 {k : Instr → Nat → Nat → Nat → List Nat → Prop} : xse (xFind tbX8_stage 1) k = k (.iload_n 1) 1 0 0 [] := rfl
theorem tbX8_stage_2 {k : Instr → Nat → Nat → Nat → List Nat → Prop} : xse (xFind tbX8_stage 2) k = k (.bipush (-30)) 0 0 0 [] := rfl
theorem tbX8_stage_4 {k : Instr → Nat → Nat → Nat → List Nat → Prop} : xse (xFind tbX8_stage 4) k = k (.bipush 60) 0 0 0 [] := rfl
theorem tbX8_stage_6 {k : Instr → Nat → Nat → Nat → List Nat → Prop} : xse (xFind tbX8_stage 6) k = k (.invokestatic 159) 0 3 0 [] := rfl
theorem tbX8_stage_9 {k : Instr → Nat → Nat → Nat → List Nat → Prop} : xse (xFind tbX8_stage 9) k = k (.ifCond .eq 18) 27 0 0 [] := rfl
theorem tbX8_stage_12 {k : Instr → Nat → Nat → Nat → List Nat → Prop} : xse (xFind tbX8_stage 12) k = k (.iload_n 2) 2 0 0 [] := rfl
theorem tbX8_stage_13 {k : Instr → Nat → Nat → Nat → List Nat → Prop} : xse (xFind tbX8_stage 13) k = k (.bipush (-9)) 0 0 0 [] := rfl
theorem tbX8_stage_15 {k : Instr → Nat → Nat → Nat → List Nat → Prop} : xse (xFind tbX8_stage 15) k = k (.bipush 9) 0 0 0 [] := rfl
theorem tbX8_stage_17 {k : Instr → Nat → Nat → Nat → List Nat → Prop} : xse (xFind tbX8_stage 17) k = k (.invokestatic 159) 0 3 0 [] := rfl
theorem tbX8_stage_20 {k : Instr → Nat → Nat → Nat → List Nat → Prop} : xse (xFind tbX8_stage 20) k = k (.ifCond .eq 7) 27 0 0 [] := rfl
theorem tbX8_stage_23 {k : Instr → Nat → Nat → Nat → List Nat → Prop} : xse (xFind tbX8_stage 23) k = k (.iconst 0) 0 0 0 [] := rfl
theorem tbX8_stage_24 {k : Instr → Nat → Nat → Nat → List Nat → Prop} : xse (xFind tbX8_stage 24) k = k (.goto 4) 28 0 0 [] := rfl
theorem tbX8_stage_27 {k : Instr → Nat → Nat → Nat → List Nat → Prop} : xse (xFind tbX8_stage 27) k = k (.iconst 1) 0 0 0 [] := rfl
theorem tbX8_stage_28 {k : Instr → Nat → Nat → Nat → List Nat → Prop} : xse (xFind tbX8_stage 28) k = k (.invokevirtual 183) 1 2 9 [] := rfl
theorem tbX8_stage_31 {k : Instr → Nat → Nat → Nat → List Nat → Prop} : xse (xFind tbX8_stage 31) k = k (.ifCond .ne 5) 36 0 0 [] := rfl
theorem tbX8_stage_34 {k : Instr → Nat → Nat → Nat → List Nat → Prop} : xse (xFind tbX8_stage 34) k = k (.iconst 0) 0 0 0 [] := rfl
theorem tbX8_stage_35 {k : Instr → Nat → Nat → Nat → List Nat → Prop} : xse (xFind tbX8_stage 35) k = k (.ireturn) 0 0 0 [] := rfl
theorem tbX8_stage_36 {k : Instr → Nat → Nat → Nat → List Nat → Prop} : xse (xFind tbX8_stage 36) k = k (.aload_n 0) 0 0 0 [] := rfl
theorem tbX8_stage_37 {k : Instr → Nat → Nat → Nat → List Nat → Prop} : xse (xFind tbX8_stage 37) k = k (.getfield 186) 9 2 0 [] := rfl
theorem tbX8_stage_40 {k : Instr → Nat → Nat → Nat → List Nat → Prop} : xse (xFind tbX8_stage 40) k = k (.istore_n 3) 3 0 0 [] := rfl
theorem tbX8_stage_41 {k : Instr → Nat → Nat → Nat → List Nat → Prop} : xse (xFind tbX8_stage 41) k = k (.aload_n 0) 0 0 0 [] := rfl
theorem tbX8_stage_42 {k : Instr → Nat → Nat → Nat → List Nat → Prop} : xse (xFind tbX8_stage 42) k = k (.iload_n 1) 1 0 0 [] := rfl
theorem tbX8_stage_43 {k : Instr → Nat → Nat → Nat → List Nat → Prop} : xse (xFind tbX8_stage 43) k = k (.putfield 186) 9 2 0 [] := rfl
theorem tbX8_stage_46 {k : Instr → Nat → Nat → Nat → List Nat → Prop} : xse (xFind tbX8_stage 46) k = k (.aload_n 0) 0 0 0 [] := rfl
theorem tbX8_stage_47 {k : Instr → Nat → Nat → Nat → List Nat → Prop} : xse (xFind tbX8_stage 47) k = k (.iload_n 2) 2 0 0 [] := rfl
theorem tbX8_stage_48 {k : Instr → Nat → Nat → Nat → List Nat → Prop} : xse (xFind tbX8_stage 48) k = k (.putfield 189) 9 3 0 [] := rfl
theorem tbX8_stage_51 {k : Instr → Nat → Nat → Nat → List Nat → Prop} : xse (xFind tbX8_stage 51) k = k (.iload_n 3) 3 0 0 [] := rfl
theorem tbX8_stage_52 {k : Instr → Nat → Nat → Nat → List Nat → Prop} : xse (xFind tbX8_stage 52) k = k (.ireturn) 0 0 0 [] := rfl

def spX8_stage (aM : Nat → Nat) : xSp mS := (fun av M => (0, 0), fun av M K => ∃ (v : Int32) (f : Int32), av = [.ref (aM 0), .int v, .int f] ∧ (K (rI (oStage M v f).1) (oStage M v f).2))
theorem spcX8_stage {av : List Value} {M : mS} {aM : Nat → Nat} : (spX8_stage aM).1 av M = (0, 0) := rfl
theorem spwX8_stage {M : mS} {aM : Nat → Nat} {K : xRes → mS → Prop} {v : Int32} {f : Int32} : (spX8_stage aM).2 [.ref (aM 0), .int v, .int f] M K = (K (rI (oStage M v f).1) (oStage M v f).2) :=
  propext ⟨fun h => by
    simp only [spX8_stage] at h
    obtain ⟨_, _, e, h⟩ := h
    simp only [List.cons.injEq, Value.int.injEq, Value.ref.injEq, rf_eq, and_true, true_and] at e
    obtain ⟨rfl, rfl⟩ := e
    exact h, fun h => ⟨_, _, rfl, h⟩⟩

def callX8_stage (aM : Nat → Nat) : Nat → Option (xSp mS) := fun n => match n with | 0 => some (spX8_in aM) | 1 => some (spX8_holds aM) | _ => none

theorem callX8_stage_0 {aM : Nat → Nat} {k : xSp mS → Prop} : xcs (callX8_stage aM 0) k = k (spX8_in aM) := rfl

theorem callX8_stage_1 {aM : Nat → Nat} {k : xSp mS → Prop} : xcs (callX8_stage aM 1) k = k (spX8_holds aM) := rfl

theorem crX8_stage (l : Launch) (W9 : xWd) (aM : Nat → Nat) (hi : mInj aM) : xCallsOK l W9 (mI aM) (callX8_stage aM) clX8_stage RX8 wsX8_stage 1 22 4 := by
  intro E A p e R s m args below meth c hI hF hL X
  exact List.forall_mem_cons.mpr ⟨⟨_, rfl, xCR_S X (by rw [hI]; exact (semX8_in l W9 aM hi)) gX8_stage_X8_in rfl (by decide +kernel) (by rw [hF, hL]; decide)⟩,
    List.forall_mem_cons.mpr ⟨⟨_, rfl, xCR_V X (by rw [hI]; exact (semX8_holds l W9 aM hi)) gX8_stage_X8_holds rfl rfl (by decide +kernel) (by rw [hF, hL]; decide)⟩,
    fun _ h => nomatch h⟩⟩

set_option maxHeartbeats 4000000 in
set_option maxRecDepth 20000 in
theorem semX8_stage (l : Launch) (W9 : xWd) (aM : Nat → Nat) (hi : mInj aM) : xSem l W9 (mI aM) yX8_stage wsX8_stage 1 22 (spX8_stage aM) := by
  refine xSem_of (call := callX8_stage aM) (thrf := fun _ => "") (mI_law hi) (by decide +kernel) rfl ckX8_stage usX8_stage (crX8_stage l W9 aM hi) xThrOK_nil ?_ ?_
  · intro av M KF h
    obtain ⟨v, f, rfl, h⟩ := h
    exact ⟨by intro v hv; simp only [List.mem_cons, List.not_mem_nil, or_false] at hv; rcases hv with rfl | rfl | rfl <;> first | rfl | exact cat_rf, Nat.le_of_ble_eq_true rfl⟩
  intro av M KF h G hG
  obtain ⟨v, f, rfl, h⟩ := h
  rw [show (spX8_stage aM).1 _ M = _ from spcX8_stage] at hG
  try dsimp only at hG
  change G 0 [some (.ref (aM 0)), some (.int v), some (.int f), none] [] M 0 0
  refine xgo0 hG (fun fu hfu => ?_)
  clear hG
  simp only [↓callX8_stage_0, ↓callX8_stage_1, kb_60, kb_9, kb_m30, kb_m9, kc_60, kc_9, kc_m30, kc_m9, ki_0, ki_1, ↓mg_2, misa, ↓mp_2, ↓mp_3, ↓vm_aload_n, ↓vm_bipush, ↓vm_getfield, ↓vm_goto, ↓vm_iconst, ↓vm_ifCond_eq, ↓vm_ifCond_ne, ↓vm_iload_n, ↓vm_invokestatic, ↓vm_invokevirtual, ↓vm_ireturn, ↓vm_istore_n, ↓vm_putfield, ↓xc_2, ↓xc_3, ↓tbX8_stage_0, ↓tbX8_stage_1, ↓tbX8_stage_2, ↓tbX8_stage_4, ↓tbX8_stage_6, ↓tbX8_stage_9, ↓tbX8_stage_12, ↓tbX8_stage_13, ↓tbX8_stage_15, ↓tbX8_stage_17, ↓tbX8_stage_20, ↓tbX8_stage_23, ↓tbX8_stage_24, ↓tbX8_stage_27, ↓tbX8_stage_28, ↓tbX8_stage_31, ↓tbX8_stage_34, ↓tbX8_stage_35, ↓tbX8_stage_36, ↓tbX8_stage_37, ↓tbX8_stage_40, ↓tbX8_stage_41, ↓tbX8_stage_42, ↓tbX8_stage_43, ↓tbX8_stage_46, ↓tbX8_stage_47, ↓tbX8_stage_48, ↓tbX8_stage_51, ↓tbX8_stage_52, hfu, xstep0, xJ1_hit, xJ1_go, xJ2_hit1, xJ2_hit2, xJ2_go, ↓xif_t, ↓xif_f, seval, ↓xca_eq, ↓xre_l, ↓xre_r, xmask_t, xmask_f, xmask_nil, ↓xst_eq, xX_eq, eI_eq, eMc_eq, eMs_eq, eF_eq, eThr_eq, ↓xS1_mk, ↓xSI_mk, ↓xSR_mk, ↓xLI_0, ↓xLI_s, ↓xLR_0, ↓xLR_s, vRef_ref, vRef_null, vRef_rf, cat_int, cat_ref, cat_null, cat_rf, rf_some, rf_none, rf_null, rf_eq, rf_ref, ref_rf, ref_null, ref_ref, xOk_0, xOk_1, xOk_2r, xOk_2n, xOk_2f, vOpt_rf, vOpt_ref, vOpt_null, List.set_cons_zero, List.set_cons_succ, List.take_succ_cons, List.take_zero, List.drop_succ_cons, List.drop_zero, List.reverse_cons, List.reverse_nil, List.nil_append, List.cons_append, List.append_nil, List.length_cons, List.length_nil, List.map_cons, List.map_nil, List.sum_cons, List.sum_nil, Option.toList_some, Option.toList_none, xRecv_mk, true_and, and_true, true_implies, Nat.reduceAdd, Nat.reduceLeDiff, Nat.zero_le, Nat.le_refl, Nat.add_zero, Nat.zero_add, reduceIte, not_true_eq_false, not_false_eq_true, false_implies, and_self, implies_true, eq_self, Nat.reduceEqDiff, List.cons.injEq, xsn_1, xsn_2, false_and, and_false, or_false, false_or, or_true, true_or, xsn_3, xsn_4, mAst_1, mAst_2, mSet_1, mSet_2, bi_0, ↓spwX8_in, spcX8_in, ↓spwX8_holds, spcX8_holds]
  try simp only [xif_e]
  unfold oStage at h
  repeat' (first | with_reducible apply And.intro | with_reducible intro _)
  all_goals grind [bi]

def tbX8_weather : List (Nat × xHint) := [(0, .aload_n 0, 0, 0, 0, []), (1, .iload_n 1, 1, 0, 0, []), (2, .invokestatic 176, 0, 1, 0, []), (5, .ifCond .ne 7, 12, 0, 0, []), (8, .iconst 1, 0, 0, 0, []), (9, .goto 17, 26, 0, 0, []), (12, .iload_n 2, 2, 0, 0, []), (13, .iconst 0, 0, 0, 0, []), (14, .iconst 3, 0, 0, 0, []), (15, .invokestatic 159, 1, 3, 0, []), (18, .ifCond .eq 7, 25, 0, 0, []), (21, .iconst 0, 0, 0, 0, []), (22, .goto 4, 26, 0, 0, []), (25, .iconst 2, 0, 0, 0, []), (26, .invokevirtual 183, 2, 2, 9, []), (29, .ifCond .ne 5, 34, 0, 0, []), (32, .iconst 0, 0, 0, 0, []), (33, .ireturn, 0, 0, 0, []), (34, .aload_n 0, 0, 0, 0, []), (35, .getfield 17, 9, 7, 2, []), (38, .iload_n 1, 1, 0, 0, []), (39, .iaload, 7, 0, 0, []), (40, .istore 4, 4, 0, 0, []), (42, .aload_n 0, 0, 0, 0, []), (43, .getfield 17, 9, 7, 2, []), (46, .iload_n 1, 1, 0, 0, []), (47, .iload_n 2, 2, 0, 0, []), (48, .iastore, 7, 0, 0, []), (49, .aload_n 0, 0, 0, 0, []), (50, .getfield 20, 9, 8, 2, []), (53, .iload_n 1, 1, 0, 0, []), (54, .iload_n 3, 3, 0, 0, []), (55, .bastore, 8, 0, 0, []), (56, .iload 4, 4, 0, 0, []), (58, .ireturn, 0, 0, 0, [])]
def clX8_weather : List (Instr × Nat × Nat × Nat) := [(.invokestatic 176, 0, 1, 0), (.invokestatic 159, 1, 3, 0), (.invokevirtual 183, 2, 2, 9)]
def thX8_weather : List (Nat × Nat) := []
theorem ckX8_weather : tbX8_weather.all (xRow RX8 cX8_weather wsX8_weather vwCl [9] clX8_weather thX8_weather 5 (yX8_weather.name == "<init>") (some .int)) = true := xRow_q 0xac0415541d1b1400b42a4f1c1b1100b42a04362e1b1100b42aac0305009ab700b6050400a7030700999f00b806031c1100a70407009ab000b81b2a 59 (by decide +kernel) (by decide +kernel)
theorem usX8_weather : xUse wsX8_weather vwCl [9] = true := xUse_g rfl (lw_good lwl_X8_weather lwl_X80 (by decide +kernel)) xUse_n
theorem tbX8_weather_0 {k : Instr → Nat → Nat → Nat → List Nat → Prop} : xse (xFind tbX8_weather 0) k = k (.aload_n 0) 0 0 0 [] := rfl
theorem tbX8_weather_1 {k : Instr → Nat → Nat → Nat → List Nat → Prop} : xse (xFind tbX8_weather 1) k = k (.iload_n 1) 1 0 0 [] := rfl
theorem tbX8_weather_2 {k : Instr → Nat → Nat → Nat → List Nat → Prop} : xse (xFind tbX8_weather 2) k = k (.invokestatic 176) 0 1 0 [] := rfl
theorem tbX8_weather_5 {k : Instr → Nat → Nat → Nat → List Nat → Prop} : xse (xFind tbX8_weather 5) k = k (.ifCond .ne 7) 12 0 0 [] := rfl
theorem tbX8_weather_8 {k : Instr → Nat → Nat → Nat → List Nat → Prop} : xse (xFind tbX8_weather 8) k = k (.iconst 1) 0 0 0 [] := rfl
theorem tbX8_weather_9 {k : Instr → Nat → Nat → Nat → List Nat → Prop} : xse (xFind tbX8_weather 9) k = k (.goto 17) 26 0 0 [] := rfl
theorem tbX8_weather_12 {k : Instr → Nat → Nat → Nat → List Nat → Prop} : xse (xFind tbX8_weather 12) k = k (.iload_n 2) 2 0 0 [] := rfl
theorem tbX8_weather_13 {k : Instr → Nat → Nat → Nat → List Nat → Prop} : xse (xFind tbX8_weather 13) k = k (.iconst 0) 0 0 0 [] := rfl
theorem tbX8_weather_14 {k : Instr → Nat → Nat → Nat → List Nat → Prop} : xse (xFind tbX8_weather 14) k = k (.iconst 3) 0 0 0 [] := rfl
theorem tbX8_weather_15 {k : Instr → Nat → Nat → Nat → List Nat → Prop} : xse (xFind tbX8_weather 15) k = k (.invokestatic 159) 1 3 0 [] := rfl
theorem tbX8_weather_18 {k : Instr → Nat → Nat → Nat → List Nat → Prop} : xse (xFind tbX8_weather 18) k = k (.ifCond .eq 7) 25 0 0 [] := rfl
theorem tbX8_weather_21 {k : Instr → Nat → Nat → Nat → List Nat → Prop} : xse (xFind tbX8_weather 21) k = k (.iconst 0) 0 0 0 [] := rfl
theorem tbX8_weather_22 {k : Instr → Nat → Nat → Nat → List Nat → Prop} : xse (xFind tbX8_weather 22) k = k (.goto 4) 26 0 0 [] := rfl
theorem tbX8_weather_25 {k : Instr → Nat → Nat → Nat → List Nat → Prop} : xse (xFind tbX8_weather 25) k = k (.iconst 2) 0 0 0 [] := rfl
theorem tbX8_weather_26 {k : Instr → Nat → Nat → Nat → List Nat → Prop} : xse (xFind tbX8_weather 26) k = k (.invokevirtual 183) 2 2 9 [] := rfl
theorem tbX8_weather_29 {k : Instr → Nat → Nat → Nat → List Nat → Prop} : xse (xFind tbX8_weather 29) k = k (.ifCond .ne 5) 34 0 0 [] := rfl
theorem tbX8_weather_32 {k : Instr → Nat → Nat → Nat → List Nat → Prop} : xse (xFind tbX8_weather 32) k = k (.iconst 0) 0 0 0 [] := rfl
theorem tbX8_weather_33 {k : Instr → Nat → Nat → Nat → List Nat → Prop} : xse (xFind tbX8_weather 33) k = k (.ireturn) 0 0 0 [] := rfl
theorem tbX8_weather_34 {k : Instr → Nat → Nat → Nat → List Nat → Prop} : xse (xFind tbX8_weather 34) k = k (.aload_n 0) 0 0 0 [] := rfl
theorem tbX8_weather_35 {k : Instr → Nat → Nat → Nat → List Nat → Prop} : xse (xFind tbX8_weather 35) k = k (.getfield 17) 9 7 2 [] := rfl
theorem tbX8_weather_38 {k : Instr → Nat → Nat → Nat → List Nat → Prop} : xse (xFind tbX8_weather 38) k = k (.iload_n 1) 1 0 0 [] := rfl
theorem tbX8_weather_39 {k : Instr → Nat → Nat → Nat → List Nat → Prop} : xse (xFind tbX8_weather 39) k = k (.iaload) 7 0 0 [] := rfl
theorem tbX8_weather_40 {k : Instr → Nat → Nat → Nat → List Nat → Prop} : xse (xFind tbX8_weather 40) k = k (.istore 4) 4 0 0 [] := rfl
theorem tbX8_weather_42 {k : Instr → Nat → Nat → Nat → List Nat → Prop} : xse (xFind tbX8_weather 42) k = k (.aload_n 0) 0 0 0 [] := rfl
theorem tbX8_weather_43 {k : Instr → Nat → Nat → Nat → List Nat → Prop} : xse (xFind tbX8_weather 43) k = k (.getfield 17) 9 7 2 [] := rfl
theorem tbX8_weather_46 {k : Instr → Nat → Nat → Nat → List Nat → Prop} : xse (xFind tbX8_weather 46) k = k (.iload_n 1) 1 0 0 [] := rfl
theorem tbX8_weather_47 {k : Instr → Nat → Nat → Nat → List Nat → Prop} : xse (xFind tbX8_weather 47) k = k (.iload_n 2) 2 0 0 [] := rfl
theorem tbX8_weather_48 {k : Instr → Nat → Nat → Nat → List Nat → Prop} : xse (xFind tbX8_weather 48) k = k (.iastore) 7 0 0 [] := rfl
theorem tbX8_weather_49 {k : Instr → Nat → Nat → Nat → List Nat → Prop} : xse (xFind tbX8_weather 49) k = k (.aload_n 0) 0 0 0 [] := rfl
theorem tbX8_weather_50 {k : Instr → Nat → Nat → Nat → List Nat → Prop} : xse (xFind tbX8_weather 50) k = k (.getfield 20) 9 8 2 [] := rfl
theorem tbX8_weather_53 {k : Instr → Nat → Nat → Nat → List Nat → Prop} : xse (xFind tbX8_weather 53) k = k (.iload_n 1) 1 0 0 [] := rfl
theorem tbX8_weather_54 {k : Instr → Nat → Nat → Nat → List Nat → Prop} : xse (xFind tbX8_weather 54) k = k (.iload_n 3) 3 0 0 [] := rfl
theorem tbX8_weather_55 {k : Instr → Nat → Nat → Nat → List Nat → Prop} : xse (xFind tbX8_weather 55) k = k (.bastore) 8 0 0 [] := rfl
theorem tbX8_weather_56 {k : Instr → Nat → Nat → Nat → List Nat → Prop} : xse (xFind tbX8_weather 56) k = k (.iload 4) 4 0 0 [] := rfl
theorem tbX8_weather_58 {k : Instr → Nat → Nat → Nat → List Nat → Prop} : xse (xFind tbX8_weather 58) k = k (.ireturn) 0 0 0 [] := rfl

def spX8_weather (aM : Nat → Nat) : xSp mS := (fun av M => (0, 0), fun av M K => ∃ (s : Int32) (i : Int32) (z : Int32), av = [.ref (aM 0), .int s, .int i, .int z] ∧ ((z = 0 ∨ z = 1) ∧ (K (rI (oWeather M s i z).1) (oWeather M s i z).2)))
theorem spcX8_weather {av : List Value} {M : mS} {aM : Nat → Nat} : (spX8_weather aM).1 av M = (0, 0) := rfl
theorem spwX8_weather {M : mS} {aM : Nat → Nat} {K : xRes → mS → Prop} {s : Int32} {i : Int32} {z : Int32} : (spX8_weather aM).2 [.ref (aM 0), .int s, .int i, .int z] M K = ((z = 0 ∨ z = 1) ∧ (K (rI (oWeather M s i z).1) (oWeather M s i z).2)) :=
  propext ⟨fun h => by
    simp only [spX8_weather] at h
    obtain ⟨_, _, _, e, h⟩ := h
    simp only [List.cons.injEq, Value.int.injEq, Value.ref.injEq, rf_eq, and_true, true_and] at e
    obtain ⟨rfl, rfl, rfl⟩ := e
    exact h, fun h => ⟨_, _, _, rfl, h⟩⟩

def callX8_weather (aM : Nat → Nat) : Nat → Option (xSp mS) := fun n => match n with | 0 => some (spX8_isSection aM) | 1 => some (spX8_in aM) | 2 => some (spX8_holds aM) | _ => none

theorem callX8_weather_0 {aM : Nat → Nat} {k : xSp mS → Prop} : xcs (callX8_weather aM 0) k = k (spX8_isSection aM) := rfl

theorem callX8_weather_1 {aM : Nat → Nat} {k : xSp mS → Prop} : xcs (callX8_weather aM 1) k = k (spX8_in aM) := rfl

theorem callX8_weather_2 {aM : Nat → Nat} {k : xSp mS → Prop} : xcs (callX8_weather aM 2) k = k (spX8_holds aM) := rfl

theorem crX8_weather (l : Launch) (W9 : xWd) (aM : Nat → Nat) (hi : mInj aM) : xCallsOK l W9 (mI aM) (callX8_weather aM) clX8_weather RX8 wsX8_weather 2 42 5 := by
  intro E A p e R s m args below meth c hI hF hL X
  exact List.forall_mem_cons.mpr ⟨⟨_, rfl, xCR_S X (by rw [hI]; exact (semX8_isSection l W9 aM hi)) gX8_weather_X8_isSection rfl (by decide +kernel) (by rw [hF, hL]; decide)⟩,
    List.forall_mem_cons.mpr ⟨⟨_, rfl, xCR_S X (by rw [hI]; exact (semX8_in l W9 aM hi)) gX8_weather_X8_in rfl (by decide +kernel) (by rw [hF, hL]; decide)⟩,
    List.forall_mem_cons.mpr ⟨⟨_, rfl, xCR_V X (by rw [hI]; exact (semX8_holds l W9 aM hi)) gX8_weather_X8_holds rfl rfl (by decide +kernel) (by rw [hF, hL]; decide)⟩,
    fun _ h => nomatch h⟩⟩⟩

set_option maxHeartbeats 4000000 in
set_option maxRecDepth 20000 in
theorem semX8_weather (l : Launch) (W9 : xWd) (aM : Nat → Nat) (hi : mInj aM) : xSem l W9 (mI aM) yX8_weather wsX8_weather 2 42 (spX8_weather aM) := by
  refine xSem_of (call := callX8_weather aM) (thrf := fun _ => "") (mI_law hi) (by decide +kernel) rfl ckX8_weather usX8_weather (crX8_weather l W9 aM hi) xThrOK_nil ?_ ?_
  · intro av M KF h
    obtain ⟨s, i, z, rfl, h⟩ := h
    exact ⟨by intro v hv; simp only [List.mem_cons, List.not_mem_nil, or_false] at hv; rcases hv with rfl | rfl | rfl | rfl <;> first | rfl | exact cat_rf, Nat.le_of_ble_eq_true rfl⟩
  intro av M KF h G hG
  obtain ⟨s, i, z, rfl, h⟩ := h
  rw [show (spX8_weather aM).1 _ M = _ from spcX8_weather] at hG
  try dsimp only at hG
  change G 0 [some (.ref (aM 0)), some (.int s), some (.int i), some (.int z), none] [] M 0 0
  obtain ⟨hz, h⟩ := h
  refine xgo0 hG (fun fu hfu => ?_)
  clear hG
  simp only [↓callX8_weather_0, ↓callX8_weather_1, ↓callX8_weather_2, ki_0, ki_1, ki_2, ki_3, ↓ma_7, ↓mg_7, ↓mg_8, misa, ↓ms_7, ↓ms_8, ↓vm_aload_n, ↓vm_bastore, ↓vm_getfield, ↓vm_goto, ↓vm_iaload, ↓vm_iastore, ↓vm_iconst, ↓vm_ifCond_eq, ↓vm_ifCond_ne, ↓vm_iload, ↓vm_iload_n, ↓vm_invokestatic, ↓vm_invokevirtual, ↓vm_ireturn, ↓vm_istore, ↓xc_1, ↓xc_2, ↓xc_3, ↓tbX8_weather_0, ↓tbX8_weather_1, ↓tbX8_weather_2, ↓tbX8_weather_5, ↓tbX8_weather_8, ↓tbX8_weather_9, ↓tbX8_weather_12, ↓tbX8_weather_13, ↓tbX8_weather_14, ↓tbX8_weather_15, ↓tbX8_weather_18, ↓tbX8_weather_21, ↓tbX8_weather_22, ↓tbX8_weather_25, ↓tbX8_weather_26, ↓tbX8_weather_29, ↓tbX8_weather_32, ↓tbX8_weather_33, ↓tbX8_weather_34, ↓tbX8_weather_35, ↓tbX8_weather_38, ↓tbX8_weather_39, ↓tbX8_weather_40, ↓tbX8_weather_42, ↓tbX8_weather_43, ↓tbX8_weather_46, ↓tbX8_weather_47, ↓tbX8_weather_48, ↓tbX8_weather_49, ↓tbX8_weather_50, ↓tbX8_weather_53, ↓tbX8_weather_54, ↓tbX8_weather_55, ↓tbX8_weather_56, ↓tbX8_weather_58, hfu, xstep0, xJ1_hit, xJ1_go, xJ2_hit1, xJ2_hit2, xJ2_go, ↓xif_t, ↓xif_f, seval, ↓xca_eq, ↓xre_l, ↓xre_r, xmask_t, xmask_f, xmask_nil, ↓xst_eq, xX_eq, eI_eq, eMc_eq, eMs_eq, eF_eq, eThr_eq, ↓xS1_mk, ↓xSI_mk, ↓xSR_mk, ↓xLI_0, ↓xLI_s, ↓xLR_0, ↓xLR_s, vRef_ref, vRef_null, vRef_rf, cat_int, cat_ref, cat_null, cat_rf, rf_some, rf_none, rf_null, rf_eq, rf_ref, ref_rf, ref_null, ref_ref, xOk_0, xOk_1, xOk_2r, xOk_2n, xOk_2f, vOpt_rf, vOpt_ref, vOpt_null, List.set_cons_zero, List.set_cons_succ, List.take_succ_cons, List.take_zero, List.drop_succ_cons, List.drop_zero, List.reverse_cons, List.reverse_nil, List.nil_append, List.cons_append, List.append_nil, List.length_cons, List.length_nil, List.map_cons, List.map_nil, List.sum_cons, List.sum_nil, Option.toList_some, Option.toList_none, xRecv_mk, true_and, and_true, true_implies, Nat.reduceAdd, Nat.reduceLeDiff, Nat.zero_le, Nat.le_refl, Nat.add_zero, Nat.zero_add, reduceIte, not_true_eq_false, not_false_eq_true, false_implies, and_self, implies_true, eq_self, Nat.reduceEqDiff, List.cons.injEq, xsn_1, xsn_2, false_and, and_false, or_false, false_or, or_true, true_or, xsn_3, xsn_4, mAst_1, mAst_2, mSet_1, mSet_2, bi_0, ↓spwX8_isSection, spcX8_isSection, ↓spwX8_in, spcX8_in, ↓spwX8_holds, spcX8_holds]
  try simp only [xif_e]
  unfold oWeather at h
  have h6 := @in_6 s
  repeat' (first | with_reducible apply And.intro | with_reducible intro _)
  all_goals grind [bi]

def tbX8_fog : List (Nat × xHint) := [(0, .aload_n 0, 0, 0, 0, []), (1, .iconst 0, 0, 0, 0, []), (2, .putfield 155, 9, 0, 0, []), (5, .aload_n 0, 0, 0, 0, []), (6, .getfield 192, 9, 4, 1, []), (9, .istore_n 2, 2, 0, 0, []), (10, .aload_n 0, 0, 0, 0, []), (11, .iload_n 1, 1, 0, 0, []), (12, .putfield 192, 9, 4, 1, []), (15, .iload_n 2, 2, 0, 0, []), (16, .ireturn, 1, 0, 0, [])]
def clX8_fog : List (Instr × Nat × Nat × Nat) := []
def thX8_fog : List (Nat × Nat) := []
theorem ckX8_fog : tbX8_fog.all (xRow RX8 cX8_fog wsX8_fog vwCl [9] clX8_fog thX8_fog 3 (yX8_fog.name == "<init>") (some .boolean)) = true := xRow_q 0xac1cc000b51b2a3dc000b42a9b00b5032a 17 (by decide +kernel) (by decide +kernel)
theorem usX8_fog : xUse wsX8_fog vwCl [9] = true := xUse_g rfl (lw_good lwl_X8_fog lwl_X80 (by decide +kernel)) xUse_n
theorem tbX8_fog_0 {k : Instr → Nat → Nat → Nat → List Nat → Prop} : xse (xFind tbX8_fog 0) k = k (.aload_n 0) 0 0 0 [] := rfl
theorem tbX8_fog_1 {k : Instr → Nat → Nat → Nat → List Nat → Prop} : xse (xFind tbX8_fog 1) k = k (.iconst 0) 0 0 0 [] := rfl
theorem tbX8_fog_2 {k : Instr → Nat → Nat → Nat → List Nat → Prop} : xse (xFind tbX8_fog 2) k = k (.putfield 155) 9 0 0 [] := rfl
theorem tbX8_fog_5 {k : Instr → Nat → Nat → Nat → List Nat → Prop} : xse (xFind tbX8_fog 5) k = k (.aload_n 0) 0 0 0 [] := rfl
theorem tbX8_fog_6 {k : Instr → Nat → Nat → Nat → List Nat → Prop} : xse (xFind tbX8_fog 6) k = k (.getfield 192) 9 4 1 [] := rfl
theorem tbX8_fog_9 {k : Instr → Nat → Nat → Nat → List Nat → Prop} : xse (xFind tbX8_fog 9) k = k (.istore_n 2) 2 0 0 [] := rfl
theorem tbX8_fog_10 {k : Instr → Nat → Nat → Nat → List Nat → Prop} : xse (xFind tbX8_fog 10) k = k (.aload_n 0) 0 0 0 [] := rfl
theorem tbX8_fog_11 {k : Instr → Nat → Nat → Nat → List Nat → Prop} : xse (xFind tbX8_fog 11) k = k (.iload_n 1) 1 0 0 [] := rfl
theorem tbX8_fog_12 {k : Instr → Nat → Nat → Nat → List Nat → Prop} : xse (xFind tbX8_fog 12) k = k (.putfield 192) 9 4 1 [] := rfl
theorem tbX8_fog_15 {k : Instr → Nat → Nat → Nat → List Nat → Prop} : xse (xFind tbX8_fog 15) k = k (.iload_n 2) 2 0 0 [] := rfl
theorem tbX8_fog_16 {k : Instr → Nat → Nat → Nat → List Nat → Prop} : xse (xFind tbX8_fog 16) k = k (.ireturn) 1 0 0 [] := rfl

def spX8_fog (aM : Nat → Nat) : xSp mS := (fun av M => (0, 0), fun av M K => ∃ (z : Int32), av = [.ref (aM 0), .int z] ∧ ((z = 0 ∨ z = 1) ∧ ((M.1 4 = 0 ∨ M.1 4 = 1) ∧ K (rI (oFog M z).1) (oFog M z).2)))
theorem spcX8_fog {av : List Value} {M : mS} {aM : Nat → Nat} : (spX8_fog aM).1 av M = (0, 0) := rfl
theorem spwX8_fog {M : mS} {aM : Nat → Nat} {K : xRes → mS → Prop} {z : Int32} : (spX8_fog aM).2 [.ref (aM 0), .int z] M K = ((z = 0 ∨ z = 1) ∧ ((M.1 4 = 0 ∨ M.1 4 = 1) ∧ K (rI (oFog M z).1) (oFog M z).2)) :=
  propext ⟨fun h => by
    simp only [spX8_fog] at h
    obtain ⟨_, e, h⟩ := h
    simp only [List.cons.injEq, Value.int.injEq, Value.ref.injEq, rf_eq, and_true, true_and] at e
    obtain rfl := e
    exact h, fun h => ⟨_, rfl, h⟩⟩

set_option maxHeartbeats 4000000 in
set_option maxRecDepth 20000 in
theorem semX8_fog (l : Launch) (W9 : xWd) (aM : Nat → Nat) (hi : mInj aM) : xSem l W9 (mI aM) yX8_fog wsX8_fog 0 0 (spX8_fog aM) := by
  refine xSem_of (call := fun _ => none) (thrf := fun _ => "") (mI_law hi) (by decide +kernel) rfl ckX8_fog usX8_fog xCallsOK_nil xThrOK_nil ?_ ?_
  · intro av M KF h
    obtain ⟨z, rfl, h⟩ := h
    exact ⟨by intro v hv; simp only [List.mem_cons, List.not_mem_nil, or_false] at hv; rcases hv with rfl | rfl <;> first | rfl | exact cat_rf, Nat.le_of_ble_eq_true rfl⟩
  intro av M KF h G hG
  obtain ⟨z, rfl, h⟩ := h
  rw [show (spX8_fog aM).1 _ M = _ from spcX8_fog] at hG
  try dsimp only at hG
  change G 0 [some (.ref (aM 0)), some (.int z), none] [] M 0 0
  obtain ⟨hz, h4, h⟩ := h
  refine xgo0 hG (fun fu hfu => ?_)
  clear hG
  simp only [ki_0, ↓mg_4, ↓mp_0, ↓mp_4, ↓vm_aload_n, ↓vm_getfield, ↓vm_iconst, ↓vm_iload_n, ↓vm_ireturn, ↓vm_istore_n, ↓vm_putfield, ↓tbX8_fog_0, ↓tbX8_fog_1, ↓tbX8_fog_2, ↓tbX8_fog_5, ↓tbX8_fog_6, ↓tbX8_fog_9, ↓tbX8_fog_10, ↓tbX8_fog_11, ↓tbX8_fog_12, ↓tbX8_fog_15, ↓tbX8_fog_16, hfu, xstep0, xJ1_hit, xJ1_go, xJ2_hit1, xJ2_hit2, xJ2_go, ↓xif_t, ↓xif_f, seval, ↓xca_eq, ↓xre_l, ↓xre_r, xmask_t, xmask_f, xmask_nil, ↓xst_eq, xX_eq, eI_eq, eMc_eq, eMs_eq, eF_eq, eThr_eq, ↓xS1_mk, ↓xSI_mk, ↓xSR_mk, ↓xLI_0, ↓xLI_s, ↓xLR_0, ↓xLR_s, vRef_ref, vRef_null, vRef_rf, cat_int, cat_ref, cat_null, cat_rf, rf_some, rf_none, rf_null, rf_eq, rf_ref, ref_rf, ref_null, ref_ref, xOk_0, xOk_1, xOk_2r, xOk_2n, xOk_2f, vOpt_rf, vOpt_ref, vOpt_null, List.set_cons_zero, List.set_cons_succ, List.take_succ_cons, List.take_zero, List.drop_succ_cons, List.drop_zero, List.reverse_cons, List.reverse_nil, List.nil_append, List.cons_append, List.append_nil, List.length_cons, List.length_nil, List.map_cons, List.map_nil, List.sum_cons, List.sum_nil, Option.toList_some, Option.toList_none, xRecv_mk, true_and, and_true, true_implies, Nat.reduceAdd, Nat.reduceLeDiff, Nat.zero_le, Nat.le_refl, Nat.add_zero, Nat.zero_add, reduceIte, not_true_eq_false, not_false_eq_true, false_implies, and_self, implies_true, eq_self, Nat.reduceEqDiff, List.cons.injEq, xsn_1, xsn_2, false_and, and_false, or_false, false_or, or_true, true_or, xsn_3, xsn_4, mAst_1, mAst_2, mSet_1, mSet_2, bi_0]
  try simp only [xif_e]
  unfold oFog at h
  repeat' (first | with_reducible apply And.intro | with_reducible intro _)
  all_goals grind [bi]

def tbX8_bank : List (Nat × xHint) := [(0, .iload_n 1, 1, 0, 0, []), (1, .iload_n 2, 2, 0, 0, []), (2, .invokestatic 196, 0, 2, 0, []), (5, .istore 4, 4, 0, 0, []), (7, .aload_n 0, 0, 0, 0, []), (8, .iload 4, 4, 0, 0, []), (10, .ifCond .ne 7, 17, 0, 0, []), (13, .iconst 1, 0, 0, 0, []), (14, .goto 35, 49, 0, 0, []), (17, .iload_n 3, 3, 0, 0, []), (18, .iconst 0, 0, 0, 0, []), (19, .iconst 5, 0, 0, 0, []), (20, .invokestatic 159, 1, 3, 0, []), (23, .ifCond .ne 7, 30, 0, 0, []), (26, .iconst 2, 0, 0, 0, []), (27, .goto 22, 49, 0, 0, []), (30, .aload_n 0, 0, 0, 0, []), (31, .getfield 50, 9, 18, 2, []), (34, .iconst 2, 0, 0, 0, []), (35, .iload_n 1, 1, 0, 0, []), (36, .imul, 0, 0, 0, []), (37, .iload_n 2, 2, 0, 0, []), (38, .iadd, 0, 0, 0, []), (39, .iaload, 18, 0, 0, []), (40, .iload_n 3, 3, 0, 0, []), (41, .if_icmp .le 7, 48, 0, 0, []), (44, .iconst 3, 0, 0, 0, []), (45, .goto 4, 49, 0, 0, []), (48, .iconst 0, 0, 0, 0, []), (49, .invokevirtual 183, 2, 2, 9, []), (52, .ifCond .ne 5, 57, 0, 0, []), (55, .iconst 0, 0, 0, 0, []), (56, .ireturn, 0, 0, 0, []), (57, .aload_n 0, 0, 0, 0, []), (58, .getfield 47, 9, 17, 2, []), (61, .iconst 2, 0, 0, 0, []), (62, .iload_n 1, 1, 0, 0, []), (63, .imul, 0, 0, 0, []), (64, .iload_n 2, 2, 0, 0, []), (65, .iadd, 0, 0, 0, []), (66, .iaload, 17, 0, 0, []), (67, .istore 5, 5, 0, 0, []), (69, .aload_n 0, 0, 0, 0, []), (70, .getfield 47, 9, 17, 2, []), (73, .iconst 2, 0, 0, 0, []), (74, .iload_n 1, 1, 0, 0, []), (75, .imul, 0, 0, 0, []), (76, .iload_n 2, 2, 0, 0, []), (77, .iadd, 0, 0, 0, []), (78, .iload_n 3, 3, 0, 0, []), (79, .iastore, 17, 0, 0, []), (80, .iload 5, 5, 0, 0, []), (82, .ireturn, 0, 0, 0, [])]
def clX8_bank : List (Instr × Nat × Nat × Nat) := [(.invokestatic 196, 0, 2, 0), (.invokestatic 159, 1, 3, 0), (.invokevirtual 183, 2, 2, 9)]
def thX8_bank : List (Nat × Nat) := []
theorem ckX8_bank : tbX8_bank.all (xRow RX8 cX8_bank wsX8_bank vwCl [9] clX8_bank thX8_bank 6 (yX8_bank.name == "<init>") (some .int)) = true := xRow_q 0xac05154f1d601c681b052f00b42a05362e601c681b052f00b42aac0305009ab700b6030400a7060700a41d2e601c681b053200b42a1600a70507009a9f00b808031d2300a70407009a04152a0436c400b81c1b 83 (by decide +kernel) (by decide +kernel)
theorem usX8_bank : xUse wsX8_bank vwCl [9] = true := xUse_g rfl (lw_good lwl_X8_bank lwl_X80 (by decide +kernel)) xUse_n
theorem tbX8_bank_0 {k : Instr → Nat → Nat → Nat → List Nat → Prop} : xse (xFind tbX8_bank 0) k = k (.iload_n 1) 1 0 0 [] := rfl
theorem tbX8_bank_1 {k : Instr → Nat → Nat → Nat → List Nat → Prop} : xse (xFind tbX8_bank 1) k = k (.iload_n 2) 2 0 0 [] := rfl
theorem tbX8_bank_2 {k : Instr → Nat → Nat → Nat → List Nat → Prop} : xse (xFind tbX8_bank 2) k = k (.invokestatic 196) 0 2 0 [] := rfl
theorem tbX8_bank_5 {k : Instr → Nat → Nat → Nat → List Nat → Prop} : xse (xFind tbX8_bank 5) k = k (.istore 4) 4 0 0 [] := rfl
theorem tbX8_bank_7 {k : Instr → Nat → Nat → Nat → List Nat → Prop} : xse (xFind tbX8_bank 7) k = k (.aload_n 0) 0 0 0 [] := rfl
theorem tbX8_bank_8 {k : Instr → Nat → Nat → Nat → List Nat → Prop} : xse (xFind tbX8_bank 8) k = k (.iload 4) 4 0 0 [] := rfl
theorem tbX8_bank_10 {k : Instr → Nat → Nat → Nat → List Nat → Prop} : xse (xFind tbX8_bank 10) k = k (.ifCond .ne 7) 17 0 0 [] := rfl
theorem tbX8_bank_13 {k : Instr → Nat → Nat → Nat → List Nat → Prop} : xse (xFind tbX8_bank 13) k = k (.iconst 1) 0 0 0 [] := rfl
theorem tbX8_bank_14 {k : Instr → Nat → Nat → Nat → List Nat → Prop} : xse (xFind tbX8_bank 14) k = k (.goto 35) 49 0 0 [] := rfl
theorem tbX8_bank_17 {k : Instr → Nat → Nat → Nat → List Nat → Prop} : xse (xFind tbX8_bank 17) k = k (.iload_n 3) 3 0 0 [] := rfl
theorem tbX8_bank_18 {k : Instr → Nat → Nat → Nat → List Nat → Prop} : xse (xFind tbX8_bank 18) k = k (.iconst 0) 0 0 0 [] := rfl
theorem tbX8_bank_19 {k : Instr → Nat → Nat → Nat → List Nat → Prop} : xse (xFind tbX8_bank 19) k = k (.iconst 5) 0 0 0 [] := rfl
theorem tbX8_bank_20 {k : Instr → Nat → Nat → Nat → List Nat → Prop} : xse (xFind tbX8_bank 20) k = k (.invokestatic 159) 1 3 0 [] := rfl
theorem tbX8_bank_23 {k : Instr → Nat → Nat → Nat → List Nat → Prop} : xse (xFind tbX8_bank 23) k = k (.ifCond .ne 7) 30 0 0 [] := rfl
theorem tbX8_bank_26 {k : Instr → Nat → Nat → Nat → List Nat → Prop} : xse (xFind tbX8_bank 26) k = k (.iconst 2) 0 0 0 [] := rfl
theorem tbX8_bank_27 {k : Instr → Nat → Nat → Nat → List Nat → Prop} : xse (xFind tbX8_bank 27) k = k (.goto 22) 49 0 0 [] := rfl
theorem tbX8_bank_30 {k : Instr → Nat → Nat → Nat → List Nat → Prop} : xse (xFind tbX8_bank 30) k = k (.aload_n 0) 0 0 0 [] := rfl
theorem tbX8_bank_31 {k : Instr → Nat → Nat → Nat → List Nat → Prop} : xse (xFind tbX8_bank 31) k = k (.getfield 50) 9 18 2 [] := rfl
theorem tbX8_bank_34 {k : Instr → Nat → Nat → Nat → List Nat → Prop} : xse (xFind tbX8_bank 34) k = k (.iconst 2) 0 0 0 [] := rfl
theorem tbX8_bank_35 {k : Instr → Nat → Nat → Nat → List Nat → Prop} : xse (xFind tbX8_bank 35) k = k (.iload_n 1) 1 0 0 [] := rfl
theorem tbX8_bank_36 {k : Instr → Nat → Nat → Nat → List Nat → Prop} : xse (xFind tbX8_bank 36) k = k (.imul) 0 0 0 [] := rfl
theorem tbX8_bank_37 {k : Instr → Nat → Nat → Nat → List Nat → Prop} : xse (xFind tbX8_bank 37) k = k (.iload_n 2) 2 0 0 [] := rfl
theorem tbX8_bank_38 {k : Instr → Nat → Nat → Nat → List Nat → Prop} : xse (xFind tbX8_bank 38) k = k (.iadd) 0 0 0 [] := rfl
theorem tbX8_bank_39 {k : Instr → Nat → Nat → Nat → List Nat → Prop} : xse (xFind tbX8_bank 39) k = k (.iaload) 18 0 0 [] := rfl
theorem tbX8_bank_40 {k : Instr → Nat → Nat → Nat → List Nat → Prop} : xse (xFind tbX8_bank 40) k = k (.iload_n 3) 3 0 0 [] := rfl
theorem tbX8_bank_41 {k : Instr → Nat → Nat → Nat → List Nat → Prop} : xse (xFind tbX8_bank 41) k = k (.if_icmp .le 7) 48 0 0 [] := rfl
theorem tbX8_bank_44 {k : Instr → Nat → Nat → Nat → List Nat → Prop} : xse (xFind tbX8_bank 44) k = k (.iconst 3) 0 0 0 [] := rfl
theorem tbX8_bank_45 {k : Instr → Nat → Nat → Nat → List Nat → Prop} : xse (xFind tbX8_bank 45) k = k (.goto 4) 49 0 0 [] := rfl
theorem tbX8_bank_48 {k : Instr → Nat → Nat → Nat → List Nat → Prop} : xse (xFind tbX8_bank 48) k = k (.iconst 0) 0 0 0 [] := rfl
theorem tbX8_bank_49 {k : Instr → Nat → Nat → Nat → List Nat → Prop} : xse (xFind tbX8_bank 49) k = k (.invokevirtual 183) 2 2 9 [] := rfl
theorem tbX8_bank_52 {k : Instr → Nat → Nat → Nat → List Nat → Prop} : xse (xFind tbX8_bank 52) k = k (.ifCond .ne 5) 57 0 0 [] := rfl
theorem tbX8_bank_55 {k : Instr → Nat → Nat → Nat → List Nat → Prop} : xse (xFind tbX8_bank 55) k = k (.iconst 0) 0 0 0 [] := rfl
theorem tbX8_bank_56 {k : Instr → Nat → Nat → Nat → List Nat → Prop} : xse (xFind tbX8_bank 56) k = k (.ireturn) 0 0 0 [] := rfl
theorem tbX8_bank_57 {k : Instr → Nat → Nat → Nat → List Nat → Prop} : xse (xFind tbX8_bank 57) k = k (.aload_n 0) 0 0 0 [] := rfl
theorem tbX8_bank_58 {k : Instr → Nat → Nat → Nat → List Nat → Prop} : xse (xFind tbX8_bank 58) k = k (.getfield 47) 9 17 2 [] := rfl
theorem tbX8_bank_61 {k : Instr → Nat → Nat → Nat → List Nat → Prop} : xse (xFind tbX8_bank 61) k = k (.iconst 2) 0 0 0 [] := rfl
theorem tbX8_bank_62 {k : Instr → Nat → Nat → Nat → List Nat → Prop} : xse (xFind tbX8_bank 62) k = k (.iload_n 1) 1 0 0 [] := rfl
theorem tbX8_bank_63 {k : Instr → Nat → Nat → Nat → List Nat → Prop} : xse (xFind tbX8_bank 63) k = k (.imul) 0 0 0 [] := rfl
theorem tbX8_bank_64 {k : Instr → Nat → Nat → Nat → List Nat → Prop} : xse (xFind tbX8_bank 64) k = k (.iload_n 2) 2 0 0 [] := rfl
theorem tbX8_bank_65 {k : Instr → Nat → Nat → Nat → List Nat → Prop} : xse (xFind tbX8_bank 65) k = k (.iadd) 0 0 0 [] := rfl
theorem tbX8_bank_66 {k : Instr → Nat → Nat → Nat → List Nat → Prop} : xse (xFind tbX8_bank 66) k = k (.iaload) 17 0 0 [] := rfl
theorem tbX8_bank_67 {k : Instr → Nat → Nat → Nat → List Nat → Prop} : xse (xFind tbX8_bank 67) k = k (.istore 5) 5 0 0 [] := rfl
theorem tbX8_bank_69 {k : Instr → Nat → Nat → Nat → List Nat → Prop} : xse (xFind tbX8_bank 69) k = k (.aload_n 0) 0 0 0 [] := rfl
theorem tbX8_bank_70 {k : Instr → Nat → Nat → Nat → List Nat → Prop} : xse (xFind tbX8_bank 70) k = k (.getfield 47) 9 17 2 [] := rfl
theorem tbX8_bank_73 {k : Instr → Nat → Nat → Nat → List Nat → Prop} : xse (xFind tbX8_bank 73) k = k (.iconst 2) 0 0 0 [] := rfl
theorem tbX8_bank_74 {k : Instr → Nat → Nat → Nat → List Nat → Prop} : xse (xFind tbX8_bank 74) k = k (.iload_n 1) 1 0 0 [] := rfl
theorem tbX8_bank_75 {k : Instr → Nat → Nat → Nat → List Nat → Prop} : xse (xFind tbX8_bank 75) k = k (.imul) 0 0 0 [] := rfl
theorem tbX8_bank_76 {k : Instr → Nat → Nat → Nat → List Nat → Prop} : xse (xFind tbX8_bank 76) k = k (.iload_n 2) 2 0 0 [] := rfl
theorem tbX8_bank_77 {k : Instr → Nat → Nat → Nat → List Nat → Prop} : xse (xFind tbX8_bank 77) k = k (.iadd) 0 0 0 [] := rfl
theorem tbX8_bank_78 {k : Instr → Nat → Nat → Nat → List Nat → Prop} : xse (xFind tbX8_bank 78) k = k (.iload_n 3) 3 0 0 [] := rfl
theorem tbX8_bank_79 {k : Instr → Nat → Nat → Nat → List Nat → Prop} : xse (xFind tbX8_bank 79) k = k (.iastore) 17 0 0 [] := rfl
theorem tbX8_bank_80 {k : Instr → Nat → Nat → Nat → List Nat → Prop} : xse (xFind tbX8_bank 80) k = k (.iload 5) 5 0 0 [] := rfl
theorem tbX8_bank_82 {k : Instr → Nat → Nat → Nat → List Nat → Prop} : xse (xFind tbX8_bank 82) k = k (.ireturn) 0 0 0 [] := rfl

def spX8_bank (aM : Nat → Nat) : xSp mS := (fun av M => (0, 0), fun av M K => ∃ (p : Int32) (t : Int32) (m : Int32), av = [.ref (aM 0), .int p, .int t, .int m] ∧ (K (rI (oBank M p t m).1) (oBank M p t m).2))
theorem spcX8_bank {av : List Value} {M : mS} {aM : Nat → Nat} : (spX8_bank aM).1 av M = (0, 0) := rfl
theorem spwX8_bank {M : mS} {aM : Nat → Nat} {K : xRes → mS → Prop} {p : Int32} {t : Int32} {m : Int32} : (spX8_bank aM).2 [.ref (aM 0), .int p, .int t, .int m] M K = (K (rI (oBank M p t m).1) (oBank M p t m).2) :=
  propext ⟨fun h => by
    simp only [spX8_bank] at h
    obtain ⟨_, _, _, e, h⟩ := h
    simp only [List.cons.injEq, Value.int.injEq, Value.ref.injEq, rf_eq, and_true, true_and] at e
    obtain ⟨rfl, rfl, rfl⟩ := e
    exact h, fun h => ⟨_, _, _, rfl, h⟩⟩

def callX8_bank (aM : Nat → Nat) : Nat → Option (xSp mS) := fun n => match n with | 0 => some (spX8_isTier aM) | 1 => some (spX8_in aM) | 2 => some (spX8_holds aM) | _ => none

theorem callX8_bank_0 {aM : Nat → Nat} {k : xSp mS → Prop} : xcs (callX8_bank aM 0) k = k (spX8_isTier aM) := rfl

theorem callX8_bank_1 {aM : Nat → Nat} {k : xSp mS → Prop} : xcs (callX8_bank aM 1) k = k (spX8_in aM) := rfl

theorem callX8_bank_2 {aM : Nat → Nat} {k : xSp mS → Prop} : xcs (callX8_bank aM 2) k = k (spX8_holds aM) := rfl

theorem crX8_bank (l : Launch) (W9 : xWd) (aM : Nat → Nat) (hi : mInj aM) : xCallsOK l W9 (mI aM) (callX8_bank aM) clX8_bank RX8 wsX8_bank 3 63 6 := by
  intro E A p e R s m args below meth c hI hF hL X
  exact List.forall_mem_cons.mpr ⟨⟨_, rfl, xCR_S X (by rw [hI]; exact (semX8_isTier l W9 aM hi)) gX8_bank_X8_isTier rfl (by decide +kernel) (by rw [hF, hL]; decide)⟩,
    List.forall_mem_cons.mpr ⟨⟨_, rfl, xCR_S X (by rw [hI]; exact (semX8_in l W9 aM hi)) gX8_bank_X8_in rfl (by decide +kernel) (by rw [hF, hL]; decide)⟩,
    List.forall_mem_cons.mpr ⟨⟨_, rfl, xCR_V X (by rw [hI]; exact (semX8_holds l W9 aM hi)) gX8_bank_X8_holds rfl rfl (by decide +kernel) (by rw [hF, hL]; decide)⟩,
    fun _ h => nomatch h⟩⟩⟩

set_option maxHeartbeats 4000000 in
set_option maxRecDepth 20000 in
theorem semX8_bank (l : Launch) (W9 : xWd) (aM : Nat → Nat) (hi : mInj aM) : xSem l W9 (mI aM) yX8_bank wsX8_bank 3 63 (spX8_bank aM) := by
  refine xSem_of (call := callX8_bank aM) (thrf := fun _ => "") (mI_law hi) (by decide +kernel) rfl ckX8_bank usX8_bank (crX8_bank l W9 aM hi) xThrOK_nil ?_ ?_
  · intro av M KF h
    obtain ⟨p, t, m, rfl, h⟩ := h
    exact ⟨by intro v hv; simp only [List.mem_cons, List.not_mem_nil, or_false] at hv; rcases hv with rfl | rfl | rfl | rfl <;> first | rfl | exact cat_rf, Nat.le_of_ble_eq_true rfl⟩
  intro av M KF h G hG
  obtain ⟨p, t, m, rfl, h⟩ := h
  rw [show (spX8_bank aM).1 _ M = _ from spcX8_bank] at hG
  try dsimp only at hG
  change G 0 [some (.ref (aM 0)), some (.int p), some (.int t), some (.int m), none, none] [] M 0 0
  refine xgo0 hG (fun fu hfu => ?_)
  clear hG
  simp only [↓callX8_bank_0, ↓callX8_bank_1, ↓callX8_bank_2, ki_0, ki_1, ki_2, ki_3, ki_5, ↓ma_17, ↓ma_18, ↓mg_17, ↓mg_18, misa, ↓ms_17, ↓vm_aload_n, ↓vm_getfield, ↓vm_goto, ↓vm_iadd, ↓vm_iaload, ↓vm_iastore, ↓vm_iconst, ↓vm_ifCond_ne, ↓vm_if_icmp_le, ↓vm_iload, ↓vm_iload_n, ↓vm_imul, ↓vm_invokestatic, ↓vm_invokevirtual, ↓vm_ireturn, ↓vm_istore, ↓xc_2, ↓xc_3, ↓tbX8_bank_0, ↓tbX8_bank_1, ↓tbX8_bank_2, ↓tbX8_bank_5, ↓tbX8_bank_7, ↓tbX8_bank_8, ↓tbX8_bank_10, ↓tbX8_bank_13, ↓tbX8_bank_14, ↓tbX8_bank_17, ↓tbX8_bank_18, ↓tbX8_bank_19, ↓tbX8_bank_20, ↓tbX8_bank_23, ↓tbX8_bank_26, ↓tbX8_bank_27, ↓tbX8_bank_30, ↓tbX8_bank_31, ↓tbX8_bank_34, ↓tbX8_bank_35, ↓tbX8_bank_36, ↓tbX8_bank_37, ↓tbX8_bank_38, ↓tbX8_bank_39, ↓tbX8_bank_40, ↓tbX8_bank_41, ↓tbX8_bank_44, ↓tbX8_bank_45, ↓tbX8_bank_48, ↓tbX8_bank_49, ↓tbX8_bank_52, ↓tbX8_bank_55, ↓tbX8_bank_56, ↓tbX8_bank_57, ↓tbX8_bank_58, ↓tbX8_bank_61, ↓tbX8_bank_62, ↓tbX8_bank_63, ↓tbX8_bank_64, ↓tbX8_bank_65, ↓tbX8_bank_66, ↓tbX8_bank_67, ↓tbX8_bank_69, ↓tbX8_bank_70, ↓tbX8_bank_73, ↓tbX8_bank_74, ↓tbX8_bank_75, ↓tbX8_bank_76, ↓tbX8_bank_77, ↓tbX8_bank_78, ↓tbX8_bank_79, ↓tbX8_bank_80, ↓tbX8_bank_82, hfu, xstep0, xJ1_hit, xJ1_go, xJ2_hit1, xJ2_hit2, xJ2_go, ↓xif_t, ↓xif_f, seval, ↓xca_eq, ↓xre_l, ↓xre_r, xmask_t, xmask_f, xmask_nil, ↓xst_eq, xX_eq, eI_eq, eMc_eq, eMs_eq, eF_eq, eThr_eq, ↓xS1_mk, ↓xSI_mk, ↓xSR_mk, ↓xLI_0, ↓xLI_s, ↓xLR_0, ↓xLR_s, vRef_ref, vRef_null, vRef_rf, cat_int, cat_ref, cat_null, cat_rf, rf_some, rf_none, rf_null, rf_eq, rf_ref, ref_rf, ref_null, ref_ref, xOk_0, xOk_1, xOk_2r, xOk_2n, xOk_2f, vOpt_rf, vOpt_ref, vOpt_null, List.set_cons_zero, List.set_cons_succ, List.take_succ_cons, List.take_zero, List.drop_succ_cons, List.drop_zero, List.reverse_cons, List.reverse_nil, List.nil_append, List.cons_append, List.append_nil, List.length_cons, List.length_nil, List.map_cons, List.map_nil, List.sum_cons, List.sum_nil, Option.toList_some, Option.toList_none, xRecv_mk, true_and, and_true, true_implies, Nat.reduceAdd, Nat.reduceLeDiff, Nat.zero_le, Nat.le_refl, Nat.add_zero, Nat.zero_add, reduceIte, not_true_eq_false, not_false_eq_true, false_implies, and_self, implies_true, eq_self, Nat.reduceEqDiff, List.cons.injEq, xsn_1, xsn_2, false_and, and_false, or_false, false_or, or_true, true_or, xsn_3, xsn_4, mAst_1, mAst_2, mSet_1, mSet_2, bi_0, ↓spwX8_isTier, spcX8_isTier, ↓spwX8_in, spcX8_in, ↓spwX8_holds, spcX8_holds]
  try simp only [xif_e]
  unfold oBank at h
  have h6 := @in_tier p t
  repeat' (first | with_reducible apply And.intro | with_reducible intro _)
  all_goals grind [bi]

def tbX8_ties : List (Nat × xHint) := [(0, .aload_n 0, 0, 0, 0, []), (1, .getfield 74, 9, 27, 2, []), (4, .iload_n 1, 1, 0, 0, []), (5, .iload_n 2, 2, 0, 0, []), (6, .iastore, 27, 0, 0, []), (7, .aload_n 0, 0, 0, 0, []), (8, .getfield 77, 9, 28, 2, []), (11, .iload_n 1, 1, 0, 0, []), (12, .iconst (-1), 0, 0, 0, []), (13, .iastore, 28, 0, 0, []), (14, .aload_n 0, 0, 0, 0, []), (15, .getfield 53, 9, 19, 2, []), (18, .iconst 5, 0, 0, 0, []), (19, .iload_n 2, 2, 0, 0, []), (20, .imul, 0, 0, 0, []), (21, .aload_n 0, 0, 0, 0, []), (22, .getfield 50, 9, 18, 2, []), (25, .iload_n 2, 2, 0, 0, []), (26, .iaload, 18, 0, 0, []), (27, .iadd, 0, 0, 0, []), (28, .iload_n 1, 1, 0, 0, []), (29, .iastore, 19, 0, 0, []), (30, .aload_n 0, 0, 0, 0, []), (31, .getfield 50, 9, 18, 2, []), (34, .iload_n 2, 2, 0, 0, []), (35, .dup2, 0, 0, 0, []), (36, .iaload, 18, 0, 0, []), (37, .iconst 1, 0, 0, 0, []), (38, .iadd, 0, 0, 0, []), (39, .iastore, 18, 0, 0, []), (40, .return_, 0, 0, 0, [])]
def clX8_ties : List (Instr × Nat × Nat × Nat) := []
def thX8_ties : List (Nat × Nat) := []
theorem ckX8_ties : tbX8_ties.all (xRow RX8 cX8_ties wsX8_ties vwCl [9] clX8_ties thX8_ties 3 (yX8_ties.name == "<init>") none) = true := xRow_q 0xb14f60042e5c1c3200b42a4f1b602e1c3200b42a681c083500b42a4f021b4d00b42a4f1c1b4a00b42a 41 (by decide +kernel) (by decide +kernel)
theorem usX8_ties : xUse wsX8_ties vwCl [9] = true := xUse_g rfl (lw_good lwl_X8_ties lwl_X80 (by decide +kernel)) xUse_n
theorem tbX8_ties_0 {k : Instr → Nat → Nat → Nat → List Nat → Prop} : xse (xFind tbX8_ties 0) k = k (.aload_n 0) 0 0 0 [] := rfl
theorem tbX8_ties_1 {k : Instr → Nat → Nat → Nat → List Nat → Prop} : xse (xFind tbX8_ties 1) k = k (.getfield 74) 9 27 2 [] := rfl
theorem tbX8_ties_4 {k : Instr → Nat → Nat → Nat → List Nat → Prop} : xse (xFind tbX8_ties 4) k = k (.iload_n 1) 1 0 0 [] := rfl
theorem tbX8_ties_5 {k : Instr → Nat → Nat → Nat → List Nat → Prop} : xse (xFind tbX8_ties 5) k = k (.iload_n 2) 2 0 0 [] := rfl
theorem tbX8_ties_6 {k : Instr → Nat → Nat → Nat → List Nat → Prop} : xse (xFind tbX8_ties 6) k = k (.iastore) 27 0 0 [] := rfl
theorem tbX8_ties_7 {k : Instr → Nat → Nat → Nat → List Nat → Prop} : xse (xFind tbX8_ties 7) k = k (.aload_n 0) 0 0 0 [] := rfl
theorem tbX8_ties_8 {k : Instr → Nat → Nat → Nat → List Nat → Prop} : xse (xFind tbX8_ties 8) k = k (.getfield 77) 9 28 2 [] := rfl
theorem tbX8_ties_11 {k : Instr → Nat → Nat → Nat → List Nat → Prop} : xse (xFind tbX8_ties 11) k = k (.iload_n 1) 1 0 0 [] := rfl
theorem tbX8_ties_12 {k : Instr → Nat → Nat → Nat → List Nat → Prop} : xse (xFind tbX8_ties 12) k = k (.iconst (-1)) 0 0 0 [] := rfl
theorem tbX8_ties_13 {k : Instr → Nat → Nat → Nat → List Nat → Prop} : xse (xFind tbX8_ties 13) k = k (.iastore) 28 0 0 [] := rfl
theorem tbX8_ties_14 {k : Instr → Nat → Nat → Nat → List Nat → Prop} : xse (xFind tbX8_ties 14) k = k (.aload_n 0) 0 0 0 [] := rfl
theorem tbX8_ties_15 {k : Instr → Nat → Nat → Nat → List Nat → Prop} : xse (xFind tbX8_ties 15) k = k (.getfield 53) 9 19 2 [] := rfl
theorem tbX8_ties_18 {k : Instr → Nat → Nat → Nat → List Nat → Prop} : xse (xFind tbX8_ties 18) k = k (.iconst 5) 0 0 0 [] := rfl
theorem tbX8_ties_19 {k : Instr → Nat → Nat → Nat → List Nat → Prop} : xse (xFind tbX8_ties 19) k = k (.iload_n 2) 2 0 0 [] := rfl
theorem tbX8_ties_20 {k : Instr → Nat → Nat → Nat → List Nat → Prop} : xse (xFind tbX8_ties 20) k = k (.imul) 0 0 0 [] := rfl
theorem tbX8_ties_21 {k : Instr → Nat → Nat → Nat → List Nat → Prop} : xse (xFind tbX8_ties 21) k = k (.aload_n 0) 0 0 0 [] := rfl
theorem tbX8_ties_22 {k : Instr → Nat → Nat → Nat → List Nat → Prop} : xse (xFind tbX8_ties 22) k = k (.getfield 50) 9 18 2 [] := rfl
theorem tbX8_ties_25 {k : Instr → Nat → Nat → Nat → List Nat → Prop} : xse (xFind tbX8_ties 25) k = k (.iload_n 2) 2 0 0 [] := rfl
theorem tbX8_ties_26 {k : Instr → Nat → Nat → Nat → List Nat → Prop} : xse (xFind tbX8_ties 26) k = k (.iaload) 18 0 0 [] := rfl
theorem tbX8_ties_27 {k : Instr → Nat → Nat → Nat → List Nat → Prop} : xse (xFind tbX8_ties 27) k = k (.iadd) 0 0 0 [] := rfl
theorem tbX8_ties_28 {k : Instr → Nat → Nat → Nat → List Nat → Prop} : xse (xFind tbX8_ties 28) k = k (.iload_n 1) 1 0 0 [] := rfl
theorem tbX8_ties_29 {k : Instr → Nat → Nat → Nat → List Nat → Prop} : xse (xFind tbX8_ties 29) k = k (.iastore) 19 0 0 [] := rfl
theorem tbX8_ties_30 {k : Instr → Nat → Nat → Nat → List Nat → Prop} : xse (xFind tbX8_ties 30) k = k (.aload_n 0) 0 0 0 [] := rfl
theorem tbX8_ties_31 {k : Instr → Nat → Nat → Nat → List Nat → Prop} : xse (xFind tbX8_ties 31) k = k (.getfield 50) 9 18 2 [] := rfl
theorem tbX8_ties_34 {k : Instr → Nat → Nat → Nat → List Nat → Prop} : xse (xFind tbX8_ties 34) k = k (.iload_n 2) 2 0 0 [] := rfl
theorem tbX8_ties_35 {k : Instr → Nat → Nat → Nat → List Nat → Prop} : xse (xFind tbX8_ties 35) k = k (.dup2) 0 0 0 [] := rfl
theorem tbX8_ties_36 {k : Instr → Nat → Nat → Nat → List Nat → Prop} : xse (xFind tbX8_ties 36) k = k (.iaload) 18 0 0 [] := rfl
theorem tbX8_ties_37 {k : Instr → Nat → Nat → Nat → List Nat → Prop} : xse (xFind tbX8_ties 37) k = k (.iconst 1) 0 0 0 [] := rfl
theorem tbX8_ties_38 {k : Instr → Nat → Nat → Nat → List Nat → Prop} : xse (xFind tbX8_ties 38) k = k (.iadd) 0 0 0 [] := rfl
theorem tbX8_ties_39 {k : Instr → Nat → Nat → Nat → List Nat → Prop} : xse (xFind tbX8_ties 39) k = k (.iastore) 18 0 0 [] := rfl
theorem tbX8_ties_40 {k : Instr → Nat → Nat → Nat → List Nat → Prop} : xse (xFind tbX8_ties 40) k = k (.return_) 0 0 0 [] := rfl

def spX8_ties (aM : Nat → Nat) : xSp mS := (fun av M => (0, 0), fun av M K => ∃ (b : Int32) (t : Int32), av = [.ref (aM 0), .int b, .int t] ∧ (vp_in b 24 ∧ vp_in t 16 ∧ vp_in (5 * t + M.2 18 t.toNatClampNeg) 80 ∧ K rV (mTies M b t)))
theorem spcX8_ties {av : List Value} {M : mS} {aM : Nat → Nat} : (spX8_ties aM).1 av M = (0, 0) := rfl
theorem spwX8_ties {M : mS} {aM : Nat → Nat} {K : xRes → mS → Prop} {b : Int32} {t : Int32} : (spX8_ties aM).2 [.ref (aM 0), .int b, .int t] M K = (vp_in b 24 ∧ vp_in t 16 ∧ vp_in (5 * t + M.2 18 t.toNatClampNeg) 80 ∧ K rV (mTies M b t)) :=
  propext ⟨fun h => by
    simp only [spX8_ties] at h
    obtain ⟨_, _, e, h⟩ := h
    simp only [List.cons.injEq, Value.int.injEq, Value.ref.injEq, rf_eq, and_true, true_and] at e
    obtain ⟨rfl, rfl⟩ := e
    exact h, fun h => ⟨_, _, rfl, h⟩⟩

set_option maxHeartbeats 4000000 in
set_option maxRecDepth 20000 in
theorem semX8_ties (l : Launch) (W9 : xWd) (aM : Nat → Nat) (hi : mInj aM) : xSem l W9 (mI aM) yX8_ties wsX8_ties 0 0 (spX8_ties aM) := by
  refine xSem_of (call := fun _ => none) (thrf := fun _ => "") (mI_law hi) (by decide +kernel) rfl ckX8_ties usX8_ties xCallsOK_nil xThrOK_nil ?_ ?_
  · intro av M KF h
    obtain ⟨b, t, rfl, h⟩ := h
    exact ⟨by intro v hv; simp only [List.mem_cons, List.not_mem_nil, or_false] at hv; rcases hv with rfl | rfl | rfl <;> first | rfl | exact cat_rf, Nat.le_of_ble_eq_true rfl⟩
  intro av M KF h G hG
  obtain ⟨b, t, rfl, h⟩ := h
  rw [show (spX8_ties aM).1 _ M = _ from spcX8_ties] at hG
  try dsimp only at hG
  change G 0 [some (.ref (aM 0)), some (.int b), some (.int t)] [] M 0 0
  obtain ⟨h1, h2, h3, h⟩ := h
  refine xgo0 hG (fun fu hfu => ?_)
  clear hG
  simp only [ki_1, ki_5, ki_m1, ↓ma_18, ↓mg_18, ↓mg_19, ↓mg_27, ↓mg_28, ↓ms_18, ↓ms_19, ↓ms_27, ↓ms_28, ↓vm_aload_n, ↓vm_dup2, ↓vm_getfield, ↓vm_iadd, ↓vm_iaload, ↓vm_iastore, ↓vm_iconst, ↓vm_iload_n, ↓vm_imul, ↓vm_return_, ↓tbX8_ties_0, ↓tbX8_ties_1, ↓tbX8_ties_4, ↓tbX8_ties_5, ↓tbX8_ties_6, ↓tbX8_ties_7, ↓tbX8_ties_8, ↓tbX8_ties_11, ↓tbX8_ties_12, ↓tbX8_ties_13, ↓tbX8_ties_14, ↓tbX8_ties_15, ↓tbX8_ties_18, ↓tbX8_ties_19, ↓tbX8_ties_20, ↓tbX8_ties_21, ↓tbX8_ties_22, ↓tbX8_ties_25, ↓tbX8_ties_26, ↓tbX8_ties_27, ↓tbX8_ties_28, ↓tbX8_ties_29, ↓tbX8_ties_30, ↓tbX8_ties_31, ↓tbX8_ties_34, ↓tbX8_ties_35, ↓tbX8_ties_36, ↓tbX8_ties_37, ↓tbX8_ties_38, ↓tbX8_ties_39, ↓tbX8_ties_40, hfu, xstep0, xJ1_hit, xJ1_go, xJ2_hit1, xJ2_hit2, xJ2_go, ↓xif_t, ↓xif_f, seval, ↓xca_eq, ↓xre_l, ↓xre_r, xmask_t, xmask_f, xmask_nil, ↓xst_eq, xX_eq, eI_eq, eMc_eq, eMs_eq, eF_eq, eThr_eq, ↓xS1_mk, ↓xSI_mk, ↓xSR_mk, ↓xLI_0, ↓xLI_s, ↓xLR_0, ↓xLR_s, vRef_ref, vRef_null, vRef_rf, cat_int, cat_ref, cat_null, cat_rf, rf_some, rf_none, rf_null, rf_eq, rf_ref, ref_rf, ref_null, ref_ref, xOk_0, xOk_1, xOk_2r, xOk_2n, xOk_2f, vOpt_rf, vOpt_ref, vOpt_null, List.set_cons_zero, List.set_cons_succ, List.take_succ_cons, List.take_zero, List.drop_succ_cons, List.drop_zero, List.reverse_cons, List.reverse_nil, List.nil_append, List.cons_append, List.append_nil, List.length_cons, List.length_nil, List.map_cons, List.map_nil, List.sum_cons, List.sum_nil, Option.toList_some, Option.toList_none, xRecv_mk, true_and, and_true, true_implies, Nat.reduceAdd, Nat.reduceLeDiff, Nat.zero_le, Nat.le_refl, Nat.add_zero, Nat.zero_add, reduceIte, not_true_eq_false, not_false_eq_true, false_implies, and_self, implies_true, eq_self, Nat.reduceEqDiff, List.cons.injEq, xsn_1, xsn_2, false_and, and_false, or_false, false_or, or_true, true_or, xsn_3, xsn_4, mAst_1, mAst_2, mSet_1, mSet_2, bi_0, h1, h2, h3]
  try simp only [xif_e]
  unfold mTies at h
  repeat' (first | with_reducible apply And.intro | with_reducible intro _)
  all_goals grind [bi]

def tbX8_barge : List (Nat × xHint) := [(0, .iload_n 2, 2, 0, 0, []), (1, .iload_n 3, 3, 0, 0, []), (2, .invokestatic 196, 0, 2, 0, []), (5, .istore 4, 4, 0, 0, []), (7, .aload_n 0, 0, 0, 0, []), (8, .iload 4, 4, 0, 0, []), (10, .ifCond .ne 7, 17, 0, 0, []), (13, .iconst 1, 0, 0, 0, []), (14, .goto 42, 56, 0, 0, []), (17, .iload_n 1, 1, 0, 0, []), (18, .iconst 0, 0, 0, 0, []), (19, .iconst 2, 0, 0, 0, []), (20, .invokestatic 159, 1, 3, 0, []), (23, .ifCond .ne 7, 30, 0, 0, []), (26, .iconst 2, 0, 0, 0, []), (27, .goto 29, 56, 0, 0, []), (30, .aload_n 0, 0, 0, 0, []), (31, .getfield 167, 9, 22, 0, []), (34, .bipush 24, 0, 0, 0, []), (36, .if_icmp .eq 15, 51, 0, 0, []), (39, .aload_n 0, 0, 0, 0, []), (40, .iconst 2, 0, 0, 0, []), (41, .iload_n 2, 2, 0, 0, []), (42, .imul, 0, 0, 0, []), (43, .iload_n 3, 3, 0, 0, []), (44, .iadd, 0, 0, 0, []), (45, .invokevirtual 200, 2, 2, 9, []), (48, .ifCond .ne 7, 55, 0, 0, []), (51, .iconst 3, 0, 0, 0, []), (52, .goto 4, 56, 0, 0, []), (55, .iconst 0, 0, 0, 0, []), (56, .invokevirtual 183, 3, 2, 9, []), (59, .ifCond .ne 5, 64, 0, 0, []), (62, .iconst 0, 0, 0, 0, []), (63, .ireturn, 0, 0, 0, []), (64, .aload_n 0, 0, 0, 0, []), (65, .getfield 62, 9, 23, 2, []), (68, .aload_n 0, 0, 0, 0, []), (69, .getfield 167, 9, 22, 0, []), (72, .iload_n 1, 1, 0, 0, []), (73, .iastore, 23, 0, 0, []), (74, .aload_n 0, 0, 0, 0, []), (75, .getfield 65, 9, 24, 2, []), (78, .aload_n 0, 0, 0, 0, []), (79, .getfield 167, 9, 22, 0, []), (82, .iconst 0, 0, 0, 0, []), (83, .iastore, 24, 0, 0, []), (84, .aload_n 0, 0, 0, 0, []), (85, .getfield 68, 9, 25, 2, []), (88, .aload_n 0, 0, 0, 0, []), (89, .getfield 167, 9, 22, 0, []), (92, .iconst (-1), 0, 0, 0, []), (93, .iastore, 25, 0, 0, []), (94, .aload_n 0, 0, 0, 0, []), (95, .getfield 71, 9, 26, 2, []), (98, .aload_n 0, 0, 0, 0, []), (99, .getfield 167, 9, 22, 0, []), (102, .iconst (-1), 0, 0, 0, []), (103, .iastore, 26, 0, 0, []), (104, .aload_n 0, 0, 0, 0, []), (105, .aload_n 0, 0, 0, 0, []), (106, .getfield 167, 9, 22, 0, []), (109, .iconst 2, 0, 0, 0, []), (110, .iload_n 2, 2, 0, 0, []), (111, .imul, 0, 0, 0, []), (112, .iload_n 3, 3, 0, 0, []), (113, .iadd, 0, 0, 0, []), (114, .invokevirtual 203, 4, 3, 9, []), (117, .aload_n 0, 0, 0, 0, []), (118, .dup, 0, 0, 0, []), (119, .getfield 167, 9, 22, 0, []), (122, .iconst 1, 0, 0, 0, []), (123, .iadd, 0, 0, 0, []), (124, .putfield 167, 9, 22, 0, []), (127, .aload_n 0, 0, 0, 0, []), (128, .getfield 167, 9, 22, 0, []), (131, .iconst 1, 0, 0, 0, []), (132, .isub, 0, 0, 0, []), (133, .ireturn, 0, 0, 0, [])]
def clX8_barge : List (Instr × Nat × Nat × Nat) := [(.invokestatic 196, 0, 2, 0), (.invokestatic 159, 1, 3, 0), (.invokevirtual 200, 2, 2, 9), (.invokevirtual 183, 3, 2, 9), (.invokevirtual 203, 4, 3, 9)]
def thX8_barge : List (Nat × Nat) := []
theorem ckX8_barge : tbX8_barge.all (xRow RX8 cX8_barge wsX8_barge vwCl [9] clX8_barge thX8_barge 5 (yX8_barge.name == "<init>") (some .int)) = true := xRow_q 0xac6404a700b42aa700b56004a700b4592acb00b6601d681c05a700b42a2a4f02a700b42a4700b42a4f02a700b42a4400b42a4f03a700b42a4100b42a4f1ba700b42a3e00b42aac0305009ab700b6030400a70607009ac800b6601d681c052a0f009f1810a700b42a1d00a70507009a9f00b805031b2a00a70407009a04152a0436c400b81d1c 134 (by decide +kernel) (by decide +kernel)
theorem usX8_barge : xUse wsX8_barge vwCl [9] = true := xUse_g rfl (lw_good lwl_X8_barge lwl_X80 (by decide +kernel)) xUse_n
theorem tbX8_barge_0 {k : Instr → Nat → Nat → Nat → List Nat → Prop} : xse (xFind tbX8_barge 0) k = k (.iload_n 2) 2 0 0 [] := rfl
theorem tbX8_barge_1 {k : Instr → Nat → Nat → Nat → List Nat → Prop} : xse (xFind tbX8_barge 1) k = k (.iload_n 3) 3 0 0 [] := rfl
theorem tbX8_barge_2 {k : Instr → Nat → Nat → Nat → List Nat → Prop} : xse (xFind tbX8_barge 2) k = k (.invokestatic 196) 0 2 0 [] := rfl
theorem tbX8_barge_5 {k : Instr → Nat → Nat → Nat → List Nat → Prop} : xse (xFind tbX8_barge 5) k = k (.istore 4) 4 0 0 [] := rfl
theorem tbX8_barge_7 {k : Instr → Nat → Nat → Nat → List Nat → Prop} : xse (xFind tbX8_barge 7) k = k (.aload_n 0) 0 0 0 [] := rfl
theorem tbX8_barge_8 {k : Instr → Nat → Nat → Nat → List Nat → Prop} : xse (xFind tbX8_barge 8) k = k (.iload 4) 4 0 0 [] := rfl
theorem tbX8_barge_10 {k : Instr → Nat → Nat → Nat → List Nat → Prop} : xse (xFind tbX8_barge 10) k = k (.ifCond .ne 7) 17 0 0 [] := rfl
theorem tbX8_barge_13 {k : Instr → Nat → Nat → Nat → List Nat → Prop} : xse (xFind tbX8_barge 13) k = k (.iconst 1) 0 0 0 [] := rfl
theorem tbX8_barge_14 {k : Instr → Nat → Nat → Nat → List Nat → Prop} : xse (xFind tbX8_barge 14) k = k (.goto 42) 56 0 0 [] := rfl
theorem tbX8_barge_17 {k : Instr → Nat → Nat → Nat → List Nat → Prop} : xse (xFind tbX8_barge 17) k = k (.iload_n 1) 1 0 0 [] := rfl
theorem tbX8_barge_18 {k : Instr → Nat → Nat → Nat → List Nat → Prop} : xse (xFind tbX8_barge 18) k = k (.iconst 0) 0 0 0 [] := rfl
theorem tbX8_barge_19 {k : Instr → Nat → Nat → Nat → List Nat → Prop} : xse (xFind tbX8_barge 19) k = k (.iconst 2) 0 0 0 [] := rfl
theorem tbX8_barge_20 {k : Instr → Nat → Nat → Nat → List Nat → Prop} : xse (xFind tbX8_barge 20) k = k (.invokestatic 159) 1 3 0 [] := rfl
theorem tbX8_barge_23 {k : Instr → Nat → Nat → Nat → List Nat → Prop} : xse (xFind tbX8_barge 23) k = k (.ifCond .ne 7) 30 0 0 [] := rfl
theorem tbX8_barge_26 {k : Instr → Nat → Nat → Nat → List Nat → Prop} : xse (xFind tbX8_barge 26) k = k (.iconst 2) 0 0 0 [] := rfl
theorem tbX8_barge_27 {k : Instr → Nat → Nat → Nat → List Nat → Prop} : xse (xFind tbX8_barge 27) k = k (.goto 29) 56 0 0 [] := rfl
theorem tbX8_barge_30 {k : Instr → Nat → Nat → Nat → List Nat → Prop} : xse (xFind tbX8_barge 30) k = k (.aload_n 0) 0 0 0 [] := rfl
theorem tbX8_barge_31 {k : Instr → Nat → Nat → Nat → List Nat → Prop} : xse (xFind tbX8_barge 31) k = k (.getfield 167) 9 22 0 [] := rfl
theorem tbX8_barge_34 {k : Instr → Nat → Nat → Nat → List Nat → Prop} : xse (xFind tbX8_barge 34) k = k (.bipush 24) 0 0 0 [] := rfl
theorem tbX8_barge_36 {k : Instr → Nat → Nat → Nat → List Nat → Prop} : xse (xFind tbX8_barge 36) k = k (.if_icmp .eq 15) 51 0 0 [] := rfl
theorem tbX8_barge_39 {k : Instr → Nat → Nat → Nat → List Nat → Prop} : xse (xFind tbX8_barge 39) k = k (.aload_n 0) 0 0 0 [] := rfl
theorem tbX8_barge_40 {k : Instr → Nat → Nat → Nat → List Nat → Prop} : xse (xFind tbX8_barge 40) k = k (.iconst 2) 0 0 0 [] := rfl
theorem tbX8_barge_41 {k : Instr → Nat → Nat → Nat → List Nat → Prop} : xse (xFind tbX8_barge 41) k = k (.iload_n 2) 2 0 0 [] := rfl
theorem tbX8_barge_42 {k : Instr → Nat → Nat → Nat → List Nat → Prop} : xse (xFind tbX8_barge 42) k = k (.imul) 0 0 0 [] := rfl
theorem tbX8_barge_43 {k : Instr → Nat → Nat → Nat → List Nat → Prop} : xse (xFind tbX8_barge 43) k = k (.iload_n 3) 3 0 0 [] := rfl
theorem tbX8_barge_44 {k : Instr → Nat → Nat → Nat → List Nat → Prop} : xse (xFind tbX8_barge 44) k = k (.iadd) 0 0 0 [] := rfl
theorem tbX8_barge_45 {k : Instr → Nat → Nat → Nat → List Nat → Prop} : xse (xFind tbX8_barge 45) k = k (.invokevirtual 200) 2 2 9 [] := rfl
theorem tbX8_barge_48 {k : Instr → Nat → Nat → Nat → List Nat → Prop} : xse (xFind tbX8_barge 48) k = k (.ifCond .ne 7) 55 0 0 [] := rfl
theorem tbX8_barge_51 {k : Instr → Nat → Nat → Nat → List Nat → Prop} : xse (xFind tbX8_barge 51) k = k (.iconst 3) 0 0 0 [] := rfl
theorem tbX8_barge_52 {k : Instr → Nat → Nat → Nat → List Nat → Prop} : xse (xFind tbX8_barge 52) k = k (.goto 4) 56 0 0 [] := rfl
theorem tbX8_barge_55 {k : Instr → Nat → Nat → Nat → List Nat → Prop} : xse (xFind tbX8_barge 55) k = k (.iconst 0) 0 0 0 [] := rfl
theorem tbX8_barge_56 {k : Instr → Nat → Nat → Nat → List Nat → Prop} : xse (xFind tbX8_barge 56) k = k (.invokevirtual 183) 3 2 9 [] := rfl
theorem tbX8_barge_59 {k : Instr → Nat → Nat → Nat → List Nat → Prop} : xse (xFind tbX8_barge 59) k = k (.ifCond .ne 5) 64 0 0 [] := rfl
theorem tbX8_barge_62 {k : Instr → Nat → Nat → Nat → List Nat → Prop} : xse (xFind tbX8_barge 62) k = k (.iconst 0) 0 0 0 [] := rfl
theorem tbX8_barge_63 {k : Instr → Nat → Nat → Nat → List Nat → Prop} : xse (xFind tbX8_barge 63) k = k (.ireturn) 0 0 0 [] := rfl
theorem tbX8_barge_64 {k : Instr → Nat → Nat → Nat → List Nat → Prop} : xse (xFind tbX8_barge 64) k = k (.aload_n 0) 0 0 0 [] := rfl
theorem tbX8_barge_65 {k : Instr → Nat → Nat → Nat → List Nat → Prop} : xse (xFind tbX8_barge 65) k = k (.getfield 62) 9 23 2 [] := rfl
theorem tbX8_barge_68 {k : Instr → Nat → Nat → Nat → List Nat → Prop} : xse (xFind tbX8_barge 68) k = k (.aload_n 0) 0 0 0 [] := rfl
theorem tbX8_barge_69 {k : Instr → Nat → Nat → Nat → List Nat → Prop} : xse (xFind tbX8_barge 69) k = k (.getfield 167) 9 22 0 [] := rfl
theorem tbX8_barge_72 {k : Instr → Nat → Nat → Nat → List Nat → Prop} : xse (xFind tbX8_barge 72) k = k (.iload_n 1) 1 0 0 [] := rfl
theorem tbX8_barge_73 {k : Instr → Nat → Nat → Nat → List Nat → Prop} : xse (xFind tbX8_barge 73) k = k (.iastore) 23 0 0 [] := rfl
theorem tbX8_barge_74 {k : Instr → Nat → Nat → Nat → List Nat → Prop} : xse (xFind tbX8_barge 74) k = k (.aload_n 0) 0 0 0 [] := rfl
theorem tbX8_barge_75 {k : Instr → Nat → Nat → Nat → List Nat → Prop} : xse (xFind tbX8_barge 75) k = k (.getfield 65) 9 24 2 [] := rfl
theorem tbX8_barge_78 {k : Instr → Nat → Nat → Nat → List Nat → Prop} : xse (xFind tbX8_barge 78) k = k (.aload_n 0) 0 0 0 [] := rfl
theorem tbX8_barge_79 {k : Instr → Nat → Nat → Nat → List Nat → Prop} : xse (xFind tbX8_barge 79) k = k (.getfield 167) 9 22 0 [] := rfl
theorem tbX8_barge_82 {k : Instr → Nat → Nat → Nat → List Nat → Prop} : xse (xFind tbX8_barge 82) k = k (.iconst 0) 0 0 0 [] := rfl
theorem tbX8_barge_83 {k : Instr → Nat → Nat → Nat → List Nat → Prop} : xse (xFind tbX8_barge 83) k = k (.iastore) 24 0 0 [] := rfl
theorem tbX8_barge_84 {k : Instr → Nat → Nat → Nat → List Nat → Prop} : xse (xFind tbX8_barge 84) k = k (.aload_n 0) 0 0 0 [] := rfl
theorem tbX8_barge_85 {k : Instr → Nat → Nat → Nat → List Nat → Prop} : xse (xFind tbX8_barge 85) k = k (.getfield 68) 9 25 2 [] := rfl
theorem tbX8_barge_88 {k : Instr → Nat → Nat → Nat → List Nat → Prop} : xse (xFind tbX8_barge 88) k = k (.aload_n 0) 0 0 0 [] := rfl
theorem tbX8_barge_89 {k : Instr → Nat → Nat → Nat → List Nat → Prop} : xse (xFind tbX8_barge 89) k = k (.getfield 167) 9 22 0 [] := rfl
theorem tbX8_barge_92 {k : Instr → Nat → Nat → Nat → List Nat → Prop} : xse (xFind tbX8_barge 92) k = k (.iconst (-1)) 0 0 0 [] := rfl
theorem tbX8_barge_93 {k : Instr → Nat → Nat → Nat → List Nat → Prop} : xse (xFind tbX8_barge 93) k = k (.iastore) 25 0 0 [] := rfl
theorem tbX8_barge_94 {k : Instr → Nat → Nat → Nat → List Nat → Prop} : xse (xFind tbX8_barge 94) k = k (.aload_n 0) 0 0 0 [] := rfl
theorem tbX8_barge_95 {k : Instr → Nat → Nat → Nat → List Nat → Prop} : xse (xFind tbX8_barge 95) k = k (.getfield 71) 9 26 2 [] := rfl
theorem tbX8_barge_98 {k : Instr → Nat → Nat → Nat → List Nat → Prop} : xse (xFind tbX8_barge 98) k = k (.aload_n 0) 0 0 0 [] := rfl
theorem tbX8_barge_99 {k : Instr → Nat → Nat → Nat → List Nat → Prop} : xse (xFind tbX8_barge 99) k = k (.getfield 167) 9 22 0 [] := rfl
theorem tbX8_barge_102 {k : Instr → Nat → Nat → Nat → List Nat → Prop} : xse (xFind tbX8_barge 102) k = k (.iconst (-1)) 0 0 0 [] := rfl
theorem tbX8_barge_103 {k : Instr → Nat → Nat → Nat → List Nat → Prop} : xse (xFind tbX8_barge 103) k = k (.iastore) 26 0 0 [] := rfl
theorem tbX8_barge_104 {k : Instr → Nat → Nat → Nat → List Nat → Prop} : xse (xFind tbX8_barge 104) k = k (.aload_n 0) 0 0 0 [] := rfl
theorem tbX8_barge_105 {k : Instr → Nat → Nat → Nat → List Nat → Prop} : xse (xFind tbX8_barge 105) k = k (.aload_n 0) 0 0 0 [] := rfl
theorem tbX8_barge_106 {k : Instr → Nat → Nat → Nat → List Nat → Prop} : xse (xFind tbX8_barge 106) k = k (.getfield 167) 9 22 0 [] := rfl
theorem tbX8_barge_109 {k : Instr → Nat → Nat → Nat → List Nat → Prop} : xse (xFind tbX8_barge 109) k = k (.iconst 2) 0 0 0 [] := rfl
theorem tbX8_barge_110 {k : Instr → Nat → Nat → Nat → List Nat → Prop} : xse (xFind tbX8_barge 110) k = k (.iload_n 2) 2 0 0 [] := rfl
theorem tbX8_barge_111 {k : Instr → Nat → Nat → Nat → List Nat → Prop} : xse (xFind tbX8_barge 111) k = k (.imul) 0 0 0 [] := rfl
theorem tbX8_barge_112 {k : Instr → Nat → Nat → Nat → List Nat → Prop} : xse (xFind tbX8_barge 112) k = k (.iload_n 3) 3 0 0 [] := rfl
theorem tbX8_barge_113 {k : Instr → Nat → Nat → Nat → List Nat → Prop} : xse (xFind tbX8_barge 113) k = k (.iadd) 0 0 0 [] := rfl
theorem tbX8_barge_114 {k : Instr → Nat → Nat → Nat → List Nat → Prop} : xse (xFind tbX8_barge 114) k = k (.invokevirtual 203) 4 3 9 [] := rfl
theorem tbX8_barge_117 {k : Instr → Nat → Nat → Nat → List Nat → Prop} : xse (xFind tbX8_barge 117) k = k (.aload_n 0) 0 0 0 [] := rfl
theorem tbX8_barge_118 {k : Instr → Nat → Nat → Nat → List Nat → Prop} : xse (xFind tbX8_barge 118) k = k (.dup) 0 0 0 [] := rfl
theorem tbX8_barge_119 {k : Instr → Nat → Nat → Nat → List Nat → Prop} : xse (xFind tbX8_barge 119) k = k (.getfield 167) 9 22 0 [] := rfl
theorem tbX8_barge_122 {k : Instr → Nat → Nat → Nat → List Nat → Prop} : xse (xFind tbX8_barge 122) k = k (.iconst 1) 0 0 0 [] := rfl
theorem tbX8_barge_123 {k : Instr → Nat → Nat → Nat → List Nat → Prop} : xse (xFind tbX8_barge 123) k = k (.iadd) 0 0 0 [] := rfl
theorem tbX8_barge_124 {k : Instr → Nat → Nat → Nat → List Nat → Prop} : xse (xFind tbX8_barge 124) k = k (.putfield 167) 9 22 0 [] := rfl
theorem tbX8_barge_127 {k : Instr → Nat → Nat → Nat → List Nat → Prop} : xse (xFind tbX8_barge 127) k = k (.aload_n 0) 0 0 0 [] := rfl
theorem tbX8_barge_128 {k : Instr → Nat → Nat → Nat → List Nat → Prop} : xse (xFind tbX8_barge 128) k = k (.getfield 167) 9 22 0 [] := rfl
theorem tbX8_barge_131 {k : Instr → Nat → Nat → Nat → List Nat → Prop} : xse (xFind tbX8_barge 131) k = k (.iconst 1) 0 0 0 [] := rfl
theorem tbX8_barge_132 {k : Instr → Nat → Nat → Nat → List Nat → Prop} : xse (xFind tbX8_barge 132) k = k (.isub) 0 0 0 [] := rfl
theorem tbX8_barge_133 {k : Instr → Nat → Nat → Nat → List Nat → Prop} : xse (xFind tbX8_barge 133) k = k (.ireturn) 0 0 0 [] := rfl

def spX8_barge (aM : Nat → Nat) : xSp mS := (fun av M => (0, 0), fun av M K => ∃ (y : Int32) (p : Int32) (t : Int32), av = [.ref (aM 0), .int y, .int p, .int t] ∧ ((M.1 22 = nI (nBg M) ∧ nBg M ≤ 24) ∧ (∀ t : Nat, t < 16 → M.2 18 t < M.2 17 t → ∃ n, M.2 18 t = nI n ∧ n < 5) ∧ K (rI (oBarge M y p t).1) (oBarge M y p t).2))
theorem spcX8_barge {av : List Value} {M : mS} {aM : Nat → Nat} : (spX8_barge aM).1 av M = (0, 0) := rfl
theorem spwX8_barge {M : mS} {aM : Nat → Nat} {K : xRes → mS → Prop} {y : Int32} {p : Int32} {t : Int32} : (spX8_barge aM).2 [.ref (aM 0), .int y, .int p, .int t] M K = ((M.1 22 = nI (nBg M) ∧ nBg M ≤ 24) ∧ (∀ t : Nat, t < 16 → M.2 18 t < M.2 17 t → ∃ n, M.2 18 t = nI n ∧ n < 5) ∧ K (rI (oBarge M y p t).1) (oBarge M y p t).2) :=
  propext ⟨fun h => by
    simp only [spX8_barge] at h
    obtain ⟨_, _, _, e, h⟩ := h
    simp only [List.cons.injEq, Value.int.injEq, Value.ref.injEq, rf_eq, and_true, true_and] at e
    obtain ⟨rfl, rfl, rfl⟩ := e
    exact h, fun h => ⟨_, _, _, rfl, h⟩⟩

def callX8_barge (aM : Nat → Nat) : Nat → Option (xSp mS) := fun n => match n with | 0 => some (spX8_isTier aM) | 1 => some (spX8_in aM) | 2 => some (spX8_hasRoom aM) | 3 => some (spX8_holds aM) | 4 => some (spX8_ties aM) | _ => none

theorem callX8_barge_0 {aM : Nat → Nat} {k : xSp mS → Prop} : xcs (callX8_barge aM 0) k = k (spX8_isTier aM) := rfl

theorem callX8_barge_1 {aM : Nat → Nat} {k : xSp mS → Prop} : xcs (callX8_barge aM 1) k = k (spX8_in aM) := rfl

theorem callX8_barge_2 {aM : Nat → Nat} {k : xSp mS → Prop} : xcs (callX8_barge aM 2) k = k (spX8_hasRoom aM) := rfl

theorem callX8_barge_3 {aM : Nat → Nat} {k : xSp mS → Prop} : xcs (callX8_barge aM 3) k = k (spX8_holds aM) := rfl

theorem callX8_barge_4 {aM : Nat → Nat} {k : xSp mS → Prop} : xcs (callX8_barge aM 4) k = k (spX8_ties aM) := rfl

theorem crX8_barge (l : Launch) (W9 : xWd) (aM : Nat → Nat) (hi : mInj aM) : xCallsOK l W9 (mI aM) (callX8_barge aM) clX8_barge RX8 wsX8_barge 3 63 5 := by
  intro E A p e R s m args below meth c hI hF hL X
  exact List.forall_mem_cons.mpr ⟨⟨_, rfl, xCR_S X (by rw [hI]; exact (semX8_isTier l W9 aM hi)) gX8_barge_X8_isTier rfl (by decide +kernel) (by rw [hF, hL]; decide)⟩,
    List.forall_mem_cons.mpr ⟨⟨_, rfl, xCR_S X (by rw [hI]; exact (semX8_in l W9 aM hi)) gX8_barge_X8_in rfl (by decide +kernel) (by rw [hF, hL]; decide)⟩,
    List.forall_mem_cons.mpr ⟨⟨_, rfl, xCR_V X (by rw [hI]; exact (semX8_hasRoom l W9 aM hi)) gX8_barge_X8_hasRoom rfl rfl (by decide +kernel) (by rw [hF, hL]; decide)⟩,
    List.forall_mem_cons.mpr ⟨⟨_, rfl, xCR_V X (by rw [hI]; exact (semX8_holds l W9 aM hi)) gX8_barge_X8_holds rfl rfl (by decide +kernel) (by rw [hF, hL]; decide)⟩,
    List.forall_mem_cons.mpr ⟨⟨_, rfl, xCR_V X (by rw [hI]; exact (semX8_ties l W9 aM hi)) gX8_barge_X8_ties rfl rfl (by decide +kernel) (by rw [hF, hL]; decide)⟩,
    fun _ h => nomatch h⟩⟩⟩⟩⟩

set_option maxHeartbeats 4000000 in
set_option maxRecDepth 20000 in
theorem semX8_barge (l : Launch) (W9 : xWd) (aM : Nat → Nat) (hi : mInj aM) : xSem l W9 (mI aM) yX8_barge wsX8_barge 3 63 (spX8_barge aM) := by
  refine xSem_of (call := callX8_barge aM) (thrf := fun _ => "") (mI_law hi) (by decide +kernel) rfl ckX8_barge usX8_barge (crX8_barge l W9 aM hi) xThrOK_nil ?_ ?_
  · intro av M KF h
    obtain ⟨y, p, t, rfl, h⟩ := h
    exact ⟨by intro v hv; simp only [List.mem_cons, List.not_mem_nil, or_false] at hv; rcases hv with rfl | rfl | rfl | rfl <;> first | rfl | exact cat_rf, Nat.le_of_ble_eq_true rfl⟩
  intro av M KF h G hG
  obtain ⟨y, p, t, rfl, h⟩ := h
  rw [show (spX8_barge aM).1 _ M = _ from spcX8_barge] at hG
  try dsimp only at hG
  change G 0 [some (.ref (aM 0)), some (.int y), some (.int p), some (.int t), none] [] M 0 0
  obtain ⟨hn, ht, h⟩ := h
  refine xgo0 hG (fun fu hfu => ?_)
  clear hG
  simp only [↓callX8_barge_0, ↓callX8_barge_1, ↓callX8_barge_2, ↓callX8_barge_3, ↓callX8_barge_4, kb_24, kc_24, ki_0, ki_1, ki_2, ki_3, ki_m1, ↓mg_22, ↓mg_23, ↓mg_24, ↓mg_25, ↓mg_26, misa, ↓mp_22, ↓ms_23, ↓ms_24, ↓ms_25, ↓ms_26, ↓vm_aload_n, ↓vm_bipush, ↓vm_dup, ↓vm_getfield, ↓vm_goto, ↓vm_iadd, ↓vm_iastore, ↓vm_iconst, ↓vm_ifCond_ne, ↓vm_if_icmp_eq, ↓vm_iload, ↓vm_iload_n, ↓vm_imul, ↓vm_invokestatic, ↓vm_invokevirtual, ↓vm_ireturn, ↓vm_istore, ↓vm_isub, ↓vm_putfield, ↓xc_2, ↓xc_3, ↓tbX8_barge_0, ↓tbX8_barge_1, ↓tbX8_barge_2, ↓tbX8_barge_5, ↓tbX8_barge_7, ↓tbX8_barge_8, ↓tbX8_barge_10, ↓tbX8_barge_13, ↓tbX8_barge_14, ↓tbX8_barge_17, ↓tbX8_barge_18, ↓tbX8_barge_19, ↓tbX8_barge_20, ↓tbX8_barge_23, ↓tbX8_barge_26, ↓tbX8_barge_27, ↓tbX8_barge_30, ↓tbX8_barge_31, ↓tbX8_barge_34, ↓tbX8_barge_36, ↓tbX8_barge_39, ↓tbX8_barge_40, ↓tbX8_barge_41, ↓tbX8_barge_42, ↓tbX8_barge_43, ↓tbX8_barge_44, ↓tbX8_barge_45, ↓tbX8_barge_48, ↓tbX8_barge_51, ↓tbX8_barge_52, ↓tbX8_barge_55, ↓tbX8_barge_56, ↓tbX8_barge_59, ↓tbX8_barge_62, ↓tbX8_barge_63, ↓tbX8_barge_64, ↓tbX8_barge_65, ↓tbX8_barge_68, ↓tbX8_barge_69, ↓tbX8_barge_72, ↓tbX8_barge_73, ↓tbX8_barge_74, ↓tbX8_barge_75, ↓tbX8_barge_78, ↓tbX8_barge_79, ↓tbX8_barge_82, ↓tbX8_barge_83, ↓tbX8_barge_84, ↓tbX8_barge_85, ↓tbX8_barge_88, ↓tbX8_barge_89, ↓tbX8_barge_92, ↓tbX8_barge_93, ↓tbX8_barge_94, ↓tbX8_barge_95, ↓tbX8_barge_98, ↓tbX8_barge_99, ↓tbX8_barge_102, ↓tbX8_barge_103, ↓tbX8_barge_104, ↓tbX8_barge_105, ↓tbX8_barge_106, ↓tbX8_barge_109, ↓tbX8_barge_110, ↓tbX8_barge_111, ↓tbX8_barge_112, ↓tbX8_barge_113, ↓tbX8_barge_114, ↓tbX8_barge_117, ↓tbX8_barge_118, ↓tbX8_barge_119, ↓tbX8_barge_122, ↓tbX8_barge_123, ↓tbX8_barge_124, ↓tbX8_barge_127, ↓tbX8_barge_128, ↓tbX8_barge_131, ↓tbX8_barge_132, ↓tbX8_barge_133, hfu, xstep0, xJ1_hit, xJ1_go, xJ2_hit1, xJ2_hit2, xJ2_go, ↓xif_t, ↓xif_f, seval, ↓xca_eq, ↓xre_l, ↓xre_r, xmask_t, xmask_f, xmask_nil, ↓xst_eq, xX_eq, eI_eq, eMc_eq, eMs_eq, eF_eq, eThr_eq, ↓xS1_mk, ↓xSI_mk, ↓xSR_mk, ↓xLI_0, ↓xLI_s, ↓xLR_0, ↓xLR_s, vRef_ref, vRef_null, vRef_rf, cat_int, cat_ref, cat_null, cat_rf, rf_some, rf_none, rf_null, rf_eq, rf_ref, ref_rf, ref_null, ref_ref, xOk_0, xOk_1, xOk_2r, xOk_2n, xOk_2f, vOpt_rf, vOpt_ref, vOpt_null, List.set_cons_zero, List.set_cons_succ, List.take_succ_cons, List.take_zero, List.drop_succ_cons, List.drop_zero, List.reverse_cons, List.reverse_nil, List.nil_append, List.cons_append, List.append_nil, List.length_cons, List.length_nil, List.map_cons, List.map_nil, List.sum_cons, List.sum_nil, Option.toList_some, Option.toList_none, xRecv_mk, true_and, and_true, true_implies, Nat.reduceAdd, Nat.reduceLeDiff, Nat.zero_le, Nat.le_refl, Nat.add_zero, Nat.zero_add, reduceIte, not_true_eq_false, not_false_eq_true, false_implies, and_self, implies_true, eq_self, Nat.reduceEqDiff, List.cons.injEq, xsn_1, xsn_2, false_and, and_false, or_false, false_or, or_true, true_or, xsn_3, xsn_4, mAst_1, mAst_2, mSet_1, mSet_2, bi_0, mTies_1, ↓spwX8_isTier, spcX8_isTier, ↓spwX8_in, spcX8_in, ↓spwX8_hasRoom, spcX8_hasRoom, ↓spwX8_holds, spcX8_holds, ↓spwX8_ties, spcX8_ties]
  try simp only [xif_e]
  unfold oBarge at h
  have h6 := @in_tier p t
  have h7 : vp_in (2 * p + t) 16 → M.2 18 (2 * p + t).toNatClampNeg < M.2 17 (2 * p + t).toNatClampNeg → vp_in (5 * (2 * p + t) + M.2 18 (2 * p + t).toNatClampNeg) 80 := by
    intro a b
    obtain ⟨j, hj, e⟩ := vp_in_of a (by omega)
    rw [e, ix_nI (by omega)] at b ⊢
    obtain ⟨n, e2, hn5⟩ := ht j hj b
    rw [e2, m5_nI, add_nI]
    exact xin_nI (by omega) (by omega)
  have h8 : ¬ M.1 22 = 24 → vp_in (M.1 22) 24 := by
    intro q
    rw [hn.1] at q ⊢
    exact xin_nI (by rcases Nat.lt_or_eq_of_le hn.2 with r | r; exact r; exact absurd (by rw [r]; rfl) q) (by omega)
  repeat' (first | with_reducible apply And.intro | with_reducible intro _)
  all_goals grind [bi]

def tbX8_contract : List (Nat × xHint) := [(0, .iload_n 2, 2, 0, 0, []), (1, .invokestatic 163, 0, 1, 0, []), (4, .ifCond .eq 14, 18, 0, 0, []), (7, .iload_n 3, 3, 0, 0, []), (8, .invokestatic 163, 0, 1, 0, []), (11, .ifCond .eq 7, 18, 0, 0, []), (14, .iconst 1, 0, 0, 0, []), (15, .goto 4, 19, 0, 0, []), (18, .iconst 0, 0, 0, 0, []), (19, .istore 7, 7, 0, 0, []), (21, .iload_n 1, 1, 0, 0, []), (22, .iconst 0, 0, 0, 0, []), (23, .iconst 2, 0, 0, 0, []), (24, .invokestatic 159, 1, 3, 0, []), (27, .ifCond .eq 47, 74, 0, 0, []), (30, .iload 4, 4, 0, 0, []), (32, .iconst 1, 0, 0, 0, []), (33, .bipush 99, 0, 0, 0, []), (35, .invokestatic 159, 1, 3, 0, []), (38, .ifCond .eq 36, 74, 0, 0, []), (41, .iload 5, 5, 0, 0, []), (43, .iconst 0, 0, 0, 0, []), (44, .sipush 5000, 0, 0, 0, []), (47, .invokestatic 159, 1, 3, 0, []), (50, .ifCond .eq 24, 74, 0, 0, []), (53, .iload 6, 6, 0, 0, []), (55, .iconst 0, 0, 0, 0, []), (56, .sipush 300, 0, 0, 0, []), (59, .invokestatic 159, 1, 3, 0, []), (62, .ifCond .eq 12, 74, 0, 0, []), (65, .iload_n 2, 2, 0, 0, []), (66, .iload_n 3, 3, 0, 0, []), (67, .if_icmp .eq 7, 74, 0, 0, []), (70, .iconst 1, 0, 0, 0, []), (71, .goto 4, 75, 0, 0, []), (74, .iconst 0, 0, 0, 0, []), (75, .istore 8, 8, 0, 0, []), (77, .aload_n 0, 0, 0, 0, []), (78, .iload 7, 7, 0, 0, []), (80, .ifCond .ne 7, 87, 0, 0, []), (83, .iconst 1, 0, 0, 0, []), (84, .goto 26, 110, 0, 0, []), (87, .iload 8, 8, 0, 0, []), (89, .ifCond .ne 7, 96, 0, 0, []), (92, .iconst 2, 0, 0, 0, []), (93, .goto 17, 110, 0, 0, []), (96, .aload_n 0, 0, 0, 0, []), (97, .getfield 173, 9, 46, 0, []), (100, .bipush 12, 0, 0, 0, []), (102, .if_icmp .ne 7, 109, 0, 0, []), (105, .iconst 3, 0, 0, 0, []), (106, .goto 4, 110, 0, 0, []), (109, .iconst 0, 0, 0, 0, []), (110, .invokevirtual 183, 2, 2, 9, []), (113, .ifCond .ne 5, 118, 0, 0, []), (116, .iconst 0, 0, 0, 0, []), (117, .ireturn, 0, 0, 0, []), (118, .aload_n 0, 0, 0, 0, []), (119, .getfield 128, 9, 47, 2, []), (122, .aload_n 0, 0, 0, 0, []), (123, .getfield 173, 9, 46, 0, []), (126, .iload_n 1, 1, 0, 0, []), (127, .iastore, 47, 0, 0, []), (128, .aload_n 0, 0, 0, 0, []), (129, .getfield 131, 9, 48, 2, []), (132, .aload_n 0, 0, 0, 0, []), (133, .getfield 173, 9, 46, 0, []), (136, .iload_n 2, 2, 0, 0, []), (137, .iastore, 48, 0, 0, []), (138, .aload_n 0, 0, 0, 0, []), (139, .getfield 134, 9, 49, 2, []), (142, .aload_n 0, 0, 0, 0, []), (143, .getfield 173, 9, 46, 0, []), (146, .iload_n 3, 3, 0, 0, []), (147, .iastore, 49, 0, 0, []), (148, .aload_n 0, 0, 0, 0, []), (149, .getfield 137, 9, 50, 2, []), (152, .aload_n 0, 0, 0, 0, []), (153, .getfield 173, 9, 46, 0, []), (156, .iload 4, 4, 0, 0, []), (158, .iastore, 50, 0, 0, []), (159, .aload_n 0, 0, 0, 0, []), (160, .getfield 140, 9, 51, 2, []), (163, .aload_n 0, 0, 0, 0, []), (164, .getfield 173, 9, 46, 0, []), (167, .iload 5, 5, 0, 0, []), (169, .iastore, 51, 0, 0, []), (170, .aload_n 0, 0, 0, 0, []), (171, .getfield 143, 9, 52, 2, []), (174, .aload_n 0, 0, 0, 0, []), (175, .getfield 173, 9, 46, 0, []), (178, .iload 6, 6, 0, 0, []), (180, .iastore, 52, 0, 0, []), (181, .aload_n 0, 0, 0, 0, []), (182, .dup, 0, 0, 0, []), (183, .getfield 173, 9, 46, 0, []), (186, .iconst 1, 0, 0, 0, []), (187, .iadd, 0, 0, 0, []), (188, .putfield 173, 9, 46, 0, []), (191, .aload_n 0, 0, 0, 0, []), (192, .getfield 173, 9, 46, 0, []), (195, .iconst 1, 0, 0, 0, []), (196, .isub, 0, 0, 0, []), (197, .ireturn, 0, 0, 0, [])]
def clX8_contract : List (Instr × Nat × Nat × Nat) := [(.invokestatic 163, 0, 1, 0), (.invokestatic 159, 1, 3, 0), (.invokevirtual 183, 2, 2, 9)]
def thX8_contract : List (Nat × Nat) := []
theorem ckX8_contract : tbX8_contract.all (xRow RX8 cX8_contract wsX8_contract vwCl [9] clX8_contract thX8_contract 9 (yX8_contract.name == "<init>") (some .int)) = true := xRow_q 0xac6404ad00b42aad00b56004ad00b4592a4f0615ad00b42a8f00b42a4f0515ad00b42a8c00b42a4f0415ad00b42a8900b42a4f1dad00b42a8600b42a4f1cad00b42a8300b42a4f1bad00b42a8000b42aac0305009ab700b6030400a7060700a00c10ad00b42a1100a70507009a08151a00a70407009a07152a0836030400a70407009f1d1c0c00999f00b82c01110306151800999f00b88813110305152400999f00b863100404152f00999f00b805031b0736030400a704070099a300b81d0e0099a300b81c 198 (by decide +kernel) (by decide +kernel)
theorem usX8_contract : xUse wsX8_contract vwCl [9] = true := xUse_g rfl (lw_good lwl_X8_contract lwl_X80 (by decide +kernel)) xUse_n
theorem tbX8_contract_0 {k : Instr → Nat → Nat → Nat → List Nat → Prop} : xse (xFind tbX8_contract 0) k = k (.iload_n 2) 2 0 0 [] := rfl
theorem tbX8_contract_1 {k : Instr → Nat → Nat → Nat → List Nat → Prop} : xse (xFind tbX8_contract 1) k = k (.invokestatic 163) 0 1 0 [] := rfl
theorem tbX8_contract_4 {k : Instr → Nat → Nat → Nat → List Nat → Prop} : xse (xFind tbX8_contract 4) k = k (.ifCond .eq 14) 18 0 0 [] := rfl
theorem tbX8_contract_7 {k : Instr → Nat → Nat → Nat → List Nat → Prop} : xse (xFind tbX8_contract 7) k = k (.iload_n 3) 3 0 0 [] := rfl
theorem tbX8_contract_8 {k : Instr → Nat → Nat → Nat → List Nat → Prop} : xse (xFind tbX8_contract 8) k = k (.invokestatic 163) 0 1 0 [] := rfl
theorem tbX8_contract_11 {k : Instr → Nat → Nat → Nat → List Nat → Prop} : xse (xFind tbX8_contract 11) k = k (.ifCond .eq 7) 18 0 0 [] := rfl
theorem tbX8_contract_14 {k : Instr → Nat → Nat → Nat → List Nat → Prop} : xse (xFind tbX8_contract 14) k = k (.iconst 1) 0 0 0 [] := rfl
theorem tbX8_contract_15 {k : Instr → Nat → Nat → Nat → List Nat → Prop} : xse (xFind tbX8_contract 15) k = k (.goto 4) 19 0 0 [] := rfl
theorem tbX8_contract_18 {k : Instr → Nat → Nat → Nat → List Nat → Prop} : xse (xFind tbX8_contract 18) k = k (.iconst 0) 0 0 0 [] := rfl
theorem tbX8_contract_19 {k : Instr → Nat → Nat → Nat → List Nat → Prop} : xse (xFind tbX8_contract 19) k = k (.istore 7) 7 0 0 [] := rfl
theorem tbX8_contract_21 {k : Instr → Nat → Nat → Nat → List Nat → Prop} : xse (xFind tbX8_contract 21) k = k (.iload_n 1) 1 0 0 [] := rfl
theorem tbX8_contract_22 {k : Instr → Nat → Nat → Nat → List Nat → Prop} : xse (xFind tbX8_contract 22) k = k (.iconst 0) 0 0 0 [] := rfl
theorem tbX8_contract_23 {k : Instr → Nat → Nat → Nat → List Nat → Prop} : xse (xFind tbX8_contract 23) k = k (.iconst 2) 0 0 0 [] := rfl
theorem tbX8_contract_24 {k : Instr → Nat → Nat → Nat → List Nat → Prop} : xse (xFind tbX8_contract 24) k = k (.invokestatic 159) 1 3 0 [] := rfl
theorem tbX8_contract_27 {k : Instr → Nat → Nat → Nat → List Nat → Prop} : xse (xFind tbX8_contract 27) k = k (.ifCond .eq 47) 74 0 0 [] := rfl
theorem tbX8_contract_30 {k : Instr → Nat → Nat → Nat → List Nat → Prop} : xse (xFind tbX8_contract 30) k = k (.iload 4) 4 0 0 [] := rfl
theorem tbX8_contract_32 {k : Instr → Nat → Nat → Nat → List Nat → Prop} : xse (xFind tbX8_contract 32) k = k (.iconst 1) 0 0 0 [] := rfl
theorem tbX8_contract_33 {k : Instr → Nat → Nat → Nat → List Nat → Prop} : xse (xFind tbX8_contract 33) k = k (.bipush 99) 0 0 0 [] := rfl
theorem tbX8_contract_35 {k : Instr → Nat → Nat → Nat → List Nat → Prop} : xse (xFind tbX8_contract 35) k = k (.invokestatic 159) 1 3 0 [] := rfl
theorem tbX8_contract_38 {k : Instr → Nat → Nat → Nat → List Nat → Prop} : xse (xFind tbX8_contract 38) k = k (.ifCond .eq 36) 74 0 0 [] := rfl
theorem tbX8_contract_41 {k : Instr → Nat → Nat → Nat → List Nat → Prop} : xse (xFind tbX8_contract 41) k = k (.iload 5) 5 0 0 [] := rfl
theorem tbX8_contract_43 {k : Instr → Nat → Nat → Nat → List Nat → Prop} : xse (xFind tbX8_contract 43) k = k (.iconst 0) 0 0 0 [] := rfl
theorem tbX8_contract_44 {k : Instr → Nat → Nat → Nat → List Nat → Prop} : xse (xFind tbX8_contract 44) k = k (.sipush 5000) 0 0 0 [] := rfl
theorem tbX8_contract_47 {k : Instr → Nat → Nat → Nat → List Nat → Prop} : xse (xFind tbX8_contract 47) k = k (.invokestatic 159) 1 3 0 [] := rfl
theorem tbX8_contract_50 {k : Instr → Nat → Nat → Nat → List Nat → Prop} : xse (xFind tbX8_contract 50) k = k (.ifCond .eq 24) 74 0 0 [] := rfl
theorem tbX8_contract_53 {k : Instr → Nat → Nat → Nat → List Nat → Prop} : xse (xFind tbX8_contract 53) k = k (.iload 6) 6 0 0 [] := rfl
theorem tbX8_contract_55 {k : Instr → Nat → Nat → Nat → List Nat → Prop} : xse (xFind tbX8_contract 55) k = k (.iconst 0) 0 0 0 [] := rfl
theorem tbX8_contract_56 {k : Instr → Nat → Nat → Nat → List Nat → Prop} : xse (xFind tbX8_contract 56) k = k (.sipush 300) 0 0 0 [] := rfl
theorem tbX8_contract_59 {k : Instr → Nat → Nat → Nat → List Nat → Prop} : xse (xFind tbX8_contract 59) k = k (.invokestatic 159) 1 3 0 [] := rfl
theorem tbX8_contract_62 {k : Instr → Nat → Nat → Nat → List Nat → Prop} : xse (xFind tbX8_contract 62) k = k (.ifCond .eq 12) 74 0 0 [] := rfl
theorem tbX8_contract_65 {k : Instr → Nat → Nat → Nat → List Nat → Prop} : xse (xFind tbX8_contract 65) k = k (.iload_n 2) 2 0 0 [] := rfl
theorem tbX8_contract_66 {k : Instr → Nat → Nat → Nat → List Nat → Prop} : xse (xFind tbX8_contract 66) k = k (.iload_n 3) 3 0 0 [] := rfl
theorem tbX8_contract_67 {k : Instr → Nat → Nat → Nat → List Nat → Prop} : xse (xFind tbX8_contract 67) k = k (.if_icmp .eq 7) 74 0 0 [] := rfl
theorem tbX8_contract_70 {k : Instr → Nat → Nat → Nat → List Nat → Prop} : xse (xFind tbX8_contract 70) k = k (.iconst 1) 0 0 0 [] := rfl
theorem tbX8_contract_71 {k : Instr → Nat → Nat → Nat → List Nat → Prop} : xse (xFind tbX8_contract 71) k = k (.goto 4) 75 0 0 [] := rfl
theorem tbX8_contract_74 {k : Instr → Nat → Nat → Nat → List Nat → Prop} : xse (xFind tbX8_contract 74) k = k (.iconst 0) 0 0 0 [] := rfl
theorem tbX8_contract_75 {k : Instr → Nat → Nat → Nat → List Nat → Prop} : xse (xFind tbX8_contract 75) k = k (.istore 8) 8 0 0 [] := rfl
theorem tbX8_contract_77 {k : Instr → Nat → Nat → Nat → List Nat → Prop} : xse (xFind tbX8_contract 77) k = k (.aload_n 0) 0 0 0 [] := rfl
theorem tbX8_contract_78 {k : Instr → Nat → Nat → Nat → List Nat → Prop} : xse (xFind tbX8_contract 78) k = k (.iload 7) 7 0 0 [] := rfl
theorem tbX8_contract_80 {k : Instr → Nat → Nat → Nat → List Nat → Prop} : xse (xFind tbX8_contract 80) k = k (.ifCond .ne 7) 87 0 0 [] := rfl
theorem tbX8_contract_83 {k : Instr → Nat → Nat → Nat → List Nat → Prop} : xse (xFind tbX8_contract 83) k = k (.iconst 1) 0 0 0 [] := rfl
theorem tbX8_contract_84 {k : Instr → Nat → Nat → Nat → List Nat → Prop} : xse (xFind tbX8_contract 84) k = k (.goto 26) 110 0 0 [] := rfl
theorem tbX8_contract_87 {k : Instr → Nat → Nat → Nat → List Nat → Prop} : xse (xFind tbX8_contract 87) k = k (.iload 8) 8 0 0 [] := rfl
theorem tbX8_contract_89 {k : Instr → Nat → Nat → Nat → List Nat → Prop} : xse (xFind tbX8_contract 89) k = k (.ifCond .ne 7) 96 0 0 [] := rfl
theorem tbX8_contract_92 {k : Instr → Nat → Nat → Nat → List Nat → Prop} : xse (xFind tbX8_contract 92) k = k (.iconst 2) 0 0 0 [] := rfl
theorem tbX8_contract_93 {k : Instr → Nat → Nat → Nat → List Nat → Prop} : xse (xFind tbX8_contract 93) k = k (.goto 17) 110 0 0 [] := rfl
theorem tbX8_contract_96 {k : Instr → Nat → Nat → Nat → List Nat → Prop} : xse (xFind tbX8_contract 96) k = k (.aload_n 0) 0 0 0 [] := rfl
theorem tbX8_contract_97 {k : Instr → Nat → Nat → Nat → List Nat → Prop} : xse (xFind tbX8_contract 97) k = k (.getfield 173) 9 46 0 [] := rfl
theorem tbX8_contract_100 {k : Instr → Nat → Nat → Nat → List Nat → Prop} : xse (xFind tbX8_contract 100) k = k (.bipush 12) 0 0 0 [] := rfl
theorem tbX8_contract_102 {k : Instr → Nat → Nat → Nat → List Nat → Prop} : xse (xFind tbX8_contract 102) k = k (.if_icmp .ne 7) 109 0 0 [] := rfl
theorem tbX8_contract_105 {k : Instr → Nat → Nat → Nat → List Nat → Prop} : xse (xFind tbX8_contract 105) k = k (.iconst 3) 0 0 0 [] := rfl
theorem tbX8_contract_106 {k : Instr → Nat → Nat → Nat → List Nat → Prop} : xse (xFind tbX8_contract 106) k = k (.goto 4) 110 0 0 [] := rfl
theorem tbX8_contract_109 {k : Instr → Nat → Nat → Nat → List Nat → Prop} : xse (xFind tbX8_contract 109) k = k (.iconst 0) 0 0 0 [] := rfl
theorem tbX8_contract_110 {k : Instr → Nat → Nat → Nat → List Nat → Prop} : xse (xFind tbX8_contract 110) k = k (.invokevirtual 183) 2 2 9 [] := rfl
theorem tbX8_contract_113 {k : Instr → Nat → Nat → Nat → List Nat → Prop} : xse (xFind tbX8_contract 113) k = k (.ifCond .ne 5) 118 0 0 [] := rfl
theorem tbX8_contract_116 {k : Instr → Nat → Nat → Nat → List Nat → Prop} : xse (xFind tbX8_contract 116) k = k (.iconst 0) 0 0 0 [] := rfl
theorem tbX8_contract_117 {k : Instr → Nat → Nat → Nat → List Nat → Prop} : xse (xFind tbX8_contract 117) k = k (.ireturn) 0 0 0 [] := rfl
theorem tbX8_contract_118 {k : Instr → Nat → Nat → Nat → List Nat → Prop} : xse (xFind tbX8_contract 118) k = k (.aload_n 0) 0 0 0 [] := rfl
theorem tbX8_contract_119 {k : Instr → Nat → Nat → Nat → List Nat → Prop} : xse (xFind tbX8_contract 119) k = k (.getfield 128) 9 47 2 [] := rfl
theorem tbX8_contract_122 {k : Instr → Nat → Nat → Nat → List Nat → Prop} : xse (xFind tbX8_contract 122) k = k (.aload_n 0) 0 0 0 [] := rfl
theorem tbX8_contract_123 {k : Instr → Nat → Nat → Nat → List Nat → Prop} : xse (xFind tbX8_contract 123) k = k (.getfield 173) 9 46 0 [] := rfl
theorem tbX8_contract_126 {k : Instr → Nat → Nat → Nat → List Nat → Prop} : xse (xFind tbX8_contract 126) k = k (.iload_n 1) 1 0 0 [] := rfl
theorem tbX8_contract_127 {k : Instr → Nat → Nat → Nat → List Nat → Prop} : xse (xFind tbX8_contract 127) k = k (.iastore) 47 0 0 [] := rfl
theorem tbX8_contract_128 {k : Instr → Nat → Nat → Nat → List Nat → Prop} : xse (xFind tbX8_contract 128) k = k (.aload_n 0) 0 0 0 [] := rfl
theorem tbX8_contract_129 {k : Instr → Nat → Nat → Nat → List Nat → Prop} : xse (xFind tbX8_contract 129) k = k (.getfield 131) 9 48 2 [] := rfl
theorem tbX8_contract_132 {k : Instr → Nat → Nat → Nat → List Nat → Prop} : xse (xFind tbX8_contract 132) k = k (.aload_n 0) 0 0 0 [] := rfl
theorem tbX8_contract_133 {k : Instr → Nat → Nat → Nat → List Nat → Prop} : xse (xFind tbX8_contract 133) k = k (.getfield 173) 9 46 0 [] := rfl
theorem tbX8_contract_136 {k : Instr → Nat → Nat → Nat → List Nat → Prop} : xse (xFind tbX8_contract 136) k = k (.iload_n 2) 2 0 0 [] := rfl
theorem tbX8_contract_137 {k : Instr → Nat → Nat → Nat → List Nat → Prop} : xse (xFind tbX8_contract 137) k = k (.iastore) 48 0 0 [] := rfl
theorem tbX8_contract_138 {k : Instr → Nat → Nat → Nat → List Nat → Prop} : xse (xFind tbX8_contract 138) k = k (.aload_n 0) 0 0 0 [] := rfl
theorem tbX8_contract_139 {k : Instr → Nat → Nat → Nat → List Nat → Prop} : xse (xFind tbX8_contract 139) k = k (.getfield 134) 9 49 2 [] := rfl
theorem tbX8_contract_142 {k : Instr → Nat → Nat → Nat → List Nat → Prop} : xse (xFind tbX8_contract 142) k = k (.aload_n 0) 0 0 0 [] := rfl
theorem tbX8_contract_143 {k : Instr → Nat → Nat → Nat → List Nat → Prop} : xse (xFind tbX8_contract 143) k = k (.getfield 173) 9 46 0 [] := rfl
theorem tbX8_contract_146 {k : Instr → Nat → Nat → Nat → List Nat → Prop} : xse (xFind tbX8_contract 146) k = k (.iload_n 3) 3 0 0 [] := rfl
theorem tbX8_contract_147 {k : Instr → Nat → Nat → Nat → List Nat → Prop} : xse (xFind tbX8_contract 147) k = k (.iastore) 49 0 0 [] := rfl
theorem tbX8_contract_148 {k : Instr → Nat → Nat → Nat → List Nat → Prop} : xse (xFind tbX8_contract 148) k = k (.aload_n 0) 0 0 0 [] := rfl
theorem tbX8_contract_149 {k : Instr → Nat → Nat → Nat → List Nat → Prop} : xse (xFind tbX8_contract 149) k = k (.getfield 137) 9 50 2 [] := rfl
theorem tbX8_contract_152 {k : Instr → Nat → Nat → Nat → List Nat → Prop} : xse (xFind tbX8_contract 152) k = k (.aload_n 0) 0 0 0 [] := rfl
theorem tbX8_contract_153 {k : Instr → Nat → Nat → Nat → List Nat → Prop} : xse (xFind tbX8_contract 153) k = k (.getfield 173) 9 46 0 [] := rfl
theorem tbX8_contract_156 {k : Instr → Nat → Nat → Nat → List Nat → Prop} : xse (xFind tbX8_contract 156) k = k (.iload 4) 4 0 0 [] := rfl
theorem tbX8_contract_158 {k : Instr → Nat → Nat → Nat → List Nat → Prop} : xse (xFind tbX8_contract 158) k = k (.iastore) 50 0 0 [] := rfl
theorem tbX8_contract_159 {k : Instr → Nat → Nat → Nat → List Nat → Prop} : xse (xFind tbX8_contract 159) k = k (.aload_n 0) 0 0 0 [] := rfl
theorem tbX8_contract_160 {k : Instr → Nat → Nat → Nat → List Nat → Prop} : xse (xFind tbX8_contract 160) k = k (.getfield 140) 9 51 2 [] := rfl
theorem tbX8_contract_163 {k : Instr → Nat → Nat → Nat → List Nat → Prop} : xse (xFind tbX8_contract 163) k = k (.aload_n 0) 0 0 0 [] := rfl
theorem tbX8_contract_164 {k : Instr → Nat → Nat → Nat → List Nat → Prop} : xse (xFind tbX8_contract 164) k = k (.getfield 173) 9 46 0 [] := rfl
theorem tbX8_contract_167 {k : Instr → Nat → Nat → Nat → List Nat → Prop} : xse (xFind tbX8_contract 167) k = k (.iload 5) 5 0 0 [] := rfl
theorem tbX8_contract_169 {k : Instr → Nat → Nat → Nat → List Nat → Prop} : xse (xFind tbX8_contract 169) k = k (.iastore) 51 0 0 [] := rfl
theorem tbX8_contract_170 {k : Instr → Nat → Nat → Nat → List Nat → Prop} : xse (xFind tbX8_contract 170) k = k (.aload_n 0) 0 0 0 [] := rfl
theorem tbX8_contract_171 {k : Instr → Nat → Nat → Nat → List Nat → Prop} : xse (xFind tbX8_contract 171) k = k (.getfield 143) 9 52 2 [] := rfl
theorem tbX8_contract_174 {k : Instr → Nat → Nat → Nat → List Nat → Prop} : xse (xFind tbX8_contract 174) k = k (.aload_n 0) 0 0 0 [] := rfl
theorem tbX8_contract_175 {k : Instr → Nat → Nat → Nat → List Nat → Prop} : xse (xFind tbX8_contract 175) k = k (.getfield 173) 9 46 0 [] := rfl
theorem tbX8_contract_178 {k : Instr → Nat → Nat → Nat → List Nat → Prop} : xse (xFind tbX8_contract 178) k = k (.iload 6) 6 0 0 [] := rfl
theorem tbX8_contract_180 {k : Instr → Nat → Nat → Nat → List Nat → Prop} : xse (xFind tbX8_contract 180) k = k (.iastore) 52 0 0 [] := rfl
theorem tbX8_contract_181 {k : Instr → Nat → Nat → Nat → List Nat → Prop} : xse (xFind tbX8_contract 181) k = k (.aload_n 0) 0 0 0 [] := rfl
theorem tbX8_contract_182 {k : Instr → Nat → Nat → Nat → List Nat → Prop} : xse (xFind tbX8_contract 182) k = k (.dup) 0 0 0 [] := rfl
theorem tbX8_contract_183 {k : Instr → Nat → Nat → Nat → List Nat → Prop} : xse (xFind tbX8_contract 183) k = k (.getfield 173) 9 46 0 [] := rfl
theorem tbX8_contract_186 {k : Instr → Nat → Nat → Nat → List Nat → Prop} : xse (xFind tbX8_contract 186) k = k (.iconst 1) 0 0 0 [] := rfl
theorem tbX8_contract_187 {k : Instr → Nat → Nat → Nat → List Nat → Prop} : xse (xFind tbX8_contract 187) k = k (.iadd) 0 0 0 [] := rfl
theorem tbX8_contract_188 {k : Instr → Nat → Nat → Nat → List Nat → Prop} : xse (xFind tbX8_contract 188) k = k (.putfield 173) 9 46 0 [] := rfl
theorem tbX8_contract_191 {k : Instr → Nat → Nat → Nat → List Nat → Prop} : xse (xFind tbX8_contract 191) k = k (.aload_n 0) 0 0 0 [] := rfl
theorem tbX8_contract_192 {k : Instr → Nat → Nat → Nat → List Nat → Prop} : xse (xFind tbX8_contract 192) k = k (.getfield 173) 9 46 0 [] := rfl
theorem tbX8_contract_195 {k : Instr → Nat → Nat → Nat → List Nat → Prop} : xse (xFind tbX8_contract 195) k = k (.iconst 1) 0 0 0 [] := rfl
theorem tbX8_contract_196 {k : Instr → Nat → Nat → Nat → List Nat → Prop} : xse (xFind tbX8_contract 196) k = k (.isub) 0 0 0 [] := rfl
theorem tbX8_contract_197 {k : Instr → Nat → Nat → Nat → List Nat → Prop} : xse (xFind tbX8_contract 197) k = k (.ireturn) 0 0 0 [] := rfl

def spX8_contract (aM : Nat → Nat) : xSp mS := (fun av M => (0, 0), fun av M K => ∃ (k : Int32) (f : Int32) (t : Int32) (u : Int32) (l : Int32) (r : Int32), av = [.ref (aM 0), .int k, .int f, .int t, .int u, .int l, .int r] ∧ ((M.1 46 = nI (nCo M) ∧ nCo M ≤ 12) ∧ K (rI (oContract M k f t u l r).1) (oContract M k f t u l r).2))
theorem spcX8_contract {av : List Value} {M : mS} {aM : Nat → Nat} : (spX8_contract aM).1 av M = (0, 0) := rfl
theorem spwX8_contract {M : mS} {aM : Nat → Nat} {K : xRes → mS → Prop} {k : Int32} {f : Int32} {t : Int32} {u : Int32} {l : Int32} {r : Int32} : (spX8_contract aM).2 [.ref (aM 0), .int k, .int f, .int t, .int u, .int l, .int r] M K = ((M.1 46 = nI (nCo M) ∧ nCo M ≤ 12) ∧ K (rI (oContract M k f t u l r).1) (oContract M k f t u l r).2) :=
  propext ⟨fun h => by
    simp only [spX8_contract] at h
    obtain ⟨_, _, _, _, _, _, e, h⟩ := h
    simp only [List.cons.injEq, Value.int.injEq, Value.ref.injEq, rf_eq, and_true, true_and] at e
    obtain ⟨rfl, rfl, rfl, rfl, rfl, rfl⟩ := e
    exact h, fun h => ⟨_, _, _, _, _, _, rfl, h⟩⟩

def callX8_contract (aM : Nat → Nat) : Nat → Option (xSp mS) := fun n => match n with | 0 => some (spX8_isPoint aM) | 1 => some (spX8_in aM) | 2 => some (spX8_holds aM) | _ => none

theorem callX8_contract_0 {aM : Nat → Nat} {k : xSp mS → Prop} : xcs (callX8_contract aM 0) k = k (spX8_isPoint aM) := rfl

theorem callX8_contract_1 {aM : Nat → Nat} {k : xSp mS → Prop} : xcs (callX8_contract aM 1) k = k (spX8_in aM) := rfl

theorem callX8_contract_2 {aM : Nat → Nat} {k : xSp mS → Prop} : xcs (callX8_contract aM 2) k = k (spX8_holds aM) := rfl

theorem crX8_contract (l : Launch) (W9 : xWd) (aM : Nat → Nat) (hi : mInj aM) : xCallsOK l W9 (mI aM) (callX8_contract aM) clX8_contract RX8 wsX8_contract 2 42 9 := by
  intro E A p e R s m args below meth c hI hF hL X
  exact List.forall_mem_cons.mpr ⟨⟨_, rfl, xCR_S X (by rw [hI]; exact (semX8_isPoint l W9 aM hi)) gX8_contract_X8_isPoint rfl (by decide +kernel) (by rw [hF, hL]; decide)⟩,
    List.forall_mem_cons.mpr ⟨⟨_, rfl, xCR_S X (by rw [hI]; exact (semX8_in l W9 aM hi)) gX8_contract_X8_in rfl (by decide +kernel) (by rw [hF, hL]; decide)⟩,
    List.forall_mem_cons.mpr ⟨⟨_, rfl, xCR_V X (by rw [hI]; exact (semX8_holds l W9 aM hi)) gX8_contract_X8_holds rfl rfl (by decide +kernel) (by rw [hF, hL]; decide)⟩,
    fun _ h => nomatch h⟩⟩⟩

set_option maxHeartbeats 4000000 in
set_option maxRecDepth 20000 in
theorem semX8_contract (l : Launch) (W9 : xWd) (aM : Nat → Nat) (hi : mInj aM) : xSem l W9 (mI aM) yX8_contract wsX8_contract 2 42 (spX8_contract aM) := by
  refine xSem_of (call := callX8_contract aM) (thrf := fun _ => "") (mI_law hi) (by decide +kernel) rfl ckX8_contract usX8_contract (crX8_contract l W9 aM hi) xThrOK_nil ?_ ?_
  · intro av M KF h
    obtain ⟨k, f, t, u, l, r, rfl, h⟩ := h
    exact ⟨by intro v hv; simp only [List.mem_cons, List.not_mem_nil, or_false] at hv; rcases hv with rfl | rfl | rfl | rfl | rfl | rfl | rfl <;> first | rfl | exact cat_rf, Nat.le_of_ble_eq_true rfl⟩
  intro av M KF h G hG
  obtain ⟨k, f, t, u, l, r, rfl, h⟩ := h
  rw [show (spX8_contract aM).1 _ M = _ from spcX8_contract] at hG
  try dsimp only at hG
  change G 0 [some (.ref (aM 0)), some (.int k), some (.int f), some (.int t), some (.int u), some (.int l), some (.int r), none, none] [] M 0 0
  obtain ⟨hn, h⟩ := h
  refine xgo0 hG (fun fu hfu => ?_)
  clear hG
  simp only [↓callX8_contract_0, ↓callX8_contract_1, ↓callX8_contract_2, kb_12, kb_99, kc_12, kc_99, ki_0, ki_1, ki_2, ki_3, ks_300, ks_5000, kt_300, kt_5000, ↓mg_46, ↓mg_47, ↓mg_48, ↓mg_49, ↓mg_50, ↓mg_51, ↓mg_52, misa, ↓mp_46, ↓ms_47, ↓ms_48, ↓ms_49, ↓ms_50, ↓ms_51, ↓ms_52, ↓vm_aload_n, ↓vm_bipush, ↓vm_dup, ↓vm_getfield, ↓vm_goto, ↓vm_iadd, ↓vm_iastore, ↓vm_iconst, ↓vm_ifCond_eq, ↓vm_ifCond_ne, ↓vm_if_icmp_eq, ↓vm_if_icmp_ne, ↓vm_iload, ↓vm_iload_n, ↓vm_invokestatic, ↓vm_invokevirtual, ↓vm_ireturn, ↓vm_istore, ↓vm_isub, ↓vm_putfield, ↓vm_sipush, ↓xc_1, ↓xc_2, ↓xc_3, ↓tbX8_contract_0, ↓tbX8_contract_1, ↓tbX8_contract_4, ↓tbX8_contract_7, ↓tbX8_contract_8, ↓tbX8_contract_11, ↓tbX8_contract_14, ↓tbX8_contract_15, ↓tbX8_contract_18, ↓tbX8_contract_19, ↓tbX8_contract_21, ↓tbX8_contract_22, ↓tbX8_contract_23, ↓tbX8_contract_24, ↓tbX8_contract_27, ↓tbX8_contract_30, ↓tbX8_contract_32, ↓tbX8_contract_33, ↓tbX8_contract_35, ↓tbX8_contract_38, ↓tbX8_contract_41, ↓tbX8_contract_43, ↓tbX8_contract_44, ↓tbX8_contract_47, ↓tbX8_contract_50, ↓tbX8_contract_53, ↓tbX8_contract_55, ↓tbX8_contract_56, ↓tbX8_contract_59, ↓tbX8_contract_62, ↓tbX8_contract_65, ↓tbX8_contract_66, ↓tbX8_contract_67, ↓tbX8_contract_70, ↓tbX8_contract_71, ↓tbX8_contract_74, ↓tbX8_contract_75, ↓tbX8_contract_77, ↓tbX8_contract_78, ↓tbX8_contract_80, ↓tbX8_contract_83, ↓tbX8_contract_84, ↓tbX8_contract_87, ↓tbX8_contract_89, ↓tbX8_contract_92, ↓tbX8_contract_93, ↓tbX8_contract_96, ↓tbX8_contract_97, ↓tbX8_contract_100, ↓tbX8_contract_102, ↓tbX8_contract_105, ↓tbX8_contract_106, ↓tbX8_contract_109, ↓tbX8_contract_110, ↓tbX8_contract_113, ↓tbX8_contract_116, ↓tbX8_contract_117, ↓tbX8_contract_118, ↓tbX8_contract_119, ↓tbX8_contract_122, ↓tbX8_contract_123, ↓tbX8_contract_126, ↓tbX8_contract_127, ↓tbX8_contract_128, ↓tbX8_contract_129, ↓tbX8_contract_132, ↓tbX8_contract_133, ↓tbX8_contract_136, ↓tbX8_contract_137, ↓tbX8_contract_138, ↓tbX8_contract_139, ↓tbX8_contract_142, ↓tbX8_contract_143, ↓tbX8_contract_146, ↓tbX8_contract_147, ↓tbX8_contract_148, ↓tbX8_contract_149, ↓tbX8_contract_152, ↓tbX8_contract_153, ↓tbX8_contract_156, ↓tbX8_contract_158, ↓tbX8_contract_159, ↓tbX8_contract_160, ↓tbX8_contract_163, ↓tbX8_contract_164, ↓tbX8_contract_167, ↓tbX8_contract_169, ↓tbX8_contract_170, ↓tbX8_contract_171, ↓tbX8_contract_174, ↓tbX8_contract_175, ↓tbX8_contract_178, ↓tbX8_contract_180, ↓tbX8_contract_181, ↓tbX8_contract_182, ↓tbX8_contract_183, ↓tbX8_contract_186, ↓tbX8_contract_187, ↓tbX8_contract_188, ↓tbX8_contract_191, ↓tbX8_contract_192, ↓tbX8_contract_195, ↓tbX8_contract_196, ↓tbX8_contract_197, hfu, xstep0, xJ1_hit, xJ1_go, xJ2_hit1, xJ2_hit2, xJ2_go, ↓xif_t, ↓xif_f, seval, ↓xca_eq, ↓xre_l, ↓xre_r, xmask_t, xmask_f, xmask_nil, ↓xst_eq, xX_eq, eI_eq, eMc_eq, eMs_eq, eF_eq, eThr_eq, ↓xS1_mk, ↓xSI_mk, ↓xSR_mk, ↓xLI_0, ↓xLI_s, ↓xLR_0, ↓xLR_s, vRef_ref, vRef_null, vRef_rf, cat_int, cat_ref, cat_null, cat_rf, rf_some, rf_none, rf_null, rf_eq, rf_ref, ref_rf, ref_null, ref_ref, xOk_0, xOk_1, xOk_2r, xOk_2n, xOk_2f, vOpt_rf, vOpt_ref, vOpt_null, List.set_cons_zero, List.set_cons_succ, List.take_succ_cons, List.take_zero, List.drop_succ_cons, List.drop_zero, List.reverse_cons, List.reverse_nil, List.nil_append, List.cons_append, List.append_nil, List.length_cons, List.length_nil, List.map_cons, List.map_nil, List.sum_cons, List.sum_nil, Option.toList_some, Option.toList_none, xRecv_mk, true_and, and_true, true_implies, Nat.reduceAdd, Nat.reduceLeDiff, Nat.zero_le, Nat.le_refl, Nat.add_zero, Nat.zero_add, reduceIte, not_true_eq_false, not_false_eq_true, false_implies, and_self, implies_true, eq_self, Nat.reduceEqDiff, List.cons.injEq, xsn_1, xsn_2, false_and, and_false, or_false, false_or, or_true, true_or, xsn_3, xsn_4, mAst_1, mAst_2, mSet_1, mSet_2, bi_0, ↓spwX8_isPoint, spcX8_isPoint, ↓spwX8_in, spcX8_in, ↓spwX8_holds, spcX8_holds]
  try simp only [xif_e]
  unfold oContract at h
  have h8 : ¬ M.1 46 = 12 → vp_in (M.1 46) 12 := by
    intro q
    rw [hn.1] at q ⊢
    exact xin_nI (by rcases Nat.lt_or_eq_of_le hn.2 with r | r; exact r; exact absurd (by rw [r]; rfl) q) (by omega)
  repeat' (first | with_reducible apply And.intro | with_reducible intro _)
  all_goals grind [bi]

def tbX8_divert : List (Nat × xHint) := [(0, .aload_n 0, 0, 0, 0, []), (1, .iload_n 1, 1, 0, 0, []), (2, .invokevirtual 207, 0, 2, 9, []), (5, .ifCond .eq 14, 19, 0, 0, []), (8, .iload_n 2, 2, 0, 0, []), (9, .invokestatic 163, 1, 1, 0, []), (12, .ifCond .eq 7, 19, 0, 0, []), (15, .iconst 1, 0, 0, 0, []), (16, .goto 4, 20, 0, 0, []), (19, .iconst 0, 0, 0, 0, []), (20, .istore_n 3, 3, 0, 0, []), (21, .aload_n 0, 0, 0, 0, []), (22, .iload_n 3, 3, 0, 0, []), (23, .ifCond .ne 7, 30, 0, 0, []), (26, .iconst 1, 0, 0, 0, []), (27, .goto 28, 55, 0, 0, []), (30, .aload_n 0, 0, 0, 0, []), (31, .getfield 131, 9, 48, 2, []), (34, .iload_n 1, 1, 0, 0, []), (35, .iaload, 48, 0, 0, []), (36, .iload_n 2, 2, 0, 0, []), (37, .if_icmp .eq 13, 50, 0, 0, []), (40, .aload_n 0, 0, 0, 0, []), (41, .getfield 134, 9, 49, 2, []), (44, .iload_n 1, 1, 0, 0, []), (45, .iaload, 49, 0, 0, []), (46, .iload_n 2, 2, 0, 0, []), (47, .if_icmp .ne 7, 54, 0, 0, []), (50, .iconst 2, 0, 0, 0, []), (51, .goto 4, 55, 0, 0, []), (54, .iconst 0, 0, 0, 0, []), (55, .invokevirtual 183, 2, 2, 9, []), (58, .ifCond .ne 5, 63, 0, 0, []), (61, .iconst 0, 0, 0, 0, []), (62, .ireturn, 0, 0, 0, []), (63, .aload_n 0, 0, 0, 0, []), (64, .getfield 134, 9, 49, 2, []), (67, .iload_n 1, 1, 0, 0, []), (68, .iaload, 49, 0, 0, []), (69, .istore 4, 4, 0, 0, []), (71, .aload_n 0, 0, 0, 0, []), (72, .getfield 134, 9, 49, 2, []), (75, .iload_n 1, 1, 0, 0, []), (76, .iload_n 2, 2, 0, 0, []), (77, .iastore, 49, 0, 0, []), (78, .aload_n 0, 0, 0, 0, []), (79, .getfield 152, 9, 55, 2, []), (82, .iload_n 1, 1, 0, 0, []), (83, .dup2, 0, 0, 0, []), (84, .iaload, 55, 0, 0, []), (85, .iconst 1, 0, 0, 0, []), (86, .iadd, 0, 0, 0, []), (87, .iastore, 55, 0, 0, []), (88, .iload 4, 4, 0, 0, []), (90, .ireturn, 0, 0, 0, [])]
def clX8_divert : List (Instr × Nat × Nat × Nat) := [(.invokevirtual 207, 0, 2, 9), (.invokestatic 163, 1, 1, 0), (.invokevirtual 183, 2, 2, 9)]
def thX8_divert : List (Nat × Nat) := []
theorem ckX8_divert : tbX8_divert.all (xRow RX8 cX8_divert wsX8_divert vwCl [9] clX8_divert thX8_divert 5 (yX8_divert.name == "<init>") (some .int)) = true := xRow_q 0xac04154f60042e5c1b9800b42a4f1c1b8600b42a04362e1b8600b42aac0305009ab700b6030400a7050700a01c2e1b8600b42a0d009f1c2e1b8300b42a1c00a70407009a1d2a3e030400a704070099a300b81c0e0099cf00b61b2a 91 (by decide +kernel) (by decide +kernel)
theorem usX8_divert : xUse wsX8_divert vwCl [9] = true := xUse_g rfl (lw_good lwl_X8_divert lwl_X80 (by decide +kernel)) xUse_n
theorem tbX8_divert_0 {k : Instr → Nat → Nat → Nat → List Nat → Prop} : xse (xFind tbX8_divert 0) k = k (.aload_n 0) 0 0 0 [] := rfl
theorem tbX8_divert_1 {k : Instr → Nat → Nat → Nat → List Nat → Prop} : xse (xFind tbX8_divert 1) k = k (.iload_n 1) 1 0 0 [] := rfl
theorem tbX8_divert_2 {k : Instr → Nat → Nat → Nat → List Nat → Prop} : xse (xFind tbX8_divert 2) k = k (.invokevirtual 207) 0 2 9 [] := rfl
theorem tbX8_divert_5 {k : Instr → Nat → Nat → Nat → List Nat → Prop} : xse (xFind tbX8_divert 5) k = k (.ifCond .eq 14) 19 0 0 [] := rfl
theorem tbX8_divert_8 {k : Instr → Nat → Nat → Nat → List Nat → Prop} : xse (xFind tbX8_divert 8) k = k (.iload_n 2) 2 0 0 [] := rfl
theorem tbX8_divert_9 {k : Instr → Nat → Nat → Nat → List Nat → Prop} : xse (xFind tbX8_divert 9) k = k (.invokestatic 163) 1 1 0 [] := rfl
theorem tbX8_divert_12 {k : Instr → Nat → Nat → Nat → List Nat → Prop} : xse (xFind tbX8_divert 12) k = k (.ifCond .eq 7) 19 0 0 [] := rfl
theorem tbX8_divert_15 {k : Instr → Nat → Nat → Nat → List Nat → Prop} : xse (xFind tbX8_divert 15) k = k (.iconst 1) 0 0 0 [] := rfl
theorem tbX8_divert_16 {k : Instr → Nat → Nat → Nat → List Nat → Prop} : xse (xFind tbX8_divert 16) k = k (.goto 4) 20 0 0 [] := rfl
theorem tbX8_divert_19 {k : Instr → Nat → Nat → Nat → List Nat → Prop} : xse (xFind tbX8_divert 19) k = k (.iconst 0) 0 0 0 [] := rfl
theorem tbX8_divert_20 {k : Instr → Nat → Nat → Nat → List Nat → Prop} : xse (xFind tbX8_divert 20) k = k (.istore_n 3) 3 0 0 [] := rfl
theorem tbX8_divert_21 {k : Instr → Nat → Nat → Nat → List Nat → Prop} : xse (xFind tbX8_divert 21) k = k (.aload_n 0) 0 0 0 [] := rfl
theorem tbX8_divert_22 {k : Instr → Nat → Nat → Nat → List Nat → Prop} : xse (xFind tbX8_divert 22) k = k (.iload_n 3) 3 0 0 [] := rfl
theorem tbX8_divert_23 {k : Instr → Nat → Nat → Nat → List Nat → Prop} : xse (xFind tbX8_divert 23) k = k (.ifCond .ne 7) 30 0 0 [] := rfl
theorem tbX8_divert_26 {k : Instr → Nat → Nat → Nat → List Nat → Prop} : xse (xFind tbX8_divert 26) k = k (.iconst 1) 0 0 0 [] := rfl
theorem tbX8_divert_27 {k : Instr → Nat → Nat → Nat → List Nat → Prop} : xse (xFind tbX8_divert 27) k = k (.goto 28) 55 0 0 [] := rfl
theorem tbX8_divert_30 {k : Instr → Nat → Nat → Nat → List Nat → Prop} : xse (xFind tbX8_divert 30) k = k (.aload_n 0) 0 0 0 [] := rfl
theorem tbX8_divert_31 {k : Instr → Nat → Nat → Nat → List Nat → Prop} : xse (xFind tbX8_divert 31) k = k (.getfield 131) 9 48 2 [] := rfl
theorem tbX8_divert_34 {k : Instr → Nat → Nat → Nat → List Nat → Prop} : xse (xFind tbX8_divert 34) k = k (.iload_n 1) 1 0 0 [] := rfl
theorem tbX8_divert_35 {k : Instr → Nat → Nat → Nat → List Nat → Prop} : xse (xFind tbX8_divert 35) k = k (.iaload) 48 0 0 [] := rfl
theorem tbX8_divert_36 {k : Instr → Nat → Nat → Nat → List Nat → Prop} : xse (xFind tbX8_divert 36) k = k (.iload_n 2) 2 0 0 [] := rfl
theorem tbX8_divert_37 {k : Instr → Nat → Nat → Nat → List Nat → Prop} : xse (xFind tbX8_divert 37) k = k (.if_icmp .eq 13) 50 0 0 [] := rfl
theorem tbX8_divert_40 {k : Instr → Nat → Nat → Nat → List Nat → Prop} : xse (xFind tbX8_divert 40) k = k (.aload_n 0) 0 0 0 [] := rfl
theorem tbX8_divert_41 {k : Instr → Nat → Nat → Nat → List Nat → Prop} : xse (xFind tbX8_divert 41) k = k (.getfield 134) 9 49 2 [] := rfl
theorem tbX8_divert_44 {k : Instr → Nat → Nat → Nat → List Nat → Prop} : xse (xFind tbX8_divert 44) k = k (.iload_n 1) 1 0 0 [] := rfl
theorem tbX8_divert_45 {k : Instr → Nat → Nat → Nat → List Nat → Prop} : xse (xFind tbX8_divert 45) k = k (.iaload) 49 0 0 [] := rfl
theorem tbX8_divert_46 {k : Instr → Nat → Nat → Nat → List Nat → Prop} : xse (xFind tbX8_divert 46) k = k (.iload_n 2) 2 0 0 [] := rfl
theorem tbX8_divert_47 {k : Instr → Nat → Nat → Nat → List Nat → Prop} : xse (xFind tbX8_divert 47) k = k (.if_icmp .ne 7) 54 0 0 [] := rfl
theorem tbX8_divert_50 {k : Instr → Nat → Nat → Nat → List Nat → Prop} : xse (xFind tbX8_divert 50) k = k (.iconst 2) 0 0 0 [] := rfl
theorem tbX8_divert_51 {k : Instr → Nat → Nat → Nat → List Nat → Prop} : xse (xFind tbX8_divert 51) k = k (.goto 4) 55 0 0 [] := rfl
theorem tbX8_divert_54 {k : Instr → Nat → Nat → Nat → List Nat → Prop} : xse (xFind tbX8_divert 54) k = k (.iconst 0) 0 0 0 [] := rfl
theorem tbX8_divert_55 {k : Instr → Nat → Nat → Nat → List Nat → Prop} : xse (xFind tbX8_divert 55) k = k (.invokevirtual 183) 2 2 9 [] := rfl
theorem tbX8_divert_58 {k : Instr → Nat → Nat → Nat → List Nat → Prop} : xse (xFind tbX8_divert 58) k = k (.ifCond .ne 5) 63 0 0 [] := rfl
theorem tbX8_divert_61 {k : Instr → Nat → Nat → Nat → List Nat → Prop} : xse (xFind tbX8_divert 61) k = k (.iconst 0) 0 0 0 [] := rfl
theorem tbX8_divert_62 {k : Instr → Nat → Nat → Nat → List Nat → Prop} : xse (xFind tbX8_divert 62) k = k (.ireturn) 0 0 0 [] := rfl
theorem tbX8_divert_63 {k : Instr → Nat → Nat → Nat → List Nat → Prop} : xse (xFind tbX8_divert 63) k = k (.aload_n 0) 0 0 0 [] := rfl
theorem tbX8_divert_64 {k : Instr → Nat → Nat → Nat → List Nat → Prop} : xse (xFind tbX8_divert 64) k = k (.getfield 134) 9 49 2 [] := rfl
theorem tbX8_divert_67 {k : Instr → Nat → Nat → Nat → List Nat → Prop} : xse (xFind tbX8_divert 67) k = k (.iload_n 1) 1 0 0 [] := rfl
theorem tbX8_divert_68 {k : Instr → Nat → Nat → Nat → List Nat → Prop} : xse (xFind tbX8_divert 68) k = k (.iaload) 49 0 0 [] := rfl
theorem tbX8_divert_69 {k : Instr → Nat → Nat → Nat → List Nat → Prop} : xse (xFind tbX8_divert 69) k = k (.istore 4) 4 0 0 [] := rfl
theorem tbX8_divert_71 {k : Instr → Nat → Nat → Nat → List Nat → Prop} : xse (xFind tbX8_divert 71) k = k (.aload_n 0) 0 0 0 [] := rfl
theorem tbX8_divert_72 {k : Instr → Nat → Nat → Nat → List Nat → Prop} : xse (xFind tbX8_divert 72) k = k (.getfield 134) 9 49 2 [] := rfl
theorem tbX8_divert_75 {k : Instr → Nat → Nat → Nat → List Nat → Prop} : xse (xFind tbX8_divert 75) k = k (.iload_n 1) 1 0 0 [] := rfl
theorem tbX8_divert_76 {k : Instr → Nat → Nat → Nat → List Nat → Prop} : xse (xFind tbX8_divert 76) k = k (.iload_n 2) 2 0 0 [] := rfl
theorem tbX8_divert_77 {k : Instr → Nat → Nat → Nat → List Nat → Prop} : xse (xFind tbX8_divert 77) k = k (.iastore) 49 0 0 [] := rfl
theorem tbX8_divert_78 {k : Instr → Nat → Nat → Nat → List Nat → Prop} : xse (xFind tbX8_divert 78) k = k (.aload_n 0) 0 0 0 [] := rfl
theorem tbX8_divert_79 {k : Instr → Nat → Nat → Nat → List Nat → Prop} : xse (xFind tbX8_divert 79) k = k (.getfield 152) 9 55 2 [] := rfl
theorem tbX8_divert_82 {k : Instr → Nat → Nat → Nat → List Nat → Prop} : xse (xFind tbX8_divert 82) k = k (.iload_n 1) 1 0 0 [] := rfl
theorem tbX8_divert_83 {k : Instr → Nat → Nat → Nat → List Nat → Prop} : xse (xFind tbX8_divert 83) k = k (.dup2) 0 0 0 [] := rfl
theorem tbX8_divert_84 {k : Instr → Nat → Nat → Nat → List Nat → Prop} : xse (xFind tbX8_divert 84) k = k (.iaload) 55 0 0 [] := rfl
theorem tbX8_divert_85 {k : Instr → Nat → Nat → Nat → List Nat → Prop} : xse (xFind tbX8_divert 85) k = k (.iconst 1) 0 0 0 [] := rfl
theorem tbX8_divert_86 {k : Instr → Nat → Nat → Nat → List Nat → Prop} : xse (xFind tbX8_divert 86) k = k (.iadd) 0 0 0 [] := rfl
theorem tbX8_divert_87 {k : Instr → Nat → Nat → Nat → List Nat → Prop} : xse (xFind tbX8_divert 87) k = k (.iastore) 55 0 0 [] := rfl
theorem tbX8_divert_88 {k : Instr → Nat → Nat → Nat → List Nat → Prop} : xse (xFind tbX8_divert 88) k = k (.iload 4) 4 0 0 [] := rfl
theorem tbX8_divert_90 {k : Instr → Nat → Nat → Nat → List Nat → Prop} : xse (xFind tbX8_divert 90) k = k (.ireturn) 0 0 0 [] := rfl

def spX8_divert (aM : Nat → Nat) : xSp mS := (fun av M => (0, 0), fun av M K => ∃ (c : Int32) (t : Int32), av = [.ref (aM 0), .int c, .int t] ∧ ((M.1 46 = nI (nCo M) ∧ nCo M ≤ 12) ∧ K (rI (oDivert M c t).1) (oDivert M c t).2))
theorem spcX8_divert {av : List Value} {M : mS} {aM : Nat → Nat} : (spX8_divert aM).1 av M = (0, 0) := rfl
theorem spwX8_divert {M : mS} {aM : Nat → Nat} {K : xRes → mS → Prop} {c : Int32} {t : Int32} : (spX8_divert aM).2 [.ref (aM 0), .int c, .int t] M K = ((M.1 46 = nI (nCo M) ∧ nCo M ≤ 12) ∧ K (rI (oDivert M c t).1) (oDivert M c t).2) :=
  propext ⟨fun h => by
    simp only [spX8_divert] at h
    obtain ⟨_, _, e, h⟩ := h
    simp only [List.cons.injEq, Value.int.injEq, Value.ref.injEq, rf_eq, and_true, true_and] at e
    obtain ⟨rfl, rfl⟩ := e
    exact h, fun h => ⟨_, _, rfl, h⟩⟩

def callX8_divert (aM : Nat → Nat) : Nat → Option (xSp mS) := fun n => match n with | 0 => some (spX8_isContract aM) | 1 => some (spX8_isPoint aM) | 2 => some (spX8_holds aM) | _ => none

theorem callX8_divert_0 {aM : Nat → Nat} {k : xSp mS → Prop} : xcs (callX8_divert aM 0) k = k (spX8_isContract aM) := rfl

theorem callX8_divert_1 {aM : Nat → Nat} {k : xSp mS → Prop} : xcs (callX8_divert aM 1) k = k (spX8_isPoint aM) := rfl

theorem callX8_divert_2 {aM : Nat → Nat} {k : xSp mS → Prop} : xcs (callX8_divert aM 2) k = k (spX8_holds aM) := rfl

theorem crX8_divert (l : Launch) (W9 : xWd) (aM : Nat → Nat) (hi : mInj aM) : xCallsOK l W9 (mI aM) (callX8_divert aM) clX8_divert RX8 wsX8_divert 2 43 5 := by
  intro E A p e R s m args below meth c hI hF hL X
  exact List.forall_mem_cons.mpr ⟨⟨_, rfl, xCR_V X (by rw [hI]; exact (semX8_isContract l W9 aM hi)) gX8_divert_X8_isContract rfl rfl (by decide +kernel) (by rw [hF, hL]; decide)⟩,
    List.forall_mem_cons.mpr ⟨⟨_, rfl, xCR_S X (by rw [hI]; exact (semX8_isPoint l W9 aM hi)) gX8_divert_X8_isPoint rfl (by decide +kernel) (by rw [hF, hL]; decide)⟩,
    List.forall_mem_cons.mpr ⟨⟨_, rfl, xCR_V X (by rw [hI]; exact (semX8_holds l W9 aM hi)) gX8_divert_X8_holds rfl rfl (by decide +kernel) (by rw [hF, hL]; decide)⟩,
    fun _ h => nomatch h⟩⟩⟩

set_option maxHeartbeats 4000000 in
set_option maxRecDepth 20000 in
theorem semX8_divert (l : Launch) (W9 : xWd) (aM : Nat → Nat) (hi : mInj aM) : xSem l W9 (mI aM) yX8_divert wsX8_divert 2 43 (spX8_divert aM) := by
  refine xSem_of (call := callX8_divert aM) (thrf := fun _ => "") (mI_law hi) (by decide +kernel) rfl ckX8_divert usX8_divert (crX8_divert l W9 aM hi) xThrOK_nil ?_ ?_
  · intro av M KF h
    obtain ⟨c, t, rfl, h⟩ := h
    exact ⟨by intro v hv; simp only [List.mem_cons, List.not_mem_nil, or_false] at hv; rcases hv with rfl | rfl | rfl <;> first | rfl | exact cat_rf, Nat.le_of_ble_eq_true rfl⟩
  intro av M KF h G hG
  obtain ⟨c, t, rfl, h⟩ := h
  rw [show (spX8_divert aM).1 _ M = _ from spcX8_divert] at hG
  try dsimp only at hG
  change G 0 [some (.ref (aM 0)), some (.int c), some (.int t), none, none] [] M 0 0
  obtain ⟨hn, h⟩ := h
  refine xgo0 hG (fun fu hfu => ?_)
  clear hG
  simp only [↓callX8_divert_0, ↓callX8_divert_1, ↓callX8_divert_2, ki_0, ki_1, ki_2, ↓ma_48, ↓ma_49, ↓ma_55, ↓mg_48, ↓mg_49, ↓mg_55, misa, ↓ms_49, ↓ms_55, ↓vm_aload_n, ↓vm_dup2, ↓vm_getfield, ↓vm_goto, ↓vm_iadd, ↓vm_iaload, ↓vm_iastore, ↓vm_iconst, ↓vm_ifCond_eq, ↓vm_ifCond_ne, ↓vm_if_icmp_eq, ↓vm_if_icmp_ne, ↓vm_iload, ↓vm_iload_n, ↓vm_invokestatic, ↓vm_invokevirtual, ↓vm_ireturn, ↓vm_istore, ↓vm_istore_n, ↓xc_1, ↓xc_2, ↓tbX8_divert_0, ↓tbX8_divert_1, ↓tbX8_divert_2, ↓tbX8_divert_5, ↓tbX8_divert_8, ↓tbX8_divert_9, ↓tbX8_divert_12, ↓tbX8_divert_15, ↓tbX8_divert_16, ↓tbX8_divert_19, ↓tbX8_divert_20, ↓tbX8_divert_21, ↓tbX8_divert_22, ↓tbX8_divert_23, ↓tbX8_divert_26, ↓tbX8_divert_27, ↓tbX8_divert_30, ↓tbX8_divert_31, ↓tbX8_divert_34, ↓tbX8_divert_35, ↓tbX8_divert_36, ↓tbX8_divert_37, ↓tbX8_divert_40, ↓tbX8_divert_41, ↓tbX8_divert_44, ↓tbX8_divert_45, ↓tbX8_divert_46, ↓tbX8_divert_47, ↓tbX8_divert_50, ↓tbX8_divert_51, ↓tbX8_divert_54, ↓tbX8_divert_55, ↓tbX8_divert_58, ↓tbX8_divert_61, ↓tbX8_divert_62, ↓tbX8_divert_63, ↓tbX8_divert_64, ↓tbX8_divert_67, ↓tbX8_divert_68, ↓tbX8_divert_69, ↓tbX8_divert_71, ↓tbX8_divert_72, ↓tbX8_divert_75, ↓tbX8_divert_76, ↓tbX8_divert_77, ↓tbX8_divert_78, ↓tbX8_divert_79, ↓tbX8_divert_82, ↓tbX8_divert_83, ↓tbX8_divert_84, ↓tbX8_divert_85, ↓tbX8_divert_86, ↓tbX8_divert_87, ↓tbX8_divert_88, ↓tbX8_divert_90, hfu, xstep0, xJ1_hit, xJ1_go, xJ2_hit1, xJ2_hit2, xJ2_go, ↓xif_t, ↓xif_f, seval, ↓xca_eq, ↓xre_l, ↓xre_r, xmask_t, xmask_f, xmask_nil, ↓xst_eq, xX_eq, eI_eq, eMc_eq, eMs_eq, eF_eq, eThr_eq, ↓xS1_mk, ↓xSI_mk, ↓xSR_mk, ↓xLI_0, ↓xLI_s, ↓xLR_0, ↓xLR_s, vRef_ref, vRef_null, vRef_rf, cat_int, cat_ref, cat_null, cat_rf, rf_some, rf_none, rf_null, rf_eq, rf_ref, ref_rf, ref_null, ref_ref, xOk_0, xOk_1, xOk_2r, xOk_2n, xOk_2f, vOpt_rf, vOpt_ref, vOpt_null, List.set_cons_zero, List.set_cons_succ, List.take_succ_cons, List.take_zero, List.drop_succ_cons, List.drop_zero, List.reverse_cons, List.reverse_nil, List.nil_append, List.cons_append, List.append_nil, List.length_cons, List.length_nil, List.map_cons, List.map_nil, List.sum_cons, List.sum_nil, Option.toList_some, Option.toList_none, xRecv_mk, true_and, and_true, true_implies, Nat.reduceAdd, Nat.reduceLeDiff, Nat.zero_le, Nat.le_refl, Nat.add_zero, Nat.zero_add, reduceIte, not_true_eq_false, not_false_eq_true, false_implies, and_self, implies_true, eq_self, Nat.reduceEqDiff, List.cons.injEq, xsn_1, xsn_2, false_and, and_false, or_false, false_or, or_true, true_or, xsn_3, xsn_4, mAst_1, mAst_2, mSet_1, mSet_2, bi_0, ↓spwX8_isContract, spcX8_isContract, ↓spwX8_isPoint, spcX8_isPoint, ↓spwX8_holds, spcX8_holds]
  try simp only [xif_e]
  unfold oDivert at h
  have h6 := @in_co M c hn
  repeat' (first | with_reducible apply And.intro | with_reducible intro _)
  all_goals grind [bi]
