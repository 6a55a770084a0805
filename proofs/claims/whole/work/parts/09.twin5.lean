/-! The twin's methods: cargo, boats. -/
def iBg (M : mS) (b : Int32) : Prop := 0 ≤ b ∧ b ≤ M.1 22 - 1
def iBt (M : mS) (b : Int32) : Prop := 0 ≤ b ∧ b ≤ M.1 29 - 1
def iCo (M : mS) (b : Int32) : Prop := 0 ≤ b ∧ b ≤ M.1 46 - 1
def mInH (M : mS) (p : Int32) : Int32 := if M.2 20 p.toNatClampNeg = M.1 1 then M.2 21 p.toNatClampNeg else 0
def oLoad (M : mS) (b c u : Int32) : Int32 × mS :=
  if ¬ ((0 ≤ b ∧ b ≤ M.1 22 - 1) ∧ 0 ≤ c ∧ c ≤ M.1 46 - 1) then (0, mSet M 0 1)
  else if ¬ (1 ≤ u ∧ u ≤ 12) then (0, mSet M 0 2)
  else if ¬ mCan M b c u (mPlc M b) (nBg M) then (0, mSet M 0 3)
  else (M.2 24 b.toNatClampNeg + u, mAst (mAst (mAst (mAst (mAst (mSet M 0 0) 21 (M.2 48 c.toNatClampNeg).toNatClampNeg ((if M.2 20 (M.2 48 c.toNatClampNeg).toNatClampNeg = M.1 1 then M.2 21 (M.2 48 c.toNatClampNeg).toNatClampNeg else 0) + u)) 20 (M.2 48 c.toNatClampNeg).toNatClampNeg (M.1 1)) 24 b.toNatClampNeg (M.2 24 b.toNatClampNeg + u)) 25 b.toNatClampNeg c) 26 b.toNatClampNeg (M.2 47 c.toNatClampNeg))
def mBtw (a b : Int32) : Int32 := if a < b then b - a else a - b
def mPay (M : mS) (b c : Int32) : Int32 := M.2 24 b.toNatClampNeg * (10 * mBtw (M.2 48 c.toNatClampNeg) (M.2 49 c.toNatClampNeg) * M.2 52 c.toNatClampNeg / 100 + 5 * M.2 55 c.toNatClampNeg - (if M.2 51 c.toNatClampNeg < M.1 1 then M.1 1 - M.2 51 c.toNatClampNeg else 0))
def oUnload (M : mS) (b : Int32) : Int32 × mS :=
  if ¬ (0 ≤ b ∧ b ≤ M.1 22 - 1) then (0, mSet M 0 1)
  else if M.2 24 b.toNatClampNeg = 0 ∨ ¬ (M.2 28 b.toNatClampNeg = -1 ∧ M.2 27 b.toNatClampNeg / 2 = M.2 49 (M.2 25 b.toNatClampNeg).toNatClampNeg ∧ mOut M b (mPlc M b) = 0) then (0, mSet M 0 2)
  else (mPay M b (M.2 25 b.toNatClampNeg), mAst (mAst (mAst (mAst (mSet M 0 0) 53 (M.2 25 b.toNatClampNeg).toNatClampNeg (M.2 53 (M.2 25 b.toNatClampNeg).toNatClampNeg + M.2 24 b.toNatClampNeg)) 54 (M.2 25 b.toNatClampNeg).toNatClampNeg (M.2 54 (M.2 25 b.toNatClampNeg).toNatClampNeg + mPay M b (M.2 25 b.toNatClampNeg))) 24 b.toNatClampNeg 0) 25 b.toNatClampNeg (-1))
def oClean (M : mS) (b : Int32) : Int32 × mS :=
  if ¬ (0 ≤ b ∧ b ≤ M.1 22 - 1) then (0, mSet M 0 1)
  else if ¬ M.2 28 b.toNatClampNeg = -1 ∨ 0 < M.2 24 b.toNatClampNeg ∨ M.2 26 b.toNatClampNeg = -1 then (0, mSet M 0 2)
  else (M.2 26 b.toNatClampNeg, mSet (mAst (mSet M 0 0) 26 b.toNatClampNeg (-1)) 57 (M.1 57 + 20))
def oBoat (M : mS) (w h p : Int32) : Int32 × mS :=
  if ¬ (0 ≤ p ∧ p ≤ 7) then (0, mSet M 0 1)
  else if ¬ ((1 ≤ w ∧ w ≤ 9) ∧ 1 ≤ h ∧ h ≤ 4) then (0, mSet M 0 2)
  else if M.1 29 = 6 then (0, mSet M 0 3)
  else (M.1 29 + 1 - 1, mSet (mAst (mAst (mAst (mAst (mAst (mAst (mAst (mSet M 0 0) 30 (M.1 29).toNatClampNeg w) 31 (M.1 29).toNatClampNeg h) 33 (M.1 29).toNatClampNeg p) 34 (M.1 29).toNatClampNeg (-1)) 37 (M.1 29).toNatClampNeg (-1)) 38 (M.1 29).toNatClampNeg (M.1 1)) 40 (M.1 29).toNatClampNeg 2) 29 (M.1 29 + 1))
def oFuel (M : mS) (w u : Int32) : Int32 × mS :=
  if ¬ (0 ≤ w ∧ w ≤ M.1 29 - 1) then (0, mSet M 0 1)
  else if ¬ (1 ≤ u ∧ u ≤ 999) then (0, mSet M 0 2)
  else if ¬ M.2 34 w.toNatClampNeg = -1 ∨ 999 < M.2 32 w.toNatClampNeg + u then (0, mSet M 0 3)
  else (M.2 32 w.toNatClampNeg + u, mSet (mAst (mSet M 0 0) 32 w.toNatClampNeg (M.2 32 w.toNatClampNeg + u)) 58 (M.1 58 + u))
def oWide (M : mS) (w n : Int32) : Int32 × mS :=
  if ¬ (0 ≤ w ∧ w ≤ M.1 29 - 1) then (0, mSet M 0 1)
  else if ¬ (1 ≤ n ∧ n ≤ 4) then (0, mSet M 0 2)
  else if 0 < M.2 42 w.toNatClampNeg then (0, mSet M 0 3)
  else (M.2 40 w.toNatClampNeg, mAst (mSet M 0 0) 40 w.toNatClampNeg n)
def oRadio (M : mS) (w v z : Int32) : Int32 × mS :=
  if ¬ ((0 ≤ w ∧ w ≤ M.1 29 - 1) ∧ 0 ≤ v ∧ v ≤ M.1 29 - 1) then (0, mSet M 0 1)
  else if w = v then (0, mSet M 0 2)
  else (M.2 45 (6 * w + v).toNatClampNeg, mAst (mAst (mSet M 0 0) 45 (6 * w + v).toNatClampNeg z) 45 (6 * v + w).toNatClampNeg z)
def oGo (M : mS) (w p : Int32) : Int32 × mS :=
  if ¬ ((0 ≤ w ∧ w ≤ M.1 29 - 1) ∧ 0 ≤ p ∧ p ≤ 7) then (0, mSet M 0 1)
  else (M.2 37 w.toNatClampNeg, mAst (mAst (mSet M 0 0) 37 w.toNatClampNeg (if M.2 34 w.toNatClampNeg = -1 ∧ M.2 33 w.toNatClampNeg = p then -1 else p)) 38 w.toNatClampNeg (if M.2 34 w.toNatClampNeg = -1 then M.1 1 else M.2 38 w.toNatClampNeg))
def mWts (M : mS) (w c : Int32) : mS := mAst (mAst M 43 w.toNatClampNeg c) 44 (10 * w + c).toNatClampNeg (M.2 44 (10 * w + c).toNatClampNeg + 1)
theorem in_sq {w v : Int32} (h1 : vp_in w 6) (h2 : vp_in v 6) : vp_in (6 * w + v) 36 := by
  obtain ⟨a, ha, rfl⟩ := vp_in_of h1 (by omega)
  obtain ⟨b, hb, rfl⟩ := vp_in_of h2 (by omega)
  rw [m6_nI, add_nI]
  exact xin_nI (by omega) (by omega)
theorem in_wt {w v : Int32} (h1 : vp_in w 6) (h2 : vp_in v 10) : vp_in (10 * w + v) 60 := by
  obtain ⟨a, ha, rfl⟩ := vp_in_of h1 (by omega)
  obtain ⟨b, hb, rfl⟩ := vp_in_of h2 (by omega)
  rw [m10_nI, add_nI]
  exact xin_nI (by omega) (by omega)

def tbX8_load : List (Nat × xHint) := [(0, .aload_n 0, 0, 0, 0, []), (1, .iload_n 1, 1, 0, 0, []), (2, .invokevirtual 234, 0, 2, 9, []), (5, .ifCond .eq 15, 20, 0, 0, []), (8, .aload_n 0, 0, 0, 0, []), (9, .iload_n 2, 2, 0, 0, []), (10, .invokevirtual 207, 1, 2, 9, []), (13, .ifCond .eq 7, 20, 0, 0, []), (16, .iconst 1, 0, 0, 0, []), (17, .goto 4, 21, 0, 0, []), (20, .iconst 0, 0, 0, 0, []), (21, .istore 4, 4, 0, 0, []), (23, .aload_n 0, 0, 0, 0, []), (24, .iload 4, 4, 0, 0, []), (26, .ifCond .ne 7, 33, 0, 0, []), (29, .iconst 1, 0, 0, 0, []), (30, .goto 32, 62, 0, 0, []), (33, .iload_n 3, 3, 0, 0, []), (34, .iconst 1, 0, 0, 0, []), (35, .bipush 12, 0, 0, 0, []), (37, .invokestatic 159, 2, 3, 0, []), (40, .ifCond .ne 7, 47, 0, 0, []), (43, .iconst 2, 0, 0, 0, []), (44, .goto 18, 62, 0, 0, []), (47, .aload_n 0, 0, 0, 0, []), (48, .iload_n 1, 1, 0, 0, []), (49, .iload_n 2, 2, 0, 0, []), (50, .iload_n 3, 3, 0, 0, []), (51, .invokevirtual 237, 3, 4, 9, []), (54, .ifCond .eq 7, 61, 0, 0, []), (57, .iconst 0, 0, 0, 0, []), (58, .goto 4, 62, 0, 0, []), (61, .iconst 3, 0, 0, 0, []), (62, .invokevirtual 183, 4, 2, 9, []), (65, .ifCond .ne 5, 70, 0, 0, []), (68, .iconst 0, 0, 0, 0, []), (69, .ireturn, 0, 0, 0, []), (70, .aload_n 0, 0, 0, 0, []), (71, .getfield 131, 9, 48, 2, []), (74, .iload_n 2, 2, 0, 0, []), (75, .iaload, 48, 0, 0, []), (76, .istore 5, 5, 0, 0, []), (78, .aload_n 0, 0, 0, 0, []), (79, .getfield 59, 9, 21, 2, []), (82, .iload 5, 5, 0, 0, []), (84, .aload_n 0, 0, 0, 0, []), (85, .getfield 56, 9, 20, 2, []), (88, .iload 5, 5, 0, 0, []), (90, .iaload, 20, 0, 0, []), (91, .aload_n 0, 0, 0, 0, []), (92, .getfield 228, 9, 1, 0, []), (95, .if_icmp .ne 13, 108, 0, 0, []), (98, .aload_n 0, 0, 0, 0, []), (99, .getfield 59, 9, 21, 2, []), (102, .iload 5, 5, 0, 0, []), (104, .iaload, 21, 0, 0, []), (105, .goto 4, 109, 0, 0, []), (108, .iconst 0, 0, 0, 0, []), (109, .iload_n 3, 3, 0, 0, []), (110, .iadd, 0, 0, 0, []), (111, .iastore, 21, 0, 0, []), (112, .aload_n 0, 0, 0, 0, []), (113, .getfield 56, 9, 20, 2, []), (116, .iload 5, 5, 0, 0, []), (118, .aload_n 0, 0, 0, 0, []), (119, .getfield 228, 9, 1, 0, []), (122, .iastore, 20, 0, 0, []), (123, .aload_n 0, 0, 0, 0, []), (124, .getfield 65, 9, 24, 2, []), (127, .iload_n 1, 1, 0, 0, []), (128, .dup2, 0, 0, 0, []), (129, .iaload, 24, 0, 0, []), (130, .iload_n 3, 3, 0, 0, []), (131, .iadd, 0, 0, 0, []), (132, .iastore, 24, 0, 0, []), (133, .aload_n 0, 0, 0, 0, []), (134, .getfield 68, 9, 25, 2, []), (137, .iload_n 1, 1, 0, 0, []), (138, .iload_n 2, 2, 0, 0, []), (139, .iastore, 25, 0, 0, []), (140, .aload_n 0, 0, 0, 0, []), (141, .getfield 71, 9, 26, 2, []), (144, .iload_n 1, 1, 0, 0, []), (145, .aload_n 0, 0, 0, 0, []), (146, .getfield 128, 9, 47, 2, []), (149, .iload_n 2, 2, 0, 0, []), (150, .iaload, 47, 0, 0, []), (151, .iastore, 26, 0, 0, []), (152, .aload_n 0, 0, 0, 0, []), (153, .getfield 65, 9, 24, 2, []), (156, .iload_n 1, 1, 0, 0, []), (157, .iaload, 24, 0, 0, []), (158, .ireturn, 0, 0, 0, [])]
def clX8_load : List (Instr × Nat × Nat × Nat) := [(.invokevirtual 234, 0, 2, 9), (.invokevirtual 207, 1, 2, 9), (.invokestatic 159, 2, 3, 0), (.invokevirtual 237, 3, 4, 9), (.invokevirtual 183, 4, 2, 9)]
def thX8_load : List (Nat × Nat) := []
theorem ckX8_load : tbX8_load.all (xRow RX8 cX8_load wsX8_load vwCl [9] clX8_load thX8_load 6 (yX8_load.name == "<init>") (some .int)) = true := xRow_q 0xac2e1b4100b42a4f2e1c8000b42a1b4700b42a4f1c1b4400b42a4f601d2e5c1b4100b42a4fe400b42a05153800b42a4f601d030400a72e05153b00b42a0d00a0e400b42a2e05153800b42a05153b00b42a05362e1c8300b42aac0305009ab700b6060400a703070099ed00b61d1c1b2a1200a70507009a9f00b80c10041d2000a70407009a04152a0436030400a704070099cf00b61c2a0f0099ea00b61b2a 159 (by decide +kernel) (by decide +kernel)
theorem usX8_load : xUse wsX8_load vwCl [9] = true := xUse_g rfl (lw_good lwl_X8_load lwl_X80 (by decide +kernel)) xUse_n
theorem tbX8_load_0 {k : Instr → Nat → Nat → Nat → List Nat → Prop} : xse (xFind tbX8_load 0) k = k (.aload_n 0) 0 0 0 [] := rfl
theorem tbX8_load_1 {k : Instr → Nat → Nat → Nat → List Nat → Prop} : xse (xFind tbX8_load 1) k = k (.iload_n 1) 1 0 0 [] := rfl
theorem tbX8_load_2 {k : Instr → Nat → Nat → Nat → List Nat → Prop} : xse (xFind tbX8_load 2) k = k (.invokevirtual 234) 0 2 9 [] := rfl
theorem tbX8_load_5 {k : Instr → Nat → Nat → Nat → List Nat → Prop} : xse (xFind tbX8_load 5) k = k (.ifCond .eq 15) 20 0 0 [] := rfl
theorem tbX8_load_8 {k : Instr → Nat → Nat → Nat → List Nat → Prop} : xse (xFind tbX8_load 8) k = k (.aload_n 0) 0 0 0 [] := rfl
theorem tbX8_load_9 {k : Instr → Nat → Nat → Nat → List Nat → Prop} : xse (xFind tbX8_load 9) k = k (.iload_n 2) 2 0 0 [] := rfl
theorem tbX8_load_10 {k : Instr → Nat → Nat → Nat → List Nat → Prop} : xse (xFind tbX8_load 10) k = k (.invokevirtual 207) 1 2 9 [] := rfl
theorem tbX8_load_13 {k : Instr → Nat → Nat → Nat → List Nat → Prop} : xse (xFind tbX8_load 13) k = k (.ifCond .eq 7) 20 0 0 [] := rfl
theorem tbX8_load_16 {k : Instr → Nat → Nat → Nat → List Nat → Prop} : xse (xFind tbX8_load 16) k = k (.iconst 1) 0 0 0 [] := rfl
theorem tbX8_load_17 {k : Instr → Nat → Nat → Nat → List Nat → Prop} : xse (xFind tbX8_load 17) k = k (.goto 4) 21 0 0 [] := rfl
theorem tbX8_load_20 {k : Instr → Nat → Nat → Nat → List Nat → Prop} : xse (xFind tbX8_load 20) k = k (.iconst 0) 0 0 0 [] := rfl
theorem tbX8_load_21 {k : Instr → Nat → Nat → Nat → List Nat → Prop} : xse (xFind tbX8_load 21) k = k (.istore 4) 4 0 0 [] := rfl
theorem tbX8_load_23 {k : Instr → Nat → Nat → Nat → List Nat → Prop} : xse (xFind tbX8_load 23) k = k (.aload_n 0) 0 0 0 [] := rfl
theorem tbX8_load_24 {k : Instr → Nat → Nat → Nat → List Nat → Prop} : xse (xFind tbX8_load 24) k = k (.iload 4) 4 0 0 [] := rfl
theorem tbX8_load_26 {k : Instr → Nat → Nat → Nat → List Nat → Prop} : xse (xFind tbX8_load 26) k = k (.ifCond .ne 7) 33 0 0 [] := rfl
theorem tbX8_load_29 {k : Instr → Nat → Nat → Nat → List Nat → Prop} : xse (xFind tbX8_load 29) k = k (.iconst 1) 0 0 0 [] := rfl
theorem tbX8_load_30 {k : Instr → Nat → Nat → Nat → List Nat → Prop} : xse (xFind tbX8_load 30) k = k (.goto 32) 62 0 0 [] := rfl
theorem tbX8_load_33 {k : Instr → Nat → Nat → Nat → List Nat → Prop} : xse (xFind tbX8_load 33) k = k (.iload_n 3) 3 0 0 [] := rfl
theorem tbX8_load_34 {k : Instr → Nat → Nat → Nat → List Nat → Prop} : xse (xFind tbX8_load 34) k = k (.iconst 1) 0 0 0 [] := rfl
theorem tbX8_load_35 {k : Instr → Nat → Nat → Nat → List Nat → Prop} : xse (xFind tbX8_load 35) k = k (.bipush 12) 0 0 0 [] := rfl
theorem tbX8_load_37 {k : Instr → Nat → Nat → Nat → List Nat → Prop} : xse (xFind tbX8_load 37) k = k (.invokestatic 159) 2 3 0 [] := rfl
theorem tbX8_load_40 {k : Instr → Nat → Nat → Nat → List Nat → Prop} : xse (xFind tbX8_load 40) k = k (.ifCond .ne 7) 47 0 0 [] := rfl
theorem tbX8_load_43 {k : Instr → Nat → Nat → Nat → List Nat → Prop} : xse (xFind tbX8_load 43) k = k (.iconst 2) 0 0 0 [] := rfl
theorem tbX8_load_44 {k : Instr → Nat → Nat → Nat → List Nat → Prop} : xse (xFind tbX8_load 44) k = k (.goto 18) 62 0 0 [] := rfl
theorem tbX8_load_47 {k : Instr → Nat → Nat → Nat → List Nat → Prop} : xse (xFind tbX8_load 47) k = k (.aload_n 0) 0 0 0 [] := rfl
theorem tbX8_load_48 {k : Instr → Nat → Nat → Nat → List Nat → Prop} : xse (xFind tbX8_load 48) k = k (.iload_n 1) 1 0 0 [] := rfl
theorem tbX8_load_49 {k : Instr → Nat → Nat → Nat → List Nat → Prop} : xse (xFind tbX8_load 49) k = k (.iload_n 2) 2 0 0 [] := rfl
theorem tbX8_load_50 {k : Instr → Nat → Nat → Nat → List Nat → Prop} : xse (xFind tbX8_load 50) k = k (.iload_n 3) 3 0 0 [] := rfl
theorem tbX8_load_51 {k : Instr → Nat → Nat → Nat → List Nat → Prop} : xse (xFind tbX8_load 51) k = k (.invokevirtual 237) 3 4 9 [] := rfl
theorem tbX8_load_54 {k : Instr → Nat → Nat → Nat → List Nat → Prop} : xse (xFind tbX8_load 54) k = k (.ifCond .eq 7) 61 0 0 [] := rfl
theorem tbX8_load_57 {k : Instr → Nat → Nat → Nat → List Nat → Prop} : xse (xFind tbX8_load 57) k = k (.iconst 0) 0 0 0 [] := rfl
theorem tbX8_load_58 {k : Instr → Nat → Nat → Nat → List Nat → Prop} : xse (xFind tbX8_load 58) k = k (.goto 4) 62 0 0 [] := rfl
theorem tbX8_load_61 {k : Instr → Nat → Nat → Nat → List Nat → Prop} : xse (xFind tbX8_load 61) k = k (.iconst 3) 0 0 0 [] := rfl
theorem tbX8_load_62 {k : Instr → Nat → Nat → Nat → List Nat → Prop} : xse (xFind tbX8_load 62) k = k (.invokevirtual 183) 4 2 9 [] := rfl
theorem tbX8_load_65 {k : Instr → Nat → Nat → Nat → List Nat → Prop} : xse (xFind tbX8_load 65) k = k (.ifCond .ne 5) 70 0 0 [] := rfl
theorem tbX8_load_68 {k : Instr → Nat → Nat → Nat → List Nat → Prop} : xse (xFind tbX8_load 68) k = k (.iconst 0) 0 0 0 [] := rfl
theorem tbX8_load_69 {k : Instr → Nat → Nat → Nat → List Nat → Prop} : xse (xFind tbX8_load 69) k = k (.ireturn) 0 0 0 [] := rfl
theorem tbX8_load_70 {k : Instr → Nat → Nat → Nat → List Nat → Prop} : xse (xFind tbX8_load 70) k = k (.aload_n 0) 0 0 0 [] := rfl
theorem tbX8_load_71 {k : Instr → Nat → Nat → Nat → List Nat → Prop} : xse (xFind tbX8_load 71) k = k (.getfield 131) 9 48 2 [] := rfl
theorem tbX8_load_74 {k : Instr → Nat → Nat → Nat → List Nat → Prop} : xse (xFind tbX8_load 74) k = k (.iload_n 2) 2 0 0 [] := rfl
theorem tbX8_load_75 {k : Instr → Nat → Nat → Nat → List Nat → Prop} : xse (xFind tbX8_load 75) k = k (.iaload) 48 0 0 [] := rfl
theorem tbX8_load_76 {k : Instr → Nat → Nat → Nat → List Nat → Prop} : xse (xFind tbX8_load 76) k = k (.istore 5) 5 0 0 [] := rfl
theorem tbX8_load_78 {k : Instr → Nat → Nat → Nat → List Nat → Prop} : xse (xFind tbX8_load 78) k = k (.aload_n 0) 0 0 0 [] := rfl
theorem tbX8_load_79 {k : Instr → Nat → Nat → Nat → List Nat → Prop} : xse (xFind tbX8_load 79) k = k (.getfield 59) 9 21 2 [] := rfl
theorem tbX8_load_82 {k : Instr → Nat → Nat → Nat → List Nat → Prop} : xse (xFind tbX8_load 82) k = k (.iload 5) 5 0 0 [] := rfl
theorem tbX8_load_84 {k : Instr → Nat → Nat → Nat → List Nat → Prop} : xse (xFind tbX8_load 84) k = k (.aload_n 0) 0 0 0 [] := rfl
theorem tbX8_load_85 {k : Instr → Nat → Nat → Nat → List Nat → Prop} : xse (xFind tbX8_load 85) k = k (.getfield 56) 9 20 2 [] := rfl
theorem tbX8_load_88 {k : Instr → Nat → Nat → Nat → List Nat → Prop} : xse (xFind tbX8_load 88) k = k (.iload 5) 5 0 0 [] := rfl
theorem tbX8_load_90 {k : Instr → Nat → Nat → Nat → List Nat → Prop} : xse (xFind tbX8_load 90) k = k (.iaload) 20 0 0 [] := rfl
theorem tbX8_load_91 {k : Instr → Nat → Nat → Nat → List Nat → Prop} : xse (xFind tbX8_load 91) k = k (.aload_n 0) 0 0 0 [] := rfl
theorem tbX8_load_92 {k : Instr → Nat → Nat → Nat → List Nat → Prop} : xse (xFind tbX8_load 92) k = k (.getfield 228) 9 1 0 [] := rfl
theorem tbX8_load_95 {k : Instr → Nat → Nat → Nat → List Nat → Prop} : xse (xFind tbX8_load 95) k = k (.if_icmp .ne 13) 108 0 0 [] := rfl
theorem tbX8_load_98 {k : Instr → Nat → Nat → Nat → List Nat → Prop} : xse (xFind tbX8_load 98) k = k (.aload_n 0) 0 0 0 [] := rfl
theorem tbX8_load_99 {k : Instr → Nat → Nat → Nat → List Nat → Prop} : xse (xFind tbX8_load 99) k = k (.getfield 59) 9 21 2 [] := rfl
theorem tbX8_load_102 {k : Instr → Nat → Nat → Nat → List Nat → Prop} : xse (xFind tbX8_load 102) k = k (.iload 5) 5 0 0 [] := rfl
theorem tbX8_load_104 {k : Instr → Nat → Nat → Nat → List Nat → Prop} : xse (xFind tbX8_load 104) k = k (.iaload) 21 0 0 [] := rfl
theorem tbX8_load_105 {k : Instr → Nat → Nat → Nat → List Nat → Prop} : xse (xFind tbX8_load 105) k = k (.goto 4) 109 0 0 [] := rfl
theorem tbX8_load_108 {k : Instr → Nat → Nat → Nat → List Nat → Prop} : xse (xFind tbX8_load 108) k = k (.iconst 0) 0 0 0 [] := rfl
theorem tbX8_load_109 {k : Instr → Nat → Nat → Nat → List Nat → Prop} : xse (xFind tbX8_load 109) k = k (.iload_n 3) 3 0 0 [] := rfl
theorem tbX8_load_110 {k : Instr → Nat → Nat → Nat → List Nat → Prop} : xse (xFind tbX8_load 110) k = k (.iadd) 0 0 0 [] := rfl
theorem tbX8_load_111 {k : Instr → Nat → Nat → Nat → List Nat → Prop} : xse (xFind tbX8_load 111) k = k (.iastore) 21 0 0 [] := rfl
theorem tbX8_load_112 {k : Instr → Nat → Nat → Nat → List Nat → Prop} : xse (xFind tbX8_load 112) k = k (.aload_n 0) 0 0 0 [] := rfl
theorem tbX8_load_113 {k : Instr → Nat → Nat → Nat → List Nat → Prop} : xse (xFind tbX8_load 113) k = k (.getfield 56) 9 20 2 [] := rfl
theorem tbX8_load_116 {k : Instr → Nat → Nat → Nat → List Nat → Prop} : xse (xFind tbX8_load 116) k = k (.iload 5) 5 0 0 [] := rfl
theorem tbX8_load_118 {k : Instr → Nat → Nat → Nat → List Nat → Prop} : xse (xFind tbX8_load 118) k = k (.aload_n 0) 0 0 0 [] := rfl
theorem tbX8_load_119 {k : Instr → Nat → Nat → Nat → List Nat → Prop} : xse (xFind tbX8_load 119) k = k (.getfield 228) 9 1 0 [] := rfl
theorem tbX8_load_122 {k : Instr → Nat → Nat → Nat → List Nat → Prop} : xse (xFind tbX8_load 122) k = k (.iastore) 20 0 0 [] := rfl
theorem tbX8_load_123 {k : Instr → Nat → Nat → Nat → List Nat → Prop} : xse (xFind tbX8_load 123) k = k (.aload_n 0) 0 0 0 [] := rfl
theorem tbX8_load_124 {k : Instr → Nat → Nat → Nat → List Nat → Prop} : xse (xFind tbX8_load 124) k = k (.getfield 65) 9 24 2 [] := rfl
theorem tbX8_load_127 {k : Instr → Nat → Nat → Nat → List Nat → Prop} : xse (xFind tbX8_load 127) k = k (.iload_n 1) 1 0 0 [] := rfl
theorem tbX8_load_128 {k : Instr → Nat → Nat → Nat → List Nat → Prop} : xse (xFind tbX8_load 128) k = k (.dup2) 0 0 0 [] := rfl
theorem tbX8_load_129 {k : Instr → Nat → Nat → Nat → List Nat → Prop} : xse (xFind tbX8_load 129) k = k (.iaload) 24 0 0 [] := rfl
theorem tbX8_load_130 {k : Instr → Nat → Nat → Nat → List Nat → Prop} : xse (xFind tbX8_load 130) k = k (.iload_n 3) 3 0 0 [] := rfl
theorem tbX8_load_131 {k : Instr → Nat → Nat → Nat → List Nat → Prop} : xse (xFind tbX8_load 131) k = k (.iadd) 0 0 0 [] := rfl
theorem tbX8_load_132 {k : Instr → Nat → Nat → Nat → List Nat → Prop} : xse (xFind tbX8_load 132) k = k (.iastore) 24 0 0 [] := rfl
theorem tbX8_load_133 {k : Instr → Nat → Nat → Nat → List Nat → Prop} : xse (xFind tbX8_load 133) k = k (.aload_n 0) 0 0 0 [] := rfl
theorem tbX8_load_134 {k : Instr → Nat → Nat → Nat → List Nat → Prop} : xse (xFind tbX8_load 134) k = k (.getfield 68) 9 25 2 [] := rfl
theorem tbX8_load_137 {k : Instr → Nat → Nat → Nat → List Nat → Prop} : xse (xFind tbX8_load 137) k = k (.iload_n 1) 1 0 0 [] := rfl
theorem tbX8_load_138 {k : Instr → Nat → Nat → Nat → List Nat → Prop} : xse (xFind tbX8_load 138) k = k (.iload_n 2) 2 0 0 [] := rfl
theorem tbX8_load_139 {k : Instr → Nat → Nat → Nat → List Nat → Prop} : xse (xFind tbX8_load 139) k = k (.iastore) 25 0 0 [] := rfl
theorem tbX8_load_140 {k : Instr → Nat → Nat → Nat → List Nat → Prop} : xse (xFind tbX8_load 140) k = k (.aload_n 0) 0 0 0 [] := rfl
theorem tbX8_load_141 {k : Instr → Nat → Nat → Nat → List Nat → Prop} : xse (xFind tbX8_load 141) k = k (.getfield 71) 9 26 2 [] := rfl
theorem tbX8_load_144 {k : Instr → Nat → Nat → Nat → List Nat → Prop} : xse (xFind tbX8_load 144) k = k (.iload_n 1) 1 0 0 [] := rfl
theorem tbX8_load_145 {k : Instr → Nat → Nat → Nat → List Nat → Prop} : xse (xFind tbX8_load 145) k = k (.aload_n 0) 0 0 0 [] := rfl
theorem tbX8_load_146 {k : Instr → Nat → Nat → Nat → List Nat → Prop} : xse (xFind tbX8_load 146) k = k (.getfield 128) 9 47 2 [] := rfl
theorem tbX8_load_149 {k : Instr → Nat → Nat → Nat → List Nat → Prop} : xse (xFind tbX8_load 149) k = k (.iload_n 2) 2 0 0 [] := rfl
theorem tbX8_load_150 {k : Instr → Nat → Nat → Nat → List Nat → Prop} : xse (xFind tbX8_load 150) k = k (.iaload) 47 0 0 [] := rfl
theorem tbX8_load_151 {k : Instr → Nat → Nat → Nat → List Nat → Prop} : xse (xFind tbX8_load 151) k = k (.iastore) 26 0 0 [] := rfl
theorem tbX8_load_152 {k : Instr → Nat → Nat → Nat → List Nat → Prop} : xse (xFind tbX8_load 152) k = k (.aload_n 0) 0 0 0 [] := rfl
theorem tbX8_load_153 {k : Instr → Nat → Nat → Nat → List Nat → Prop} : xse (xFind tbX8_load 153) k = k (.getfield 65) 9 24 2 [] := rfl
theorem tbX8_load_156 {k : Instr → Nat → Nat → Nat → List Nat → Prop} : xse (xFind tbX8_load 156) k = k (.iload_n 1) 1 0 0 [] := rfl
theorem tbX8_load_157 {k : Instr → Nat → Nat → Nat → List Nat → Prop} : xse (xFind tbX8_load 157) k = k (.iaload) 24 0 0 [] := rfl
theorem tbX8_load_158 {k : Instr → Nat → Nat → Nat → List Nat → Prop} : xse (xFind tbX8_load 158) k = k (.ireturn) 0 0 0 [] := rfl

def spX8_load (aM : Nat → Nat) : xSp mS := (fun av M => (0, 0), fun av M K => ∃ (b : Int32) (c : Int32) (u : Int32), av = [.ref (aM 0), .int b, .int c, .int u] ∧ ((M.1 22 = nI (nBg M) ∧ nBg M ≤ 24) ∧ (M.1 46 = nI (nCo M) ∧ nCo M ≤ 12) ∧ (vp_in b 24 → iBg M b → mPl M b (mPlc M b)) ∧ (vp_in c 12 → iCo M c → vp_in (M.2 48 c.toNatClampNeg) 8) ∧ K (rI (oLoad M b c u).1) (oLoad M b c u).2))
theorem spcX8_load {av : List Value} {M : mS} {aM : Nat → Nat} : (spX8_load aM).1 av M = (0, 0) := rfl
theorem spwX8_load {M : mS} {aM : Nat → Nat} {K : xRes → mS → Prop} {b : Int32} {c : Int32} {u : Int32} : (spX8_load aM).2 [.ref (aM 0), .int b, .int c, .int u] M K = ((M.1 22 = nI (nBg M) ∧ nBg M ≤ 24) ∧ (M.1 46 = nI (nCo M) ∧ nCo M ≤ 12) ∧ (vp_in b 24 → iBg M b → mPl M b (mPlc M b)) ∧ (vp_in c 12 → iCo M c → vp_in (M.2 48 c.toNatClampNeg) 8) ∧ K (rI (oLoad M b c u).1) (oLoad M b c u).2) :=
  propext ⟨fun h => by
    simp only [spX8_load] at h
    obtain ⟨_, _, _, e, h⟩ := h
    simp only [List.cons.injEq, Value.int.injEq, Value.ref.injEq, rf_eq, and_true, true_and] at e
    obtain ⟨rfl, rfl, rfl⟩ := e
    exact h, fun h => ⟨_, _, _, rfl, h⟩⟩

def callX8_load (aM : Nat → Nat) : Nat → Option (xSp mS) := fun n => match n with | 0 => some (spX8_isBarge aM) | 1 => some (spX8_isContract aM) | 2 => some (spX8_in aM) | 3 => some (spX8_canLoad aM) | 4 => some (spX8_holds aM) | _ => none

theorem callX8_load_0 {aM : Nat → Nat} {k : xSp mS → Prop} : xcs (callX8_load aM 0) k = k (spX8_isBarge aM) := rfl

theorem callX8_load_1 {aM : Nat → Nat} {k : xSp mS → Prop} : xcs (callX8_load aM 1) k = k (spX8_isContract aM) := rfl

theorem callX8_load_2 {aM : Nat → Nat} {k : xSp mS → Prop} : xcs (callX8_load aM 2) k = k (spX8_in aM) := rfl

theorem callX8_load_3 {aM : Nat → Nat} {k : xSp mS → Prop} : xcs (callX8_load aM 3) k = k (spX8_canLoad aM) := rfl

theorem callX8_load_4 {aM : Nat → Nat} {k : xSp mS → Prop} : xcs (callX8_load aM 4) k = k (spX8_holds aM) := rfl

theorem crX8_load (l : Launch) (W9 : xWd) (aM : Nat → Nat) (hi : mInj aM) : xCallsOK l W9 (mI aM) (callX8_load aM) clX8_load RX8 wsX8_load 5 113 6 := by
  intro E A p e R s m args below meth c hI hF hL X
  exact List.forall_mem_cons.mpr ⟨⟨_, rfl, xCR_V X (by rw [hI]; exact (semX8_isBarge l W9 aM hi)) gX8_load_X8_isBarge rfl rfl (by decide +kernel) (by rw [hF, hL]; decide)⟩,
    List.forall_mem_cons.mpr ⟨⟨_, rfl, xCR_V X (by rw [hI]; exact (semX8_isContract l W9 aM hi)) gX8_load_X8_isContract rfl rfl (by decide +kernel) (by rw [hF, hL]; decide)⟩,
    List.forall_mem_cons.mpr ⟨⟨_, rfl, xCR_S X (by rw [hI]; exact (semX8_in l W9 aM hi)) gX8_load_X8_in rfl (by decide +kernel) (by rw [hF, hL]; decide)⟩,
    List.forall_mem_cons.mpr ⟨⟨_, rfl, xCR_V X (by rw [hI]; exact (semX8_canLoad l W9 aM hi)) gX8_load_X8_canLoad rfl rfl (by decide +kernel) (by rw [hF, hL]; decide)⟩,
    List.forall_mem_cons.mpr ⟨⟨_, rfl, xCR_V X (by rw [hI]; exact (semX8_holds l W9 aM hi)) gX8_load_X8_holds rfl rfl (by decide +kernel) (by rw [hF, hL]; decide)⟩,
    fun _ h => nomatch h⟩⟩⟩⟩⟩

set_option maxHeartbeats 4000000 in
set_option maxRecDepth 20000 in
theorem semX8_load (l : Launch) (W9 : xWd) (aM : Nat → Nat) (hi : mInj aM) : xSem l W9 (mI aM) yX8_load wsX8_load 5 113 (spX8_load aM) := by
  refine xSem_of (call := callX8_load aM) (thrf := fun _ => "") (mI_law hi) (by decide +kernel) rfl ckX8_load usX8_load (crX8_load l W9 aM hi) xThrOK_nil ?_ ?_
  · intro av M KF h
    obtain ⟨b, c, u, rfl, h⟩ := h
    exact ⟨by intro v hv; simp only [List.mem_cons, List.not_mem_nil, or_false] at hv; rcases hv with rfl | rfl | rfl | rfl <;> first | rfl | exact cat_rf, Nat.le_of_ble_eq_true rfl⟩
  intro av M KF h G hG
  obtain ⟨b, c, u, rfl, h⟩ := h
  rw [show (spX8_load aM).1 _ M = _ from spcX8_load] at hG
  try dsimp only at hG
  change G 0 [some (.ref (aM 0)), some (.int b), some (.int c), some (.int u), none, none] [] M 0 0
  obtain ⟨hg, hc, hp, hf, h⟩ := h
  refine xgo0 hG (fun fu hfu => ?_)
  clear hG
  simp only [↓callX8_load_0, ↓callX8_load_1, ↓callX8_load_2, ↓callX8_load_3, ↓callX8_load_4, kb_12, kc_12, ki_0, ki_1, ki_2, ki_3, ↓ma_20, ↓ma_21, ↓ma_24, ↓ma_47, ↓ma_48, ↓mg_1, ↓mg_20, ↓mg_21, ↓mg_24, ↓mg_25, ↓mg_26, ↓mg_47, ↓mg_48, misa, ↓ms_20, ↓ms_21, ↓ms_24, ↓ms_25, ↓ms_26, ↓vm_aload_n, ↓vm_bipush, ↓vm_dup2, ↓vm_getfield, ↓vm_goto, ↓vm_iadd, ↓vm_iaload, ↓vm_iastore, ↓vm_iconst, ↓vm_ifCond_eq, ↓vm_ifCond_ne, ↓vm_if_icmp_ne, ↓vm_iload, ↓vm_iload_n, ↓vm_invokestatic, ↓vm_invokevirtual, ↓vm_ireturn, ↓vm_istore, ↓xc_2, ↓xc_3, ↓xc_4, ↓tbX8_load_0, ↓tbX8_load_1, ↓tbX8_load_2, ↓tbX8_load_5, ↓tbX8_load_8, ↓tbX8_load_9, ↓tbX8_load_10, ↓tbX8_load_13, ↓tbX8_load_16, ↓tbX8_load_17, ↓tbX8_load_20, ↓tbX8_load_21, ↓tbX8_load_23, ↓tbX8_load_24, ↓tbX8_load_26, ↓tbX8_load_29, ↓tbX8_load_30, ↓tbX8_load_33, ↓tbX8_load_34, ↓tbX8_load_35, ↓tbX8_load_37, ↓tbX8_load_40, ↓tbX8_load_43, ↓tbX8_load_44, ↓tbX8_load_47, ↓tbX8_load_48, ↓tbX8_load_49, ↓tbX8_load_50, ↓tbX8_load_51, ↓tbX8_load_54, ↓tbX8_load_57, ↓tbX8_load_58, ↓tbX8_load_61, ↓tbX8_load_62, ↓tbX8_load_65, ↓tbX8_load_68, ↓tbX8_load_69, ↓tbX8_load_70, ↓tbX8_load_71, ↓tbX8_load_74, ↓tbX8_load_75, ↓tbX8_load_76, ↓tbX8_load_78, ↓tbX8_load_79, ↓tbX8_load_82, ↓tbX8_load_84, ↓tbX8_load_85, ↓tbX8_load_88, ↓tbX8_load_90, ↓tbX8_load_91, ↓tbX8_load_92, ↓tbX8_load_95, ↓tbX8_load_98, ↓tbX8_load_99, ↓tbX8_load_102, ↓tbX8_load_104, ↓tbX8_load_105, ↓tbX8_load_108, ↓tbX8_load_109, ↓tbX8_load_110, ↓tbX8_load_111, ↓tbX8_load_112, ↓tbX8_load_113, ↓tbX8_load_116, ↓tbX8_load_118, ↓tbX8_load_119, ↓tbX8_load_122, ↓tbX8_load_123, ↓tbX8_load_124, ↓tbX8_load_127, ↓tbX8_load_128, ↓tbX8_load_129, ↓tbX8_load_130, ↓tbX8_load_131, ↓tbX8_load_132, ↓tbX8_load_133, ↓tbX8_load_134, ↓tbX8_load_137, ↓tbX8_load_138, ↓tbX8_load_139, ↓tbX8_load_140, ↓tbX8_load_141, ↓tbX8_load_144, ↓tbX8_load_145, ↓tbX8_load_146, ↓tbX8_load_149, ↓tbX8_load_150, ↓tbX8_load_151, ↓tbX8_load_152, ↓tbX8_load_153, ↓tbX8_load_156, ↓tbX8_load_157, ↓tbX8_load_158, hfu, xstep0, xJ1_hit, xJ1_go, xJ2_hit1, xJ2_hit2, xJ2_go, ↓xif_t, ↓xif_f, seval, ↓xca_eq, ↓xre_l, ↓xre_r, xmask_t, xmask_f, xmask_nil, ↓xst_eq, xX_eq, eI_eq, eMc_eq, eMs_eq, eF_eq, eThr_eq, ↓xS1_mk, ↓xSI_mk, ↓xSR_mk, ↓xLI_0, ↓xLI_s, ↓xLR_0, ↓xLR_s, vRef_ref, vRef_null, vRef_rf, cat_int, cat_ref, cat_null, cat_rf, rf_some, rf_none, rf_null, rf_eq, rf_ref, ref_rf, ref_null, ref_ref, xOk_0, xOk_1, xOk_2r, xOk_2n, xOk_2f, vOpt_rf, vOpt_ref, vOpt_null, List.set_cons_zero, List.set_cons_succ, List.take_succ_cons, List.take_zero, List.drop_succ_cons, List.drop_zero, List.reverse_cons, List.reverse_nil, List.nil_append, List.cons_append, List.append_nil, List.length_cons, List.length_nil, List.map_cons, List.map_nil, List.sum_cons, List.sum_nil, Option.toList_some, Option.toList_none, xRecv_mk, true_and, and_true, true_implies, Nat.reduceAdd, Nat.reduceLeDiff, Nat.zero_le, Nat.le_refl, Nat.add_zero, Nat.zero_add, reduceIte, not_true_eq_false, not_false_eq_true, false_implies, and_self, implies_true, eq_self, Nat.reduceEqDiff, List.cons.injEq, xsn_1, xsn_2, false_and, and_false, or_false, false_or, or_true, true_or, xsn_3, xsn_4, mAst_1, mAst_2, mSet_1, mSet_2, bi_0, ↓spwX8_isBarge, spcX8_isBarge, ↓spwX8_isContract, spcX8_isContract, ↓spwX8_in, spcX8_in, ↓spwX8_canLoad, spcX8_canLoad, ↓spwX8_holds, spcX8_holds]
  try simp only [xif_e]
  unfold oLoad at h
  unfold iBg at hp
  unfold iCo at hf
  have h6 := @in_co M c hc
  have h7 := @in_bg M b hg
  repeat' (first | with_reducible apply And.intro | with_reducible intro _)
  all_goals grind [bi]

def tbX8_unload : List (Nat × xHint) := [(0, .aload_n 0, 0, 0, 0, []), (1, .iload_n 1, 1, 0, 0, []), (2, .invokevirtual 234, 0, 2, 9, []), (5, .istore_n 2, 2, 0, 0, []), (6, .iload_n 2, 2, 0, 0, []), (7, .ifCond .eq 12, 19, 0, 0, []), (10, .aload_n 0, 0, 0, 0, []), (11, .getfield 68, 9, 25, 2, []), (14, .iload_n 1, 1, 0, 0, []), (15, .iaload, 25, 0, 0, []), (16, .goto 4, 20, 0, 0, []), (19, .iconst (-1), 0, 0, 0, []), (20, .istore_n 3, 3, 0, 0, []), (21, .aload_n 0, 0, 0, 0, []), (22, .iload_n 2, 2, 0, 0, []), (23, .ifCond .ne 7, 30, 0, 0, []), (26, .iconst 1, 0, 0, 0, []), (27, .goto 31, 58, 0, 0, []), (30, .aload_n 0, 0, 0, 0, []), (31, .getfield 65, 9, 24, 2, []), (34, .iload_n 1, 1, 0, 0, []), (35, .iaload, 24, 0, 0, []), (36, .ifCond .eq 17, 53, 0, 0, []), (39, .aload_n 0, 0, 0, 0, []), (40, .iload_n 1, 1, 0, 0, []), (41, .aload_n 0, 0, 0, 0, []), (42, .getfield 134, 9, 49, 2, []), (45, .iload_n 3, 3, 0, 0, []), (46, .iaload, 49, 0, 0, []), (47, .invokevirtual 222, 1, 3, 9, []), (50, .ifCond .ne 7, 57, 0, 0, []), (53, .iconst 2, 0, 0, 0, []), (54, .goto 4, 58, 0, 0, []), (57, .iconst 0, 0, 0, 0, []), (58, .invokevirtual 183, 2, 2, 9, []), (61, .ifCond .ne 5, 66, 0, 0, []), (64, .iconst 0, 0, 0, 0, []), (65, .ireturn, 0, 0, 0, []), (66, .aload_n 0, 0, 0, 0, []), (67, .getfield 228, 9, 1, 0, []), (70, .aload_n 0, 0, 0, 0, []), (71, .getfield 140, 9, 51, 2, []), (74, .iload_n 3, 3, 0, 0, []), (75, .iaload, 51, 0, 0, []), (76, .if_icmp .le 17, 93, 0, 0, []), (79, .aload_n 0, 0, 0, 0, []), (80, .getfield 228, 9, 1, 0, []), (83, .aload_n 0, 0, 0, 0, []), (84, .getfield 140, 9, 51, 2, []), (87, .iload_n 3, 3, 0, 0, []), (88, .iaload, 51, 0, 0, []), (89, .isub, 0, 0, 0, []), (90, .goto 4, 94, 0, 0, []), (93, .iconst 0, 0, 0, 0, []), (94, .istore 4, 4, 0, 0, []), (96, .aload_n 0, 0, 0, 0, []), (97, .getfield 65, 9, 24, 2, []), (100, .iload_n 1, 1, 0, 0, []), (101, .iaload, 24, 0, 0, []), (102, .bipush 10, 0, 0, 0, []), (104, .aload_n 0, 0, 0, 0, []), (105, .getfield 131, 9, 48, 2, []), (108, .iload_n 3, 3, 0, 0, []), (109, .iaload, 48, 0, 0, []), (110, .aload_n 0, 0, 0, 0, []), (111, .getfield 134, 9, 49, 2, []), (114, .iload_n 3, 3, 0, 0, []), (115, .iaload, 49, 0, 0, []), (116, .invokestatic 240, 3, 2, 0, []), (119, .imul, 0, 0, 0, []), (120, .aload_n 0, 0, 0, 0, []), (121, .getfield 143, 9, 52, 2, []), (124, .iload_n 3, 3, 0, 0, []), (125, .iaload, 52, 0, 0, []), (126, .imul, 0, 0, 0, []), (127, .bipush 100, 0, 0, 0, []), (129, .idiv, 0, 0, 0, []), (130, .iconst 5, 0, 0, 0, []), (131, .aload_n 0, 0, 0, 0, []), (132, .getfield 152, 9, 55, 2, []), (135, .iload_n 3, 3, 0, 0, []), (136, .iaload, 55, 0, 0, []), (137, .imul, 0, 0, 0, []), (138, .iadd, 0, 0, 0, []), (139, .iload 4, 4, 0, 0, []), (141, .isub, 0, 0, 0, []), (142, .imul, 0, 0, 0, []), (143, .istore 5, 5, 0, 0, []), (145, .aload_n 0, 0, 0, 0, []), (146, .getfield 146, 9, 53, 2, []), (149, .iload_n 3, 3, 0, 0, []), (150, .dup2, 0, 0, 0, []), (151, .iaload, 53, 0, 0, []), (152, .aload_n 0, 0, 0, 0, []), (153, .getfield 65, 9, 24, 2, []), (156, .iload_n 1, 1, 0, 0, []), (157, .iaload, 24, 0, 0, []), (158, .iadd, 0, 0, 0, []), (159, .iastore, 53, 0, 0, []), (160, .aload_n 0, 0, 0, 0, []), (161, .getfield 149, 9, 54, 2, []), (164, .iload_n 3, 3, 0, 0, []), (165, .dup2, 0, 0, 0, []), (166, .iaload, 54, 0, 0, []), (167, .iload 5, 5, 0, 0, []), (169, .iadd, 0, 0, 0, []), (170, .iastore, 54, 0, 0, []), (171, .aload_n 0, 0, 0, 0, []), (172, .getfield 65, 9, 24, 2, []), (175, .iload_n 1, 1, 0, 0, []), (176, .iconst 0, 0, 0, 0, []), (177, .iastore, 24, 0, 0, []), (178, .aload_n 0, 0, 0, 0, []), (179, .getfield 68, 9, 25, 2, []), (182, .iload_n 1, 1, 0, 0, []), (183, .iconst (-1), 0, 0, 0, []), (184, .iastore, 25, 0, 0, []), (185, .iload 5, 5, 0, 0, []), (187, .ireturn, 0, 0, 0, [])]
def clX8_unload : List (Instr × Nat × Nat × Nat) := [(.invokevirtual 234, 0, 2, 9), (.invokevirtual 222, 1, 3, 9), (.invokevirtual 183, 2, 2, 9), (.invokestatic 240, 3, 2, 0)]
def thX8_unload : List (Nat × Nat) := []
theorem ckX8_unload : tbX8_unload.all (xRow RX8 cX8_unload wsX8_unload vwCl [9] clX8_unload thX8_unload 6 (yX8_unload.name == "<init>") (some .int)) = true := xRow_q 0xac05154f021b4400b42a4f031b4100b42a4f6005152e5c1d9500b42a4f602e1b4100b42a2e5c1d9200b42a05366864041560682e1d9800b42a086c6410682e1d8f00b42a68f000b82e1d8600b42a2e1d8300b42a0a102e1b4100b42a0436030400a7642e1d8c00b42ae400b42a1100a42e1d8c00b42ae400b42aac0305009ab700b6030400a70507009ade00b62e1d8600b42a1b2a1100992e1b4100b42a1f00a70407009a1c2a3e020400a72e1b4400b42a0c00991c3dea00b61b2a 188 (by decide +kernel) (by decide +kernel)
theorem usX8_unload : xUse wsX8_unload vwCl [9] = true := xUse_g rfl (lw_good lwl_X8_unload lwl_X80 (by decide +kernel)) xUse_n
theorem tbX8_unload_0 {k : Instr → Nat → Nat → Nat → List Nat → Prop} : xse (xFind tbX8_unload 0) k = k (.aload_n 0) 0 0 0 [] := rfl
theorem tbX8_unload_1 {k : Instr → Nat → Nat → Nat → List Nat → Prop} : xse (xFind tbX8_unload 1) k = k (.iload_n 1) 1 0 0 [] := rfl
theorem tbX8_unload_2 {k : Instr → Nat → Nat → Nat → List Nat → Prop} : xse (xFind tbX8_unload 2) k = k (.invokevirtual 234) 0 2 9 [] := rfl
theorem tbX8_unload_5 {k : Instr → Nat → Nat → Nat → List Nat → Prop} : xse (xFind tbX8_unload 5) k = k (.istore_n 2) 2 0 0 [] := rfl
theorem tbX8_unload_6 {k : Instr → Nat → Nat → Nat → List Nat → Prop} : xse (xFind tbX8_unload 6) k = k (.iload_n 2) 2 0 0 [] := rfl
theorem tbX8_unload_7 {k : Instr → Nat → Nat → Nat → List Nat → Prop} : xse (xFind tbX8_unload 7) k = k (.ifCond .eq 12) 19 0 0 [] := rfl
theorem tbX8_unload_10 {k : Instr → Nat → Nat → Nat → List Nat → Prop} : xse (xFind tbX8_unload 10) k = k (.aload_n 0) 0 0 0 [] := rfl
theorem tbX8_unload_11 {k : Instr → Nat → Nat → Nat → List Nat → Prop} : xse (xFind tbX8_unload 11) k = k (.getfield 68) 9 25 2 [] := rfl
theorem tbX8_unload_14 {k : Instr → Nat → Nat → Nat → List Nat → Prop} : xse (xFind tbX8_unload 14) k = k (.iload_n 1) 1 0 0 [] := rfl
theorem tbX8_unload_15 {k : Instr → Nat → Nat → Nat → List Nat → Prop} : xse (xFind tbX8_unload 15) k = k (.iaload) 25 0 0 [] := rfl
theorem tbX8_unload_16 {k : Instr → Nat → Nat → Nat → List Nat → Prop} : xse (xFind tbX8_unload 16) k = k (.goto 4) 20 0 0 [] := rfl
theorem tbX8_unload_19 {k : Instr → Nat → Nat → Nat → List Nat → Prop} : xse (xFind tbX8_unload 19) k = k (.iconst (-1)) 0 0 0 [] := rfl
theorem tbX8_unload_20 {k : Instr → Nat → Nat → Nat → List Nat → Prop} : xse (xFind tbX8_unload 20) k = k (.istore_n 3) 3 0 0 [] := rfl
theorem tbX8_unload_21 {k : Instr → Nat → Nat → Nat → List Nat → Prop} : xse (xFind tbX8_unload 21) k = k (.aload_n 0) 0 0 0 [] := rfl
theorem tbX8_unload_22 {k : Instr → Nat → Nat → Nat → List Nat → Prop} : xse (xFind tbX8_unload 22) k = k (.iload_n 2) 2 0 0 [] := rfl
theorem tbX8_unload_23 {k : Instr → Nat → Nat → Nat → List Nat → Prop} : xse (xFind tbX8_unload 23) k = k (.ifCond .ne 7) 30 0 0 [] := rfl
theorem tbX8_unload_26 {k : Instr → Nat → Nat → Nat → List Nat → Prop} : xse (xFind tbX8_unload 26) k = k (.iconst 1) 0 0 0 [] := rfl
theorem tbX8_unload_27 {k : Instr → Nat → Nat → Nat → List Nat → Prop} : xse (xFind tbX8_unload 27) k = k (.goto 31) 58 0 0 [] := rfl
theorem tbX8_unload_30 {k : Instr → Nat → Nat → Nat → List Nat → Prop} : xse (xFind tbX8_unload 30) k = k (.aload_n 0) 0 0 0 [] := rfl
theorem tbX8_unload_31 {k : Instr → Nat → Nat → Nat → List Nat → Prop} : xse (xFind tbX8_unload 31) k = k (.getfield 65) 9 24 2 [] := rfl
theorem tbX8_unload_34 {k : Instr → Nat → Nat → Nat → List Nat → Prop} : xse (xFind tbX8_unload 34) k = k (.iload_n 1) 1 0 0 [] := rfl
theorem tbX8_unload_35 {k : Instr → Nat → Nat → Nat → List Nat → Prop} : xse (xFind tbX8_unload 35) k = k (.iaload) 24 0 0 [] := rfl
theorem tbX8_unload_36 {k : Instr → Nat → Nat → Nat → List Nat → Prop} : xse (xFind tbX8_unload 36) k = k (.ifCond .eq 17) 53 0 0 [] := rfl
theorem tbX8_unload_39 {k : Instr → Nat → Nat → Nat → List Nat → Prop} : xse (xFind tbX8_unload 39) k = k (.aload_n 0) 0 0 0 [] := rfl
theorem tbX8_unload_40 {k : Instr → Nat → Nat → Nat → List Nat → Prop} : xse (xFind tbX8_unload 40) k = k (.iload_n 1) 1 0 0 [] := rfl
theorem tbX8_unload_41 {k : Instr → Nat → Nat → Nat → List Nat → Prop} : xse (xFind tbX8_unload 41) k = k (.aload_n 0) 0 0 0 [] := rfl
theorem tbX8_unload_42 {k : Instr → Nat → Nat → Nat → List Nat → Prop} : xse (xFind tbX8_unload 42) k = k (.getfield 134) 9 49 2 [] := rfl
theorem tbX8_unload_45 {k : Instr → Nat → Nat → Nat → List Nat → Prop} : xse (xFind tbX8_unload 45) k = k (.iload_n 3) 3 0 0 [] := rfl
theorem tbX8_unload_46 {k : Instr → Nat → Nat → Nat → List Nat → Prop} : xse (xFind tbX8_unload 46) k = k (.iaload) 49 0 0 [] := rfl
theorem tbX8_unload_47 {k : Instr → Nat → Nat → Nat → List Nat → Prop} : xse (xFind tbX8_unload 47) k = k (.invokevirtual 222) 1 3 9 [] := rfl
theorem tbX8_unload_50 {k : Instr → Nat → Nat → Nat → List Nat → Prop} : xse (xFind tbX8_unload 50) k = k (.ifCond .ne 7) 57 0 0 [] := rfl
theorem tbX8_unload_53 {k : Instr → Nat → Nat → Nat → List Nat → Prop} : xse (xFind tbX8_unload 53) k = k (.iconst 2) 0 0 0 [] := rfl
theorem tbX8_unload_54 {k : Instr → Nat → Nat → Nat → List Nat → Prop} : xse (xFind tbX8_unload 54) k = k (.goto 4) 58 0 0 [] := rfl
theorem tbX8_unload_57 {k : Instr → Nat → Nat → Nat → List Nat → Prop} : xse (xFind tbX8_unload 57) k = k (.iconst 0) 0 0 0 [] := rfl
theorem tbX8_unload_58 {k : Instr → Nat → Nat → Nat → List Nat → Prop} : xse (xFind tbX8_unload 58) k = k (.invokevirtual 183) 2 2 9 [] := rfl
theorem tbX8_unload_61 {k : Instr → Nat → Nat → Nat → List Nat → Prop} : xse (xFind tbX8_unload 61) k = k (.ifCond .ne 5) 66 0 0 [] := rfl
theorem tbX8_unload_64 {k : Instr → Nat → Nat → Nat → List Nat → Prop} : xse (xFind tbX8_unload 64) k = k (.iconst 0) 0 0 0 [] := rfl
theorem tbX8_unload_65 {k : Instr → Nat → Nat → Nat → List Nat → Prop} : xse (xFind tbX8_unload 65) k = k (.ireturn) 0 0 0 [] := rfl
theorem tbX8_unload_66 {k : Instr → Nat → Nat → Nat → List Nat → Prop} : xse (xFind tbX8_unload 66) k = k (.aload_n 0) 0 0 0 [] := rfl
theorem tbX8_unload_67 {k : Instr → Nat → Nat → Nat → List Nat → Prop} : xse (xFind tbX8_unload 67) k = k (.getfield 228) 9 1 0 [] := rfl
theorem tbX8_unload_70 {k : Instr → Nat → Nat → Nat → List Nat → Prop} : xse (xFind tbX8_unload 70) k = k (.aload_n 0) 0 0 0 [] := rfl
theorem tbX8_unload_71 {k : Instr → Nat → Nat → Nat → List Nat → Prop} : xse (xFind tbX8_unload 71) k = k (.getfield 140) 9 51 2 [] := rfl
theorem tbX8_unload_74 {k : Instr → Nat → Nat → Nat → List Nat → Prop} : xse (xFind tbX8_unload 74) k = k (.iload_n 3) 3 0 0 [] := rfl
theorem tbX8_unload_75 {k : Instr → Nat → Nat → Nat → List Nat → Prop} : xse (xFind tbX8_unload 75) k = k (.iaload) 51 0 0 [] := rfl
theorem tbX8_unload_76 {k : Instr → Nat → Nat → Nat → List Nat → Prop} : xse (xFind tbX8_unload 76) k = k (.if_icmp .le 17) 93 0 0 [] := rfl
theorem tbX8_unload_79 {k : Instr → Nat → Nat → Nat → List Nat → Prop} : xse (xFind tbX8_unload 79) k = k (.aload_n 0) 0 0 0 [] := rfl
theorem tbX8_unload_80 {k : Instr → Nat → Nat → Nat → List Nat → Prop} : xse (xFind tbX8_unload 80) k = k (.getfield 228) 9 1 0 [] := rfl
theorem tbX8_unload_83 {k : Instr → Nat → Nat → Nat → List Nat → Prop} : xse (xFind tbX8_unload 83) k = k (.aload_n 0) 0 0 0 [] := rfl
theorem tbX8_unload_84 {k : Instr → Nat → Nat → Nat → List Nat → Prop} : xse (xFind tbX8_unload 84) k = k (.getfield 140) 9 51 2 [] := rfl
theorem tbX8_unload_87 {k : Instr → Nat → Nat → Nat → List Nat → Prop} : xse (xFind tbX8_unload 87) k = k (.iload_n 3) 3 0 0 [] := rfl
theorem tbX8_unload_88 {k : Instr → Nat → Nat → Nat → List Nat → Prop} : xse (xFind tbX8_unload 88) k = k (.iaload) 51 0 0 [] := rfl
theorem tbX8_unload_89 {k : Instr → Nat → Nat → Nat → List Nat → Prop} : xse (xFind tbX8_unload 89) k = k (.isub) 0 0 0 [] := rfl
theorem tbX8_unload_90 {k : Instr → Nat → Nat → Nat → List Nat → Prop} : xse (xFind tbX8_unload 90) k = k (.goto 4) 94 0 0 [] := rfl
theorem tbX8_unload_93 {k : Instr → Nat → Nat → Nat → List Nat → Prop} : xse (xFind tbX8_unload 93) k = k (.iconst 0) 0 0 0 [] := rfl
theorem tbX8_unload_94 {k : Instr → Nat → Nat → Nat → List Nat → Prop} : xse (xFind tbX8_unload 94) k = k (.istore 4) 4 0 0 [] := rfl
theorem tbX8_unload_96 {k : Instr → Nat → Nat → Nat → List Nat → Prop} : xse (xFind tbX8_unload 96) k = k (.aload_n 0) 0 0 0 [] := rfl
theorem tbX8_unload_97 {k : Instr → Nat → Nat → Nat → List Nat → Prop} : xse (xFind tbX8_unload 97) k = k (.getfield 65) 9 24 2 [] := rfl
theorem tbX8_unload_100 {k : Instr → Nat → Nat → Nat → List Nat → Prop} : xse (xFind tbX8_unload 100) k = k (.iload_n 1) 1 0 0 [] := rfl
theorem tbX8_unload_101 {k : Instr → Nat → Nat → Nat → List Nat → Prop} : xse (xFind tbX8_unload 101) k = k (.iaload) 24 0 0 [] := rfl
theorem tbX8_unload_102 {k : Instr → Nat → Nat → Nat → List Nat → Prop} : xse (xFind tbX8_unload 102) k = k (.bipush 10) 0 0 0 [] := rfl
theorem tbX8_unload_104 {k : Instr → Nat → Nat → Nat → List Nat → Prop} : xse (xFind tbX8_unload 104) k = k (.aload_n 0) 0 0 0 [] := rfl
theorem tbX8_unload_105 {k : Instr → Nat → Nat → Nat → List Nat → Prop} : xse (xFind tbX8_unload 105) k = k (.getfield 131) 9 48 2 [] := rfl
theorem tbX8_unload_108 {k : Instr → Nat → Nat → Nat → List Nat → Prop} : xse (xFind tbX8_unload 108) k = k (.iload_n 3) 3 0 0 [] := rfl
theorem tbX8_unload_109 {k : Instr → Nat → Nat → Nat → List Nat → Prop} : xse (xFind tbX8_unload 109) k = k (.iaload) 48 0 0 [] := rfl
theorem tbX8_unload_110 {k : Instr → Nat → Nat → Nat → List Nat → Prop} : xse (xFind tbX8_unload 110) k = k (.aload_n 0) 0 0 0 [] := rfl
theorem tbX8_unload_111 {k : Instr → Nat → Nat → Nat → List Nat → Prop} : xse (xFind tbX8_unload 111) k = k (.getfield 134) 9 49 2 [] := rfl
theorem tbX8_unload_114 {k : Instr → Nat → Nat → Nat → List Nat → Prop} : xse (xFind tbX8_unload 114) k = k (.iload_n 3) 3 0 0 [] := rfl
theorem tbX8_unload_115 {k : Instr → Nat → Nat → Nat → List Nat → Prop} : xse (xFind tbX8_unload 115) k = k (.iaload) 49 0 0 [] := rfl
theorem tbX8_unload_116 {k : Instr → Nat → Nat → Nat → List Nat → Prop} : xse (xFind tbX8_unload 116) k = k (.invokestatic 240) 3 2 0 [] := rfl
theorem tbX8_unload_119 {k : Instr → Nat → Nat → Nat → List Nat → Prop} : xse (xFind tbX8_unload 119) k = k (.imul) 0 0 0 [] := rfl
theorem tbX8_unload_120 {k : Instr → Nat → Nat → Nat → List Nat → Prop} : xse (xFind tbX8_unload 120) k = k (.aload_n 0) 0 0 0 [] := rfl
theorem tbX8_unload_121 {k : Instr → Nat → Nat → Nat → List Nat → Prop} : xse (xFind tbX8_unload 121) k = k (.getfield 143) 9 52 2 [] := rfl
theorem tbX8_unload_124 {k : Instr → Nat → Nat → Nat → List Nat → Prop} : xse (xFind tbX8_unload 124) k = k (.iload_n 3) 3 0 0 [] := rfl
theorem tbX8_unload_125 {k : Instr → Nat → Nat → Nat → List Nat → Prop} : xse (xFind tbX8_unload 125) k = k (.iaload) 52 0 0 [] := rfl
theorem tbX8_unload_126 {k : Instr → Nat → Nat → Nat → List Nat → Prop} : xse (xFind tbX8_unload 126) k = k (.imul) 0 0 0 [] := rfl
theorem tbX8_unload_127 {k : Instr → Nat → Nat → Nat → List Nat → Prop} : xse (xFind tbX8_unload 127) k = k (.bipush 100) 0 0 0 [] := rfl
theorem tbX8_unload_129 {k : Instr → Nat → Nat → Nat → List Nat → Prop} : xse (xFind tbX8_unload 129) k = k (.idiv) 0 0 0 [] := rfl
theorem tbX8_unload_130 {k : Instr → Nat → Nat → Nat → List Nat → Prop} : xse (xFind tbX8_unload 130) k = k (.iconst 5) 0 0 0 [] := rfl
theorem tbX8_unload_131 {k : Instr → Nat → Nat → Nat → List Nat → Prop} : xse (xFind tbX8_unload 131) k = k (.aload_n 0) 0 0 0 [] := rfl
theorem tbX8_unload_132 {k : Instr → Nat → Nat → Nat → List Nat → Prop} : xse (xFind tbX8_unload 132) k = k (.getfield 152) 9 55 2 [] := rfl
theorem tbX8_unload_135 {k : Instr → Nat → Nat → Nat → List Nat → Prop} : xse (xFind tbX8_unload 135) k = k (.iload_n 3) 3 0 0 [] := rfl
theorem tbX8_unload_136 {k : Instr → Nat → Nat → Nat → List Nat → Prop} : xse (xFind tbX8_unload 136) k = k (.iaload) 55 0 0 [] := rfl
theorem tbX8_unload_137 {k : Instr → Nat → Nat → Nat → List Nat → Prop} : xse (xFind tbX8_unload 137) k = k (.imul) 0 0 0 [] := rfl
theorem tbX8_unload_138 {k : Instr → Nat → Nat → Nat → List Nat → Prop} : xse (xFind tbX8_unload 138) k = k (.iadd) 0 0 0 [] := rfl
theorem tbX8_unload_139 {k : Instr → Nat → Nat → Nat → List Nat → Prop} : xse (xFind tbX8_unload 139) k = k (.iload 4) 4 0 0 [] := rfl
theorem tbX8_unload_141 {k : Instr → Nat → Nat → Nat → List Nat → Prop} : xse (xFind tbX8_unload 141) k = k (.isub) 0 0 0 [] := rfl
theorem tbX8_unload_142 {k : Instr → Nat → Nat → Nat → List Nat → Prop} : xse (xFind tbX8_unload 142) k = k (.imul) 0 0 0 [] := rfl
theorem tbX8_unload_143 {k : Instr → Nat → Nat → Nat → List Nat → Prop} : xse (xFind tbX8_unload 143) k = k (.istore 5) 5 0 0 [] := rfl
theorem tbX8_unload_145 {k : Instr → Nat → Nat → Nat → List Nat → Prop} : xse (xFind tbX8_unload 145) k = k (.aload_n 0) 0 0 0 [] := rfl
theorem tbX8_unload_146 {k : Instr → Nat → Nat → Nat → List Nat → Prop} : xse (xFind tbX8_unload 146) k = k (.getfield 146) 9 53 2 [] := rfl
theorem tbX8_unload_149 {k : Instr → Nat → Nat → Nat → List Nat → Prop} : xse (xFind tbX8_unload 149) k = k (.iload_n 3) 3 0 0 [] := rfl
theorem tbX8_unload_150 {k : Instr → Nat → Nat → Nat → List Nat → Prop} : xse (xFind tbX8_unload 150) k = k (.dup2) 0 0 0 [] := rfl
theorem tbX8_unload_151 {k : Instr → Nat → Nat → Nat → List Nat → Prop} : xse (xFind tbX8_unload 151) k = k (.iaload) 53 0 0 [] := rfl
theorem tbX8_unload_152 {k : Instr → Nat → Nat → Nat → List Nat → Prop} : xse (xFind tbX8_unload 152) k = k (.aload_n 0) 0 0 0 [] := rfl
theorem tbX8_unload_153 {k : Instr → Nat → Nat → Nat → List Nat → Prop} : xse (xFind tbX8_unload 153) k = k (.getfield 65) 9 24 2 [] := rfl
theorem tbX8_unload_156 {k : Instr → Nat → Nat → Nat → List Nat → Prop} : xse (xFind tbX8_unload 156) k = k (.iload_n 1) 1 0 0 [] := rfl
theorem tbX8_unload_157 {k : Instr → Nat → Nat → Nat → List Nat → Prop} : xse (xFind tbX8_unload 157) k = k (.iaload) 24 0 0 [] := rfl
theorem tbX8_unload_158 {k : Instr → Nat → Nat → Nat → List Nat → Prop} : xse (xFind tbX8_unload 158) k = k (.iadd) 0 0 0 [] := rfl
theorem tbX8_unload_159 {k : Instr → Nat → Nat → Nat → List Nat → Prop} : xse (xFind tbX8_unload 159) k = k (.iastore) 53 0 0 [] := rfl
theorem tbX8_unload_160 {k : Instr → Nat → Nat → Nat → List Nat → Prop} : xse (xFind tbX8_unload 160) k = k (.aload_n 0) 0 0 0 [] := rfl
theorem tbX8_unload_161 {k : Instr → Nat → Nat → Nat → List Nat → Prop} : xse (xFind tbX8_unload 161) k = k (.getfield 149) 9 54 2 [] := rfl
theorem tbX8_unload_164 {k : Instr → Nat → Nat → Nat → List Nat → Prop} : xse (xFind tbX8_unload 164) k = k (.iload_n 3) 3 0 0 [] := rfl
theorem tbX8_unload_165 {k : Instr → Nat → Nat → Nat → List Nat → Prop} : xse (xFind tbX8_unload 165) k = k (.dup2) 0 0 0 [] := rfl
theorem tbX8_unload_166 {k : Instr → Nat → Nat → Nat → List Nat → Prop} : xse (xFind tbX8_unload 166) k = k (.iaload) 54 0 0 [] := rfl
theorem tbX8_unload_167 {k : Instr → Nat → Nat → Nat → List Nat → Prop} : xse (xFind tbX8_unload 167) k = k (.iload 5) 5 0 0 [] := rfl
theorem tbX8_unload_169 {k : Instr → Nat → Nat → Nat → List Nat → Prop} : xse (xFind tbX8_unload 169) k = k (.iadd) 0 0 0 [] := rfl
theorem tbX8_unload_170 {k : Instr → Nat → Nat → Nat → List Nat → Prop} : xse (xFind tbX8_unload 170) k = k (.iastore) 54 0 0 [] := rfl
theorem tbX8_unload_171 {k : Instr → Nat → Nat → Nat → List Nat → Prop} : xse (xFind tbX8_unload 171) k = k (.aload_n 0) 0 0 0 [] := rfl
theorem tbX8_unload_172 {k : Instr → Nat → Nat → Nat → List Nat → Prop} : xse (xFind tbX8_unload 172) k = k (.getfield 65) 9 24 2 [] := rfl
theorem tbX8_unload_175 {k : Instr → Nat → Nat → Nat → List Nat → Prop} : xse (xFind tbX8_unload 175) k = k (.iload_n 1) 1 0 0 [] := rfl
theorem tbX8_unload_176 {k : Instr → Nat → Nat → Nat → List Nat → Prop} : xse (xFind tbX8_unload 176) k = k (.iconst 0) 0 0 0 [] := rfl
theorem tbX8_unload_177 {k : Instr → Nat → Nat → Nat → List Nat → Prop} : xse (xFind tbX8_unload 177) k = k (.iastore) 24 0 0 [] := rfl
theorem tbX8_unload_178 {k : Instr → Nat → Nat → Nat → List Nat → Prop} : xse (xFind tbX8_unload 178) k = k (.aload_n 0) 0 0 0 [] := rfl
theorem tbX8_unload_179 {k : Instr → Nat → Nat → Nat → List Nat → Prop} : xse (xFind tbX8_unload 179) k = k (.getfield 68) 9 25 2 [] := rfl
theorem tbX8_unload_182 {k : Instr → Nat → Nat → Nat → List Nat → Prop} : xse (xFind tbX8_unload 182) k = k (.iload_n 1) 1 0 0 [] := rfl
theorem tbX8_unload_183 {k : Instr → Nat → Nat → Nat → List Nat → Prop} : xse (xFind tbX8_unload 183) k = k (.iconst (-1)) 0 0 0 [] := rfl
theorem tbX8_unload_184 {k : Instr → Nat → Nat → Nat → List Nat → Prop} : xse (xFind tbX8_unload 184) k = k (.iastore) 25 0 0 [] := rfl
theorem tbX8_unload_185 {k : Instr → Nat → Nat → Nat → List Nat → Prop} : xse (xFind tbX8_unload 185) k = k (.iload 5) 5 0 0 [] := rfl
theorem tbX8_unload_187 {k : Instr → Nat → Nat → Nat → List Nat → Prop} : xse (xFind tbX8_unload 187) k = k (.ireturn) 0 0 0 [] := rfl

def spX8_unload (aM : Nat → Nat) : xSp mS := (fun av M => (0, 0), fun av M K => ∃ (b : Int32), av = [.ref (aM 0), .int b] ∧ ((M.1 22 = nI (nBg M) ∧ nBg M ≤ 24) ∧ (vp_in b 24 → iBg M b → mPl M b (mPlc M b)) ∧ (vp_in b 24 → iBg M b → M.2 24 b.toNatClampNeg ≠ 0 → vp_in (M.2 25 b.toNatClampNeg) 12) ∧ K (rI (oUnload M b).1) (oUnload M b).2))
theorem spcX8_unload {av : List Value} {M : mS} {aM : Nat → Nat} : (spX8_unload aM).1 av M = (0, 0) := rfl
theorem spwX8_unload {M : mS} {aM : Nat → Nat} {K : xRes → mS → Prop} {b : Int32} : (spX8_unload aM).2 [.ref (aM 0), .int b] M K = ((M.1 22 = nI (nBg M) ∧ nBg M ≤ 24) ∧ (vp_in b 24 → iBg M b → mPl M b (mPlc M b)) ∧ (vp_in b 24 → iBg M b → M.2 24 b.toNatClampNeg ≠ 0 → vp_in (M.2 25 b.toNatClampNeg) 12) ∧ K (rI (oUnload M b).1) (oUnload M b).2) :=
  propext ⟨fun h => by
    simp only [spX8_unload] at h
    obtain ⟨_, e, h⟩ := h
    simp only [List.cons.injEq, Value.int.injEq, Value.ref.injEq, rf_eq, and_true, true_and] at e
    obtain rfl := e
    exact h, fun h => ⟨_, rfl, h⟩⟩

def callX8_unload (aM : Nat → Nat) : Nat → Option (xSp mS) := fun n => match n with | 0 => some (spX8_isBarge aM) | 1 => some (spX8_isOutermost aM) | 2 => some (spX8_holds aM) | 3 => some (spX8_between aM) | _ => none

theorem callX8_unload_0 {aM : Nat → Nat} {k : xSp mS → Prop} : xcs (callX8_unload aM 0) k = k (spX8_isBarge aM) := rfl

theorem callX8_unload_1 {aM : Nat → Nat} {k : xSp mS → Prop} : xcs (callX8_unload aM 1) k = k (spX8_isOutermost aM) := rfl

theorem callX8_unload_2 {aM : Nat → Nat} {k : xSp mS → Prop} : xcs (callX8_unload aM 2) k = k (spX8_holds aM) := rfl

theorem callX8_unload_3 {aM : Nat → Nat} {k : xSp mS → Prop} : xcs (callX8_unload aM 3) k = k (spX8_between aM) := rfl

theorem crX8_unload (l : Launch) (W9 : xWd) (aM : Nat → Nat) (hi : mInj aM) : xCallsOK l W9 (mI aM) (callX8_unload aM) clX8_unload RX8 wsX8_unload 4 87 6 := by
  intro E A p e R s m args below meth c hI hF hL X
  exact List.forall_mem_cons.mpr ⟨⟨_, rfl, xCR_V X (by rw [hI]; exact (semX8_isBarge l W9 aM hi)) gX8_unload_X8_isBarge rfl rfl (by decide +kernel) (by rw [hF, hL]; decide)⟩,
    List.forall_mem_cons.mpr ⟨⟨_, rfl, xCR_V X (by rw [hI]; exact (semX8_isOutermost l W9 aM hi)) gX8_unload_X8_isOutermost rfl rfl (by decide +kernel) (by rw [hF, hL]; decide)⟩,
    List.forall_mem_cons.mpr ⟨⟨_, rfl, xCR_V X (by rw [hI]; exact (semX8_holds l W9 aM hi)) gX8_unload_X8_holds rfl rfl (by decide +kernel) (by rw [hF, hL]; decide)⟩,
    List.forall_mem_cons.mpr ⟨⟨_, rfl, xCR_S X (by rw [hI]; exact (semX8_between l W9 aM hi)) gX8_unload_X8_between rfl (by decide +kernel) (by rw [hF, hL]; decide)⟩,
    fun _ h => nomatch h⟩⟩⟩⟩

set_option maxHeartbeats 4000000 in
set_option maxRecDepth 20000 in
theorem semX8_unload (l : Launch) (W9 : xWd) (aM : Nat → Nat) (hi : mInj aM) : xSem l W9 (mI aM) yX8_unload wsX8_unload 4 87 (spX8_unload aM) := by
  refine xSem_of (call := callX8_unload aM) (thrf := fun _ => "") (mI_law hi) (by decide +kernel) rfl ckX8_unload usX8_unload (crX8_unload l W9 aM hi) xThrOK_nil ?_ ?_
  · intro av M KF h
    obtain ⟨b, rfl, h⟩ := h
    exact ⟨by intro v hv; simp only [List.mem_cons, List.not_mem_nil, or_false] at hv; rcases hv with rfl | rfl <;> first | rfl | exact cat_rf, Nat.le_of_ble_eq_true rfl⟩
  intro av M KF h G hG
  obtain ⟨b, rfl, h⟩ := h
  rw [show (spX8_unload aM).1 _ M = _ from spcX8_unload] at hG
  try dsimp only at hG
  change G 0 [some (.ref (aM 0)), some (.int b), none, none, none, none] [] M 0 0
  obtain ⟨hg, hp, hc, h⟩ := h
  refine xgo0 hG (fun fu hfu => ?_)
  clear hG
  simp only [↓callX8_unload_0, ↓callX8_unload_1, ↓callX8_unload_2, ↓callX8_unload_3, kb_10, kb_100, kc_10, kc_100, ki_0, ki_1, ki_2, ki_5, ki_m1, ↓ma_24, ↓ma_25, ↓ma_48, ↓ma_49, ↓ma_51, ↓ma_52, ↓ma_53, ↓ma_54, ↓ma_55, ↓mg_1, ↓mg_24, ↓mg_25, ↓mg_48, ↓mg_49, ↓mg_51, ↓mg_52, ↓mg_53, ↓mg_54, ↓mg_55, misa, ↓ms_24, ↓ms_25, ↓ms_53, ↓ms_54, ↓vm_aload_n, ↓vm_bipush, ↓vm_dup2, ↓vm_getfield, ↓vm_goto, ↓vm_iadd, ↓vm_iaload, ↓vm_iastore, ↓vm_iconst, ↓vm_idiv, ↓vm_ifCond_eq, ↓vm_ifCond_ne, ↓vm_if_icmp_le, ↓vm_iload, ↓vm_iload_n, ↓vm_imul, ↓vm_invokestatic, ↓vm_invokevirtual, ↓vm_ireturn, ↓vm_istore, ↓vm_istore_n, ↓vm_isub, ↓xc_2, ↓xc_3, ↓tbX8_unload_0, ↓tbX8_unload_1, ↓tbX8_unload_2, ↓tbX8_unload_5, ↓tbX8_unload_6, ↓tbX8_unload_7, ↓tbX8_unload_10, ↓tbX8_unload_11, ↓tbX8_unload_14, ↓tbX8_unload_15, ↓tbX8_unload_16, ↓tbX8_unload_19, ↓tbX8_unload_20, ↓tbX8_unload_21, ↓tbX8_unload_22, ↓tbX8_unload_23, ↓tbX8_unload_26, ↓tbX8_unload_27, ↓tbX8_unload_30, ↓tbX8_unload_31, ↓tbX8_unload_34, ↓tbX8_unload_35, ↓tbX8_unload_36, ↓tbX8_unload_39, ↓tbX8_unload_40, ↓tbX8_unload_41, ↓tbX8_unload_42, ↓tbX8_unload_45, ↓tbX8_unload_46, ↓tbX8_unload_47, ↓tbX8_unload_50, ↓tbX8_unload_53, ↓tbX8_unload_54, ↓tbX8_unload_57, ↓tbX8_unload_58, ↓tbX8_unload_61, ↓tbX8_unload_64, ↓tbX8_unload_65, ↓tbX8_unload_66, ↓tbX8_unload_67, ↓tbX8_unload_70, ↓tbX8_unload_71, ↓tbX8_unload_74, ↓tbX8_unload_75, ↓tbX8_unload_76, ↓tbX8_unload_79, ↓tbX8_unload_80, ↓tbX8_unload_83, ↓tbX8_unload_84, ↓tbX8_unload_87, ↓tbX8_unload_88, ↓tbX8_unload_89, ↓tbX8_unload_90, ↓tbX8_unload_93, ↓tbX8_unload_94, ↓tbX8_unload_96, ↓tbX8_unload_97, ↓tbX8_unload_100, ↓tbX8_unload_101, ↓tbX8_unload_102, ↓tbX8_unload_104, ↓tbX8_unload_105, ↓tbX8_unload_108, ↓tbX8_unload_109, ↓tbX8_unload_110, ↓tbX8_unload_111, ↓tbX8_unload_114, ↓tbX8_unload_115, ↓tbX8_unload_116, ↓tbX8_unload_119, ↓tbX8_unload_120, ↓tbX8_unload_121, ↓tbX8_unload_124, ↓tbX8_unload_125, ↓tbX8_unload_126, ↓tbX8_unload_127, ↓tbX8_unload_129, ↓tbX8_unload_130, ↓tbX8_unload_131, ↓tbX8_unload_132, ↓tbX8_unload_135, ↓tbX8_unload_136, ↓tbX8_unload_137, ↓tbX8_unload_138, ↓tbX8_unload_139, ↓tbX8_unload_141, ↓tbX8_unload_142, ↓tbX8_unload_143, ↓tbX8_unload_145, ↓tbX8_unload_146, ↓tbX8_unload_149, ↓tbX8_unload_150, ↓tbX8_unload_151, ↓tbX8_unload_152, ↓tbX8_unload_153, ↓tbX8_unload_156, ↓tbX8_unload_157, ↓tbX8_unload_158, ↓tbX8_unload_159, ↓tbX8_unload_160, ↓tbX8_unload_161, ↓tbX8_unload_164, ↓tbX8_unload_165, ↓tbX8_unload_166, ↓tbX8_unload_167, ↓tbX8_unload_169, ↓tbX8_unload_170, ↓tbX8_unload_171, ↓tbX8_unload_172, ↓tbX8_unload_175, ↓tbX8_unload_176, ↓tbX8_unload_177, ↓tbX8_unload_178, ↓tbX8_unload_179, ↓tbX8_unload_182, ↓tbX8_unload_183, ↓tbX8_unload_184, ↓tbX8_unload_185, ↓tbX8_unload_187, hfu, xstep0, xJ1_hit, xJ1_go, xJ2_hit1, xJ2_hit2, xJ2_go, ↓xif_t, ↓xif_f, seval, ↓xca_eq, ↓xre_l, ↓xre_r, xmask_t, xmask_f, xmask_nil, ↓xst_eq, xX_eq, eI_eq, eMc_eq, eMs_eq, eF_eq, eThr_eq, ↓xS1_mk, ↓xSI_mk, ↓xSR_mk, ↓xLI_0, ↓xLI_s, ↓xLR_0, ↓xLR_s, vRef_ref, vRef_null, vRef_rf, cat_int, cat_ref, cat_null, cat_rf, rf_some, rf_none, rf_null, rf_eq, rf_ref, ref_rf, ref_null, ref_ref, xOk_0, xOk_1, xOk_2r, xOk_2n, xOk_2f, vOpt_rf, vOpt_ref, vOpt_null, List.set_cons_zero, List.set_cons_succ, List.take_succ_cons, List.take_zero, List.drop_succ_cons, List.drop_zero, List.reverse_cons, List.reverse_nil, List.nil_append, List.cons_append, List.append_nil, List.length_cons, List.length_nil, List.map_cons, List.map_nil, List.sum_cons, List.sum_nil, Option.toList_some, Option.toList_none, xRecv_mk, true_and, and_true, true_implies, Nat.reduceAdd, Nat.reduceLeDiff, Nat.zero_le, Nat.le_refl, Nat.add_zero, Nat.zero_add, reduceIte, not_true_eq_false, not_false_eq_true, false_implies, and_self, implies_true, eq_self, Nat.reduceEqDiff, List.cons.injEq, xsn_1, xsn_2, false_and, and_false, or_false, false_or, or_true, true_or, xsn_3, xsn_4, mAst_1, mAst_2, mSet_1, mSet_2, bi_0, ↓spwX8_isBarge, spcX8_isBarge, ↓spwX8_isOutermost, spcX8_isOutermost, ↓spwX8_holds, spcX8_holds, ↓spwX8_between, spcX8_between]
  try simp only [xif_e]
  unfold oUnload mPay mBtw at h
  unfold iBg at hp hc
  have h7 := @in_bg M b hg
  repeat' (first | with_reducible apply And.intro | with_reducible intro _)
  all_goals grind [bi]

def tbX8_clean : List (Nat × xHint) := [(0, .aload_n 0, 0, 0, 0, []), (1, .iload_n 1, 1, 0, 0, []), (2, .invokevirtual 234, 0, 2, 9, []), (5, .istore_n 2, 2, 0, 0, []), (6, .aload_n 0, 0, 0, 0, []), (7, .iload_n 2, 2, 0, 0, []), (8, .ifCond .ne 7, 15, 0, 0, []), (11, .iconst 1, 0, 0, 0, []), (12, .goto 35, 47, 0, 0, []), (15, .aload_n 0, 0, 0, 0, []), (16, .iload_n 1, 1, 0, 0, []), (17, .invokevirtual 210, 1, 2, 9, []), (20, .ifCond .eq 22, 42, 0, 0, []), (23, .aload_n 0, 0, 0, 0, []), (24, .getfield 65, 9, 24, 2, []), (27, .iload_n 1, 1, 0, 0, []), (28, .iaload, 24, 0, 0, []), (29, .ifCond .gt 13, 42, 0, 0, []), (32, .aload_n 0, 0, 0, 0, []), (33, .getfield 71, 9, 26, 2, []), (36, .iload_n 1, 1, 0, 0, []), (37, .iaload, 26, 0, 0, []), (38, .iconst (-1), 0, 0, 0, []), (39, .if_icmp .ne 7, 46, 0, 0, []), (42, .iconst 2, 0, 0, 0, []), (43, .goto 4, 47, 0, 0, []), (46, .iconst 0, 0, 0, 0, []), (47, .invokevirtual 183, 2, 2, 9, []), (50, .ifCond .ne 5, 55, 0, 0, []), (53, .iconst 0, 0, 0, 0, []), (54, .ireturn, 0, 0, 0, []), (55, .aload_n 0, 0, 0, 0, []), (56, .getfield 71, 9, 26, 2, []), (59, .iload_n 1, 1, 0, 0, []), (60, .iaload, 26, 0, 0, []), (61, .istore_n 3, 3, 0, 0, []), (62, .aload_n 0, 0, 0, 0, []), (63, .getfield 71, 9, 26, 2, []), (66, .iload_n 1, 1, 0, 0, []), (67, .iconst (-1), 0, 0, 0, []), (68, .iastore, 26, 0, 0, []), (69, .aload_n 0, 0, 0, 0, []), (70, .dup, 0, 0, 0, []), (71, .getfield 244, 9, 57, 0, []), (74, .bipush 20, 0, 0, 0, []), (76, .iadd, 0, 0, 0, []), (77, .putfield 244, 9, 57, 0, []), (80, .iload_n 3, 3, 0, 0, []), (81, .ireturn, 0, 0, 0, [])]
def clX8_clean : List (Instr × Nat × Nat × Nat) := [(.invokevirtual 234, 0, 2, 9), (.invokevirtual 210, 1, 2, 9), (.invokevirtual 183, 2, 2, 9)]
def thX8_clean : List (Nat × Nat) := []
theorem ckX8_clean : tbX8_clean.all (xRow RX8 cX8_clean wsX8_clean vwCl [9] clX8_clean thX8_clean 4 (yX8_clean.name == "<init>") (some .int)) = true := xRow_q 0xac1df400b5601410f400b4592a4f021b4700b42a3e2e1b4700b42aac0305009ab700b6030400a7050700a0022e1b4700b42a0d009d2e1b4100b42a160099d200b61b2a2300a70407009a1c2a3dea00b61b2a 82 (by decide +kernel) (by decide +kernel)
theorem usX8_clean : xUse wsX8_clean vwCl [9] = true := xUse_g rfl (lw_good lwl_X8_clean lwl_X80 (by decide +kernel)) xUse_n
theorem tbX8_clean_0 {k : Instr → Nat → Nat → Nat → List Nat → Prop} : xse (xFind tbX8_clean 0) k = k (.aload_n 0) 0 0 0 [] := rfl
theorem tbX8_clean_1 {k : Instr → Nat → Nat → Nat → List Nat → Prop} : xse (xFind tbX8_clean 1) k = k (.iload_n 1) 1 0 0 [] := rfl
theorem tbX8_clean_2 {k : Instr → Nat → Nat → Nat → List Nat → Prop} : xse (xFind tbX8_clean 2) k = k (.invokevirtual 234) 0 2 9 [] := rfl
theorem tbX8_clean_5 {k : Instr → Nat → Nat → Nat → List Nat → Prop} : xse (xFind tbX8_clean 5) k = k (.istore_n 2) 2 0 0 [] := rfl
theorem tbX8_clean_6 {k : Instr → Nat → Nat → Nat → List Nat → Prop} : xse (xFind tbX8_clean 6) k = k (.aload_n 0) 0 0 0 [] := rfl
theorem tbX8_clean_7 {k : Instr → Nat → Nat → Nat → List Nat → Prop} : xse (xFind tbX8_clean 7) k = k (.iload_n 2) 2 0 0 [] := rfl
theorem tbX8_clean_8 {k : Instr → Nat → Nat → Nat → List Nat → Prop} : xse (xFind tbX8_clean 8) k = k (.ifCond .ne 7) 15 0 0 [] := rfl
theorem tbX8_clean_11 {k : Instr → Nat → Nat → Nat → List Nat → Prop} : xse (xFind tbX8_clean 11) k = k (.iconst 1) 0 0 0 [] := rfl
theorem tbX8_clean_12 {k : Instr → Nat → Nat → Nat → List Nat → Prop} : xse (xFind tbX8_clean 12) k = k (.goto 35) 47 0 0 [] := rfl
theorem tbX8_clean_15 {k : Instr → Nat → Nat → Nat → List Nat → Prop} : xse (xFind tbX8_clean 15) k = k (.aload_n 0) 0 0 0 [] := rfl
theorem tbX8_clean_16 {k : Instr → Nat → Nat → Nat → List Nat → Prop} : xse (xFind tbX8_clean 16) k = k (.iload_n 1) 1 0 0 [] := rfl
theorem tbX8_clean_17 {k : Instr → Nat → Nat → Nat → List Nat → Prop} : xse (xFind tbX8_clean 17) k = k (.invokevirtual 210) 1 2 9 [] := rfl
theorem tbX8_clean_20 {k : Instr → Nat → Nat → Nat → List Nat → Prop} : xse (xFind tbX8_clean 20) k = k (.ifCond .eq 22) 42 0 0 [] := rfl
theorem tbX8_clean_23 {k : Instr → Nat → Nat → Nat → List Nat → Prop} : xse (xFind tbX8_clean 23) k = k (.aload_n 0) 0 0 0 [] := rfl
theorem tbX8_clean_24 {k : Instr → Nat → Nat → Nat → List Nat → Prop} : xse (xFind tbX8_clean 24) k = k (.getfield 65) 9 24 2 [] := rfl
theorem tbX8_clean_27 {k : Instr → Nat → Nat → Nat → List Nat → Prop} : xse (xFind tbX8_clean 27) k = k (.iload_n 1) 1 0 0 [] := rfl
theorem tbX8_clean_28 {k : Instr → Nat → Nat → Nat → List Nat → Prop} : xse (xFind tbX8_clean 28) k = k (.iaload) 24 0 0 [] := rfl
theorem tbX8_clean_29 {k : Instr → Nat → Nat → Nat → List Nat → Prop} : xse (xFind tbX8_clean 29) k = k (.ifCond .gt 13) 42 0 0 [] := rfl
theorem tbX8_clean_32 {k : Instr → Nat → Nat → Nat → List Nat → Prop} : xse (xFind tbX8_clean 32) k = k (.aload_n 0) 0 0 0 [] := rfl
theorem tbX8_clean_33 {k : Instr → Nat → Nat → Nat → List Nat → Prop} : xse (xFind tbX8_clean 33) k = k (.getfield 71) 9 26 2 [] := rfl
theorem tbX8_clean_36 {k : Instr → Nat → Nat → Nat → List Nat → Prop} : xse (xFind tbX8_clean 36) k = k (.iload_n 1) 1 0 0 [] := rfl
theorem tbX8_clean_37 {k : Instr → Nat → Nat → Nat → List Nat → Prop} : xse (xFind tbX8_clean 37) k = k (.iaload) 26 0 0 [] := rfl
theorem tbX8_clean_38 {k : Instr → Nat → Nat → Nat → List Nat → Prop} : xse (xFind tbX8_clean 38) k = k (.iconst (-1)) 0 0 0 [] := rfl
theorem tbX8_clean_39 {k : Instr → Nat → Nat → Nat → List Nat → Prop} : xse (xFind tbX8_clean 39) k = k (.if_icmp .ne 7) 46 0 0 [] := rfl
theorem tbX8_clean_42 {k : Instr → Nat → Nat → Nat → List Nat → Prop} : xse (xFind tbX8_clean 42) k = k (.iconst 2) 0 0 0 [] := rfl
theorem tbX8_clean_43 {k : Instr → Nat → Nat → Nat → List Nat → Prop} : xse (xFind tbX8_clean 43) k = k (.goto 4) 47 0 0 [] := rfl
theorem tbX8_clean_46 {k : Instr → Nat → Nat → Nat → List Nat → Prop} : xse (xFind tbX8_clean 46) k = k (.iconst 0) 0 0 0 [] := rfl
theorem tbX8_clean_47 {k : Instr → Nat → Nat → Nat → List Nat → Prop} : xse (xFind tbX8_clean 47) k = k (.invokevirtual 183) 2 2 9 [] := rfl
theorem tbX8_clean_50 {k : Instr → Nat → Nat → Nat → List Nat → Prop} : xse (xFind tbX8_clean 50) k = k (.ifCond .ne 5) 55 0 0 [] := rfl
theorem tbX8_clean_53 {k : Instr → Nat → Nat → Nat → List Nat → Prop} : xse (xFind tbX8_clean 53) k = k (.iconst 0) 0 0 0 [] := rfl
theorem tbX8_clean_54 {k : Instr → Nat → Nat → Nat → List Nat → Prop} : xse (xFind tbX8_clean 54) k = k (.ireturn) 0 0 0 [] := rfl
theorem tbX8_clean_55 {k : Instr → Nat → Nat → Nat → List Nat → Prop} : xse (xFind tbX8_clean 55) k = k (.aload_n 0) 0 0 0 [] := rfl
theorem tbX8_clean_56 {k : Instr → Nat → Nat → Nat → List Nat → Prop} : xse (xFind tbX8_clean 56) k = k (.getfield 71) 9 26 2 [] := rfl
theorem tbX8_clean_59 {k : Instr → Nat → Nat → Nat → List Nat → Prop} : xse (xFind tbX8_clean 59) k = k (.iload_n 1) 1 0 0 [] := rfl
theorem tbX8_clean_60 {k : Instr → Nat → Nat → Nat → List Nat → Prop} : xse (xFind tbX8_clean 60) k = k (.iaload) 26 0 0 [] := rfl
theorem tbX8_clean_61 {k : Instr → Nat → Nat → Nat → List Nat → Prop} : xse (xFind tbX8_clean 61) k = k (.istore_n 3) 3 0 0 [] := rfl
theorem tbX8_clean_62 {k : Instr → Nat → Nat → Nat → List Nat → Prop} : xse (xFind tbX8_clean 62) k = k (.aload_n 0) 0 0 0 [] := rfl
theorem tbX8_clean_63 {k : Instr → Nat → Nat → Nat → List Nat → Prop} : xse (xFind tbX8_clean 63) k = k (.getfield 71) 9 26 2 [] := rfl
theorem tbX8_clean_66 {k : Instr → Nat → Nat → Nat → List Nat → Prop} : xse (xFind tbX8_clean 66) k = k (.iload_n 1) 1 0 0 [] := rfl
theorem tbX8_clean_67 {k : Instr → Nat → Nat → Nat → List Nat → Prop} : xse (xFind tbX8_clean 67) k = k (.iconst (-1)) 0 0 0 [] := rfl
theorem tbX8_clean_68 {k : Instr → Nat → Nat → Nat → List Nat → Prop} : xse (xFind tbX8_clean 68) k = k (.iastore) 26 0 0 [] := rfl
theorem tbX8_clean_69 {k : Instr → Nat → Nat → Nat → List Nat → Prop} : xse (xFind tbX8_clean 69) k = k (.aload_n 0) 0 0 0 [] := rfl
theorem tbX8_clean_70 {k : Instr → Nat → Nat → Nat → List Nat → Prop} : xse (xFind tbX8_clean 70) k = k (.dup) 0 0 0 [] := rfl
theorem tbX8_clean_71 {k : Instr → Nat → Nat → Nat → List Nat → Prop} : xse (xFind tbX8_clean 71) k = k (.getfield 244) 9 57 0 [] := rfl
theorem tbX8_clean_74 {k : Instr → Nat → Nat → Nat → List Nat → Prop} : xse (xFind tbX8_clean 74) k = k (.bipush 20) 0 0 0 [] := rfl
theorem tbX8_clean_76 {k : Instr → Nat → Nat → Nat → List Nat → Prop} : xse (xFind tbX8_clean 76) k = k (.iadd) 0 0 0 [] := rfl
theorem tbX8_clean_77 {k : Instr → Nat → Nat → Nat → List Nat → Prop} : xse (xFind tbX8_clean 77) k = k (.putfield 244) 9 57 0 [] := rfl
theorem tbX8_clean_80 {k : Instr → Nat → Nat → Nat → List Nat → Prop} : xse (xFind tbX8_clean 80) k = k (.iload_n 3) 3 0 0 [] := rfl
theorem tbX8_clean_81 {k : Instr → Nat → Nat → Nat → List Nat → Prop} : xse (xFind tbX8_clean 81) k = k (.ireturn) 0 0 0 [] := rfl

def spX8_clean (aM : Nat → Nat) : xSp mS := (fun av M => (0, 0), fun av M K => ∃ (b : Int32), av = [.ref (aM 0), .int b] ∧ ((M.1 22 = nI (nBg M) ∧ nBg M ≤ 24) ∧ K (rI (oClean M b).1) (oClean M b).2))
theorem spcX8_clean {av : List Value} {M : mS} {aM : Nat → Nat} : (spX8_clean aM).1 av M = (0, 0) := rfl
theorem spwX8_clean {M : mS} {aM : Nat → Nat} {K : xRes → mS → Prop} {b : Int32} : (spX8_clean aM).2 [.ref (aM 0), .int b] M K = ((M.1 22 = nI (nBg M) ∧ nBg M ≤ 24) ∧ K (rI (oClean M b).1) (oClean M b).2) :=
  propext ⟨fun h => by
    simp only [spX8_clean] at h
    obtain ⟨_, e, h⟩ := h
    simp only [List.cons.injEq, Value.int.injEq, Value.ref.injEq, rf_eq, and_true, true_and] at e
    obtain rfl := e
    exact h, fun h => ⟨_, rfl, h⟩⟩

def callX8_clean (aM : Nat → Nat) : Nat → Option (xSp mS) := fun n => match n with | 0 => some (spX8_isBarge aM) | 1 => some (spX8_isTied aM) | 2 => some (spX8_holds aM) | _ => none

theorem callX8_clean_0 {aM : Nat → Nat} {k : xSp mS → Prop} : xcs (callX8_clean aM 0) k = k (spX8_isBarge aM) := rfl

theorem callX8_clean_1 {aM : Nat → Nat} {k : xSp mS → Prop} : xcs (callX8_clean aM 1) k = k (spX8_isTied aM) := rfl

theorem callX8_clean_2 {aM : Nat → Nat} {k : xSp mS → Prop} : xcs (callX8_clean aM 2) k = k (spX8_holds aM) := rfl

theorem crX8_clean (l : Launch) (W9 : xWd) (aM : Nat → Nat) (hi : mInj aM) : xCallsOK l W9 (mI aM) (callX8_clean aM) clX8_clean RX8 wsX8_clean 2 43 4 := by
  intro E A p e R s m args below meth c hI hF hL X
  exact List.forall_mem_cons.mpr ⟨⟨_, rfl, xCR_V X (by rw [hI]; exact (semX8_isBarge l W9 aM hi)) gX8_clean_X8_isBarge rfl rfl (by decide +kernel) (by rw [hF, hL]; decide)⟩,
    List.forall_mem_cons.mpr ⟨⟨_, rfl, xCR_V X (by rw [hI]; exact (semX8_isTied l W9 aM hi)) gX8_clean_X8_isTied rfl rfl (by decide +kernel) (by rw [hF, hL]; decide)⟩,
    List.forall_mem_cons.mpr ⟨⟨_, rfl, xCR_V X (by rw [hI]; exact (semX8_holds l W9 aM hi)) gX8_clean_X8_holds rfl rfl (by decide +kernel) (by rw [hF, hL]; decide)⟩,
    fun _ h => nomatch h⟩⟩⟩

set_option maxHeartbeats 4000000 in
set_option maxRecDepth 20000 in
theorem semX8_clean (l : Launch) (W9 : xWd) (aM : Nat → Nat) (hi : mInj aM) : xSem l W9 (mI aM) yX8_clean wsX8_clean 2 43 (spX8_clean aM) := by
  refine xSem_of (call := callX8_clean aM) (thrf := fun _ => "") (mI_law hi) (by decide +kernel) rfl ckX8_clean usX8_clean (crX8_clean l W9 aM hi) xThrOK_nil ?_ ?_
  · intro av M KF h
    obtain ⟨b, rfl, h⟩ := h
    exact ⟨by intro v hv; simp only [List.mem_cons, List.not_mem_nil, or_false] at hv; rcases hv with rfl | rfl <;> first | rfl | exact cat_rf, Nat.le_of_ble_eq_true rfl⟩
  intro av M KF h G hG
  obtain ⟨b, rfl, h⟩ := h
  rw [show (spX8_clean aM).1 _ M = _ from spcX8_clean] at hG
  try dsimp only at hG
  change G 0 [some (.ref (aM 0)), some (.int b), none, none] [] M 0 0
  obtain ⟨hg, h⟩ := h
  refine xgo0 hG (fun fu hfu => ?_)
  clear hG
  simp only [↓callX8_clean_0, ↓callX8_clean_1, ↓callX8_clean_2, kb_20, kc_20, ki_0, ki_1, ki_2, ki_m1, ↓ma_24, ↓ma_26, ↓mg_24, ↓mg_26, ↓mg_57, misa, ↓mp_57, ↓ms_26, ↓vm_aload_n, ↓vm_bipush, ↓vm_dup, ↓vm_getfield, ↓vm_goto, ↓vm_iadd, ↓vm_iaload, ↓vm_iastore, ↓vm_iconst, ↓vm_ifCond_eq, ↓vm_ifCond_gt, ↓vm_ifCond_ne, ↓vm_if_icmp_ne, ↓vm_iload_n, ↓vm_invokevirtual, ↓vm_ireturn, ↓vm_istore_n, ↓vm_putfield, ↓xc_2, ↓tbX8_clean_0, ↓tbX8_clean_1, ↓tbX8_clean_2, ↓tbX8_clean_5, ↓tbX8_clean_6, ↓tbX8_clean_7, ↓tbX8_clean_8, ↓tbX8_clean_11, ↓tbX8_clean_12, ↓tbX8_clean_15, ↓tbX8_clean_16, ↓tbX8_clean_17, ↓tbX8_clean_20, ↓tbX8_clean_23, ↓tbX8_clean_24, ↓tbX8_clean_27, ↓tbX8_clean_28, ↓tbX8_clean_29, ↓tbX8_clean_32, ↓tbX8_clean_33, ↓tbX8_clean_36, ↓tbX8_clean_37, ↓tbX8_clean_38, ↓tbX8_clean_39, ↓tbX8_clean_42, ↓tbX8_clean_43, ↓tbX8_clean_46, ↓tbX8_clean_47, ↓tbX8_clean_50, ↓tbX8_clean_53, ↓tbX8_clean_54, ↓tbX8_clean_55, ↓tbX8_clean_56, ↓tbX8_clean_59, ↓tbX8_clean_60, ↓tbX8_clean_61, ↓tbX8_clean_62, ↓tbX8_clean_63, ↓tbX8_clean_66, ↓tbX8_clean_67, ↓tbX8_clean_68, ↓tbX8_clean_69, ↓tbX8_clean_70, ↓tbX8_clean_71, ↓tbX8_clean_74, ↓tbX8_clean_76, ↓tbX8_clean_77, ↓tbX8_clean_80, ↓tbX8_clean_81, hfu, xstep0, xJ1_hit, xJ1_go, xJ2_hit1, xJ2_hit2, xJ2_go, ↓xif_t, ↓xif_f, seval, ↓xca_eq, ↓xre_l, ↓xre_r, xmask_t, xmask_f, xmask_nil, ↓xst_eq, xX_eq, eI_eq, eMc_eq, eMs_eq, eF_eq, eThr_eq, ↓xS1_mk, ↓xSI_mk, ↓xSR_mk, ↓xLI_0, ↓xLI_s, ↓xLR_0, ↓xLR_s, vRef_ref, vRef_null, vRef_rf, cat_int, cat_ref, cat_null, cat_rf, rf_some, rf_none, rf_null, rf_eq, rf_ref, ref_rf, ref_null, ref_ref, xOk_0, xOk_1, xOk_2r, xOk_2n, xOk_2f, vOpt_rf, vOpt_ref, vOpt_null, List.set_cons_zero, List.set_cons_succ, List.take_succ_cons, List.take_zero, List.drop_succ_cons, List.drop_zero, List.reverse_cons, List.reverse_nil, List.nil_append, List.cons_append, List.append_nil, List.length_cons, List.length_nil, List.map_cons, List.map_nil, List.sum_cons, List.sum_nil, Option.toList_some, Option.toList_none, xRecv_mk, true_and, and_true, true_implies, Nat.reduceAdd, Nat.reduceLeDiff, Nat.zero_le, Nat.le_refl, Nat.add_zero, Nat.zero_add, reduceIte, not_true_eq_false, not_false_eq_true, false_implies, and_self, implies_true, eq_self, Nat.reduceEqDiff, List.cons.injEq, xsn_1, xsn_2, false_and, and_false, or_false, false_or, or_true, true_or, xsn_3, xsn_4, mAst_1, mAst_2, mSet_1, mSet_2, bi_0, ↓spwX8_isBarge, spcX8_isBarge, ↓spwX8_isTied, spcX8_isTied, ↓spwX8_holds, spcX8_holds]
  try simp only [xif_e]
  unfold oClean at h
  have h7 := @in_bg M b hg
  repeat' (first | with_reducible apply And.intro | with_reducible intro _)
  all_goals grind [bi]

def tbX8_boat : List (Nat × xHint) := [(0, .iload_n 1, 1, 0, 0, []), (1, .iconst 1, 0, 0, 0, []), (2, .bipush 9, 0, 0, 0, []), (4, .invokestatic 159, 0, 3, 0, []), (7, .ifCond .eq 16, 23, 0, 0, []), (10, .iload_n 2, 2, 0, 0, []), (11, .iconst 1, 0, 0, 0, []), (12, .iconst 4, 0, 0, 0, []), (13, .invokestatic 159, 0, 3, 0, []), (16, .ifCond .eq 7, 23, 0, 0, []), (19, .iconst 1, 0, 0, 0, []), (20, .goto 4, 24, 0, 0, []), (23, .iconst 0, 0, 0, 0, []), (24, .istore 4, 4, 0, 0, []), (26, .aload_n 0, 0, 0, 0, []), (27, .iload_n 3, 3, 0, 0, []), (28, .invokestatic 163, 1, 1, 0, []), (31, .ifCond .ne 7, 38, 0, 0, []), (34, .iconst 1, 0, 0, 0, []), (35, .goto 26, 61, 0, 0, []), (38, .iload 4, 4, 0, 0, []), (40, .ifCond .ne 7, 47, 0, 0, []), (43, .iconst 2, 0, 0, 0, []), (44, .goto 17, 61, 0, 0, []), (47, .aload_n 0, 0, 0, 0, []), (48, .getfield 170, 9, 29, 0, []), (51, .bipush 6, 0, 0, 0, []), (53, .if_icmp .ne 7, 60, 0, 0, []), (56, .iconst 3, 0, 0, 0, []), (57, .goto 4, 61, 0, 0, []), (60, .iconst 0, 0, 0, 0, []), (61, .invokevirtual 183, 2, 2, 9, []), (64, .ifCond .ne 5, 69, 0, 0, []), (67, .iconst 0, 0, 0, 0, []), (68, .ireturn, 0, 0, 0, []), (69, .aload_n 0, 0, 0, 0, []), (70, .getfield 80, 9, 30, 2, []), (73, .aload_n 0, 0, 0, 0, []), (74, .getfield 170, 9, 29, 0, []), (77, .iload_n 1, 1, 0, 0, []), (78, .iastore, 30, 0, 0, []), (79, .aload_n 0, 0, 0, 0, []), (80, .getfield 83, 9, 31, 2, []), (83, .aload_n 0, 0, 0, 0, []), (84, .getfield 170, 9, 29, 0, []), (87, .iload_n 2, 2, 0, 0, []), (88, .iastore, 31, 0, 0, []), (89, .aload_n 0, 0, 0, 0, []), (90, .getfield 89, 9, 33, 2, []), (93, .aload_n 0, 0, 0, 0, []), (94, .getfield 170, 9, 29, 0, []), (97, .iload_n 3, 3, 0, 0, []), (98, .iastore, 33, 0, 0, []), (99, .aload_n 0, 0, 0, 0, []), (100, .getfield 92, 9, 34, 2, []), (103, .aload_n 0, 0, 0, 0, []), (104, .getfield 170, 9, 29, 0, []), (107, .iconst (-1), 0, 0, 0, []), (108, .iastore, 34, 0, 0, []), (109, .aload_n 0, 0, 0, 0, []), (110, .getfield 101, 9, 37, 2, []), (113, .aload_n 0, 0, 0, 0, []), (114, .getfield 170, 9, 29, 0, []), (117, .iconst (-1), 0, 0, 0, []), (118, .iastore, 37, 0, 0, []), (119, .aload_n 0, 0, 0, 0, []), (120, .getfield 104, 9, 38, 2, []), (123, .aload_n 0, 0, 0, 0, []), (124, .getfield 170, 9, 29, 0, []), (127, .aload_n 0, 0, 0, 0, []), (128, .getfield 228, 9, 1, 0, []), (131, .iastore, 38, 0, 0, []), (132, .aload_n 0, 0, 0, 0, []), (133, .getfield 110, 9, 40, 2, []), (136, .aload_n 0, 0, 0, 0, []), (137, .getfield 170, 9, 29, 0, []), (140, .iconst 2, 0, 0, 0, []), (141, .iastore, 40, 0, 0, []), (142, .aload_n 0, 0, 0, 0, []), (143, .dup, 0, 0, 0, []), (144, .getfield 170, 9, 29, 0, []), (147, .iconst 1, 0, 0, 0, []), (148, .iadd, 0, 0, 0, []), (149, .putfield 170, 9, 29, 0, []), (152, .aload_n 0, 0, 0, 0, []), (153, .getfield 170, 9, 29, 0, []), (156, .iconst 1, 0, 0, 0, []), (157, .isub, 0, 0, 0, []), (158, .ireturn, 0, 0, 0, [])]
def clX8_boat : List (Instr × Nat × Nat × Nat) := [(.invokestatic 159, 0, 3, 0), (.invokestatic 163, 1, 1, 0), (.invokevirtual 183, 2, 2, 9)]
def thX8_boat : List (Nat × Nat) := []
theorem ckX8_boat : tbX8_boat.all (xRow RX8 cX8_boat wsX8_boat vwCl [9] clX8_boat thX8_boat 5 (yX8_boat.name == "<init>") (some .int)) = true := xRow_q 0xac6404aa00b42aaa00b56004aa00b4592a4f05aa00b42a6e00b42a4fe400b42aaa00b42a6800b42a4f02aa00b42a6500b42a4f02aa00b42a5c00b42a4f1daa00b42a5900b42a4f1caa00b42a5300b42a4f1baa00b42a5000b42aac0305009ab700b6030400a7060700a00610aa00b42a1100a70507009a04151a00a70407009aa300b81d2a0436030400a7040700999f00b807041c1000999f00b80910041b 159 (by decide +kernel) (by decide +kernel)
theorem usX8_boat : xUse wsX8_boat vwCl [9] = true := xUse_g rfl (lw_good lwl_X8_boat lwl_X80 (by decide +kernel)) xUse_n
theorem tbX8_boat_0 {k : Instr → Nat → Nat → Nat → List Nat → Prop} : xse (xFind tbX8_boat 0) k = k (.iload_n 1) 1 0 0 [] := rfl
theorem tbX8_boat_1 {k : Instr → Nat → Nat → Nat → List Nat → Prop} : xse (xFind tbX8_boat 1) k = k (.iconst 1) 0 0 0 [] := rfl
theorem tbX8_boat_2 {k : Instr → Nat → Nat → Nat → List Nat → Prop} : xse (xFind tbX8_boat 2) k = k (.bipush 9) 0 0 0 [] := rfl
theorem tbX8_boat_4 {k : Instr → Nat → Nat → Nat → List Nat → Prop} : xse (xFind tbX8_boat 4) k = k (.invokestatic 159) 0 3 0 [] := rfl
theorem tbX8_boat_7 {k : Instr → Nat → Nat → Nat → List Nat → Prop} : xse (xFind tbX8_boat 7) k = k (.ifCond .eq 16) 23 0 0 [] := rfl
theorem tbX8_boat_10 {k : Instr → Nat → Nat → Nat → List Nat → Prop} : xse (xFind tbX8_boat 10) k = k (.iload_n 2) 2 0 0 [] := rfl
theorem tbX8_boat_11 {k : Instr → Nat → Nat → Nat → List Nat → Prop} : xse (xFind tbX8_boat 11) k = k (.iconst 1) 0 0 0 [] := rfl
theorem tbX8_boat_12 {k : Instr → Nat → Nat → Nat → List Nat → Prop} : xse (xFind tbX8_boat 12) k = k (.iconst 4) 0 0 0 [] := rfl
theorem tbX8_boat_13 {k : Instr → Nat → Nat → Nat → List Nat → Prop} : xse (xFind tbX8_boat 13) k = k (.invokestatic 159) 0 3 0 [] := rfl
theorem tbX8_boat_16 {k : Instr → Nat → Nat → Nat → List Nat → Prop} : xse (xFind tbX8_boat 16) k = k (.ifCond .eq 7) 23 0 0 [] := rfl
theorem tbX8_boat_19 {k : Instr → Nat → Nat → Nat → List Nat → Prop} : xse (xFind tbX8_boat 19) k = k (.iconst 1) 0 0 0 [] := rfl
theorem tbX8_boat_20 {k : Instr → Nat → Nat → Nat → List Nat → Prop} : xse (xFind tbX8_boat 20) k = k (.goto 4) 24 0 0 [] := rfl
theorem tbX8_boat_23 {k : Instr → Nat → Nat → Nat → List Nat → Prop} : xse (xFind tbX8_boat 23) k = k (.iconst 0) 0 0 0 [] := rfl
theorem tbX8_boat_24 {k : Instr → Nat → Nat → Nat → List Nat → Prop} : xse (xFind tbX8_boat 24) k = k (.istore 4) 4 0 0 [] := rfl
theorem tbX8_boat_26 {k : Instr → Nat → Nat → Nat → List Nat → Prop} : xse (xFind tbX8_boat 26) k = k (.aload_n 0) 0 0 0 [] := rfl
theorem tbX8_boat_27 {k : Instr → Nat → Nat → Nat → List Nat → Prop} : xse (xFind tbX8_boat 27) k = k (.iload_n 3) 3 0 0 [] := rfl
theorem tbX8_boat_28 {k : Instr → Nat → Nat → Nat → List Nat → Prop} : xse (xFind tbX8_boat 28) k = k (.invokestatic 163) 1 1 0 [] := rfl
theorem tbX8_boat_31 {k : Instr → Nat → Nat → Nat → List Nat → Prop} : xse (xFind tbX8_boat 31) k = k (.ifCond .ne 7) 38 0 0 [] := rfl
theorem tbX8_boat_34 {k : Instr → Nat → Nat → Nat → List Nat → Prop} : xse (xFind tbX8_boat 34) k = k (.iconst 1) 0 0 0 [] := rfl
theorem tbX8_boat_35 {k : Instr → Nat → Nat → Nat → List Nat → Prop} : xse (xFind tbX8_boat 35) k = k (.goto 26) 61 0 0 [] := rfl
theorem tbX8_boat_38 {k : Instr → Nat → Nat → Nat → List Nat → Prop} : xse (xFind tbX8_boat 38) k = k (.iload 4) 4 0 0 [] := rfl
theorem tbX8_boat_40 {k : Instr → Nat → Nat → Nat → List Nat → Prop} : xse (xFind tbX8_boat 40) k = k (.ifCond .ne 7) 47 0 0 [] := rfl
theorem tbX8_boat_43 {k : Instr → Nat → Nat → Nat → List Nat → Prop} : xse (xFind tbX8_boat 43) k = k (.iconst 2) 0 0 0 [] := rfl
theorem tbX8_boat_44 {k : Instr → Nat → Nat → Nat → List Nat → Prop} : xse (xFind tbX8_boat 44) k = k (.goto 17) 61 0 0 [] := rfl
theorem tbX8_boat_47 {k : Instr → Nat → Nat → Nat → List Nat → Prop} : xse (xFind tbX8_boat 47) k = k (.aload_n 0) 0 0 0 [] := rfl
theorem tbX8_boat_48 {k : Instr → Nat → Nat → Nat → List Nat → Prop} : xse (xFind tbX8_boat 48) k = k (.getfield 170) 9 29 0 [] := rfl
theorem tbX8_boat_51 {k : Instr → Nat → Nat → Nat → List Nat → Prop} : xse (xFind tbX8_boat 51) k = k (.bipush 6) 0 0 0 [] := rfl
theorem tbX8_boat_53 {k : Instr → Nat → Nat → Nat → List Nat → Prop} : xse (xFind tbX8_boat 53) k = k (.if_icmp .ne 7) 60 0 0 [] := rfl
theorem tbX8_boat_56 {k : Instr → Nat → Nat → Nat → List Nat → Prop} : xse (xFind tbX8_boat 56) k = k (.iconst 3) 0 0 0 [] := rfl
theorem tbX8_boat_57 {k : Instr → Nat → Nat → Nat → List Nat → Prop} : xse (xFind tbX8_boat 57) k = k (.goto 4) 61 0 0 [] := rfl
theorem tbX8_boat_60 {k : Instr → Nat → Nat → Nat → List Nat → Prop} : xse (xFind tbX8_boat 60) k = k (.iconst 0) 0 0 0 [] := rfl
theorem tbX8_boat_61 {k : Instr → Nat → Nat → Nat → List Nat → Prop} : xse (xFind tbX8_boat 61) k = k (.invokevirtual 183) 2 2 9 [] := rfl
theorem tbX8_boat_64 {k : Instr → Nat → Nat → Nat → List Nat → Prop} : xse (xFind tbX8_boat 64) k = k (.ifCond .ne 5) 69 0 0 [] := rfl
theorem tbX8_boat_67 {k : Instr → Nat → Nat → Nat → List Nat → Prop} : xse (xFind tbX8_boat 67) k = k (.iconst 0) 0 0 0 [] := rfl
theorem tbX8_boat_68 {k : Instr → Nat → Nat → Nat → List Nat → Prop} : xse (xFind tbX8_boat 68) k = k (.ireturn) 0 0 0 [] := rfl
theorem tbX8_boat_69 {k : Instr → Nat → Nat → Nat → List Nat → Prop} : xse (xFind tbX8_boat 69) k = k (.aload_n 0) 0 0 0 [] := rfl
theorem tbX8_boat_70 {k : Instr → Nat → Nat → Nat → List Nat → Prop} : xse (xFind tbX8_boat 70) k = k (.getfield 80) 9 30 2 [] := rfl
theorem tbX8_boat_73 {k : Instr → Nat → Nat → Nat → List Nat → Prop} : xse (xFind tbX8_boat 73) k = k (.aload_n 0) 0 0 0 [] := rfl
theorem tbX8_boat_74 {k : Instr → Nat → Nat → Nat → List Nat → Prop} : xse (xFind tbX8_boat 74) k = k (.getfield 170) 9 29 0 [] := rfl
theorem tbX8_boat_77 {k : Instr → Nat → Nat → Nat → List Nat → Prop} : xse (xFind tbX8_boat 77) k = k (.iload_n 1) 1 0 0 [] := rfl
theorem tbX8_boat_78 {k : Instr → Nat → Nat → Nat → List Nat → Prop} : xse (xFind tbX8_boat 78) k = k (.iastore) 30 0 0 [] := rfl
theorem tbX8_boat_79 {k : Instr → Nat → Nat → Nat → List Nat → Prop} : xse (xFind tbX8_boat 79) k = k (.aload_n 0) 0 0 0 [] := rfl
theorem tbX8_boat_80 {k : Instr → Nat → Nat → Nat → List Nat → Prop} : xse (xFind tbX8_boat 80) k = k (.getfield 83) 9 31 2 [] := rfl
theorem tbX8_boat_83 {k : Instr → Nat → Nat → Nat → List Nat → Prop} : xse (xFind tbX8_boat 83) k = k (.aload_n 0) 0 0 0 [] := rfl
theorem tbX8_boat_84 {k : Instr → Nat → Nat → Nat → List Nat → Prop} : xse (xFind tbX8_boat 84) k = k (.getfield 170) 9 29 0 [] := rfl
theorem tbX8_boat_87 {k : Instr → Nat → Nat → Nat → List Nat → Prop} : xse (xFind tbX8_boat 87) k = k (.iload_n 2) 2 0 0 [] := rfl
theorem tbX8_boat_88 {k : Instr → Nat → Nat → Nat → List Nat → Prop} : xse (xFind tbX8_boat 88) k = k (.iastore) 31 0 0 [] := rfl
theorem tbX8_boat_89 {k : Instr → Nat → Nat → Nat → List Nat → Prop} : xse (xFind tbX8_boat 89) k = k (.aload_n 0) 0 0 0 [] := rfl
theorem tbX8_boat_90 {k : Instr → Nat → Nat → Nat → List Nat → Prop} : xse (xFind tbX8_boat 90) k = k (.getfield 89) 9 33 2 [] := rfl
theorem tbX8_boat_93 {k : Instr → Nat → Nat → Nat → List Nat → Prop} : xse (xFind tbX8_boat 93) k = k (.aload_n 0) 0 0 0 [] := rfl
theorem tbX8_boat_94 {k : Instr → Nat → Nat → Nat → List Nat → Prop} : xse (xFind tbX8_boat 94) k = k (.getfield 170) 9 29 0 [] := rfl
theorem tbX8_boat_97 {k : Instr → Nat → Nat → Nat → List Nat → Prop} : xse (xFind tbX8_boat 97) k = k (.iload_n 3) 3 0 0 [] := rfl
theorem tbX8_boat_98 {k : Instr → Nat → Nat → Nat → List Nat → Prop} : xse (xFind tbX8_boat 98) k = k (.iastore) 33 0 0 [] := rfl
theorem tbX8_boat_99 {k : Instr → Nat → Nat → Nat → List Nat → Prop} : xse (xFind tbX8_boat 99) k = k (.aload_n 0) 0 0 0 [] := rfl
theorem tbX8_boat_100 {k : Instr → Nat → Nat → Nat → List Nat → Prop} : xse (xFind tbX8_boat 100) k = k (.getfield 92) 9 34 2 [] := rfl
theorem tbX8_boat_103 {k : Instr → Nat → Nat → Nat → List Nat → Prop} : xse (xFind tbX8_boat 103) k = k (.aload_n 0) 0 0 0 [] := rfl
theorem tbX8_boat_104 {k : Instr → Nat → Nat → Nat → List Nat → Prop} : xse (xFind tbX8_boat 104) k = k (.getfield 170) 9 29 0 [] := rfl
theorem tbX8_boat_107 {k : Instr → Nat → Nat → Nat → List Nat → Prop} : xse (xFind tbX8_boat 107) k = k (.iconst (-1)) 0 0 0 [] := rfl
theorem tbX8_boat_108 {k : Instr → Nat → Nat → Nat → List Nat → Prop} : xse (xFind tbX8_boat 108) k = k (.iastore) 34 0 0 [] := rfl
theorem tbX8_boat_109 {k : Instr → Nat → Nat → Nat → List Nat → Prop} : xse (xFind tbX8_boat 109) k = k (.aload_n 0) 0 0 0 [] := rfl
theorem tbX8_boat_110 {k : Instr → Nat → Nat → Nat → List Nat → Prop} : xse (xFind tbX8_boat 110) k = k (.getfield 101) 9 37 2 [] := rfl
theorem tbX8_boat_113 {k : Instr → Nat → Nat → Nat → List Nat → Prop} : xse (xFind tbX8_boat 113) k = k (.aload_n 0) 0 0 0 [] := rfl
theorem tbX8_boat_114 {k : Instr → Nat → Nat → Nat → List Nat → Prop} : xse (xFind tbX8_boat 114) k = k (.getfield 170) 9 29 0 [] := rfl
theorem tbX8_boat_117 {k : Instr → Nat → Nat → Nat → List Nat → Prop} : xse (xFind tbX8_boat 117) k = k (.iconst (-1)) 0 0 0 [] := rfl
theorem tbX8_boat_118 {k : Instr → Nat → Nat → Nat → List Nat → Prop} : xse (xFind tbX8_boat 118) k = k (.iastore) 37 0 0 [] := rfl
theorem tbX8_boat_119 {k : Instr → Nat → Nat → Nat → List Nat → Prop} : xse (xFind tbX8_boat 119) k = k (.aload_n 0) 0 0 0 [] := rfl
theorem tbX8_boat_120 {k : Instr → Nat → Nat → Nat → List Nat → Prop} : xse (xFind tbX8_boat 120) k = k (.getfield 104) 9 38 2 [] := rfl
theorem tbX8_boat_123 {k : Instr → Nat → Nat → Nat → List Nat → Prop} : xse (xFind tbX8_boat 123) k = k (.aload_n 0) 0 0 0 [] := rfl
theorem tbX8_boat_124 {k : Instr → Nat → Nat → Nat → List Nat → Prop} : xse (xFind tbX8_boat 124) k = k (.getfield 170) 9 29 0 [] := rfl
theorem tbX8_boat_127 {k : Instr → Nat → Nat → Nat → List Nat → Prop} : xse (xFind tbX8_boat 127) k = k (.aload_n 0) 0 0 0 [] := rfl
theorem tbX8_boat_128 {k : Instr → Nat → Nat → Nat → List Nat → Prop} : xse (xFind tbX8_boat 128) k = k (.getfield 228) 9 1 0 [] := rfl
theorem tbX8_boat_131 {k : Instr → Nat → Nat → Nat → List Nat → Prop} : xse (xFind tbX8_boat 131) k = k (.iastore) 38 0 0 [] := rfl
theorem tbX8_boat_132 {k : Instr → Nat → Nat → Nat → List Nat → Prop} : xse (xFind tbX8_boat 132) k = k (.aload_n 0) 0 0 0 [] := rfl
theorem tbX8_boat_133 {k : Instr → Nat → Nat → Nat → List Nat → Prop} : xse (xFind tbX8_boat 133) k = k (.getfield 110) 9 40 2 [] := rfl
theorem tbX8_boat_136 {k : Instr → Nat → Nat → Nat → List Nat → Prop} : xse (xFind tbX8_boat 136) k = k (.aload_n 0) 0 0 0 [] := rfl
theorem tbX8_boat_137 {k : Instr → Nat → Nat → Nat → List Nat → Prop} : xse (xFind tbX8_boat 137) k = k (.getfield 170) 9 29 0 [] := rfl
theorem tbX8_boat_140 {k : Instr → Nat → Nat → Nat → List Nat → Prop} : xse (xFind tbX8_boat 140) k = k (.iconst 2) 0 0 0 [] := rfl
theorem tbX8_boat_141 {k : Instr → Nat → Nat → Nat → List Nat → Prop} : xse (xFind tbX8_boat 141) k = k (.iastore) 40 0 0 [] := rfl
theorem tbX8_boat_142 {k : Instr → Nat → Nat → Nat → List Nat → Prop} : xse (xFind tbX8_boat 142) k = k (.aload_n 0) 0 0 0 [] := rfl
theorem tbX8_boat_143 {k : Instr → Nat → Nat → Nat → List Nat → Prop} : xse (xFind tbX8_boat 143) k = k (.dup) 0 0 0 [] := rfl
theorem tbX8_boat_144 {k : Instr → Nat → Nat → Nat → List Nat → Prop} : xse (xFind tbX8_boat 144) k = k (.getfield 170) 9 29 0 [] := rfl
theorem tbX8_boat_147 {k : Instr → Nat → Nat → Nat → List Nat → Prop} : xse (xFind tbX8_boat 147) k = k (.iconst 1) 0 0 0 [] := rfl
theorem tbX8_boat_148 {k : Instr → Nat → Nat → Nat → List Nat → Prop} : xse (xFind tbX8_boat 148) k = k (.iadd) 0 0 0 [] := rfl
theorem tbX8_boat_149 {k : Instr → Nat → Nat → Nat → List Nat → Prop} : xse (xFind tbX8_boat 149) k = k (.putfield 170) 9 29 0 [] := rfl
theorem tbX8_boat_152 {k : Instr → Nat → Nat → Nat → List Nat → Prop} : xse (xFind tbX8_boat 152) k = k (.aload_n 0) 0 0 0 [] := rfl
theorem tbX8_boat_153 {k : Instr → Nat → Nat → Nat → List Nat → Prop} : xse (xFind tbX8_boat 153) k = k (.getfield 170) 9 29 0 [] := rfl
theorem tbX8_boat_156 {k : Instr → Nat → Nat → Nat → List Nat → Prop} : xse (xFind tbX8_boat 156) k = k (.iconst 1) 0 0 0 [] := rfl
theorem tbX8_boat_157 {k : Instr → Nat → Nat → Nat → List Nat → Prop} : xse (xFind tbX8_boat 157) k = k (.isub) 0 0 0 [] := rfl
theorem tbX8_boat_158 {k : Instr → Nat → Nat → Nat → List Nat → Prop} : xse (xFind tbX8_boat 158) k = k (.ireturn) 0 0 0 [] := rfl

def spX8_boat (aM : Nat → Nat) : xSp mS := (fun av M => (0, 0), fun av M K => ∃ (w : Int32) (ha : Int32) (p : Int32), av = [.ref (aM 0), .int w, .int ha, .int p] ∧ ((M.1 29 = nI (nBt M) ∧ nBt M ≤ 6) ∧ K (rI (oBoat M w ha p).1) (oBoat M w ha p).2))
theorem spcX8_boat {av : List Value} {M : mS} {aM : Nat → Nat} : (spX8_boat aM).1 av M = (0, 0) := rfl
theorem spwX8_boat {M : mS} {aM : Nat → Nat} {K : xRes → mS → Prop} {w : Int32} {ha : Int32} {p : Int32} : (spX8_boat aM).2 [.ref (aM 0), .int w, .int ha, .int p] M K = ((M.1 29 = nI (nBt M) ∧ nBt M ≤ 6) ∧ K (rI (oBoat M w ha p).1) (oBoat M w ha p).2) :=
  propext ⟨fun h => by
    simp only [spX8_boat] at h
    obtain ⟨_, _, _, e, h⟩ := h
    simp only [List.cons.injEq, Value.int.injEq, Value.ref.injEq, rf_eq, and_true, true_and] at e
    obtain ⟨rfl, rfl, rfl⟩ := e
    exact h, fun h => ⟨_, _, _, rfl, h⟩⟩

def callX8_boat (aM : Nat → Nat) : Nat → Option (xSp mS) := fun n => match n with | 0 => some (spX8_in aM) | 1 => some (spX8_isPoint aM) | 2 => some (spX8_holds aM) | _ => none

theorem callX8_boat_0 {aM : Nat → Nat} {k : xSp mS → Prop} : xcs (callX8_boat aM 0) k = k (spX8_in aM) := rfl

theorem callX8_boat_1 {aM : Nat → Nat} {k : xSp mS → Prop} : xcs (callX8_boat aM 1) k = k (spX8_isPoint aM) := rfl

theorem callX8_boat_2 {aM : Nat → Nat} {k : xSp mS → Prop} : xcs (callX8_boat aM 2) k = k (spX8_holds aM) := rfl

theorem crX8_boat (l : Launch) (W9 : xWd) (aM : Nat → Nat) (hi : mInj aM) : xCallsOK l W9 (mI aM) (callX8_boat aM) clX8_boat RX8 wsX8_boat 2 42 5 := by
  intro E A p e R s m args below meth c hI hF hL X
  exact List.forall_mem_cons.mpr ⟨⟨_, rfl, xCR_S X (by rw [hI]; exact (semX8_in l W9 aM hi)) gX8_boat_X8_in rfl (by decide +kernel) (by rw [hF, hL]; decide)⟩,
    List.forall_mem_cons.mpr ⟨⟨_, rfl, xCR_S X (by rw [hI]; exact (semX8_isPoint l W9 aM hi)) gX8_boat_X8_isPoint rfl (by decide +kernel) (by rw [hF, hL]; decide)⟩,
    List.forall_mem_cons.mpr ⟨⟨_, rfl, xCR_V X (by rw [hI]; exact (semX8_holds l W9 aM hi)) gX8_boat_X8_holds rfl rfl (by decide +kernel) (by rw [hF, hL]; decide)⟩,
    fun _ h => nomatch h⟩⟩⟩

set_option maxHeartbeats 4000000 in
set_option maxRecDepth 20000 in
theorem semX8_boat (l : Launch) (W9 : xWd) (aM : Nat → Nat) (hi : mInj aM) : xSem l W9 (mI aM) yX8_boat wsX8_boat 2 42 (spX8_boat aM) := by
  refine xSem_of (call := callX8_boat aM) (thrf := fun _ => "") (mI_law hi) (by decide +kernel) rfl ckX8_boat usX8_boat (crX8_boat l W9 aM hi) xThrOK_nil ?_ ?_
  · intro av M KF h
    obtain ⟨w, ha, p, rfl, h⟩ := h
    exact ⟨by intro v hv; simp only [List.mem_cons, List.not_mem_nil, or_false] at hv; rcases hv with rfl | rfl | rfl | rfl <;> first | rfl | exact cat_rf, Nat.le_of_ble_eq_true rfl⟩
  intro av M KF h G hG
  obtain ⟨w, ha, p, rfl, h⟩ := h
  rw [show (spX8_boat aM).1 _ M = _ from spcX8_boat] at hG
  try dsimp only at hG
  change G 0 [some (.ref (aM 0)), some (.int w), some (.int ha), some (.int p), none] [] M 0 0
  obtain ⟨hn, h⟩ := h
  refine xgo0 hG (fun fu hfu => ?_)
  clear hG
  simp only [↓callX8_boat_0, ↓callX8_boat_1, ↓callX8_boat_2, kb_6, kb_9, kc_6, kc_9, ki_0, ki_1, ki_2, ki_3, ki_4, ki_m1, ↓mg_1, ↓mg_29, ↓mg_30, ↓mg_31, ↓mg_33, ↓mg_34, ↓mg_37, ↓mg_38, ↓mg_40, misa, ↓mp_29, ↓ms_30, ↓ms_31, ↓ms_33, ↓ms_34, ↓ms_37, ↓ms_38, ↓ms_40, ↓vm_aload_n, ↓vm_bipush, ↓vm_dup, ↓vm_getfield, ↓vm_goto, ↓vm_iadd, ↓vm_iastore, ↓vm_iconst, ↓vm_ifCond_eq, ↓vm_ifCond_ne, ↓vm_if_icmp_ne, ↓vm_iload, ↓vm_iload_n, ↓vm_invokestatic, ↓vm_invokevirtual, ↓vm_ireturn, ↓vm_istore, ↓vm_isub, ↓vm_putfield, ↓xc_1, ↓xc_2, ↓xc_3, ↓tbX8_boat_0, ↓tbX8_boat_1, ↓tbX8_boat_2, ↓tbX8_boat_4, ↓tbX8_boat_7, ↓tbX8_boat_10, ↓tbX8_boat_11, ↓tbX8_boat_12, ↓tbX8_boat_13, ↓tbX8_boat_16, ↓tbX8_boat_19, ↓tbX8_boat_20, ↓tbX8_boat_23, ↓tbX8_boat_24, ↓tbX8_boat_26, ↓tbX8_boat_27, ↓tbX8_boat_28, ↓tbX8_boat_31, ↓tbX8_boat_34, ↓tbX8_boat_35, ↓tbX8_boat_38, ↓tbX8_boat_40, ↓tbX8_boat_43, ↓tbX8_boat_44, ↓tbX8_boat_47, ↓tbX8_boat_48, ↓tbX8_boat_51, ↓tbX8_boat_53, ↓tbX8_boat_56, ↓tbX8_boat_57, ↓tbX8_boat_60, ↓tbX8_boat_61, ↓tbX8_boat_64, ↓tbX8_boat_67, ↓tbX8_boat_68, ↓tbX8_boat_69, ↓tbX8_boat_70, ↓tbX8_boat_73, ↓tbX8_boat_74, ↓tbX8_boat_77, ↓tbX8_boat_78, ↓tbX8_boat_79, ↓tbX8_boat_80, ↓tbX8_boat_83, ↓tbX8_boat_84, ↓tbX8_boat_87, ↓tbX8_boat_88, ↓tbX8_boat_89, ↓tbX8_boat_90, ↓tbX8_boat_93, ↓tbX8_boat_94, ↓tbX8_boat_97, ↓tbX8_boat_98, ↓tbX8_boat_99, ↓tbX8_boat_100, ↓tbX8_boat_103, ↓tbX8_boat_104, ↓tbX8_boat_107, ↓tbX8_boat_108, ↓tbX8_boat_109, ↓tbX8_boat_110, ↓tbX8_boat_113, ↓tbX8_boat_114, ↓tbX8_boat_117, ↓tbX8_boat_118, ↓tbX8_boat_119, ↓tbX8_boat_120, ↓tbX8_boat_123, ↓tbX8_boat_124, ↓tbX8_boat_127, ↓tbX8_boat_128, ↓tbX8_boat_131, ↓tbX8_boat_132, ↓tbX8_boat_133, ↓tbX8_boat_136, ↓tbX8_boat_137, ↓tbX8_boat_140, ↓tbX8_boat_141, ↓tbX8_boat_142, ↓tbX8_boat_143, ↓tbX8_boat_144, ↓tbX8_boat_147, ↓tbX8_boat_148, ↓tbX8_boat_149, ↓tbX8_boat_152, ↓tbX8_boat_153, ↓tbX8_boat_156, ↓tbX8_boat_157, ↓tbX8_boat_158, hfu, xstep0, xJ1_hit, xJ1_go, xJ2_hit1, xJ2_hit2, xJ2_go, ↓xif_t, ↓xif_f, seval, ↓xca_eq, ↓xre_l, ↓xre_r, xmask_t, xmask_f, xmask_nil, ↓xst_eq, xX_eq, eI_eq, eMc_eq, eMs_eq, eF_eq, eThr_eq, ↓xS1_mk, ↓xSI_mk, ↓xSR_mk, ↓xLI_0, ↓xLI_s, ↓xLR_0, ↓xLR_s, vRef_ref, vRef_null, vRef_rf, cat_int, cat_ref, cat_null, cat_rf, rf_some, rf_none, rf_null, rf_eq, rf_ref, ref_rf, ref_null, ref_ref, xOk_0, xOk_1, xOk_2r, xOk_2n, xOk_2f, vOpt_rf, vOpt_ref, vOpt_null, List.set_cons_zero, List.set_cons_succ, List.take_succ_cons, List.take_zero, List.drop_succ_cons, List.drop_zero, List.reverse_cons, List.reverse_nil, List.nil_append, List.cons_append, List.append_nil, List.length_cons, List.length_nil, List.map_cons, List.map_nil, List.sum_cons, List.sum_nil, Option.toList_some, Option.toList_none, xRecv_mk, true_and, and_true, true_implies, Nat.reduceAdd, Nat.reduceLeDiff, Nat.zero_le, Nat.le_refl, Nat.add_zero, Nat.zero_add, reduceIte, not_true_eq_false, not_false_eq_true, false_implies, and_self, implies_true, eq_self, Nat.reduceEqDiff, List.cons.injEq, xsn_1, xsn_2, false_and, and_false, or_false, false_or, or_true, true_or, xsn_3, xsn_4, mAst_1, mAst_2, mSet_1, mSet_2, bi_0, ↓spwX8_in, spcX8_in, ↓spwX8_isPoint, spcX8_isPoint, ↓spwX8_holds, spcX8_holds]
  try simp only [xif_e]
  unfold oBoat at h
  have h8 : ¬ M.1 29 = 6 → vp_in (M.1 29) 6 := by
    intro q
    rw [hn.1] at q ⊢
    exact xin_nI (by rcases Nat.lt_or_eq_of_le hn.2 with r | r; exact r; exact absurd (by rw [r]; rfl) q) (by omega)
  repeat' (first | with_reducible apply And.intro | with_reducible intro _)
  all_goals grind [bi]

def tbX8_fuel : List (Nat × xHint) := [(0, .aload_n 0, 0, 0, 0, []), (1, .iload_n 1, 1, 0, 0, []), (2, .invokevirtual 247, 0, 2, 9, []), (5, .istore_n 3, 3, 0, 0, []), (6, .aload_n 0, 0, 0, 0, []), (7, .iload_n 3, 3, 0, 0, []), (8, .ifCond .ne 7, 15, 0, 0, []), (11, .iconst 1, 0, 0, 0, []), (12, .goto 45, 57, 0, 0, []), (15, .iload_n 2, 2, 0, 0, []), (16, .iconst 1, 0, 0, 0, []), (17, .sipush 999, 0, 0, 0, []), (20, .invokestatic 159, 1, 3, 0, []), (23, .ifCond .ne 7, 30, 0, 0, []), (26, .iconst 2, 0, 0, 0, []), (27, .goto 30, 57, 0, 0, []), (30, .aload_n 0, 0, 0, 0, []), (31, .iload_n 1, 1, 0, 0, []), (32, .invokevirtual 250, 2, 2, 9, []), (35, .ifCond .eq 17, 52, 0, 0, []), (38, .aload_n 0, 0, 0, 0, []), (39, .getfield 86, 9, 32, 2, []), (42, .iload_n 1, 1, 0, 0, []), (43, .iaload, 32, 0, 0, []), (44, .iload_n 2, 2, 0, 0, []), (45, .iadd, 0, 0, 0, []), (46, .sipush 999, 0, 0, 0, []), (49, .if_icmp .le 7, 56, 0, 0, []), (52, .iconst 3, 0, 0, 0, []), (53, .goto 4, 57, 0, 0, []), (56, .iconst 0, 0, 0, 0, []), (57, .invokevirtual 183, 3, 2, 9, []), (60, .ifCond .ne 5, 65, 0, 0, []), (63, .iconst 0, 0, 0, 0, []), (64, .ireturn, 0, 0, 0, []), (65, .aload_n 0, 0, 0, 0, []), (66, .getfield 86, 9, 32, 2, []), (69, .iload_n 1, 1, 0, 0, []), (70, .dup2, 0, 0, 0, []), (71, .iaload, 32, 0, 0, []), (72, .iload_n 2, 2, 0, 0, []), (73, .iadd, 0, 0, 0, []), (74, .iastore, 32, 0, 0, []), (75, .aload_n 0, 0, 0, 0, []), (76, .dup, 0, 0, 0, []), (77, .getfield 253, 9, 58, 0, []), (80, .iload_n 2, 2, 0, 0, []), (81, .iadd, 0, 0, 0, []), (82, .putfield 253, 9, 58, 0, []), (85, .aload_n 0, 0, 0, 0, []), (86, .getfield 86, 9, 32, 2, []), (89, .iload_n 1, 1, 0, 0, []), (90, .iaload, 32, 0, 0, []), (91, .ireturn, 0, 0, 0, [])]
def clX8_fuel : List (Instr × Nat × Nat × Nat) := [(.invokevirtual 247, 0, 2, 9), (.invokestatic 159, 1, 3, 0), (.invokevirtual 250, 2, 2, 9), (.invokevirtual 183, 3, 2, 9)]
def thX8_fuel : List (Nat × Nat) := []
theorem ckX8_fuel : tbX8_fuel.all (xRow RX8 cX8_fuel wsX8_fuel vwCl [9] clX8_fuel thX8_fuel 4 (yX8_fuel.name == "<init>") (some .int)) = true := xRow_q 0xac2e1b5600b42afd00b5601cfd00b4592a4f601c2e5c1b5600b42aac0305009ab700b6030400a7060700a4e70311601c2e1b5600b42a110099fa00b61b2a1e00a70507009a9f00b8e70311041c2d00a70407009a1d2a3ef700b61b2a 92 (by decide +kernel) (by decide +kernel)
theorem usX8_fuel : xUse wsX8_fuel vwCl [9] = true := xUse_g rfl (lw_good lwl_X8_fuel lwl_X80 (by decide +kernel)) xUse_n
theorem tbX8_fuel_0 {k : Instr → Nat → Nat → Nat → List Nat → Prop} : xse (xFind tbX8_fuel 0) k = k (.aload_n 0) 0 0 0 [] := rfl
theorem tbX8_fuel_1 {k : Instr → Nat → Nat → Nat → List Nat → Prop} : xse (xFind tbX8_fuel 1) k = k (.iload_n 1) 1 0 0 [] := rfl
theorem tbX8_fuel_2 {k : Instr → Nat → Nat → Nat → List Nat → Prop} : xse (xFind tbX8_fuel 2) k = k (.invokevirtual 247) 0 2 9 [] := rfl
theorem tbX8_fuel_5 {k : Instr → Nat → Nat → Nat → List Nat → Prop} : xse (xFind tbX8_fuel 5) k = k (.istore_n 3) 3 0 0 [] := rfl
theorem tbX8_fuel_6 {k : Instr → Nat → Nat → Nat → List Nat → Prop} : xse (xFind tbX8_fuel 6) k = k (.aload_n 0) 0 0 0 [] := rfl
theorem tbX8_fuel_7 {k : Instr → Nat → Nat → Nat → List Nat → Prop} : xse (xFind tbX8_fuel 7) k = k (.iload_n 3) 3 0 0 [] := rfl
theorem tbX8_fuel_8 {k : Instr → Nat → Nat → Nat → List Nat → Prop} : xse (xFind tbX8_fuel 8) k = k (.ifCond .ne 7) 15 0 0 [] := rfl
theorem tbX8_fuel_11 {k : Instr → Nat → Nat → Nat → List Nat → Prop} : xse (xFind tbX8_fuel 11) k = k (.iconst 1) 0 0 0 [] := rfl
theorem tbX8_fuel_12 {k : Instr → Nat → Nat → Nat → List Nat → Prop} : xse (xFind tbX8_fuel 12) k = k (.goto 45) 57 0 0 [] := rfl
theorem tbX8_fuel_15 {k : Instr → Nat → Nat → Nat → List Nat → Prop} : xse (xFind tbX8_fuel 15) k = k (.iload_n 2) 2 0 0 [] := rfl
theorem tbX8_fuel_16 {k : Instr → Nat → Nat → Nat → List Nat → Prop} : xse (xFind tbX8_fuel 16) k = k (.iconst 1) 0 0 0 [] := rfl
theorem tbX8_fuel_17 {k : Instr → Nat → Nat → Nat → List Nat → Prop} : xse (xFind tbX8_fuel 17) k = k (.sipush 999) 0 0 0 [] := rfl
theorem tbX8_fuel_20 {k : Instr → Nat → Nat → Nat → List Nat → Prop} : xse (xFind tbX8_fuel 20) k = k (.invokestatic 159) 1 3 0 [] := rfl
theorem tbX8_fuel_23 {k : Instr → Nat → Nat → Nat → List Nat → Prop} : xse (xFind tbX8_fuel 23) k = k (.ifCond .ne 7) 30 0 0 [] := rfl
theorem tbX8_fuel_26 {k : Instr → Nat → Nat → Nat → List Nat → Prop} : xse (xFind tbX8_fuel 26) k = k (.iconst 2) 0 0 0 [] := rfl
theorem tbX8_fuel_27 {k : Instr → Nat → Nat → Nat → List Nat → Prop} : xse (xFind tbX8_fuel 27) k = k (.goto 30) 57 0 0 [] := rfl
theorem tbX8_fuel_30 {k : Instr → Nat → Nat → Nat → List Nat → Prop} : xse (xFind tbX8_fuel 30) k = k (.aload_n 0) 0 0 0 [] := rfl
theorem tbX8_fuel_31 {k : Instr → Nat → Nat → Nat → List Nat → Prop} : xse (xFind tbX8_fuel 31) k = k (.iload_n 1) 1 0 0 [] := rfl
theorem tbX8_fuel_32 {k : Instr → Nat → Nat → Nat → List Nat → Prop} : xse (xFind tbX8_fuel 32) k = k (.invokevirtual 250) 2 2 9 [] := rfl
theorem tbX8_fuel_35 {k : Instr → Nat → Nat → Nat → List Nat → Prop} : xse (xFind tbX8_fuel 35) k = k (.ifCond .eq 17) 52 0 0 [] := rfl
theorem tbX8_fuel_38 {k : Instr → Nat → Nat → Nat → List Nat → Prop} : xse (xFind tbX8_fuel 38) k = k (.aload_n 0) 0 0 0 [] := rfl
theorem tbX8_fuel_39 {k : Instr → Nat → Nat → Nat → List Nat → Prop} : xse (xFind tbX8_fuel 39) k = k (.getfield 86) 9 32 2 [] := rfl
theorem tbX8_fuel_42 {k : Instr → Nat → Nat → Nat → List Nat → Prop} : xse (xFind tbX8_fuel 42) k = k (.iload_n 1) 1 0 0 [] := rfl
theorem tbX8_fuel_43 {k : Instr → Nat → Nat → Nat → List Nat → Prop} : xse (xFind tbX8_fuel 43) k = k (.iaload) 32 0 0 [] := rfl
theorem tbX8_fuel_44 {k : Instr → Nat → Nat → Nat → List Nat → Prop} : xse (xFind tbX8_fuel 44) k = k (.iload_n 2) 2 0 0 [] := rfl
theorem tbX8_fuel_45 {k : Instr → Nat → Nat → Nat → List Nat → Prop} : xse (xFind tbX8_fuel 45) k = k (.iadd) 0 0 0 [] := rfl
theorem tbX8_fuel_46 {k : Instr → Nat → Nat → Nat → List Nat → Prop} : xse (xFind tbX8_fuel 46) k = k (.sipush 999) 0 0 0 [] := rfl
theorem tbX8_fuel_49 {k : Instr → Nat → Nat → Nat → List Nat → Prop} : xse (xFind tbX8_fuel 49) k = k (.if_icmp .le 7) 56 0 0 [] := rfl
theorem tbX8_fuel_52 {k : Instr → Nat → Nat → Nat → List Nat → Prop} : xse (xFind tbX8_fuel 52) k = k (.iconst 3) 0 0 0 [] := rfl
theorem tbX8_fuel_53 {k : Instr → Nat → Nat → Nat → List Nat → Prop} : xse (xFind tbX8_fuel 53) k = k (.goto 4) 57 0 0 [] := rfl
theorem tbX8_fuel_56 {k : Instr → Nat → Nat → Nat → List Nat → Prop} : xse (xFind tbX8_fuel 56) k = k (.iconst 0) 0 0 0 [] := rfl
theorem tbX8_fuel_57 {k : Instr → Nat → Nat → Nat → List Nat → Prop} : xse (xFind tbX8_fuel 57) k = k (.invokevirtual 183) 3 2 9 [] := rfl
theorem tbX8_fuel_60 {k : Instr → Nat → Nat → Nat → List Nat → Prop} : xse (xFind tbX8_fuel 60) k = k (.ifCond .ne 5) 65 0 0 [] := rfl
theorem tbX8_fuel_63 {k : Instr → Nat → Nat → Nat → List Nat → Prop} : xse (xFind tbX8_fuel 63) k = k (.iconst 0) 0 0 0 [] := rfl
theorem tbX8_fuel_64 {k : Instr → Nat → Nat → Nat → List Nat → Prop} : xse (xFind tbX8_fuel 64) k = k (.ireturn) 0 0 0 [] := rfl
theorem tbX8_fuel_65 {k : Instr → Nat → Nat → Nat → List Nat → Prop} : xse (xFind tbX8_fuel 65) k = k (.aload_n 0) 0 0 0 [] := rfl
theorem tbX8_fuel_66 {k : Instr → Nat → Nat → Nat → List Nat → Prop} : xse (xFind tbX8_fuel 66) k = k (.getfield 86) 9 32 2 [] := rfl
theorem tbX8_fuel_69 {k : Instr → Nat → Nat → Nat → List Nat → Prop} : xse (xFind tbX8_fuel 69) k = k (.iload_n 1) 1 0 0 [] := rfl
theorem tbX8_fuel_70 {k : Instr → Nat → Nat → Nat → List Nat → Prop} : xse (xFind tbX8_fuel 70) k = k (.dup2) 0 0 0 [] := rfl
theorem tbX8_fuel_71 {k : Instr → Nat → Nat → Nat → List Nat → Prop} : xse (xFind tbX8_fuel 71) k = k (.iaload) 32 0 0 [] := rfl
theorem tbX8_fuel_72 {k : Instr → Nat → Nat → Nat → List Nat → Prop} : xse (xFind tbX8_fuel 72) k = k (.iload_n 2) 2 0 0 [] := rfl
theorem tbX8_fuel_73 {k : Instr → Nat → Nat → Nat → List Nat → Prop} : xse (xFind tbX8_fuel 73) k = k (.iadd) 0 0 0 [] := rfl
theorem tbX8_fuel_74 {k : Instr → Nat → Nat → Nat → List Nat → Prop} : xse (xFind tbX8_fuel 74) k = k (.iastore) 32 0 0 [] := rfl
theorem tbX8_fuel_75 {k : Instr → Nat → Nat → Nat → List Nat → Prop} : xse (xFind tbX8_fuel 75) k = k (.aload_n 0) 0 0 0 [] := rfl
theorem tbX8_fuel_76 {k : Instr → Nat → Nat → Nat → List Nat → Prop} : xse (xFind tbX8_fuel 76) k = k (.dup) 0 0 0 [] := rfl
theorem tbX8_fuel_77 {k : Instr → Nat → Nat → Nat → List Nat → Prop} : xse (xFind tbX8_fuel 77) k = k (.getfield 253) 9 58 0 [] := rfl
theorem tbX8_fuel_80 {k : Instr → Nat → Nat → Nat → List Nat → Prop} : xse (xFind tbX8_fuel 80) k = k (.iload_n 2) 2 0 0 [] := rfl
theorem tbX8_fuel_81 {k : Instr → Nat → Nat → Nat → List Nat → Prop} : xse (xFind tbX8_fuel 81) k = k (.iadd) 0 0 0 [] := rfl
theorem tbX8_fuel_82 {k : Instr → Nat → Nat → Nat → List Nat → Prop} : xse (xFind tbX8_fuel 82) k = k (.putfield 253) 9 58 0 [] := rfl
theorem tbX8_fuel_85 {k : Instr → Nat → Nat → Nat → List Nat → Prop} : xse (xFind tbX8_fuel 85) k = k (.aload_n 0) 0 0 0 [] := rfl
theorem tbX8_fuel_86 {k : Instr → Nat → Nat → Nat → List Nat → Prop} : xse (xFind tbX8_fuel 86) k = k (.getfield 86) 9 32 2 [] := rfl
theorem tbX8_fuel_89 {k : Instr → Nat → Nat → Nat → List Nat → Prop} : xse (xFind tbX8_fuel 89) k = k (.iload_n 1) 1 0 0 [] := rfl
theorem tbX8_fuel_90 {k : Instr → Nat → Nat → Nat → List Nat → Prop} : xse (xFind tbX8_fuel 90) k = k (.iaload) 32 0 0 [] := rfl
theorem tbX8_fuel_91 {k : Instr → Nat → Nat → Nat → List Nat → Prop} : xse (xFind tbX8_fuel 91) k = k (.ireturn) 0 0 0 [] := rfl

def spX8_fuel (aM : Nat → Nat) : xSp mS := (fun av M => (0, 0), fun av M K => ∃ (w : Int32) (u : Int32), av = [.ref (aM 0), .int w, .int u] ∧ ((M.1 29 = nI (nBt M) ∧ nBt M ≤ 6) ∧ K (rI (oFuel M w u).1) (oFuel M w u).2))
theorem spcX8_fuel {av : List Value} {M : mS} {aM : Nat → Nat} : (spX8_fuel aM).1 av M = (0, 0) := rfl
theorem spwX8_fuel {M : mS} {aM : Nat → Nat} {K : xRes → mS → Prop} {w : Int32} {u : Int32} : (spX8_fuel aM).2 [.ref (aM 0), .int w, .int u] M K = ((M.1 29 = nI (nBt M) ∧ nBt M ≤ 6) ∧ K (rI (oFuel M w u).1) (oFuel M w u).2) :=
  propext ⟨fun h => by
    simp only [spX8_fuel] at h
    obtain ⟨_, _, e, h⟩ := h
    simp only [List.cons.injEq, Value.int.injEq, Value.ref.injEq, rf_eq, and_true, true_and] at e
    obtain ⟨rfl, rfl⟩ := e
    exact h, fun h => ⟨_, _, rfl, h⟩⟩

def callX8_fuel (aM : Nat → Nat) : Nat → Option (xSp mS) := fun n => match n with | 0 => some (spX8_isBoat aM) | 1 => some (spX8_in aM) | 2 => some (spX8_stands aM) | 3 => some (spX8_holds aM) | _ => none

theorem callX8_fuel_0 {aM : Nat → Nat} {k : xSp mS → Prop} : xcs (callX8_fuel aM 0) k = k (spX8_isBoat aM) := rfl

theorem callX8_fuel_1 {aM : Nat → Nat} {k : xSp mS → Prop} : xcs (callX8_fuel aM 1) k = k (spX8_in aM) := rfl

theorem callX8_fuel_2 {aM : Nat → Nat} {k : xSp mS → Prop} : xcs (callX8_fuel aM 2) k = k (spX8_stands aM) := rfl

theorem callX8_fuel_3 {aM : Nat → Nat} {k : xSp mS → Prop} : xcs (callX8_fuel aM 3) k = k (spX8_holds aM) := rfl

theorem crX8_fuel (l : Launch) (W9 : xWd) (aM : Nat → Nat) (hi : mInj aM) : xCallsOK l W9 (mI aM) (callX8_fuel aM) clX8_fuel RX8 wsX8_fuel 2 43 4 := by
  intro E A p e R s m args below meth c hI hF hL X
  exact List.forall_mem_cons.mpr ⟨⟨_, rfl, xCR_V X (by rw [hI]; exact (semX8_isBoat l W9 aM hi)) gX8_fuel_X8_isBoat rfl rfl (by decide +kernel) (by rw [hF, hL]; decide)⟩,
    List.forall_mem_cons.mpr ⟨⟨_, rfl, xCR_S X (by rw [hI]; exact (semX8_in l W9 aM hi)) gX8_fuel_X8_in rfl (by decide +kernel) (by rw [hF, hL]; decide)⟩,
    List.forall_mem_cons.mpr ⟨⟨_, rfl, xCR_V X (by rw [hI]; exact (semX8_stands l W9 aM hi)) gX8_fuel_X8_stands rfl rfl (by decide +kernel) (by rw [hF, hL]; decide)⟩,
    List.forall_mem_cons.mpr ⟨⟨_, rfl, xCR_V X (by rw [hI]; exact (semX8_holds l W9 aM hi)) gX8_fuel_X8_holds rfl rfl (by decide +kernel) (by rw [hF, hL]; decide)⟩,
    fun _ h => nomatch h⟩⟩⟩⟩

set_option maxHeartbeats 4000000 in
set_option maxRecDepth 20000 in
theorem semX8_fuel (l : Launch) (W9 : xWd) (aM : Nat → Nat) (hi : mInj aM) : xSem l W9 (mI aM) yX8_fuel wsX8_fuel 2 43 (spX8_fuel aM) := by
  refine xSem_of (call := callX8_fuel aM) (thrf := fun _ => "") (mI_law hi) (by decide +kernel) rfl ckX8_fuel usX8_fuel (crX8_fuel l W9 aM hi) xThrOK_nil ?_ ?_
  · intro av M KF h
    obtain ⟨w, u, rfl, h⟩ := h
    exact ⟨by intro v hv; simp only [List.mem_cons, List.not_mem_nil, or_false] at hv; rcases hv with rfl | rfl | rfl <;> first | rfl | exact cat_rf, Nat.le_of_ble_eq_true rfl⟩
  intro av M KF h G hG
  obtain ⟨w, u, rfl, h⟩ := h
  rw [show (spX8_fuel aM).1 _ M = _ from spcX8_fuel] at hG
  try dsimp only at hG
  change G 0 [some (.ref (aM 0)), some (.int w), some (.int u), none] [] M 0 0
  obtain ⟨hg, h⟩ := h
  refine xgo0 hG (fun fu hfu => ?_)
  clear hG
  simp only [↓callX8_fuel_0, ↓callX8_fuel_1, ↓callX8_fuel_2, ↓callX8_fuel_3, ki_0, ki_1, ki_2, ki_3, ks_999, kt_999, ↓ma_32, ↓mg_32, ↓mg_58, misa, ↓mp_58, ↓ms_32, ↓vm_aload_n, ↓vm_dup, ↓vm_dup2, ↓vm_getfield, ↓vm_goto, ↓vm_iadd, ↓vm_iaload, ↓vm_iastore, ↓vm_iconst, ↓vm_ifCond_eq, ↓vm_ifCond_ne, ↓vm_if_icmp_le, ↓vm_iload_n, ↓vm_invokestatic, ↓vm_invokevirtual, ↓vm_ireturn, ↓vm_istore_n, ↓vm_putfield, ↓vm_sipush, ↓xc_2, ↓xc_3, ↓tbX8_fuel_0, ↓tbX8_fuel_1, ↓tbX8_fuel_2, ↓tbX8_fuel_5, ↓tbX8_fuel_6, ↓tbX8_fuel_7, ↓tbX8_fuel_8, ↓tbX8_fuel_11, ↓tbX8_fuel_12, ↓tbX8_fuel_15, ↓tbX8_fuel_16, ↓tbX8_fuel_17, ↓tbX8_fuel_20, ↓tbX8_fuel_23, ↓tbX8_fuel_26, ↓tbX8_fuel_27, ↓tbX8_fuel_30, ↓tbX8_fuel_31, ↓tbX8_fuel_32, ↓tbX8_fuel_35, ↓tbX8_fuel_38, ↓tbX8_fuel_39, ↓tbX8_fuel_42, ↓tbX8_fuel_43, ↓tbX8_fuel_44, ↓tbX8_fuel_45, ↓tbX8_fuel_46, ↓tbX8_fuel_49, ↓tbX8_fuel_52, ↓tbX8_fuel_53, ↓tbX8_fuel_56, ↓tbX8_fuel_57, ↓tbX8_fuel_60, ↓tbX8_fuel_63, ↓tbX8_fuel_64, ↓tbX8_fuel_65, ↓tbX8_fuel_66, ↓tbX8_fuel_69, ↓tbX8_fuel_70, ↓tbX8_fuel_71, ↓tbX8_fuel_72, ↓tbX8_fuel_73, ↓tbX8_fuel_74, ↓tbX8_fuel_75, ↓tbX8_fuel_76, ↓tbX8_fuel_77, ↓tbX8_fuel_80, ↓tbX8_fuel_81, ↓tbX8_fuel_82, ↓tbX8_fuel_85, ↓tbX8_fuel_86, ↓tbX8_fuel_89, ↓tbX8_fuel_90, ↓tbX8_fuel_91, hfu, xstep0, xJ1_hit, xJ1_go, xJ2_hit1, xJ2_hit2, xJ2_go, ↓xif_t, ↓xif_f, seval, ↓xca_eq, ↓xre_l, ↓xre_r, xmask_t, xmask_f, xmask_nil, ↓xst_eq, xX_eq, eI_eq, eMc_eq, eMs_eq, eF_eq, eThr_eq, ↓xS1_mk, ↓xSI_mk, ↓xSR_mk, ↓xLI_0, ↓xLI_s, ↓xLR_0, ↓xLR_s, vRef_ref, vRef_null, vRef_rf, cat_int, cat_ref, cat_null, cat_rf, rf_some, rf_none, rf_null, rf_eq, rf_ref, ref_rf, ref_null, ref_ref, xOk_0, xOk_1, xOk_2r, xOk_2n, xOk_2f, vOpt_rf, vOpt_ref, vOpt_null, List.set_cons_zero, List.set_cons_succ, List.take_succ_cons, List.take_zero, List.drop_succ_cons, List.drop_zero, List.reverse_cons, List.reverse_nil, List.nil_append, List.cons_append, List.append_nil, List.length_cons, List.length_nil, List.map_cons, List.map_nil, List.sum_cons, List.sum_nil, Option.toList_some, Option.toList_none, xRecv_mk, true_and, and_true, true_implies, Nat.reduceAdd, Nat.reduceLeDiff, Nat.zero_le, Nat.le_refl, Nat.add_zero, Nat.zero_add, reduceIte, not_true_eq_false, not_false_eq_true, false_implies, and_self, implies_true, eq_self, Nat.reduceEqDiff, List.cons.injEq, xsn_1, xsn_2, false_and, and_false, or_false, false_or, or_true, true_or, xsn_3, xsn_4, mAst_1, mAst_2, mSet_1, mSet_2, bi_0, ↓spwX8_isBoat, spcX8_isBoat, ↓spwX8_in, spcX8_in, ↓spwX8_stands, spcX8_stands, ↓spwX8_holds, spcX8_holds]
  try simp only [xif_e]
  unfold oFuel at h
  have h7 := @in_bt M w hg
  repeat' (first | with_reducible apply And.intro | with_reducible intro _)
  all_goals grind [bi]

def tbX8_wide : List (Nat × xHint) := [(0, .aload_n 0, 0, 0, 0, []), (1, .iload_n 1, 1, 0, 0, []), (2, .invokevirtual 247, 0, 2, 9, []), (5, .istore_n 3, 3, 0, 0, []), (6, .aload_n 0, 0, 0, 0, []), (7, .iload_n 3, 3, 0, 0, []), (8, .ifCond .ne 7, 15, 0, 0, []), (11, .iconst 1, 0, 0, 0, []), (12, .goto 30, 42, 0, 0, []), (15, .iload_n 2, 2, 0, 0, []), (16, .iconst 1, 0, 0, 0, []), (17, .iconst 4, 0, 0, 0, []), (18, .invokestatic 159, 1, 3, 0, []), (21, .ifCond .ne 7, 28, 0, 0, []), (24, .iconst 2, 0, 0, 0, []), (25, .goto 17, 42, 0, 0, []), (28, .aload_n 0, 0, 0, 0, []), (29, .getfield 116, 9, 42, 2, []), (32, .iload_n 1, 1, 0, 0, []), (33, .iaload, 42, 0, 0, []), (34, .ifCond .le 7, 41, 0, 0, []), (37, .iconst 3, 0, 0, 0, []), (38, .goto 4, 42, 0, 0, []), (41, .iconst 0, 0, 0, 0, []), (42, .invokevirtual 183, 2, 2, 9, []), (45, .ifCond .ne 5, 50, 0, 0, []), (48, .iconst 0, 0, 0, 0, []), (49, .ireturn, 0, 0, 0, []), (50, .aload_n 0, 0, 0, 0, []), (51, .getfield 110, 9, 40, 2, []), (54, .iload_n 1, 1, 0, 0, []), (55, .iaload, 40, 0, 0, []), (56, .istore 4, 4, 0, 0, []), (58, .aload_n 0, 0, 0, 0, []), (59, .getfield 110, 9, 40, 2, []), (62, .iload_n 1, 1, 0, 0, []), (63, .iload_n 2, 2, 0, 0, []), (64, .iastore, 40, 0, 0, []), (65, .iload 4, 4, 0, 0, []), (67, .ireturn, 0, 0, 0, [])]
def clX8_wide : List (Instr × Nat × Nat × Nat) := [(.invokevirtual 247, 0, 2, 9), (.invokestatic 159, 1, 3, 0), (.invokevirtual 183, 2, 2, 9)]
def thX8_wide : List (Nat × Nat) := []
theorem ckX8_wide : tbX8_wide.all (xRow RX8 cX8_wide wsX8_wide vwCl [9] clX8_wide thX8_wide 5 (yX8_wide.name == "<init>") (some .int)) = true := xRow_q 0xac04154f1c1b6e00b42a04362e1b6e00b42aac0305009ab700b6030400a70607009e2e1b7400b42a1100a70507009a9f00b807041c1e00a70407009a1d2a3ef700b61b2a 68 (by decide +kernel) (by decide +kernel)
theorem usX8_wide : xUse wsX8_wide vwCl [9] = true := xUse_g rfl (lw_good lwl_X8_wide lwl_X80 (by decide +kernel)) xUse_n
theorem tbX8_wide_0 {k : Instr → Nat → Nat → Nat → List Nat → Prop} : xse (xFind tbX8_wide 0) k = k (.aload_n 0) 0 0 0 [] := rfl
theorem tbX8_wide_1 {k : Instr → Nat → Nat → Nat → List Nat → Prop} : xse (xFind tbX8_wide 1) k = k (.iload_n 1) 1 0 0 [] := rfl
theorem tbX8_wide_2 {k : Instr → Nat → Nat → Nat → List Nat → Prop} : xse (xFind tbX8_wide 2) k = k (.invokevirtual 247) 0 2 9 [] := rfl
theorem tbX8_wide_5 {k : Instr → Nat → Nat → Nat → List Nat → Prop} : xse (xFind tbX8_wide 5) k = k (.istore_n 3) 3 0 0 [] := rfl
theorem tbX8_wide_6 {k : Instr → Nat → Nat → Nat → List Nat → Prop} : xse (xFind tbX8_wide 6) k = k (.aload_n 0) 0 0 0 [] := rfl
theorem tbX8_wide_7 {k : Instr → Nat → Nat → Nat → List Nat → Prop} : xse (xFind tbX8_wide 7) k = k (.iload_n 3) 3 0 0 [] := rfl
theorem tbX8_wide_8 {k : Instr → Nat → Nat → Nat → List Nat → Prop} : xse (xFind tbX8_wide 8) k = k (.ifCond .ne 7) 15 0 0 [] := rfl
theorem tbX8_wide_11 {k : Instr → Nat → Nat → Nat → List Nat → Prop} : xse (xFind tbX8_wide 11) k = k (.iconst 1) 0 0 0 [] := rfl
theorem tbX8_wide_12 {k : Instr → Nat → Nat → Nat → List Nat → Prop} : xse (xFind tbX8_wide 12) k = k (.goto 30) 42 0 0 [] := rfl
theorem tbX8_wide_15 {k : Instr → Nat → Nat → Nat → List Nat → Prop} : xse (xFind tbX8_wide 15) k = k (.iload_n 2) 2 0 0 [] := rfl
theorem tbX8_wide_16 {k : Instr → Nat → Nat → Nat → List Nat → Prop} : xse (xFind tbX8_wide 16) k = k (.iconst 1) 0 0 0 [] := rfl
theorem tbX8_wide_17 {k : Instr → Nat → Nat → Nat → List Nat → Prop} : xse (xFind tbX8_wide 17) k = k (.iconst 4) 0 0 0 [] := rfl
theorem tbX8_wide_18 {k : Instr → Nat → Nat → Nat → List Nat → Prop} : xse (xFind tbX8_wide 18) k = k (.invokestatic 159) 1 3 0 [] := rfl
theorem tbX8_wide_21 {k : Instr → Nat → Nat → Nat → List Nat → Prop} : xse (xFind tbX8_wide 21) k = k (.ifCond .ne 7) 28 0 0 [] := rfl
theorem tbX8_wide_24 {k : Instr → Nat → Nat → Nat → List Nat → Prop} : xse (xFind tbX8_wide 24) k = k (.iconst 2) 0 0 0 [] := rfl
theorem tbX8_wide_25 {k : Instr → Nat → Nat → Nat → List Nat → Prop} : xse (xFind tbX8_wide 25) k = k (.goto 17) 42 0 0 [] := rfl
theorem tbX8_wide_28 {k : Instr → Nat → Nat → Nat → List Nat → Prop} : xse (xFind tbX8_wide 28) k = k (.aload_n 0) 0 0 0 [] := rfl
theorem tbX8_wide_29 {k : Instr → Nat → Nat → Nat → List Nat → Prop} : xse (xFind tbX8_wide 29) k = k (.getfield 116) 9 42 2 [] := rfl
theorem tbX8_wide_32 {k : Instr → Nat → Nat → Nat → List Nat → Prop} : xse (xFind tbX8_wide 32) k = k (.iload_n 1) 1 0 0 [] := rfl
theorem tbX8_wide_33 {k : Instr → Nat → Nat → Nat → List Nat → Prop} : xse (xFind tbX8_wide 33) k = k (.iaload) 42 0 0 [] := rfl
theorem tbX8_wide_34 {k : Instr → Nat → Nat → Nat → List Nat → Prop} : xse (xFind tbX8_wide 34) k = k (.ifCond .le 7) 41 0 0 [] := rfl
theorem tbX8_wide_37 {k : Instr → Nat → Nat → Nat → List Nat → Prop} : xse (xFind tbX8_wide 37) k = k (.iconst 3) 0 0 0 [] := rfl
theorem tbX8_wide_38 {k : Instr → Nat → Nat → Nat → List Nat → Prop} : xse (xFind tbX8_wide 38) k = k (.goto 4) 42 0 0 [] := rfl
theorem tbX8_wide_41 {k : Instr → Nat → Nat → Nat → List Nat → Prop} : xse (xFind tbX8_wide 41) k = k (.iconst 0) 0 0 0 [] := rfl
theorem tbX8_wide_42 {k : Instr → Nat → Nat → Nat → List Nat → Prop} : xse (xFind tbX8_wide 42) k = k (.invokevirtual 183) 2 2 9 [] := rfl
theorem tbX8_wide_45 {k : Instr → Nat → Nat → Nat → List Nat → Prop} : xse (xFind tbX8_wide 45) k = k (.ifCond .ne 5) 50 0 0 [] := rfl
theorem tbX8_wide_48 {k : Instr → Nat → Nat → Nat → List Nat → Prop} : xse (xFind tbX8_wide 48) k = k (.iconst 0) 0 0 0 [] := rfl
theorem tbX8_wide_49 {k : Instr → Nat → Nat → Nat → List Nat → Prop} : xse (xFind tbX8_wide 49) k = k (.ireturn) 0 0 0 [] := rfl
theorem tbX8_wide_50 {k : Instr → Nat → Nat → Nat → List Nat → Prop} : xse (xFind tbX8_wide 50) k = k (.aload_n 0) 0 0 0 [] := rfl
theorem tbX8_wide_51 {k : Instr → Nat → Nat → Nat → List Nat → Prop} : xse (xFind tbX8_wide 51) k = k (.getfield 110) 9 40 2 [] := rfl
theorem tbX8_wide_54 {k : Instr → Nat → Nat → Nat → List Nat → Prop} : xse (xFind tbX8_wide 54) k = k (.iload_n 1) 1 0 0 [] := rfl
theorem tbX8_wide_55 {k : Instr → Nat → Nat → Nat → List Nat → Prop} : xse (xFind tbX8_wide 55) k = k (.iaload) 40 0 0 [] := rfl
theorem tbX8_wide_56 {k : Instr → Nat → Nat → Nat → List Nat → Prop} : xse (xFind tbX8_wide 56) k = k (.istore 4) 4 0 0 [] := rfl
theorem tbX8_wide_58 {k : Instr → Nat → Nat → Nat → List Nat → Prop} : xse (xFind tbX8_wide 58) k = k (.aload_n 0) 0 0 0 [] := rfl
theorem tbX8_wide_59 {k : Instr → Nat → Nat → Nat → List Nat → Prop} : xse (xFind tbX8_wide 59) k = k (.getfield 110) 9 40 2 [] := rfl
theorem tbX8_wide_62 {k : Instr → Nat → Nat → Nat → List Nat → Prop} : xse (xFind tbX8_wide 62) k = k (.iload_n 1) 1 0 0 [] := rfl
theorem tbX8_wide_63 {k : Instr → Nat → Nat → Nat → List Nat → Prop} : xse (xFind tbX8_wide 63) k = k (.iload_n 2) 2 0 0 [] := rfl
theorem tbX8_wide_64 {k : Instr → Nat → Nat → Nat → List Nat → Prop} : xse (xFind tbX8_wide 64) k = k (.iastore) 40 0 0 [] := rfl
theorem tbX8_wide_65 {k : Instr → Nat → Nat → Nat → List Nat → Prop} : xse (xFind tbX8_wide 65) k = k (.iload 4) 4 0 0 [] := rfl
theorem tbX8_wide_67 {k : Instr → Nat → Nat → Nat → List Nat → Prop} : xse (xFind tbX8_wide 67) k = k (.ireturn) 0 0 0 [] := rfl

def spX8_wide (aM : Nat → Nat) : xSp mS := (fun av M => (0, 0), fun av M K => ∃ (w : Int32) (n : Int32), av = [.ref (aM 0), .int w, .int n] ∧ ((M.1 29 = nI (nBt M) ∧ nBt M ≤ 6) ∧ K (rI (oWide M w n).1) (oWide M w n).2))
theorem spcX8_wide {av : List Value} {M : mS} {aM : Nat → Nat} : (spX8_wide aM).1 av M = (0, 0) := rfl
theorem spwX8_wide {M : mS} {aM : Nat → Nat} {K : xRes → mS → Prop} {w : Int32} {n : Int32} : (spX8_wide aM).2 [.ref (aM 0), .int w, .int n] M K = ((M.1 29 = nI (nBt M) ∧ nBt M ≤ 6) ∧ K (rI (oWide M w n).1) (oWide M w n).2) :=
  propext ⟨fun h => by
    simp only [spX8_wide] at h
    obtain ⟨_, _, e, h⟩ := h
    simp only [List.cons.injEq, Value.int.injEq, Value.ref.injEq, rf_eq, and_true, true_and] at e
    obtain ⟨rfl, rfl⟩ := e
    exact h, fun h => ⟨_, _, rfl, h⟩⟩

def callX8_wide (aM : Nat → Nat) : Nat → Option (xSp mS) := fun n => match n with | 0 => some (spX8_isBoat aM) | 1 => some (spX8_in aM) | 2 => some (spX8_holds aM) | _ => none

theorem callX8_wide_0 {aM : Nat → Nat} {k : xSp mS → Prop} : xcs (callX8_wide aM 0) k = k (spX8_isBoat aM) := rfl

theorem callX8_wide_1 {aM : Nat → Nat} {k : xSp mS → Prop} : xcs (callX8_wide aM 1) k = k (spX8_in aM) := rfl

theorem callX8_wide_2 {aM : Nat → Nat} {k : xSp mS → Prop} : xcs (callX8_wide aM 2) k = k (spX8_holds aM) := rfl

theorem crX8_wide (l : Launch) (W9 : xWd) (aM : Nat → Nat) (hi : mInj aM) : xCallsOK l W9 (mI aM) (callX8_wide aM) clX8_wide RX8 wsX8_wide 2 43 5 := by
  intro E A p e R s m args below meth c hI hF hL X
  exact List.forall_mem_cons.mpr ⟨⟨_, rfl, xCR_V X (by rw [hI]; exact (semX8_isBoat l W9 aM hi)) gX8_wide_X8_isBoat rfl rfl (by decide +kernel) (by rw [hF, hL]; decide)⟩,
    List.forall_mem_cons.mpr ⟨⟨_, rfl, xCR_S X (by rw [hI]; exact (semX8_in l W9 aM hi)) gX8_wide_X8_in rfl (by decide +kernel) (by rw [hF, hL]; decide)⟩,
    List.forall_mem_cons.mpr ⟨⟨_, rfl, xCR_V X (by rw [hI]; exact (semX8_holds l W9 aM hi)) gX8_wide_X8_holds rfl rfl (by decide +kernel) (by rw [hF, hL]; decide)⟩,
    fun _ h => nomatch h⟩⟩⟩

set_option maxHeartbeats 4000000 in
set_option maxRecDepth 20000 in
theorem semX8_wide (l : Launch) (W9 : xWd) (aM : Nat → Nat) (hi : mInj aM) : xSem l W9 (mI aM) yX8_wide wsX8_wide 2 43 (spX8_wide aM) := by
  refine xSem_of (call := callX8_wide aM) (thrf := fun _ => "") (mI_law hi) (by decide +kernel) rfl ckX8_wide usX8_wide (crX8_wide l W9 aM hi) xThrOK_nil ?_ ?_
  · intro av M KF h
    obtain ⟨w, n, rfl, h⟩ := h
    exact ⟨by intro v hv; simp only [List.mem_cons, List.not_mem_nil, or_false] at hv; rcases hv with rfl | rfl | rfl <;> first | rfl | exact cat_rf, Nat.le_of_ble_eq_true rfl⟩
  intro av M KF h G hG
  obtain ⟨w, n, rfl, h⟩ := h
  rw [show (spX8_wide aM).1 _ M = _ from spcX8_wide] at hG
  try dsimp only at hG
  change G 0 [some (.ref (aM 0)), some (.int w), some (.int n), none, none] [] M 0 0
  obtain ⟨hg, h⟩ := h
  refine xgo0 hG (fun fu hfu => ?_)
  clear hG
  simp only [↓callX8_wide_0, ↓callX8_wide_1, ↓callX8_wide_2, ki_0, ki_1, ki_2, ki_3, ki_4, ↓ma_40, ↓ma_42, ↓mg_40, ↓mg_42, misa, ↓ms_40, ↓vm_aload_n, ↓vm_getfield, ↓vm_goto, ↓vm_iaload, ↓vm_iastore, ↓vm_iconst, ↓vm_ifCond_le, ↓vm_ifCond_ne, ↓vm_iload, ↓vm_iload_n, ↓vm_invokestatic, ↓vm_invokevirtual, ↓vm_ireturn, ↓vm_istore, ↓vm_istore_n, ↓xc_2, ↓xc_3, ↓tbX8_wide_0, ↓tbX8_wide_1, ↓tbX8_wide_2, ↓tbX8_wide_5, ↓tbX8_wide_6, ↓tbX8_wide_7, ↓tbX8_wide_8, ↓tbX8_wide_11, ↓tbX8_wide_12, ↓tbX8_wide_15, ↓tbX8_wide_16, ↓tbX8_wide_17, ↓tbX8_wide_18, ↓tbX8_wide_21, ↓tbX8_wide_24, ↓tbX8_wide_25, ↓tbX8_wide_28, ↓tbX8_wide_29, ↓tbX8_wide_32, ↓tbX8_wide_33, ↓tbX8_wide_34, ↓tbX8_wide_37, ↓tbX8_wide_38, ↓tbX8_wide_41, ↓tbX8_wide_42, ↓tbX8_wide_45, ↓tbX8_wide_48, ↓tbX8_wide_49, ↓tbX8_wide_50, ↓tbX8_wide_51, ↓tbX8_wide_54, ↓tbX8_wide_55, ↓tbX8_wide_56, ↓tbX8_wide_58, ↓tbX8_wide_59, ↓tbX8_wide_62, ↓tbX8_wide_63, ↓tbX8_wide_64, ↓tbX8_wide_65, ↓tbX8_wide_67, hfu, xstep0, xJ1_hit, xJ1_go, xJ2_hit1, xJ2_hit2, xJ2_go, ↓xif_t, ↓xif_f, seval, ↓xca_eq, ↓xre_l, ↓xre_r, xmask_t, xmask_f, xmask_nil, ↓xst_eq, xX_eq, eI_eq, eMc_eq, eMs_eq, eF_eq, eThr_eq, ↓xS1_mk, ↓xSI_mk, ↓xSR_mk, ↓xLI_0, ↓xLI_s, ↓xLR_0, ↓xLR_s, vRef_ref, vRef_null, vRef_rf, cat_int, cat_ref, cat_null, cat_rf, rf_some, rf_none, rf_null, rf_eq, rf_ref, ref_rf, ref_null, ref_ref, xOk_0, xOk_1, xOk_2r, xOk_2n, xOk_2f, vOpt_rf, vOpt_ref, vOpt_null, List.set_cons_zero, List.set_cons_succ, List.take_succ_cons, List.take_zero, List.drop_succ_cons, List.drop_zero, List.reverse_cons, List.reverse_nil, List.nil_append, List.cons_append, List.append_nil, List.length_cons, List.length_nil, List.map_cons, List.map_nil, List.sum_cons, List.sum_nil, Option.toList_some, Option.toList_none, xRecv_mk, true_and, and_true, true_implies, Nat.reduceAdd, Nat.reduceLeDiff, Nat.zero_le, Nat.le_refl, Nat.add_zero, Nat.zero_add, reduceIte, not_true_eq_false, not_false_eq_true, false_implies, and_self, implies_true, eq_self, Nat.reduceEqDiff, List.cons.injEq, xsn_1, xsn_2, false_and, and_false, or_false, false_or, or_true, true_or, xsn_3, xsn_4, mAst_1, mAst_2, mSet_1, mSet_2, bi_0, ↓spwX8_isBoat, spcX8_isBoat, ↓spwX8_in, spcX8_in, ↓spwX8_holds, spcX8_holds]
  try simp only [xif_e]
  unfold oWide at h
  have h7 := @in_bt M w hg
  repeat' (first | with_reducible apply And.intro | with_reducible intro _)
  all_goals grind [bi]

def tbX8_radio : List (Nat × xHint) := [(0, .aload_n 0, 0, 0, 0, []), (1, .iload_n 1, 1, 0, 0, []), (2, .invokevirtual 247, 0, 2, 9, []), (5, .ifCond .eq 15, 20, 0, 0, []), (8, .aload_n 0, 0, 0, 0, []), (9, .iload_n 2, 2, 0, 0, []), (10, .invokevirtual 247, 0, 2, 9, []), (13, .ifCond .eq 7, 20, 0, 0, []), (16, .iconst 1, 0, 0, 0, []), (17, .goto 4, 21, 0, 0, []), (20, .iconst 0, 0, 0, 0, []), (21, .istore 4, 4, 0, 0, []), (23, .aload_n 0, 0, 0, 0, []), (24, .iload 4, 4, 0, 0, []), (26, .ifCond .ne 7, 33, 0, 0, []), (29, .iconst 1, 0, 0, 0, []), (30, .goto 13, 43, 0, 0, []), (33, .iload_n 1, 1, 0, 0, []), (34, .iload_n 2, 2, 0, 0, []), (35, .if_icmp .ne 7, 42, 0, 0, []), (38, .iconst 2, 0, 0, 0, []), (39, .goto 4, 43, 0, 0, []), (42, .iconst 0, 0, 0, 0, []), (43, .invokevirtual 183, 1, 2, 9, []), (46, .ifCond .ne 5, 51, 0, 0, []), (49, .iconst 0, 0, 0, 0, []), (50, .ireturn, 1, 0, 0, []), (51, .aload_n 0, 0, 0, 0, []), (52, .getfield 125, 9, 45, 2, []), (55, .bipush 6, 0, 0, 0, []), (57, .iload_n 1, 1, 0, 0, []), (58, .imul, 0, 0, 0, []), (59, .iload_n 2, 2, 0, 0, []), (60, .iadd, 0, 0, 0, []), (61, .baload, 45, 0, 0, []), (62, .istore 5, 5, 0, 0, []), (64, .aload_n 0, 0, 0, 0, []), (65, .getfield 125, 9, 45, 2, []), (68, .bipush 6, 0, 0, 0, []), (70, .iload_n 1, 1, 0, 0, []), (71, .imul, 0, 0, 0, []), (72, .iload_n 2, 2, 0, 0, []), (73, .iadd, 0, 0, 0, []), (74, .iload_n 3, 3, 0, 0, []), (75, .bastore, 45, 0, 0, []), (76, .aload_n 0, 0, 0, 0, []), (77, .getfield 125, 9, 45, 2, []), (80, .bipush 6, 0, 0, 0, []), (82, .iload_n 2, 2, 0, 0, []), (83, .imul, 0, 0, 0, []), (84, .iload_n 1, 1, 0, 0, []), (85, .iadd, 0, 0, 0, []), (86, .iload_n 3, 3, 0, 0, []), (87, .bastore, 45, 0, 0, []), (88, .iload 5, 5, 0, 0, []), (90, .ireturn, 1, 0, 0, [])]
def clX8_radio : List (Instr × Nat × Nat × Nat) := [(.invokevirtual 247, 0, 2, 9), (.invokevirtual 183, 1, 2, 9)]
def thX8_radio : List (Nat × Nat) := []
theorem ckX8_radio : tbX8_radio.all (xRow RX8 cX8_radio wsX8_radio vwCl [9] clX8_radio thX8_radio 6 (yX8_radio.name == "<init>") (some .boolean)) = true := xRow_q 0xac0515541d601b681c06107d00b42a541d601c681b06107d00b42a053633601c681b06107d00b42aac0305009ab700b6030400a7050700a01c1b0d00a70407009a04152a0436030400a704070099f700b61c2a0f0099f700b61b2a 91 (by decide +kernel) (by decide +kernel)
theorem usX8_radio : xUse wsX8_radio vwCl [9] = true := xUse_g rfl (lw_good lwl_X8_radio lwl_X80 (by decide +kernel)) xUse_n
theorem tbX8_radio_0 {k : Instr → Nat → Nat → Nat → List Nat → Prop} : xse (xFind tbX8_radio 0) k = k (.aload_n 0) 0 0 0 [] := rfl
theorem tbX8_radio_1 {k : Instr → Nat → Nat → Nat → List Nat → Prop} : xse (xFind tbX8_radio 1) k = k (.iload_n 1) 1 0 0 [] := rfl
theorem tbX8_radio_2 {k : Instr → Nat → Nat → Nat → List Nat → Prop} : xse (xFind tbX8_radio 2) k = k (.invokevirtual 247) 0 2 9 [] := rfl
theorem tbX8_radio_5 {k : Instr → Nat → Nat → Nat → List Nat → Prop} : xse (xFind tbX8_radio 5) k = k (.ifCond .eq 15) 20 0 0 [] := rfl
theorem tbX8_radio_8 {k : Instr → Nat → Nat → Nat → List Nat → Prop} : xse (xFind tbX8_radio 8) k = k (.aload_n 0) 0 0 0 [] := rfl
theorem tbX8_radio_9 {k : Instr → Nat → Nat → Nat → List Nat → Prop} : xse (xFind tbX8_radio 9) k = k (.iload_n 2) 2 0 0 [] := rfl
theorem tbX8_radio_10 {k : Instr → Nat → Nat → Nat → List Nat → Prop} : xse (xFind tbX8_radio 10) k = k (.invokevirtual 247) 0 2 9 [] := rfl
theorem tbX8_radio_13 {k : Instr → Nat → Nat → Nat → List Nat → Prop} : xse (xFind tbX8_radio 13) k = k (.ifCond .eq 7) 20 0 0 [] := rfl
theorem tbX8_radio_16 {k : Instr → Nat → Nat → Nat → List Nat → Prop} : xse (xFind tbX8_radio 16) k = k (.iconst 1) 0 0 0 [] := rfl
theorem tbX8_radio_17 {k : Instr → Nat → Nat → Nat → List Nat → Prop} : xse (xFind tbX8_radio 17) k = k (.goto 4) 21 0 0 [] := rfl
theorem tbX8_radio_20 {k : Instr → Nat → Nat → Nat → List Nat → Prop} : xse (xFind tbX8_radio 20) k = k (.iconst 0) 0 0 0 [] := rfl
theorem tbX8_radio_21 {k : Instr → Nat → Nat → Nat → List Nat → Prop} : xse (xFind tbX8_radio 21) k = k (.istore 4) 4 0 0 [] := rfl
theorem tbX8_radio_23 {k : Instr → Nat → Nat → Nat → List Nat → Prop} : xse (xFind tbX8_radio 23) k = k (.aload_n 0) 0 0 0 [] := rfl
theorem tbX8_radio_24 {k : Instr → Nat → Nat → Nat → List Nat → Prop} : xse (xFind tbX8_radio 24) k = k (.iload 4) 4 0 0 [] := rfl
theorem tbX8_radio_26 {k : Instr → Nat → Nat → Nat → List Nat → Prop} : xse (xFind tbX8_radio 26) k = k (.ifCond .ne 7) 33 0 0 [] := rfl
theorem tbX8_radio_29 {k : Instr → Nat → Nat → Nat → List Nat → Prop} : xse (xFind tbX8_radio 29) k = k (.iconst 1) 0 0 0 [] := rfl
theorem tbX8_radio_30 {k : Instr → Nat → Nat → Nat → List Nat → Prop} : xse (xFind tbX8_radio 30) k = k (.goto 13) 43 0 0 [] := rfl
theorem tbX8_radio_33 {k : Instr → Nat → Nat → Nat → List Nat → Prop} : xse (xFind tbX8_radio 33) k = k (.iload_n 1) 1 0 0 [] := rfl
theorem tbX8_radio_34 {k : Instr → Nat → Nat → Nat → List Nat → Prop} : xse (xFind tbX8_radio 34) k = k (.iload_n 2) 2 0 0 [] := rfl
theorem tbX8_radio_35 {k : Instr → Nat → Nat → Nat → List Nat → Prop} : xse (xFind tbX8_radio 35) k = k (.if_icmp .ne 7) 42 0 0 [] := rfl
theorem tbX8_radio_38 {k : Instr → Nat → Nat → Nat → List Nat → Prop} : xse (xFind tbX8_radio 38) k = k (.iconst 2) 0 0 0 [] := rfl
theorem tbX8_radio_39 {k : Instr → Nat → Nat → Nat → List Nat → Prop} : xse (xFind tbX8_radio 39) k = k (.goto 4) 43 0 0 [] := rfl
theorem tbX8_radio_42 {k : Instr → Nat → Nat → Nat → List Nat → Prop} : xse (xFind tbX8_radio 42) k = k (.iconst 0) 0 0 0 [] := rfl
theorem tbX8_radio_43 {k : Instr → Nat → Nat → Nat → List Nat → Prop} : xse (xFind tbX8_radio 43) k = k (.invokevirtual 183) 1 2 9 [] := rfl
theorem tbX8_radio_46 {k : Instr → Nat → Nat → Nat → List Nat → Prop} : xse (xFind tbX8_radio 46) k = k (.ifCond .ne 5) 51 0 0 [] := rfl
theorem tbX8_radio_49 {k : Instr → Nat → Nat → Nat → List Nat → Prop} : xse (xFind tbX8_radio 49) k = k (.iconst 0) 0 0 0 [] := rfl
theorem tbX8_radio_50 {k : Instr → Nat → Nat → Nat → List Nat → Prop} : xse (xFind tbX8_radio 50) k = k (.ireturn) 1 0 0 [] := rfl
theorem tbX8_radio_51 {k : Instr → Nat → Nat → Nat → List Nat → Prop} : xse (xFind tbX8_radio 51) k = k (.aload_n 0) 0 0 0 [] := rfl
theorem tbX8_radio_52 {k : Instr → Nat → Nat → Nat → List Nat → Prop} : xse (xFind tbX8_radio 52) k = k (.getfield 125) 9 45 2 [] := rfl
theorem tbX8_radio_55 {k : Instr → Nat → Nat → Nat → List Nat → Prop} : xse (xFind tbX8_radio 55) k = k (.bipush 6) 0 0 0 [] := rfl
theorem tbX8_radio_57 {k : Instr → Nat → Nat → Nat → List Nat → Prop} : xse (xFind tbX8_radio 57) k = k (.iload_n 1) 1 0 0 [] := rfl
theorem tbX8_radio_58 {k : Instr → Nat → Nat → Nat → List Nat → Prop} : xse (xFind tbX8_radio 58) k = k (.imul) 0 0 0 [] := rfl
theorem tbX8_radio_59 {k : Instr → Nat → Nat → Nat → List Nat → Prop} : xse (xFind tbX8_radio 59) k = k (.iload_n 2) 2 0 0 [] := rfl
theorem tbX8_radio_60 {k : Instr → Nat → Nat → Nat → List Nat → Prop} : xse (xFind tbX8_radio 60) k = k (.iadd) 0 0 0 [] := rfl
theorem tbX8_radio_61 {k : Instr → Nat → Nat → Nat → List Nat → Prop} : xse (xFind tbX8_radio 61) k = k (.baload) 45 0 0 [] := rfl
theorem tbX8_radio_62 {k : Instr → Nat → Nat → Nat → List Nat → Prop} : xse (xFind tbX8_radio 62) k = k (.istore 5) 5 0 0 [] := rfl
theorem tbX8_radio_64 {k : Instr → Nat → Nat → Nat → List Nat → Prop} : xse (xFind tbX8_radio 64) k = k (.aload_n 0) 0 0 0 [] := rfl
theorem tbX8_radio_65 {k : Instr → Nat → Nat → Nat → List Nat → Prop} : xse (xFind tbX8_radio 65) k = k (.getfield 125) 9 45 2 [] := rfl
theorem tbX8_radio_68 {k : Instr → Nat → Nat → Nat → List Nat → Prop} : xse (xFind tbX8_radio 68) k = k (.bipush 6) 0 0 0 [] := rfl
theorem tbX8_radio_70 {k : Instr → Nat → Nat → Nat → List Nat → Prop} : xse (xFind tbX8_radio 70) k = k (.iload_n 1) 1 0 0 [] := rfl
theorem tbX8_radio_71 {k : Instr → Nat → Nat → Nat → List Nat → Prop} : xse (xFind tbX8_radio 71) k = k (.imul) 0 0 0 [] := rfl
theorem tbX8_radio_72 {k : Instr → Nat → Nat → Nat → List Nat → Prop} : xse (xFind tbX8_radio 72) k = k (.iload_n 2) 2 0 0 [] := rfl
theorem tbX8_radio_73 {k : Instr → Nat → Nat → Nat → List Nat → Prop} : xse (xFind tbX8_radio 73) k = k (.iadd) 0 0 0 [] := rfl
theorem tbX8_radio_74 {k : Instr → Nat → Nat → Nat → List Nat → Prop} : xse (xFind tbX8_radio 74) k = k (.iload_n 3) 3 0 0 [] := rfl
theorem tbX8_radio_75 {k : Instr → Nat → Nat → Nat → List Nat → Prop} : xse (xFind tbX8_radio 75) k = k (.bastore) 45 0 0 [] := rfl
theorem tbX8_radio_76 {k : Instr → Nat → Nat → Nat → List Nat → Prop} : xse (xFind tbX8_radio 76) k = k (.aload_n 0) 0 0 0 [] := rfl
theorem tbX8_radio_77 {k : Instr → Nat → Nat → Nat → List Nat → Prop} : xse (xFind tbX8_radio 77) k = k (.getfield 125) 9 45 2 [] := rfl
theorem tbX8_radio_80 {k : Instr → Nat → Nat → Nat → List Nat → Prop} : xse (xFind tbX8_radio 80) k = k (.bipush 6) 0 0 0 [] := rfl
theorem tbX8_radio_82 {k : Instr → Nat → Nat → Nat → List Nat → Prop} : xse (xFind tbX8_radio 82) k = k (.iload_n 2) 2 0 0 [] := rfl
theorem tbX8_radio_83 {k : Instr → Nat → Nat → Nat → List Nat → Prop} : xse (xFind tbX8_radio 83) k = k (.imul) 0 0 0 [] := rfl
theorem tbX8_radio_84 {k : Instr → Nat → Nat → Nat → List Nat → Prop} : xse (xFind tbX8_radio 84) k = k (.iload_n 1) 1 0 0 [] := rfl
theorem tbX8_radio_85 {k : Instr → Nat → Nat → Nat → List Nat → Prop} : xse (xFind tbX8_radio 85) k = k (.iadd) 0 0 0 [] := rfl
theorem tbX8_radio_86 {k : Instr → Nat → Nat → Nat → List Nat → Prop} : xse (xFind tbX8_radio 86) k = k (.iload_n 3) 3 0 0 [] := rfl
theorem tbX8_radio_87 {k : Instr → Nat → Nat → Nat → List Nat → Prop} : xse (xFind tbX8_radio 87) k = k (.bastore) 45 0 0 [] := rfl
theorem tbX8_radio_88 {k : Instr → Nat → Nat → Nat → List Nat → Prop} : xse (xFind tbX8_radio 88) k = k (.iload 5) 5 0 0 [] := rfl
theorem tbX8_radio_90 {k : Instr → Nat → Nat → Nat → List Nat → Prop} : xse (xFind tbX8_radio 90) k = k (.ireturn) 1 0 0 [] := rfl

def spX8_radio (aM : Nat → Nat) : xSp mS := (fun av M => (0, 0), fun av M K => ∃ (w : Int32) (v : Int32) (z : Int32), av = [.ref (aM 0), .int w, .int v, .int z] ∧ ((z = 0 ∨ z = 1) ∧ ((M.1 29 = nI (nBt M) ∧ nBt M ≤ 6) ∧ (∀ i : Nat, i < 36 → M.2 45 i = 0 ∨ M.2 45 i = 1) ∧ K (rI (oRadio M w v z).1) (oRadio M w v z).2)))
theorem spcX8_radio {av : List Value} {M : mS} {aM : Nat → Nat} : (spX8_radio aM).1 av M = (0, 0) := rfl
theorem spwX8_radio {M : mS} {aM : Nat → Nat} {K : xRes → mS → Prop} {w : Int32} {v : Int32} {z : Int32} : (spX8_radio aM).2 [.ref (aM 0), .int w, .int v, .int z] M K = ((z = 0 ∨ z = 1) ∧ ((M.1 29 = nI (nBt M) ∧ nBt M ≤ 6) ∧ (∀ i : Nat, i < 36 → M.2 45 i = 0 ∨ M.2 45 i = 1) ∧ K (rI (oRadio M w v z).1) (oRadio M w v z).2)) :=
  propext ⟨fun h => by
    simp only [spX8_radio] at h
    obtain ⟨_, _, _, e, h⟩ := h
    simp only [List.cons.injEq, Value.int.injEq, Value.ref.injEq, rf_eq, and_true, true_and] at e
    obtain ⟨rfl, rfl, rfl⟩ := e
    exact h, fun h => ⟨_, _, _, rfl, h⟩⟩

def callX8_radio (aM : Nat → Nat) : Nat → Option (xSp mS) := fun n => match n with | 0 => some (spX8_isBoat aM) | 1 => some (spX8_holds aM) | _ => none

theorem callX8_radio_0 {aM : Nat → Nat} {k : xSp mS → Prop} : xcs (callX8_radio aM 0) k = k (spX8_isBoat aM) := rfl

theorem callX8_radio_1 {aM : Nat → Nat} {k : xSp mS → Prop} : xcs (callX8_radio aM 1) k = k (spX8_holds aM) := rfl

theorem crX8_radio (l : Launch) (W9 : xWd) (aM : Nat → Nat) (hi : mInj aM) : xCallsOK l W9 (mI aM) (callX8_radio aM) clX8_radio RX8 wsX8_radio 2 43 6 := by
  intro E A p e R s m args below meth c hI hF hL X
  exact List.forall_mem_cons.mpr ⟨⟨_, rfl, xCR_V X (by rw [hI]; exact (semX8_isBoat l W9 aM hi)) gX8_radio_X8_isBoat rfl rfl (by decide +kernel) (by rw [hF, hL]; decide)⟩,
    List.forall_mem_cons.mpr ⟨⟨_, rfl, xCR_V X (by rw [hI]; exact (semX8_holds l W9 aM hi)) gX8_radio_X8_holds rfl rfl (by decide +kernel) (by rw [hF, hL]; decide)⟩,
    fun _ h => nomatch h⟩⟩

set_option maxHeartbeats 4000000 in
set_option maxRecDepth 20000 in
theorem semX8_radio (l : Launch) (W9 : xWd) (aM : Nat → Nat) (hi : mInj aM) : xSem l W9 (mI aM) yX8_radio wsX8_radio 2 43 (spX8_radio aM) := by
  refine xSem_of (call := callX8_radio aM) (thrf := fun _ => "") (mI_law hi) (by decide +kernel) rfl ckX8_radio usX8_radio (crX8_radio l W9 aM hi) xThrOK_nil ?_ ?_
  · intro av M KF h
    obtain ⟨w, v, z, rfl, h⟩ := h
    exact ⟨by intro v hv; simp only [List.mem_cons, List.not_mem_nil, or_false] at hv; rcases hv with rfl | rfl | rfl | rfl <;> first | rfl | exact cat_rf, Nat.le_of_ble_eq_true rfl⟩
  intro av M KF h G hG
  obtain ⟨w, v, z, rfl, h⟩ := h
  rw [show (spX8_radio aM).1 _ M = _ from spcX8_radio] at hG
  try dsimp only at hG
  change G 0 [some (.ref (aM 0)), some (.int w), some (.int v), some (.int z), none, none] [] M 0 0
  obtain ⟨hz, hg, h45, h⟩ := h
  refine xgo0 hG (fun fu hfu => ?_)
  clear hG
  simp only [↓callX8_radio_0, ↓callX8_radio_1, kb_6, kc_6, ki_0, ki_1, ki_2, ↓ma_45, ↓mg_45, misa, ↓ms_45, ↓vm_aload_n, ↓vm_baload, ↓vm_bastore, ↓vm_bipush, ↓vm_getfield, ↓vm_goto, ↓vm_iadd, ↓vm_iconst, ↓vm_ifCond_eq, ↓vm_ifCond_ne, ↓vm_if_icmp_ne, ↓vm_iload, ↓vm_iload_n, ↓vm_imul, ↓vm_invokevirtual, ↓vm_ireturn, ↓vm_istore, ↓xc_2, ↓tbX8_radio_0, ↓tbX8_radio_1, ↓tbX8_radio_2, ↓tbX8_radio_5, ↓tbX8_radio_8, ↓tbX8_radio_9, ↓tbX8_radio_10, ↓tbX8_radio_13, ↓tbX8_radio_16, ↓tbX8_radio_17, ↓tbX8_radio_20, ↓tbX8_radio_21, ↓tbX8_radio_23, ↓tbX8_radio_24, ↓tbX8_radio_26, ↓tbX8_radio_29, ↓tbX8_radio_30, ↓tbX8_radio_33, ↓tbX8_radio_34, ↓tbX8_radio_35, ↓tbX8_radio_38, ↓tbX8_radio_39, ↓tbX8_radio_42, ↓tbX8_radio_43, ↓tbX8_radio_46, ↓tbX8_radio_49, ↓tbX8_radio_50, ↓tbX8_radio_51, ↓tbX8_radio_52, ↓tbX8_radio_55, ↓tbX8_radio_57, ↓tbX8_radio_58, ↓tbX8_radio_59, ↓tbX8_radio_60, ↓tbX8_radio_61, ↓tbX8_radio_62, ↓tbX8_radio_64, ↓tbX8_radio_65, ↓tbX8_radio_68, ↓tbX8_radio_70, ↓tbX8_radio_71, ↓tbX8_radio_72, ↓tbX8_radio_73, ↓tbX8_radio_74, ↓tbX8_radio_75, ↓tbX8_radio_76, ↓tbX8_radio_77, ↓tbX8_radio_80, ↓tbX8_radio_82, ↓tbX8_radio_83, ↓tbX8_radio_84, ↓tbX8_radio_85, ↓tbX8_radio_86, ↓tbX8_radio_87, ↓tbX8_radio_88, ↓tbX8_radio_90, hfu, xstep0, xJ1_hit, xJ1_go, xJ2_hit1, xJ2_hit2, xJ2_go, ↓xif_t, ↓xif_f, seval, ↓xca_eq, ↓xre_l, ↓xre_r, xmask_t, xmask_f, xmask_nil, ↓xst_eq, xX_eq, eI_eq, eMc_eq, eMs_eq, eF_eq, eThr_eq, ↓xS1_mk, ↓xSI_mk, ↓xSR_mk, ↓xLI_0, ↓xLI_s, ↓xLR_0, ↓xLR_s, vRef_ref, vRef_null, vRef_rf, cat_int, cat_ref, cat_null, cat_rf, rf_some, rf_none, rf_null, rf_eq, rf_ref, ref_rf, ref_null, ref_ref, xOk_0, xOk_1, xOk_2r, xOk_2n, xOk_2f, vOpt_rf, vOpt_ref, vOpt_null, List.set_cons_zero, List.set_cons_succ, List.take_succ_cons, List.take_zero, List.drop_succ_cons, List.drop_zero, List.reverse_cons, List.reverse_nil, List.nil_append, List.cons_append, List.append_nil, List.length_cons, List.length_nil, List.map_cons, List.map_nil, List.sum_cons, List.sum_nil, Option.toList_some, Option.toList_none, xRecv_mk, true_and, and_true, true_implies, Nat.reduceAdd, Nat.reduceLeDiff, Nat.zero_le, Nat.le_refl, Nat.add_zero, Nat.zero_add, reduceIte, not_true_eq_false, not_false_eq_true, false_implies, and_self, implies_true, eq_self, Nat.reduceEqDiff, List.cons.injEq, xsn_1, xsn_2, false_and, and_false, or_false, false_or, or_true, true_or, xsn_3, xsn_4, mAst_1, mAst_2, mSet_1, mSet_2, bi_0, ↓spwX8_isBoat, spcX8_isBoat, ↓spwX8_holds, spcX8_holds]
  try simp only [xif_e]
  unfold oRadio at h
  have h11 : vp_in (6 * w + v) 36 → M.2 45 (6 * w + v).toNatClampNeg = 0 ∨ M.2 45 (6 * w + v).toNatClampNeg = 1 := fun q => h45 _ (ix_lt q)
  have h7 := @in_bt M w hg
  have h8 := @in_bt M v hg
  have h9 := @in_sq w v
  have h10 := @in_sq v w
  repeat' (first | with_reducible apply And.intro | with_reducible intro _)
  all_goals grind [bi]

def tbX8_go : List (Nat × xHint) := [(0, .aload_n 0, 0, 0, 0, []), (1, .aload_n 0, 0, 0, 0, []), (2, .iload_n 1, 1, 0, 0, []), (3, .invokevirtual 247, 0, 2, 9, []), (6, .ifCond .eq 14, 20, 0, 0, []), (9, .iload_n 2, 2, 0, 0, []), (10, .invokestatic 163, 1, 1, 0, []), (13, .ifCond .eq 7, 20, 0, 0, []), (16, .iconst 0, 0, 0, 0, []), (17, .goto 4, 21, 0, 0, []), (20, .iconst 1, 0, 0, 0, []), (21, .invokevirtual 183, 2, 2, 9, []), (24, .ifCond .ne 5, 29, 0, 0, []), (27, .iconst 0, 0, 0, 0, []), (28, .ireturn, 0, 0, 0, []), (29, .aload_n 0, 0, 0, 0, []), (30, .getfield 101, 9, 37, 2, []), (33, .iload_n 1, 1, 0, 0, []), (34, .iaload, 37, 0, 0, []), (35, .istore_n 3, 3, 0, 0, []), (36, .aload_n 0, 0, 0, 0, []), (37, .getfield 101, 9, 37, 2, []), (40, .iload_n 1, 1, 0, 0, []), (41, .aload_n 0, 0, 0, 0, []), (42, .iload_n 1, 1, 0, 0, []), (43, .invokevirtual 250, 3, 2, 9, []), (46, .ifCond .eq 17, 63, 0, 0, []), (49, .aload_n 0, 0, 0, 0, []), (50, .getfield 89, 9, 33, 2, []), (53, .iload_n 1, 1, 0, 0, []), (54, .iaload, 33, 0, 0, []), (55, .iload_n 2, 2, 0, 0, []), (56, .if_icmp .ne 7, 63, 0, 0, []), (59, .iconst (-1), 0, 0, 0, []), (60, .goto 4, 64, 0, 0, []), (63, .iload_n 2, 2, 0, 0, []), (64, .iastore, 37, 0, 0, []), (65, .aload_n 0, 0, 0, 0, []), (66, .getfield 104, 9, 38, 2, []), (69, .iload_n 1, 1, 0, 0, []), (70, .aload_n 0, 0, 0, 0, []), (71, .iload_n 1, 1, 0, 0, []), (72, .invokevirtual 250, 3, 2, 9, []), (75, .ifCond .eq 10, 85, 0, 0, []), (78, .aload_n 0, 0, 0, 0, []), (79, .getfield 228, 9, 1, 0, []), (82, .goto 9, 91, 0, 0, []), (85, .aload_n 0, 0, 0, 0, []), (86, .getfield 104, 9, 38, 2, []), (89, .iload_n 1, 1, 0, 0, []), (90, .iaload, 38, 0, 0, []), (91, .iastore, 38, 0, 0, []), (92, .iload_n 3, 3, 0, 0, []), (93, .ireturn, 0, 0, 0, [])]
def clX8_go : List (Instr × Nat × Nat × Nat) := [(.invokevirtual 247, 0, 2, 9), (.invokestatic 163, 1, 1, 0), (.invokevirtual 183, 2, 2, 9), (.invokevirtual 250, 3, 2, 9)]
def thX8_go : List (Nat × Nat) := []
theorem ckX8_go : tbX8_go.all (xRow RX8 cX8_go wsX8_go vwCl [9] clX8_go thX8_go 4 (yX8_go.name == "<init>") (some .int)) = true := xRow_q 0xac1d4f2e1b6800b42a0900a7e400b42a0a0099fa00b61b2a1b6800b42a4f1c0400a7020700a01c2e1b5900b42a110099fa00b61b2a1b6500b42a3e2e1b6500b42aac0305009ab700b6040400a703070099a300b81c0e0099f700b61b2a2a 94 (by decide +kernel) (by decide +kernel)
theorem usX8_go : xUse wsX8_go vwCl [9] = true := xUse_g rfl (lw_good lwl_X8_go lwl_X80 (by decide +kernel)) xUse_n
theorem tbX8_go_0 {k : Instr → Nat → Nat → Nat → List Nat → Prop} : xse (xFind tbX8_go 0) k = k (.aload_n 0) 0 0 0 [] := rfl
theorem tbX8_go_1 {k : Instr → Nat → Nat → Nat → List Nat → Prop} : xse (xFind tbX8_go 1) k = k (.aload_n 0) 0 0 0 [] := rfl
theorem tbX8_go_2 {k : Instr → Nat → Nat → Nat → List Nat → Prop} : xse (xFind tbX8_go 2) k = k (.iload_n 1) 1 0 0 [] := rfl
theorem tbX8_go_3 {k : Instr → Nat → Nat → Nat → List Nat → Prop} : xse (xFind tbX8_go 3) k = k (.invokevirtual 247) 0 2 9 [] := rfl
theorem tbX8_go_6 {k : Instr → Nat → Nat → Nat → List Nat → Prop} : xse (xFind tbX8_go 6) k = k (.ifCond .eq 14) 20 0 0 [] := rfl
theorem tbX8_go_9 {k : Instr → Nat → Nat → Nat → List Nat → Prop} : xse (xFind tbX8_go 9) k = k (.iload_n 2) 2 0 0 [] := rfl
theorem tbX8_go_10 {k : Instr → Nat → Nat → Nat → List Nat → Prop} : xse (xFind tbX8_go 10) k = k (.invokestatic 163) 1 1 0 [] := rfl
theorem tbX8_go_13 {k : Instr → Nat → Nat → Nat → List Nat → Prop} : xse (xFind tbX8_go 13) k = k (.ifCond .eq 7) 20 0 0 [] := rfl
theorem tbX8_go_16 {k : Instr → Nat → Nat → Nat → List Nat → Prop} : xse (xFind tbX8_go 16) k = k (.iconst 0) 0 0 0 [] := rfl
theorem tbX8_go_17 {k : Instr → Nat → Nat → Nat → List Nat → Prop} : xse (xFind tbX8_go 17) k = k (.goto 4) 21 0 0 [] := rfl
theorem tbX8_go_20 {k : Instr → Nat → Nat → Nat → List Nat → Prop} : xse (xFind tbX8_go 20) k = k (.iconst 1) 0 0 0 [] := rfl
theorem tbX8_go_21 {k : Instr → Nat → Nat → Nat → List Nat → Prop} : xse (xFind tbX8_go 21) k = k (.invokevirtual 183) 2 2 9 [] := rfl
theorem tbX8_go_24 {k : Instr → Nat → Nat → Nat → List Nat → Prop} : xse (xFind tbX8_go 24) k = k (.ifCond .ne 5) 29 0 0 [] := rfl
theorem tbX8_go_27 {k : Instr → Nat → Nat → Nat → List Nat → Prop} : xse (xFind tbX8_go 27) k = k (.iconst 0) 0 0 0 [] := rfl
theorem tbX8_go_28 {k : Instr → Nat → Nat → Nat → List Nat → Prop} : xse (xFind tbX8_go 28) k = k (.ireturn) 0 0 0 [] := rfl
theorem tbX8_go_29 {k : Instr → Nat → Nat → Nat → List Nat → Prop} : xse (xFind tbX8_go 29) k = k (.aload_n 0) 0 0 0 [] := rfl
theorem tbX8_go_30 {k : Instr → Nat → Nat → Nat → List Nat → Prop} : xse (xFind tbX8_go 30) k = k (.getfield 101) 9 37 2 [] := rfl
theorem tbX8_go_33 {k : Instr → Nat → Nat → Nat → List Nat → Prop} : xse (xFind tbX8_go 33) k = k (.iload_n 1) 1 0 0 [] := rfl
theorem tbX8_go_34 {k : Instr → Nat → Nat → Nat → List Nat → Prop} : xse (xFind tbX8_go 34) k = k (.iaload) 37 0 0 [] := rfl
theorem tbX8_go_35 {k : Instr → Nat → Nat → Nat → List Nat → Prop} : xse (xFind tbX8_go 35) k = k (.istore_n 3) 3 0 0 [] := rfl
theorem tbX8_go_36 {k : Instr → Nat → Nat → Nat → List Nat → Prop} : xse (xFind tbX8_go 36) k = k (.aload_n 0) 0 0 0 [] := rfl
theorem tbX8_go_37 {k : Instr → Nat → Nat → Nat → List Nat → Prop} : xse (xFind tbX8_go 37) k = k (.getfield 101) 9 37 2 [] := rfl
theorem tbX8_go_40 {k : Instr → Nat → Nat → Nat → List Nat → Prop} : xse (xFind tbX8_go 40) k = k (.iload_n 1) 1 0 0 [] := rfl
theorem tbX8_go_41 {k : Instr → Nat → Nat → Nat → List Nat → Prop} : xse (xFind tbX8_go 41) k = k (.aload_n 0) 0 0 0 [] := rfl
theorem tbX8_go_42 {k : Instr → Nat → Nat → Nat → List Nat → Prop} : xse (xFind tbX8_go 42) k = k (.iload_n 1) 1 0 0 [] := rfl
theorem tbX8_go_43 {k : Instr → Nat → Nat → Nat → List Nat → Prop} : xse (xFind tbX8_go 43) k = k (.invokevirtual 250) 3 2 9 [] := rfl
theorem tbX8_go_46 {k : Instr → Nat → Nat → Nat → List Nat → Prop} : xse (xFind tbX8_go 46) k = k (.ifCond .eq 17) 63 0 0 [] := rfl
theorem tbX8_go_49 {k : Instr → Nat → Nat → Nat → List Nat → Prop} : xse (xFind tbX8_go 49) k = k (.aload_n 0) 0 0 0 [] := rfl
theorem tbX8_go_50 {k : Instr → Nat → Nat → Nat → List Nat → Prop} : xse (xFind tbX8_go 50) k = k (.getfield 89) 9 33 2 [] := rfl
theorem tbX8_go_53 {k : Instr → Nat → Nat → Nat → List Nat → Prop} : xse (xFind tbX8_go 53) k = k (.iload_n 1) 1 0 0 [] := rfl
theorem tbX8_go_54 {k : Instr → Nat → Nat → Nat → List Nat → Prop} : xse (xFind tbX8_go 54) k = k (.iaload) 33 0 0 [] := rfl
theorem tbX8_go_55 {k : Instr → Nat → Nat → Nat → List Nat → Prop} : xse (xFind tbX8_go 55) k = k (.iload_n 2) 2 0 0 [] := rfl
theorem tbX8_go_56 {k : Instr → Nat → Nat → Nat → List Nat → Prop} : xse (xFind tbX8_go 56) k = k (.if_icmp .ne 7) 63 0 0 [] := rfl
theorem tbX8_go_59 {k : Instr → Nat → Nat → Nat → List Nat → Prop} : xse (xFind tbX8_go 59) k = k (.iconst (-1)) 0 0 0 [] := rfl
theorem tbX8_go_60 {k : Instr → Nat → Nat → Nat → List Nat → Prop} : xse (xFind tbX8_go 60) k = k (.goto 4) 64 0 0 [] := rfl
theorem tbX8_go_63 {k : Instr → Nat → Nat → Nat → List Nat → Prop} : xse (xFind tbX8_go 63) k = k (.iload_n 2) 2 0 0 [] := rfl
theorem tbX8_go_64 {k : Instr → Nat → Nat → Nat → List Nat → Prop} : xse (xFind tbX8_go 64) k = k (.iastore) 37 0 0 [] := rfl
theorem tbX8_go_65 {k : Instr → Nat → Nat → Nat → List Nat → Prop} : xse (xFind tbX8_go 65) k = k (.aload_n 0) 0 0 0 [] := rfl
theorem tbX8_go_66 {k : Instr → Nat → Nat → Nat → List Nat → Prop} : xse (xFind tbX8_go 66) k = k (.getfield 104) 9 38 2 [] := rfl
theorem tbX8_go_69 {k : Instr → Nat → Nat → Nat → List Nat → Prop} : xse (xFind tbX8_go 69) k = k (.iload_n 1) 1 0 0 [] := rfl
theorem tbX8_go_70 {k : Instr → Nat → Nat → Nat → List Nat → Prop} : xse (xFind tbX8_go 70) k = k (.aload_n 0) 0 0 0 [] := rfl
theorem tbX8_go_71 {k : Instr → Nat → Nat → Nat → List Nat → Prop} : xse (xFind tbX8_go 71) k = k (.iload_n 1) 1 0 0 [] := rfl
theorem tbX8_go_72 {k : Instr → Nat → Nat → Nat → List Nat → Prop} : xse (xFind tbX8_go 72) k = k (.invokevirtual 250) 3 2 9 [] := rfl
theorem tbX8_go_75 {k : Instr → Nat → Nat → Nat → List Nat → Prop} : xse (xFind tbX8_go 75) k = k (.ifCond .eq 10) 85 0 0 [] := rfl
theorem tbX8_go_78 {k : Instr → Nat → Nat → Nat → List Nat → Prop} : xse (xFind tbX8_go 78) k = k (.aload_n 0) 0 0 0 [] := rfl
theorem tbX8_go_79 {k : Instr → Nat → Nat → Nat → List Nat → Prop} : xse (xFind tbX8_go 79) k = k (.getfield 228) 9 1 0 [] := rfl
theorem tbX8_go_82 {k : Instr → Nat → Nat → Nat → List Nat → Prop} : xse (xFind tbX8_go 82) k = k (.goto 9) 91 0 0 [] := rfl
theorem tbX8_go_85 {k : Instr → Nat → Nat → Nat → List Nat → Prop} : xse (xFind tbX8_go 85) k = k (.aload_n 0) 0 0 0 [] := rfl
theorem tbX8_go_86 {k : Instr → Nat → Nat → Nat → List Nat → Prop} : xse (xFind tbX8_go 86) k = k (.getfield 104) 9 38 2 [] := rfl
theorem tbX8_go_89 {k : Instr → Nat → Nat → Nat → List Nat → Prop} : xse (xFind tbX8_go 89) k = k (.iload_n 1) 1 0 0 [] := rfl
theorem tbX8_go_90 {k : Instr → Nat → Nat → Nat → List Nat → Prop} : xse (xFind tbX8_go 90) k = k (.iaload) 38 0 0 [] := rfl
theorem tbX8_go_91 {k : Instr → Nat → Nat → Nat → List Nat → Prop} : xse (xFind tbX8_go 91) k = k (.iastore) 38 0 0 [] := rfl
theorem tbX8_go_92 {k : Instr → Nat → Nat → Nat → List Nat → Prop} : xse (xFind tbX8_go 92) k = k (.iload_n 3) 3 0 0 [] := rfl
theorem tbX8_go_93 {k : Instr → Nat → Nat → Nat → List Nat → Prop} : xse (xFind tbX8_go 93) k = k (.ireturn) 0 0 0 [] := rfl

def spX8_go (aM : Nat → Nat) : xSp mS := (fun av M => (0, 0), fun av M K => ∃ (w : Int32) (p : Int32), av = [.ref (aM 0), .int w, .int p] ∧ ((M.1 29 = nI (nBt M) ∧ nBt M ≤ 6) ∧ K (rI (oGo M w p).1) (oGo M w p).2))
theorem spcX8_go {av : List Value} {M : mS} {aM : Nat → Nat} : (spX8_go aM).1 av M = (0, 0) := rfl
theorem spwX8_go {M : mS} {aM : Nat → Nat} {K : xRes → mS → Prop} {w : Int32} {p : Int32} : (spX8_go aM).2 [.ref (aM 0), .int w, .int p] M K = ((M.1 29 = nI (nBt M) ∧ nBt M ≤ 6) ∧ K (rI (oGo M w p).1) (oGo M w p).2) :=
  propext ⟨fun h => by
    simp only [spX8_go] at h
    obtain ⟨_, _, e, h⟩ := h
    simp only [List.cons.injEq, Value.int.injEq, Value.ref.injEq, rf_eq, and_true, true_and] at e
    obtain ⟨rfl, rfl⟩ := e
    exact h, fun h => ⟨_, _, rfl, h⟩⟩

def callX8_go (aM : Nat → Nat) : Nat → Option (xSp mS) := fun n => match n with | 0 => some (spX8_isBoat aM) | 1 => some (spX8_isPoint aM) | 2 => some (spX8_holds aM) | 3 => some (spX8_stands aM) | _ => none

theorem callX8_go_0 {aM : Nat → Nat} {k : xSp mS → Prop} : xcs (callX8_go aM 0) k = k (spX8_isBoat aM) := rfl

theorem callX8_go_1 {aM : Nat → Nat} {k : xSp mS → Prop} : xcs (callX8_go aM 1) k = k (spX8_isPoint aM) := rfl

theorem callX8_go_2 {aM : Nat → Nat} {k : xSp mS → Prop} : xcs (callX8_go aM 2) k = k (spX8_holds aM) := rfl

theorem callX8_go_3 {aM : Nat → Nat} {k : xSp mS → Prop} : xcs (callX8_go aM 3) k = k (spX8_stands aM) := rfl

theorem crX8_go (l : Launch) (W9 : xWd) (aM : Nat → Nat) (hi : mInj aM) : xCallsOK l W9 (mI aM) (callX8_go aM) clX8_go RX8 wsX8_go 2 43 4 := by
  intro E A p e R s m args below meth c hI hF hL X
  exact List.forall_mem_cons.mpr ⟨⟨_, rfl, xCR_V X (by rw [hI]; exact (semX8_isBoat l W9 aM hi)) gX8_go_X8_isBoat rfl rfl (by decide +kernel) (by rw [hF, hL]; decide)⟩,
    List.forall_mem_cons.mpr ⟨⟨_, rfl, xCR_S X (by rw [hI]; exact (semX8_isPoint l W9 aM hi)) gX8_go_X8_isPoint rfl (by decide +kernel) (by rw [hF, hL]; decide)⟩,
    List.forall_mem_cons.mpr ⟨⟨_, rfl, xCR_V X (by rw [hI]; exact (semX8_holds l W9 aM hi)) gX8_go_X8_holds rfl rfl (by decide +kernel) (by rw [hF, hL]; decide)⟩,
    List.forall_mem_cons.mpr ⟨⟨_, rfl, xCR_V X (by rw [hI]; exact (semX8_stands l W9 aM hi)) gX8_go_X8_stands rfl rfl (by decide +kernel) (by rw [hF, hL]; decide)⟩,
    fun _ h => nomatch h⟩⟩⟩⟩

set_option maxHeartbeats 4000000 in
set_option maxRecDepth 20000 in
theorem semX8_go (l : Launch) (W9 : xWd) (aM : Nat → Nat) (hi : mInj aM) : xSem l W9 (mI aM) yX8_go wsX8_go 2 43 (spX8_go aM) := by
  refine xSem_of (call := callX8_go aM) (thrf := fun _ => "") (mI_law hi) (by decide +kernel) rfl ckX8_go usX8_go (crX8_go l W9 aM hi) xThrOK_nil ?_ ?_
  · intro av M KF h
    obtain ⟨w, p, rfl, h⟩ := h
    exact ⟨by intro v hv; simp only [List.mem_cons, List.not_mem_nil, or_false] at hv; rcases hv with rfl | rfl | rfl <;> first | rfl | exact cat_rf, Nat.le_of_ble_eq_true rfl⟩
  intro av M KF h G hG
  obtain ⟨w, p, rfl, h⟩ := h
  rw [show (spX8_go aM).1 _ M = _ from spcX8_go] at hG
  try dsimp only at hG
  change G 0 [some (.ref (aM 0)), some (.int w), some (.int p), none] [] M 0 0
  obtain ⟨hg, h⟩ := h
  refine xgo0 hG (fun fu hfu => ?_)
  clear hG
  simp only [↓callX8_go_0, ↓callX8_go_1, ↓callX8_go_2, ↓callX8_go_3, ki_0, ki_1, ki_m1, ↓ma_33, ↓ma_37, ↓ma_38, ↓mg_1, ↓mg_33, ↓mg_37, ↓mg_38, misa, ↓ms_37, ↓ms_38, ↓vm_aload_n, ↓vm_getfield, ↓vm_goto, ↓vm_iaload, ↓vm_iastore, ↓vm_iconst, ↓vm_ifCond_eq, ↓vm_ifCond_ne, ↓vm_if_icmp_ne, ↓vm_iload_n, ↓vm_invokestatic, ↓vm_invokevirtual, ↓vm_ireturn, ↓vm_istore_n, ↓xc_1, ↓xc_2, ↓tbX8_go_0, ↓tbX8_go_1, ↓tbX8_go_2, ↓tbX8_go_3, ↓tbX8_go_6, ↓tbX8_go_9, ↓tbX8_go_10, ↓tbX8_go_13, ↓tbX8_go_16, ↓tbX8_go_17, ↓tbX8_go_20, ↓tbX8_go_21, ↓tbX8_go_24, ↓tbX8_go_27, ↓tbX8_go_28, ↓tbX8_go_29, ↓tbX8_go_30, ↓tbX8_go_33, ↓tbX8_go_34, ↓tbX8_go_35, ↓tbX8_go_36, ↓tbX8_go_37, ↓tbX8_go_40, ↓tbX8_go_41, ↓tbX8_go_42, ↓tbX8_go_43, ↓tbX8_go_46, ↓tbX8_go_49, ↓tbX8_go_50, ↓tbX8_go_53, ↓tbX8_go_54, ↓tbX8_go_55, ↓tbX8_go_56, ↓tbX8_go_59, ↓tbX8_go_60, ↓tbX8_go_63, ↓tbX8_go_64, ↓tbX8_go_65, ↓tbX8_go_66, ↓tbX8_go_69, ↓tbX8_go_70, ↓tbX8_go_71, ↓tbX8_go_72, ↓tbX8_go_75, ↓tbX8_go_78, ↓tbX8_go_79, ↓tbX8_go_82, ↓tbX8_go_85, ↓tbX8_go_86, ↓tbX8_go_89, ↓tbX8_go_90, ↓tbX8_go_91, ↓tbX8_go_92, ↓tbX8_go_93, hfu, xstep0, xJ1_hit, xJ1_go, xJ2_hit1, xJ2_hit2, xJ2_go, ↓xif_t, ↓xif_f, seval, ↓xca_eq, ↓xre_l, ↓xre_r, xmask_t, xmask_f, xmask_nil, ↓xst_eq, xX_eq, eI_eq, eMc_eq, eMs_eq, eF_eq, eThr_eq, ↓xS1_mk, ↓xSI_mk, ↓xSR_mk, ↓xLI_0, ↓xLI_s, ↓xLR_0, ↓xLR_s, vRef_ref, vRef_null, vRef_rf, cat_int, cat_ref, cat_null, cat_rf, rf_some, rf_none, rf_null, rf_eq, rf_ref, ref_rf, ref_null, ref_ref, xOk_0, xOk_1, xOk_2r, xOk_2n, xOk_2f, vOpt_rf, vOpt_ref, vOpt_null, List.set_cons_zero, List.set_cons_succ, List.take_succ_cons, List.take_zero, List.drop_succ_cons, List.drop_zero, List.reverse_cons, List.reverse_nil, List.nil_append, List.cons_append, List.append_nil, List.length_cons, List.length_nil, List.map_cons, List.map_nil, List.sum_cons, List.sum_nil, Option.toList_some, Option.toList_none, xRecv_mk, true_and, and_true, true_implies, Nat.reduceAdd, Nat.reduceLeDiff, Nat.zero_le, Nat.le_refl, Nat.add_zero, Nat.zero_add, reduceIte, not_true_eq_false, not_false_eq_true, false_implies, and_self, implies_true, eq_self, Nat.reduceEqDiff, List.cons.injEq, xsn_1, xsn_2, false_and, and_false, or_false, false_or, or_true, true_or, xsn_3, xsn_4, mAst_1, mAst_2, mSet_1, mSet_2, bi_0, ↓spwX8_isBoat, spcX8_isBoat, ↓spwX8_isPoint, spcX8_isPoint, ↓spwX8_holds, spcX8_holds, ↓spwX8_stands, spcX8_stands]
  try simp only [xif_e]
  unfold oGo at h
  have h7 := @in_bt M w hg
  repeat' (first | with_reducible apply And.intro | with_reducible intro _)
  all_goals grind [bi]

def tbX8_waits : List (Nat × xHint) := [(0, .aload_n 0, 0, 0, 0, []), (1, .getfield 119, 9, 43, 2, []), (4, .iload_n 1, 1, 0, 0, []), (5, .iload_n 2, 2, 0, 0, []), (6, .iastore, 43, 0, 0, []), (7, .aload_n 0, 0, 0, 0, []), (8, .getfield 122, 9, 44, 2, []), (11, .bipush 10, 0, 0, 0, []), (13, .iload_n 1, 1, 0, 0, []), (14, .imul, 0, 0, 0, []), (15, .iload_n 2, 2, 0, 0, []), (16, .iadd, 0, 0, 0, []), (17, .dup2, 0, 0, 0, []), (18, .iaload, 44, 0, 0, []), (19, .iconst 1, 0, 0, 0, []), (20, .iadd, 0, 0, 0, []), (21, .iastore, 44, 0, 0, []), (22, .return_, 0, 0, 0, [])]
def clX8_waits : List (Instr × Nat × Nat × Nat) := []
def thX8_waits : List (Nat × Nat) := []
theorem ckX8_waits : tbX8_waits.all (xRow RX8 cX8_waits wsX8_waits vwCl [9] clX8_waits thX8_waits 3 (yX8_waits.name == "<init>") none) = true := xRow_q 0xb14f60042e5c601c681b0a107a00b42a4f1c1b7700b42a 23 (by decide +kernel) (by decide +kernel)
theorem usX8_waits : xUse wsX8_waits vwCl [9] = true := xUse_g rfl (lw_good lwl_X8_waits lwl_X80 (by decide +kernel)) xUse_n
theorem tbX8_waits_0 {k : Instr → Nat → Nat → Nat → List Nat → Prop} : xse (xFind tbX8_waits 0) k = k (.aload_n 0) 0 0 0 [] := rfl
theorem tbX8_waits_1 {k : Instr → Nat → Nat → Nat → List Nat → Prop} : xse (xFind tbX8_waits 1) k = k (.getfield 119) 9 43 2 [] := rfl
theorem tbX8_waits_4 {k : Instr → Nat → Nat → Nat → List Nat → Prop} : xse (xFind tbX8_waits 4) k = k (.iload_n 1) 1 0 0 [] := rfl
theorem tbX8_waits_5 {k : Instr → Nat → Nat → Nat → List Nat → Prop} : xse (xFind tbX8_waits 5) k = k (.iload_n 2) 2 0 0 [] := rfl
theorem tbX8_waits_6 {k : Instr → Nat → Nat → Nat → List Nat → Prop} : xse (xFind tbX8_waits 6) k = k (.iastore) 43 0 0 [] := rfl
theorem tbX8_waits_7 {k : Instr → Nat → Nat → Nat → List Nat → Prop} : xse (xFind tbX8_waits 7) k = k (.aload_n 0) 0 0 0 [] := rfl
theorem tbX8_waits_8 {k : Instr → Nat → Nat → Nat → List Nat → Prop} : xse (xFind tbX8_waits 8) k = k (.getfield 122) 9 44 2 [] := rfl
theorem tbX8_waits_11 {k : Instr → Nat → Nat → Nat → List Nat → Prop} : xse (xFind tbX8_waits 11) k = k (.bipush 10) 0 0 0 [] := rfl
theorem tbX8_waits_13 {k : Instr → Nat → Nat → Nat → List Nat → Prop} : xse (xFind tbX8_waits 13) k = k (.iload_n 1) 1 0 0 [] := rfl
theorem tbX8_waits_14 {k : Instr → Nat → Nat → Nat → List Nat → Prop} : xse (xFind tbX8_waits 14) k = k (.imul) 0 0 0 [] := rfl
theorem tbX8_waits_15 {k : Instr → Nat → Nat → Nat → List Nat → Prop} : xse (xFind tbX8_waits 15) k = k (.iload_n 2) 2 0 0 [] := rfl
theorem tbX8_waits_16 {k : Instr → Nat → Nat → Nat → List Nat → Prop} : xse (xFind tbX8_waits 16) k = k (.iadd) 0 0 0 [] := rfl
theorem tbX8_waits_17 {k : Instr → Nat → Nat → Nat → List Nat → Prop} : xse (xFind tbX8_waits 17) k = k (.dup2) 0 0 0 [] := rfl
theorem tbX8_waits_18 {k : Instr → Nat → Nat → Nat → List Nat → Prop} : xse (xFind tbX8_waits 18) k = k (.iaload) 44 0 0 [] := rfl
theorem tbX8_waits_19 {k : Instr → Nat → Nat → Nat → List Nat → Prop} : xse (xFind tbX8_waits 19) k = k (.iconst 1) 0 0 0 [] := rfl
theorem tbX8_waits_20 {k : Instr → Nat → Nat → Nat → List Nat → Prop} : xse (xFind tbX8_waits 20) k = k (.iadd) 0 0 0 [] := rfl
theorem tbX8_waits_21 {k : Instr → Nat → Nat → Nat → List Nat → Prop} : xse (xFind tbX8_waits 21) k = k (.iastore) 44 0 0 [] := rfl
theorem tbX8_waits_22 {k : Instr → Nat → Nat → Nat → List Nat → Prop} : xse (xFind tbX8_waits 22) k = k (.return_) 0 0 0 [] := rfl

def spX8_waits (aM : Nat → Nat) : xSp mS := (fun av M => (0, 0), fun av M K => ∃ (w : Int32) (c : Int32), av = [.ref (aM 0), .int w, .int c] ∧ (vp_in w 6 ∧ vp_in c 10 ∧ K rV (mWts M w c)))
theorem spcX8_waits {av : List Value} {M : mS} {aM : Nat → Nat} : (spX8_waits aM).1 av M = (0, 0) := rfl
theorem spwX8_waits {M : mS} {aM : Nat → Nat} {K : xRes → mS → Prop} {w : Int32} {c : Int32} : (spX8_waits aM).2 [.ref (aM 0), .int w, .int c] M K = (vp_in w 6 ∧ vp_in c 10 ∧ K rV (mWts M w c)) :=
  propext ⟨fun h => by
    simp only [spX8_waits] at h
    obtain ⟨_, _, e, h⟩ := h
    simp only [List.cons.injEq, Value.int.injEq, Value.ref.injEq, rf_eq, and_true, true_and] at e
    obtain ⟨rfl, rfl⟩ := e
    exact h, fun h => ⟨_, _, rfl, h⟩⟩

set_option maxHeartbeats 4000000 in
set_option maxRecDepth 20000 in
theorem semX8_waits (l : Launch) (W9 : xWd) (aM : Nat → Nat) (hi : mInj aM) : xSem l W9 (mI aM) yX8_waits wsX8_waits 0 0 (spX8_waits aM) := by
  refine xSem_of (call := fun _ => none) (thrf := fun _ => "") (mI_law hi) (by decide +kernel) rfl ckX8_waits usX8_waits xCallsOK_nil xThrOK_nil ?_ ?_
  · intro av M KF h
    obtain ⟨w, c, rfl, h⟩ := h
    exact ⟨by intro v hv; simp only [List.mem_cons, List.not_mem_nil, or_false] at hv; rcases hv with rfl | rfl | rfl <;> first | rfl | exact cat_rf, Nat.le_of_ble_eq_true rfl⟩
  intro av M KF h G hG
  obtain ⟨w, c, rfl, h⟩ := h
  rw [show (spX8_waits aM).1 _ M = _ from spcX8_waits] at hG
  try dsimp only at hG
  change G 0 [some (.ref (aM 0)), some (.int w), some (.int c)] [] M 0 0
  obtain ⟨h1, h2, h⟩ := h
  refine xgo0 hG (fun fu hfu => ?_)
  clear hG
  simp only [kb_10, kc_10, ki_1, ↓ma_44, ↓mg_43, ↓mg_44, ↓ms_43, ↓ms_44, ↓vm_aload_n, ↓vm_bipush, ↓vm_dup2, ↓vm_getfield, ↓vm_iadd, ↓vm_iaload, ↓vm_iastore, ↓vm_iconst, ↓vm_iload_n, ↓vm_imul, ↓vm_return_, ↓tbX8_waits_0, ↓tbX8_waits_1, ↓tbX8_waits_4, ↓tbX8_waits_5, ↓tbX8_waits_6, ↓tbX8_waits_7, ↓tbX8_waits_8, ↓tbX8_waits_11, ↓tbX8_waits_13, ↓tbX8_waits_14, ↓tbX8_waits_15, ↓tbX8_waits_16, ↓tbX8_waits_17, ↓tbX8_waits_18, ↓tbX8_waits_19, ↓tbX8_waits_20, ↓tbX8_waits_21, ↓tbX8_waits_22, hfu, xstep0, xJ1_hit, xJ1_go, xJ2_hit1, xJ2_hit2, xJ2_go, ↓xif_t, ↓xif_f, seval, ↓xca_eq, ↓xre_l, ↓xre_r, xmask_t, xmask_f, xmask_nil, ↓xst_eq, xX_eq, eI_eq, eMc_eq, eMs_eq, eF_eq, eThr_eq, ↓xS1_mk, ↓xSI_mk, ↓xSR_mk, ↓xLI_0, ↓xLI_s, ↓xLR_0, ↓xLR_s, vRef_ref, vRef_null, vRef_rf, cat_int, cat_ref, cat_null, cat_rf, rf_some, rf_none, rf_null, rf_eq, rf_ref, ref_rf, ref_null, ref_ref, xOk_0, xOk_1, xOk_2r, xOk_2n, xOk_2f, vOpt_rf, vOpt_ref, vOpt_null, List.set_cons_zero, List.set_cons_succ, List.take_succ_cons, List.take_zero, List.drop_succ_cons, List.drop_zero, List.reverse_cons, List.reverse_nil, List.nil_append, List.cons_append, List.append_nil, List.length_cons, List.length_nil, List.map_cons, List.map_nil, List.sum_cons, List.sum_nil, Option.toList_some, Option.toList_none, xRecv_mk, true_and, and_true, true_implies, Nat.reduceAdd, Nat.reduceLeDiff, Nat.zero_le, Nat.le_refl, Nat.add_zero, Nat.zero_add, reduceIte, not_true_eq_false, not_false_eq_true, false_implies, and_self, implies_true, eq_self, Nat.reduceEqDiff, List.cons.injEq, xsn_1, xsn_2, false_and, and_false, or_false, false_or, or_true, true_or, xsn_3, xsn_4, mAst_1, mAst_2, mSet_1, mSet_2, bi_0]
  try simp only [xif_e]
  unfold mWts at h
  have h9 := in_wt h1 h2
  grind
