/-! The twin's methods: how an hour goes by. -/
def mAgr (M : mS) (w : Nat) : Nat → mS
  | 0 => M
  | k + 1 => mAst (mAst (mAgr M w k) 45 (6 * w + k) 0) 45 (6 * k + w) 0
theorem mAgr_1 (M : mS) (w : Nat) : ∀ k, (mAgr M w k).1 = M.1
  | 0 => rfl
  | k + 1 => mAgr_1 M w k
theorem mAgr_2 (M : mS) (w : Nat) : ∀ k b, b ≠ 45 → (mAgr M w k).2 b = M.2 b
  | 0, _, _ => rfl
  | k + 1, b, h => by
    funext i
    show (if b = 45 ∧ i = 6 * k + w then 0 else if b = 45 ∧ i = 6 * w + k then 0 else (mAgr M w k).2 b i) = _
    rw [if_neg (fun q => h q.1), if_neg (fun q => h q.1), mAgr_2 M w k b h]
def mPtA (M : mS) (w : Nat) : Int32 := if M.2 35 w = 0 then M.2 34 w else M.2 34 w + 1
def mCm1 (M : mS) (w : Nat) : mS := mAst (mAst (mAst (mAst M 33 w (mPtA M w)) 34 w (-1)) 38 w (M.1 1)) 37 w (if M.2 37 w = mPtA M w then -1 else M.2 37 w)
def mCome (M : mS) (w : Nat) : mS := mAgr (mCm1 M w) w (nBt M)
theorem mCm1_1 (M : mS) (w : Nat) : (mCm1 M w).1 = M.1 := rfl

def tbX8_comes : List (Nat × xHint) := [(0, .aload_n 0, 0, 0, 0, []), (1, .getfield 89, 9, 33, 2, []), (4, .iload_n 1, 1, 0, 0, []), (5, .aload_n 0, 0, 0, 0, []), (6, .getfield 95, 9, 35, 2, []), (9, .iload_n 1, 1, 0, 0, []), (10, .baload, 35, 0, 0, []), (11, .ifCond .eq 14, 25, 0, 0, []), (14, .aload_n 0, 0, 0, 0, []), (15, .getfield 92, 9, 34, 2, []), (18, .iload_n 1, 1, 0, 0, []), (19, .iaload, 34, 0, 0, []), (20, .iconst 1, 0, 0, 0, []), (21, .iadd, 0, 0, 0, []), (22, .goto 9, 31, 0, 0, []), (25, .aload_n 0, 0, 0, 0, []), (26, .getfield 92, 9, 34, 2, []), (29, .iload_n 1, 1, 0, 0, []), (30, .iaload, 34, 0, 0, []), (31, .iastore, 33, 0, 0, []), (32, .aload_n 0, 0, 0, 0, []), (33, .getfield 92, 9, 34, 2, []), (36, .iload_n 1, 1, 0, 0, []), (37, .iconst (-1), 0, 0, 0, []), (38, .iastore, 34, 0, 0, []), (39, .aload_n 0, 0, 0, 0, []), (40, .getfield 104, 9, 38, 2, []), (43, .iload_n 1, 1, 0, 0, []), (44, .aload_n 0, 0, 0, 0, []), (45, .getfield 228, 9, 1, 0, []), (48, .iastore, 38, 0, 0, []), (49, .aload_n 0, 0, 0, 0, []), (50, .getfield 101, 9, 37, 2, []), (53, .iload_n 1, 1, 0, 0, []), (54, .aload_n 0, 0, 0, 0, []), (55, .getfield 101, 9, 37, 2, []), (58, .iload_n 1, 1, 0, 0, []), (59, .iaload, 37, 0, 0, []), (60, .aload_n 0, 0, 0, 0, []), (61, .getfield 89, 9, 33, 2, []), (64, .iload_n 1, 1, 0, 0, []), (65, .iaload, 33, 0, 0, []), (66, .if_icmp .ne 7, 73, 0, 0, []), (69, .iconst (-1), 0, 0, 0, []), (70, .goto 9, 79, 0, 0, []), (73, .aload_n 0, 0, 0, 0, []), (74, .getfield 101, 9, 37, 2, []), (77, .iload_n 1, 1, 0, 0, []), (78, .iaload, 37, 0, 0, []), (79, .iastore, 37, 0, 0, []), (80, .iconst 0, 0, 0, 0, []), (81, .istore_n 2, 2, 0, 0, []), (82, .iload_n 2, 2, 0, 0, []), (83, .aload_n 0, 0, 0, 0, []), (84, .getfield 170, 9, 29, 0, []), (87, .if_icmp .ge 33, 120, 0, 0, []), (90, .aload_n 0, 0, 0, 0, []), (91, .getfield 125, 9, 45, 2, []), (94, .bipush 6, 0, 0, 0, []), (96, .iload_n 1, 1, 0, 0, []), (97, .imul, 0, 0, 0, []), (98, .iload_n 2, 2, 0, 0, []), (99, .iadd, 0, 0, 0, []), (100, .iconst 0, 0, 0, 0, []), (101, .bastore, 45, 0, 0, []), (102, .aload_n 0, 0, 0, 0, []), (103, .getfield 125, 9, 45, 2, []), (106, .bipush 6, 0, 0, 0, []), (108, .iload_n 2, 2, 0, 0, []), (109, .imul, 0, 0, 0, []), (110, .iload_n 1, 1, 0, 0, []), (111, .iadd, 0, 0, 0, []), (112, .iconst 0, 0, 0, 0, []), (113, .bastore, 45, 0, 0, []), (114, .iinc 2 1, 2, 0, 0, []), (117, .goto (-35), 82, 0, 0, []), (120, .return_, 0, 0, 0, [])]
def clX8_comes : List (Instr × Nat × Nat × Nat) := []
def thX8_comes : List (Nat × Nat) := []
theorem ckX8_comes : tbX8_comes.all (xRow RX8 cX8_comes wsX8_comes vwCl [9] clX8_comes thX8_comes 3 (yX8_comes.name == "<init>") none) = true := xRow_q 0xb1ddffa70102845403601b681c06107d00b42a5403601c681b06107d00b42a2100a2aa00b42a1c3d034f2e1b6500b42a0900a7020700a02e1b5900b42a2e1b6500b42a1b6500b42a4fe400b42a1b6800b42a4f021b5c00b42a4f2e1b5c00b42a0900a760042e1b5c00b42a0e0099331b5f00b42a1b5900b42a 121 (by decide +kernel) (by decide +kernel)
theorem usX8_comes : xUse wsX8_comes vwCl [9] = true := xUse_g rfl (lw_good lwl_X8_comes lwl_X80 (by decide +kernel)) xUse_n
theorem tbX8_comes_0 {k : Instr → Nat → Nat → Nat → List Nat → Prop} : xse (xFind tbX8_comes 0) k = k (.aload_n 0) 0 0 0 [] := rfl
theorem tbX8_comes_1 {k : Instr → Nat → Nat → Nat → List Nat → Prop} : xse (xFind tbX8_comes 1) k = k (.getfield 89) 9 33 2 [] := rfl
theorem tbX8_comes_4 {k : Instr → Nat → Nat → Nat → List Nat → Prop} : xse (xFind tbX8_comes 4) k = k (.iload_n 1) 1 0 0 [] := rfl
theorem tbX8_comes_5 {k : Instr → Nat → Nat → Nat → List Nat → Prop} : xse (xFind tbX8_comes 5) k = k (.aload_n 0) 0 0 0 [] := rfl
theorem tbX8_comes_6 {k : Instr → Nat → Nat → Nat → List Nat → Prop} : xse (xFind tbX8_comes 6) k = k (.getfield 95) 9 35 2 [] := rfl
theorem tbX8_comes_9 {k : Instr → Nat → Nat → Nat → List Nat → Prop} : xse (xFind tbX8_comes 9) k = k (.iload_n 1) 1 0 0 [] := rfl
theorem tbX8_comes_10 {k : Instr → Nat → Nat → Nat → List Nat → Prop} : xse (xFind tbX8_comes 10) k = k (.baload) 35 0 0 [] := rfl
theorem tbX8_comes_11 {k : Instr → Nat → Nat → Nat → List Nat → Prop} : xse (xFind tbX8_comes 11) k = k (.ifCond .eq 14) 25 0 0 [] := rfl
theorem tbX8_comes_14 {k : Instr → Nat → Nat → Nat → List Nat → Prop} : xse (xFind tbX8_comes 14) k = k (.aload_n 0) 0 0 0 [] := rfl
theorem tbX8_comes_15 {k : Instr → Nat → Nat → Nat → List Nat → Prop} : xse (xFind tbX8_comes 15) k = k (.getfield 92) 9 34 2 [] := rfl
theorem tbX8_comes_18 {k : Instr → Nat → Nat → Nat → List Nat → Prop} : xse (xFind tbX8_comes 18) k = k (.iload_n 1) 1 0 0 [] := rfl
theorem tbX8_comes_19 {k : Instr → Nat → Nat → Nat → List Nat → Prop} : xse (xFind tbX8_comes 19) k = k (.iaload) 34 0 0 [] := rfl
theorem tbX8_comes_20 {k : Instr → Nat → Nat → Nat → List Nat → Prop} : xse (xFind tbX8_comes 20) k = k (.iconst 1) 0 0 0 [] := rfl
theorem tbX8_comes_21 {k : Instr → Nat → Nat → Nat → List Nat → Prop} : xse (xFind tbX8_comes 21) k = k (.iadd) 0 0 0 [] := rfl
theorem tbX8_comes_22 {k : Instr → Nat → Nat → Nat → List Nat → Prop} : xse (xFind tbX8_comes 22) k = k (.goto 9) 31 0 0 [] := rfl
theorem tbX8_comes_25 {k : Instr → Nat → Nat → Nat → List Nat → Prop} : xse (xFind tbX8_comes 25) k = k (.aload_n 0) 0 0 0 [] := rfl
theorem tbX8_comes_26 {k : Instr → Nat → Nat → Nat → List Nat → Prop} : xse (xFind tbX8_comes 26) k = k (.getfield 92) 9 34 2 [] := rfl
theorem tbX8_comes_29 {k : Instr → Nat → Nat → Nat → List Nat → Prop} : xse (xFind tbX8_comes 29) k = k (.iload_n 1) 1 0 0 [] := rfl
theorem tbX8_comes_30 {k : Instr → Nat → Nat → Nat → List Nat → Prop} : xse (xFind tbX8_comes 30) k = k (.iaload) 34 0 0 [] := rfl
theorem tbX8_comes_31 {k : Instr → Nat → Nat → Nat → List Nat → Prop} : xse (xFind tbX8_comes 31) k = k (.iastore) 33 0 0 [] := rfl
theorem tbX8_comes_32 {k : Instr → Nat → Nat → Nat → List Nat → Prop} : xse (xFind tbX8_comes 32) k = k (.aload_n 0) 0 0 0 [] := rfl
theorem tbX8_comes_33 {k : Instr → Nat → Nat → Nat → List Nat → Prop} : xse (xFind tbX8_comes 33) k = k (.getfield 92) 9 34 2 [] := rfl
theorem tbX8_comes_36 {k : Instr → Nat → Nat → Nat → List Nat → Prop} : xse (xFind tbX8_comes 36) k = k (.iload_n 1) 1 0 0 [] := rfl
theorem tbX8_comes_37 {k : Instr → Nat → Nat → Nat → List Nat → Prop} : xse (xFind tbX8_comes 37) k = k (.iconst (-1)) 0 0 0 [] := rfl
theorem tbX8_comes_38 {k : Instr → Nat → Nat → Nat → List Nat → Prop} : xse (xFind tbX8_comes 38) k = k (.iastore) 34 0 0 [] := rfl
theorem tbX8_comes_39 {k : Instr → Nat → Nat → Nat → List Nat → Prop} : xse (xFind tbX8_comes 39) k = k (.aload_n 0) 0 0 0 [] := rfl
theorem tbX8_comes_40 {k : Instr → Nat → Nat → Nat → List Nat → Prop} : xse (xFind tbX8_comes 40) k = k (.getfield 104) 9 38 2 [] := rfl
theorem tbX8_comes_43 {k : Instr → Nat → Nat → Nat → List Nat → Prop} : xse (xFind tbX8_comes 43) k = k (.iload_n 1) 1 0 0 [] := rfl
theorem tbX8_comes_44 {k : Instr → Nat → Nat → Nat → List Nat → Prop} : xse (xFind tbX8_comes 44) k = k (.aload_n 0) 0 0 0 [] := rfl
theorem tbX8_comes_45 {k : Instr → Nat → Nat → Nat → List Nat → Prop} : xse (xFind tbX8_comes 45) k = k (.getfield 228) 9 1 0 [] := rfl
theorem tbX8_comes_48 {k : Instr → Nat → Nat → Nat → List Nat → Prop} : xse (xFind tbX8_comes 48) k = k (.iastore) 38 0 0 [] := rfl
theorem tbX8_comes_49 {k : Instr → Nat → Nat → Nat → List Nat → Prop} : xse (xFind tbX8_comes 49) k = k (.aload_n 0) 0 0 0 [] := rfl
theorem tbX8_comes_50 {k : Instr → Nat → Nat → Nat → List Nat → Prop} : xse (xFind tbX8_comes 50) k = k (.getfield 101) 9 37 2 [] := rfl
theorem tbX8_comes_53 {k : Instr → Nat → Nat → Nat → List Nat → Prop} : xse (xFind tbX8_comes 53) k = k (.iload_n 1) 1 0 0 [] := rfl
theorem tbX8_comes_54 {k : Instr → Nat → Nat → Nat → List Nat → Prop} : xse (xFind tbX8_comes 54) k = k (.aload_n 0) 0 0 0 [] := rfl
theorem tbX8_comes_55 {k : Instr → Nat → Nat → Nat → List Nat → Prop} : xse (xFind tbX8_comes 55) k = k (.getfield 101) 9 37 2 [] := rfl
theorem tbX8_comes_58 {k : Instr → Nat → Nat → Nat → List Nat → Prop} : xse (xFind tbX8_comes 58) k = k (.iload_n 1) 1 0 0 [] := rfl
theorem tbX8_comes_59 {k : Instr → Nat → Nat → Nat → List Nat → Prop} : xse (xFind tbX8_comes 59) k = k (.iaload) 37 0 0 [] := rfl
theorem tbX8_comes_60 {k : Instr → Nat → Nat → Nat → List Nat → Prop} : xse (xFind tbX8_comes 60) k = k (.aload_n 0) 0 0 0 [] := rfl
theorem tbX8_comes_61 {k : Instr → Nat → Nat → Nat → List Nat → Prop} : xse (xFind tbX8_comes 61) k = k (.getfield 89) 9 33 2 [] := rfl
theorem tbX8_comes_64 {k : Instr → Nat → Nat → Nat → List Nat → Prop} : xse (xFind tbX8_comes 64) k = k (.iload_n 1) 1 0 0 [] := rfl
theorem tbX8_comes_65 {k : Instr → Nat → Nat → Nat → List Nat → Prop} : xse (xFind tbX8_comes 65) k = k (.iaload) 33 0 0 [] := rfl
theorem tbX8_comes_66 {k : Instr → Nat → Nat → Nat → List Nat → Prop} : xse (xFind tbX8_comes 66) k = k (.if_icmp .ne 7) 73 0 0 [] := rfl
theorem tbX8_comes_69 {k : Instr → Nat → Nat → Nat → List Nat → Prop} : xse (xFind tbX8_comes 69) k = k (.iconst (-1)) 0 0 0 [] := rfl
theorem tbX8_comes_70 {k : Instr → Nat → Nat → Nat → List Nat → Prop} : xse (xFind tbX8_comes 70) k = k (.goto 9) 79 0 0 [] := rfl
theorem tbX8_comes_73 {k : Instr → Nat → Nat → Nat → List Nat → Prop} : xse (xFind tbX8_comes 73) k = k (.aload_n 0) 0 0 0 [] := rfl
theorem tbX8_comes_74 {k : Instr → Nat → Nat → Nat → List Nat → Prop} : xse (xFind tbX8_comes 74) k = k (.getfield 101) 9 37 2 [] := rfl
theorem tbX8_comes_77 {k : Instr → Nat → Nat → Nat → List Nat → Prop} : xse (xFind tbX8_comes 77) k = k (.iload_n 1) 1 0 0 [] := rfl
theorem tbX8_comes_78 {k : Instr → Nat → Nat → Nat → List Nat → Prop} : xse (xFind tbX8_comes 78) k = k (.iaload) 37 0 0 [] := rfl
theorem tbX8_comes_79 {k : Instr → Nat → Nat → Nat → List Nat → Prop} : xse (xFind tbX8_comes 79) k = k (.iastore) 37 0 0 [] := rfl
theorem tbX8_comes_80 {k : Instr → Nat → Nat → Nat → List Nat → Prop} : xse (xFind tbX8_comes 80) k = k (.iconst 0) 0 0 0 [] := rfl
theorem tbX8_comes_81 {k : Instr → Nat → Nat → Nat → List Nat → Prop} : xse (xFind tbX8_comes 81) k = k (.istore_n 2) 2 0 0 [] := rfl
theorem tbX8_comes_82 {k : Instr → Nat → Nat → Nat → List Nat → Prop} : xse (xFind tbX8_comes 82) k = k (.iload_n 2) 2 0 0 [] := rfl
theorem tbX8_comes_83 {k : Instr → Nat → Nat → Nat → List Nat → Prop} : xse (xFind tbX8_comes 83) k = k (.aload_n 0) 0 0 0 [] := rfl
theorem tbX8_comes_84 {k : Instr → Nat → Nat → Nat → List Nat → Prop} : xse (xFind tbX8_comes 84) k = k (.getfield 170) 9 29 0 [] := rfl
theorem tbX8_comes_87 {k : Instr → Nat → Nat → Nat → List Nat → Prop} : xse (xFind tbX8_comes 87) k = k (.if_icmp .ge 33) 120 0 0 [] := rfl
theorem tbX8_comes_90 {k : Instr → Nat → Nat → Nat → List Nat → Prop} : xse (xFind tbX8_comes 90) k = k (.aload_n 0) 0 0 0 [] := rfl
theorem tbX8_comes_91 {k : Instr → Nat → Nat → Nat → List Nat → Prop} : xse (xFind tbX8_comes 91) k = k (.getfield 125) 9 45 2 [] := rfl
theorem tbX8_comes_94 {k : Instr → Nat → Nat → Nat → List Nat → Prop} : xse (xFind tbX8_comes 94) k = k (.bipush 6) 0 0 0 [] := rfl
theorem tbX8_comes_96 {k : Instr → Nat → Nat → Nat → List Nat → Prop} : xse (xFind tbX8_comes 96) k = k (.iload_n 1) 1 0 0 [] := rfl
theorem tbX8_comes_97 {k : Instr → Nat → Nat → Nat → List Nat → Prop} : xse (xFind tbX8_comes 97) k = k (.imul) 0 0 0 [] := rfl
theorem tbX8_comes_98 {k : Instr → Nat → Nat → Nat → List Nat → Prop} : xse (xFind tbX8_comes 98) k = k (.iload_n 2) 2 0 0 [] := rfl
theorem tbX8_comes_99 {k : Instr → Nat → Nat → Nat → List Nat → Prop} : xse (xFind tbX8_comes 99) k = k (.iadd) 0 0 0 [] := rfl
theorem tbX8_comes_100 {k : Instr → Nat → Nat → Nat → List Nat → Prop} : xse (xFind tbX8_comes 100) k = k (.iconst 0) 0 0 0 [] := rfl
theorem tbX8_comes_101 {k : Instr → Nat → Nat → Nat → List Nat → Prop} : xse (xFind tbX8_comes 101) k = k (.bastore) 45 0 0 [] := rfl
theorem tbX8_comes_102 {k : Instr → Nat → Nat → Nat → List Nat → Prop} : xse (xFind tbX8_comes 102) k = k (.aload_n 0) 0 0 0 [] := rfl
theorem tbX8_comes_103 {k : Instr → Nat → Nat → Nat → List Nat → Prop} : xse (xFind tbX8_comes 103) k = k (.getfield 125) 9 45 2 [] := rfl
theorem tbX8_comes_106 {k : Instr → Nat → Nat → Nat → List Nat → Prop} : xse (xFind tbX8_comes 106) k = k (.bipush 6) 0 0 0 [] := rfl
theorem tbX8_comes_108 {k : Instr → Nat → Nat → Nat → List Nat → Prop} : xse (xFind tbX8_comes 108) k = k (.iload_n 2) 2 0 0 [] := rfl
theorem tbX8_comes_109 {k : Instr → Nat → Nat → Nat → List Nat → Prop} : xse (xFind tbX8_comes 109) k = k (.imul) 0 0 0 [] := rfl
theorem tbX8_comes_110 {k : Instr → Nat → Nat → Nat → List Nat → Prop} : xse (xFind tbX8_comes 110) k = k (.iload_n 1) 1 0 0 [] := rfl
theorem tbX8_comes_111 {k : Instr → Nat → Nat → Nat → List Nat → Prop} : xse (xFind tbX8_comes 111) k = k (.iadd) 0 0 0 [] := rfl
theorem tbX8_comes_112 {k : Instr → Nat → Nat → Nat → List Nat → Prop} : xse (xFind tbX8_comes 112) k = k (.iconst 0) 0 0 0 [] := rfl
theorem tbX8_comes_113 {k : Instr → Nat → Nat → Nat → List Nat → Prop} : xse (xFind tbX8_comes 113) k = k (.bastore) 45 0 0 [] := rfl
theorem tbX8_comes_114 {k : Instr → Nat → Nat → Nat → List Nat → Prop} : xse (xFind tbX8_comes 114) k = k (.iinc 2 1) 2 0 0 [] := rfl
theorem tbX8_comes_117 {k : Instr → Nat → Nat → Nat → List Nat → Prop} : xse (xFind tbX8_comes 117) k = k (.goto (-35)) 82 0 0 [] := rfl
theorem tbX8_comes_120 {k : Instr → Nat → Nat → Nat → List Nat → Prop} : xse (xFind tbX8_comes 120) k = k (.return_) 0 0 0 [] := rfl

def spX8_comes (aM : Nat → Nat) : xSp mS := (fun av M => (0, 0), fun av M K => ∃ (b : Int32), av = [.ref (aM 0), .int b] ∧ (vp_in b 6 ∧ (M.1 29 = nI (nBt M) ∧ nBt M ≤ 6) ∧ K rV (mCome M b.toNatClampNeg)))
theorem spcX8_comes {av : List Value} {M : mS} {aM : Nat → Nat} : (spX8_comes aM).1 av M = (0, 0) := rfl
theorem spwX8_comes {M : mS} {aM : Nat → Nat} {K : xRes → mS → Prop} {b : Int32} : (spX8_comes aM).2 [.ref (aM 0), .int b] M K = (vp_in b 6 ∧ (M.1 29 = nI (nBt M) ∧ nBt M ≤ 6) ∧ K rV (mCome M b.toNatClampNeg)) :=
  propext ⟨fun h => by
    simp only [spX8_comes] at h
    obtain ⟨_, e, h⟩ := h
    simp only [List.cons.injEq, Value.int.injEq, Value.ref.injEq, rf_eq, and_true, true_and] at e
    obtain rfl := e
    exact h, fun h => ⟨_, rfl, h⟩⟩

set_option maxHeartbeats 4000000 in
set_option maxRecDepth 20000 in
theorem semX8_comes (l : Launch) (W9 : xWd) (aM : Nat → Nat) (hi : mInj aM) : xSem l W9 (mI aM) yX8_comes wsX8_comes 0 0 (spX8_comes aM) := by
  refine xSem_of (call := fun _ => none) (thrf := fun _ => "") (mI_law hi) (by decide +kernel) rfl ckX8_comes usX8_comes xCallsOK_nil xThrOK_nil ?_ ?_
  · intro av M KF h
    obtain ⟨b, rfl, h⟩ := h
    exact ⟨by intro v hv; simp only [List.mem_cons, List.not_mem_nil, or_false] at hv; rcases hv with rfl | rfl <;> first | rfl | exact cat_rf, Nat.le_of_ble_eq_true rfl⟩
  intro av M KF h G hG
  obtain ⟨b, rfl, h⟩ := h
  rw [show (spX8_comes aM).1 _ M = _ from spcX8_comes] at hG
  try dsimp only at hG
  change G 0 [some (.ref (aM 0)), some (.int b), none] [] M 0 0
  obtain ⟨h1, ⟨hn, hn6⟩, h⟩ := h

  obtain ⟨w, hw, rfl⟩ := vp_in_of h1 (by omega)
  rw [ix_nI (by omega)] at h
  unfold mCome at h
  generalize nBt M = n at *
  have loop := xloop hG 82 [true, true, true] (fun j lv st S cs ss => lv = [some (.ref (aM 0)), some (.int (nI w)), some (.int (nI j))] ∧ st = [] ∧ mAgr (mCm1 M w) w j = S ∧ cs = 0 ∧ ss = 0) n (by
      rintro j hj lv st S cs ss ⟨rfl, rfl, rfl, rfl, rfl⟩ fu hfu
      have hn' : (mAgr (mCm1 M w) w j).1 29 = nI n := by rw [mAgr_1, mCm1_1]; exact hn
      simp only [kb_6, kc_6, ki_0, ki_1, ki_m1, ↓ma_33, ↓ma_34, ↓ma_35, ↓ma_37, ↓mg_1, ↓mg_29, ↓mg_33, ↓mg_34, ↓mg_35, ↓mg_37, ↓mg_38, ↓mg_45, ↓ms_33, ↓ms_34, ↓ms_37, ↓ms_38, ↓ms_45, ↓vm_aload_n, ↓vm_baload, ↓vm_bastore, ↓vm_bipush, ↓vm_getfield, ↓vm_goto, ↓vm_iadd, ↓vm_iaload, ↓vm_iastore, ↓vm_iconst, ↓vm_ifCond_eq, ↓vm_if_icmp_ge, ↓vm_if_icmp_ne, ↓vm_iinc, ↓vm_iload_n, ↓vm_imul, ↓vm_istore_n, ↓vm_return_, ↓tbX8_comes_0, ↓tbX8_comes_1, ↓tbX8_comes_4, ↓tbX8_comes_5, ↓tbX8_comes_6, ↓tbX8_comes_9, ↓tbX8_comes_10, ↓tbX8_comes_11, ↓tbX8_comes_14, ↓tbX8_comes_15, ↓tbX8_comes_18, ↓tbX8_comes_19, ↓tbX8_comes_20, ↓tbX8_comes_21, ↓tbX8_comes_22, ↓tbX8_comes_25, ↓tbX8_comes_26, ↓tbX8_comes_29, ↓tbX8_comes_30, ↓tbX8_comes_31, ↓tbX8_comes_32, ↓tbX8_comes_33, ↓tbX8_comes_36, ↓tbX8_comes_37, ↓tbX8_comes_38, ↓tbX8_comes_39, ↓tbX8_comes_40, ↓tbX8_comes_43, ↓tbX8_comes_44, ↓tbX8_comes_45, ↓tbX8_comes_48, ↓tbX8_comes_49, ↓tbX8_comes_50, ↓tbX8_comes_53, ↓tbX8_comes_54, ↓tbX8_comes_55, ↓tbX8_comes_58, ↓tbX8_comes_59, ↓tbX8_comes_60, ↓tbX8_comes_61, ↓tbX8_comes_64, ↓tbX8_comes_65, ↓tbX8_comes_66, ↓tbX8_comes_69, ↓tbX8_comes_70, ↓tbX8_comes_73, ↓tbX8_comes_74, ↓tbX8_comes_77, ↓tbX8_comes_78, ↓tbX8_comes_79, ↓tbX8_comes_80, ↓tbX8_comes_81, ↓tbX8_comes_82, ↓tbX8_comes_83, ↓tbX8_comes_84, ↓tbX8_comes_87, ↓tbX8_comes_90, ↓tbX8_comes_91, ↓tbX8_comes_94, ↓tbX8_comes_96, ↓tbX8_comes_97, ↓tbX8_comes_98, ↓tbX8_comes_99, ↓tbX8_comes_100, ↓tbX8_comes_101, ↓tbX8_comes_102, ↓tbX8_comes_103, ↓tbX8_comes_106, ↓tbX8_comes_108, ↓tbX8_comes_109, ↓tbX8_comes_110, ↓tbX8_comes_111, ↓tbX8_comes_112, ↓tbX8_comes_113, ↓tbX8_comes_114, ↓tbX8_comes_117, ↓tbX8_comes_120, hfu, xstep0, xJ1_hit, xJ1_go, xJ2_hit1, xJ2_hit2, xJ2_go, ↓xif_t, ↓xif_f, seval, ↓xca_eq, ↓xre_l, ↓xre_r, xmask_t, xmask_f, xmask_nil, ↓xst_eq, xX_eq, eI_eq, eMc_eq, eMs_eq, eF_eq, eThr_eq, ↓xS1_mk, ↓xSI_mk, ↓xSR_mk, ↓xLI_0, ↓xLI_s, ↓xLR_0, ↓xLR_s, vRef_ref, vRef_null, vRef_rf, cat_int, cat_ref, cat_null, cat_rf, rf_some, rf_none, rf_null, rf_eq, rf_ref, ref_rf, ref_null, ref_ref, xOk_0, xOk_1, xOk_2r, xOk_2n, xOk_2f, vOpt_rf, vOpt_ref, vOpt_null, List.set_cons_zero, List.set_cons_succ, List.take_succ_cons, List.take_zero, List.drop_succ_cons, List.drop_zero, List.reverse_cons, List.reverse_nil, List.nil_append, List.cons_append, List.append_nil, List.length_cons, List.length_nil, List.map_cons, List.map_nil, List.sum_cons, List.sum_nil, Option.toList_some, Option.toList_none, xRecv_mk, true_and, and_true, true_implies, Nat.reduceAdd, Nat.reduceLeDiff, Nat.zero_le, Nat.le_refl, Nat.add_zero, Nat.zero_add, reduceIte, not_true_eq_false, not_false_eq_true, false_implies, and_self, implies_true, eq_self, Nat.reduceEqDiff, List.cons.injEq, xsn_1, xsn_2, false_and, and_false, or_false, false_or, or_true, true_or, xsn_3, xsn_4, mAst_1, mAst_2, mSet_1, mSet_2, bi_0, hn', ge_nI hj (show n < 1000 by omega), m6_nI, add_nI, xin_nI (show 6 * w + j < 36 by omega) (by omega), xin_nI (show 6 * j + w < 36 by omega) (by omega), ix_nI (show 6 * w + j < 1000 by omega), ix_nI (show 6 * j + w < 1000 by omega), nI1]
      try simp only [xif_e]
      repeat' (first | rfl | apply And.intro | exact Or.inl rfl)) (by
      rintro lv st S cs ss ⟨rfl, rfl, rfl, rfl, rfl⟩ fu hfu
      have hn' : (mAgr (mCm1 M w) w n).1 29 = nI n := by rw [mAgr_1, mCm1_1]; exact hn
      simp only [kb_6, kc_6, ki_0, ki_1, ki_m1, ↓ma_33, ↓ma_34, ↓ma_35, ↓ma_37, ↓mg_1, ↓mg_29, ↓mg_33, ↓mg_34, ↓mg_35, ↓mg_37, ↓mg_38, ↓mg_45, ↓ms_33, ↓ms_34, ↓ms_37, ↓ms_38, ↓ms_45, ↓vm_aload_n, ↓vm_baload, ↓vm_bastore, ↓vm_bipush, ↓vm_getfield, ↓vm_goto, ↓vm_iadd, ↓vm_iaload, ↓vm_iastore, ↓vm_iconst, ↓vm_ifCond_eq, ↓vm_if_icmp_ge, ↓vm_if_icmp_ne, ↓vm_iinc, ↓vm_iload_n, ↓vm_imul, ↓vm_istore_n, ↓vm_return_, ↓tbX8_comes_0, ↓tbX8_comes_1, ↓tbX8_comes_4, ↓tbX8_comes_5, ↓tbX8_comes_6, ↓tbX8_comes_9, ↓tbX8_comes_10, ↓tbX8_comes_11, ↓tbX8_comes_14, ↓tbX8_comes_15, ↓tbX8_comes_18, ↓tbX8_comes_19, ↓tbX8_comes_20, ↓tbX8_comes_21, ↓tbX8_comes_22, ↓tbX8_comes_25, ↓tbX8_comes_26, ↓tbX8_comes_29, ↓tbX8_comes_30, ↓tbX8_comes_31, ↓tbX8_comes_32, ↓tbX8_comes_33, ↓tbX8_comes_36, ↓tbX8_comes_37, ↓tbX8_comes_38, ↓tbX8_comes_39, ↓tbX8_comes_40, ↓tbX8_comes_43, ↓tbX8_comes_44, ↓tbX8_comes_45, ↓tbX8_comes_48, ↓tbX8_comes_49, ↓tbX8_comes_50, ↓tbX8_comes_53, ↓tbX8_comes_54, ↓tbX8_comes_55, ↓tbX8_comes_58, ↓tbX8_comes_59, ↓tbX8_comes_60, ↓tbX8_comes_61, ↓tbX8_comes_64, ↓tbX8_comes_65, ↓tbX8_comes_66, ↓tbX8_comes_69, ↓tbX8_comes_70, ↓tbX8_comes_73, ↓tbX8_comes_74, ↓tbX8_comes_77, ↓tbX8_comes_78, ↓tbX8_comes_79, ↓tbX8_comes_80, ↓tbX8_comes_81, ↓tbX8_comes_82, ↓tbX8_comes_83, ↓tbX8_comes_84, ↓tbX8_comes_87, ↓tbX8_comes_90, ↓tbX8_comes_91, ↓tbX8_comes_94, ↓tbX8_comes_96, ↓tbX8_comes_97, ↓tbX8_comes_98, ↓tbX8_comes_99, ↓tbX8_comes_100, ↓tbX8_comes_101, ↓tbX8_comes_102, ↓tbX8_comes_103, ↓tbX8_comes_106, ↓tbX8_comes_108, ↓tbX8_comes_109, ↓tbX8_comes_110, ↓tbX8_comes_111, ↓tbX8_comes_112, ↓tbX8_comes_113, ↓tbX8_comes_114, ↓tbX8_comes_117, ↓tbX8_comes_120, hfu, xstep0, xJ1_hit, xJ1_go, xJ2_hit1, xJ2_hit2, xJ2_go, ↓xif_t, ↓xif_f, seval, ↓xca_eq, ↓xre_l, ↓xre_r, xmask_t, xmask_f, xmask_nil, ↓xst_eq, xX_eq, eI_eq, eMc_eq, eMs_eq, eF_eq, eThr_eq, ↓xS1_mk, ↓xSI_mk, ↓xSR_mk, ↓xLI_0, ↓xLI_s, ↓xLR_0, ↓xLR_s, vRef_ref, vRef_null, vRef_rf, cat_int, cat_ref, cat_null, cat_rf, rf_some, rf_none, rf_null, rf_eq, rf_ref, ref_rf, ref_null, ref_ref, xOk_0, xOk_1, xOk_2r, xOk_2n, xOk_2f, vOpt_rf, vOpt_ref, vOpt_null, List.set_cons_zero, List.set_cons_succ, List.take_succ_cons, List.take_zero, List.drop_succ_cons, List.drop_zero, List.reverse_cons, List.reverse_nil, List.nil_append, List.cons_append, List.append_nil, List.length_cons, List.length_nil, List.map_cons, List.map_nil, List.sum_cons, List.sum_nil, Option.toList_some, Option.toList_none, xRecv_mk, true_and, and_true, true_implies, Nat.reduceAdd, Nat.reduceLeDiff, Nat.zero_le, Nat.le_refl, Nat.add_zero, Nat.zero_add, reduceIte, not_true_eq_false, not_false_eq_true, false_implies, and_self, implies_true, eq_self, Nat.reduceEqDiff, List.cons.injEq, xsn_1, xsn_2, false_and, and_false, or_false, false_or, or_true, true_or, xsn_3, xsn_4, mAst_1, mAst_2, mSet_1, mSet_2, bi_0, hn', le_nI_self]
      try simp only [xif_e]
      exact h)
  refine xgo hG (mb := [true, true, true]) (loop 0 (Nat.zero_le n)) (pc := 0) (fun fu hfu => ?_)
  simp only [kb_6, kc_6, ki_0, ki_1, ki_m1, ↓ma_33, ↓ma_34, ↓ma_35, ↓ma_37, ↓mg_1, ↓mg_29, ↓mg_33, ↓mg_34, ↓mg_35, ↓mg_37, ↓mg_38, ↓mg_45, ↓ms_33, ↓ms_34, ↓ms_37, ↓ms_38, ↓ms_45, ↓vm_aload_n, ↓vm_baload, ↓vm_bastore, ↓vm_bipush, ↓vm_getfield, ↓vm_goto, ↓vm_iadd, ↓vm_iaload, ↓vm_iastore, ↓vm_iconst, ↓vm_ifCond_eq, ↓vm_if_icmp_ge, ↓vm_if_icmp_ne, ↓vm_iinc, ↓vm_iload_n, ↓vm_imul, ↓vm_istore_n, ↓vm_return_, ↓tbX8_comes_0, ↓tbX8_comes_1, ↓tbX8_comes_4, ↓tbX8_comes_5, ↓tbX8_comes_6, ↓tbX8_comes_9, ↓tbX8_comes_10, ↓tbX8_comes_11, ↓tbX8_comes_14, ↓tbX8_comes_15, ↓tbX8_comes_18, ↓tbX8_comes_19, ↓tbX8_comes_20, ↓tbX8_comes_21, ↓tbX8_comes_22, ↓tbX8_comes_25, ↓tbX8_comes_26, ↓tbX8_comes_29, ↓tbX8_comes_30, ↓tbX8_comes_31, ↓tbX8_comes_32, ↓tbX8_comes_33, ↓tbX8_comes_36, ↓tbX8_comes_37, ↓tbX8_comes_38, ↓tbX8_comes_39, ↓tbX8_comes_40, ↓tbX8_comes_43, ↓tbX8_comes_44, ↓tbX8_comes_45, ↓tbX8_comes_48, ↓tbX8_comes_49, ↓tbX8_comes_50, ↓tbX8_comes_53, ↓tbX8_comes_54, ↓tbX8_comes_55, ↓tbX8_comes_58, ↓tbX8_comes_59, ↓tbX8_comes_60, ↓tbX8_comes_61, ↓tbX8_comes_64, ↓tbX8_comes_65, ↓tbX8_comes_66, ↓tbX8_comes_69, ↓tbX8_comes_70, ↓tbX8_comes_73, ↓tbX8_comes_74, ↓tbX8_comes_77, ↓tbX8_comes_78, ↓tbX8_comes_79, ↓tbX8_comes_80, ↓tbX8_comes_81, ↓tbX8_comes_82, ↓tbX8_comes_83, ↓tbX8_comes_84, ↓tbX8_comes_87, ↓tbX8_comes_90, ↓tbX8_comes_91, ↓tbX8_comes_94, ↓tbX8_comes_96, ↓tbX8_comes_97, ↓tbX8_comes_98, ↓tbX8_comes_99, ↓tbX8_comes_100, ↓tbX8_comes_101, ↓tbX8_comes_102, ↓tbX8_comes_103, ↓tbX8_comes_106, ↓tbX8_comes_108, ↓tbX8_comes_109, ↓tbX8_comes_110, ↓tbX8_comes_111, ↓tbX8_comes_112, ↓tbX8_comes_113, ↓tbX8_comes_114, ↓tbX8_comes_117, ↓tbX8_comes_120, hfu, xstep0, xJ1_hit, xJ1_go, xJ2_hit1, xJ2_hit2, xJ2_go, ↓xif_t, ↓xif_f, seval, ↓xca_eq, ↓xre_l, ↓xre_r, xmask_t, xmask_f, xmask_nil, ↓xst_eq, xX_eq, eI_eq, eMc_eq, eMs_eq, eF_eq, eThr_eq, ↓xS1_mk, ↓xSI_mk, ↓xSR_mk, ↓xLI_0, ↓xLI_s, ↓xLR_0, ↓xLR_s, vRef_ref, vRef_null, vRef_rf, cat_int, cat_ref, cat_null, cat_rf, rf_some, rf_none, rf_null, rf_eq, rf_ref, ref_rf, ref_null, ref_ref, xOk_0, xOk_1, xOk_2r, xOk_2n, xOk_2f, vOpt_rf, vOpt_ref, vOpt_null, List.set_cons_zero, List.set_cons_succ, List.take_succ_cons, List.take_zero, List.drop_succ_cons, List.drop_zero, List.reverse_cons, List.reverse_nil, List.nil_append, List.cons_append, List.append_nil, List.length_cons, List.length_nil, List.map_cons, List.map_nil, List.sum_cons, List.sum_nil, Option.toList_some, Option.toList_none, xRecv_mk, true_and, and_true, true_implies, Nat.reduceAdd, Nat.reduceLeDiff, Nat.zero_le, Nat.le_refl, Nat.add_zero, Nat.zero_add, reduceIte, not_true_eq_false, not_false_eq_true, false_implies, and_self, implies_true, eq_self, Nat.reduceEqDiff, List.cons.injEq, xsn_1, xsn_2, false_and, and_false, or_false, false_or, or_true, true_or, xsn_3, xsn_4, mAst_1, mAst_2, mSet_1, mSet_2, bi_0, h1, ix_nI (show w < 1000 by omega)]
  try simp only [xif_e]
  have e0 : mAgr (mCm1 M w) w 0 = mCm1 M w := rfl
  rw [e0]
  unfold mCm1 mPtA
  grind [nI_0]

def mMov (M : mS) (w : Nat) : mS :=
  if M.2 5 (M.2 34 w).toNatClampNeg = 0 ∧ M.2 6 (M.2 34 w).toNatClampNeg + M.1 2 < mDr M (nI w) then mWts M (nI w) 9
  else if M.2 36 w - 1 = 0 then mCome (mAst M 36 w (M.2 36 w - 1)) w else mAst M 36 w (M.2 36 w - 1)
def mEnt (M : mS) (w : Nat) : mS :=
  if M.2 5 (mNext M (nI w)).toNatClampNeg = 0 then mAst (mAst (mAst (mAst M 32 w (M.2 32 w - M.2 30 w * mHrs M (mNext M (nI w)) (nI w) (mUp M (nI w)))) 36 w (mHrs M (mNext M (nI w)) (nI w) (mUp M (nI w)))) 34 w (mNext M (nI w))) 35 w (mUp M (nI w))
  else mAst (mAst (mAst (mAst (mAst (mAst M 32 w (M.2 32 w - M.2 30 w * mHrs M (mNext M (nI w)) (nI w) (mUp M (nI w)))) 36 w (mHrs M (mNext M (nI w)) (nI w) (mUp M (nI w)))) 34 w (mNext M (nI w))) 35 w (mUp M (nI w))) 16 (mNext M (nI w)).toNatClampNeg (if M.2 15 (mNext M (nI w)).toNatClampNeg = mUp M (nI w) then M.2 16 (mNext M (nI w)).toNatClampNeg + 1 else 1)) 15 (mNext M (nI w)).toNatClampNeg (mUp M (nI w))
theorem in_9 : vp_in 9 10 := by unfold vp_in; decide
theorem nBt_ast (M : mS) (k i : Nat) (x : Int32) : nBt (mAst M k i x) = nBt M := rfl

def tbX8_moves : List (Nat × xHint) := [(0, .aload_n 0, 0, 0, 0, []), (1, .getfield 92, 9, 34, 2, []), (4, .iload_n 1, 1, 0, 0, []), (5, .iaload, 34, 0, 0, []), (6, .istore_n 2, 2, 0, 0, []), (7, .aload_n 0, 0, 0, 0, []), (8, .getfield 7, 9, 5, 2, []), (11, .iload_n 2, 2, 0, 0, []), (12, .baload, 5, 0, 0, []), (13, .ifCond .ne 30, 43, 0, 0, []), (16, .aload_n 0, 0, 0, 0, []), (17, .getfield 13, 9, 6, 2, []), (20, .iload_n 2, 2, 0, 0, []), (21, .iaload, 6, 0, 0, []), (22, .aload_n 0, 0, 0, 0, []), (23, .getfield 186, 9, 2, 0, []), (26, .iadd, 0, 0, 0, []), (27, .aload_n 0, 0, 0, 0, []), (28, .iload_n 1, 1, 0, 0, []), (29, .invokevirtual 278, 0, 2, 9, []), (32, .if_icmp .ge 11, 43, 0, 0, []), (35, .aload_n 0, 0, 0, 0, []), (36, .iload_n 1, 1, 0, 0, []), (37, .bipush 9, 0, 0, 0, []), (39, .invokevirtual 316, 1, 3, 9, []), (42, .return_, 0, 0, 0, []), (43, .aload_n 0, 0, 0, 0, []), (44, .getfield 98, 9, 36, 2, []), (47, .iload_n 1, 1, 0, 0, []), (48, .dup2, 0, 0, 0, []), (49, .iaload, 36, 0, 0, []), (50, .iconst 1, 0, 0, 0, []), (51, .isub, 0, 0, 0, []), (52, .iastore, 36, 0, 0, []), (53, .aload_n 0, 0, 0, 0, []), (54, .getfield 98, 9, 36, 2, []), (57, .iload_n 1, 1, 0, 0, []), (58, .iaload, 36, 0, 0, []), (59, .ifCond .ne 8, 67, 0, 0, []), (62, .aload_n 0, 0, 0, 0, []), (63, .iload_n 1, 1, 0, 0, []), (64, .invokevirtual 318, 2, 2, 9, []), (67, .return_, 0, 0, 0, [])]
def clX8_moves : List (Instr × Nat × Nat × Nat) := [(.invokevirtual 278, 0, 2, 9), (.invokevirtual 316, 1, 3, 9), (.invokevirtual 318, 2, 2, 9)]
def thX8_moves : List (Nat × Nat) := []
theorem ckX8_moves : tbX8_moves.all (xRow RX8 cX8_moves wsX8_moves vwCl [9] clX8_moves thX8_moves 3 (yX8_moves.name == "<init>") none) = true := xRow_q 0xb13e01b61b2a08009a2e1b6200b42a4f64042e5c1b6200b42ab13c01b609101b2a0b00a21601b61b2a60ba00b42a2e1c0d00b42a1e009a331c0700b42a3d2e1b5c00b42a 68 (by decide +kernel) (by decide +kernel)
theorem usX8_moves : xUse wsX8_moves vwCl [9] = true := xUse_g rfl (lw_good lwl_X8_moves lwl_X80 (by decide +kernel)) xUse_n
theorem tbX8_moves_0 {k : Instr → Nat → Nat → Nat → List Nat → Prop} : xse (xFind tbX8_moves 0) k = k (.aload_n 0) 0 0 0 [] := rfl
theorem tbX8_moves_1 {k : Instr → Nat → Nat → Nat → List Nat → Prop} : xse (xFind tbX8_moves 1) k = k (.getfield 92) 9 34 2 [] := rfl
theorem tbX8_moves_4 {k : Instr → Nat → Nat → Nat → List Nat → Prop} : xse (xFind tbX8_moves 4) k = k (.iload_n 1) 1 0 0 [] := rfl
theorem tbX8_moves_5 {k : Instr → Nat → Nat → Nat → List Nat → Prop} : xse (xFind tbX8_moves 5) k = k (.iaload) 34 0 0 [] := rfl
theorem tbX8_moves_6 {k : Instr → Nat → Nat → Nat → List Nat → Prop} : xse (xFind tbX8_moves 6) k = k (.istore_n 2) 2 0 0 [] := rfl
theorem tbX8_moves_7 {k : Instr → Nat → Nat → Nat → List Nat → Prop} : xse (xFind tbX8_moves 7) k = k (.aload_n 0) 0 0 0 [] := rfl
theorem tbX8_moves_8 {k : Instr → Nat → Nat → Nat → List Nat → Prop} : xse (xFind tbX8_moves 8) k = k (.getfield 7) 9 5 2 [] := rfl
theorem tbX8_moves_11 {k : Instr → Nat → Nat → Nat → List Nat → Prop} : xse (xFind tbX8_moves 11) k = k (.iload_n 2) 2 0 0 [] := rfl
theorem tbX8_moves_12 {k : Instr → Nat → Nat → Nat → List Nat → Prop} : xse (xFind tbX8_moves 12) k = k (.baload) 5 0 0 [] := rfl
theorem tbX8_moves_13 {k : Instr → Nat → Nat → Nat → List Nat → Prop} : xse (xFind tbX8_moves 13) k = k (.ifCond .ne 30) 43 0 0 [] := rfl
theorem tbX8_moves_16 {k : Instr → Nat → Nat → Nat → List Nat → Prop} : xse (xFind tbX8_moves 16) k = k (.aload_n 0) 0 0 0 [] := rfl
theorem tbX8_moves_17 {k : Instr → Nat → Nat → Nat → List Nat → Prop} : xse (xFind tbX8_moves 17) k = k (.getfield 13) 9 6 2 [] := rfl
theorem tbX8_moves_20 {k : Instr → Nat → Nat → Nat → List Nat → Prop} : xse (xFind tbX8_moves 20) k = k (.iload_n 2) 2 0 0 [] := rfl
theorem tbX8_moves_21 {k : Instr → Nat → Nat → Nat → List Nat → Prop} : xse (xFind tbX8_moves 21) k = k (.iaload) 6 0 0 [] := rfl
theorem tbX8_moves_22 {k : Instr → Nat → Nat → Nat → List Nat → Prop} : xse (xFind tbX8_moves 22) k = k (.aload_n 0) 0 0 0 [] := rfl
theorem tbX8_moves_23 {k : Instr → Nat → Nat → Nat → List Nat → Prop} : xse (xFind tbX8_moves 23) k = k (.getfield 186) 9 2 0 [] := rfl
theorem tbX8_moves_26 {k : Instr → Nat → Nat → Nat → List Nat → Prop} : xse (xFind tbX8_moves 26) k = k (.iadd) 0 0 0 [] := rfl
theorem tbX8_moves_27 {k : Instr → Nat → Nat → Nat → List Nat → Prop} : xse (xFind tbX8_moves 27) k = k (.aload_n 0) 0 0 0 [] := rfl
theorem tbX8_moves_28 {k : Instr → Nat → Nat → Nat → List Nat → Prop} : xse (xFind tbX8_moves 28) k = k (.iload_n 1) 1 0 0 [] := rfl
theorem tbX8_moves_29 {k : Instr → Nat → Nat → Nat → List Nat → Prop} : xse (xFind tbX8_moves 29) k = k (.invokevirtual 278) 0 2 9 [] := rfl
theorem tbX8_moves_32 {k : Instr → Nat → Nat → Nat → List Nat → Prop} : xse (xFind tbX8_moves 32) k = k (.if_icmp .ge 11) 43 0 0 [] := rfl
theorem tbX8_moves_35 {k : Instr → Nat → Nat → Nat → List Nat → Prop} : xse (xFind tbX8_moves 35) k = k (.aload_n 0) 0 0 0 [] := rfl
theorem tbX8_moves_36 {k : Instr → Nat → Nat → Nat → List Nat → Prop} : xse (xFind tbX8_moves 36) k = k (.iload_n 1) 1 0 0 [] := rfl
theorem tbX8_moves_37 {k : Instr → Nat → Nat → Nat → List Nat → Prop} : xse (xFind tbX8_moves 37) k = k (.bipush 9) 0 0 0 [] := rfl
theorem tbX8_moves_39 {k : Instr → Nat → Nat → Nat → List Nat → Prop} : xse (xFind tbX8_moves 39) k = k (.invokevirtual 316) 1 3 9 [] := rfl
theorem tbX8_moves_42 {k : Instr → Nat → Nat → Nat → List Nat → Prop} : xse (xFind tbX8_moves 42) k = k (.return_) 0 0 0 [] := rfl
theorem tbX8_moves_43 {k : Instr → Nat → Nat → Nat → List Nat → Prop} : xse (xFind tbX8_moves 43) k = k (.aload_n 0) 0 0 0 [] := rfl
theorem tbX8_moves_44 {k : Instr → Nat → Nat → Nat → List Nat → Prop} : xse (xFind tbX8_moves 44) k = k (.getfield 98) 9 36 2 [] := rfl
theorem tbX8_moves_47 {k : Instr → Nat → Nat → Nat → List Nat → Prop} : xse (xFind tbX8_moves 47) k = k (.iload_n 1) 1 0 0 [] := rfl
theorem tbX8_moves_48 {k : Instr → Nat → Nat → Nat → List Nat → Prop} : xse (xFind tbX8_moves 48) k = k (.dup2) 0 0 0 [] := rfl
theorem tbX8_moves_49 {k : Instr → Nat → Nat → Nat → List Nat → Prop} : xse (xFind tbX8_moves 49) k = k (.iaload) 36 0 0 [] := rfl
theorem tbX8_moves_50 {k : Instr → Nat → Nat → Nat → List Nat → Prop} : xse (xFind tbX8_moves 50) k = k (.iconst 1) 0 0 0 [] := rfl
theorem tbX8_moves_51 {k : Instr → Nat → Nat → Nat → List Nat → Prop} : xse (xFind tbX8_moves 51) k = k (.isub) 0 0 0 [] := rfl
theorem tbX8_moves_52 {k : Instr → Nat → Nat → Nat → List Nat → Prop} : xse (xFind tbX8_moves 52) k = k (.iastore) 36 0 0 [] := rfl
theorem tbX8_moves_53 {k : Instr → Nat → Nat → Nat → List Nat → Prop} : xse (xFind tbX8_moves 53) k = k (.aload_n 0) 0 0 0 [] := rfl
theorem tbX8_moves_54 {k : Instr → Nat → Nat → Nat → List Nat → Prop} : xse (xFind tbX8_moves 54) k = k (.getfield 98) 9 36 2 [] := rfl
theorem tbX8_moves_57 {k : Instr → Nat → Nat → Nat → List Nat → Prop} : xse (xFind tbX8_moves 57) k = k (.iload_n 1) 1 0 0 [] := rfl
theorem tbX8_moves_58 {k : Instr → Nat → Nat → Nat → List Nat → Prop} : xse (xFind tbX8_moves 58) k = k (.iaload) 36 0 0 [] := rfl
theorem tbX8_moves_59 {k : Instr → Nat → Nat → Nat → List Nat → Prop} : xse (xFind tbX8_moves 59) k = k (.ifCond .ne 8) 67 0 0 [] := rfl
theorem tbX8_moves_62 {k : Instr → Nat → Nat → Nat → List Nat → Prop} : xse (xFind tbX8_moves 62) k = k (.aload_n 0) 0 0 0 [] := rfl
theorem tbX8_moves_63 {k : Instr → Nat → Nat → Nat → List Nat → Prop} : xse (xFind tbX8_moves 63) k = k (.iload_n 1) 1 0 0 [] := rfl
theorem tbX8_moves_64 {k : Instr → Nat → Nat → Nat → List Nat → Prop} : xse (xFind tbX8_moves 64) k = k (.invokevirtual 318) 2 2 9 [] := rfl
theorem tbX8_moves_67 {k : Instr → Nat → Nat → Nat → List Nat → Prop} : xse (xFind tbX8_moves 67) k = k (.return_) 0 0 0 [] := rfl

def spX8_moves (aM : Nat → Nat) : xSp mS := (fun av M => (0, 0), fun av M K => ∃ (b : Int32), av = [.ref (aM 0), .int b] ∧ (vp_in b 6 ∧ (M.1 29 = nI (nBt M) ∧ nBt M ≤ 6) ∧ vp_in (M.2 34 b.toNatClampNeg) 7 ∧ mTk M b.toNatClampNeg ∧ K rV (mMov M b.toNatClampNeg)))
theorem spcX8_moves {av : List Value} {M : mS} {aM : Nat → Nat} : (spX8_moves aM).1 av M = (0, 0) := rfl
theorem spwX8_moves {M : mS} {aM : Nat → Nat} {K : xRes → mS → Prop} {b : Int32} : (spX8_moves aM).2 [.ref (aM 0), .int b] M K = (vp_in b 6 ∧ (M.1 29 = nI (nBt M) ∧ nBt M ≤ 6) ∧ vp_in (M.2 34 b.toNatClampNeg) 7 ∧ mTk M b.toNatClampNeg ∧ K rV (mMov M b.toNatClampNeg)) :=
  propext ⟨fun h => by
    simp only [spX8_moves] at h
    obtain ⟨_, e, h⟩ := h
    simp only [List.cons.injEq, Value.int.injEq, Value.ref.injEq, rf_eq, and_true, true_and] at e
    obtain rfl := e
    exact h, fun h => ⟨_, rfl, h⟩⟩

def callX8_moves (aM : Nat → Nat) : Nat → Option (xSp mS) := fun n => match n with | 0 => some (spX8_draughtOf aM) | 1 => some (spX8_waits aM) | 2 => some (spX8_comes aM) | _ => none

theorem callX8_moves_0 {aM : Nat → Nat} {k : xSp mS → Prop} : xcs (callX8_moves aM 0) k = k (spX8_draughtOf aM) := rfl

theorem callX8_moves_1 {aM : Nat → Nat} {k : xSp mS → Prop} : xcs (callX8_moves aM 1) k = k (spX8_waits aM) := rfl

theorem callX8_moves_2 {aM : Nat → Nat} {k : xSp mS → Prop} : xcs (callX8_moves aM 2) k = k (spX8_comes aM) := rfl

theorem crX8_moves (l : Launch) (W9 : xWd) (aM : Nat → Nat) (hi : mInj aM) : xCallsOK l W9 (mI aM) (callX8_moves aM) clX8_moves RX8 wsX8_moves 1 24 3 := by
  intro E A p e R s m args below meth c hI hF hL X
  exact List.forall_mem_cons.mpr ⟨⟨_, rfl, xCR_V X (by rw [hI]; exact (semX8_draughtOf l W9 aM hi)) gX8_moves_X8_draughtOf rfl rfl (by decide +kernel) (by rw [hF, hL]; decide)⟩,
    List.forall_mem_cons.mpr ⟨⟨_, rfl, xCR_V X (by rw [hI]; exact (semX8_waits l W9 aM hi)) gX8_moves_X8_waits rfl rfl (by decide +kernel) (by rw [hF, hL]; decide)⟩,
    List.forall_mem_cons.mpr ⟨⟨_, rfl, xCR_V X (by rw [hI]; exact (semX8_comes l W9 aM hi)) gX8_moves_X8_comes rfl rfl (by decide +kernel) (by rw [hF, hL]; decide)⟩,
    fun _ h => nomatch h⟩⟩⟩

set_option maxHeartbeats 4000000 in
set_option maxRecDepth 20000 in
theorem semX8_moves (l : Launch) (W9 : xWd) (aM : Nat → Nat) (hi : mInj aM) : xSem l W9 (mI aM) yX8_moves wsX8_moves 1 24 (spX8_moves aM) := by
  refine xSem_of (call := callX8_moves aM) (thrf := fun _ => "") (mI_law hi) (by decide +kernel) rfl ckX8_moves usX8_moves (crX8_moves l W9 aM hi) xThrOK_nil ?_ ?_
  · intro av M KF h
    obtain ⟨b, rfl, h⟩ := h
    exact ⟨by intro v hv; simp only [List.mem_cons, List.not_mem_nil, or_false] at hv; rcases hv with rfl | rfl <;> first | rfl | exact cat_rf, Nat.le_of_ble_eq_true rfl⟩
  intro av M KF h G hG
  obtain ⟨b, rfl, h⟩ := h
  rw [show (spX8_moves aM).1 _ M = _ from spcX8_moves] at hG
  try dsimp only at hG
  change G 0 [some (.ref (aM 0)), some (.int b), none] [] M 0 0
  obtain ⟨h1, hn, h2, h3, h⟩ := h

  obtain ⟨w, hw, rfl⟩ := vp_in_of h1 (by omega)
  rw [ix_nI (by omega)] at *
  unfold mMov at h
  refine xgo0 hG (fun fu hfu => ?_)
  simp only [↓callX8_moves_0, ↓callX8_moves_1, ↓callX8_moves_2, kb_9, kc_9, ki_1, ↓ma_34, ↓ma_36, ↓ma_5, ↓ma_6, ↓mg_2, ↓mg_34, ↓mg_36, ↓mg_5, ↓mg_6, misa, ↓ms_36, ↓vm_aload_n, ↓vm_baload, ↓vm_bipush, ↓vm_dup2, ↓vm_getfield, ↓vm_iadd, ↓vm_iaload, ↓vm_iastore, ↓vm_iconst, ↓vm_ifCond_ne, ↓vm_if_icmp_ge, ↓vm_iload_n, ↓vm_invokevirtual, ↓vm_istore_n, ↓vm_isub, ↓vm_return_, ↓xc_2, ↓xc_3, ↓tbX8_moves_0, ↓tbX8_moves_1, ↓tbX8_moves_4, ↓tbX8_moves_5, ↓tbX8_moves_6, ↓tbX8_moves_7, ↓tbX8_moves_8, ↓tbX8_moves_11, ↓tbX8_moves_12, ↓tbX8_moves_13, ↓tbX8_moves_16, ↓tbX8_moves_17, ↓tbX8_moves_20, ↓tbX8_moves_21, ↓tbX8_moves_22, ↓tbX8_moves_23, ↓tbX8_moves_26, ↓tbX8_moves_27, ↓tbX8_moves_28, ↓tbX8_moves_29, ↓tbX8_moves_32, ↓tbX8_moves_35, ↓tbX8_moves_36, ↓tbX8_moves_37, ↓tbX8_moves_39, ↓tbX8_moves_42, ↓tbX8_moves_43, ↓tbX8_moves_44, ↓tbX8_moves_47, ↓tbX8_moves_48, ↓tbX8_moves_49, ↓tbX8_moves_50, ↓tbX8_moves_51, ↓tbX8_moves_52, ↓tbX8_moves_53, ↓tbX8_moves_54, ↓tbX8_moves_57, ↓tbX8_moves_58, ↓tbX8_moves_59, ↓tbX8_moves_62, ↓tbX8_moves_63, ↓tbX8_moves_64, ↓tbX8_moves_67, hfu, xstep0, xJ1_hit, xJ1_go, xJ2_hit1, xJ2_hit2, xJ2_go, ↓xif_t, ↓xif_f, seval, ↓xca_eq, ↓xre_l, ↓xre_r, xmask_t, xmask_f, xmask_nil, ↓xst_eq, xX_eq, eI_eq, eMc_eq, eMs_eq, eF_eq, eThr_eq, ↓xS1_mk, ↓xSI_mk, ↓xSR_mk, ↓xLI_0, ↓xLI_s, ↓xLR_0, ↓xLR_s, vRef_ref, vRef_null, vRef_rf, cat_int, cat_ref, cat_null, cat_rf, rf_some, rf_none, rf_null, rf_eq, rf_ref, ref_rf, ref_null, ref_ref, xOk_0, xOk_1, xOk_2r, xOk_2n, xOk_2f, vOpt_rf, vOpt_ref, vOpt_null, List.set_cons_zero, List.set_cons_succ, List.take_succ_cons, List.take_zero, List.drop_succ_cons, List.drop_zero, List.reverse_cons, List.reverse_nil, List.nil_append, List.cons_append, List.append_nil, List.length_cons, List.length_nil, List.map_cons, List.map_nil, List.sum_cons, List.sum_nil, Option.toList_some, Option.toList_none, xRecv_mk, true_and, and_true, true_implies, Nat.reduceAdd, Nat.reduceLeDiff, Nat.zero_le, Nat.le_refl, Nat.add_zero, Nat.zero_add, reduceIte, not_true_eq_false, not_false_eq_true, false_implies, and_self, implies_true, eq_self, Nat.reduceEqDiff, List.cons.injEq, xsn_1, xsn_2, false_and, and_false, or_false, false_or, or_true, true_or, xsn_3, xsn_4, mAst_1, mAst_2, mSet_1, mSet_2, bi_0, ↓spwX8_draughtOf, spcX8_draughtOf, ↓spwX8_waits, spcX8_waits, ↓spwX8_comes, spcX8_comes, h1, h2, h3, ix_nI (show w < 1000 by omega), in_9, nBt_ast]
  try simp only [xif_e]
  repeat' (first | with_reducible apply And.intro | with_reducible intro _)
  all_goals grind

def tbX8_enters : List (Nat × xHint) := [(0, .aload_n 0, 0, 0, 0, []), (1, .iload_n 1, 1, 0, 0, []), (2, .invokevirtual 294, 0, 2, 9, []), (5, .istore_n 2, 2, 0, 0, []), (6, .aload_n 0, 0, 0, 0, []), (7, .iload_n 1, 1, 0, 0, []), (8, .invokevirtual 291, 1, 2, 9, []), (11, .istore_n 3, 3, 0, 0, []), (12, .aload_n 0, 0, 0, 0, []), (13, .iload_n 2, 2, 0, 0, []), (14, .iload_n 1, 1, 0, 0, []), (15, .iload_n 3, 3, 0, 0, []), (16, .invokevirtual 301, 2, 4, 9, []), (19, .istore 4, 4, 0, 0, []), (21, .aload_n 0, 0, 0, 0, []), (22, .getfield 86, 9, 32, 2, []), (25, .iload_n 1, 1, 0, 0, []), (26, .dup2, 0, 0, 0, []), (27, .iaload, 32, 0, 0, []), (28, .aload_n 0, 0, 0, 0, []), (29, .getfield 80, 9, 30, 2, []), (32, .iload_n 1, 1, 0, 0, []), (33, .iaload, 30, 0, 0, []), (34, .iload 4, 4, 0, 0, []), (36, .imul, 0, 0, 0, []), (37, .isub, 0, 0, 0, []), (38, .iastore, 32, 0, 0, []), (39, .aload_n 0, 0, 0, 0, []), (40, .getfield 98, 9, 36, 2, []), (43, .iload_n 1, 1, 0, 0, []), (44, .iload 4, 4, 0, 0, []), (46, .iastore, 36, 0, 0, []), (47, .aload_n 0, 0, 0, 0, []), (48, .getfield 92, 9, 34, 2, []), (51, .iload_n 1, 1, 0, 0, []), (52, .iload_n 2, 2, 0, 0, []), (53, .iastore, 34, 0, 0, []), (54, .aload_n 0, 0, 0, 0, []), (55, .getfield 95, 9, 35, 2, []), (58, .iload_n 1, 1, 0, 0, []), (59, .iload_n 3, 3, 0, 0, []), (60, .bastore, 35, 0, 0, []), (61, .aload_n 0, 0, 0, 0, []), (62, .getfield 7, 9, 5, 2, []), (65, .iload_n 2, 2, 0, 0, []), (66, .baload, 5, 0, 0, []), (67, .ifCond .eq 38, 105, 0, 0, []), (70, .aload_n 0, 0, 0, 0, []), (71, .getfield 44, 9, 16, 2, []), (74, .iload_n 2, 2, 0, 0, []), (75, .aload_n 0, 0, 0, 0, []), (76, .getfield 41, 9, 15, 2, []), (79, .iload_n 2, 2, 0, 0, []), (80, .baload, 15, 0, 0, []), (81, .iload_n 3, 3, 0, 0, []), (82, .if_icmp .ne 14, 96, 0, 0, []), (85, .aload_n 0, 0, 0, 0, []), (86, .getfield 44, 9, 16, 2, []), (89, .iload_n 2, 2, 0, 0, []), (90, .iaload, 16, 0, 0, []), (91, .iconst 1, 0, 0, 0, []), (92, .iadd, 0, 0, 0, []), (93, .goto 4, 97, 0, 0, []), (96, .iconst 1, 0, 0, 0, []), (97, .iastore, 16, 0, 0, []), (98, .aload_n 0, 0, 0, 0, []), (99, .getfield 41, 9, 15, 2, []), (102, .iload_n 2, 2, 0, 0, []), (103, .iload_n 3, 3, 0, 0, []), (104, .bastore, 15, 0, 0, []), (105, .return_, 0, 0, 0, [])]
def clX8_enters : List (Instr × Nat × Nat × Nat) := [(.invokevirtual 294, 0, 2, 9), (.invokevirtual 291, 1, 2, 9), (.invokevirtual 301, 2, 4, 9)]
def thX8_enters : List (Nat × Nat) := []
theorem ckX8_enters : tbX8_enters.all (xRow RX8 cX8_enters wsX8_enters vwCl [9] clX8_enters thX8_enters 5 (yX8_enters.name == "<init>") none) = true := xRow_q 0xb1541d1c2900b42a4f040400a760042e1c2c00b42a0e00a01d331c2900b42a1c2c00b42a260099331c0700b42a541d1b5f00b42a4f1c1b5c00b42a4f04151b6200b42a4f646804152e1b5000b42a2e5c1b5600b42a04362d01b61d1b1c2a3e2301b61b2a3d2601b61b2a 106 (by decide +kernel) (by decide +kernel)
theorem usX8_enters : xUse wsX8_enters vwCl [9] = true := xUse_g rfl (lw_good lwl_X8_enters lwl_X80 (by decide +kernel)) xUse_n
theorem tbX8_enters_0 {k : Instr → Nat → Nat → Nat → List Nat → Prop} : xse (xFind tbX8_enters 0) k = k (.aload_n 0) 0 0 0 [] := rfl
theorem tbX8_enters_1 {k : Instr → Nat → Nat → Nat → List Nat → Prop} : xse (xFind tbX8_enters 1) k = k (.iload_n 1) 1 0 0 [] := rfl
theorem tbX8_enters_2 {k : Instr → Nat → Nat → Nat → List Nat → Prop} : xse (xFind tbX8_enters 2) k = k (.invokevirtual 294) 0 2 9 [] := rfl
theorem tbX8_enters_5 {k : Instr → Nat → Nat → Nat → List Nat → Prop} : xse (xFind tbX8_enters 5) k = k (.istore_n 2) 2 0 0 [] := rfl
theorem tbX8_enters_6 {k : Instr → Nat → Nat → Nat → List Nat → Prop} : xse (xFind tbX8_enters 6) k = k (.aload_n 0) 0 0 0 [] := rfl
theorem tbX8_enters_7 {k : Instr → Nat → Nat → Nat → List Nat → Prop} : xse (xFind tbX8_enters 7) k = k (.iload_n 1) 1 0 0 [] := rfl
theorem tbX8_enters_8 {k : Instr → Nat → Nat → Nat → List Nat → Prop} : xse (xFind tbX8_enters 8) k = k (.invokevirtual 291) 1 2 9 [] := rfl
theorem tbX8_enters_11 {k : Instr → Nat → Nat → Nat → List Nat → Prop} : xse (xFind tbX8_enters 11) k = k (.istore_n 3) 3 0 0 [] := rfl
theorem tbX8_enters_12 {k : Instr → Nat → Nat → Nat → List Nat → Prop} : xse (xFind tbX8_enters 12) k = k (.aload_n 0) 0 0 0 [] := rfl
theorem tbX8_enters_13 {k : Instr → Nat → Nat → Nat → List Nat → Prop} : xse (xFind tbX8_enters 13) k = k (.iload_n 2) 2 0 0 [] := rfl
theorem tbX8_enters_14 {k : Instr → Nat → Nat → Nat → List Nat → Prop} : xse (xFind tbX8_enters 14) k = k (.iload_n 1) 1 0 0 [] := rfl
theorem tbX8_enters_15 {k : Instr → Nat → Nat → Nat → List Nat → Prop} : xse (xFind tbX8_enters 15) k = k (.iload_n 3) 3 0 0 [] := rfl
theorem tbX8_enters_16 {k : Instr → Nat → Nat → Nat → List Nat → Prop} : xse (xFind tbX8_enters 16) k = k (.invokevirtual 301) 2 4 9 [] := rfl
theorem tbX8_enters_19 {k : Instr → Nat → Nat → Nat → List Nat → Prop} : xse (xFind tbX8_enters 19) k = k (.istore 4) 4 0 0 [] := rfl
theorem tbX8_enters_21 {k : Instr → Nat → Nat → Nat → List Nat → Prop} : xse (xFind tbX8_enters 21) k = k (.aload_n 0) 0 0 0 [] := rfl
theorem tbX8_enters_22 {k : Instr → Nat → Nat → Nat → List Nat → Prop} : xse (xFind tbX8_enters 22) k = k (.getfield 86) 9 32 2 [] := rfl
theorem tbX8_enters_25 {k : Instr → Nat → Nat → Nat → List Nat → Prop} : xse (xFind tbX8_enters 25) k = k (.iload_n 1) 1 0 0 [] := rfl
theorem tbX8_enters_26 {k : Instr → Nat → Nat → Nat → List Nat → Prop} : xse (xFind tbX8_enters 26) k = k (.dup2) 0 0 0 [] := rfl
theorem tbX8_enters_27 {k : Instr → Nat → Nat → Nat → List Nat → Prop} : xse (xFind tbX8_enters 27) k = k (.iaload) 32 0 0 [] := rfl
theorem tbX8_enters_28 {k : Instr → Nat → Nat → Nat → List Nat → Prop} : xse (xFind tbX8_enters 28) k = k (.aload_n 0) 0 0 0 [] := rfl
theorem tbX8_enters_29 {k : Instr → Nat → Nat → Nat → List Nat → Prop} : xse (xFind tbX8_enters 29) k = k (.getfield 80) 9 30 2 [] := rfl
theorem tbX8_enters_32 {k : Instr → Nat → Nat → Nat → List Nat → Prop} : xse (xFind tbX8_enters 32) k = k (.iload_n 1) 1 0 0 [] := rfl
theorem tbX8_enters_33 {k : Instr → Nat → Nat → Nat → List Nat → Prop} : xse (xFind tbX8_enters 33) k = k (.iaload) 30 0 0 [] := rfl
theorem tbX8_enters_34 {k : Instr → Nat → Nat → Nat → List Nat → Prop} : xse (xFind tbX8_enters 34) k = k (.iload 4) 4 0 0 [] := rfl
theorem tbX8_enters_36 {k : Instr → Nat → Nat → Nat → List Nat → Prop} : xse (xFind tbX8_enters 36) k = k (.imul) 0 0 0 [] := rfl
theorem tbX8_enters_37 {k : Instr → Nat → Nat → Nat → List Nat → Prop} : xse (xFind tbX8_enters 37) k = k (.isub) 0 0 0 [] := rfl
theorem tbX8_enters_38 {k : Instr → Nat → Nat → Nat → List Nat → Prop} : xse (xFind tbX8_enters 38) k = k (.iastore) 32 0 0 [] := rfl
theorem tbX8_enters_39 {k : Instr → Nat → Nat → Nat → List Nat → Prop} : xse (xFind tbX8_enters 39) k = k (.aload_n 0) 0 0 0 [] := rfl
theorem tbX8_enters_40 {k : Instr → Nat → Nat → Nat → List Nat → Prop} : xse (xFind tbX8_enters 40) k = k (.getfield 98) 9 36 2 [] := rfl
theorem tbX8_enters_43 {k : Instr → Nat → Nat → Nat → List Nat → Prop} : xse (xFind tbX8_enters 43) k = k (.iload_n 1) 1 0 0 [] := rfl
theorem tbX8_enters_44 {k : Instr → Nat → Nat → Nat → List Nat → Prop} : xse (xFind tbX8_enters 44) k = k (.iload 4) 4 0 0 [] := rfl
theorem tbX8_enters_46 {k : Instr → Nat → Nat → Nat → List Nat → Prop} : xse (xFind tbX8_enters 46) k = k (.iastore) 36 0 0 [] := rfl
theorem tbX8_enters_47 {k : Instr → Nat → Nat → Nat → List Nat → Prop} : xse (xFind tbX8_enters 47) k = k (.aload_n 0) 0 0 0 [] := rfl
theorem tbX8_enters_48 {k : Instr → Nat → Nat → Nat → List Nat → Prop} : xse (xFind tbX8_enters 48) k = k (.getfield 92) 9 34 2 [] := rfl
theorem tbX8_enters_51 {k : Instr → Nat → Nat → Nat → List Nat → Prop} : xse (xFind tbX8_enters 51) k = k (.iload_n 1) 1 0 0 [] := rfl
theorem tbX8_enters_52 {k : Instr → Nat → Nat → Nat → List Nat → Prop} : xse (xFind tbX8_enters 52) k = k (.iload_n 2) 2 0 0 [] := rfl
theorem tbX8_enters_53 {k : Instr → Nat → Nat → Nat → List Nat → Prop} : xse (xFind tbX8_enters 53) k = k (.iastore) 34 0 0 [] := rfl
theorem tbX8_enters_54 {k : Instr → Nat → Nat → Nat → List Nat → Prop} : xse (xFind tbX8_enters 54) k = k (.aload_n 0) 0 0 0 [] := rfl
theorem tbX8_enters_55 {k : Instr → Nat → Nat → Nat → List Nat → Prop} : xse (xFind tbX8_enters 55) k = k (.getfield 95) 9 35 2 [] := rfl
theorem tbX8_enters_58 {k : Instr → Nat → Nat → Nat → List Nat → Prop} : xse (xFind tbX8_enters 58) k = k (.iload_n 1) 1 0 0 [] := rfl
theorem tbX8_enters_59 {k : Instr → Nat → Nat → Nat → List Nat → Prop} : xse (xFind tbX8_enters 59) k = k (.iload_n 3) 3 0 0 [] := rfl
theorem tbX8_enters_60 {k : Instr → Nat → Nat → Nat → List Nat → Prop} : xse (xFind tbX8_enters 60) k = k (.bastore) 35 0 0 [] := rfl
theorem tbX8_enters_61 {k : Instr → Nat → Nat → Nat → List Nat → Prop} : xse (xFind tbX8_enters 61) k = k (.aload_n 0) 0 0 0 [] := rfl
theorem tbX8_enters_62 {k : Instr → Nat → Nat → Nat → List Nat → Prop} : xse (xFind tbX8_enters 62) k = k (.getfield 7) 9 5 2 [] := rfl
theorem tbX8_enters_65 {k : Instr → Nat → Nat → Nat → List Nat → Prop} : xse (xFind tbX8_enters 65) k = k (.iload_n 2) 2 0 0 [] := rfl
theorem tbX8_enters_66 {k : Instr → Nat → Nat → Nat → List Nat → Prop} : xse (xFind tbX8_enters 66) k = k (.baload) 5 0 0 [] := rfl
theorem tbX8_enters_67 {k : Instr → Nat → Nat → Nat → List Nat → Prop} : xse (xFind tbX8_enters 67) k = k (.ifCond .eq 38) 105 0 0 [] := rfl
theorem tbX8_enters_70 {k : Instr → Nat → Nat → Nat → List Nat → Prop} : xse (xFind tbX8_enters 70) k = k (.aload_n 0) 0 0 0 [] := rfl
theorem tbX8_enters_71 {k : Instr → Nat → Nat → Nat → List Nat → Prop} : xse (xFind tbX8_enters 71) k = k (.getfield 44) 9 16 2 [] := rfl
theorem tbX8_enters_74 {k : Instr → Nat → Nat → Nat → List Nat → Prop} : xse (xFind tbX8_enters 74) k = k (.iload_n 2) 2 0 0 [] := rfl
theorem tbX8_enters_75 {k : Instr → Nat → Nat → Nat → List Nat → Prop} : xse (xFind tbX8_enters 75) k = k (.aload_n 0) 0 0 0 [] := rfl
theorem tbX8_enters_76 {k : Instr → Nat → Nat → Nat → List Nat → Prop} : xse (xFind tbX8_enters 76) k = k (.getfield 41) 9 15 2 [] := rfl
theorem tbX8_enters_79 {k : Instr → Nat → Nat → Nat → List Nat → Prop} : xse (xFind tbX8_enters 79) k = k (.iload_n 2) 2 0 0 [] := rfl
theorem tbX8_enters_80 {k : Instr → Nat → Nat → Nat → List Nat → Prop} : xse (xFind tbX8_enters 80) k = k (.baload) 15 0 0 [] := rfl
theorem tbX8_enters_81 {k : Instr → Nat → Nat → Nat → List Nat → Prop} : xse (xFind tbX8_enters 81) k = k (.iload_n 3) 3 0 0 [] := rfl
theorem tbX8_enters_82 {k : Instr → Nat → Nat → Nat → List Nat → Prop} : xse (xFind tbX8_enters 82) k = k (.if_icmp .ne 14) 96 0 0 [] := rfl
theorem tbX8_enters_85 {k : Instr → Nat → Nat → Nat → List Nat → Prop} : xse (xFind tbX8_enters 85) k = k (.aload_n 0) 0 0 0 [] := rfl
theorem tbX8_enters_86 {k : Instr → Nat → Nat → Nat → List Nat → Prop} : xse (xFind tbX8_enters 86) k = k (.getfield 44) 9 16 2 [] := rfl
theorem tbX8_enters_89 {k : Instr → Nat → Nat → Nat → List Nat → Prop} : xse (xFind tbX8_enters 89) k = k (.iload_n 2) 2 0 0 [] := rfl
theorem tbX8_enters_90 {k : Instr → Nat → Nat → Nat → List Nat → Prop} : xse (xFind tbX8_enters 90) k = k (.iaload) 16 0 0 [] := rfl
theorem tbX8_enters_91 {k : Instr → Nat → Nat → Nat → List Nat → Prop} : xse (xFind tbX8_enters 91) k = k (.iconst 1) 0 0 0 [] := rfl
theorem tbX8_enters_92 {k : Instr → Nat → Nat → Nat → List Nat → Prop} : xse (xFind tbX8_enters 92) k = k (.iadd) 0 0 0 [] := rfl
theorem tbX8_enters_93 {k : Instr → Nat → Nat → Nat → List Nat → Prop} : xse (xFind tbX8_enters 93) k = k (.goto 4) 97 0 0 [] := rfl
theorem tbX8_enters_96 {k : Instr → Nat → Nat → Nat → List Nat → Prop} : xse (xFind tbX8_enters 96) k = k (.iconst 1) 0 0 0 [] := rfl
theorem tbX8_enters_97 {k : Instr → Nat → Nat → Nat → List Nat → Prop} : xse (xFind tbX8_enters 97) k = k (.iastore) 16 0 0 [] := rfl
theorem tbX8_enters_98 {k : Instr → Nat → Nat → Nat → List Nat → Prop} : xse (xFind tbX8_enters 98) k = k (.aload_n 0) 0 0 0 [] := rfl
theorem tbX8_enters_99 {k : Instr → Nat → Nat → Nat → List Nat → Prop} : xse (xFind tbX8_enters 99) k = k (.getfield 41) 9 15 2 [] := rfl
theorem tbX8_enters_102 {k : Instr → Nat → Nat → Nat → List Nat → Prop} : xse (xFind tbX8_enters 102) k = k (.iload_n 2) 2 0 0 [] := rfl
theorem tbX8_enters_103 {k : Instr → Nat → Nat → Nat → List Nat → Prop} : xse (xFind tbX8_enters 103) k = k (.iload_n 3) 3 0 0 [] := rfl
theorem tbX8_enters_104 {k : Instr → Nat → Nat → Nat → List Nat → Prop} : xse (xFind tbX8_enters 104) k = k (.bastore) 15 0 0 [] := rfl
theorem tbX8_enters_105 {k : Instr → Nat → Nat → Nat → List Nat → Prop} : xse (xFind tbX8_enters 105) k = k (.return_) 0 0 0 [] := rfl

def spX8_enters (aM : Nat → Nat) : xSp mS := (fun av M => (0, 0), fun av M K => ∃ (b : Int32), av = [.ref (aM 0), .int b] ∧ (vp_in b 6 ∧ vp_in (mNext M b) 7 ∧ K rV (mEnt M b.toNatClampNeg)))
theorem spcX8_enters {av : List Value} {M : mS} {aM : Nat → Nat} : (spX8_enters aM).1 av M = (0, 0) := rfl
theorem spwX8_enters {M : mS} {aM : Nat → Nat} {K : xRes → mS → Prop} {b : Int32} : (spX8_enters aM).2 [.ref (aM 0), .int b] M K = (vp_in b 6 ∧ vp_in (mNext M b) 7 ∧ K rV (mEnt M b.toNatClampNeg)) :=
  propext ⟨fun h => by
    simp only [spX8_enters] at h
    obtain ⟨_, e, h⟩ := h
    simp only [List.cons.injEq, Value.int.injEq, Value.ref.injEq, rf_eq, and_true, true_and] at e
    obtain rfl := e
    exact h, fun h => ⟨_, rfl, h⟩⟩

def callX8_enters (aM : Nat → Nat) : Nat → Option (xSp mS) := fun n => match n with | 0 => some (spX8_nextOf aM) | 1 => some (spX8_isUp aM) | 2 => some (spX8_hoursIn aM) | _ => none

theorem callX8_enters_0 {aM : Nat → Nat} {k : xSp mS → Prop} : xcs (callX8_enters aM 0) k = k (spX8_nextOf aM) := rfl

theorem callX8_enters_1 {aM : Nat → Nat} {k : xSp mS → Prop} : xcs (callX8_enters aM 1) k = k (spX8_isUp aM) := rfl

theorem callX8_enters_2 {aM : Nat → Nat} {k : xSp mS → Prop} : xcs (callX8_enters aM 2) k = k (spX8_hoursIn aM) := rfl

theorem crX8_enters (l : Launch) (W9 : xWd) (aM : Nat → Nat) (hi : mInj aM) : xCallsOK l W9 (mI aM) (callX8_enters aM) clX8_enters RX8 wsX8_enters 2 42 5 := by
  intro E A p e R s m args below meth c hI hF hL X
  exact List.forall_mem_cons.mpr ⟨⟨_, rfl, xCR_V X (by rw [hI]; exact (semX8_nextOf l W9 aM hi)) gX8_enters_X8_nextOf rfl rfl (by decide +kernel) (by rw [hF, hL]; decide)⟩,
    List.forall_mem_cons.mpr ⟨⟨_, rfl, xCR_V X (by rw [hI]; exact (semX8_isUp l W9 aM hi)) gX8_enters_X8_isUp rfl rfl (by decide +kernel) (by rw [hF, hL]; decide)⟩,
    List.forall_mem_cons.mpr ⟨⟨_, rfl, xCR_V X (by rw [hI]; exact (semX8_hoursIn l W9 aM hi)) gX8_enters_X8_hoursIn rfl rfl (by decide +kernel) (by rw [hF, hL]; decide)⟩,
    fun _ h => nomatch h⟩⟩⟩

set_option maxHeartbeats 4000000 in
set_option maxRecDepth 20000 in
theorem semX8_enters (l : Launch) (W9 : xWd) (aM : Nat → Nat) (hi : mInj aM) : xSem l W9 (mI aM) yX8_enters wsX8_enters 2 42 (spX8_enters aM) := by
  refine xSem_of (call := callX8_enters aM) (thrf := fun _ => "") (mI_law hi) (by decide +kernel) rfl ckX8_enters usX8_enters (crX8_enters l W9 aM hi) xThrOK_nil ?_ ?_
  · intro av M KF h
    obtain ⟨b, rfl, h⟩ := h
    exact ⟨by intro v hv; simp only [List.mem_cons, List.not_mem_nil, or_false] at hv; rcases hv with rfl | rfl <;> first | rfl | exact cat_rf, Nat.le_of_ble_eq_true rfl⟩
  intro av M KF h G hG
  obtain ⟨b, rfl, h⟩ := h
  rw [show (spX8_enters aM).1 _ M = _ from spcX8_enters] at hG
  try dsimp only at hG
  change G 0 [some (.ref (aM 0)), some (.int b), none, none, none] [] M 0 0
  obtain ⟨h1, h2, h⟩ := h

  obtain ⟨w, hw, rfl⟩ := vp_in_of h1 (by omega)
  have hu := mUp_01 M (nI w)
  have hu2 : bi (M.2 33 w < M.2 37 w) = mUp M (nI w) := by unfold mUp; rw [ix_nI (show w < 1000 by omega)]
  rw [ix_nI (show w < 1000 by omega)] at h
  unfold mEnt at h
  refine xgo0 hG (fun fu hfu => ?_)
  simp only [↓callX8_enters_0, ↓callX8_enters_1, ↓callX8_enters_2, ki_1, ↓ma_15, ↓ma_16, ↓ma_30, ↓ma_32, ↓ma_5, ↓mg_15, ↓mg_16, ↓mg_30, ↓mg_32, ↓mg_34, ↓mg_35, ↓mg_36, ↓mg_5, misa, ↓ms_15, ↓ms_16, ↓ms_32, ↓ms_34, ↓ms_35, ↓ms_36, ↓vm_aload_n, ↓vm_baload, ↓vm_bastore, ↓vm_dup2, ↓vm_getfield, ↓vm_goto, ↓vm_iadd, ↓vm_iaload, ↓vm_iastore, ↓vm_iconst, ↓vm_ifCond_eq, ↓vm_if_icmp_ne, ↓vm_iload, ↓vm_iload_n, ↓vm_imul, ↓vm_invokevirtual, ↓vm_istore, ↓vm_istore_n, ↓vm_isub, ↓vm_return_, ↓xc_2, ↓xc_4, ↓tbX8_enters_0, ↓tbX8_enters_1, ↓tbX8_enters_2, ↓tbX8_enters_5, ↓tbX8_enters_6, ↓tbX8_enters_7, ↓tbX8_enters_8, ↓tbX8_enters_11, ↓tbX8_enters_12, ↓tbX8_enters_13, ↓tbX8_enters_14, ↓tbX8_enters_15, ↓tbX8_enters_16, ↓tbX8_enters_19, ↓tbX8_enters_21, ↓tbX8_enters_22, ↓tbX8_enters_25, ↓tbX8_enters_26, ↓tbX8_enters_27, ↓tbX8_enters_28, ↓tbX8_enters_29, ↓tbX8_enters_32, ↓tbX8_enters_33, ↓tbX8_enters_34, ↓tbX8_enters_36, ↓tbX8_enters_37, ↓tbX8_enters_38, ↓tbX8_enters_39, ↓tbX8_enters_40, ↓tbX8_enters_43, ↓tbX8_enters_44, ↓tbX8_enters_46, ↓tbX8_enters_47, ↓tbX8_enters_48, ↓tbX8_enters_51, ↓tbX8_enters_52, ↓tbX8_enters_53, ↓tbX8_enters_54, ↓tbX8_enters_55, ↓tbX8_enters_58, ↓tbX8_enters_59, ↓tbX8_enters_60, ↓tbX8_enters_61, ↓tbX8_enters_62, ↓tbX8_enters_65, ↓tbX8_enters_66, ↓tbX8_enters_67, ↓tbX8_enters_70, ↓tbX8_enters_71, ↓tbX8_enters_74, ↓tbX8_enters_75, ↓tbX8_enters_76, ↓tbX8_enters_79, ↓tbX8_enters_80, ↓tbX8_enters_81, ↓tbX8_enters_82, ↓tbX8_enters_85, ↓tbX8_enters_86, ↓tbX8_enters_89, ↓tbX8_enters_90, ↓tbX8_enters_91, ↓tbX8_enters_92, ↓tbX8_enters_93, ↓tbX8_enters_96, ↓tbX8_enters_97, ↓tbX8_enters_98, ↓tbX8_enters_99, ↓tbX8_enters_102, ↓tbX8_enters_103, ↓tbX8_enters_104, ↓tbX8_enters_105, hfu, xstep0, xJ1_hit, xJ1_go, xJ2_hit1, xJ2_hit2, xJ2_go, ↓xif_t, ↓xif_f, seval, ↓xca_eq, ↓xre_l, ↓xre_r, xmask_t, xmask_f, xmask_nil, ↓xst_eq, xX_eq, eI_eq, eMc_eq, eMs_eq, eF_eq, eThr_eq, ↓xS1_mk, ↓xSI_mk, ↓xSR_mk, ↓xLI_0, ↓xLI_s, ↓xLR_0, ↓xLR_s, vRef_ref, vRef_null, vRef_rf, cat_int, cat_ref, cat_null, cat_rf, rf_some, rf_none, rf_null, rf_eq, rf_ref, ref_rf, ref_null, ref_ref, xOk_0, xOk_1, xOk_2r, xOk_2n, xOk_2f, vOpt_rf, vOpt_ref, vOpt_null, List.set_cons_zero, List.set_cons_succ, List.take_succ_cons, List.take_zero, List.drop_succ_cons, List.drop_zero, List.reverse_cons, List.reverse_nil, List.nil_append, List.cons_append, List.append_nil, List.length_cons, List.length_nil, List.map_cons, List.map_nil, List.sum_cons, List.sum_nil, Option.toList_some, Option.toList_none, xRecv_mk, true_and, and_true, true_implies, Nat.reduceAdd, Nat.reduceLeDiff, Nat.zero_le, Nat.le_refl, Nat.add_zero, Nat.zero_add, reduceIte, not_true_eq_false, not_false_eq_true, false_implies, and_self, implies_true, eq_self, Nat.reduceEqDiff, List.cons.injEq, xsn_1, xsn_2, false_and, and_false, or_false, false_or, or_true, true_or, xsn_3, xsn_4, mAst_1, mAst_2, mSet_1, mSet_2, bi_0, ↓spwX8_nextOf, spcX8_nextOf, ↓spwX8_isUp, spcX8_isUp, ↓spwX8_hoursIn, spcX8_hoursIn, h1, h2, ix_nI (show w < 1000 by omega), hu2]
  try simp only [xif_e]
  repeat' (first | with_reducible apply And.intro | with_reducible intro _)
  all_goals grind
