/-! The twin's methods: an hour, and to pass. -/
def mH0 (M : mS) : mS := mSet (mSet M 1 (M.1 1 + 1)) 2 (if M.1 1 + 1 - (M.1 1 + 1) / 24 * 24 = 0 then mHeld (M.1 2 - M.1 3) else M.1 2)
def mH1 (M : mS) : Nat → mS
  | 0 => M
  | k + 1 => mAst (mAst (mH1 M k) 39 k (if (mH1 M k).2 31 k < (mH1 M k).2 39 k then (mH1 M k).2 39 k - (mH1 M k).2 31 k else 0)) 43 k 0
def mH2 (M : mS) : Nat → mS
  | 0 => M
  | k + 1 => if (mH2 M k).2 34 k = -1 then mH2 M k else mMov (mH2 M k) k
def mHour (M : mS) : mS := mSts (mSts (mH2 (mH1 (mH0 M) (nBt M)) (nBt M)) 0 (nBt M)) 1 (nBt M)
theorem mH1_1 (M : mS) : ∀ k, (mH1 M k).1 = M.1
  | 0 => rfl
  | k + 1 => mH1_1 M k
theorem mH2_1 (M : mS) : ∀ k, (mH2 M k).1 = M.1
  | 0 => rfl
  | k + 1 => by
    show (if (mH2 M k).2 34 k = -1 then mH2 M k else mMov (mH2 M k) k).1 = _
    split
    · exact mH2_1 M k
    · exact (mMov_1 _ k).trans (mH2_1 M k)
theorem mH0_29 (M : mS) : (mH0 M).1 29 = M.1 29 := by simp [mH0, mSet_1]
theorem nBt_eq {M N : mS} (h : N.1 29 = M.1 29) : nBt N = nBt M := by unfold nBt; rw [h]
theorem mOK_set {M : mS} {k : Nat} {x : Int32} (h : mOKh M) (hk : k ≠ 29) : mOKh (mSet M k x) := by
  have e : (mSet M k x).1 29 = M.1 29 := by simp [mSet_1, Ne.symm hk]
  have en : nBt (mSet M k x) = nBt M := nBt_eq e
  exact ⟨by rw [en, e]; exact h.1, fun w hw => h.2.1 w (by rw [en] at hw; exact hw), h.2.2⟩
theorem mOK_h0 {M : mS} (h : mOKh M) : mOKh (mH0 M) := mOK_set (mOK_set h (by omega)) (by omega)
theorem mOK_h1 {M : mS} (h : mOKh M) : ∀ k, mOKh (mH1 M k)
  | 0 => h
  | k + 1 => mOK_ast (mOK_ast (mOK_h1 h k) (by decide)) (by decide)
theorem mOKw_sec {M : mS} {w : Nat} (h : mOKw M w) (hs : ¬ M.2 34 w = -1) : vp_in (M.2 34 w) 7 := h.2.2.2.2.resolve_left (fun q => hs q.1)
theorem mOK_h2 {M : mS} (h : mOKh M) : ∀ k, k ≤ nBt M → mOKh (mH2 M k)
  | 0, _ => h
  | k + 1, hk => by
    have ih := mOK_h2 h k (by omega)
    have en : nBt (mH2 M k) = nBt M := nBt_eq (by rw [mH2_1])
    show mOKh (if (mH2 M k).2 34 k = -1 then mH2 M k else mMov (mH2 M k) k)
    split
    · exact ih
    · rename_i c
      exact mOK_mov ih (by rw [en]; exact hk) (mOKw_sec (ih.2.1 k (by rw [en]; exact hk)) c)
theorem mHour_29 (M : mS) : (mHour M).1 29 = M.1 29 := by
  unfold mHour
  rw [mSts_1, mSts_1, mH2_1, mH1_1, mH0_29]
theorem mOK_hour {M : mS} (h : mOKh M) : mOKh (mHour M) := by
  have e0 : nBt (mH0 M) = nBt M := nBt_eq (mH0_29 M)
  have e1 : nBt (mH1 (mH0 M) (nBt M)) = nBt M := (nBt_eq (by rw [mH1_1])).trans e0
  have e2 : nBt (mH2 (mH1 (mH0 M) (nBt M)) (nBt M)) = nBt M := (nBt_eq (by rw [mH2_1])).trans e1
  have e3 : nBt (mSts (mH2 (mH1 (mH0 M) (nBt M)) (nBt M)) 0 (nBt M)) = nBt M := (nBt_eq (by rw [mSts_1])).trans e2
  exact mOK_sts (mOK_sts (mOK_h2 (mOK_h1 (mOK_h0 h) _) _ (by rw [e1]; omega)) _ (by rw [e2]; omega)) _ (by rw [e3]; omega)

def tbX8_hour : List (Nat × xHint) := [(0, .aload_n 0, 0, 0, 0, []), (1, .dup, 0, 0, 0, []), (2, .getfield 228, 9, 1, 0, []), (5, .iconst 1, 0, 0, 0, []), (6, .iadd, 0, 0, 0, []), (7, .putfield 228, 9, 1, 0, []), (10, .aload_n 0, 0, 0, 0, []), (11, .aload_n 0, 0, 0, 0, []), (12, .getfield 228, 9, 1, 0, []), (15, .bipush 24, 0, 0, 0, []), (17, .irem, 0, 0, 0, []), (18, .ifCond .ne 18, 36, 0, 0, []), (21, .aload_n 0, 0, 0, 0, []), (22, .getfield 186, 9, 2, 0, []), (25, .aload_n 0, 0, 0, 0, []), (26, .getfield 189, 9, 3, 0, []), (29, .isub, 0, 0, 0, []), (30, .invokestatic 328, 0, 1, 0, []), (33, .goto 7, 40, 0, 0, []), (36, .aload_n 0, 0, 0, 0, []), (37, .getfield 186, 9, 2, 0, []), (40, .putfield 186, 9, 2, 0, []), (43, .iconst 0, 0, 0, 0, []), (44, .istore_n 1, 1, 0, 0, []), (45, .iload_n 1, 1, 0, 0, []), (46, .aload_n 0, 0, 0, 0, []), (47, .getfield 170, 9, 29, 0, []), (50, .if_icmp .ge 54, 104, 0, 0, []), (53, .aload_n 0, 0, 0, 0, []), (54, .getfield 107, 9, 39, 2, []), (57, .iload_n 1, 1, 0, 0, []), (58, .aload_n 0, 0, 0, 0, []), (59, .getfield 107, 9, 39, 2, []), (62, .iload_n 1, 1, 0, 0, []), (63, .iaload, 39, 0, 0, []), (64, .aload_n 0, 0, 0, 0, []), (65, .getfield 83, 9, 31, 2, []), (68, .iload_n 1, 1, 0, 0, []), (69, .iaload, 31, 0, 0, []), (70, .if_icmp .le 19, 89, 0, 0, []), (73, .aload_n 0, 0, 0, 0, []), (74, .getfield 107, 9, 39, 2, []), (77, .iload_n 1, 1, 0, 0, []), (78, .iaload, 39, 0, 0, []), (79, .aload_n 0, 0, 0, 0, []), (80, .getfield 83, 9, 31, 2, []), (83, .iload_n 1, 1, 0, 0, []), (84, .iaload, 31, 0, 0, []), (85, .isub, 0, 0, 0, []), (86, .goto 4, 90, 0, 0, []), (89, .iconst 0, 0, 0, 0, []), (90, .iastore, 39, 0, 0, []), (91, .aload_n 0, 0, 0, 0, []), (92, .getfield 119, 9, 43, 2, []), (95, .iload_n 1, 1, 0, 0, []), (96, .iconst 0, 0, 0, 0, []), (97, .iastore, 43, 0, 0, []), (98, .iinc 1 1, 1, 0, 0, []), (101, .goto (-56), 45, 0, 0, []), (104, .iconst 0, 0, 0, 0, []), (105, .istore_n 1, 1, 0, 0, []), (106, .iload_n 1, 1, 0, 0, []), (107, .aload_n 0, 0, 0, 0, []), (108, .getfield 170, 9, 29, 0, []), (111, .if_icmp .ge 22, 133, 0, 0, []), (114, .aload_n 0, 0, 0, 0, []), (115, .iload_n 1, 1, 0, 0, []), (116, .invokevirtual 250, 1, 2, 9, []), (119, .ifCond .ne 8, 127, 0, 0, []), (122, .aload_n 0, 0, 0, 0, []), (123, .iload_n 1, 1, 0, 0, []), (124, .invokevirtual 331, 2, 2, 9, []), (127, .iinc 1 1, 1, 0, 0, []), (130, .goto (-24), 106, 0, 0, []), (133, .aload_n 0, 0, 0, 0, []), (134, .iconst 0, 0, 0, 0, []), (135, .invokevirtual 334, 3, 2, 9, []), (138, .aload_n 0, 0, 0, 0, []), (139, .iconst 1, 0, 0, 0, []), (140, .invokevirtual 334, 3, 2, 9, []), (143, .return_, 0, 0, 0, [])]
def clX8_hour : List (Instr × Nat × Nat × Nat) := [(.invokestatic 328, 0, 1, 0), (.invokevirtual 250, 1, 2, 9), (.invokevirtual 331, 2, 2, 9), (.invokevirtual 334, 3, 2, 9)]
def thX8_hour : List (Nat × Nat) := []
theorem ckX8_hour : tbX8_hour.all (xRow RX8 cX8_hour wsX8_hour vwCl [9] clX8_hour thX8_hour 2 (yX8_hour.name == "<init>") none) = true := xRow_q 0xb14e01b6042a4e01b6032ae8ffa70101844b01b61b2a08009afa00b61b2a1600a2aa00b42a1b3c03c8ffa70101844f031b7700b42a4f030400a7642e1b5300b42a2e1b6b00b42a1300a42e1b5300b42a2e1b6b00b42a1b6b00b42a3600a2aa00b42a1b3c03ba00b5ba00b42a0700a74801b864bd00b42aba00b42a12009a701810e400b42a2ae400b56004e400b4592a 144 (by decide +kernel) (by decide +kernel)
theorem usX8_hour : xUse wsX8_hour vwCl [9] = true := xUse_g rfl (lw_good lwl_X8_hour lwl_X80 (by decide +kernel)) xUse_n
theorem tbX8_hour_0 {k : Instr → Nat → Nat → Nat → List Nat → Prop} : xse (xFind tbX8_hour 0) k = k (.aload_n 0) 0 0 0 [] := rfl
theorem tbX8_hour_1 {k : Instr → Nat → Nat → Nat → List Nat → Prop} : xse (xFind tbX8_hour 1) k = k (.dup) 0 0 0 [] := rfl
theorem tbX8_hour_2 {k : Instr → Nat → Nat → Nat → List Nat → Prop} : xse (xFind tbX8_hour 2) k = k (.getfield 228) 9 1 0 [] := rfl
theorem tbX8_hour_5 {k : Instr → Nat → Nat → Nat → List Nat → Prop} : xse (xFind tbX8_hour 5) k = k (.iconst 1) 0 0 0 [] := rfl
theorem tbX8_hour_6 {k : Instr → Nat → Nat → Nat → List Nat → Prop} : xse (xFind tbX8_hour 6) k = k (.iadd) 0 0 0 [] := rfl
theorem tbX8_hour_7 {k : Instr → Nat → Nat → Nat → List Nat → Prop} : xse (xFind tbX8_hour 7) k = k (.putfield 228) 9 1 0 [] := rfl
theorem tbX8_hour_10 {k : Instr → Nat → Nat → Nat → List Nat → Prop} : xse (xFind tbX8_hour 10) k = k (.aload_n 0) 0 0 0 [] := rfl
theorem tbX8_hour_11 {k : Instr → Nat → Nat → Nat → List Nat → Prop} : xse (xFind tbX8_hour 11) k = k (.aload_n 0) 0 0 0 [] := rfl
theorem tbX8_hour_12 {k : Instr → Nat → Nat → Nat → List Nat → Prop} : xse (xFind tbX8_hour 12) k = k (.getfield 228) 9 1 0 [] := rfl
theorem tbX8_hour_15 {k : Instr → Nat → Nat → Nat → List Nat → Prop} : xse (xFind tbX8_hour 15) k = k (.bipush 24) 0 0 0 [] := rfl
theorem tbX8_hour_17 {k : Instr → Nat → Nat → Nat → List Nat → Prop} : xse (xFind tbX8_hour 17) k = k (.irem) 0 0 0 [] := rfl
theorem tbX8_hour_18 {k : Instr → Nat → Nat → Nat → List Nat → Prop} : xse (xFind tbX8_hour 18) k = k (.ifCond .ne 18) 36 0 0 [] := rfl
theorem tbX8_hour_21 {k : Instr → Nat → Nat → Nat → List Nat → Prop} : xse (xFind tbX8_hour 21) k = k (.aload_n 0) 0 0 0 [] := rfl
theorem tbX8_hour_22 {k : Instr → Nat → Nat → Nat → List Nat → Prop} : xse (xFind tbX8_hour 22) k = k (.getfield 186) 9 2 0 [] := rfl
theorem tbX8_hour_25 {k : Instr → Nat → Nat → Nat → List Nat → Prop} : xse (xFind tbX8_hour 25) k = k (.aload_n 0) 0 0 0 [] := rfl
theorem tbX8_hour_26 {k : Instr → Nat → Nat → Nat → List Nat → Prop} : xse (xFind tbX8_hour 26) k = k (.getfield 189) 9 3 0 [] := rfl
theorem tbX8_hour_29 {k : Instr → Nat → Nat → Nat → List Nat → Prop} : xse (xFind tbX8_hour 29) k = k (.isub) 0 0 0 [] := rfl
theorem tbX8_hour_30 {k : Instr → Nat → Nat → Nat → List Nat → Prop} : xse (xFind tbX8_hour 30) k = k (.invokestatic 328) 0 1 0 [] := rfl
theorem tbX8_hour_33 {k : Instr → Nat → Nat → Nat → List Nat → Prop} : xse (xFind tbX8_hour 33) k = k (.goto 7) 40 0 0 [] := rfl
theorem tbX8_hour_36 {k : Instr → Nat → Nat → Nat → List Nat → Prop} : xse (xFind tbX8_hour 36) k = k (.aload_n 0) 0 0 0 [] := rfl
theorem tbX8_hour_37 {k : Instr → Nat → Nat → Nat → List Nat → Prop} : xse (xFind tbX8_hour 37) k = k (.getfield 186) 9 2 0 [] := rfl
theorem tbX8_hour_40 {k : Instr → Nat → Nat → Nat → List Nat → Prop} : xse (xFind tbX8_hour 40) k = k (.putfield 186) 9 2 0 [] := rfl
theorem tbX8_hour_43 {k : Instr → Nat → Nat → Nat → List Nat → Prop} : xse (xFind tbX8_hour 43) k = k (.iconst 0) 0 0 0 [] := rfl
theorem tbX8_hour_44 {k : Instr → Nat → Nat → Nat → List Nat → Prop} : xse (xFind tbX8_hour 44) k = k (.istore_n 1) 1 0 0 [] := rfl
theorem tbX8_hour_45 {k : Instr → Nat → Nat → Nat → List Nat → Prop} : xse (xFind tbX8_hour 45) k = k (.iload_n 1) 1 0 0 [] := rfl
theorem tbX8_hour_46 {k : Instr → Nat → Nat → Nat → List Nat → Prop} : xse (xFind tbX8_hour 46) k = k (.aload_n 0) 0 0 0 [] := rfl
theorem tbX8_hour_47 {k : Instr → Nat → Nat → Nat → List Nat → Prop} : xse (xFind tbX8_hour 47) k = k (.getfield 170) 9 29 0 [] := rfl
theorem tbX8_hour_50 {k : Instr → Nat → Nat → Nat → List Nat → Prop} : xse (xFind tbX8_hour 50) k = k (.if_icmp .ge 54) 104 0 0 [] := rfl
theorem tbX8_hour_53 {k : Instr → Nat → Nat → Nat → List Nat → Prop} : xse (xFind tbX8_hour 53) k = k (.aload_n 0) 0 0 0 [] := rfl
theorem tbX8_hour_54 {k : Instr → Nat → Nat → Nat → List Nat → Prop} : xse (xFind tbX8_hour 54) k = k (.getfield 107) 9 39 2 [] := rfl
theorem tbX8_hour_57 {k : Instr → Nat → Nat → Nat → List Nat → Prop} : xse (xFind tbX8_hour 57) k = k (.iload_n 1) 1 0 0 [] := rfl
theorem tbX8_hour_58 {k : Instr → Nat → Nat → Nat → List Nat → Prop} : xse (xFind tbX8_hour 58) k = k (.aload_n 0) 0 0 0 [] := rfl
theorem tbX8_hour_59 {k : Instr → Nat → Nat → Nat → List Nat → Prop} : xse (xFind tbX8_hour 59) k = k (.getfield 107) 9 39 2 [] := rfl
theorem tbX8_hour_62 {k : Instr → Nat → Nat → Nat → List Nat → Prop} : xse (xFind tbX8_hour 62) k = k (.iload_n 1) 1 0 0 [] := rfl
theorem tbX8_hour_63 {k : Instr → Nat → Nat → Nat → List Nat → Prop} : xse (xFind tbX8_hour 63) k = k (.iaload) 39 0 0 [] := rfl
theorem tbX8_hour_64 {k : Instr → Nat → Nat → Nat → List Nat → Prop} : xse (xFind tbX8_hour 64) k = k (.aload_n 0) 0 0 0 [] := rfl
theorem tbX8_hour_65 {k : Instr → Nat → Nat → Nat → List Nat → Prop} : xse (xFind tbX8_hour 65) k = k (.getfield 83) 9 31 2 [] := rfl
theorem tbX8_hour_68 {k : Instr → Nat → Nat → Nat → List Nat → Prop} : xse (xFind tbX8_hour 68) k = k (.iload_n 1) 1 0 0 [] := rfl
theorem tbX8_hour_69 {k : Instr → Nat → Nat → Nat → List Nat → Prop} : xse (xFind tbX8_hour 69) k = k (.iaload) 31 0 0 [] := rfl
theorem tbX8_hour_70 {k : Instr → Nat → Nat → Nat → List Nat → Prop} : xse (xFind tbX8_hour 70) k = k (.if_icmp .le 19) 89 0 0 [] := rfl
theorem tbX8_hour_73 {k : Instr → Nat → Nat → Nat → List Nat → Prop} : xse (xFind tbX8_hour 73) k = k (.aload_n 0) 0 0 0 [] := rfl
theorem tbX8_hour_74 {k : Instr → Nat → Nat → Nat → List Nat → Prop} : xse (xFind tbX8_hour 74) k = k (.getfield 107) 9 39 2 [] := rfl
theorem tbX8_hour_77 {k : Instr → Nat → Nat → Nat → List Nat → Prop} : xse (xFind tbX8_hour 77) k = k (.iload_n 1) 1 0 0 [] := rfl
theorem tbX8_hour_78 {k : Instr → Nat → Nat → Nat → List Nat → Prop} : xse (xFind tbX8_hour 78) k = k (.iaload) 39 0 0 [] := rfl
theorem tbX8_hour_79 {k : Instr → Nat → Nat → Nat → List Nat → Prop} : xse (xFind tbX8_hour 79) k = k (.aload_n 0) 0 0 0 [] := rfl
theorem tbX8_hour_80 {k : Instr → Nat → Nat → Nat → List Nat → Prop} : xse (xFind tbX8_hour 80) k = k (.getfield 83) 9 31 2 [] := rfl
theorem tbX8_hour_83 {k : Instr → Nat → Nat → Nat → List Nat → Prop} : xse (xFind tbX8_hour 83) k = k (.iload_n 1) 1 0 0 [] := rfl
theorem tbX8_hour_84 {k : Instr → Nat → Nat → Nat → List Nat → Prop} : xse (xFind tbX8_hour 84) k = k (.iaload) 31 0 0 [] := rfl
theorem tbX8_hour_85 {k : Instr → Nat → Nat → Nat → List Nat → Prop} : xse (xFind tbX8_hour 85) k = k (.isub) 0 0 0 [] := rfl
theorem tbX8_hour_86 {k : Instr → Nat → Nat → Nat → List Nat → Prop} : xse (xFind tbX8_hour 86) k = k (.goto 4) 90 0 0 [] := rfl
theorem tbX8_hour_89 {k : Instr → Nat → Nat → Nat → List Nat → Prop} : xse (xFind tbX8_hour 89) k = k (.iconst 0) 0 0 0 [] := rfl
theorem tbX8_hour_90 {k : Instr → Nat → Nat → Nat → List Nat → Prop} : xse (xFind tbX8_hour 90) k = k (.iastore) 39 0 0 [] := rfl
theorem tbX8_hour_91 {k : Instr → Nat → Nat → Nat → List Nat → Prop} : xse (xFind tbX8_hour 91) k = k (.aload_n 0) 0 0 0 [] := rfl
theorem tbX8_hour_92 {k : Instr → Nat → Nat → Nat → List Nat → Prop} : xse (xFind tbX8_hour 92) k = k (.getfield 119) 9 43 2 [] := rfl
theorem tbX8_hour_95 {k : Instr → Nat → Nat → Nat → List Nat → Prop} : xse (xFind tbX8_hour 95) k = k (.iload_n 1) 1 0 0 [] := rfl
theorem tbX8_hour_96 {k : Instr → Nat → Nat → Nat → List Nat → Prop} : xse (xFind tbX8_hour 96) k = k (.iconst 0) 0 0 0 [] := rfl
theorem tbX8_hour_97 {k : Instr → Nat → Nat → Nat → List Nat → Prop} : xse (xFind tbX8_hour 97) k = k (.iastore) 43 0 0 [] := rfl
theorem tbX8_hour_98 {k : Instr → Nat → Nat → Nat → List Nat → Prop} : xse (xFind tbX8_hour 98) k = k (.iinc 1 1) 1 0 0 [] := rfl
theorem tbX8_hour_101 {k : Instr → Nat → Nat → Nat → List Nat → Prop} : xse (xFind tbX8_hour 101) k = k (.goto (-56)) 45 0 0 [] := rfl
theorem tbX8_hour_104 {k : Instr → Nat → Nat → Nat → List Nat → Prop} : xse (xFind tbX8_hour 104) k = k (.iconst 0) 0 0 0 [] := rfl
theorem tbX8_hour_105 {k : Instr → Nat → Nat → Nat → List Nat → Prop} : xse (xFind tbX8_hour 105) k = k (.istore_n 1) 1 0 0 [] := rfl
theorem tbX8_hour_106 {k : Instr → Nat → Nat → Nat → List Nat → Prop} : xse (xFind tbX8_hour 106) k = k (.iload_n 1) 1 0 0 [] := rfl
theorem tbX8_hour_107 {k : Instr → Nat → Nat → Nat → List Nat → Prop} : xse (xFind tbX8_hour 107) k = k (.aload_n 0) 0 0 0 [] := rfl
theorem tbX8_hour_108 {k : Instr → Nat → Nat → Nat → List Nat → Prop} : xse (xFind tbX8_hour 108) k = k (.getfield 170) 9 29 0 [] := rfl
theorem tbX8_hour_111 {k : Instr → Nat → Nat → Nat → List Nat → Prop} : xse (xFind tbX8_hour 111) k = k (.if_icmp .ge 22) 133 0 0 [] := rfl
theorem tbX8_hour_114 {k : Instr → Nat → Nat → Nat → List Nat → Prop} : xse (xFind tbX8_hour 114) k = k (.aload_n 0) 0 0 0 [] := rfl
theorem tbX8_hour_115 {k : Instr → Nat → Nat → Nat → List Nat → Prop} : xse (xFind tbX8_hour 115) k = k (.iload_n 1) 1 0 0 [] := rfl
theorem tbX8_hour_116 {k : Instr → Nat → Nat → Nat → List Nat → Prop} : xse (xFind tbX8_hour 116) k = k (.invokevirtual 250) 1 2 9 [] := rfl
theorem tbX8_hour_119 {k : Instr → Nat → Nat → Nat → List Nat → Prop} : xse (xFind tbX8_hour 119) k = k (.ifCond .ne 8) 127 0 0 [] := rfl
theorem tbX8_hour_122 {k : Instr → Nat → Nat → Nat → List Nat → Prop} : xse (xFind tbX8_hour 122) k = k (.aload_n 0) 0 0 0 [] := rfl
theorem tbX8_hour_123 {k : Instr → Nat → Nat → Nat → List Nat → Prop} : xse (xFind tbX8_hour 123) k = k (.iload_n 1) 1 0 0 [] := rfl
theorem tbX8_hour_124 {k : Instr → Nat → Nat → Nat → List Nat → Prop} : xse (xFind tbX8_hour 124) k = k (.invokevirtual 331) 2 2 9 [] := rfl
theorem tbX8_hour_127 {k : Instr → Nat → Nat → Nat → List Nat → Prop} : xse (xFind tbX8_hour 127) k = k (.iinc 1 1) 1 0 0 [] := rfl
theorem tbX8_hour_130 {k : Instr → Nat → Nat → Nat → List Nat → Prop} : xse (xFind tbX8_hour 130) k = k (.goto (-24)) 106 0 0 [] := rfl
theorem tbX8_hour_133 {k : Instr → Nat → Nat → Nat → List Nat → Prop} : xse (xFind tbX8_hour 133) k = k (.aload_n 0) 0 0 0 [] := rfl
theorem tbX8_hour_134 {k : Instr → Nat → Nat → Nat → List Nat → Prop} : xse (xFind tbX8_hour 134) k = k (.iconst 0) 0 0 0 [] := rfl
theorem tbX8_hour_135 {k : Instr → Nat → Nat → Nat → List Nat → Prop} : xse (xFind tbX8_hour 135) k = k (.invokevirtual 334) 3 2 9 [] := rfl
theorem tbX8_hour_138 {k : Instr → Nat → Nat → Nat → List Nat → Prop} : xse (xFind tbX8_hour 138) k = k (.aload_n 0) 0 0 0 [] := rfl
theorem tbX8_hour_139 {k : Instr → Nat → Nat → Nat → List Nat → Prop} : xse (xFind tbX8_hour 139) k = k (.iconst 1) 0 0 0 [] := rfl
theorem tbX8_hour_140 {k : Instr → Nat → Nat → Nat → List Nat → Prop} : xse (xFind tbX8_hour 140) k = k (.invokevirtual 334) 3 2 9 [] := rfl
theorem tbX8_hour_143 {k : Instr → Nat → Nat → Nat → List Nat → Prop} : xse (xFind tbX8_hour 143) k = k (.return_) 0 0 0 [] := rfl

def spX8_hour (aM : Nat → Nat) : xSp mS := (fun av M => (0, 0), fun av M K => av = [.ref (aM 0)] ∧ (mOKh M ∧ K rV (mHour M)))
theorem spcX8_hour {av : List Value} {M : mS} {aM : Nat → Nat} : (spX8_hour aM).1 av M = (0, 0) := rfl
theorem spwX8_hour {M : mS} {aM : Nat → Nat} {K : xRes → mS → Prop}  : (spX8_hour aM).2 [.ref (aM 0)] M K = (mOKh M ∧ K rV (mHour M)) :=
  propext ⟨fun h => by
    simp only [spX8_hour] at h
    obtain ⟨e, h⟩ := h
    
    
    exact h, fun h => ⟨rfl, h⟩⟩

def callX8_hour (aM : Nat → Nat) : Nat → Option (xSp mS) := fun n => match n with | 0 => some (spX8_held aM) | 1 => some (spX8_stands aM) | 2 => some (spX8_moves aM) | 3 => some (spX8_starts aM) | _ => none

theorem callX8_hour_0 {aM : Nat → Nat} {k : xSp mS → Prop} : xcs (callX8_hour aM 0) k = k (spX8_held aM) := rfl

theorem callX8_hour_1 {aM : Nat → Nat} {k : xSp mS → Prop} : xcs (callX8_hour aM 1) k = k (spX8_stands aM) := rfl

theorem callX8_hour_2 {aM : Nat → Nat} {k : xSp mS → Prop} : xcs (callX8_hour aM 2) k = k (spX8_moves aM) := rfl

theorem callX8_hour_3 {aM : Nat → Nat} {k : xSp mS → Prop} : xcs (callX8_hour aM 3) k = k (spX8_starts aM) := rfl

theorem crX8_hour (l : Launch) (W9 : xWd) (aM : Nat → Nat) (hi : mInj aM) : xCallsOK l W9 (mI aM) (callX8_hour aM) clX8_hour RX8 wsX8_hour 7 166 2 := by
  intro E A p e R s m args below meth c hI hF hL X
  exact List.forall_mem_cons.mpr ⟨⟨_, rfl, xCR_S X (by rw [hI]; exact (semX8_held l W9 aM hi)) gX8_hour_X8_held rfl (by decide +kernel) (by rw [hF, hL]; decide)⟩,
    List.forall_mem_cons.mpr ⟨⟨_, rfl, xCR_V X (by rw [hI]; exact (semX8_stands l W9 aM hi)) gX8_hour_X8_stands rfl rfl (by decide +kernel) (by rw [hF, hL]; decide)⟩,
    List.forall_mem_cons.mpr ⟨⟨_, rfl, xCR_V X (by rw [hI]; exact (semX8_moves l W9 aM hi)) gX8_hour_X8_moves rfl rfl (by decide +kernel) (by rw [hF, hL]; decide)⟩,
    List.forall_mem_cons.mpr ⟨⟨_, rfl, xCR_V X (by rw [hI]; exact (semX8_starts l W9 aM hi)) gX8_hour_X8_starts rfl rfl (by decide +kernel) (by rw [hF, hL]; decide)⟩,
    fun _ h => nomatch h⟩⟩⟩⟩

set_option maxHeartbeats 4000000 in
set_option maxRecDepth 20000 in
theorem semX8_hour (l : Launch) (W9 : xWd) (aM : Nat → Nat) (hi : mInj aM) : xSem l W9 (mI aM) yX8_hour wsX8_hour 7 166 (spX8_hour aM) := by
  refine xSem_of (call := callX8_hour aM) (thrf := fun _ => "") (mI_law hi) (by decide +kernel) rfl ckX8_hour usX8_hour (crX8_hour l W9 aM hi) xThrOK_nil ?_ ?_
  · intro av M KF h
    obtain ⟨rfl, h⟩ := h
    exact ⟨by intro v hv; simp only [List.mem_cons, List.not_mem_nil, or_false] at hv; rcases hv with rfl <;> first | rfl | exact cat_rf, Nat.le_of_ble_eq_true rfl⟩
  intro av M KF h G hG
  obtain ⟨rfl, h⟩ := h
  rw [show (spX8_hour aM).1 _ M = _ from spcX8_hour] at hG
  try dsimp only at hG
  change G 0 [some (.ref (aM 0)), none] [] M 0 0
  obtain ⟨hO, h⟩ := h

  have hn := hO.1.1
  have hn6 := hO.1.2
  have e0 : nBt (mH0 M) = nBt M := nBt_eq (mH0_29 M)
  have o0 := mOK_h0 hO
  have o1 := fun k => mOK_h1 o0 k
  have n1 : ∀ k, (mH1 (mH0 M) k).1 29 = nI (nBt M) := fun k => by rw [mH1_1, mH0_29]; exact hn
  have e1 : nBt (mH1 (mH0 M) (nBt M)) = nBt M := (nBt_eq (by rw [mH1_1])).trans e0
  have o2 := fun k hk => mOK_h2 (o1 (nBt M)) k (by rw [e1]; exact hk)
  have n2 : ∀ k, (mH2 (mH1 (mH0 M) (nBt M)) k).1 29 = nI (nBt M) := fun k => by rw [mH2_1]; exact n1 _
  have e2 : ∀ k, nBt (mH2 (mH1 (mH0 M) (nBt M)) k) = nBt M := fun k => (nBt_eq (by rw [mH2_1])).trans e1
  have o3 : mOKh (mSts (mH2 (mH1 (mH0 M) (nBt M)) (nBt M)) 0 (nBt M)) := mOK_sts (o2 _ (Nat.le_refl _)) _ (by rw [e2]; omega)
  have e3 : nBt (mSts (mH2 (mH1 (mH0 M) (nBt M)) (nBt M)) 0 (nBt M)) = nBt M := (nBt_eq (by rw [mSts_1])).trans (e2 _)
  have oF := o2 _ (Nat.le_refl _)
  unfold mHour at h
  generalize hnn : nBt M = n at *
  have l2 := xloop hG 106 [true, true] (fun j lv st S cs ss => lv = [some (.ref (aM 0)), some (.int (nI j))] ∧ st = [] ∧ mH2 (mH1 (mH0 M) n) j = S ∧ cs = 0 ∧ ss = 0) n (by
      rintro j hj lv st S cs ss ⟨rfl, rfl, rfl, rfl, rfl⟩ fu hfu
      have h1 := xin_nI (show j < 6 by omega) (show 6 ≤ 1000 by omega)
      have oj := o2 j (by omega)
      have ow := oj.2.1 j (by rw [e2]; exact hj)
      have hT := ow.1
      have hstep : mH2 (mH1 (mH0 M) n) (j + 1) = if (mH2 (mH1 (mH0 M) n) j).2 34 j = -1 then mH2 (mH1 (mH0 M) n) j else mMov (mH2 (mH1 (mH0 M) n) j) j := rfl
      by_cases c : (mH2 (mH1 (mH0 M) n) j).2 34 j = -1
      · rw [if_pos c] at hstep
        simp only [↓callX8_hour_0, ↓callX8_hour_1, ↓callX8_hour_2, ↓callX8_hour_3, kb_24, kc_24, ki_0, ki_1, ↓ma_31, ↓ma_39, ↓mg_1, ↓mg_2, ↓mg_29, ↓mg_3, ↓mg_31, ↓mg_39, ↓mg_43, misa, ↓mp_1, ↓mp_2, ↓ms_39, ↓ms_43, ↓vm_aload_n, ↓vm_bipush, ↓vm_dup, ↓vm_getfield, ↓vm_goto, ↓vm_iadd, ↓vm_iaload, ↓vm_iastore, ↓vm_iconst, ↓vm_ifCond_ne, ↓vm_if_icmp_ge, ↓vm_if_icmp_le, ↓vm_iinc, ↓vm_iload_n, ↓vm_invokestatic, ↓vm_invokevirtual, ↓vm_irem, ↓vm_istore_n, ↓vm_isub, ↓vm_putfield, ↓vm_return_, ↓xc_1, ↓xc_2, ↓tbX8_hour_0, ↓tbX8_hour_1, ↓tbX8_hour_2, ↓tbX8_hour_5, ↓tbX8_hour_6, ↓tbX8_hour_7, ↓tbX8_hour_10, ↓tbX8_hour_11, ↓tbX8_hour_12, ↓tbX8_hour_15, ↓tbX8_hour_17, ↓tbX8_hour_18, ↓tbX8_hour_21, ↓tbX8_hour_22, ↓tbX8_hour_25, ↓tbX8_hour_26, ↓tbX8_hour_29, ↓tbX8_hour_30, ↓tbX8_hour_33, ↓tbX8_hour_36, ↓tbX8_hour_37, ↓tbX8_hour_40, ↓tbX8_hour_43, ↓tbX8_hour_44, ↓tbX8_hour_45, ↓tbX8_hour_46, ↓tbX8_hour_47, ↓tbX8_hour_50, ↓tbX8_hour_53, ↓tbX8_hour_54, ↓tbX8_hour_57, ↓tbX8_hour_58, ↓tbX8_hour_59, ↓tbX8_hour_62, ↓tbX8_hour_63, ↓tbX8_hour_64, ↓tbX8_hour_65, ↓tbX8_hour_68, ↓tbX8_hour_69, ↓tbX8_hour_70, ↓tbX8_hour_73, ↓tbX8_hour_74, ↓tbX8_hour_77, ↓tbX8_hour_78, ↓tbX8_hour_79, ↓tbX8_hour_80, ↓tbX8_hour_83, ↓tbX8_hour_84, ↓tbX8_hour_85, ↓tbX8_hour_86, ↓tbX8_hour_89, ↓tbX8_hour_90, ↓tbX8_hour_91, ↓tbX8_hour_92, ↓tbX8_hour_95, ↓tbX8_hour_96, ↓tbX8_hour_97, ↓tbX8_hour_98, ↓tbX8_hour_101, ↓tbX8_hour_104, ↓tbX8_hour_105, ↓tbX8_hour_106, ↓tbX8_hour_107, ↓tbX8_hour_108, ↓tbX8_hour_111, ↓tbX8_hour_114, ↓tbX8_hour_115, ↓tbX8_hour_116, ↓tbX8_hour_119, ↓tbX8_hour_122, ↓tbX8_hour_123, ↓tbX8_hour_124, ↓tbX8_hour_127, ↓tbX8_hour_130, ↓tbX8_hour_133, ↓tbX8_hour_134, ↓tbX8_hour_135, ↓tbX8_hour_138, ↓tbX8_hour_139, ↓tbX8_hour_140, ↓tbX8_hour_143, hfu, xstep0, xJ1_hit, xJ1_go, xJ2_hit1, xJ2_hit2, xJ2_go, ↓xif_t, ↓xif_f, seval, ↓xca_eq, ↓xre_l, ↓xre_r, xmask_t, xmask_f, xmask_nil, ↓xst_eq, xX_eq, eI_eq, eMc_eq, eMs_eq, eF_eq, eThr_eq, ↓xS1_mk, ↓xSI_mk, ↓xSR_mk, ↓xLI_0, ↓xLI_s, ↓xLR_0, ↓xLR_s, vRef_ref, vRef_null, vRef_rf, cat_int, cat_ref, cat_null, cat_rf, rf_some, rf_none, rf_null, rf_eq, rf_ref, ref_rf, ref_null, ref_ref, xOk_0, xOk_1, xOk_2r, xOk_2n, xOk_2f, vOpt_rf, vOpt_ref, vOpt_null, List.set_cons_zero, List.set_cons_succ, List.take_succ_cons, List.take_zero, List.drop_succ_cons, List.drop_zero, List.reverse_cons, List.reverse_nil, List.nil_append, List.cons_append, List.append_nil, List.length_cons, List.length_nil, List.map_cons, List.map_nil, List.sum_cons, List.sum_nil, Option.toList_some, Option.toList_none, xRecv_mk, true_and, and_true, true_implies, Nat.reduceAdd, Nat.reduceLeDiff, Nat.zero_le, Nat.le_refl, Nat.add_zero, Nat.zero_add, reduceIte, not_true_eq_false, not_false_eq_true, false_implies, and_self, implies_true, eq_self, Nat.reduceEqDiff, List.cons.injEq, xsn_1, xsn_2, false_and, and_false, or_false, false_or, or_true, true_or, xsn_3, xsn_4, mAst_1, mAst_2, mSet_1, mSet_2, bi_0, ↓spwX8_held, spcX8_held, ↓spwX8_stands, spcX8_stands, ↓spwX8_moves, spcX8_moves, ↓spwX8_starts, spcX8_starts, n2, ge_nI hj (show n < 1000 by omega), h1, ix_nI (show j < 1000 by omega), c, nI1, hstep]
        try simp only [xif_e]
      · rw [if_neg c] at hstep
        have hs := mOKw_sec ow c
        simp only [↓callX8_hour_0, ↓callX8_hour_1, ↓callX8_hour_2, ↓callX8_hour_3, kb_24, kc_24, ki_0, ki_1, ↓ma_31, ↓ma_39, ↓mg_1, ↓mg_2, ↓mg_29, ↓mg_3, ↓mg_31, ↓mg_39, ↓mg_43, misa, ↓mp_1, ↓mp_2, ↓ms_39, ↓ms_43, ↓vm_aload_n, ↓vm_bipush, ↓vm_dup, ↓vm_getfield, ↓vm_goto, ↓vm_iadd, ↓vm_iaload, ↓vm_iastore, ↓vm_iconst, ↓vm_ifCond_ne, ↓vm_if_icmp_ge, ↓vm_if_icmp_le, ↓vm_iinc, ↓vm_iload_n, ↓vm_invokestatic, ↓vm_invokevirtual, ↓vm_irem, ↓vm_istore_n, ↓vm_isub, ↓vm_putfield, ↓vm_return_, ↓xc_1, ↓xc_2, ↓tbX8_hour_0, ↓tbX8_hour_1, ↓tbX8_hour_2, ↓tbX8_hour_5, ↓tbX8_hour_6, ↓tbX8_hour_7, ↓tbX8_hour_10, ↓tbX8_hour_11, ↓tbX8_hour_12, ↓tbX8_hour_15, ↓tbX8_hour_17, ↓tbX8_hour_18, ↓tbX8_hour_21, ↓tbX8_hour_22, ↓tbX8_hour_25, ↓tbX8_hour_26, ↓tbX8_hour_29, ↓tbX8_hour_30, ↓tbX8_hour_33, ↓tbX8_hour_36, ↓tbX8_hour_37, ↓tbX8_hour_40, ↓tbX8_hour_43, ↓tbX8_hour_44, ↓tbX8_hour_45, ↓tbX8_hour_46, ↓tbX8_hour_47, ↓tbX8_hour_50, ↓tbX8_hour_53, ↓tbX8_hour_54, ↓tbX8_hour_57, ↓tbX8_hour_58, ↓tbX8_hour_59, ↓tbX8_hour_62, ↓tbX8_hour_63, ↓tbX8_hour_64, ↓tbX8_hour_65, ↓tbX8_hour_68, ↓tbX8_hour_69, ↓tbX8_hour_70, ↓tbX8_hour_73, ↓tbX8_hour_74, ↓tbX8_hour_77, ↓tbX8_hour_78, ↓tbX8_hour_79, ↓tbX8_hour_80, ↓tbX8_hour_83, ↓tbX8_hour_84, ↓tbX8_hour_85, ↓tbX8_hour_86, ↓tbX8_hour_89, ↓tbX8_hour_90, ↓tbX8_hour_91, ↓tbX8_hour_92, ↓tbX8_hour_95, ↓tbX8_hour_96, ↓tbX8_hour_97, ↓tbX8_hour_98, ↓tbX8_hour_101, ↓tbX8_hour_104, ↓tbX8_hour_105, ↓tbX8_hour_106, ↓tbX8_hour_107, ↓tbX8_hour_108, ↓tbX8_hour_111, ↓tbX8_hour_114, ↓tbX8_hour_115, ↓tbX8_hour_116, ↓tbX8_hour_119, ↓tbX8_hour_122, ↓tbX8_hour_123, ↓tbX8_hour_124, ↓tbX8_hour_127, ↓tbX8_hour_130, ↓tbX8_hour_133, ↓tbX8_hour_134, ↓tbX8_hour_135, ↓tbX8_hour_138, ↓tbX8_hour_139, ↓tbX8_hour_140, ↓tbX8_hour_143, hfu, xstep0, xJ1_hit, xJ1_go, xJ2_hit1, xJ2_hit2, xJ2_go, ↓xif_t, ↓xif_f, seval, ↓xca_eq, ↓xre_l, ↓xre_r, xmask_t, xmask_f, xmask_nil, ↓xst_eq, xX_eq, eI_eq, eMc_eq, eMs_eq, eF_eq, eThr_eq, ↓xS1_mk, ↓xSI_mk, ↓xSR_mk, ↓xLI_0, ↓xLI_s, ↓xLR_0, ↓xLR_s, vRef_ref, vRef_null, vRef_rf, cat_int, cat_ref, cat_null, cat_rf, rf_some, rf_none, rf_null, rf_eq, rf_ref, ref_rf, ref_null, ref_ref, xOk_0, xOk_1, xOk_2r, xOk_2n, xOk_2f, vOpt_rf, vOpt_ref, vOpt_null, List.set_cons_zero, List.set_cons_succ, List.take_succ_cons, List.take_zero, List.drop_succ_cons, List.drop_zero, List.reverse_cons, List.reverse_nil, List.nil_append, List.cons_append, List.append_nil, List.length_cons, List.length_nil, List.map_cons, List.map_nil, List.sum_cons, List.sum_nil, Option.toList_some, Option.toList_none, xRecv_mk, true_and, and_true, true_implies, Nat.reduceAdd, Nat.reduceLeDiff, Nat.zero_le, Nat.le_refl, Nat.add_zero, Nat.zero_add, reduceIte, not_true_eq_false, not_false_eq_true, false_implies, and_self, implies_true, eq_self, Nat.reduceEqDiff, List.cons.injEq, xsn_1, xsn_2, false_and, and_false, or_false, false_or, or_true, true_or, xsn_3, xsn_4, mAst_1, mAst_2, mSet_1, mSet_2, bi_0, ↓spwX8_held, spcX8_held, ↓spwX8_stands, spcX8_stands, ↓spwX8_moves, spcX8_moves, ↓spwX8_starts, spcX8_starts, n2, e2, hn6, ge_nI hj (show n < 1000 by omega), h1, ix_nI (show j < 1000 by omega), c, hs, hT, nI1, hstep]) (by
      rintro lv st S cs ss ⟨rfl, rfl, rfl, rfl, rfl⟩ fu hfu
      simp only [↓callX8_hour_0, ↓callX8_hour_1, ↓callX8_hour_2, ↓callX8_hour_3, kb_24, kc_24, ki_0, ki_1, ↓ma_31, ↓ma_39, ↓mg_1, ↓mg_2, ↓mg_29, ↓mg_3, ↓mg_31, ↓mg_39, ↓mg_43, misa, ↓mp_1, ↓mp_2, ↓ms_39, ↓ms_43, ↓vm_aload_n, ↓vm_bipush, ↓vm_dup, ↓vm_getfield, ↓vm_goto, ↓vm_iadd, ↓vm_iaload, ↓vm_iastore, ↓vm_iconst, ↓vm_ifCond_ne, ↓vm_if_icmp_ge, ↓vm_if_icmp_le, ↓vm_iinc, ↓vm_iload_n, ↓vm_invokestatic, ↓vm_invokevirtual, ↓vm_irem, ↓vm_istore_n, ↓vm_isub, ↓vm_putfield, ↓vm_return_, ↓xc_1, ↓xc_2, ↓tbX8_hour_0, ↓tbX8_hour_1, ↓tbX8_hour_2, ↓tbX8_hour_5, ↓tbX8_hour_6, ↓tbX8_hour_7, ↓tbX8_hour_10, ↓tbX8_hour_11, ↓tbX8_hour_12, ↓tbX8_hour_15, ↓tbX8_hour_17, ↓tbX8_hour_18, ↓tbX8_hour_21, ↓tbX8_hour_22, ↓tbX8_hour_25, ↓tbX8_hour_26, ↓tbX8_hour_29, ↓tbX8_hour_30, ↓tbX8_hour_33, ↓tbX8_hour_36, ↓tbX8_hour_37, ↓tbX8_hour_40, ↓tbX8_hour_43, ↓tbX8_hour_44, ↓tbX8_hour_45, ↓tbX8_hour_46, ↓tbX8_hour_47, ↓tbX8_hour_50, ↓tbX8_hour_53, ↓tbX8_hour_54, ↓tbX8_hour_57, ↓tbX8_hour_58, ↓tbX8_hour_59, ↓tbX8_hour_62, ↓tbX8_hour_63, ↓tbX8_hour_64, ↓tbX8_hour_65, ↓tbX8_hour_68, ↓tbX8_hour_69, ↓tbX8_hour_70, ↓tbX8_hour_73, ↓tbX8_hour_74, ↓tbX8_hour_77, ↓tbX8_hour_78, ↓tbX8_hour_79, ↓tbX8_hour_80, ↓tbX8_hour_83, ↓tbX8_hour_84, ↓tbX8_hour_85, ↓tbX8_hour_86, ↓tbX8_hour_89, ↓tbX8_hour_90, ↓tbX8_hour_91, ↓tbX8_hour_92, ↓tbX8_hour_95, ↓tbX8_hour_96, ↓tbX8_hour_97, ↓tbX8_hour_98, ↓tbX8_hour_101, ↓tbX8_hour_104, ↓tbX8_hour_105, ↓tbX8_hour_106, ↓tbX8_hour_107, ↓tbX8_hour_108, ↓tbX8_hour_111, ↓tbX8_hour_114, ↓tbX8_hour_115, ↓tbX8_hour_116, ↓tbX8_hour_119, ↓tbX8_hour_122, ↓tbX8_hour_123, ↓tbX8_hour_124, ↓tbX8_hour_127, ↓tbX8_hour_130, ↓tbX8_hour_133, ↓tbX8_hour_134, ↓tbX8_hour_135, ↓tbX8_hour_138, ↓tbX8_hour_139, ↓tbX8_hour_140, ↓tbX8_hour_143, hfu, xstep0, xJ1_hit, xJ1_go, xJ2_hit1, xJ2_hit2, xJ2_go, ↓xif_t, ↓xif_f, seval, ↓xca_eq, ↓xre_l, ↓xre_r, xmask_t, xmask_f, xmask_nil, ↓xst_eq, xX_eq, eI_eq, eMc_eq, eMs_eq, eF_eq, eThr_eq, ↓xS1_mk, ↓xSI_mk, ↓xSR_mk, ↓xLI_0, ↓xLI_s, ↓xLR_0, ↓xLR_s, vRef_ref, vRef_null, vRef_rf, cat_int, cat_ref, cat_null, cat_rf, rf_some, rf_none, rf_null, rf_eq, rf_ref, ref_rf, ref_null, ref_ref, xOk_0, xOk_1, xOk_2r, xOk_2n, xOk_2f, vOpt_rf, vOpt_ref, vOpt_null, List.set_cons_zero, List.set_cons_succ, List.take_succ_cons, List.take_zero, List.drop_succ_cons, List.drop_zero, List.reverse_cons, List.reverse_nil, List.nil_append, List.cons_append, List.append_nil, List.length_cons, List.length_nil, List.map_cons, List.map_nil, List.sum_cons, List.sum_nil, Option.toList_some, Option.toList_none, xRecv_mk, true_and, and_true, true_implies, Nat.reduceAdd, Nat.reduceLeDiff, Nat.zero_le, Nat.le_refl, Nat.add_zero, Nat.zero_add, reduceIte, not_true_eq_false, not_false_eq_true, false_implies, and_self, implies_true, eq_self, Nat.reduceEqDiff, List.cons.injEq, xsn_1, xsn_2, false_and, and_false, or_false, false_or, or_true, true_or, xsn_3, xsn_4, mAst_1, mAst_2, mSet_1, mSet_2, bi_0, ↓spwX8_held, spcX8_held, ↓spwX8_stands, spcX8_stands, ↓spwX8_moves, spcX8_moves, ↓spwX8_starts, spcX8_starts, n2, le_nI_self, oF, e2, o3, e3]
      try simp only [xif_e]
      exact h)
  have l1 := xloop2 hG 45 [true, true] (fun j lv st S cs ss => lv = [some (.ref (aM 0)), some (.int (nI j))] ∧ st = [] ∧ mH1 (mH0 M) j = S ∧ cs = 0 ∧ ss = 0) n 106 [true, true] _ (l2 0 (Nat.zero_le _)) (by
      rintro j hj lv st S cs ss ⟨rfl, rfl, rfl, rfl, rfl⟩ fu hfu
      have h1 := xin_nI (show j < 6 by omega) (show 6 ≤ 1000 by omega)
      have hstep : mH1 (mH0 M) (j + 1) = mAst (mAst (mH1 (mH0 M) j) 39 j (if (mH1 (mH0 M) j).2 31 j < (mH1 (mH0 M) j).2 39 j then (mH1 (mH0 M) j).2 39 j - (mH1 (mH0 M) j).2 31 j else 0)) 43 j 0 := rfl
      by_cases c : (mH1 (mH0 M) j).2 31 j < (mH1 (mH0 M) j).2 39 j
      · rw [if_pos c] at hstep
        have c2 : ¬ (mH1 (mH0 M) j).2 39 j ≤ (mH1 (mH0 M) j).2 31 j := fun q => Int32.lt_irrefl (Int32.lt_of_lt_of_le c q)
        simp only [↓callX8_hour_0, ↓callX8_hour_1, ↓callX8_hour_2, ↓callX8_hour_3, kb_24, kc_24, ki_0, ki_1, ↓ma_31, ↓ma_39, ↓mg_1, ↓mg_2, ↓mg_29, ↓mg_3, ↓mg_31, ↓mg_39, ↓mg_43, misa, ↓mp_1, ↓mp_2, ↓ms_39, ↓ms_43, ↓vm_aload_n, ↓vm_bipush, ↓vm_dup, ↓vm_getfield, ↓vm_goto, ↓vm_iadd, ↓vm_iaload, ↓vm_iastore, ↓vm_iconst, ↓vm_ifCond_ne, ↓vm_if_icmp_ge, ↓vm_if_icmp_le, ↓vm_iinc, ↓vm_iload_n, ↓vm_invokestatic, ↓vm_invokevirtual, ↓vm_irem, ↓vm_istore_n, ↓vm_isub, ↓vm_putfield, ↓vm_return_, ↓xc_1, ↓xc_2, ↓tbX8_hour_0, ↓tbX8_hour_1, ↓tbX8_hour_2, ↓tbX8_hour_5, ↓tbX8_hour_6, ↓tbX8_hour_7, ↓tbX8_hour_10, ↓tbX8_hour_11, ↓tbX8_hour_12, ↓tbX8_hour_15, ↓tbX8_hour_17, ↓tbX8_hour_18, ↓tbX8_hour_21, ↓tbX8_hour_22, ↓tbX8_hour_25, ↓tbX8_hour_26, ↓tbX8_hour_29, ↓tbX8_hour_30, ↓tbX8_hour_33, ↓tbX8_hour_36, ↓tbX8_hour_37, ↓tbX8_hour_40, ↓tbX8_hour_43, ↓tbX8_hour_44, ↓tbX8_hour_45, ↓tbX8_hour_46, ↓tbX8_hour_47, ↓tbX8_hour_50, ↓tbX8_hour_53, ↓tbX8_hour_54, ↓tbX8_hour_57, ↓tbX8_hour_58, ↓tbX8_hour_59, ↓tbX8_hour_62, ↓tbX8_hour_63, ↓tbX8_hour_64, ↓tbX8_hour_65, ↓tbX8_hour_68, ↓tbX8_hour_69, ↓tbX8_hour_70, ↓tbX8_hour_73, ↓tbX8_hour_74, ↓tbX8_hour_77, ↓tbX8_hour_78, ↓tbX8_hour_79, ↓tbX8_hour_80, ↓tbX8_hour_83, ↓tbX8_hour_84, ↓tbX8_hour_85, ↓tbX8_hour_86, ↓tbX8_hour_89, ↓tbX8_hour_90, ↓tbX8_hour_91, ↓tbX8_hour_92, ↓tbX8_hour_95, ↓tbX8_hour_96, ↓tbX8_hour_97, ↓tbX8_hour_98, ↓tbX8_hour_101, ↓tbX8_hour_104, ↓tbX8_hour_105, ↓tbX8_hour_106, ↓tbX8_hour_107, ↓tbX8_hour_108, ↓tbX8_hour_111, ↓tbX8_hour_114, ↓tbX8_hour_115, ↓tbX8_hour_116, ↓tbX8_hour_119, ↓tbX8_hour_122, ↓tbX8_hour_123, ↓tbX8_hour_124, ↓tbX8_hour_127, ↓tbX8_hour_130, ↓tbX8_hour_133, ↓tbX8_hour_134, ↓tbX8_hour_135, ↓tbX8_hour_138, ↓tbX8_hour_139, ↓tbX8_hour_140, ↓tbX8_hour_143, hfu, xstep0, xJ1_hit, xJ1_go, xJ2_hit1, xJ2_hit2, xJ2_go, ↓xif_t, ↓xif_f, seval, ↓xca_eq, ↓xre_l, ↓xre_r, xmask_t, xmask_f, xmask_nil, ↓xst_eq, xX_eq, eI_eq, eMc_eq, eMs_eq, eF_eq, eThr_eq, ↓xS1_mk, ↓xSI_mk, ↓xSR_mk, ↓xLI_0, ↓xLI_s, ↓xLR_0, ↓xLR_s, vRef_ref, vRef_null, vRef_rf, cat_int, cat_ref, cat_null, cat_rf, rf_some, rf_none, rf_null, rf_eq, rf_ref, ref_rf, ref_null, ref_ref, xOk_0, xOk_1, xOk_2r, xOk_2n, xOk_2f, vOpt_rf, vOpt_ref, vOpt_null, List.set_cons_zero, List.set_cons_succ, List.take_succ_cons, List.take_zero, List.drop_succ_cons, List.drop_zero, List.reverse_cons, List.reverse_nil, List.nil_append, List.cons_append, List.append_nil, List.length_cons, List.length_nil, List.map_cons, List.map_nil, List.sum_cons, List.sum_nil, Option.toList_some, Option.toList_none, xRecv_mk, true_and, and_true, true_implies, Nat.reduceAdd, Nat.reduceLeDiff, Nat.zero_le, Nat.le_refl, Nat.add_zero, Nat.zero_add, reduceIte, not_true_eq_false, not_false_eq_true, false_implies, and_self, implies_true, eq_self, Nat.reduceEqDiff, List.cons.injEq, xsn_1, xsn_2, false_and, and_false, or_false, false_or, or_true, true_or, xsn_3, xsn_4, mAst_1, mAst_2, mSet_1, mSet_2, bi_0, ↓spwX8_held, spcX8_held, ↓spwX8_stands, spcX8_stands, ↓spwX8_moves, spcX8_moves, ↓spwX8_starts, spcX8_starts, n1, ge_nI hj (show n < 1000 by omega), h1, ix_nI (show j < 1000 by omega), c2, nI1, hstep]
        try simp only [xif_e]
      · rw [if_neg c] at hstep
        have c2 : (mH1 (mH0 M) j).2 39 j ≤ (mH1 (mH0 M) j).2 31 j := Int32.not_lt.mp c
        simp only [↓callX8_hour_0, ↓callX8_hour_1, ↓callX8_hour_2, ↓callX8_hour_3, kb_24, kc_24, ki_0, ki_1, ↓ma_31, ↓ma_39, ↓mg_1, ↓mg_2, ↓mg_29, ↓mg_3, ↓mg_31, ↓mg_39, ↓mg_43, misa, ↓mp_1, ↓mp_2, ↓ms_39, ↓ms_43, ↓vm_aload_n, ↓vm_bipush, ↓vm_dup, ↓vm_getfield, ↓vm_goto, ↓vm_iadd, ↓vm_iaload, ↓vm_iastore, ↓vm_iconst, ↓vm_ifCond_ne, ↓vm_if_icmp_ge, ↓vm_if_icmp_le, ↓vm_iinc, ↓vm_iload_n, ↓vm_invokestatic, ↓vm_invokevirtual, ↓vm_irem, ↓vm_istore_n, ↓vm_isub, ↓vm_putfield, ↓vm_return_, ↓xc_1, ↓xc_2, ↓tbX8_hour_0, ↓tbX8_hour_1, ↓tbX8_hour_2, ↓tbX8_hour_5, ↓tbX8_hour_6, ↓tbX8_hour_7, ↓tbX8_hour_10, ↓tbX8_hour_11, ↓tbX8_hour_12, ↓tbX8_hour_15, ↓tbX8_hour_17, ↓tbX8_hour_18, ↓tbX8_hour_21, ↓tbX8_hour_22, ↓tbX8_hour_25, ↓tbX8_hour_26, ↓tbX8_hour_29, ↓tbX8_hour_30, ↓tbX8_hour_33, ↓tbX8_hour_36, ↓tbX8_hour_37, ↓tbX8_hour_40, ↓tbX8_hour_43, ↓tbX8_hour_44, ↓tbX8_hour_45, ↓tbX8_hour_46, ↓tbX8_hour_47, ↓tbX8_hour_50, ↓tbX8_hour_53, ↓tbX8_hour_54, ↓tbX8_hour_57, ↓tbX8_hour_58, ↓tbX8_hour_59, ↓tbX8_hour_62, ↓tbX8_hour_63, ↓tbX8_hour_64, ↓tbX8_hour_65, ↓tbX8_hour_68, ↓tbX8_hour_69, ↓tbX8_hour_70, ↓tbX8_hour_73, ↓tbX8_hour_74, ↓tbX8_hour_77, ↓tbX8_hour_78, ↓tbX8_hour_79, ↓tbX8_hour_80, ↓tbX8_hour_83, ↓tbX8_hour_84, ↓tbX8_hour_85, ↓tbX8_hour_86, ↓tbX8_hour_89, ↓tbX8_hour_90, ↓tbX8_hour_91, ↓tbX8_hour_92, ↓tbX8_hour_95, ↓tbX8_hour_96, ↓tbX8_hour_97, ↓tbX8_hour_98, ↓tbX8_hour_101, ↓tbX8_hour_104, ↓tbX8_hour_105, ↓tbX8_hour_106, ↓tbX8_hour_107, ↓tbX8_hour_108, ↓tbX8_hour_111, ↓tbX8_hour_114, ↓tbX8_hour_115, ↓tbX8_hour_116, ↓tbX8_hour_119, ↓tbX8_hour_122, ↓tbX8_hour_123, ↓tbX8_hour_124, ↓tbX8_hour_127, ↓tbX8_hour_130, ↓tbX8_hour_133, ↓tbX8_hour_134, ↓tbX8_hour_135, ↓tbX8_hour_138, ↓tbX8_hour_139, ↓tbX8_hour_140, ↓tbX8_hour_143, hfu, xstep0, xJ1_hit, xJ1_go, xJ2_hit1, xJ2_hit2, xJ2_go, ↓xif_t, ↓xif_f, seval, ↓xca_eq, ↓xre_l, ↓xre_r, xmask_t, xmask_f, xmask_nil, ↓xst_eq, xX_eq, eI_eq, eMc_eq, eMs_eq, eF_eq, eThr_eq, ↓xS1_mk, ↓xSI_mk, ↓xSR_mk, ↓xLI_0, ↓xLI_s, ↓xLR_0, ↓xLR_s, vRef_ref, vRef_null, vRef_rf, cat_int, cat_ref, cat_null, cat_rf, rf_some, rf_none, rf_null, rf_eq, rf_ref, ref_rf, ref_null, ref_ref, xOk_0, xOk_1, xOk_2r, xOk_2n, xOk_2f, vOpt_rf, vOpt_ref, vOpt_null, List.set_cons_zero, List.set_cons_succ, List.take_succ_cons, List.take_zero, List.drop_succ_cons, List.drop_zero, List.reverse_cons, List.reverse_nil, List.nil_append, List.cons_append, List.append_nil, List.length_cons, List.length_nil, List.map_cons, List.map_nil, List.sum_cons, List.sum_nil, Option.toList_some, Option.toList_none, xRecv_mk, true_and, and_true, true_implies, Nat.reduceAdd, Nat.reduceLeDiff, Nat.zero_le, Nat.le_refl, Nat.add_zero, Nat.zero_add, reduceIte, not_true_eq_false, not_false_eq_true, false_implies, and_self, implies_true, eq_self, Nat.reduceEqDiff, List.cons.injEq, xsn_1, xsn_2, false_and, and_false, or_false, false_or, or_true, true_or, xsn_3, xsn_4, mAst_1, mAst_2, mSet_1, mSet_2, bi_0, ↓spwX8_held, spcX8_held, ↓spwX8_stands, spcX8_stands, ↓spwX8_moves, spcX8_moves, ↓spwX8_starts, spcX8_starts, n1, ge_nI hj (show n < 1000 by omega), h1, ix_nI (show j < 1000 by omega), c2, nI1, hstep]) (by
      rintro lv st S cs ss ⟨rfl, rfl, rfl, rfl, rfl⟩ fu hfu
      simp only [↓callX8_hour_0, ↓callX8_hour_1, ↓callX8_hour_2, ↓callX8_hour_3, kb_24, kc_24, ki_0, ki_1, ↓ma_31, ↓ma_39, ↓mg_1, ↓mg_2, ↓mg_29, ↓mg_3, ↓mg_31, ↓mg_39, ↓mg_43, misa, ↓mp_1, ↓mp_2, ↓ms_39, ↓ms_43, ↓vm_aload_n, ↓vm_bipush, ↓vm_dup, ↓vm_getfield, ↓vm_goto, ↓vm_iadd, ↓vm_iaload, ↓vm_iastore, ↓vm_iconst, ↓vm_ifCond_ne, ↓vm_if_icmp_ge, ↓vm_if_icmp_le, ↓vm_iinc, ↓vm_iload_n, ↓vm_invokestatic, ↓vm_invokevirtual, ↓vm_irem, ↓vm_istore_n, ↓vm_isub, ↓vm_putfield, ↓vm_return_, ↓xc_1, ↓xc_2, ↓tbX8_hour_0, ↓tbX8_hour_1, ↓tbX8_hour_2, ↓tbX8_hour_5, ↓tbX8_hour_6, ↓tbX8_hour_7, ↓tbX8_hour_10, ↓tbX8_hour_11, ↓tbX8_hour_12, ↓tbX8_hour_15, ↓tbX8_hour_17, ↓tbX8_hour_18, ↓tbX8_hour_21, ↓tbX8_hour_22, ↓tbX8_hour_25, ↓tbX8_hour_26, ↓tbX8_hour_29, ↓tbX8_hour_30, ↓tbX8_hour_33, ↓tbX8_hour_36, ↓tbX8_hour_37, ↓tbX8_hour_40, ↓tbX8_hour_43, ↓tbX8_hour_44, ↓tbX8_hour_45, ↓tbX8_hour_46, ↓tbX8_hour_47, ↓tbX8_hour_50, ↓tbX8_hour_53, ↓tbX8_hour_54, ↓tbX8_hour_57, ↓tbX8_hour_58, ↓tbX8_hour_59, ↓tbX8_hour_62, ↓tbX8_hour_63, ↓tbX8_hour_64, ↓tbX8_hour_65, ↓tbX8_hour_68, ↓tbX8_hour_69, ↓tbX8_hour_70, ↓tbX8_hour_73, ↓tbX8_hour_74, ↓tbX8_hour_77, ↓tbX8_hour_78, ↓tbX8_hour_79, ↓tbX8_hour_80, ↓tbX8_hour_83, ↓tbX8_hour_84, ↓tbX8_hour_85, ↓tbX8_hour_86, ↓tbX8_hour_89, ↓tbX8_hour_90, ↓tbX8_hour_91, ↓tbX8_hour_92, ↓tbX8_hour_95, ↓tbX8_hour_96, ↓tbX8_hour_97, ↓tbX8_hour_98, ↓tbX8_hour_101, ↓tbX8_hour_104, ↓tbX8_hour_105, ↓tbX8_hour_106, ↓tbX8_hour_107, ↓tbX8_hour_108, ↓tbX8_hour_111, ↓tbX8_hour_114, ↓tbX8_hour_115, ↓tbX8_hour_116, ↓tbX8_hour_119, ↓tbX8_hour_122, ↓tbX8_hour_123, ↓tbX8_hour_124, ↓tbX8_hour_127, ↓tbX8_hour_130, ↓tbX8_hour_133, ↓tbX8_hour_134, ↓tbX8_hour_135, ↓tbX8_hour_138, ↓tbX8_hour_139, ↓tbX8_hour_140, ↓tbX8_hour_143, hfu, xstep0, xJ1_hit, xJ1_go, xJ2_hit1, xJ2_hit2, xJ2_go, ↓xif_t, ↓xif_f, seval, ↓xca_eq, ↓xre_l, ↓xre_r, xmask_t, xmask_f, xmask_nil, ↓xst_eq, xX_eq, eI_eq, eMc_eq, eMs_eq, eF_eq, eThr_eq, ↓xS1_mk, ↓xSI_mk, ↓xSR_mk, ↓xLI_0, ↓xLI_s, ↓xLR_0, ↓xLR_s, vRef_ref, vRef_null, vRef_rf, cat_int, cat_ref, cat_null, cat_rf, rf_some, rf_none, rf_null, rf_eq, rf_ref, ref_rf, ref_null, ref_ref, xOk_0, xOk_1, xOk_2r, xOk_2n, xOk_2f, vOpt_rf, vOpt_ref, vOpt_null, List.set_cons_zero, List.set_cons_succ, List.take_succ_cons, List.take_zero, List.drop_succ_cons, List.drop_zero, List.reverse_cons, List.reverse_nil, List.nil_append, List.cons_append, List.append_nil, List.length_cons, List.length_nil, List.map_cons, List.map_nil, List.sum_cons, List.sum_nil, Option.toList_some, Option.toList_none, xRecv_mk, true_and, and_true, true_implies, Nat.reduceAdd, Nat.reduceLeDiff, Nat.zero_le, Nat.le_refl, Nat.add_zero, Nat.zero_add, reduceIte, not_true_eq_false, not_false_eq_true, false_implies, and_self, implies_true, eq_self, Nat.reduceEqDiff, List.cons.injEq, xsn_1, xsn_2, false_and, and_false, or_false, false_or, or_true, true_or, xsn_3, xsn_4, mAst_1, mAst_2, mSet_1, mSet_2, bi_0, ↓spwX8_held, spcX8_held, ↓spwX8_stands, spcX8_stands, ↓spwX8_moves, spcX8_moves, ↓spwX8_starts, spcX8_starts, n1, le_nI_self]
      try simp only [xif_e]
      repeat' (first | rfl | apply And.intro))
  refine xgo hG (mb := [true, true]) (l1 0 (Nat.zero_le _)) (pc := 0) (fun fu hfu => ?_)
  have ez : mH1 (mH0 M) 0 = mH0 M := rfl
  simp only [↓callX8_hour_0, ↓callX8_hour_1, ↓callX8_hour_2, ↓callX8_hour_3, kb_24, kc_24, ki_0, ki_1, ↓ma_31, ↓ma_39, ↓mg_1, ↓mg_2, ↓mg_29, ↓mg_3, ↓mg_31, ↓mg_39, ↓mg_43, misa, ↓mp_1, ↓mp_2, ↓ms_39, ↓ms_43, ↓vm_aload_n, ↓vm_bipush, ↓vm_dup, ↓vm_getfield, ↓vm_goto, ↓vm_iadd, ↓vm_iaload, ↓vm_iastore, ↓vm_iconst, ↓vm_ifCond_ne, ↓vm_if_icmp_ge, ↓vm_if_icmp_le, ↓vm_iinc, ↓vm_iload_n, ↓vm_invokestatic, ↓vm_invokevirtual, ↓vm_irem, ↓vm_istore_n, ↓vm_isub, ↓vm_putfield, ↓vm_return_, ↓xc_1, ↓xc_2, ↓tbX8_hour_0, ↓tbX8_hour_1, ↓tbX8_hour_2, ↓tbX8_hour_5, ↓tbX8_hour_6, ↓tbX8_hour_7, ↓tbX8_hour_10, ↓tbX8_hour_11, ↓tbX8_hour_12, ↓tbX8_hour_15, ↓tbX8_hour_17, ↓tbX8_hour_18, ↓tbX8_hour_21, ↓tbX8_hour_22, ↓tbX8_hour_25, ↓tbX8_hour_26, ↓tbX8_hour_29, ↓tbX8_hour_30, ↓tbX8_hour_33, ↓tbX8_hour_36, ↓tbX8_hour_37, ↓tbX8_hour_40, ↓tbX8_hour_43, ↓tbX8_hour_44, ↓tbX8_hour_45, ↓tbX8_hour_46, ↓tbX8_hour_47, ↓tbX8_hour_50, ↓tbX8_hour_53, ↓tbX8_hour_54, ↓tbX8_hour_57, ↓tbX8_hour_58, ↓tbX8_hour_59, ↓tbX8_hour_62, ↓tbX8_hour_63, ↓tbX8_hour_64, ↓tbX8_hour_65, ↓tbX8_hour_68, ↓tbX8_hour_69, ↓tbX8_hour_70, ↓tbX8_hour_73, ↓tbX8_hour_74, ↓tbX8_hour_77, ↓tbX8_hour_78, ↓tbX8_hour_79, ↓tbX8_hour_80, ↓tbX8_hour_83, ↓tbX8_hour_84, ↓tbX8_hour_85, ↓tbX8_hour_86, ↓tbX8_hour_89, ↓tbX8_hour_90, ↓tbX8_hour_91, ↓tbX8_hour_92, ↓tbX8_hour_95, ↓tbX8_hour_96, ↓tbX8_hour_97, ↓tbX8_hour_98, ↓tbX8_hour_101, ↓tbX8_hour_104, ↓tbX8_hour_105, ↓tbX8_hour_106, ↓tbX8_hour_107, ↓tbX8_hour_108, ↓tbX8_hour_111, ↓tbX8_hour_114, ↓tbX8_hour_115, ↓tbX8_hour_116, ↓tbX8_hour_119, ↓tbX8_hour_122, ↓tbX8_hour_123, ↓tbX8_hour_124, ↓tbX8_hour_127, ↓tbX8_hour_130, ↓tbX8_hour_133, ↓tbX8_hour_134, ↓tbX8_hour_135, ↓tbX8_hour_138, ↓tbX8_hour_139, ↓tbX8_hour_140, ↓tbX8_hour_143, hfu, xstep0, xJ1_hit, xJ1_go, xJ2_hit1, xJ2_hit2, xJ2_go, ↓xif_t, ↓xif_f, seval, ↓xca_eq, ↓xre_l, ↓xre_r, xmask_t, xmask_f, xmask_nil, ↓xst_eq, xX_eq, eI_eq, eMc_eq, eMs_eq, eF_eq, eThr_eq, ↓xS1_mk, ↓xSI_mk, ↓xSR_mk, ↓xLI_0, ↓xLI_s, ↓xLR_0, ↓xLR_s, vRef_ref, vRef_null, vRef_rf, cat_int, cat_ref, cat_null, cat_rf, rf_some, rf_none, rf_null, rf_eq, rf_ref, ref_rf, ref_null, ref_ref, xOk_0, xOk_1, xOk_2r, xOk_2n, xOk_2f, vOpt_rf, vOpt_ref, vOpt_null, List.set_cons_zero, List.set_cons_succ, List.take_succ_cons, List.take_zero, List.drop_succ_cons, List.drop_zero, List.reverse_cons, List.reverse_nil, List.nil_append, List.cons_append, List.append_nil, List.length_cons, List.length_nil, List.map_cons, List.map_nil, List.sum_cons, List.sum_nil, Option.toList_some, Option.toList_none, xRecv_mk, true_and, and_true, true_implies, Nat.reduceAdd, Nat.reduceLeDiff, Nat.zero_le, Nat.le_refl, Nat.add_zero, Nat.zero_add, reduceIte, not_true_eq_false, not_false_eq_true, false_implies, and_self, implies_true, eq_self, Nat.reduceEqDiff, List.cons.injEq, xsn_1, xsn_2, false_and, and_false, or_false, false_or, or_true, true_or, xsn_3, xsn_4, mAst_1, mAst_2, mSet_1, mSet_2, bi_0, ↓spwX8_held, spcX8_held, ↓spwX8_stands, spcX8_stands, ↓spwX8_moves, spcX8_moves, ↓spwX8_starts, spcX8_starts, ez]
  try simp only [xif_e]
  unfold mH0 mHeld
  grind [nI_0]

def mPas (M : mS) : Nat → mS
  | 0 => M
  | k + 1 => mHour (mPas M k)
theorem mOK_pas {M : mS} (h : mOKh M) : ∀ k, mOKh (mPas M k)
  | 0 => h
  | k + 1 => mOK_hour (mOK_pas h k)
def oPass (M : mS) (n : Int32) : Int32 × mS :=
  if ¬ (1 ≤ n ∧ n ≤ 48) then (0, mSet M 0 1)
  else if 5000 < M.1 1 + n then (0, mSet M 0 2)
  else ((mPas (mSet M 0 0) n.toNatClampNeg).1 1, mPas (mSet M 0 0) n.toNatClampNeg)

def tbX8_pass : List (Nat × xHint) := [(0, .aload_n 0, 0, 0, 0, []), (1, .iload_n 1, 1, 0, 0, []), (2, .iconst 1, 0, 0, 0, []), (3, .bipush 48, 0, 0, 0, []), (5, .invokestatic 159, 0, 3, 0, []), (8, .ifCond .ne 7, 15, 0, 0, []), (11, .iconst 1, 0, 0, 0, []), (12, .goto 20, 32, 0, 0, []), (15, .aload_n 0, 0, 0, 0, []), (16, .getfield 228, 9, 1, 0, []), (19, .iload_n 1, 1, 0, 0, []), (20, .iadd, 0, 0, 0, []), (21, .sipush 5000, 0, 0, 0, []), (24, .if_icmp .le 7, 31, 0, 0, []), (27, .iconst 2, 0, 0, 0, []), (28, .goto 4, 32, 0, 0, []), (31, .iconst 0, 0, 0, 0, []), (32, .invokevirtual 183, 1, 2, 9, []), (35, .ifCond .ne 5, 40, 0, 0, []), (38, .iconst 0, 0, 0, 0, []), (39, .ireturn, 0, 0, 0, []), (40, .iconst 0, 0, 0, 0, []), (41, .istore_n 2, 2, 0, 0, []), (42, .iload_n 2, 2, 0, 0, []), (43, .iload_n 1, 1, 0, 0, []), (44, .if_icmp .ge 13, 57, 0, 0, []), (47, .aload_n 0, 0, 0, 0, []), (48, .invokevirtual 338, 2, 1, 9, []), (51, .iinc 2 1, 2, 0, 0, []), (54, .goto (-12), 42, 0, 0, []), (57, .aload_n 0, 0, 0, 0, []), (58, .getfield 228, 9, 1, 0, []), (61, .ireturn, 0, 0, 0, [])]
def clX8_pass : List (Instr × Nat × Nat × Nat) := [(.invokestatic 159, 0, 3, 0), (.invokevirtual 183, 1, 2, 9), (.invokevirtual 338, 2, 1, 9)]
def thX8_pass : List (Nat × Nat) := []
theorem ckX8_pass : tbX8_pass.all (xRow RX8 cX8_pass wsX8_pass vwCl [9] clX8_pass thX8_pass 3 (yX8_pass.name == "<init>") (some .int)) = true := xRow_q 0xace400b42af4ffa70102845201b62a0d00a21b1c3d03ac0305009ab700b6030400a7050700a4881311601be400b42a1400a70407009a9f00b83010041b2a 62 (by decide +kernel) (by decide +kernel)
theorem usX8_pass : xUse wsX8_pass vwCl [9] = true := xUse_g rfl (lw_good lwl_X8_pass lwl_X80 (by decide +kernel)) xUse_n
theorem tbX8_pass_0 {k : Instr → Nat → Nat → Nat → List Nat → Prop} : xse (xFind tbX8_pass 0) k = k (.aload_n 0) 0 0 0 [] := rfl
theorem tbX8_pass_1 {k : Instr → Nat → Nat → Nat → List Nat → Prop} : xse (xFind tbX8_pass 1) k = k (.iload_n 1) 1 0 0 [] := rfl
theorem tbX8_pass_2 {k : Instr → Nat → Nat → Nat → List Nat → Prop} : xse (xFind tbX8_pass 2) k = k (.iconst 1) 0 0 0 [] := rfl
theorem tbX8_pass_3 {k : Instr → Nat → Nat → Nat → List Nat → Prop} : xse (xFind tbX8_pass 3) k = k (.bipush 48) 0 0 0 [] := rfl
theorem tbX8_pass_5 {k : Instr → Nat → Nat → Nat → List Nat → Prop} : xse (xFind tbX8_pass 5) k = k (.invokestatic 159) 0 3 0 [] := rfl
theorem tbX8_pass_8 {k : Instr → Nat → Nat → Nat → List Nat → Prop} : xse (xFind tbX8_pass 8) k = k (.ifCond .ne 7) 15 0 0 [] := rfl
theorem tbX8_pass_11 {k : Instr → Nat → Nat → Nat → List Nat → Prop} : xse (xFind tbX8_pass 11) k = k (.iconst 1) 0 0 0 [] := rfl
theorem tbX8_pass_12 {k : Instr → Nat → Nat → Nat → List Nat → Prop} : xse (xFind tbX8_pass 12) k = k (.goto 20) 32 0 0 [] := rfl
theorem tbX8_pass_15 {k : Instr → Nat → Nat → Nat → List Nat → Prop} : xse (xFind tbX8_pass 15) k = k (.aload_n 0) 0 0 0 [] := rfl
theorem tbX8_pass_16 {k : Instr → Nat → Nat → Nat → List Nat → Prop} : xse (xFind tbX8_pass 16) k = k (.getfield 228) 9 1 0 [] := rfl
theorem tbX8_pass_19 {k : Instr → Nat → Nat → Nat → List Nat → Prop} : xse (xFind tbX8_pass 19) k = k (.iload_n 1) 1 0 0 [] := rfl
theorem tbX8_pass_20 {k : Instr → Nat → Nat → Nat → List Nat → Prop} : xse (xFind tbX8_pass 20) k = k (.iadd) 0 0 0 [] := rfl
theorem tbX8_pass_21 {k : Instr → Nat → Nat → Nat → List Nat → Prop} : xse (xFind tbX8_pass 21) k = k (.sipush 5000) 0 0 0 [] := rfl
theorem tbX8_pass_24 {k : Instr → Nat → Nat → Nat → List Nat → Prop} : xse (xFind tbX8_pass 24) k = k (.if_icmp .le 7) 31 0 0 [] := rfl
theorem tbX8_pass_27 {k : Instr → Nat → Nat → Nat → List Nat → Prop} : xse (xFind tbX8_pass 27) k = k (.iconst 2) 0 0 0 [] := rfl
theorem tbX8_pass_28 {k : Instr → Nat → Nat → Nat → List Nat → Prop} : xse (xFind tbX8_pass 28) k = k (.goto 4) 32 0 0 [] := rfl
theorem tbX8_pass_31 {k : Instr → Nat → Nat → Nat → List Nat → Prop} : xse (xFind tbX8_pass 31) k = k (.iconst 0) 0 0 0 [] := rfl
theorem tbX8_pass_32 {k : Instr → Nat → Nat → Nat → List Nat → Prop} : xse (xFind tbX8_pass 32) k = k (.invokevirtual 183) 1 2 9 [] := rfl
theorem tbX8_pass_35 {k : Instr → Nat → Nat → Nat → List Nat → Prop} : xse (xFind tbX8_pass 35) k = k (.ifCond .ne 5) 40 0 0 [] := rfl
theorem tbX8_pass_38 {k : Instr → Nat → Nat → Nat → List Nat → Prop} : xse (xFind tbX8_pass 38) k = k (.iconst 0) 0 0 0 [] := rfl
theorem tbX8_pass_39 {k : Instr → Nat → Nat → Nat → List Nat → Prop} : xse (xFind tbX8_pass 39) k = k (.ireturn) 0 0 0 [] := rfl
theorem tbX8_pass_40 {k : Instr → Nat → Nat → Nat → List Nat → Prop} : xse (xFind tbX8_pass 40) k = k (.iconst 0) 0 0 0 [] := rfl
theorem tbX8_pass_41 {k : Instr → Nat → Nat → Nat → List Nat → Prop} : xse (xFind tbX8_pass 41) k = k (.istore_n 2) 2 0 0 [] := rfl
theorem tbX8_pass_42 {k : Instr → Nat → Nat → Nat → List Nat → Prop} : xse (xFind tbX8_pass 42) k = k (.iload_n 2) 2 0 0 [] := rfl
theorem tbX8_pass_43 {k : Instr → Nat → Nat → Nat → List Nat → Prop} : xse (xFind tbX8_pass 43) k = k (.iload_n 1) 1 0 0 [] := rfl
theorem tbX8_pass_44 {k : Instr → Nat → Nat → Nat → List Nat → Prop} : xse (xFind tbX8_pass 44) k = k (.if_icmp .ge 13) 57 0 0 [] := rfl
theorem tbX8_pass_47 {k : Instr → Nat → Nat → Nat → List Nat → Prop} : xse (xFind tbX8_pass 47) k = k (.aload_n 0) 0 0 0 [] := rfl
theorem tbX8_pass_48 {k : Instr → Nat → Nat → Nat → List Nat → Prop} : xse (xFind tbX8_pass 48) k = k (.invokevirtual 338) 2 1 9 [] := rfl
theorem tbX8_pass_51 {k : Instr → Nat → Nat → Nat → List Nat → Prop} : xse (xFind tbX8_pass 51) k = k (.iinc 2 1) 2 0 0 [] := rfl
theorem tbX8_pass_54 {k : Instr → Nat → Nat → Nat → List Nat → Prop} : xse (xFind tbX8_pass 54) k = k (.goto (-12)) 42 0 0 [] := rfl
theorem tbX8_pass_57 {k : Instr → Nat → Nat → Nat → List Nat → Prop} : xse (xFind tbX8_pass 57) k = k (.aload_n 0) 0 0 0 [] := rfl
theorem tbX8_pass_58 {k : Instr → Nat → Nat → Nat → List Nat → Prop} : xse (xFind tbX8_pass 58) k = k (.getfield 228) 9 1 0 [] := rfl
theorem tbX8_pass_61 {k : Instr → Nat → Nat → Nat → List Nat → Prop} : xse (xFind tbX8_pass 61) k = k (.ireturn) 0 0 0 [] := rfl

def spX8_pass (aM : Nat → Nat) : xSp mS := (fun av M => (0, 0), fun av M K => ∃ (n : Int32), av = [.ref (aM 0), .int n] ∧ (mOKh M ∧ K (rI (oPass M n).1) (oPass M n).2))
theorem spcX8_pass {av : List Value} {M : mS} {aM : Nat → Nat} : (spX8_pass aM).1 av M = (0, 0) := rfl
theorem spwX8_pass {M : mS} {aM : Nat → Nat} {K : xRes → mS → Prop} {n : Int32} : (spX8_pass aM).2 [.ref (aM 0), .int n] M K = (mOKh M ∧ K (rI (oPass M n).1) (oPass M n).2) :=
  propext ⟨fun h => by
    simp only [spX8_pass] at h
    obtain ⟨_, e, h⟩ := h
    simp only [List.cons.injEq, Value.int.injEq, Value.ref.injEq, rf_eq, and_true, true_and] at e
    obtain rfl := e
    exact h, fun h => ⟨_, rfl, h⟩⟩

def callX8_pass (aM : Nat → Nat) : Nat → Option (xSp mS) := fun n => match n with | 0 => some (spX8_in aM) | 1 => some (spX8_holds aM) | 2 => some (spX8_hour aM) | _ => none

theorem callX8_pass_0 {aM : Nat → Nat} {k : xSp mS → Prop} : xcs (callX8_pass aM 0) k = k (spX8_in aM) := rfl

theorem callX8_pass_1 {aM : Nat → Nat} {k : xSp mS → Prop} : xcs (callX8_pass aM 1) k = k (spX8_holds aM) := rfl

theorem callX8_pass_2 {aM : Nat → Nat} {k : xSp mS → Prop} : xcs (callX8_pass aM 2) k = k (spX8_hour aM) := rfl

theorem crX8_pass (l : Launch) (W9 : xWd) (aM : Nat → Nat) (hi : mInj aM) : xCallsOK l W9 (mI aM) (callX8_pass aM) clX8_pass RX8 wsX8_pass 8 187 3 := by
  intro E A p e R s m args below meth c hI hF hL X
  exact List.forall_mem_cons.mpr ⟨⟨_, rfl, xCR_S X (by rw [hI]; exact (semX8_in l W9 aM hi)) gX8_pass_X8_in rfl (by decide +kernel) (by rw [hF, hL]; decide)⟩,
    List.forall_mem_cons.mpr ⟨⟨_, rfl, xCR_V X (by rw [hI]; exact (semX8_holds l W9 aM hi)) gX8_pass_X8_holds rfl rfl (by decide +kernel) (by rw [hF, hL]; decide)⟩,
    List.forall_mem_cons.mpr ⟨⟨_, rfl, xCR_V X (by rw [hI]; exact (semX8_hour l W9 aM hi)) gX8_pass_X8_hour rfl rfl (by decide +kernel) (by rw [hF, hL]; decide)⟩,
    fun _ h => nomatch h⟩⟩⟩

set_option maxHeartbeats 4000000 in
set_option maxRecDepth 20000 in
theorem semX8_pass (l : Launch) (W9 : xWd) (aM : Nat → Nat) (hi : mInj aM) : xSem l W9 (mI aM) yX8_pass wsX8_pass 8 187 (spX8_pass aM) := by
  refine xSem_of (call := callX8_pass aM) (thrf := fun _ => "") (mI_law hi) (by decide +kernel) rfl ckX8_pass usX8_pass (crX8_pass l W9 aM hi) xThrOK_nil ?_ ?_
  · intro av M KF h
    obtain ⟨n, rfl, h⟩ := h
    exact ⟨by intro v hv; simp only [List.mem_cons, List.not_mem_nil, or_false] at hv; rcases hv with rfl | rfl <;> first | rfl | exact cat_rf, Nat.le_of_ble_eq_true rfl⟩
  intro av M KF h G hG
  obtain ⟨n, rfl, h⟩ := h
  rw [show (spX8_pass aM).1 _ M = _ from spcX8_pass] at hG
  try dsimp only at hG
  change G 0 [some (.ref (aM 0)), some (.int n), none] [] M 0 0
  obtain ⟨hO, h⟩ := h

  have o1 := mOK_pas (mOK_set (k := 0) (x := 0) hO (by omega))
  unfold oPass at h
  by_cases c : 1 ≤ n ∧ n ≤ 48
  · rw [if_neg (fun q => q c)] at h
    obtain ⟨m, hm, rfl⟩ := vp_in_of (in_le 48 (by omega) (Int32.le_trans (by decide) c.1) c.2) (by omega)
    rw [ix_nI (by omega)] at h
    by_cases d : 5000 < M.1 1 + nI m
    · rw [if_pos d] at h
      refine xgo hG (mb := []) (head := 42) (P := fun _ _ _ _ _ => False) (fun _ _ _ _ _ q => q.elim) (pc := 0) (fun fu hfu => ?_)
      have d2 : ¬ M.1 1 + nI m ≤ 5000 := fun q => Int32.lt_irrefl (Int32.lt_of_lt_of_le d q)
      simp only [↓callX8_pass_0, ↓callX8_pass_1, ↓callX8_pass_2, kb_48, kc_48, ki_0, ki_1, ki_2, ks_5000, kt_5000, ↓mg_1, misa, ↓vm_aload_n, ↓vm_bipush, ↓vm_getfield, ↓vm_goto, ↓vm_iadd, ↓vm_iconst, ↓vm_ifCond_ne, ↓vm_if_icmp_ge, ↓vm_if_icmp_le, ↓vm_iinc, ↓vm_iload_n, ↓vm_invokestatic, ↓vm_invokevirtual, ↓vm_ireturn, ↓vm_istore_n, ↓vm_sipush, ↓xc_1, ↓xc_2, ↓xc_3, ↓tbX8_pass_0, ↓tbX8_pass_1, ↓tbX8_pass_2, ↓tbX8_pass_3, ↓tbX8_pass_5, ↓tbX8_pass_8, ↓tbX8_pass_11, ↓tbX8_pass_12, ↓tbX8_pass_15, ↓tbX8_pass_16, ↓tbX8_pass_19, ↓tbX8_pass_20, ↓tbX8_pass_21, ↓tbX8_pass_24, ↓tbX8_pass_27, ↓tbX8_pass_28, ↓tbX8_pass_31, ↓tbX8_pass_32, ↓tbX8_pass_35, ↓tbX8_pass_38, ↓tbX8_pass_39, ↓tbX8_pass_40, ↓tbX8_pass_41, ↓tbX8_pass_42, ↓tbX8_pass_43, ↓tbX8_pass_44, ↓tbX8_pass_47, ↓tbX8_pass_48, ↓tbX8_pass_51, ↓tbX8_pass_54, ↓tbX8_pass_57, ↓tbX8_pass_58, ↓tbX8_pass_61, hfu, xstep0, xJ1_hit, xJ1_go, xJ2_hit1, xJ2_hit2, xJ2_go, ↓xif_t, ↓xif_f, seval, ↓xca_eq, ↓xre_l, ↓xre_r, xmask_t, xmask_f, xmask_nil, ↓xst_eq, xX_eq, eI_eq, eMc_eq, eMs_eq, eF_eq, eThr_eq, ↓xS1_mk, ↓xSI_mk, ↓xSR_mk, ↓xLI_0, ↓xLI_s, ↓xLR_0, ↓xLR_s, vRef_ref, vRef_null, vRef_rf, cat_int, cat_ref, cat_null, cat_rf, rf_some, rf_none, rf_null, rf_eq, rf_ref, ref_rf, ref_null, ref_ref, xOk_0, xOk_1, xOk_2r, xOk_2n, xOk_2f, vOpt_rf, vOpt_ref, vOpt_null, List.set_cons_zero, List.set_cons_succ, List.take_succ_cons, List.take_zero, List.drop_succ_cons, List.drop_zero, List.reverse_cons, List.reverse_nil, List.nil_append, List.cons_append, List.append_nil, List.length_cons, List.length_nil, List.map_cons, List.map_nil, List.sum_cons, List.sum_nil, Option.toList_some, Option.toList_none, xRecv_mk, true_and, and_true, true_implies, Nat.reduceAdd, Nat.reduceLeDiff, Nat.zero_le, Nat.le_refl, Nat.add_zero, Nat.zero_add, reduceIte, not_true_eq_false, not_false_eq_true, false_implies, and_self, implies_true, eq_self, Nat.reduceEqDiff, List.cons.injEq, xsn_1, xsn_2, false_and, and_false, or_false, false_or, or_true, true_or, xsn_3, xsn_4, mAst_1, mAst_2, mSet_1, mSet_2, bi_0, ↓spwX8_in, spcX8_in, ↓spwX8_holds, spcX8_holds, ↓spwX8_hour, spcX8_hour, c, d2]
      try simp only [xif_e]
      exact h
    · rw [if_neg d] at h
      have d2 : M.1 1 + nI m ≤ 5000 := Int32.not_lt.mp d
      have loop := xloop hG 42 [true, true, true] (fun j lv st S cs ss => lv = [some (.ref (aM 0)), some (.int (nI m)), some (.int (nI j))] ∧ st = [] ∧ mPas (mSet M 0 0) j = S ∧ cs = 0 ∧ ss = 0) m (by
          rintro j hj lv st S cs ss ⟨rfl, rfl, rfl, rfl, rfl⟩ fu hfu
          have hstep : mPas (mSet M 0 0) (j + 1) = mHour (mPas (mSet M 0 0) j) := rfl
          simp only [↓callX8_pass_0, ↓callX8_pass_1, ↓callX8_pass_2, kb_48, kc_48, ki_0, ki_1, ki_2, ks_5000, kt_5000, ↓mg_1, misa, ↓vm_aload_n, ↓vm_bipush, ↓vm_getfield, ↓vm_goto, ↓vm_iadd, ↓vm_iconst, ↓vm_ifCond_ne, ↓vm_if_icmp_ge, ↓vm_if_icmp_le, ↓vm_iinc, ↓vm_iload_n, ↓vm_invokestatic, ↓vm_invokevirtual, ↓vm_ireturn, ↓vm_istore_n, ↓vm_sipush, ↓xc_1, ↓xc_2, ↓xc_3, ↓tbX8_pass_0, ↓tbX8_pass_1, ↓tbX8_pass_2, ↓tbX8_pass_3, ↓tbX8_pass_5, ↓tbX8_pass_8, ↓tbX8_pass_11, ↓tbX8_pass_12, ↓tbX8_pass_15, ↓tbX8_pass_16, ↓tbX8_pass_19, ↓tbX8_pass_20, ↓tbX8_pass_21, ↓tbX8_pass_24, ↓tbX8_pass_27, ↓tbX8_pass_28, ↓tbX8_pass_31, ↓tbX8_pass_32, ↓tbX8_pass_35, ↓tbX8_pass_38, ↓tbX8_pass_39, ↓tbX8_pass_40, ↓tbX8_pass_41, ↓tbX8_pass_42, ↓tbX8_pass_43, ↓tbX8_pass_44, ↓tbX8_pass_47, ↓tbX8_pass_48, ↓tbX8_pass_51, ↓tbX8_pass_54, ↓tbX8_pass_57, ↓tbX8_pass_58, ↓tbX8_pass_61, hfu, xstep0, xJ1_hit, xJ1_go, xJ2_hit1, xJ2_hit2, xJ2_go, ↓xif_t, ↓xif_f, seval, ↓xca_eq, ↓xre_l, ↓xre_r, xmask_t, xmask_f, xmask_nil, ↓xst_eq, xX_eq, eI_eq, eMc_eq, eMs_eq, eF_eq, eThr_eq, ↓xS1_mk, ↓xSI_mk, ↓xSR_mk, ↓xLI_0, ↓xLI_s, ↓xLR_0, ↓xLR_s, vRef_ref, vRef_null, vRef_rf, cat_int, cat_ref, cat_null, cat_rf, rf_some, rf_none, rf_null, rf_eq, rf_ref, ref_rf, ref_null, ref_ref, xOk_0, xOk_1, xOk_2r, xOk_2n, xOk_2f, vOpt_rf, vOpt_ref, vOpt_null, List.set_cons_zero, List.set_cons_succ, List.take_succ_cons, List.take_zero, List.drop_succ_cons, List.drop_zero, List.reverse_cons, List.reverse_nil, List.nil_append, List.cons_append, List.append_nil, List.length_cons, List.length_nil, List.map_cons, List.map_nil, List.sum_cons, List.sum_nil, Option.toList_some, Option.toList_none, xRecv_mk, true_and, and_true, true_implies, Nat.reduceAdd, Nat.reduceLeDiff, Nat.zero_le, Nat.le_refl, Nat.add_zero, Nat.zero_add, reduceIte, not_true_eq_false, not_false_eq_true, false_implies, and_self, implies_true, eq_self, Nat.reduceEqDiff, List.cons.injEq, xsn_1, xsn_2, false_and, and_false, or_false, false_or, or_true, true_or, xsn_3, xsn_4, mAst_1, mAst_2, mSet_1, mSet_2, bi_0, ↓spwX8_in, spcX8_in, ↓spwX8_holds, spcX8_holds, ↓spwX8_hour, spcX8_hour, ge_nI hj (show m < 1000 by omega), o1, nI1, hstep]) (by
          rintro lv st S cs ss ⟨rfl, rfl, rfl, rfl, rfl⟩ fu hfu
          simp only [↓callX8_pass_0, ↓callX8_pass_1, ↓callX8_pass_2, kb_48, kc_48, ki_0, ki_1, ki_2, ks_5000, kt_5000, ↓mg_1, misa, ↓vm_aload_n, ↓vm_bipush, ↓vm_getfield, ↓vm_goto, ↓vm_iadd, ↓vm_iconst, ↓vm_ifCond_ne, ↓vm_if_icmp_ge, ↓vm_if_icmp_le, ↓vm_iinc, ↓vm_iload_n, ↓vm_invokestatic, ↓vm_invokevirtual, ↓vm_ireturn, ↓vm_istore_n, ↓vm_sipush, ↓xc_1, ↓xc_2, ↓xc_3, ↓tbX8_pass_0, ↓tbX8_pass_1, ↓tbX8_pass_2, ↓tbX8_pass_3, ↓tbX8_pass_5, ↓tbX8_pass_8, ↓tbX8_pass_11, ↓tbX8_pass_12, ↓tbX8_pass_15, ↓tbX8_pass_16, ↓tbX8_pass_19, ↓tbX8_pass_20, ↓tbX8_pass_21, ↓tbX8_pass_24, ↓tbX8_pass_27, ↓tbX8_pass_28, ↓tbX8_pass_31, ↓tbX8_pass_32, ↓tbX8_pass_35, ↓tbX8_pass_38, ↓tbX8_pass_39, ↓tbX8_pass_40, ↓tbX8_pass_41, ↓tbX8_pass_42, ↓tbX8_pass_43, ↓tbX8_pass_44, ↓tbX8_pass_47, ↓tbX8_pass_48, ↓tbX8_pass_51, ↓tbX8_pass_54, ↓tbX8_pass_57, ↓tbX8_pass_58, ↓tbX8_pass_61, hfu, xstep0, xJ1_hit, xJ1_go, xJ2_hit1, xJ2_hit2, xJ2_go, ↓xif_t, ↓xif_f, seval, ↓xca_eq, ↓xre_l, ↓xre_r, xmask_t, xmask_f, xmask_nil, ↓xst_eq, xX_eq, eI_eq, eMc_eq, eMs_eq, eF_eq, eThr_eq, ↓xS1_mk, ↓xSI_mk, ↓xSR_mk, ↓xLI_0, ↓xLI_s, ↓xLR_0, ↓xLR_s, vRef_ref, vRef_null, vRef_rf, cat_int, cat_ref, cat_null, cat_rf, rf_some, rf_none, rf_null, rf_eq, rf_ref, ref_rf, ref_null, ref_ref, xOk_0, xOk_1, xOk_2r, xOk_2n, xOk_2f, vOpt_rf, vOpt_ref, vOpt_null, List.set_cons_zero, List.set_cons_succ, List.take_succ_cons, List.take_zero, List.drop_succ_cons, List.drop_zero, List.reverse_cons, List.reverse_nil, List.nil_append, List.cons_append, List.append_nil, List.length_cons, List.length_nil, List.map_cons, List.map_nil, List.sum_cons, List.sum_nil, Option.toList_some, Option.toList_none, xRecv_mk, true_and, and_true, true_implies, Nat.reduceAdd, Nat.reduceLeDiff, Nat.zero_le, Nat.le_refl, Nat.add_zero, Nat.zero_add, reduceIte, not_true_eq_false, not_false_eq_true, false_implies, and_self, implies_true, eq_self, Nat.reduceEqDiff, List.cons.injEq, xsn_1, xsn_2, false_and, and_false, or_false, false_or, or_true, true_or, xsn_3, xsn_4, mAst_1, mAst_2, mSet_1, mSet_2, bi_0, ↓spwX8_in, spcX8_in, ↓spwX8_holds, spcX8_holds, ↓spwX8_hour, spcX8_hour, le_nI_self]
          try simp only [xif_e]
          exact h)
      refine xgo hG (mb := [true, true, true]) (loop 0 (Nat.zero_le _)) (pc := 0) (fun fu hfu => ?_)
      simp only [↓callX8_pass_0, ↓callX8_pass_1, ↓callX8_pass_2, kb_48, kc_48, ki_0, ki_1, ki_2, ks_5000, kt_5000, ↓mg_1, misa, ↓vm_aload_n, ↓vm_bipush, ↓vm_getfield, ↓vm_goto, ↓vm_iadd, ↓vm_iconst, ↓vm_ifCond_ne, ↓vm_if_icmp_ge, ↓vm_if_icmp_le, ↓vm_iinc, ↓vm_iload_n, ↓vm_invokestatic, ↓vm_invokevirtual, ↓vm_ireturn, ↓vm_istore_n, ↓vm_sipush, ↓xc_1, ↓xc_2, ↓xc_3, ↓tbX8_pass_0, ↓tbX8_pass_1, ↓tbX8_pass_2, ↓tbX8_pass_3, ↓tbX8_pass_5, ↓tbX8_pass_8, ↓tbX8_pass_11, ↓tbX8_pass_12, ↓tbX8_pass_15, ↓tbX8_pass_16, ↓tbX8_pass_19, ↓tbX8_pass_20, ↓tbX8_pass_21, ↓tbX8_pass_24, ↓tbX8_pass_27, ↓tbX8_pass_28, ↓tbX8_pass_31, ↓tbX8_pass_32, ↓tbX8_pass_35, ↓tbX8_pass_38, ↓tbX8_pass_39, ↓tbX8_pass_40, ↓tbX8_pass_41, ↓tbX8_pass_42, ↓tbX8_pass_43, ↓tbX8_pass_44, ↓tbX8_pass_47, ↓tbX8_pass_48, ↓tbX8_pass_51, ↓tbX8_pass_54, ↓tbX8_pass_57, ↓tbX8_pass_58, ↓tbX8_pass_61, hfu, xstep0, xJ1_hit, xJ1_go, xJ2_hit1, xJ2_hit2, xJ2_go, ↓xif_t, ↓xif_f, seval, ↓xca_eq, ↓xre_l, ↓xre_r, xmask_t, xmask_f, xmask_nil, ↓xst_eq, xX_eq, eI_eq, eMc_eq, eMs_eq, eF_eq, eThr_eq, ↓xS1_mk, ↓xSI_mk, ↓xSR_mk, ↓xLI_0, ↓xLI_s, ↓xLR_0, ↓xLR_s, vRef_ref, vRef_null, vRef_rf, cat_int, cat_ref, cat_null, cat_rf, rf_some, rf_none, rf_null, rf_eq, rf_ref, ref_rf, ref_null, ref_ref, xOk_0, xOk_1, xOk_2r, xOk_2n, xOk_2f, vOpt_rf, vOpt_ref, vOpt_null, List.set_cons_zero, List.set_cons_succ, List.take_succ_cons, List.take_zero, List.drop_succ_cons, List.drop_zero, List.reverse_cons, List.reverse_nil, List.nil_append, List.cons_append, List.append_nil, List.length_cons, List.length_nil, List.map_cons, List.map_nil, List.sum_cons, List.sum_nil, Option.toList_some, Option.toList_none, xRecv_mk, true_and, and_true, true_implies, Nat.reduceAdd, Nat.reduceLeDiff, Nat.zero_le, Nat.le_refl, Nat.add_zero, Nat.zero_add, reduceIte, not_true_eq_false, not_false_eq_true, false_implies, and_self, implies_true, eq_self, Nat.reduceEqDiff, List.cons.injEq, xsn_1, xsn_2, false_and, and_false, or_false, false_or, or_true, true_or, xsn_3, xsn_4, mAst_1, mAst_2, mSet_1, mSet_2, bi_0, ↓spwX8_in, spcX8_in, ↓spwX8_holds, spcX8_holds, ↓spwX8_hour, spcX8_hour, c, d2]
      try simp only [xif_e]
      repeat' (first | rfl | apply And.intro)
  · rw [if_pos c] at h
    refine xgo hG (mb := []) (head := 42) (P := fun _ _ _ _ _ => False) (fun _ _ _ _ _ q => q.elim) (pc := 0) (fun fu hfu => ?_)
    simp only [↓callX8_pass_0, ↓callX8_pass_1, ↓callX8_pass_2, kb_48, kc_48, ki_0, ki_1, ki_2, ks_5000, kt_5000, ↓mg_1, misa, ↓vm_aload_n, ↓vm_bipush, ↓vm_getfield, ↓vm_goto, ↓vm_iadd, ↓vm_iconst, ↓vm_ifCond_ne, ↓vm_if_icmp_ge, ↓vm_if_icmp_le, ↓vm_iinc, ↓vm_iload_n, ↓vm_invokestatic, ↓vm_invokevirtual, ↓vm_ireturn, ↓vm_istore_n, ↓vm_sipush, ↓xc_1, ↓xc_2, ↓xc_3, ↓tbX8_pass_0, ↓tbX8_pass_1, ↓tbX8_pass_2, ↓tbX8_pass_3, ↓tbX8_pass_5, ↓tbX8_pass_8, ↓tbX8_pass_11, ↓tbX8_pass_12, ↓tbX8_pass_15, ↓tbX8_pass_16, ↓tbX8_pass_19, ↓tbX8_pass_20, ↓tbX8_pass_21, ↓tbX8_pass_24, ↓tbX8_pass_27, ↓tbX8_pass_28, ↓tbX8_pass_31, ↓tbX8_pass_32, ↓tbX8_pass_35, ↓tbX8_pass_38, ↓tbX8_pass_39, ↓tbX8_pass_40, ↓tbX8_pass_41, ↓tbX8_pass_42, ↓tbX8_pass_43, ↓tbX8_pass_44, ↓tbX8_pass_47, ↓tbX8_pass_48, ↓tbX8_pass_51, ↓tbX8_pass_54, ↓tbX8_pass_57, ↓tbX8_pass_58, ↓tbX8_pass_61, hfu, xstep0, xJ1_hit, xJ1_go, xJ2_hit1, xJ2_hit2, xJ2_go, ↓xif_t, ↓xif_f, seval, ↓xca_eq, ↓xre_l, ↓xre_r, xmask_t, xmask_f, xmask_nil, ↓xst_eq, xX_eq, eI_eq, eMc_eq, eMs_eq, eF_eq, eThr_eq, ↓xS1_mk, ↓xSI_mk, ↓xSR_mk, ↓xLI_0, ↓xLI_s, ↓xLR_0, ↓xLR_s, vRef_ref, vRef_null, vRef_rf, cat_int, cat_ref, cat_null, cat_rf, rf_some, rf_none, rf_null, rf_eq, rf_ref, ref_rf, ref_null, ref_ref, xOk_0, xOk_1, xOk_2r, xOk_2n, xOk_2f, vOpt_rf, vOpt_ref, vOpt_null, List.set_cons_zero, List.set_cons_succ, List.take_succ_cons, List.take_zero, List.drop_succ_cons, List.drop_zero, List.reverse_cons, List.reverse_nil, List.nil_append, List.cons_append, List.append_nil, List.length_cons, List.length_nil, List.map_cons, List.map_nil, List.sum_cons, List.sum_nil, Option.toList_some, Option.toList_none, xRecv_mk, true_and, and_true, true_implies, Nat.reduceAdd, Nat.reduceLeDiff, Nat.zero_le, Nat.le_refl, Nat.add_zero, Nat.zero_add, reduceIte, not_true_eq_false, not_false_eq_true, false_implies, and_self, implies_true, eq_self, Nat.reduceEqDiff, List.cons.injEq, xsn_1, xsn_2, false_and, and_false, or_false, false_or, or_true, true_or, xsn_3, xsn_4, mAst_1, mAst_2, mSet_1, mSet_2, bi_0, ↓spwX8_in, spcX8_in, ↓spwX8_holds, spcX8_holds, ↓spwX8_hour, spcX8_hour]
    try simp only [xif_e]
    repeat' (first | with_reducible apply And.intro | with_reducible intro _)
    all_goals grind [bi]
